set_option maxHeartbeats 4000000 in
theorem putE {g : Nat} (hg : 50 < g) {S R : Mem} (hI : INV S R) (key value : Int32) : ∃ e v v' S' R', f_X4_put g S key value = some ((e, v), S') ∧ f_X5_put g R key value = some (v', R') ∧ INV S' R' ∧ ((e = 0 ∧ R'.1 0 0 = 0 ∧ v' = v ∧ iz v) ∨ (e = 1 ∧ R'.1 0 0 = 1)) := by
  obtain ⟨P, rt, h, L, hMD, T, h3, hcn, hrS, hrR, hent, hcur⟩ := hI
  have hs0 : smX [0] R (up R 0 0 0) := smX.rf.up _ _ (by decide)
  have hMD0 : MD S (up R 0 0 0) P [] [] := hMD.sm (l := []) smX.rf (by simp) hs0 (by simp) (fun j hj => by rw [upA, if_neg (by omega)])
  obtain ⟨S2, R2, a1, a2, a3, a4, a5, a6, a7, a8⟩ := startE hg hMD0 T h3 hrS (by rw [upA, if_neg (by simp)]; exact hrR) key
  have hR2 : ∀ j, j ≠ 0 → j ≠ 8 → R2.1 0 j = R.1 0 j := fun j h0 h8 => by rw [a8 j h8, upA, if_neg (by simp [h0])]
  have hR20 : R2.1 0 0 = 0 := by rw [a8 0 (by decide), upS]
  obtain ⟨q, hq⟩ : ∃ q, q = (wy P rt key h).1 := ⟨_, rfl⟩
  have q40 : q < 40 := by rw [hq]; exact T.w40 key (Nat.le_refl _)
  have hkq : (P q).1 = 1 := by rw [hq, T.wkind key (Nat.le_refl _), if_pos rfl]
  have hleaf : f_X3_leaf g S2 = some (nI q) := by rw [c_leaf a4 (by omega), hq]
  have hw6 : R2.1 6 h = nI q := by rw [(a5.2 h (Nat.le_refl _)).1, hq]
  obtain ⟨i, hi⟩ : ∃ i, i = plc key (P q).2.1 := ⟨_, rfl⟩
  have hile : i ≤ (P q).2.1.length := by rw [hi]; exact plc_le _ _
  have hpc : f_X0_placeOf g S2 (nI q) key = some (nI i) := by rw [hi]; exact c_pl (by omega) a3.1 key q40
  have hpm : f_X5_placeOf g R2 key = some (nI i) := by rw [hi]; exact m_pl (by omega) a3.2.1 key q40 (show h < 50 by omega) a5.1 hw6
  have hhc := c_has (g := g) a3.1 key q40 hile
  have hhm := m_at (g := g) a3.2.1 key q40 (show h < 50 by omega) a5.1 hw6 hile
  have hq5 := (hMD.1 q q40).2.2.2.1
  obtain ⟨cq1, cq2⟩ := hcn q q40 (by rw [hkq]; decide)
  have hw40 : ∀ k, k ≤ h → (wy P rt key k).1 < 40 := fun k hk => T.w40 key hk
  have hwnf : ∀ k, k ≤ h → (P (wy P rt key k).1).1 ≠ 0 := fun k hk => by
    rw [T.wkind key hk]
    by_cases e : k = h
    · rw [if_pos e]; decide
    · rw [if_neg e]; decide
  -- the way is touched, the leaf is marked
  have hs2 : smX [0] S2 (up S2 0 6 (-1)) := smX.rf.up _ _ (by decide)
  have hs3 : smX [0] R2 (up R2 0 19 0) := smX.rf.up _ _ (by decide)
  have hMD3 : MD (up S2 0 6 (-1)) (up R2 0 19 0) P [] [] := a3.sm hs2 (by simp) hs3 (by simp) (fun j hj => by rw [upA, if_neg (by omega)])
  obtain ⟨S13, R9, pl, b1, b2, b3, b4, b5, b6, b7, b8, b9⟩ := twMD hg hMD3 T h3 (a4.sm hs2 (by decide)) (a5.sm hs3 (by rw [upA, if_neg (by simp)]) (by decide))
  have hqpl : q ∈ pl := (b9 q).mpr ⟨h, Nat.le_refl _, hq⟩
  obtain ⟨S15, R12, c1, c2, c3, c4, c5⟩ := markMD (g := g) (by omega) b3 hqpl
  have hS15 : ∀ j, S15.1 0 j = (up S2 0 6 (-1)).1 0 j := fun j => by rw [c4.2 0 (by decide), b6.2 0 (by decide)]
  have hR12 : ∀ j, j ≠ 15 → j ≠ 16 → j ≠ 17 → j ≠ 18 → R12.1 0 j = (up R2 0 19 0).1 0 j := fun j h15 h16 h17 h18 => by rw [c5.2 0 (by decide), b7.2 j h15 h16 h17 h18]
  have hW9 : R9.1 6 h = nI q := by rw [(b5.2 h (Nat.le_refl _)).1, hq]
  by_cases hb : hasB (P q).2.1 i key = true
  · -- the key was there
    rw [if_pos hb] at hhc hhm
    obtain ⟨X, v, Y, hl, hXl⟩ := hasB_iff hb
    have hi5 : X.length < 5 := c3.1.i5 q40 (e := (key, v)) (show (P q).2.1[X.length]? = some (key, v) by rw [hl]; exact getX _ _ _)
    obtain ⟨S27, d1, d2, d3⟩ := c_setI (g := g) c3.1 (p := q) (X := X) (Y := Y) (m := key) (v := v) value q40 hl
    have d4 : RM (up R12 4 (5 * q + X.length) value) (sp P q ((P q).1, X ++ (key, value) :: Y, (P q).2.2)) := Rp.val c3.2.1 q40 hl (upN _ _ _ (by decide)) (upN _ _ _ (by decide)) (upN _ _ _ (by decide)) (upN _ _ _ (by decide)) (fun c => by rw [upA]; simp)
    have hs4 : smX [4] R12 (up R12 4 (5 * q + X.length) value) := smX.rf.up _ _ (by decide)
    have hMD27 : MD S27 (up R12 4 (5 * q + X.length) value) (sp P q ((P q).1, X ++ (key, value) :: Y, (P q).2.2)) pl [] := c3.pages d2 d4 (d3.wk (by simp)) (hs4.wk (by simp)) (fun y hy => sp_k (by simp only; rw [hkq]; decide) hy)
    obtain ⟨S19, R16, e1, e2, e3, e4, e5⟩ := unpinMD (g := g) (by omega) hMD27
    have T2 : TI (sp P q ((P q).1, X ++ (key, value) :: Y, (P q).2.2)) rt h L := by
      obtain ⟨U, lo, V, hL, hlo, hV⟩ := T.way key h (Nat.le_refl _)
      rw [← hq] at hL
      refine T.leaf hL ?_
      have hpw := T.2.2.2.2.1
      rw [hL, List.flatMap_append, List.flatMap_cons, lk_eq, hl] at hpw
      show (U.flatMap (lk P) ++ ((2 * lo - 1) :: (X ++ (key, value) :: Y).map k2) ++ V.flatMap (lk P)).Pairwise (· < ·)
      have : (X ++ (key, value) :: Y).map k2 = (X ++ (key, v) :: Y).map k2 := by simp [k2]
      rw [this]
      simpa [List.append_assoc] using hpw
    have hS : ∀ j, S19.1 0 j = (up S2 0 6 (-1)).1 0 j := fun j => by rw [e4.2 0 (by decide), d3.2 0 (by decide), hS15 j]
    have hRR : ∀ j, j ≠ 15 → j ≠ 16 → j ≠ 17 → j ≠ 18 → R16.1 0 j = (up R2 0 19 0).1 0 j := fun j h15 h16 h17 h18 => by rw [e5.2 0 (by decide), hs4.2 0 (by decide), hR12 j h15 h16 h17 h18]
    refine ⟨0, 0, 0, S19, R16, ?_, ?_, ⟨_, rt, h, L, e3, T2, h3, fun y hy hn => ?_, ?_, ?_, ?_, Or.inl ⟨?_, ?_⟩⟩, Or.inl ⟨rfl, ?_, rfl, Or.inl rfl⟩⟩
    · unfold f_X4_put
      rw [a1, bdS, hleaf, bdS, hpc, bdS, hhc, bdS]
      simp only [jn0, jn1]
      rw [if_neg (by decide)]
      unfold f_X4_endCursor
      rw [bdS, b1, bdS, c1, bdS, if_neg (by decide), ← hXl, d1, bdS, e1, bdS, if_neg (by decide)]
    · unfold f_X5_put
      rw [a2, bdS, hpm, bdS, hhm, bdS]
      simp only [jn0, jn1]
      rw [if_neg (by decide), b2, bdS, b5.1, gdI (by omega) (by decide)]
      simp only [nI_clamp (show h < 2 ^ 31 by omega), hW9, c2, bdS]
      rw [if_neg (by decide), nI_m5, nI_add, ← hXl, gdI (by omega) (by decide), nI_clamp (by omega), e2, bdS, if_neg (by decide)]
    · by_cases y1 : y = q
      · subst y1; rw [sp_s]
        rw [hl] at cq1 cq2
        simp at cq1 cq2 ⊢
        omega
      · rw [sp_n _ _ y1] at hn ⊢; exact hcn y hy hn
    · rw [hS, upA, if_neg (by simp), a6.2 0 (by decide)]; exact hrS
    · rw [hRR 6 (by decide) (by decide) (by decide) (by decide), upA, if_neg (by simp), hR2 6 (by decide) (by decide)]; exact hrR
    · rw [hS, upA, if_neg (by simp), a6.2 0 (by decide), hRR 7 (by decide) (by decide) (by decide) (by decide), upA, if_neg (by simp), hR2 7 (by decide) (by decide)]; exact hent
    · rw [hS, upS]
    · rw [hRR 19 (by decide) (by decide) (by decide) (by decide), upS]
    · rw [hRR 0 (by decide) (by decide) (by decide) (by decide), upA, if_neg (by simp)]; exact hR20
  · rw [if_neg hb] at hhc hhm
    have hwc := c_wq (g := g) (by omega) a3.1 (by omega) a4 hw40
    have hwm := m_wq (g := g) (by omega) a3.2.1 (by omega) a5 hw40 (fun k hk => (hcn _ (hw40 k hk) (hwnf k hk)).1)
    have hcf := c_cf hg a3.1
    have hiu := m_inu hg a3.2.1
    have hwle := wq_le P (wy P rt key) (h + 1)
    have hfle : fre P 40 0 ≤ 40 := cn_le _ _ _
    by_cases hroom : wq P (wy P rt key) (h + 1) ≤ fre P 40 0
    · -- a new entry
      obtain ⟨X, Y, hl, hXl, hX, hY⟩ := plc_spec key (P q).2.1
      rw [← hi] at hXl
      have hY' : ∀ z Y', Y = z :: Y' → key < z.1 := fun z Y' hYe => by
        have h1 := hY z Y' hYe
        have h2 : z.1 ≠ key := fun e => hb (by
          unfold hasB
          have : (P q).2.1[i]? = some z := by rw [hl, hYe, ← hXl]; exact getX _ _ _
          rw [this]
          simp [e])
        have h3' : key ≤ z.1 := Int32.not_lt.mp h1
        rw [Int32.le_iff_toInt_le] at h3'
        rw [Int32.lt_iff_toInt_lt]
        have : z.1.toInt ≠ key.toInt := fun e => h2 (Int32.toInt_inj.mp e)
        omega
      have hlen : (P q).2.1.length = X.length + Y.length := by rw [hl]; simp
      obtain ⟨S23, d1, d2, d3⟩ := c_ins (g := g) (by omega) c3.1 (p := q) (X := X) (Y := Y) key value q40 hl (by omega)
      obtain ⟨R20, e1, e2, e3⟩ := m_ins (g := g) (by omega) c3.2.1 (p := q) (X := X) (Y := Y) key value q40 hl (by omega)
      obtain ⟨P1, hP1⟩ : ∃ P1, P1 = sp P q ((P q).1, X ++ (key, value) :: Y, (P q).2.2) := ⟨_, rfl⟩
      rw [← hP1] at d2 e2
      have p1q : P1 q = ((P q).1, X ++ (key, value) :: Y, (P q).2.2) := by rw [hP1, sp_s]
      have p1n : ∀ y, y ≠ q → P1 y = P y := fun y hy => by rw [hP1, sp_n _ _ hy]
      have hMD23 : MD S23 R20 P1 pl [] := c3.pages d2 e2 (d3.wk (by simp)) (e3.wk (by simp)) (fun y hy => by rw [hP1]; exact sp_k (by simp only; rw [hkq]; decide) hy)
      have T1 : TI P1 rt h L := by
        rw [hP1]
        refine T.put ?_ hl hX hY'
        rw [hq]; exact T.way key h (Nat.le_refl _)
      have hs5 : smX [0] S23 (up S23 0 5 (S23.1 0 5 + 1)) := smX.rf.up _ _ (by decide)
      have hs6 : smX [0] R20 (up R20 0 7 (R20.1 0 7 + 1)) := smX.rf.up _ _ (by decide)
      have hMD24 : MD (up S23 0 5 (S23.1 0 5 + 1)) (up R20 0 7 (R20.1 0 7 + 1)) P1 pl [] := hMD23.sm hs5 (by simp) hs6 (by simp) (fun j hj => by rw [upA, if_neg (by omega)])
      have hC24 : WC (up S23 0 5 (S23.1 0 5 + 1)) (wy P rt key) h := ((b4.sm c4 (by decide)).sm d3 (by decide)).sm hs5 (by decide)
      have hW24 : WM (up R20 0 7 (R20.1 0 7 + 1)) (wy P rt key) h := ((b5.sm c5 (by rw [c5.2 0 (by decide)]) (by decide)).sm e3 (by rw [e3.2 0 (by decide)]) (by decide)).sm hs6 (by rw [upA, if_neg (by simp)]) (by decide)
      have hS24 : ∀ j, j ≠ 5 → (up S23 0 5 (S23.1 0 5 + 1)).1 0 j = (up S2 0 6 (-1)).1 0 j := fun j hj => by rw [upA, if_neg (by simp [hj]), d3.2 0 (by decide), hS15 j]
      have hR24 : ∀ j, j ≠ 7 → j ≠ 15 → j ≠ 16 → j ≠ 17 → j ≠ 18 → (up R20 0 7 (R20.1 0 7 + 1)).1 0 j = (up R2 0 19 0).1 0 j := fun j h7 h15 h16 h17 h18 => by rw [upA, if_neg (by simp [h7]), e3.2 0 (by decide), hR12 j h15 h16 h17 h18]
      have hwq : ∀ k, k < h → (wy P rt key k).1 ≠ q := fun k hk e => by
        have := T.winj key (show k ≤ h by omega) (Nat.le_refl h) (e.trans hq)
        omega
      have hfre : fre P1 40 0 = fre P 40 0 := fre_cg (fun y => by
        by_cases y1 : y = q
        · subst y1; rw [p1q]
        · rw [p1n y y1])
      have hwq1 : wq P1 (wy P rt key) h = wq P (wy P rt key) h := wq_cg h (fun k hk => p1n _ (hwq k hk))
      have hl1 : (P1 q).2.1.length = (P q).2.1.length + 1 := by rw [p1q, hl]; simp; omega
      obtain ⟨S25, R27, P', rt', h', L', pl', u1, u2, u3, u4, u5, u6, u7, u8, u9, u10, u11, u12⟩ := sloop hg h3 (r6 := 0) (kx := fun (S27 : Mem) => bd (f_X5_unpin g S27) (fun S16 => if (0 : Int32) = 0 then (some (1, S16)) else (some (0, S16)))) (h + 1) g g _ _ P1 rt L pl (Nat.le_refl _) (by omega) (by omega) hMD24 T1 hC24 hW24 rfl (by rw [hS24 4 (by decide), upA, if_neg (by simp), a6.2 0 (by decide)]; exact hrS) (by rw [hR24 6 (by decide) (by decide) (by decide) (by decide) (by decide), upA, if_neg (by simp), hR2 6 (by decide) (by decide)]; exact hrR) (fun k hk => (T.way key k (by omega)).mem) (fun k hk => by
          obtain ⟨X1, Y1, m1, x1, x2, -⟩ := T.wayS key (show k < h by omega)
          exact ⟨X1, Y1, m1, by rw [p1n _ (hwq k (by omega))]; exact x1, x2⟩) (fun k hk => (b9 _).mpr ⟨k, by omega, rfl⟩) (fun y hy hn => by
          by_cases y1 : y = q
          · subst y1
            refine ⟨Or.inr ⟨by omega, by rw [Nat.add_sub_cancel]; exact hq, by omega⟩, ?_⟩
            rcases cq2 with z | z
            · exact Or.inl (by omega)
            · exact Or.inr z
          · rw [p1n y y1] at hn ⊢
            obtain ⟨z1, z2⟩ := hcn y hy hn
            exact ⟨Or.inl z1, z2⟩) (fun d hd h5 => by
          have hdh : d = h := by omega
          subst hdh
          rw [← hq, hl1] at h5
          rw [hwq1, hfre]
          rw [wq, ← hq, if_pos (by omega)] at hroom
          omega) (by
          by_cases h2 : h ≤ 2
          · exact Or.inl h2
          · have hh3 : h = 3 := by omega
            subst hh3
            by_cases hfull : (P q).2.1.length ≤ 3
            · refine Or.inr (Or.inr (fun d hd => ?_))
              have hdh : d = 3 := by omega
              subst hdh
              rw [← hq, hl1]; omega
            · by_cases hex : ∃ k, k < 3 ∧ (P (wy P rt key k).1).2.1.length < 4
              · obtain ⟨k, k1, k2⟩ := hex
                exact Or.inr (Or.inl ⟨k, by omega, by rw [p1n _ (hwq k k1)]; exact k2⟩)
              · exfalso
                have hall : ∀ k, k < 3 → 4 ≤ (P (wy P rt key k).1).2.1.length := fun k hk => Classical.byContradiction (fun z => hex ⟨k, hk, by omega⟩)
                have hr := T.room hcn (w := wy P rt key) (fun k hk => (T.way key k hk).mem) (fun k hk => hall k (by omega))
                have hwf := wq_full (P := P) (w := wy P rt key) 4 (fun k hk => by
                  by_cases k3 : k = 3
                  · subst k3; rw [← hq]; omega
                  · exact hall k (by omega))
                rw [hwf] at hroom
                omega) (by omega)
      obtain ⟨S19, R16, f1, f2, f3, f4, f5⟩ := unpinMD (g := g) (by omega) u3
      have hS : ∀ j, j ≠ 4 → S19.1 0 j = (up S23 0 5 (S23.1 0 5 + 1)).1 0 j := fun j hj => by rw [f4.2 0 (by decide), u10 j hj]
      have hRR : ∀ j, j ≠ 6 → j ≠ 15 → j ≠ 16 → j ≠ 17 → j ≠ 18 → R16.1 0 j = (up R20 0 7 (R20.1 0 7 + 1)).1 0 j := fun j h6 h15 h16 h17 h18 => by rw [f5.2 0 (by decide), u12 j h6 h15 h16 h17 h18]
      refine ⟨0, 1, 1, S19, R16, ?_, ?_, ⟨P', rt', h', L', f3, u4, u5, u6, ?_, ?_, ?_, Or.inl ⟨?_, ?_⟩⟩, Or.inl ⟨rfl, ?_, rfl, Or.inr rfl⟩⟩
      · unfold f_X4_put
        rw [a1, bdS, hleaf, bdS, hpc, bdS, hhc, bdS]
        simp only [jn0, jn1]
        rw [if_pos trivial, hwc, bdS, hcf, bdS, if_pos (nI_leN (by omega) (by omega) hroom)]
        unfold f_X4_endCursor
        rw [bdS, b1, bdS, c1, bdS, if_pos trivial, ← hXl, d1, bdS]
        unfold f_X4_splitUpwards f_X3_length
        rw [bdS, hC24.1, nI_pred]
        rw [nI_dec] at u1
        rw [u1, bdS, f1, bdS, if_pos trivial]
      · unfold f_X5_put
        rw [a2, bdS, hpm, bdS, hhm, bdS]
        simp only [jn0, jn1]
        rw [if_pos trivial, hiu, bdS, hwm, bdS, nI_add, if_pos ((le_r (a := 40) 40 rfl (by decide) (by omega)).mpr (by omega)), b2, bdS, b5.1, gdI (by omega) (by decide)]
        simp only [nI_clamp (show h < 2 ^ 31 by omega), hW9, c2, bdS]
        rw [if_pos trivial, ← hXl, e1, bdS, hW24.1]
        rw [nI_dec] at u2
        refine u2.trans ?_
        simp only [f2, bdS, if_true]
      · rw [f4.2 0 (by decide)]; exact u7
      · rw [f5.2 0 (by decide)]; exact u8
      · rw [hS 5 (by decide), hRR 7 (by decide) (by decide) (by decide) (by decide) (by decide), upS, upS, d3.2 0 (by decide), hS15 5, upA, if_neg (by simp), a6.2 0 (by decide), e3.2 0 (by decide), hR12 7 (by decide) (by decide) (by decide) (by decide), upA, if_neg (by simp), hR2 7 (by decide) (by decide), hent]
      · rw [hS 6 (by decide), hS24 6 (by decide), upS]
      · rw [hRR 19 (by decide) (by decide) (by decide) (by decide) (by decide), hR24 19 (by decide) (by decide) (by decide) (by decide) (by decide), upS]
      · rw [hRR 0 (by decide) (by decide) (by decide) (by decide) (by decide), hR24 0 (by decide) (by decide) (by decide) (by decide) (by decide), upA, if_neg (by simp)]; exact hR20
    · -- more pages than there are
      have hs7 : smX [0] R2 (up R2 0 0 1) := smX.rf.up _ _ (by decide)
      refine ⟨1, 0, 0, S2, up R2 0 0 1, ?_, ?_, ⟨P, rt, h, L, a3.sm (l := []) smX.rf (by simp) hs7 (by simp) (fun j hj => by rw [upA, if_neg (by omega)]), T, h3, hcn, by rw [a6.2 0 (by decide)]; exact hrS, by rw [upA, if_neg (by simp), hR2 6 (by decide) (by decide)]; exact hrR, by rw [a6.2 0 (by decide), upA, if_neg (by simp), hR2 7 (by decide) (by decide)]; exact hent, hcur.sm (fun j _ _ => by rw [a6.2 0 (by decide)]) (fun j hj => by rw [upA, if_neg (by omega), hR2 j (by omega) (by omega)])⟩, Or.inr ⟨rfl, upS _ _ _ _⟩⟩
      · unfold f_X4_put
        rw [a1, bdS, hleaf, bdS, hpc, bdS, hhc, bdS]
        simp only [jn0, jn1]
        rw [if_pos trivial, hwc, bdS, hcf, bdS, if_neg (nI_nleN (by omega) (by omega) (by omega))]
      · unfold f_X5_put
        rw [a2, bdS, hpm, bdS, hhm, bdS]
        simp only [jn0, jn1]
        rw [if_pos trivial, hiu, bdS, hwm, bdS, nI_add, if_neg (fun z => by have := (le_r (a := 40) 40 rfl (by decide) (by omega)).mp z; omega)]
