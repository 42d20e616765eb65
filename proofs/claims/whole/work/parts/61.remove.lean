set_option maxHeartbeats 4000000 in
theorem removeE {g : Nat} (hg : 50 < g) {S R : Mem} (hI : INV S R) (key : Int32) : ∃ v S' R', f_X4_remove g S key = some (v, S') ∧ f_X5_remove g R key = some (v, R') ∧ INV S' R' := by
  obtain ⟨P, rt, h, L, hMD, T, h3, hcn, hrS, hrR, hent, hcur⟩ := hI
  have hs0 : smX [0] R (up (up R 0 0 0) 0 19 0) := (smX.rf.up _ _ (by decide)).up _ _ (by decide)
  have h00 : ∀ j, j ≠ 0 → j ≠ 19 → (up (up R 0 0 0) 0 19 0).1 0 j = R.1 0 j := fun j h0 h19 => by simp only [upA]; simp [h0, h19]
  have hMD0 : MD S (up (up R 0 0 0) 0 19 0) P [] [] := hMD.sm (l := []) smX.rf (by simp) hs0 (by simp) (fun j hj => h00 j (by omega) (by omega))
  obtain ⟨S2, R2, a1, a2, a3, a4, a5, a6, a7, a8⟩ := startE hg hMD0 T h3 hrS (by rw [h00 6 (by decide) (by decide)]; exact hrR) key
  have hR2 : ∀ j, j ≠ 0 → j ≠ 8 → j ≠ 19 → R2.1 0 j = R.1 0 j := fun j h0 h8 h19 => by rw [a8 j h8, h00 j h0 h19]
  have hR219 : R2.1 0 19 = 0 := by rw [a8 19 (by decide), upS]
  obtain ⟨q, hq⟩ : ∃ q, q = (wy P rt key h).1 := ⟨_, rfl⟩
  have q40 : q < 40 := by rw [hq]; exact T.w40 key (Nat.le_refl _)
  have hkq : (P q).1 = 1 := by rw [hq, T.wkind key (Nat.le_refl _), if_pos rfl]
  have hleaf : f_X3_leaf g S2 = some (nI q) := by rw [c_leaf a4 (by omega), hq]
  obtain ⟨i, hi⟩ : ∃ i, i = plc key (P q).2.1 := ⟨_, rfl⟩
  have hile : i ≤ (P q).2.1.length := by rw [hi]; exact plc_le _ _
  have hpc : f_X0_placeOf g S2 (nI q) key = some (nI i) := by rw [hi]; exact c_pl (by omega) a3.1 key q40
  have hhc := c_has (g := g) a3.1 key q40 hile
  obtain ⟨cq1, cq2⟩ := hcn q q40 (by rw [hkq]; decide)
  have hs2 : smX [0] S2 (up S2 0 6 (-1)) := smX.rf.up _ _ (by decide)
  have hMD3 : MD (up S2 0 6 (-1)) R2 P [] [] := a3.sm hs2 (by simp) (l' := []) smX.rf (by simp) (fun j hj => rfl)
  obtain ⟨S12, R4, pl, b1, b2, b3, b4, b5, b6, b7, b8, b9⟩ := twMD hg hMD3 T h3 (a4.sm hs2 (by decide)) a5
  have hw6 : R4.1 6 h = nI q := by rw [(b5.2 h (Nat.le_refl _)).1, hq]
  have hpm : f_X5_placeOf g R4 key = some (nI i) := by rw [hi]; exact m_pl (by omega) b3.2.1 key q40 (show h < 50 by omega) b5.1 hw6
  have hhm := m_at (g := g) b3.2.1 key q40 (show h < 50 by omega) b5.1 hw6 hile
  have hqpl : q ∈ pl := (b9 q).mpr ⟨h, Nat.le_refl _, hq⟩
  have hS12 : ∀ j, S12.1 0 j = (up S2 0 6 (-1)).1 0 j := fun j => by rw [b6.2 0 (by decide)]
  have hR4 : ∀ j, j ≠ 15 → j ≠ 16 → j ≠ 17 → j ≠ 18 → R4.1 0 j = R2.1 0 j := fun j h15 h16 h17 h18 => b7.2 j h15 h16 h17 h18
  by_cases hb : hasB (P q).2.1 i key = true
  · rw [if_pos hb] at hhc hhm
    obtain ⟨X, v, Y, hl, hXl⟩ := hasB_iff hb
    obtain ⟨S20, d1, d2, d3⟩ := c_del (g := g) (by omega) b3.1 (p := q) (X := X) (Y := Y) (z := (key, v)) q40 hl
    obtain ⟨R17, e1, e2, e3⟩ := m_del (g := g) (by omega) b3.2.1 (p := q) (X := X) (Y := Y) (z := (key, v)) q40 hl
    obtain ⟨P1, hP1⟩ : ∃ P1, P1 = sp P q ((P q).1, X ++ Y, (P q).2.2) := ⟨_, rfl⟩
    rw [← hP1] at d2 e2
    have p1q : P1 q = ((P q).1, X ++ Y, (P q).2.2) := by rw [hP1, sp_s]
    have p1n : ∀ y, y ≠ q → P1 y = P y := fun y hy => by rw [hP1, sp_n _ _ hy]
    have hMD20 : MD S20 R17 P1 pl [] := b3.pages d2 e2 (d3.wk (by simp)) (e3.wk (by simp)) (fun y hy => by rw [hP1]; exact sp_k (by simp only; rw [hkq]; decide) hy)
    obtain ⟨S22, R20, c1, c2, c3, c4, c5⟩ := markMD (g := g) (by omega) hMD20 hqpl
    have T1 : TI P1 rt h L := by
      obtain ⟨U, lo, V, hL, hlo, hV⟩ := T.way key h (Nat.le_refl _)
      rw [← hq] at hL
      rw [hP1]
      refine T.leaf hL ?_
      have hpw := T.2.2.2.2.1
      rw [hL, List.flatMap_append, List.flatMap_cons, lk_eq, hl] at hpw
      show (U.flatMap (lk P) ++ ((2 * lo - 1) :: (X ++ Y).map k2) ++ V.flatMap (lk P)).Pairwise (· < ·)
      have := pwD (l1 := U.flatMap (lk P) ++ (2 * lo - 1) :: X.map k2) (w := k2 (key, v)) (l2 := Y.map k2 ++ V.flatMap (lk P)) (by simpa [List.append_assoc] using hpw)
      simpa [List.append_assoc] using this
    have hs5 : smX [0] S22 (up S22 0 5 (S22.1 0 5 - 1)) := smX.rf.up _ _ (by decide)
    have hs6 : smX [0] R20 (up R20 0 7 (R20.1 0 7 - 1)) := smX.rf.up _ _ (by decide)
    have hMD24 : MD (up S22 0 5 (S22.1 0 5 - 1)) (up R20 0 7 (R20.1 0 7 - 1)) P1 pl [] := c3.sm hs5 (by simp) hs6 (by simp) (fun j hj => by rw [upA, if_neg (by omega)])
    have hC24 : WC (up S22 0 5 (S22.1 0 5 - 1)) (wy P rt key) h := ((b4.sm d3 (by decide)).sm c4 (by decide)).sm hs5 (by decide)
    have hW17 : WM R17 (wy P rt key) h := b5.sm e3 (by rw [e3.2 0 (by decide)]) (by decide)
    have hW24 : WM (up R20 0 7 (R20.1 0 7 - 1)) (wy P rt key) h := (hW17.sm c5 (by rw [c5.2 0 (by decide)]) (by decide)).sm hs6 (by rw [upA, if_neg (by simp)]) (by decide)
    have hS24 : ∀ j, j ≠ 5 → (up S22 0 5 (S22.1 0 5 - 1)).1 0 j = (up S2 0 6 (-1)).1 0 j := fun j hj => by rw [upA, if_neg (by simp [hj]), c4.2 0 (by decide), d3.2 0 (by decide), hS12 j]
    have hR24 : ∀ j, j ≠ 7 → j ≠ 15 → j ≠ 16 → j ≠ 17 → j ≠ 18 → (up R20 0 7 (R20.1 0 7 - 1)).1 0 j = R2.1 0 j := fun j h7 h15 h16 h17 h18 => by rw [upA, if_neg (by simp [h7]), c5.2 0 (by decide), e3.2 0 (by decide), hR4 j h15 h16 h17 h18]
    have hwq : ∀ k, k < h → (wy P rt key k).1 ≠ q := fun k hk e => by
      have := T.winj key (show k ≤ h by omega) (Nat.le_refl h) (e.trans hq)
      omega
    have hl1 : (P1 q).2.1.length + 1 = (P q).2.1.length := by rw [p1q, hl]; simp; omega
    have hrS24 : (up S22 0 5 (S22.1 0 5 - 1)).1 0 4 = nI rt := by rw [hS24 4 (by decide), upA, if_neg (by simp), a6.2 0 (by decide)]; exact hrS
    have hrR24 : (up R20 0 7 (R20.1 0 7 - 1)).1 0 6 = nI rt := by rw [hR24 6 (by decide) (by decide) (by decide) (by decide) (by decide), hR2 6 (by decide) (by decide) (by decide)]; exact hrR
    obtain ⟨kr, hkr⟩ : ∃ kr : Mem → Option (Int32 × Mem), kr = fun (S9 : Mem) => bd (f_X5_unpin g S9) (fun S12 => gd (iz (1 : Int32)) (some (1, S12))) := ⟨_, rfl⟩
    obtain ⟨S30, R30, P2, L2, pl2, u1, u2, u3, u4, u5, u6, u7, u8⟩ := mloop (g := g) (by omega) h3 (r8 := 1) (kx := fun (S27 : Mem) => gd (ix_in (S27.1 0 6) 40) (if (S27.1 1 (S27.1 0 6).toNatClampNeg) = 2 then (gd (ix_in (S27.1 0 6) 40) (if (S27.1 2 (S27.1 0 6).toNatClampNeg) = 1 then (gd (ix_in (5 * (S27.1 0 6)) 200) (bd (f_X5_release g (up S27 0 6 (S27.1 4 (5 * (S27.1 0 6)).toNatClampNeg)) (S27.1 0 6)) (fun S34 => kr S34))) else (kr S27))) else (kr S27))) h g g _ _ P1 L pl (Nat.le_refl _) (by omega) (by omega) hMD24 T1 hC24 hW24 rfl hrS24 (fun k hk => (T.way key k hk).mem) (fun k hk => by
        obtain ⟨X1, Y1, m1, x1, x2, -⟩ := T.wayS key hk
        exact ⟨X1, Y1, m1, by rw [p1n _ (hwq k hk)]; exact x1, x2⟩) (fun k hk => (b9 _).mpr ⟨k, hk, rfl⟩) (fun y hy => Or.inl ((b9 y).mp hy)) (fun y hy hn => by
        by_cases y1 : y = q
        · subst y1
          refine ⟨by omega, ?_⟩
          rcases cq2 with z | z
          · exact Or.inr (Or.inl ⟨hq, by omega⟩)
          · exact Or.inr (Or.inr z)
        · rw [p1n y y1] at hn ⊢
          obtain ⟨z1, z2⟩ := hcn y hy hn
          refine ⟨z1, ?_⟩
          rcases z2 with z2 | z2
          · exact Or.inl z2
          · exact Or.inr (Or.inr z2)) (by omega)
    obtain ⟨S31, R31, P3, rt3, h3', L3, pl3, v1, v2, v3, v4, v5, v6, v7, v8, v9, v10, v11, v12⟩ := lowerE (g := g) (by omega) u3 u4 u5 u6 (by rw [u7.2 0 (by decide)]; exact hrS24) (by rw [u8.2 6 (by decide) (by decide) (by decide) (by decide)]; exact hrR24) kr
    obtain ⟨S19, R16, f1, f2, f3, f4, f5⟩ := unpinMD (g := g) (by omega) v3
    have hS : ∀ j, j ≠ 4 → S19.1 0 j = (up S22 0 5 (S22.1 0 5 - 1)).1 0 j := fun j hj => by rw [f4.2 0 (by decide), v10 j hj, u7.2 0 (by decide)]
    have hRR : ∀ j, j ≠ 6 → j ≠ 15 → j ≠ 16 → j ≠ 17 → j ≠ 18 → R16.1 0 j = (up R20 0 7 (R20.1 0 7 - 1)).1 0 j := fun j h6 h15 h16 h17 h18 => by rw [f5.2 0 (by decide), v12 j h6 h15 h16 h17 h18, u8.2 j h15 h16 h17 h18]
    refine ⟨1, S19, R16, ?_, ?_, ⟨P3, rt3, h3', L3, f3, v4, by omega, v6, ?_, ?_, ?_, Or.inl ⟨?_, ?_⟩⟩⟩
    · unfold f_X4_remove
      rw [a1, bdS, hleaf, bdS, hpc, bdS, hhc, bdS]
      unfold f_X4_endCursor
      rw [bdS, b1, bdS]
      simp only [jn1]
      rw [if_neg (by decide), ← hXl, d1, bdS, c1, bdS]
      unfold f_X4_mendUpwards f_X3_length
      rw [bdS, hC24.1, nI_pred, u1, v1, bdS, bdS, f1, bdS, gdT (Or.inr rfl)]
    · unfold f_X5_remove
      rw [a2, bdS, b2, bdS, hpm, bdS, hhm, bdS]
      simp only [jn1]
      rw [if_neg (by decide), b5.1, gdI (by omega) (by decide)]
      simp only [nI_clamp (show h < 2 ^ 31 by omega), hw6]
      rw [← hXl, e1, bdS, hW17.1, gdI (by omega) (by decide)]
      simp only [nI_clamp (show h < 2 ^ 31 by omega), (hW17.2 h (Nat.le_refl _)).1, ← hq, c2, bdS]
      rw [hW24.1]
      rw [hkr] at u2 v2
      refine u2.trans (v2.trans ?_)
      simp only [f2, bdS]
      rw [gdT (Or.inr rfl)]
    · rw [f4.2 0 (by decide)]; exact v7
    · rw [f5.2 0 (by decide)]; exact v8
    · rw [hS 5 (by decide), hRR 7 (by decide) (by decide) (by decide) (by decide) (by decide), upS, upS, c4.2 0 (by decide), d3.2 0 (by decide), hS12 5, upA, if_neg (by simp), a6.2 0 (by decide), c5.2 0 (by decide), e3.2 0 (by decide), hR4 7 (by decide) (by decide) (by decide) (by decide), hR2 7 (by decide) (by decide) (by decide), hent]
    · rw [hS 6 (by decide), hS24 6 (by decide), upS]
    · rw [hRR 19 (by decide) (by decide) (by decide) (by decide) (by decide), hR24 19 (by decide) (by decide) (by decide) (by decide) (by decide)]; exact hR219
  · rw [if_neg hb] at hhc hhm
    obtain ⟨S19, R16, f1, f2, f3, f4, f5⟩ := unpinMD (g := g) (by omega) b3
    refine ⟨0, S19, R16, ?_, ?_, ⟨P, rt, h, L, f3, T, h3, hcn, ?_, ?_, ?_, Or.inl ⟨?_, ?_⟩⟩⟩
    · unfold f_X4_remove
      rw [a1, bdS, hleaf, bdS, hpc, bdS, hhc, bdS]
      unfold f_X4_endCursor
      rw [bdS, b1, bdS]
      simp only [jn1]
      rw [if_pos trivial, f1, bdS, gdT (Or.inl rfl)]
    · unfold f_X5_remove
      rw [a2, bdS, b2, bdS, hpm, bdS, hhm, bdS]
      simp only [jn1]
      rw [if_pos trivial, f2, bdS, gdT (Or.inl rfl)]
    · rw [f4.2 0 (by decide), hS12, upA, if_neg (by simp), a6.2 0 (by decide)]; exact hrS
    · rw [f5.2 0 (by decide), hR4 6 (by decide) (by decide) (by decide) (by decide), hR2 6 (by decide) (by decide) (by decide)]; exact hrR
    · rw [f4.2 0 (by decide), hS12, upA, if_neg (by simp), a6.2 0 (by decide), f5.2 0 (by decide), hR4 7 (by decide) (by decide) (by decide) (by decide), hR2 7 (by decide) (by decide) (by decide)]; exact hent
    · rw [f4.2 0 (by decide), hS12, upS]
    · rw [f5.2 0 (by decide), hR4 19 (by decide) (by decide) (by decide) (by decide)]; exact hR219
