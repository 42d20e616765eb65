theorem twMD {g : Nat} (hg : 50 < g) {S R : Mem} {P : Nat → Pg} {rt h : Nat} {L : Nat → Lev} (hMD : MD S R P [] []) (T : TI P rt h L) (h3 : h ≤ 3) {key : Int32} (hC : WC S (wy P rt key) h) (hW : WM R (wy P rt key) h) : ∃ S' R' pl, f_X4_touchWay g S = some S' ∧ f_X5_touchWay g R = some R' ∧ MD S' R' P pl [] ∧ WC S' (wy P rt key) h ∧ WM R' (wy P rt key) h ∧ smX [7, 8, 9, 10, 11] S S' ∧ smR R R' ∧ pl.length = h + 1 ∧ (∀ q, q ∈ pl ↔ ∃ k, k ≤ h ∧ q = (wy P rt key k).1) := by
  obtain ⟨S11, R11, pl, b1, b2, b3, b4, b5, b6, b7, b8, b9⟩ := twE (g := g) (by omega) (by omega) (fun k hk => T.w40 key hk) (fun k j hk hj => T.winj key hk hj) hMD.2.2.1 hMD.2.2.2.1 hC hW
  refine ⟨S11, R11, pl, b1, b2, ⟨hMD.1.sm b5 (by decide), hMD.2.1.sm b6.1 (by decide), b3, b4, fun t ht y hy e => ?_⟩, hC.sm b5 (by decide), hW.sm b6.1 (b6.2 8 (by decide) (by decide) (by decide) (by decide)) (by simp), b5, b6, b7, b8⟩
  rcases b9 t ht with z | ⟨k, k1, z⟩
  · exact hMD.2.2.2.2 t ht y hy (z ▸ e)
  · rw [z] at e
    have hk40 := T.w40 key k1
    rw [← nI_inj (by omega) (by omega) e, T.wkind key k1]
    by_cases q' : k = h
    · rw [if_pos q']; decide
    · rw [if_neg q']; decide
def cmA (g : Nat) (S3 : Mem) (v4 v5 : Int32) : Option (Int32 × Mem) := jn0 (bd (f_X4_endCursor g S3) (fun S9 => some (0, S9))) (fun j7 => if v4 = ((-1)) then (j7) else (bd (f_X0_countOf g S3 v4) (fun r12 => if v5 < r12 then (bd (f_X0_keyAt g (up (up S3 0 6 v4) 0 7 v5) v4 v5) (fun r15 => bd (f_X0_secondAt g (up (up (up S3 0 6 v4) 0 7 v5) 0 8 r15) v4 v5) (fun r17 => some (1, (up (up (up (up S3 0 6 v4) 0 7 v5) 0 8 r15) 0 9 r17))))) else (j7))))
theorem c_move_eq (g : Nat) (S : Mem) (a1 a2 : Int32) : f_X4_moveCursor g S a1 a2 = bd (f_X0_countOf g S a1) (fun r2 => if a2 < r2 then cmA g S a1 a2 else (bd (f_X0_leafAfter g S a1) (fun r20 => if r20 = ((-1)) then cmA g S r20 0 else (bd (f_X1_touch g S r20 0) (fun S23 => cmA g S23 r20 0))))) := rfl
def mmA (g : Nat) (S2 : Mem) (v3 v4 : Int32) : Option (Int32 × Mem) := bd (f_X5_unpin g S2) (fun S7 => jn1 (fun (t8 : Int32) => gd (iz t8) (jn1 (fun (S11 : Mem) => gd (iz (S11.1 0 19)) (some (S11.1 0 19, S11))) (fun j12 => if ((up S7 0 19 t8).1 0 19) = 0 then (j12 (up S7 0 19 t8)) else (gd (ix_in ((5 * v3) + v4) 200) (gd (ix_in ((5 * v3) + v4) 200) (j12 (up (up (up (up (up S7 0 19 t8) 0 20 v3) 0 21 v4) 0 22 ((up (up (up S7 0 19 t8) 0 20 v3) 0 21 v4).1 3 ((5 * v3) + v4).toNatClampNeg)) 0 23 ((up (up (up (up S7 0 19 t8) 0 20 v3) 0 21 v4) 0 22 ((up (up (up S7 0 19 t8) 0 20 v3) 0 21 v4).1 3 ((5 * v3) + v4).toNatClampNeg)).1 4 ((5 * v3) + v4).toNatClampNeg)))))))) (fun j9 => jn0 (j9 0) (fun j17 => if v3 = ((-1)) then (j17) else (gd (ix_in v3 40) (if (S7.1 2 v3.toNatClampNeg) ≤ v4 then (j17) else (j9 1))))))
theorem m_arr_eq (g : Nat) (S : Mem) (a1 a2 : Int32) : f_X5_arrive g S a1 a2 = gd (ix_in a1 40) (if a2 < (S.1 2 a1.toNatClampNeg) then mmA g S a1 a2 else (gd (ix_in a1 40) (if (S.1 5 a1.toNatClampNeg) = ((-1)) then mmA g S (S.1 5 a1.toNatClampNeg) 0 else (bd (f_X5_touch g S (S.1 5 a1.toNatClampNeg) 0) (fun S25 => mmA g S25 (S.1 5 a1.toNatClampNeg) 0))))) := rfl
theorem arrOff {g : Nat} (hg : 50 < g) {S R : Mem} {P : Nat → Pg} {pl : List Nat} (hMD : MD S R P pl []) {v4 v5 : Int32} (h : v4 = -1 ∨ ∃ q i, q < 40 ∧ i < 2 ^ 31 ∧ v4 = nI q ∧ v5 = nI i ∧ (P q).2.1.length ≤ i) : ∃ S' R', (∀ (β : Type) (K : Int32 → Mem → Option β), bd2 (cmA g S v4 v5) (fun r S6 => bd (f_X1_unpinAll g S6) (fun S8 => K r S8)) = K 0 S') ∧ mmA g R v4 v5 = some (0, R') ∧ MD S' R' P [] [] ∧ CUR S' R' P ∧ (∀ j, j < 6 → S'.1 0 j = S.1 0 j) ∧ (∀ j, j < 19 → R'.1 0 j = R.1 0 j) := by
  have hs0 : smX [0] S (up S 0 6 (-1)) := smX.rf.up _ _ (by decide)
  have hMD0 : MD (up S 0 6 (-1)) R P pl [] := hMD.sm hs0 (by simp) (l' := []) smX.rf (by simp) (fun _ _ => rfl)
  obtain ⟨S', R', a1, a2, a3, a4, a5⟩ := unpinMD (g := g) (by omega) hMD0
  have hs1 : smX [0] R' (up R' 0 19 0) := smX.rf.up _ _ (by decide)
  refine ⟨S', up R' 0 19 0, ?_, ?_, a3.sm (l := []) smX.rf (by simp) hs1 (by simp) (fun j hj => by rw [upA, if_neg (by omega)]), Or.inl ⟨?_, upS _ _ _ _⟩, fun j hj => ?_, fun j hj => ?_⟩
  · intro β K
    have : cmA g S v4 v5 = some (0, up S 0 6 (-1)) := by
      unfold cmA f_X4_endCursor
      simp only [jn0, bdS]
      rcases h with h | ⟨q, i, q40, i31, h1, h2, h3⟩
      · rw [if_pos h]
      · have := (hMD.1 q q40).2.2.2.1
        rw [h1, if_neg (nI_m1 (by omega)), c_count hMD.1 q40, bdS, h2, if_neg (nI_nltN (by omega) (by omega) h3)]
    rw [this, bd2S, a1, bdS]
  · unfold mmA
    rw [a2, bdS]
    simp only [jn0, jn1]
    have hoff : (gd (iz (0 : Int32)) (if (up R' 0 19 0).1 0 19 = 0 then gd (iz ((up R' 0 19 0).1 0 19)) (some ((up R' 0 19 0).1 0 19, up R' 0 19 0)) else none)) = some (0, up R' 0 19 0) := by
      rw [upS, gdT (Or.inl rfl), if_pos rfl, gdT (Or.inl rfl)]
    rcases h with h | ⟨q, i, q40, i31, h1, h2, h3⟩
    · rw [if_pos h]
      simp only [upS, if_true]
      rw [gdT (Or.inl rfl), gdT (Or.inl rfl)]
    · have h5 := (hMD.1 q q40).2.2.2.1
      rw [h1, if_neg (nI_m1 (by omega)), gdI q40 (by decide), nI_clamp (show q < 2 ^ 31 by omega), (a3.2.1 q q40).2.1, h2, if_pos (nI_leN (by omega) (by omega) h3)]
      simp only [upS, if_true]
      rw [gdT (Or.inl rfl), gdT (Or.inl rfl)]
  · rw [a4.2 0 (by decide), upS]
  · rw [a4.2 0 (by decide), upA, if_neg (by omega)]
  · rw [upA, if_neg (by omega), a5.2 0 (by decide)]
theorem arrOn {g : Nat} (hg : 50 < g) {S R : Mem} {P : Nat → Pg} {pl : List Nat} (hMD : MD S R P pl []) {q i : Nat} (q40 : q < 40) (hk : (P q).1 = 1) (hi : i < (P q).2.1.length) : ∃ S' R', (∀ (β : Type) (K : Int32 → Mem → Option β), bd2 (cmA g S (nI q) (nI i)) (fun r S6 => bd (f_X1_unpinAll g S6) (fun S8 => K r S8)) = K 1 S') ∧ mmA g R (nI q) (nI i) = some (1, R') ∧ MD S' R' P [] [] ∧ CUR S' R' P ∧ (∀ j, j < 6 → S'.1 0 j = S.1 0 j) ∧ (∀ j, j < 19 → R'.1 0 j = R.1 0 j) := by
  obtain ⟨e, he⟩ : ∃ e, (P q).2.1[i]? = some e := ⟨_, List.getElem?_eq_getElem hi⟩
  have h5 := (hMD.1 q q40).2.2.2.1
  obtain ⟨S1, hS1⟩ : ∃ S1, S1 = up (up (up (up S 0 6 (nI q)) 0 7 (nI i)) 0 8 e.1) 0 9 e.2 := ⟨_, rfl⟩
  have hs0 : smX [0] S S1 := by rw [hS1]; exact (((smX.rf.up _ _ (by decide)).up _ _ (by decide)).up _ _ (by decide)).up _ _ (by decide)
  have hMD0 : MD S1 R P pl [] := hMD.sm hs0 (by simp) (l' := []) smX.rf (by simp) (fun _ _ => rfl)
  obtain ⟨S', R', a1, a2, a3, a4, a5⟩ := unpinMD (g := g) (by omega) hMD0
  obtain ⟨R1, hR1⟩ : ∃ R1, R1 = up (up (up (up (up R' 0 19 1) 0 20 (nI q)) 0 21 (nI i)) 0 22 e.1) 0 23 e.2 := ⟨_, rfl⟩
  have hs1 : smX [0] R' R1 := by rw [hR1]; exact ((((smX.rf.up _ _ (by decide)).up _ _ (by decide)).up _ _ (by decide)).up _ _ (by decide)).up _ _ (by decide)
  have hR0 : ∀ j, j < 19 → R1.1 0 j = R'.1 0 j := fun j hj => by
    rw [hR1]; simp only [upA]
    simp [show j ≠ 19 by omega, show j ≠ 20 by omega, show j ≠ 21 by omega, show j ≠ 22 by omega, show j ≠ 23 by omega]
  refine ⟨S', R1, ?_, ?_, a3.sm (l := []) smX.rf (by simp) hs1 (by simp) (fun j hj => hR0 j (by omega)), Or.inr ⟨q, i, q40, by omega, hk, ?_, ?_, ?_, ?_, ?_, ?_, ?_⟩, fun j hj => ?_, fun j hj => ?_⟩
  · intro β K
    have : cmA g S (nI q) (nI i) = some (1, S1) := by
      unfold cmA
      simp only [jn0]
      have m1 : RC (up (up S 0 6 (nI q)) 0 7 (nI i)) P := hMD.1.sm (l := [0]) ((smX.rf.up _ _ (by decide)).up _ _ (by decide)) (by decide)
      have m2 : RC (up (up (up S 0 6 (nI q)) 0 7 (nI i)) 0 8 e.1) P := hMD.1.sm (l := [0]) (((smX.rf.up _ _ (by decide)).up _ _ (by decide)).up _ _ (by decide)) (by decide)
      rw [if_neg (nI_m1 (by omega)), c_count hMD.1 q40, bdS, if_pos (nI_ltN (by omega) (by omega) hi), c_key m1 q40 he, bdS, c_sec m2 q40 he, bdS, hS1]
    rw [this, bd2S, a1, bdS]
  · unfold mmA
    rw [a2, bdS]
    simp only [jn0, jn1]
    have hkc := m_key a3.2.1 q40 he
    have hoc := m_other a3.2.1 q40 he
    rw [if_neg (nI_m1 (by omega)), gdI q40 (by decide), nI_clamp (show q < 2 ^ 31 by omega), (a3.2.1 q q40).2.1, if_neg (nI_nleN (by omega) (by omega) hi), gdT (Or.inr rfl), upS, if_neg (by decide)]
    have k3 : ∀ T : Mem, ∀ j v, (up T 0 j v).1 3 = T.1 3 := fun T j v => upN _ _ _ (by decide)
    have k4 : ∀ T : Mem, ∀ j v, (up T 0 j v).1 4 = T.1 4 := fun T j v => upN _ _ _ (by decide)
    simp only [nI_m5, nI_add, gdI (show 5 * q + i < 200 by omega) (show 200 < 2 ^ 31 by decide), nI_clamp (show 5 * q + i < 2 ^ 31 by omega), k3, k4, hkc, hoc]
    rw [← hR1]
    have h19 : R1.1 0 19 = 1 := by rw [hR1]; simp only [upA]; simp
    rw [h19, gdT (Or.inr rfl)]
  · rw [a4.2 0 (by decide), hS1]; simp only [upA]; simp
  · rw [a4.2 0 (by decide), hS1]; simp only [upA]; simp
  · rw [hR1]; simp only [upA]; simp
  · rw [hR1]; simp only [upA]; simp
  · rw [hR1]; simp only [upA]; simp
  · rw [a4.2 0 (by decide), hS1, hR1]; simp only [upA]; simp
  · rw [a4.2 0 (by decide), hS1, hR1]; simp only [upA]; simp
  · rw [a4.2 0 (by decide), hS1]; simp only [upA]
    simp [show j ≠ 6 by omega, show j ≠ 7 by omega, show j ≠ 8 by omega, show j ≠ 9 by omega]
  · rw [hR0 j hj, a5.2 0 (by decide)]
theorem arriveE {g : Nat} (hg : 50 < g) {S R : Mem} {P : Nat → Pg} {pl : List Nat} {rt h : Nat} {L : Nat → Lev} (hMD : MD S R P pl []) (T : TI P rt h L) {q i : Nat} (q40 : q < 40) (hk : (P q).1 = 1) (hi : i < 10) (hl : pl.length ≤ 8) (hpl : ∀ y, (∃ lo, (lo, y) ∈ L h) → y ≠ q → y ∉ pl) :
    ∃ v S' R', (∀ (β : Type) (K : Int32 → Mem → Option β), bd2 (f_X4_moveCursor g S (nI q) (nI i)) (fun r S6 => bd (f_X1_unpinAll g S6) (fun S8 => K r S8)) = K v S') ∧ f_X5_arrive g R (nI q) (nI i) = some (v, R') ∧ iz v ∧ MD S' R' P [] [] ∧ CUR S' R' P ∧ (∀ j, j < 6 → S'.1 0 j = S.1 0 j) ∧ (∀ j, j < 15 → R'.1 0 j = R.1 0 j) := by
  have h5 := (hMD.1 q q40).2.2.2.1
  have hmv : f_X4_moveCursor g S (nI q) (nI i) = if i < (P q).2.1.length then cmA g S (nI q) (nI i) else (if (P q).2.2 = -1 then cmA g S (P q).2.2 0 else (bd (f_X1_touch g S (P q).2.2 0) (fun S23 => cmA g S23 (P q).2.2 0))) := by
    rw [c_move_eq, c_count hMD.1 q40, bdS, c_next hMD.1 q40, bdS]
    by_cases e : i < (P q).2.1.length
    · rw [if_pos e, if_pos (nI_ltN (by omega) (by omega) e)]
    · rw [if_neg e, if_neg (nI_nltN (by omega) (by omega) (by omega))]
  have har : f_X5_arrive g R (nI q) (nI i) = if i < (P q).2.1.length then mmA g R (nI q) (nI i) else (if (P q).2.2 = -1 then mmA g R (P q).2.2 0 else (bd (f_X5_touch g R (P q).2.2 0) (fun S25 => mmA g S25 (P q).2.2 0))) := by
    rw [m_arr_eq, gdI q40 (by decide), gdI q40 (by decide)]
    simp only [nI_clamp (show q < 2 ^ 31 by omega), (hMD.2.1 q q40).2.1, (hMD.2.1 q q40).2.2.1]
    by_cases e : i < (P q).2.1.length
    · rw [if_pos e, if_pos (nI_ltN (by omega) (by omega) e)]
    · rw [if_neg e, if_neg (nI_nltN (by omega) (by omega) (by omega))]
  rw [hmv, har]
  by_cases e : i < (P q).2.1.length
  · rw [if_pos e, if_pos e]
    obtain ⟨S', R', a1, a2, a3, a4, a5, a6⟩ := arrOn hg hMD q40 hk e
    exact ⟨1, S', R', a1, a2, Or.inr rfl, a3, a4, a5, fun j hj => a6 j (by omega)⟩
  · rw [if_neg e, if_neg e]
    rcases T.nxt q40 hk with hn | ⟨q', hn, q40', hqq, hk', hm'⟩
    · rw [if_pos hn, if_pos hn]
      obtain ⟨S', R', a1, a2, a3, a4, a5, a6⟩ := arrOff (v4 := (P q).2.2) (v5 := 0) hg hMD (Or.inl hn)
      exact ⟨0, S', R', a1, a2, Or.inl rfl, a3, a4, a5, fun j hj => a6 j (by omega)⟩
    · rw [hn, if_neg (nI_m1 (by omega)), if_neg (nI_m1 (by omega))]
      obtain ⟨S1, R1, b1, b2, b3, b4, b5⟩ := touchMD (g := g) (by omega) hMD q40' (hpl q' hm' hqq) (by rw [hk']; decide) (by omega)
      rw [b1, b2]
      have hb0 : ∀ j, j < 15 → R1.1 0 j = R.1 0 j := fun j hj => b5.2 j (by omega) (by omega) (by omega) (by omega)
      by_cases e0 : 0 < (P q').2.1.length
      · obtain ⟨S', R', a1, a2, a3, a4, a5, a6⟩ := arrOn hg b3 q40' hk' e0
        exact ⟨1, S', R', fun β K => by rw [bdS]; exact a1 β K, by rw [bdS]; exact a2, Or.inr rfl, a3, a4, fun j hj => by rw [a5 j hj, b4.2 0 (by decide)], fun j hj => by rw [a6 j (by omega), hb0 j hj]⟩
      · obtain ⟨S', R', a1, a2, a3, a4, a5, a6⟩ := arrOff (v4 := nI q') (v5 := 0) hg b3 (Or.inr ⟨q', 0, q40', by decide, rfl, rfl, by omega⟩)
        exact ⟨0, S', R', fun β K => by rw [bdS]; exact a1 β K, by rw [bdS]; exact a2, Or.inl rfl, a3, a4, fun j hj => by rw [a5 j hj, b4.2 0 (by decide)], fun j hj => by rw [a6 j (by omega), hb0 j hj]⟩
theorem seekE {g : Nat} (hg : 50 < g) {S R : Mem} (hI : INV S R) (key : Int32) : ∃ v S' R', f_X4_seek g S key = some (v, S') ∧ f_X5_seek g R key = some (v, R') ∧ INV S' R' := by
  obtain ⟨P, rt, h, L, hMD, T, h3, hcn, hrS, hrR, hent, hcur⟩ := hI
  have hs0 : smX [0] R (up R 0 0 0) := smX.rf.up _ _ (by decide)
  have hMD0 : MD S (up R 0 0 0) P [] [] := hMD.sm (l := []) smX.rf (by simp) hs0 (by simp) (fun j hj => by rw [upA, if_neg (by omega)])
  obtain ⟨S2, R2, a1, a2, a3, a4, a5, a6, a7, a8⟩ := startE hg hMD0 T h3 hrS (by rw [upA, if_neg (by simp)]; exact hrR) key
  obtain ⟨S4, R4, pl, b1, b2, b3, b4, b5, b6, b7, b8, b9⟩ := twMD hg a3 T h3 a4 a5
  obtain ⟨q, hq⟩ : ∃ q, q = (wy P rt key h).1 := ⟨_, rfl⟩
  have q40 : q < 40 := by rw [hq]; exact T.w40 key (Nat.le_refl _)
  have hk : (P q).1 = 1 := by rw [hq, T.wkind key (Nat.le_refl _), if_pos rfl]
  have hleaf : f_X3_leaf g S4 = some (nI q) := by rw [c_leaf b4 (by omega), hq]
  have hw6 : R4.1 6 h = nI q := by rw [(b5.2 h (Nat.le_refl _)).1, hq]
  have h5 := (b3.1 q q40).2.2.2.1
  have hple := plc_le key (P q).2.1
  obtain ⟨v, S', R', c1, c2, c3, c4, c5, c6, c7⟩ := arriveE hg b3 T (i := plc key (P q).2.1) q40 hk (by omega) (by omega) (fun y hy hyq hyp => by
    obtain ⟨k, k1, k2⟩ := (b9 y).mp hyp
    obtain ⟨lo, hlo⟩ := hy
    obtain ⟨lo2, hm2⟩ := (T.way key k k1).mem
    have := T.2.2.2.2.2.2.2.2.1 k h k1 (Nat.le_refl _) _ hm2 _ hlo k2.symm
    subst this
    exact hyq (k2.trans hq.symm))
  have hR0 : ∀ j, j ≠ 0 → j ≠ 8 → j < 15 → R'.1 0 j = R.1 0 j := fun j h0 h8 h15 => by rw [c7 j h15, b7.2 j (by omega) (by omega) (by omega) (by omega), a8 j h8, upA, if_neg (by simp [h0])]
  refine ⟨v, S', R', ?_, ?_, ⟨P, rt, h, L, c4, T, h3, hcn, ?_, ?_, ?_, c5⟩⟩
  · unfold f_X4_seek
    rw [a1, bdS, b1, bdS, hleaf, bdS, bdS, c_pl (by omega) b3.1 key q40, bdS]
    refine (c1 _ _).trans ?_
    rw [gdT c3]
  · unfold f_X5_seek
    rw [a2, bdS, b2, bdS, b5.1, gdI (by omega) (by decide), m_pl (by omega) b3.2.1 key q40 (show h < 50 by omega) b5.1 hw6, bdS]
    simp only [nI_clamp (show h < 2 ^ 31 by omega), hw6]
    rw [c2, bd2S, gdT c3]
  · rw [c6 4 (by decide), b6.2 0 (by decide), a6.2 0 (by decide)]; exact hrS
  · rw [hR0 6 (by decide) (by decide) (by decide)]; exact hrR
  · rw [c6 5 (by decide), b6.2 0 (by decide), a6.2 0 (by decide), hR0 7 (by decide) (by decide) (by decide)]; exact hent
theorem nextE {g : Nat} (hg : 50 < g) {S R : Mem} (hI : INV S R) : ∃ e v v' S' R', f_X4_next g S = some ((e, v), S') ∧ f_X5_next g R = some (v', R') ∧ INV S' R' ∧ ((e = 0 ∧ R'.1 0 0 = 0 ∧ v' = v ∧ iz v) ∨ (e = 2 ∧ R'.1 0 0 = 1)) := by
  obtain ⟨P, rt, h, L, hMD, T, h3, hcn, hrS, hrR, hent, hcur⟩ := hI
  rcases id hcur with ⟨c1, c2⟩ | ⟨q, i, q40, i5, hk, d1, d2, d3, d4, d5, d6, d7⟩
  · have hs0 : smX [0] R (up R 0 0 1) := smX.rf.up _ _ (by decide)
    refine ⟨2, 0, 0, S, up R 0 0 1, ?_, ?_, ⟨P, rt, h, L, hMD.sm (l := []) smX.rf (by simp) hs0 (by simp) (fun j hj => by rw [upA, if_neg (by omega)]), T, h3, hcn, hrS, by rw [upA, if_neg (by simp)]; exact hrR, by rw [upA, if_neg (by simp)]; exact hent, hcur.sm (fun _ _ _ => rfl) (fun j hj => by rw [upA, if_neg (by omega)])⟩, Or.inr ⟨rfl, upS _ _ _ _⟩⟩
    · unfold f_X4_next
      rw [if_pos c1]
    · unfold f_X5_next
      simp only [jn1]
      rw [if_pos c2, upS, if_neg (by decide)]
  · have hs0 : smX [0] R (up R 0 0 0) := smX.rf.up _ _ (by decide)
    have hMD0 : MD S (up R 0 0 0) P [] [] := hMD.sm (l := []) smX.rf (by simp) hs0 (by simp) (fun j hj => by rw [upA, if_neg (by omega)])
    obtain ⟨S1, R1, b1, b2, b3, b4, b5⟩ := touchMD (g := g) (by omega) hMD0 q40 (by simp) (by rw [hk]; decide) (by simp)
    have hb0 : ∀ j, j ≠ 0 → j ≠ 15 → j ≠ 16 → j ≠ 17 → j ≠ 18 → R1.1 0 j = R.1 0 j := fun j h0 h15 h16 h17 h18 => by rw [b5.2 j h15 h16 h17 h18, upA, if_neg (by simp [h0])]
    obtain ⟨v, S', R', e1, e2, e3, e4, e5, e6, e7⟩ := arriveE hg b3 T (i := i + 1) q40 hk (by omega) (by simp) (fun y hy hyq hyp => by simp at hyp; exact hyq hyp)
    refine ⟨0, v, v, S', R', ?_, ?_, ⟨P, rt, h, L, e4, T, h3, hcn, ?_, ?_, ?_, e5⟩, Or.inl ⟨rfl, ?_, rfl, e3⟩⟩
    · unfold f_X4_next
      rw [if_neg (by rw [d1]; exact nI_m1 (by omega)), d1, b1, bdS]
      have z1 : S1.1 0 6 = nI q := by rw [b4.2 0 (by decide)]; exact d1
      have z2 : S1.1 0 7 = nI i := by rw [b4.2 0 (by decide)]; exact d2
      rw [z1, z2, nI_1]
      refine (e1 _ _).trans ?_
      rw [gdT e3]
    · unfold f_X5_next
      simp only [jn1]
      rw [if_neg (by rw [d3]; decide), upS, if_pos (by decide), upA, if_neg (by simp), d4, b2, bdS, hb0 20 (by decide) (by decide) (by decide) (by decide) (by decide), hb0 21 (by decide) (by decide) (by decide) (by decide) (by decide), d4, d5, nI_1, e2, bd2S, gdT e3]
    · rw [e6 4 (by decide), b4.2 0 (by decide)]; exact hrS
    · rw [e7 6 (by decide), hb0 6 (by decide) (by decide) (by decide) (by decide) (by decide)]; exact hrR
    · rw [e6 5 (by decide), b4.2 0 (by decide), e7 7 (by decide), hb0 7 (by decide) (by decide) (by decide) (by decide) (by decide)]; exact hent
    · rw [e7 0 (by decide), b5.2 0 (by decide) (by decide) (by decide) (by decide), upS]
