theorem len3 {l : List It} (h : 2 < l.length) : ∃ c0 d0 c1 d1 C, l = (c0, d0) :: (c1, d1) :: C ∧ 1 ≤ C.length := by
  match l, h with
  | a :: b :: c :: C, _ => exact ⟨a.1, a.2, b.1, b.2, c :: C, rfl, by simp⟩
theorem PLI.cons {e h q : Nat} {w : Nat → Nat × Nat} {L : Nat → Lev} {pl : List Nat} (hP : PLI e w h L pl) (he : e < h) (hq : ∃ lo, (lo, q) ∈ L (e + 1)) : PLI e w h L (q :: pl) := by
  intro y hy
  rcases List.mem_cons.mp hy with rfl | hy
  · exact Or.inr ⟨e + 1, by omega, by omega, hq⟩
  · exact hP y hy
theorem mend2 {g : Nat} (hg : 30 < g) {S R : Mem} {P : Nat → Pg} {pl : List Nat} {w : Nat → Nat × Nat} {h e rt p : Nat} {L : Nat → Lev} {X Y : List It} {m1 c d : Int32} (hMD : MD S R P pl []) (hx : Shc P rt h L w e p X Y m1 c d) (h2 : 2 ≤ (P (w e).1).2.1.length) (hplw : ∀ k, k ≤ e → (w k).1 ∈ pl) (hPLI : PLI e w h L pl) (mp : p ∈ pl) (mX : ∀ z q, z ∈ X.getLast? → z.2 = nI q → q < 40 → q ∈ pl ∧ (P q).2.1.length ≤ 2) (hPn : ∀ q, q < 40 → (∃ lo, (lo, q) ∈ L (e + 1)) → q ≠ p → (∀ z, z ∈ X.getLast? → z.2 ≠ nI q) → q ∉ pl) (hl : pl.length ≤ 10) :
    ∃ S' R', C2 g (nI p) (nI (w e).1) (nI X.length) (tl7 X) (tr11 Y) S = some S' ∧ N2 g (nI (w e).1) (nI X.length) (t01 X) (t01 Y) R = some R' ∧ Out S R P (0 :: pl) w h e rt L S' R' := by
  have hx0 := hx
  obtain ⟨T, he, hwm, p40, hX, hp1, hcn⟩ := hx
  obtain ⟨loe, hme⟩ := hwm e (Nat.le_refl _)
  have hpar40 : (w e).1 < 40 := T.2.2.2.2.2.2.1 e (by omega) _ hme
  cases hY : Y with
  | nil =>
    obtain ⟨S', R', a1, a2, a3⟩ := mend3 hg hMD hx0 h2 hplw hPLI mp mX (fun z q hz => by rw [hY] at hz; simp at hz)
    rw [hY] at a1
    refine ⟨S', R', ?_, ?_, a3.wk smX.rf smR.rf (by simp)⟩
    · unfold C2
      have t1 : tr11 ([] : List It) = -1 := rfl
      rw [if_pos t1]; exact a1
    · unfold N2
      have t1 : t01 ([] : List It) = 0 := by unfold t01; simp
      rw [if_pos t1]; exact a2
  | cons z Y' =>
    obtain ⟨r, r40, hzr, hr0, hrm, hr2⟩ := hx0.kid (z := z) (by rw [hY]; simp)
    have hzz : z = (z.1, nI r) := by rw [← hzr]
    have hpar : (P (w e).1).2.1 = X ++ (m1, nI p) :: (z.1, nI r) :: Y' := by rw [hX, hY, ← hzz]
    obtain ⟨-, -, hpr, -⟩ := T.two he hme hpar p40 r40
    have hnd := T.kids he hme
    rw [hpar, List.map_append] at hnd
    have hrX : ∀ y, y ∈ X.getLast? → y.2 ≠ nI r := fun y hy q => by
      have hyX : y ∈ X := List.mem_of_getLast? hy
      have := (List.nodup_append.mp hnd).2.2 (pg y) (List.mem_map.mpr ⟨y, hyX, rfl⟩) r (by simp [pg_nI r40])
      exact this (by unfold pg; rw [q, nI_clamp (by omega)])
    have hrpl := hPn r r40 hrm (Ne.symm hpr) hrX
    obtain ⟨S1, R1, b1, b2, b3, b4, b5⟩ := touchMD hg hMD r40 hrpl hr0 (by omega)
    have hcell : R.1 4 (5 * (w e).1 + (X.length + 1)) = nI r := m_other hMD.2.1 hpar40 (e := (z.1, nI r)) (by rw [hpar]; exact getX1 _ _ _ _)
    have hx5 : X.length + 1 < 5 := hMD.2.1.i5 hpar40 (show (P (w e).1).2.1[X.length + 1]? = some (z.1, nI r) by rw [hpar]; exact getX1 _ _ _ _)
    have hN2 : N2 g (nI (w e).1) (nI X.length) (t01 X) (t01 (z :: Y')) R = if (P r).2.1.length ≤ 2 then N3 g (nI (w e).1) (nI X.length) (t01 X) R1 else bd (f_X5_give g R1 (nI (w e).1) (nI X.length) 0) (fun S24 => some S24) := by
      unfold N2
      have e1 : 5 * nI (w e).1 + nI X.length + 1 = nI (5 * (w e).1 + (X.length + 1)) := by rw [nI_m5, nI_add]; exact nI_1 _
      have ht : t01 (z :: Y') = 1 := by unfold t01; simp
      rw [ht, if_neg (by decide), e1, gdI (by omega) (by decide)]
      simp only [nI_clamp (show 5 * (w e).1 + (X.length + 1) < 2 ^ 31 by omega), hcell, b2, bdS, gdI r40 (show 40 < 2 ^ 31 by decide), nI_clamp (show r < 2 ^ 31 by omega), (b3.2.1 r r40).2.1]
      have := (b3.2.1 r r40).2.2.2.1
      by_cases q : (P r).2.1.length ≤ 2
      · rw [if_pos q, if_pos ((le_r (a := 2) 2 rfl (by decide) (by omega)).mpr q)]
      · rw [if_neg q, if_neg (fun y => q ((le_r (a := 2) 2 rfl (by decide) (by omega)).mp y))]
    have hC2 : C2 g (nI p) (nI (w e).1) (nI X.length) (tl7 X) (tr11 (z :: Y')) S = if (P r).2.1.length ≤ 2 then C3 g (nI p) (nI (w e).1) (nI X.length) (tl7 X) (nI r) S1 else bd (f_X4_giveFromRight g S1 (nI (w e).1) (nI (X.length + 1)) (nI p) (nI r)) (fun S30 => some S30) := by
      unfold C2
      have ht : tr11 (z :: Y') = nI r := hzr
      rw [ht, if_neg (nI_m1 (by omega)), b1, bdS, c_count b3.1 r40, bdS, nI_1]
      have := (b3.2.1 r r40).2.2.2.1
      by_cases q : (P r).2.1.length ≤ 2
      · rw [if_pos q, if_pos ((le_r (a := 2) 2 rfl (by decide) (by omega)).mpr q)]
      · rw [if_neg q, if_neg (fun y => q ((le_r (a := 2) 2 rfl (by decide) (by omega)).mp y))]
    rw [hN2, hC2]
    by_cases q : (P r).2.1.length ≤ 2
    · rw [if_pos q, if_pos q]
      obtain ⟨S', R', a1, a2, a3⟩ := mend3 hg b3 hx0 h2 (fun k hk => List.mem_cons_of_mem _ (hplw k hk)) (hPLI.cons he hrm) (List.mem_cons_of_mem _ mp) (fun y q' hy hyq hq' => ⟨List.mem_cons_of_mem _ (mX y q' hy hyq hq').1, (mX y q' hy hyq hq').2⟩) (fun y q' hy hyq hq' => by
        rw [hY] at hy
        simp at hy
        subst hy
        have : q' = r := nI_inj (by omega) (by omega) (hyq.symm.trans hzr)
        subst this
        exact ⟨List.mem_cons_self, fun _ => q⟩)
      have ht : tr11 Y = nI r := by rw [hY]; exact hzr
      rw [ht] at a1
      exact ⟨S', R', a1, a2, a3.wk b4 b5 (by simp)⟩
    · rw [if_neg q, if_neg q]
      obtain ⟨c0, d0, c1, d1, C, hC, hC1⟩ := len3 (show 2 < (P r).2.1.length by omega)
      obtain ⟨S', R', a1, a2, a3⟩ := givR_out hg b3 T he hwm hpar p40 r40 hp1 hC hC1 hcn (fun k hk => List.mem_cons_of_mem _ (hplw k hk)) (hPLI.cons he hrm) (List.mem_cons_of_mem _ mp) List.mem_cons_self
      exact ⟨S', R', by rw [a1, bdS], by rw [a2, bdS], a3.wk b4 b5 (by simp)⟩
theorem mend1 {g : Nat} (hg : 30 < g) {S R : Mem} {P : Nat → Pg} {pl : List Nat} {w : Nat → Nat × Nat} {h e rt p : Nat} {L : Nat → Lev} {X Y : List It} {m1 c d : Int32} (hMD : MD S R P pl []) (hx : Shc P rt h L w e p X Y m1 c d) (h2 : 2 ≤ (P (w e).1).2.1.length) (hplw : ∀ k, k ≤ e → (w k).1 ∈ pl) (hPLI : PLI e w h L pl) (mp : p ∈ pl) (hPn : ∀ q, q < 40 → (∃ lo, (lo, q) ∈ L (e + 1)) → q ≠ p → q ∉ pl) (hl : pl.length ≤ 9) :
    ∃ S' R', C1 g (nI p) (nI (w e).1) (nI X.length) (tl7 X) (tr11 Y) S = some S' ∧ N1 g (nI (w e).1) (nI X.length) (t01 X) (t01 Y) R = some R' ∧ Out S R P (0 :: 0 :: pl) w h e rt L S' R' := by
  have hx0 := hx
  obtain ⟨T, he, hwm, p40, hX, hp1, hcn⟩ := hx
  obtain ⟨loe, hme⟩ := hwm e (Nat.le_refl _)
  have hpar40 : (w e).1 < 40 := T.2.2.2.2.2.2.1 e (by omega) _ hme
  by_cases hX0 : X = []
  · obtain ⟨S', R', a1, a2, a3⟩ := mend2 hg hMD hx0 h2 hplw hPLI mp (fun z q hz => by rw [hX0] at hz; simp at hz) (fun q hq hm hp _ => hPn q hq hm hp) (by omega)
    refine ⟨S', R', ?_, ?_, a3.wk smX.rf smR.rf (by simp)⟩
    · unfold C1
      have t1 : tl7 X = -1 := by rw [hX0]; rfl
      rw [t1] at a1 ⊢
      rw [if_pos rfl]; exact a1
    · unfold N1
      have t1 : t01 X = 0 := by unfold t01; rw [if_pos hX0]
      rw [t1] at a2 ⊢
      rw [if_pos rfl]; exact a2
  · obtain ⟨X', z, hXe, ht7, ht01⟩ := lastX hX0
    obtain ⟨l, l40, hzl, hl0, hlm, hl2⟩ := hx0.kid (z := z) (by rw [hXe]; simp)
    have hzz : z = (z.1, nI l) := by rw [← hzl]
    have hpar : (P (w e).1).2.1 = X' ++ (z.1, nI l) :: (m1, nI p) :: Y := by rw [hX, hXe, ← hzz]; simp
    obtain ⟨-, -, hlp, -⟩ := T.two he hme hpar l40 p40
    have hlpl := hPn l l40 hlm hlp
    have hXl : X.length = X'.length + 1 := by rw [hXe]; simp
    obtain ⟨S1, R1, b1, b2, b3, b4, b5⟩ := touchMD hg hMD l40 hlpl hl0 (by omega)
    have hcell : R.1 4 (5 * (w e).1 + X'.length) = nI l := m_other hMD.2.1 hpar40 (e := (z.1, nI l)) (by rw [hpar]; exact getX _ _ _)
    have hx5 : X'.length + 1 < 5 := hMD.2.1.i5 hpar40 (show (P (w e).1).2.1[X'.length + 1]? = some (m1, nI p) by rw [hpar]; exact getX1 _ _ _ _)
    have hlast : z ∈ X.getLast? := by rw [hXe, List.getLast?_append]; simp
    have hN1 : N1 g (nI (w e).1) (nI X.length) (t01 X) (t01 Y) R = if (P l).2.1.length ≤ 2 then N2 g (nI (w e).1) (nI X.length) (t01 X) (t01 Y) R1 else bd (f_X5_give g R1 (nI (w e).1) (nI X'.length) 1) (fun S24 => some S24) := by
      unfold N1
      have e1 : 5 * nI (w e).1 + nI X.length - 1 = nI (5 * (w e).1 + X'.length) := by rw [nI_m5, nI_add, hXl]; exact nI_pred (5 * (w e).1 + X'.length)
      have e2 : nI X.length - 1 = nI X'.length := by rw [hXl]; exact nI_pred _
      rw [ht01, if_neg (by decide), e1, gdI (by omega) (by decide), e2]
      simp only [nI_clamp (show 5 * (w e).1 + X'.length < 2 ^ 31 by omega), hcell, b2, bdS, gdI l40 (show 40 < 2 ^ 31 by decide), nI_clamp (show l < 2 ^ 31 by omega), (b3.2.1 l l40).2.1]
      have := (b3.2.1 l l40).2.2.2.1
      by_cases q : (P l).2.1.length ≤ 2
      · rw [if_pos q, if_pos ((le_r (a := 2) 2 rfl (by decide) (by omega)).mpr q)]
      · rw [if_neg q, if_neg (fun y => q ((le_r (a := 2) 2 rfl (by decide) (by omega)).mp y))]
    have hC1 : C1 g (nI p) (nI (w e).1) (nI X.length) (tl7 X) (tr11 Y) S = if (P l).2.1.length ≤ 2 then C2 g (nI p) (nI (w e).1) (nI X.length) (tl7 X) (tr11 Y) S1 else bd (f_X4_giveFromLeft g S1 (nI (w e).1) (nI (X'.length + 1)) (nI l) (nI p)) (fun S30 => some S30) := by
      unfold C1
      rw [ht7, hzl, if_neg (nI_m1 (by omega)), b1, bdS, c_count b3.1 l40, bdS, hXl]
      have := (b3.2.1 l l40).2.2.2.1
      by_cases q : (P l).2.1.length ≤ 2
      · rw [if_pos q, if_pos ((le_r (a := 2) 2 rfl (by decide) (by omega)).mpr q)]
      · rw [if_neg q, if_neg (fun y => q ((le_r (a := 2) 2 rfl (by decide) (by omega)).mp y))]
    rw [hN1, hC1]
    by_cases q : (P l).2.1.length ≤ 2
    · rw [if_pos q, if_pos q]
      obtain ⟨S', R', a1, a2, a3⟩ := mend2 hg b3 hx0 h2 (fun k hk => List.mem_cons_of_mem _ (hplw k hk)) (hPLI.cons he hlm) (List.mem_cons_of_mem _ mp) (fun y q' hy hyq hq' => by
        have : y = z := Option.some.inj (hy.symm.trans hlast)
        subst this
        have : q' = l := nI_inj (by omega) (by omega) (hyq.symm.trans hzl)
        subst this
        exact ⟨List.mem_cons_self, q⟩) (fun q' hq' hm hp hz hmem => by
        rcases List.mem_cons.mp hmem with rfl | hmem
        · exact hz z hlast hzl
        · exact hPn q' hq' hm hp hmem) (by simp; omega)
      exact ⟨S', R', a1, a2, a3.wk b4 b5 (by simp)⟩
    · rw [if_neg q, if_neg q]
      obtain ⟨A, zz, hA⟩ := lastE (A := (P l).2.1) (fun y => by rw [y] at q; simp at q)
      have hA' : (P l).2.1 = A ++ [(zz.1, zz.2)] := hA
      obtain ⟨S', R', a1, a2, a3⟩ := givL_out hg b3 T he hwm hpar l40 p40 hA' (by rw [hA] at q; simp at q; omega) hp1 hcn (fun k hk => List.mem_cons_of_mem _ (hplw k hk)) (hPLI.cons he hlm) List.mem_cons_self (List.mem_cons_of_mem _ mp)
      exact ⟨S', R', by rw [a1, bdS], by rw [a2, bdS], a3.wk b4 b5 (by simp)⟩
theorem mendE {g : Nat} (hg : 30 < g) {S R : Mem} {P : Nat → Pg} {pl : List Nat} {w : Nat → Nat × Nat} {h e rt : Nat} {L : Nat → Lev} {X Y : List It} {m1 c d : Int32} (h4 : h ≤ 4) (hMD : MD S R P pl []) (hC : WC S w h) (hW : WM R w h) (hx : Shc P rt h L w e (w (e + 1)).1 X Y m1 c d) (hm : ∃ lo, (lo, (w (e + 1)).1) ∈ L (e + 1)) (hXl : X.length = (w (e + 1)).2) (hplw : ∀ k, k ≤ e + 1 → (w k).1 ∈ pl) (hPLI : PLI (e + 1) w h L pl) (hl : pl.length ≤ 9) :
    ∃ S' R', f_X4_mend g S (nI (e + 1)) = some S' ∧ f_X5_mend g R (nI (e + 1)) = some R' ∧ Out S R P (0 :: 0 :: pl) w h e rt L S' R' := by
  have hx0 := hx
  obtain ⟨T, he, hwm, p40, hX, hp1, hcn⟩ := hx
  obtain ⟨loe, hme⟩ := hwm e (Nat.le_refl _)
  obtain ⟨lop, hmp⟩ := hm
  have hpar40 : (w e).1 < 40 := T.2.2.2.2.2.2.1 e (by omega) _ hme
  have hin := T.2.1 e he _ hme
  unfold inn at hin
  simp only at hin
  have t9 := T.2.2.2.2.2.2.2.2.1
  have hep : (w e).1 ≠ (w (e + 1)).1 := fun z => by have := t9 e (e + 1) (by omega) (by omega) _ hme _ hmp z; omega
  have h2 : 2 ≤ (P (w e).1).2.1.length := by
    rcases (hcn _ hpar40 (by rw [hin.1]; decide)).2 with z | ⟨z, -⟩ | ⟨-, z⟩
    · exact z
    · exact absurd z hep
    · omega
  have h5 := (hMD.1 _ hpar40).2.2.2.1
  have hlen : (P (w e).1).2.1.length = X.length + Y.length + 1 := by rw [hX]; simp; omega
  obtain ⟨S', R', a1, a2, a3⟩ := mend1 hg hMD hx0 h2 (fun k hk => hplw k (by omega)) (fun q hq => by
    rcases hPLI q hq with ⟨k, k1, k2⟩ | ⟨k, k1, k2, k3⟩
    · by_cases ke : k = e + 1
      · subst ke; exact Or.inr ⟨e + 1, by omega, by omega, lop, by rw [k2]; exact hmp⟩
      · exact Or.inl ⟨k, by omega, k2⟩
    · exact Or.inr ⟨k, by omega, k2, k3⟩) (hplw (e + 1) (Nat.le_refl _)) (fun q hq hqm hqp hqpl => by
    obtain ⟨lq, hlq⟩ := hqm
    rcases hPLI q hqpl with ⟨k, k1, k2⟩ | ⟨k, k1, k2, lo, hlo⟩
    · by_cases ke : k = e + 1
      · subst ke; exact hqp k2
      · obtain ⟨lk2, hmk⟩ := hwm k (by omega)
        have := t9 k (e + 1) (by omega) (by omega) _ hmk _ hlq k2.symm
        omega
    · have := t9 k (e + 1) (by omega) (by omega) _ hlo _ hlq rfl
      omega) hl
  refine ⟨S', R', ?_, ?_, a3⟩
  · rw [c_mend_eq, c_pageAt hC (show e + 1 ≤ h by omega) (by omega), bdS, nI_pred, c_pageAt hC (show e ≤ h by omega) (by omega), bdS, c_slotAt hC (show e + 1 ≤ h by omega) (by omega), bdS, ← hXl]
    simp only [jn1, c_count hMD.1 hpar40, bdS, hlen, nI_1]
    have hright : ∀ t7 : Int32, (if nI (X.length + Y.length + 1) ≤ nI (X.length + 1) then C1 g (nI (w (e + 1)).1) (nI (w e).1) (nI X.length) t7 (-1) S else bd (f_X0_secondAt g S (nI (w e).1) (nI (X.length + 1))) (fun r41 => C1 g (nI (w (e + 1)).1) (nI (w e).1) (nI X.length) t7 r41 S)) = C1 g (nI (w (e + 1)).1) (nI (w e).1) (nI X.length) t7 (tr11 Y) S := by
      intro t7
      cases hY : Y with
      | nil => rw [if_pos (nI_leN (by simp; omega) (by omega) (by simp))]; rfl
      | cons z Y' =>
        rw [if_neg (nI_nleN (by simp; rw [hlen, hY] at h5; simp at h5; omega) (by omega) (by simp)), c_sec hMD.1 hpar40 (show (P (w e).1).2.1[X.length + 1]? = some z by rw [hX, hY]; exact getX1 _ _ _ _), bdS]; rfl
    by_cases hX0 : X = []
    · have t1 : tl7 X = -1 := by rw [hX0]; rfl
      rw [if_pos (by rw [hX0]; decide), hright, ← t1]; exact a1
    · obtain ⟨X', z, hXe, ht7, ht01⟩ := lastX hX0
      have hXl2 : X.length = X'.length + 1 := by rw [hXe]; simp
      rw [if_neg (by rw [hXl2]; exact nI_nle (by omega) (by omega))]
      have e2 : nI X.length - 1 = nI X'.length := by rw [hXl2]; exact nI_pred _
      rw [e2, c_sec hMD.1 hpar40 (show (P (w e).1).2.1[X'.length]? = some z by rw [hX, hXe, List.append_assoc]; exact getX _ _ _), bdS, hright, ← ht7]
      exact a1
  · rw [m_mend_eq, nI_pred, gdI (by omega) (by decide), gdI (by omega) (by decide)]
    simp only [jn1, nI_clamp (show e < 2 ^ 31 by omega), nI_clamp (show e + 1 < 2 ^ 31 by omega), (hW.2 e (by omega)).1, (hW.2 (e + 1) (by omega)).2, gdI hpar40 (show 40 < 2 ^ 31 by decide), nI_clamp (show (w e).1 < 2 ^ 31 by omega), (hMD.2.1 _ hpar40).2.1, ← hXl, hlen, nI_1]
    have hright : ∀ t3 : Int32, (if nI (X.length + Y.length + 1) ≤ nI (X.length + 1) then N1 g (nI (w e).1) (nI X.length) t3 0 R else N1 g (nI (w e).1) (nI X.length) t3 1 R) = N1 g (nI (w e).1) (nI X.length) t3 (t01 Y) R := by
      intro t3
      cases hY : Y with
      | nil => rw [if_pos (nI_leN (by simp; omega) (by omega) (by simp))]; rfl
      | cons z Y' =>
        rw [if_neg (nI_nleN (by simp; rw [hlen, hY] at h5; simp at h5; omega) (by omega) (by simp))]
        have : t01 (z :: Y') = 1 := by unfold t01; simp
        rw [this]
    rw [hright, hright]
    by_cases hX0 : X = []
    · have t1 : t01 X = 0 := by unfold t01; rw [if_pos hX0]
      rw [if_pos (by rw [hX0]; decide), ← t1]; exact a2
    · obtain ⟨X', z, hXe, ht7, ht01⟩ := lastX hX0
      have hXl2 : X.length = X'.length + 1 := by rw [hXe]; simp
      rw [if_neg (by rw [hXl2]; exact nI_nle (by omega) (by omega)), ← ht01]
      exact a2
