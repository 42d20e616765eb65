/-! giving and joining, both sides -/
theorem MD.pages {S R S' R' : Mem} {P P' : Nat → Pg} {pl : List Nat} (h : MD S R P pl []) (hC : RC S' P') (hR : RM R' P') (hs : smX [3, 4, 5, 6] S S') (hr : smX [2, 3, 4, 5] R R') (hP : ∀ y, (P y).1 ≠ 0 → (P' y).1 ≠ 0) : MD S' R' P' pl [] := by
  obtain ⟨h1, h2, h3, h4, h5⟩ := h
  refine ⟨hC, hR, h3.sm hs (by decide), (h4.smC hs (by decide)).smM hr (by decide) (fun j _ => by rw [hr.2 0 (by decide)]), fun i hi q hq e => hP q (h5 i hi q hq ?_)⟩
  rw [hs.2 8 (by decide)] at e; exact e
/-- three pages are marked, first in the reference, then in the class -/
theorem MD.marks {g : Nat} (hg : 30 < g) {S R : Mem} {P : Nat → Pg} {pl : List Nat} {a b c : Nat} (h : MD S R P pl []) (ha : a ∈ pl) (hb : b ∈ pl) (hc : c ∈ pl) : ∃ S' R', f_X4_soilThree g S (nI a) (nI b) (nI c) = some S' ∧ bd (f_X5_change g R (nI a)) (fun R1 => bd (f_X5_change g R1 (nI b)) (fun R2 => bd (f_X5_change g R2 (nI c)) (fun R3 => some R3))) = some R' ∧ MD S' R' P pl [] ∧ smX [10] S S' ∧ smX [10] R R' := by
  obtain ⟨h1, h2, h3, h4, h5⟩ := h
  obtain ⟨R1, a1, a2, a3⟩ := chgE hg h3 h4 ha
  obtain ⟨R2, b1, b2, b3⟩ := chgE hg h3 a2 hb
  obtain ⟨R3, c1, c2, c3⟩ := chgE hg h3 b2 hc
  obtain ⟨S', d1, d2, d3, d4⟩ := soil3E hg h3 c2 ha hb hc (fun y => by simp; omega)
  refine ⟨S', R3, d1, by rw [a1, bdS, b1, bdS, c1, bdS], ⟨h1.sm d4 (by decide), ((h2.sm a3 (by decide)).sm b3 (by decide)).sm c3 (by decide), d2, d3, h5.sm d4 (by decide)⟩, d4, (a3.tr b3).tr c3⟩
theorem m_other {R : Mem} {P : Nat → Pg} (h : RM R P) {p i : Nat} {e : It} (hp : p < 40) (he : (P p).2.1[i]? = some e) : R.1 4 (5 * p + i) = e.2 := ((h p hp).2.2.2.2 i e he).2
theorem m_key {R : Mem} {P : Nat → Pg} (h : RM R P) {p i : Nat} {e : It} (hp : p < 40) (he : (P p).2.1[i]? = some e) : R.1 3 (5 * p + i) = e.1 := ((h p hp).2.2.2.2 i e he).1
theorem getX1 (X Y : List It) (z z2 : It) : (X ++ z :: z2 :: Y)[X.length + 1]? = some z2 := by
  rw [List.getElem?_append_right (by omega), show X.length + 1 - X.length = 1 by omega]; rfl
set_option maxHeartbeats 2000000 in
theorem c_giveL {g : Nat} (hg : 30 < g) {S : Mem} {P : Nat → Pg} (hR : RC S P) {l r par : Nat} (hl : l < 40) (hr : r < 40) (hp : par < 40) (hlr : l ≠ r) (hpl : par ≠ l) (hpr : par ≠ r) {X Y A C : List It} {m1 m2 a b c0 d0 : Int32} (hpar : (P par).2.1 = X ++ (m1, nI l) :: (m2, nI r) :: Y) (hkp : (P par).1 = 2) (hkn : (P par).2.2 = -1) (hA : (P l).2.1 = A ++ [(a, b)]) (hC : (P r).2.1 = (c0, d0) :: C) (hC3 : C.length ≤ 3) (hk : (P r).1 = (P l).1) :
    ∃ S1, (f_X4_giveFromLeft g S (nI par) (nI (X.length + 1)) (nI l) (nI r) = bd (f_X4_soilThree g S1 (nI l) (nI r) (nI par)) (fun S16 => some S16)) ∧ RC S1 (gvl P l r par X Y A C m1 m2 a b c0 d0) ∧ smX [3, 4, 5, 6] S S1 := by
  have hla : (P l).2.1.length = A.length + 1 := by rw [hA]; simp
  have hl5 := (hR l hl).2.2.2.1
  obtain ⟨S8, a1, a2, a3⟩ := c_del hg hR (p := l) (X := A) (Y := []) (z := (a, b)) hl hA
  rw [List.append_nil] at a2
  have q1 : (sp P l ((P l).1, A, (P l).2.2)) r = P r := sp_n _ _ (Ne.symm hlr)
  have qp : (sp P l ((P l).1, A, (P l).2.2)) par = P par := sp_n _ _ hpl
  have hlast : (P l).2.1[A.length]? = some (a, b) := by rw [hA]; exact getX _ _ _
  have hfin : ∀ (T : Mem) (Q : Nat → Pg), RC T Q → Q par = P par → ∃ T', f_X0_setKey g T (nI par) (nI (X.length + 1)) a = some T' ∧ RC T' (sp Q par (2, X ++ (m1, nI l) :: (a, nI r) :: Y, -1)) ∧ smX [5] T T' := by
    intro T Q hT hQ
    obtain ⟨T', b1, b2, b3⟩ := c_setK (g := g) hT (p := par) (X := X ++ [(m1, nI l)]) (Y := Y) (m := m2) (v := nI r) a hp (by rw [hQ, hpar]; simp)
    rw [hQ, hkp, hkn] at b2
    rw [List.length_append] at b1
    exact ⟨T', b1, by simpa using b2, b3⟩
  have hhead : f_X4_giveFromLeft g S (nI par) (nI (X.length + 1)) (nI l) (nI r) = (if (P r).1 = 1 then (bd (f_X0_insert g S8 (nI r) 0 a b) (fun S25 => bd (f_X0_setKey g S25 (nI par) (nI (X.length + 1)) a) (fun S14 => bd (f_X4_soilThree g S14 (nI l) (nI r) (nI par)) (fun S16 => some S16)))) else (bd (f_X0_keyAt g S8 (nI par) (nI (X.length + 1))) (fun r19 => bd (f_X0_setKey g S8 (nI r) 0 r19) (fun S21 => bd (f_X0_insert g S21 (nI r) 0 0 b) (fun S23 => bd (f_X0_setKey g S23 (nI par) (nI (X.length + 1)) a) (fun S14 => bd (f_X4_soilThree g S14 (nI l) (nI r) (nI par)) (fun S16 => some S16))))))) := by
    unfold f_X4_giveFromLeft
    rw [c_count hR hl, bdS, hla, nI_pred, c_key hR hl hlast, bdS, c_sec hR hl hlast, bdS, a1, bdS, c_kind a2 hr, bdS, q1]
    rfl
  by_cases k1 : (P r).1 = 1
  · obtain ⟨S25, b1, b2, b3⟩ := c_ins hg a2 (p := r) (X := []) (Y := (c0, d0) :: C) a b hr (by rw [q1, hC]; rfl) (by simp; omega)
    rw [q1] at b2
    obtain ⟨S14, c1, c2, c3⟩ := hfin S25 _ b2 (by rw [sp_n _ _ hpr, qp])
    refine ⟨S14, ?_, ?_, (a3.wk (by simp)).tr ((b3.wk (by simp)).tr (c3.wk (by simp)))⟩
    · have b1' : f_X0_insert g S8 (nI r) 0 a b = some S25 := b1
      rw [hhead, if_pos k1, b1', bdS, c1, bdS]
    · unfold gvl
      rw [if_pos (by rw [← hk]; exact k1)]
      exact c2
  · obtain ⟨S21, b1, b2, b3⟩ := c_setK (g := g) a2 (p := r) (X := []) (Y := C) (m := c0) (v := d0) m2 hr (by rw [q1, hC]; rfl)
    rw [q1] at b2
    obtain ⟨S23, c1, c2, c3⟩ := c_ins hg b2 (p := r) (X := []) (Y := (m2, d0) :: C) 0 b hr (by rw [sp_s]) (by simp; omega)
    rw [sp_s] at c2
    obtain ⟨S14, d1, d2, d3⟩ := hfin S23 _ c2 (by rw [sp_n _ _ hpr, sp_n _ _ hpr, qp])
    refine ⟨S14, ?_, ?_, ((a3.wk (by simp)).tr (b3.wk (by simp))).tr ((c3.wk (by simp)).tr (d3.wk (by simp)))⟩
    · have b1' : f_X0_setKey g S8 (nI r) 0 m2 = some S21 := b1
      have c1' : f_X0_insert g S21 (nI r) 0 0 b = some S23 := c1
      rw [hhead, if_neg k1, c_key a2 hp (show (sp P l ((P l).1, A, (P l).2.2) par).2.1[X.length + 1]? = some (m2, nI r) by rw [qp, hpar]; exact getX1 _ _ _ _), bdS, b1', bdS, c1', bdS, d1, bdS]
    · unfold gvl
      rw [if_neg (by rw [← hk]; exact k1)]
      have : sp (sp (sp P l ((P l).1, A, (P l).2.2)) r ((P r).1, [] ++ (m2, d0) :: C, (P r).2.2)) r ((P r).1, [] ++ (0, b) :: (m2, d0) :: C, (P r).2.2) = sp (sp P l ((P l).1, A, (P l).2.2)) r ((P r).1, (0, b) :: (m2, d0) :: C, (P r).2.2) := by
        funext y
        unfold sp
        by_cases e : y = r
        · simp [e]
        · simp [e]
      rw [← this]; exact d2
set_option maxHeartbeats 4000000 in
theorem m_giveL {g : Nat} (hg : 30 < g) {R : Mem} {P : Nat → Pg} (hR : RM R P) {l r par : Nat} (hl : l < 40) (hr : r < 40) (hp : par < 40) (hlr : l ≠ r) (hpl : par ≠ l) (hpr : par ≠ r) {X Y A C : List It} {m1 m2 a b c0 d0 : Int32} (hpar : (P par).2.1 = X ++ (m1, nI l) :: (m2, nI r) :: Y) (hkp : (P par).1 = 2) (hkn : (P par).2.2 = -1) (hA : (P l).2.1 = A ++ [(a, b)]) (hC : (P r).2.1 = (c0, d0) :: C) (hC3 : C.length ≤ 3) (hk12 : (P l).1 = 1 ∨ (P l).1 = 2) (hk : (P r).1 = (P l).1) :
    ∃ M, (f_X5_give g R (nI par) (nI X.length) 1 = bd (f_X5_change g M (nI l)) (fun R1 => bd (f_X5_change g R1 (nI r)) (fun R2 => bd (f_X5_change g R2 (nI par)) (fun R3 => some R3)))) ∧ RM M (gvl P l r par X Y A C m1 m2 a b c0 d0) ∧ smX [2, 3, 4, 5] R M := by
  have hla : (P l).2.1.length = A.length + 1 := by rw [hA]; simp
  have hl5 := (hR l hl).2.2.2.1
  have hx5 : X.length + 1 < 5 := hR.i5 hp (show (P par).2.1[X.length + 1]? = some (m2, nI r) by rw [hpar]; exact getX1 _ _ _ _)
  have e2 : nI (5 * par + X.length) + 1 = nI (5 * par + (X.length + 1)) := nI_1 _
  have o1 : R.1 4 (5 * par + X.length) = nI l := m_other hR hp (e := (m1, nI l)) (by rw [hpar]; exact getX _ _ _)
  have o2 : R.1 4 (5 * par + (X.length + 1)) = nI r := m_other hR hp (e := (m2, nI r)) (by rw [hpar]; exact getX1 _ _ _ _)
  have o3 : R.1 3 (5 * par + (X.length + 1)) = m2 := m_key hR hp (e := (m2, nI r)) (by rw [hpar]; exact getX1 _ _ _ _)
  have z2 : R.1 2 l = nI (A.length + 1) := by rw [(hR l hl).2.1, hla]
  have z1 : R.1 1 l = (P l).1 := (hR l hl).1
  have e3 : nI (5 * l + (A.length + 1)) - 1 = nI (5 * l + A.length) := nI_pred (5 * l + A.length)
  have hhead : ∀ S31 : Mem, S31 = (if (P l).1 = 2 then up R 3 (5 * r) m2 else R) → f_X5_give g R (nI par) (nI X.length) 1 = bd (f_X5_insert g S31 (nI r) 0 (if (P l).1 = 2 then 0 else S31.1 3 (5 * l + A.length)) (S31.1 4 (5 * l + A.length))) (fun S38 => bd (f_X5_change g (up (up S38 2 l ((S38.1 2 l) - 1)) 3 (5 * par + (X.length + 1)) (S31.1 3 (5 * l + A.length))) (nI l)) (fun R1 => bd (f_X5_change g R1 (nI r)) (fun R2 => bd (f_X5_change g R2 (nI par)) (fun R3 => some R3)))) := by
    intro S31 hS31
    unfold f_X5_give
    simp only [jn1, nI_m5, nI_add, e2, gdI (show 5 * par + X.length < 200 by omega) (show 200 < 2 ^ 31 by decide), gdI (show 5 * par + (X.length + 1) < 200 by omega) (show 200 < 2 ^ 31 by decide), nI_clamp (show 5 * par + X.length < 2 ^ 31 by omega), nI_clamp (show 5 * par + (X.length + 1) < 2 ^ 31 by omega), o1, o2, o3, gdI hl (show 40 < 2 ^ 31 by decide), nI_clamp (show l < 2 ^ 31 by omega), z1, z2, e3, gdI (show 5 * l + A.length < 200 by omega) (show 200 < 2 ^ 31 by decide), nI_clamp (show 5 * l + A.length < 2 ^ 31 by omega), gdI (show 5 * r < 200 by omega) (show 200 < 2 ^ 31 by decide), nI_clamp (show 5 * r < 2 ^ 31 by omega)]
    have n10 : ¬ (1 : Int32) = 0 := by decide
    rw [hS31]
    by_cases k2 : (P l).1 = 2
    · simp only [if_pos k2, if_neg n10]
    · simp only [if_neg k2, if_neg n10, if_true]
  have hrest : ∀ (S31 : Mem) (Q : Nat → Pg) (W : List It) (kk : Int32), RM S31 Q → Q l = P l → Q par = P par → (Q r).1 = (P r).1 → (Q r).2.2 = (P r).2.2 → (Q r).2.1 = W → W.length < 5 → smX [3] R S31 → ∃ M S38, f_X5_insert g S31 (nI r) 0 kk b = some S38 ∧ M = up (up S38 2 l ((S38.1 2 l) - 1)) 3 (5 * par + (X.length + 1)) a ∧ RM M (sp (sp (sp Q r ((P r).1, (kk, b) :: W, (P r).2.2)) l ((P l).1, A, (P l).2.2)) par (2, X ++ (m1, nI l) :: (a, nI r) :: Y, -1)) ∧ smX [2, 3, 4, 5] R M := by
    intro S31 Q W kk h1 h2 h3 h4 h5 h6 h7 h8
    obtain ⟨S38, b1, b2, b3⟩ := m_ins hg h1 (p := r) (X := []) (Y := W) kk b hr (by rw [h6]; rfl) (by simp; omega)
    rw [h4, h5] at b2
    simp only [List.nil_append] at b2
    have zl : S38.1 2 l = nI (A.length + 1) := by rw [(b2 l hl).2.1, sp_n _ _ hlr, h2, hla]
    have b4 : RM (up S38 2 l (nI A.length)) (sp (sp Q r ((P r).1, (kk, b) :: W, (P r).2.2)) l ((P l).1, A, (P l).2.2)) := by
      have := Rp.cut (f' := (up S38 2 l (nI A.length)).1) (X := A) (Y := [(a, b)]) b2 hl (by rw [sp_n _ _ hlr, h2]; exact hA) (upN _ _ _ (by decide)) (upN _ _ _ (by decide)) (fun y => by rw [upA]; simp) (upN _ _ _ (by decide)) (upN _ _ _ (by decide))
      rw [sp_n _ _ hlr, h2] at this
      exact this
    refine ⟨_, S38, b1, rfl, ?_, ?_⟩
    · rw [zl, nI_pred]
      have := Rp.key (f' := (up (up S38 2 l (nI A.length)) 3 (5 * par + (X.length + 1)) a).1) (X := X ++ [(m1, nI l)]) (Y := Y) (m := m2) (v := nI r) (k := a) b4 hp (by rw [sp_n _ _ hpl, sp_n _ _ hpr, h3, hpar]; simp) (upN _ _ _ (by decide)) (upN _ _ _ (by decide)) (upN _ _ _ (by decide)) (fun c => by rw [upA]; simp) (upN _ _ _ (by decide))
      rw [sp_n _ _ hpl, sp_n _ _ hpr, h3, hkp, hkn] at this
      simpa using this
    · exact (((h8.wk (by simp)).tr (b3.wk (by simp))).up _ _ (by decide)).up _ _ (by decide)
  have hlast : (P l).2.1[A.length]? = some (a, b) := by rw [hA]; exact getX _ _ _
  by_cases k2 : (P l).1 = 2
  · have c1 : RM (up R 3 (5 * r) m2) (sp P r ((P r).1, (m2, d0) :: C, (P r).2.2)) := by
      have := Rp.key (f' := (up R 3 (5 * r) m2).1) (X := []) (Y := C) (m := c0) (v := d0) (k := m2) hR hr (by rw [hC]; rfl) (upN _ _ _ (by decide)) (upN _ _ _ (by decide)) (upN _ _ _ (by decide)) (fun c => by rw [upA]; simp) (upN _ _ _ (by decide))
      exact this
    obtain ⟨M, S38, f1, f2, f3, f4⟩ := hrest (up R 3 (5 * r) m2) _ ((m2, d0) :: C) 0 c1 (sp_n _ _ hlr) (sp_n _ _ hpr) (by rw [sp_s]) (by rw [sp_s]) (by rw [sp_s]) (by simp; omega) (smX.rf.up _ _ (by decide))
    refine ⟨M, ?_, ?_, f4⟩
    · have ka := m_key c1 hl (i := A.length) (e := (a, b)) (by rw [sp_n _ _ hlr]; exact hlast)
      have kb := m_other c1 hl (i := A.length) (e := (a, b)) (by rw [sp_n _ _ hlr]; exact hlast)
      rw [hhead _ rfl, if_pos k2, if_pos k2, kb, ka]
      have f1' : f_X5_insert g (up R 3 (5 * r) m2) (nI r) 0 0 b = some S38 := f1
      rw [f1', bdS, ← f2]
    · have : sp (sp (sp (sp P r ((P r).1, (m2, d0) :: C, (P r).2.2)) r ((P r).1, (0, b) :: (m2, d0) :: C, (P r).2.2)) l ((P l).1, A, (P l).2.2)) par (2, X ++ (m1, nI l) :: (a, nI r) :: Y, -1) = gvl P l r par X Y A C m1 m2 a b c0 d0 := by
        unfold gvl
        rw [if_neg (by rw [k2]; decide)]
        funext y
        simp only [sp]
        by_cases y1 : y = par
        · simp [y1]
        · by_cases y2 : y = l
          · subst y2; simp [y1, hlr]
          · by_cases y3 : y = r
            · subst y3; simp [y1, y2]
            · simp [y1, y2, y3]
      rw [← this]; exact f3
  · have k1 : (P l).1 = 1 := hk12.resolve_right k2
    obtain ⟨M, S38, f1, f2, f3, f4⟩ := hrest R P ((c0, d0) :: C) a hR rfl rfl rfl rfl hC (by simp; omega) smX.rf
    refine ⟨M, ?_, ?_, f4⟩
    · have ka := m_key hR hl hlast
      have kb := m_other hR hl hlast
      simp only at ka kb
      rw [hhead R (by rw [if_neg k2]), if_neg k2, kb, ka]
      have f1' : f_X5_insert g R (nI r) 0 a b = some S38 := f1
      rw [f1', bdS, ← f2]
    · have : sp (sp (sp P r ((P r).1, (a, b) :: (c0, d0) :: C, (P r).2.2)) l ((P l).1, A, (P l).2.2)) par (2, X ++ (m1, nI l) :: (a, nI r) :: Y, -1) = gvl P l r par X Y A C m1 m2 a b c0 d0 := by
        unfold gvl
        rw [if_pos k1]
        funext y
        simp only [sp]
        by_cases y1 : y = par
        · simp [y1]
        · by_cases y2 : y = l
          · subst y2; simp [y1, hlr]
          · by_cases y3 : y = r
            · subst y3; simp [y1, y2]
            · simp [y1, y2, y3]
      rw [← this]; exact f3
