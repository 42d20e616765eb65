set_option maxHeartbeats 2000000 in
theorem c_giveR {g : Nat} (hg : 30 < g) {S : Mem} {P : Nat → Pg} (hR : RC S P) {l r par : Nat} (hl : l < 40) (hr : r < 40) (hp : par < 40) (hlr : l ≠ r) (hpl : par ≠ l) (hpr : par ≠ r) {X Y A C : List It} {m1 m2 c0 d0 c1 d1 : Int32} (hpar : (P par).2.1 = X ++ (m1, nI l) :: (m2, nI r) :: Y) (hkp : (P par).1 = 2) (hkn : (P par).2.2 = -1) (hA : (P l).2.1 = A) (hA4 : A.length < 5) (hC : (P r).2.1 = (c0, d0) :: (c1, d1) :: C) (hk12 : (P l).1 = 1 ∨ (P l).1 = 2) (hk : (P r).1 = (P l).1) :
    ∃ S1, (f_X4_giveFromRight g S (nI par) (nI (X.length + 1)) (nI l) (nI r) = bd (f_X4_soilThree g S1 (nI l) (nI r) (nI par)) (fun S16 => some S16)) ∧ RC S1 (gvr P l r par X Y A C m1 m2 c0 d0 c1 d1) ∧ smX [3, 4, 5, 6] S S1 := by
  have h0 : (P r).2.1[0]? = some (c0, d0) := by rw [hC]; rfl
  obtain ⟨S10, a1, a2, a3⟩ := c_del hg hR (p := r) (X := []) (Y := (c1, d1) :: C) (z := (c0, d0)) hr (by rw [hC]; rfl)
  simp only [List.nil_append] at a2
  have ql : (sp P r ((P r).1, (c1, d1) :: C, (P r).2.2)) l = P l := sp_n _ _ hlr
  have qp : (sp P r ((P r).1, (c1, d1) :: C, (P r).2.2)) par = P par := sp_n _ _ hpr
  obtain ⟨kk, hkk⟩ : ∃ kk : Int32, kk = if (P l).1 = 1 then c0 else m2 := ⟨_, rfl⟩
  obtain ⟨S16, b1, b2, b3⟩ := c_ins hg a2 (p := l) (X := A) (Y := []) kk d0 hl (by rw [ql, hA]; simp) (by simp; omega)
  rw [ql] at b2
  have q2p : (sp (sp P r ((P r).1, (c1, d1) :: C, (P r).2.2)) l ((P l).1, A ++ [(kk, d0)], (P l).2.2)) par = P par := by rw [sp_n _ _ hpl, qp]
  have q2r : (sp (sp P r ((P r).1, (c1, d1) :: C, (P r).2.2)) l ((P l).1, A ++ [(kk, d0)], (P l).2.2)) r = ((P r).1, (c1, d1) :: C, (P r).2.2) := by rw [sp_n _ _ (Ne.symm hlr), sp_s]
  obtain ⟨S20, f1, f2, f3⟩ := c_setK (g := g) b2 (p := par) (X := X ++ [(m1, nI l)]) (Y := Y) (m := m2) (v := nI r) c1 hp (by rw [q2p, hpar]; simp)
  rw [q2p, hkp, hkn] at f2
  have f2' : RC S20 (sp (sp (sp P r ((P r).1, (c1, d1) :: C, (P r).2.2)) l ((P l).1, A ++ [(kk, d0)], (P l).2.2)) par (2, X ++ (m1, nI l) :: (c1, nI r) :: Y, -1)) := by simpa using f2
  rw [List.length_append] at f1
  have q3r : (sp (sp (sp P r ((P r).1, (c1, d1) :: C, (P r).2.2)) l ((P l).1, A ++ [(kk, d0)], (P l).2.2)) par (2, X ++ (m1, nI l) :: (c1, nI r) :: Y, -1)) r = ((P r).1, (c1, d1) :: C, (P r).2.2) := by rw [sp_n _ _ (Ne.symm hpr), q2r]
  have kmark : f_X0_keyAt g S10 (nI par) (nI (X.length + 1)) = some m2 := c_key a2 hp (e := (m2, nI r)) (by rw [qp, hpar]; exact getX1 _ _ _ _)
  have k16 : f_X0_keyAt g S16 (nI r) 0 = some c1 := c_key b2 hr (i := 0) (e := (c1, d1)) (by rw [q2r]; rfl)
  have hcnt : f_X0_countOf g S10 (nI l) = some (nI A.length) := by rw [c_count a2 hl, ql, hA]
  have k0 : f_X0_keyAt g S (nI r) 0 = some c0 := c_key hR hr (i := 0) (e := (c0, d0)) h0
  have s0 : f_X0_secondAt g S (nI r) 0 = some d0 := c_sec hR hr (i := 0) (e := (c0, d0)) h0
  have a1' : f_X0_delete g S (nI r) 0 = some S10 := a1
  have f1' : f_X0_setKey g S16 (nI par) (nI (X.length + 1)) c1 = some S20 := f1
  have n10 : ¬ (1 : Int32) = 0 := by decide
  have hhead : f_X4_giveFromRight g S (nI par) (nI (X.length + 1)) (nI l) (nI r) = (if (P l).1 = 1 then bd (f_X4_soilThree g S20 (nI l) (nI r) (nI par)) (fun S24 => some S24) else bd (f_X0_setKey g S20 (nI r) 0 0) (fun S27 => bd (f_X4_soilThree g S27 (nI l) (nI r) (nI par)) (fun S24 => some S24))) := by
    unfold f_X4_giveFromRight
    rw [k0, bdS, s0, bdS, c_kind hR hr, bdS, hk]
    simp only [jn1, a1', bdS, hcnt]
    by_cases k1 : (P l).1 = 1
    · simp only [if_pos k1, if_neg n10]
      rw [if_pos k1] at hkk
      rw [← hkk, b1, bdS, k16, bdS, f1', bdS]
    · simp only [if_neg k1, if_true, kmark, bdS]
      rw [if_neg k1] at hkk
      rw [← hkk, b1, bdS, k16, bdS, f1', bdS]
  by_cases k1 : (P l).1 = 1
  · refine ⟨S20, by rw [hhead, if_pos k1], ?_, (a3.wk (by simp)).tr ((b3.wk (by simp)).tr (f3.wk (by simp)))⟩
    have : sp (sp (sp P r ((P r).1, (c1, d1) :: C, (P r).2.2)) l ((P l).1, A ++ [(kk, d0)], (P l).2.2)) par (2, X ++ (m1, nI l) :: (c1, nI r) :: Y, -1) = gvr P l r par X Y A C m1 m2 c0 d0 c1 d1 := by
      unfold gvr
      rw [hkk]
      simp only [if_pos k1]
      funext y
      simp only [sp]
      by_cases y1 : y = par
      · simp [y1]
      · by_cases y2 : y = l
        · subst y2; simp [y1, hlr]
        · simp [y1, y2]
    rw [← this]; exact f2'
  · obtain ⟨S27, g1, g2, g3⟩ := c_setK (g := g) f2' (p := r) (X := []) (Y := C) (m := c1) (v := d1) 0 hr (by rw [q3r]; rfl)
    rw [q3r] at g2
    have g1' : f_X0_setKey g S20 (nI r) 0 0 = some S27 := g1
    refine ⟨S27, by rw [hhead, if_neg k1, g1', bdS], ?_, (a3.wk (by simp)).tr ((b3.wk (by simp)).tr ((f3.wk (by simp)).tr (g3.wk (by simp))))⟩
    have : sp (sp (sp (sp P r ((P r).1, (c1, d1) :: C, (P r).2.2)) l ((P l).1, A ++ [(kk, d0)], (P l).2.2)) par (2, X ++ (m1, nI l) :: (c1, nI r) :: Y, -1)) r ((P r).1, [] ++ (0, d1) :: C, (P r).2.2) = gvr P l r par X Y A C m1 m2 c0 d0 c1 d1 := by
      unfold gvr
      rw [hkk]
      simp only [if_neg k1]
      funext y
      simp only [sp]
      by_cases y1 : y = par
      · subst y1; simp [hpr]
      · by_cases y2 : y = l
        · subst y2; simp [y1, hlr]
        · by_cases y3 : y = r
          · subst y3; simp [y1]
          · simp [y1, y2, y3]
    rw [← this]; exact g2
set_option maxHeartbeats 4000000 in
theorem m_giveR {g : Nat} (hg : 30 < g) {R : Mem} {P : Nat → Pg} (hR : RM R P) {l r par : Nat} (hl : l < 40) (hr : r < 40) (hp : par < 40) (hlr : l ≠ r) (hpl : par ≠ l) (hpr : par ≠ r) {X Y A C : List It} {m1 m2 c0 d0 c1 d1 : Int32} (hpar : (P par).2.1 = X ++ (m1, nI l) :: (m2, nI r) :: Y) (hkp : (P par).1 = 2) (hkn : (P par).2.2 = -1) (hA : (P l).2.1 = A) (hA4 : A.length < 5) (hC : (P r).2.1 = (c0, d0) :: (c1, d1) :: C) (hk12 : (P l).1 = 1 ∨ (P l).1 = 2) (hk : (P r).1 = (P l).1) :
    ∃ M, (f_X5_give g R (nI par) (nI X.length) 0 = bd (f_X5_change g M (nI l)) (fun R1 => bd (f_X5_change g R1 (nI r)) (fun R2 => bd (f_X5_change g R2 (nI par)) (fun R3 => some R3)))) ∧ RM M (gvr P l r par X Y A C m1 m2 c0 d0 c1 d1) ∧ smX [2, 3, 4, 5] R M := by
  have hx5 : X.length + 1 < 5 := hR.i5 hp (show (P par).2.1[X.length + 1]? = some (m2, nI r) by rw [hpar]; exact getX1 _ _ _ _)
  have e2 : nI (5 * par + X.length) + 1 = nI (5 * par + (X.length + 1)) := nI_1 _
  have o1 : R.1 4 (5 * par + X.length) = nI l := m_other hR hp (e := (m1, nI l)) (by rw [hpar]; exact getX _ _ _)
  have o2 : R.1 4 (5 * par + (X.length + 1)) = nI r := m_other hR hp (e := (m2, nI r)) (by rw [hpar]; exact getX1 _ _ _ _)
  have o3 : R.1 3 (5 * par + (X.length + 1)) = m2 := m_key hR hp (e := (m2, nI r)) (by rw [hpar]; exact getX1 _ _ _ _)
  have o4 : R.1 3 (5 * r) = c0 := m_key hR hr (i := 0) (e := (c0, d0)) (by rw [hC]; rfl)
  have o5 : R.1 4 (5 * r) = d0 := m_other hR hr (i := 0) (e := (c0, d0)) (by rw [hC]; rfl)
  have z2 : R.1 2 l = nI A.length := by rw [(hR l hl).2.1, hA]
  have z1 : R.1 1 l = (P l).1 := (hR l hl).1
  obtain ⟨kk, hkk⟩ : ∃ kk : Int32, kk = if (P l).1 = 1 then c0 else m2 := ⟨_, rfl⟩
  obtain ⟨S20, b1, b2, b3⟩ := m_ins hg hR (p := l) (X := A) (Y := []) kk d0 hl (by rw [hA]; simp) (by simp; omega)
  have ql : (sp P l ((P l).1, A ++ [(kk, d0)], (P l).2.2)) r = P r := sp_n _ _ (Ne.symm hlr)
  obtain ⟨S22, a1, a2, a3⟩ := m_del hg b2 (p := r) (X := []) (Y := (c1, d1) :: C) (z := (c0, d0)) hr (by rw [ql, hC]; rfl)
  rw [ql] at a2
  simp only [List.nil_append] at a2
  have q2p : (sp (sp P l ((P l).1, A ++ [(kk, d0)], (P l).2.2)) r ((P r).1, (c1, d1) :: C, (P r).2.2)) par = P par := by rw [sp_n _ _ hpr, sp_n _ _ hpl]
  have k22 : S22.1 3 (5 * r) = c1 := m_key a2 hr (i := 0) (e := (c1, d1)) (by rw [sp_s]; rfl)
  have f2 : RM (up S22 3 (5 * par + (X.length + 1)) c1) (sp (sp (sp P l ((P l).1, A ++ [(kk, d0)], (P l).2.2)) r ((P r).1, (c1, d1) :: C, (P r).2.2)) par (2, X ++ (m1, nI l) :: (c1, nI r) :: Y, -1)) := by
    have := Rp.key (f' := (up S22 3 (5 * par + (X.length + 1)) c1).1) (X := X ++ [(m1, nI l)]) (Y := Y) (m := m2) (v := nI r) (k := c1) a2 hp (by rw [q2p, hpar]; simp) (upN _ _ _ (by decide)) (upN _ _ _ (by decide)) (upN _ _ _ (by decide)) (fun c => by rw [upA]; simp) (upN _ _ _ (by decide))
    rw [q2p, hkp, hkn] at this
    simpa using this
  have a1' : f_X5_removeAt g S20 (nI r) 0 = some S22 := a1
  have n10 : ¬ (1 : Int32) = 0 := by decide
  have hhead : f_X5_give g R (nI par) (nI X.length) 0 = bd (f_X5_change g (if (P l).1 = 1 then up S22 3 (5 * par + (X.length + 1)) c1 else up (up S22 3 (5 * par + (X.length + 1)) c1) 3 (5 * r) 0) (nI l)) (fun R1 => bd (f_X5_change g R1 (nI r)) (fun R2 => bd (f_X5_change g R2 (nI par)) (fun R3 => some R3))) := by
    unfold f_X5_give
    simp only [jn1, nI_m5, nI_add, e2, gdI (show 5 * par + X.length < 200 by omega) (show 200 < 2 ^ 31 by decide), gdI (show 5 * par + (X.length + 1) < 200 by omega) (show 200 < 2 ^ 31 by decide), nI_clamp (show 5 * par + X.length < 2 ^ 31 by omega), nI_clamp (show 5 * par + (X.length + 1) < 2 ^ 31 by omega), o1, o2, o3, gdI hl (show 40 < 2 ^ 31 by decide), nI_clamp (show l < 2 ^ 31 by omega), z1, z2, gdI (show 5 * r < 200 by omega) (show 200 < 2 ^ 31 by decide), nI_clamp (show 5 * r < 2 ^ 31 by omega), o4, o5]
    by_cases k2 : (P l).1 = 2
    · have k1 : ¬ (P l).1 = 1 := by rw [k2]; decide
      rw [if_neg k1] at hkk
      simp only [if_pos k2, if_neg k1, if_neg n10, if_true]
      rw [← hkk, b1, bdS, a1', bdS, k22]
    · have k1 : (P l).1 = 1 := hk12.resolve_right k2
      rw [if_pos k1] at hkk
      simp only [if_neg k2, if_pos k1, if_true]
      rw [← hkk, b1, bdS, a1', bdS, k22]
  have hs : smX [2, 3, 4, 5] R (up S22 3 (5 * par + (X.length + 1)) c1) := ((b3.wk (by simp)).tr (a3.wk (by simp))).up _ _ (by decide)
  have q3r : (sp (sp (sp P l ((P l).1, A ++ [(kk, d0)], (P l).2.2)) r ((P r).1, (c1, d1) :: C, (P r).2.2)) par (2, X ++ (m1, nI l) :: (c1, nI r) :: Y, -1)) r = ((P r).1, (c1, d1) :: C, (P r).2.2) := by rw [sp_n _ _ (Ne.symm hpr), sp_s]
  by_cases k1 : (P l).1 = 1
  · refine ⟨_, hhead, ?_, ?_⟩
    · rw [if_pos k1]
      have : sp (sp (sp P l ((P l).1, A ++ [(kk, d0)], (P l).2.2)) r ((P r).1, (c1, d1) :: C, (P r).2.2)) par (2, X ++ (m1, nI l) :: (c1, nI r) :: Y, -1) = gvr P l r par X Y A C m1 m2 c0 d0 c1 d1 := by
        unfold gvr
        rw [hkk]
        simp only [if_pos k1]
      rw [← this]; exact f2
    · rw [if_pos k1]; exact hs
  · refine ⟨_, hhead, ?_, ?_⟩
    · rw [if_neg k1]
      have g2 := Rp.key (f' := (up (up S22 3 (5 * par + (X.length + 1)) c1) 3 (5 * r) 0).1) (X := []) (Y := C) (m := c1) (v := d1) (k := 0) f2 hr (by rw [q3r]; rfl) (upN _ _ _ (by decide)) (upN _ _ _ (by decide)) (upN _ _ _ (by decide)) (fun c => by rw [upA]; simp) (upN _ _ _ (by decide))
      rw [q3r] at g2
      have : sp (sp (sp (sp P l ((P l).1, A ++ [(kk, d0)], (P l).2.2)) r ((P r).1, (c1, d1) :: C, (P r).2.2)) par (2, X ++ (m1, nI l) :: (c1, nI r) :: Y, -1)) r ((P r).1, [] ++ (0, d1) :: C, (P r).2.2) = gvr P l r par X Y A C m1 m2 c0 d0 c1 d1 := by
        unfold gvr
        rw [hkk]
        simp only [if_neg k1]
        funext y
        simp only [sp]
        by_cases y1 : y = par
        · subst y1; simp [hpr]
        · by_cases y3 : y = r
          · subst y3; simp [y1]
          · simp [y1, y3]
      rw [← this]; exact g2
    · rw [if_neg k1]; exact hs.up _ _ (by decide)
