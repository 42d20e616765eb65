set_option maxHeartbeats 2000000 in
theorem c_join {g : Nat} (hg : 30 < g) {S : Mem} {P : Nat → Pg} (hR : RC S P) {l r par : Nat} (hl : l < 40) (hr : r < 40) (hp : par < 40) (hlr : l ≠ r) (hpl : par ≠ l) (hpr : par ≠ r) {X Y A C : List It} {m1 m2 c0 d0 : Int32} (hpar : (P par).2.1 = X ++ (m1, nI l) :: (m2, nI r) :: Y) (hkp : (P par).1 = 2) (hkn : (P par).2.2 = -1) (hA : (P l).2.1 = A) (hC : (P r).2.1 = (c0, d0) :: C) (h5 : A.length + C.length < 5) (hk12 : (P l).1 = 1 ∨ ((P l).1 = 2 ∧ (P l).2.2 = (P r).2.2)) (hk : (P r).1 = (P l).1) :
    ∃ S8, (f_X4_join g S (nI par) (nI (X.length + 1)) (nI l) (nI r) = bd (f_X4_soilThree g S8 (nI l) (nI r) (nI par)) (fun S10 => bd (f_X4_releasePage g S10 (nI r)) (fun S12 => some S12))) ∧ RC S8 (sp (sp (sp P l ((P l).1, A ++ (if (P l).1 = 1 then c0 else m2, d0) :: C, (P r).2.2)) r ((P r).1, [], (P r).2.2)) par (2, X ++ (m1, nI l) :: Y, -1)) ∧ smX [3, 4, 5, 6] S S8 := by
  have h0 : (P r).2.1[0]? = some (c0, d0) := by rw [hC]; rfl
  have hfin : ∀ (T : Mem) (Q : Nat → Pg) (kk : Int32), RC T Q → Q par = P par → Q r = ((P r).1, (kk, d0) :: C, (P r).2.2) → Q l = ((P l).1, A, (P r).2.2) → (∀ y, y ≠ l → y ≠ r → Q y = P y) → smX [3, 4, 5, 6] S T → ∃ S8, bd (f_X0_moveItems g T (nI r) 0 (nI l)) (fun S6 => bd (f_X0_delete g S6 (nI par) (nI (X.length + 1))) (fun S8 => bd (f_X4_soilThree g S8 (nI l) (nI r) (nI par)) (fun S10 => bd (f_X4_releasePage g S10 (nI r)) (fun S12 => some S12)))) = bd (f_X4_soilThree g S8 (nI l) (nI r) (nI par)) (fun S10 => bd (f_X4_releasePage g S10 (nI r)) (fun S12 => some S12)) ∧ RC S8 (sp (sp (sp P l ((P l).1, A ++ (kk, d0) :: C, (P r).2.2)) r ((P r).1, [], (P r).2.2)) par (2, X ++ (m1, nI l) :: Y, -1)) ∧ smX [3, 4, 5, 6] S S8 := by
    intro T Q kk hT hQp hQr hQl hQo hs
    obtain ⟨S6, a1, a2, a3⟩ := c_mov hg hT (a := r) (b := l) (X := []) (Y := (kk, d0) :: C) (Z := A) hr hl (Ne.symm hlr) (by rw [hQr]; rfl) (by rw [hQl]) (by simp; omega)
    rw [hQr, hQl] at a2
    simp only at a2
    obtain ⟨S8, b1, b2, b3⟩ := c_del hg a2 (p := par) (X := X ++ [(m1, nI l)]) (Y := Y) (z := (m2, nI r)) hp (by rw [sp_n _ _ hpl, sp_n _ _ hpr, hQp, hpar]; simp)
    rw [sp_n _ _ hpl, sp_n _ _ hpr, hQp, hkp, hkn] at b2
    rw [List.length_append] at b1
    have a1' : f_X0_moveItems g T (nI r) 0 (nI l) = some S6 := a1
    have b1' : f_X0_delete g S6 (nI par) (nI (X.length + 1)) = some S8 := b1
    refine ⟨S8, by rw [a1', bdS, b1', bdS], ?_, hs.tr ((a3.wk (by simp)).tr (b3.wk (by simp)))⟩
    have : sp (sp (sp Q r ((P r).1, [], (P r).2.2)) l ((P l).1, A ++ (kk, d0) :: C, (P r).2.2)) par (2, X ++ [(m1, nI l)] ++ Y, -1) = sp (sp (sp P l ((P l).1, A ++ (kk, d0) :: C, (P r).2.2)) r ((P r).1, [], (P r).2.2)) par (2, X ++ (m1, nI l) :: Y, -1) := by
      funext y
      simp only [sp]
      by_cases y1 : y = par
      · simp [y1]
      · by_cases y2 : y = l
        · subst y2; simp [y1, hlr]
        · by_cases y3 : y = r
          · subst y3; simp [y1, y2]
          · simp [y1, y2, y3, hQo y y2 y3]
    rw [← this]; exact b2
  have hhead : f_X4_join g S (nI par) (nI (X.length + 1)) (nI l) (nI r) = (if (P l).1 = 1 then (bd (f_X0_leafAfter g S (nI r)) (fun r19 => bd (f_X0_setLeafAfter g S (nI l) r19) (fun S21 => bd (f_X0_moveItems g S21 (nI r) 0 (nI l)) (fun S6 => bd (f_X0_delete g S6 (nI par) (nI (X.length + 1))) (fun S8 => bd (f_X4_soilThree g S8 (nI l) (nI r) (nI par)) (fun S10 => bd (f_X4_releasePage g S10 (nI r)) (fun S12 => some S12))))))) else (bd (f_X0_keyAt g S (nI par) (nI (X.length + 1))) (fun r15 => bd (f_X0_setKey g S (nI r) 0 r15) (fun S17 => bd (f_X0_moveItems g S17 (nI r) 0 (nI l)) (fun S6 => bd (f_X0_delete g S6 (nI par) (nI (X.length + 1))) (fun S8 => bd (f_X4_soilThree g S8 (nI l) (nI r) (nI par)) (fun S10 => bd (f_X4_releasePage g S10 (nI r)) (fun S12 => some S12)))))))) := by
    unfold f_X4_join
    rw [c_kind hR hl, bdS]
    rfl
  rcases hk12 with k1 | ⟨k2, hn⟩
  · obtain ⟨S21, a1, a2, a3⟩ := c_setN (g := g) hR (p := l) (P r).2.2 hl
    obtain ⟨S8, b1, b2, b3⟩ := hfin S21 _ c0 a2 (sp_n _ _ hpl) (by rw [sp_n _ _ (Ne.symm hlr), ← hC]) (by rw [sp_s, hA]) (fun y y1 _ => sp_n _ _ y1) (a3.wk (by simp))
    refine ⟨S8, ?_, by rw [if_pos k1]; exact b2, b3⟩
    rw [hhead, if_pos k1, c_next hR hr, bdS, a1, bdS]; exact b1
  · have k1 : ¬ (P l).1 = 1 := by rw [k2]; decide
    obtain ⟨S17, a1, a2, a3⟩ := c_setK (g := g) hR (p := r) (X := []) (Y := C) (m := c0) (v := d0) m2 hr (by rw [hC]; rfl)
    obtain ⟨S8, b1, b2, b3⟩ := hfin S17 _ m2 a2 (sp_n _ _ hpr) (by rw [sp_s]; rfl) (by rw [sp_n _ _ hlr, ← hA, ← hn]) (fun y _ y1 => sp_n _ _ y1) (a3.wk (by simp))
    refine ⟨S8, ?_, by rw [if_neg k1]; exact b2, b3⟩
    have a1' : f_X0_setKey g S (nI r) 0 m2 = some S17 := a1
    rw [hhead, if_neg k1, c_key hR hp (show (P par).2.1[X.length + 1]? = some (m2, nI r) by rw [hpar]; exact getX1 _ _ _ _), bdS, a1', bdS]; exact b1
theorem m_joL {g : Nat} (hg : 30 < g) {w1 w2 : Int32} {l r : Nat} (hl : l < 40) (hr : r < 40) (hlr : l ≠ r) : ∀ (Y X Z : List It) (n : Nat) (M : Mem) (Q : Nat → Pg), RM M Q → (Q r).2.1 = X ++ Y → (Q l).2.1 = Z → Z.length + Y.length ≤ 5 → Y.length < n → ∃ M', (∀ kx : Mem → Option Mem, f_X5_join_59 g w1 w2 (nI l) (nI r) kx n M (nI X.length) = kx M') ∧ RM M' (sp Q l ((Q l).1, Z ++ Y, (Q l).2.2)) ∧ smX [2, 3, 4] M M' := by
  intro Y
  induction Y with
  | nil =>
    intro X Z n M Q hR hx hz h5 hn
    obtain ⟨n, rfl⟩ : ∃ m, n = m + 1 := ⟨n - 1, by omega⟩
    have e : (Q r).2.1.length = X.length := by rw [hx]; simp
    have h5' := (hR r hr).2.2.2.1
    refine ⟨M, ?_, ?_, smX.rf⟩
    · intro kx; rw [f_X5_join_59, gdI hr (by decide), nI_clamp (by omega), (hR r hr).2.1, e, if_pos (nI_leN (by omega) (by omega) (by omega))]
    · have : sp Q l ((Q l).1, Z ++ [], (Q l).2.2) = Q := by
        funext y
        unfold sp
        by_cases e : y = l
        · rw [if_pos e, List.append_nil, ← hz, e]
        · rw [if_neg e]
      rw [this]; exact hR
  | cons y Y ih =>
    intro X Z n M Q hR hx hz h5 hn
    obtain ⟨n, rfl⟩ : ∃ m, n = m + 1 := ⟨n - 1, by omega⟩
    simp at h5 hn
    have e : (Q r).2.1.length = X.length + Y.length + 1 := by rw [hx]; simp; omega
    have h5' := (hR r hr).2.2.2.1
    obtain ⟨M1, a1, a2, a3⟩ := m_ins hg hR (p := l) (X := Z) (Y := []) y.1 y.2 hl (by rw [hz]; simp) (by simp; omega)
    obtain ⟨M', b1, b2, b3⟩ := ih (X ++ [y]) (Z ++ [y]) n M1 (sp Q l ((Q l).1, Z ++ [(y.1, y.2)], (Q l).2.2)) a2 (by rw [sp_n _ _ (Ne.symm hlr), hx]; simp) (by rw [sp_s]) (by simp; omega) (by omega)
    refine ⟨M', ?_, ?_, a3.tr b3⟩
    · intro kx
      have hc := (hR r hr).2.2.2.2 X.length y (by rw [hx]; exact getX _ _ _)
      rw [f_X5_join_59, gdI hr (by decide), nI_clamp (show r < 2 ^ 31 by omega), (hR r hr).2.1, e, if_neg (nI_nleN (by omega) (by omega) (by omega)), gdI hl (by decide), nI_m5, nI_add, gdI (by omega) (by decide), gdI (by omega) (by decide)]
      simp only [nI_clamp (show 5 * r + X.length < 2 ^ 31 by omega), nI_clamp (show l < 2 ^ 31 by omega), hc.1, hc.2, (hR l hl).2.1, hz, nI_1]
      rw [a1, bdS]
      have := b1 kx
      rw [List.length_append, List.length_singleton] at this
      exact this
    · have : sp (sp Q l ((Q l).1, Z ++ [(y.1, y.2)], (Q l).2.2)) l ((sp Q l ((Q l).1, Z ++ [(y.1, y.2)], (Q l).2.2) l).1, Z ++ [y] ++ Y, (sp Q l ((Q l).1, Z ++ [(y.1, y.2)], (Q l).2.2) l).2.2) = sp Q l ((Q l).1, Z ++ y :: Y, (Q l).2.2) := by
        rw [sp_s]
        funext z
        unfold sp
        by_cases e : z = l
        · rw [if_pos e, if_pos e]; simp
        · rw [if_neg e, if_neg e, if_neg e]
      rw [this] at b2; exact b2
set_option maxHeartbeats 4000000 in
theorem m_join {g : Nat} (hg : 30 < g) {R : Mem} {P : Nat → Pg} (hR : RM R P) {l r par : Nat} (hl : l < 40) (hr : r < 40) (hp : par < 40) (hlr : l ≠ r) (hpl : par ≠ l) (hpr : par ≠ r) {X Y A C : List It} {m1 m2 c0 d0 : Int32} (hpar : (P par).2.1 = X ++ (m1, nI l) :: (m2, nI r) :: Y) (hkp : (P par).1 = 2) (hkn : (P par).2.2 = -1) (hA : (P l).2.1 = A) (hC : (P r).2.1 = (c0, d0) :: C) (h5 : A.length + C.length < 5) (hk12 : (P l).1 = 1 ∨ (P l).1 = 2) (hk : (P r).1 = (P l).1) :
    ∃ M Z, (f_X5_join g R (nI par) (nI X.length) = bd (f_X5_release g M (nI r)) (fun S19 => bd (f_X5_change g S19 (nI l)) (fun S21 => bd (f_X5_change g S21 (nI par)) (fun S23 => some S23)))) ∧ RM M (sp (sp (sp P l ((P l).1, A ++ (if (P l).1 = 1 then c0 else m2, d0) :: C, (P r).2.2)) r ((P r).1, Z, (P r).2.2)) par (2, X ++ (m1, nI l) :: Y, -1)) ∧ smX [2, 3, 4, 5] R M := by
  have hx5 : X.length + 1 < 5 := hR.i5 hp (show (P par).2.1[X.length + 1]? = some (m2, nI r) by rw [hpar]; exact getX1 _ _ _ _)
  have e2 : nI (5 * par + X.length) + 1 = nI (5 * par + (X.length + 1)) := nI_1 _
  have o1 : R.1 4 (5 * par + X.length) = nI l := m_other hR hp (e := (m1, nI l)) (by rw [hpar]; exact getX _ _ _)
  have o2 : R.1 4 (5 * par + (X.length + 1)) = nI r := m_other hR hp (e := (m2, nI r)) (by rw [hpar]; exact getX1 _ _ _ _)
  have o3 : R.1 3 (5 * par + (X.length + 1)) = m2 := m_key hR hp (e := (m2, nI r)) (by rw [hpar]; exact getX1 _ _ _ _)
  have z1 : R.1 1 l = (P l).1 := (hR l hl).1
  have hhead : f_X5_join g R (nI par) (nI X.length) = f_X5_join_59 g (nI par) (nI X.length) (nI l) (nI r) (fun (S13 : Mem) => bd (f_X5_removeAt g (up S13 5 l (S13.1 5 r)) (nI par) (nI (X.length + 1))) (fun S17 => bd (f_X5_release g S17 (nI r)) (fun S19 => bd (f_X5_change g S19 (nI l)) (fun S21 => bd (f_X5_change g S21 (nI par)) (fun S23 => some S23))))) g (if (P l).1 = 2 then up R 3 (5 * r) m2 else R) 0 := by
    unfold f_X5_join
    simp only [jn1, nI_m5, nI_add, nI_1, e2, gdI (show 5 * par + X.length < 200 by omega) (show 200 < 2 ^ 31 by decide), gdI (show 5 * par + (X.length + 1) < 200 by omega) (show 200 < 2 ^ 31 by decide), nI_clamp (show 5 * par + X.length < 2 ^ 31 by omega), nI_clamp (show 5 * par + (X.length + 1) < 2 ^ 31 by omega), o1, o2, o3, gdI hl (show 40 < 2 ^ 31 by decide), gdI hr (show 40 < 2 ^ 31 by decide), nI_clamp (show l < 2 ^ 31 by omega), nI_clamp (show r < 2 ^ 31 by omega), z1, gdI (show 5 * r < 200 by omega) (show 200 < 2 ^ 31 by decide), nI_clamp (show 5 * r < 2 ^ 31 by omega)]
    by_cases k2 : (P l).1 = 2
    · simp only [if_pos k2]
    · simp only [if_neg k2]
  have hfin : ∀ (T : Mem) (Q : Nat → Pg) (kk : Int32), RM T Q → Q par = P par → Q r = ((P r).1, (kk, d0) :: C, (P r).2.2) → Q l = P l → (∀ y, y ≠ r → Q y = P y) → smX [2, 3, 4, 5] R T → ∃ M, f_X5_join_59 g (nI par) (nI X.length) (nI l) (nI r) (fun (S13 : Mem) => bd (f_X5_removeAt g (up S13 5 l (S13.1 5 r)) (nI par) (nI (X.length + 1))) (fun S17 => bd (f_X5_release g S17 (nI r)) (fun S19 => bd (f_X5_change g S19 (nI l)) (fun S21 => bd (f_X5_change g S21 (nI par)) (fun S23 => some S23))))) g T 0 = bd (f_X5_release g M (nI r)) (fun S19 => bd (f_X5_change g S19 (nI l)) (fun S21 => bd (f_X5_change g S21 (nI par)) (fun S23 => some S23))) ∧ RM M (sp (sp (sp P l ((P l).1, A ++ (kk, d0) :: C, (P r).2.2)) r ((P r).1, (kk, d0) :: C, (P r).2.2)) par (2, X ++ (m1, nI l) :: Y, -1)) ∧ smX [2, 3, 4, 5] R M := by
    intro T Q kk hT hQp hQr hQl hQo hs
    obtain ⟨M13, a1, a2, a3⟩ := m_joL hg (w1 := nI par) (w2 := nI X.length) hl hr hlr ((kk, d0) :: C) [] A g T Q hT (by rw [hQr]; rfl) (by rw [hQl]; exact hA) (by simp; omega) (by simp; omega)
    rw [hQl] at a2
    have zr : M13.1 5 r = (P r).2.2 := by rw [(a2 r hr).2.2.1, sp_n _ _ (Ne.symm hlr), hQr]
    have b2 : RM (up M13 5 l (P r).2.2) (sp (sp Q l ((P l).1, A ++ (kk, d0) :: C, (P l).2.2)) l ((P l).1, A ++ (kk, d0) :: C, (P r).2.2)) := by
      have := Rp.kn (f' := (up M13 5 l (P r).2.2).1) a2 hl (x := (P l).1) (y := (P r).2.2) (fun y => by
        rw [upN _ _ _ (by decide)]
        by_cases e : y = l
        · rw [if_pos e, e, (a2 l hl).1, sp_s]
        · rw [if_neg e]) (fun y => by rw [upA]; simp) (upN _ _ _ (by decide)) (upN _ _ _ (by decide)) (upN _ _ _ (by decide))
      rw [sp_s] at this
      exact this
    obtain ⟨M17, c1, c2, c3⟩ := m_del hg b2 (p := par) (X := X ++ [(m1, nI l)]) (Y := Y) (z := (m2, nI r)) hp (by rw [sp_n _ _ hpl, sp_n _ _ hpl, hQp, hpar]; simp)
    rw [sp_n _ _ hpl, sp_n _ _ hpl, hQp, hkp, hkn] at c2
    rw [List.length_append] at c1
    have c1' : f_X5_removeAt g (up M13 5 l (P r).2.2) (nI par) (nI (X.length + 1)) = some M17 := c1
    refine ⟨M17, ?_, ?_, (hs.tr (a3.wk (by simp))).tr (((smX.rf.up _ _ (by decide))).tr (c3.wk (by simp)))⟩
    · refine (a1 _).trans ?_
      simp only [zr]
      rw [c1', bdS]
    · have : sp (sp (sp Q l ((P l).1, A ++ (kk, d0) :: C, (P l).2.2)) l ((P l).1, A ++ (kk, d0) :: C, (P r).2.2)) par (2, X ++ [(m1, nI l)] ++ Y, -1) = sp (sp (sp P l ((P l).1, A ++ (kk, d0) :: C, (P r).2.2)) r ((P r).1, (kk, d0) :: C, (P r).2.2)) par (2, X ++ (m1, nI l) :: Y, -1) := by
        funext y
        simp only [sp]
        by_cases y1 : y = par
        · simp [y1]
        · by_cases y2 : y = l
          · subst y2; simp [y1, hlr]
          · by_cases y3 : y = r
            · subst y3; simp [y1, y2, hQr]
            · simp [y1, y2, y3, hQo y y3]
      rw [← this]; exact c2
  rcases hk12 with k1 | k2
  · obtain ⟨M, f1, f2, f3⟩ := hfin R P c0 hR rfl (by rw [← hC]) rfl (fun _ _ => rfl) smX.rf
    refine ⟨M, _, ?_, by rw [if_pos k1]; exact f2, f3⟩
    rw [hhead, if_neg (by rw [k1]; decide)]; exact f1
  · have c1 : RM (up R 3 (5 * r) m2) (sp P r ((P r).1, (m2, d0) :: C, (P r).2.2)) := by
      have := Rp.key (f' := (up R 3 (5 * r) m2).1) (X := []) (Y := C) (m := c0) (v := d0) (k := m2) hR hr (by rw [hC]; rfl) (upN _ _ _ (by decide)) (upN _ _ _ (by decide)) (upN _ _ _ (by decide)) (fun c => by rw [upA]; simp) (upN _ _ _ (by decide))
      exact this
    obtain ⟨M, f1, f2, f3⟩ := hfin _ _ m2 c1 (sp_n _ _ hpr) (by rw [sp_s]) (sp_n _ _ hlr) (fun y hy => sp_n _ _ hy) (smX.rf.up _ _ (by decide))
    refine ⟨M, _, ?_, by rw [if_neg (by rw [k2]; decide)]; exact f2, f3⟩
    rw [hhead, if_pos k2]; exact f1
