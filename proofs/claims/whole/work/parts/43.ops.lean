theorem TI.two {P : Nat → Pg} {rt h : Nat} {L : Nat → Lev} (T : TI P rt h L) {e : Nat} (he : e < h) {lo : Int} {par l r : Nat} (hm : (lo, par) ∈ L e) {X Y : List It} {m1 m2 : Int32} (hpar : (P par).2.1 = X ++ (m1, nI l) :: (m2, nI r) :: Y) (hl : l < 40) (hr : r < 40) :
    (∃ lol, (lol, l) ∈ L (e + 1)) ∧ (∃ lor, (lor, r) ∈ L (e + 1)) ∧ l ≠ r ∧ par ≠ l ∧ par ≠ r ∧ (P r).1 = (P l).1 ∧ (P l).1 ≠ 0 := by
  obtain ⟨U, V, hL⟩ := List.append_of_mem hm
  have hs := T.site he hL (X := X) (Y := Y) (Z := [(m2, nI r)]) (z := (m1, nI l)) (by rw [hpar]; rfl)
  have T0 := T
  obtain ⟨t1, t2, t3, t4, t5, t6, t7, t8, t9, t10, t11⟩ := T
  have hlm : (lw lo X (m1, nI l), l) ∈ L (e + 1) := by rw [hs, pg_nI hl]; simp
  have hrm : (m2.toInt, r) ∈ L (e + 1) := by rw [hs]; simp [mkc, nI_clamp (show r < 2 ^ 31 by omega)]
  refine ⟨⟨_, hlm⟩, ⟨_, hrm⟩, fun q => ?_, fun z => ?_, fun z => ?_, ?_, T0.nf (by omega) hlm⟩
  · have := t8 (e + 1) (by omega)
    rw [hs, List.map_append, List.map_append] at this
    have := (List.nodup_append.mp (List.nodup_append.mp this).1).2.1
    simp [mkc2, pg_nI hl, pg_nI hr] at this
    exact this q
  · have := t9 e (e + 1) (by omega) (by omega) _ hm _ hlm z; omega
  · have := t9 e (e + 1) (by omega) (by omega) _ hm _ hrm z; omega
  · by_cases hd : e + 1 = h
    · exact (t4 (m2.toInt, r) (hd ▸ hrm)).trans (t4 (lw lo X (m1, nI l), l) (hd ▸ hlm)).symm
    · exact (t2 (e + 1) (by omega) _ hrm).1.trans (t2 (e + 1) (by omega) _ hlm).1.symm
def gvl (P : Nat → Pg) (l r par : Nat) (X Y A C : List It) (m1 m2 a b c0 d0 : Int32) : Nat → Pg :=
  sp (sp (sp P l ((P l).1, A, (P l).2.2)) r ((P r).1, if (P l).1 = 1 then (a, b) :: (c0, d0) :: C else (0, b) :: (m2, d0) :: C, (P r).2.2)) par (2, X ++ (m1, nI l) :: (a, nI r) :: Y, -1)
theorem TI.giveL {P : Nat → Pg} {rt h : Nat} {L : Nat → Lev} (T : TI P rt h L) {e : Nat} (he : e < h) {lo : Int} {par l r : Nat} (hm : (lo, par) ∈ L e) {X Y A C : List It} {m1 m2 a b c0 d0 : Int32} (hpar : (P par).2.1 = X ++ (m1, nI l) :: (m2, nI r) :: Y) (hl : l < 40) (hr : r < 40) (hA : (P l).2.1 = A ++ [(a, b)]) (hA0 : A ≠ []) (hC : (P r).2.1 = (c0, d0) :: C) :
    ∃ L', TI (gvl P l r par X Y A C m1 m2 a b c0 d0) rt h L' ∧ (∀ k, k ≠ e + 1 → L' k = L k) ∧ ∀ q, (∃ w, (w, q) ∈ L (e + 1)) → ∃ w, (w, q) ∈ L' (e + 1) := by
  obtain ⟨⟨lol, hlm⟩, ⟨lor, hrm⟩, hlr, hpl, hpr, hk, hnf⟩ := T.two he hm hpar hl hr
  obtain ⟨U, V, hL⟩ := List.append_of_mem hm
  have hs := T.site he hL (X := X) (Y := Y) (Z := [(m2, nI r)]) (z := (m1, nI l)) (by rw [hpar]; rfl)
  have T0 := T
  obtain ⟨t1, t2, t3, t4, t5, t6, t7, t8, t9, t10, t11⟩ := T
  obtain ⟨Q, hQ⟩ : ∃ Q, Q = gvl P l r par X Y A C m1 m2 a b c0 d0 := ⟨_, rfl⟩
  have e1 : Q l = ((P l).1, A, (P l).2.2) := by rw [hQ]; unfold gvl; rw [sp_n _ _ (Ne.symm hpl), sp_n _ _ hlr, sp_s]
  have e2 : Q r = ((P r).1, if (P l).1 = 1 then (a, b) :: (c0, d0) :: C else (0, b) :: (m2, d0) :: C, (P r).2.2) := by rw [hQ]; unfold gvl; rw [sp_n _ _ (Ne.symm hpr), sp_s]
  have e3 : Q par = (2, X ++ (m1, nI l) :: (a, nI r) :: Y, -1) := by rw [hQ]; unfold gvl; rw [sp_s]
  have e4 : ∀ y, y ≠ par → y ≠ l → y ≠ r → Q y = P y := fun y h1 h2 h3 => by rw [hQ]; unfold gvl; rw [sp_n _ _ h1, sp_n _ _ h3, sp_n _ _ h2]
  rw [← hQ]
  have R := T0.loc he hL (X := X) (Y := Y) (Z := [(m2, nI r)]) (Z' := [(a, nI r)]) (z := (m1, nI l)) (P' := Q) (by rw [hpar]; rfl) (fun y h1 h2 h3 => by
      simp only [List.map_cons, List.map_nil, pg_nI hl, pg_nI hr, List.mem_cons, List.not_mem_nil, or_false, not_or] at h2
      exact e4 y h1 h2.1 h2.2) e3 (fun w hw => by simp at hw; exact ⟨r, hr, by rw [hw]⟩) (fun w hw => by simp at hw; left; rw [hw]; simp [pg_nI hr]) (by simp [pg_nI hl, pg_nI hr, hlr]) (fun hd => ?_) (fun hd => ?_) (fun w hw _ => by simp at hw; rw [hw]; simp [pg_nI hr]) (fun y hy hn => ?_)
  · refine ⟨_, R, fun k hk => if_neg hk, fun q hq => ?_⟩
    obtain ⟨w, hw⟩ := hq
    simp only [if_pos]
    rw [hs] at hw
    simp only [List.mem_append, List.mem_cons, List.map_cons, List.map_nil, List.not_mem_nil, or_false] at hw ⊢
    rcases hw with (hw | hw | hw) | hw
    · exact ⟨w, Or.inl (Or.inl hw)⟩
    · exact ⟨w, Or.inl (Or.inr (Or.inl hw))⟩
    · refine ⟨a.toInt, Or.inl (Or.inr (Or.inr ?_))⟩
      have : q = r := by rw [show q = (w, q).2 from rfl, hw, mkc2, pg_nI hr]
      rw [this]; show _ = (a.toInt, _); rw [nI_clamp (by omega)]
    · exact ⟨w, Or.inr hw⟩
  · have hin := t2 (e + 1) hd _ hlm
    have hin2 := t2 (e + 1) hd _ hrm
    unfold inn at hin hin2
    simp only at hin hin2
    have n1 : ¬ (P l).1 = 1 := by rw [hin.1]; decide
    rw [if_neg n1] at e2
    have hv := hin.2.2.2
    have hv2 := hin2.2.2.2
    rw [hA] at hv
    rw [hC] at hv2
    refine ⟨fun x hx => ?_, ?_⟩
    · simp only [List.map_cons, List.map_nil, List.mem_cons, List.not_mem_nil, or_false] at hx
      rcases hx with rfl | rfl
      · unfold inn
        simp only [pg_nI hl, e1]
        exact ⟨hin.1, hin.2.1, hA0, fun w hw => hv w (by simp [hw])⟩
      · unfold inn
        simp only [mkc2, pg_nI hr, e2]
        refine ⟨hin2.1, hin2.2.1, by simp, fun w hw => ?_⟩
        simp only [List.mem_cons] at hw
        rcases hw with rfl | rfl | hw
        · exact hv (a, b) (by simp)
        · exact hv2 (c0, d0) (by simp)
        · exact hv2 w (by simp [hw])
    · simp only [List.map_cons, List.map_nil, List.flatMap_cons, List.flatMap_nil, List.append_nil, kd, mkc2, pg_nI hl, pg_nI hr, e1, e2, hA, hC]
      rw [kl_cat _ hA0]
      simp [kl, mkc]
  · have hk1 := t4 _ (hd ▸ hlm)
    simp only at hk1
    rw [if_pos hk1] at e2
    refine ⟨fun x hx => ?_, fun pre post hpw => ?_, fun w hw => ?_⟩
    · simp only [List.map_cons, List.map_nil, List.mem_cons, List.not_mem_nil, or_false] at hx
      rcases hx with rfl | rfl
      · simp only [pg_nI hl, e1]; exact hk1
      · simp only [mkc2, pg_nI hr, e2]; rw [hk]; exact hk1
    · obtain ⟨A', a', rfl⟩ := lastE hA0
      simp only [List.map_cons, List.map_nil, List.flatMap_cons, List.flatMap_nil, List.append_nil, pg_nI hl, lk_eq, hA, hC, List.map_append, mkc, nI_clamp (show r < 2 ^ 31 by omega)] at hpw
      simp only [List.map_cons, List.map_nil, List.flatMap_cons, List.flatMap_nil, List.append_nil, pg_nI hl, lk_eq, e1, mkc, e2, List.map_append, nI_clamp (show r < 2 ^ 31 by omega)]
      have h1 := pwD (l1 := pre ++ (2 * lw lo X (m1, nI l) - 1) :: (A'.map k2 ++ [k2 a'] ++ [k2 (a, b)])) (w := 2 * m2.toInt - 1) (l2 := k2 (c0, d0) :: (C.map k2 ++ post)) (by simpa [List.append_assoc] using hpw)
      have := pwI2 (l1 := pre ++ (2 * lw lo X (m1, nI l) - 1) :: A'.map k2) (a := a'.1.toInt) (m := a.toInt) (l2 := k2 (c0, d0) :: (C.map k2 ++ post)) (by simpa [k2, List.append_assoc] using h1)
      simpa [k2, List.append_assoc] using this
    · simp only [List.map_cons, List.map_nil, chn, hdn, pg_nI hl, mkc2, pg_nI hr, e1, e2] at hw ⊢
      exact hw
  · by_cases y1 : y = par
    · subst y1; rw [e3] at hn; simp only at hn; exact absurd hn (by decide)
    · by_cases y2 : y = l
      · subst y2; rw [e1] at hn; exact absurd hn hnf
      · by_cases y3 : y = r
        · subst y3; rw [e2] at hn; simp only at hn; rw [hk] at hn; exact absurd hn hnf
        · rw [e4 y y1 y2 y3] at hn ⊢; exact t11 y hy hn
def gvr (P : Nat → Pg) (l r par : Nat) (X Y A C : List It) (m1 m2 c0 d0 c1 d1 : Int32) : Nat → Pg :=
  sp (sp (sp P l ((P l).1, A ++ [(if (P l).1 = 1 then c0 else m2, d0)], (P l).2.2)) r ((P r).1, (if (P l).1 = 1 then c1 else 0, d1) :: C, (P r).2.2)) par (2, X ++ (m1, nI l) :: (c1, nI r) :: Y, -1)
theorem TI.giveR {P : Nat → Pg} {rt h : Nat} {L : Nat → Lev} (T : TI P rt h L) {e : Nat} (he : e < h) {lo : Int} {par l r : Nat} (hm : (lo, par) ∈ L e) {X Y A C : List It} {m1 m2 c0 d0 c1 d1 : Int32} (hpar : (P par).2.1 = X ++ (m1, nI l) :: (m2, nI r) :: Y) (hl : l < 40) (hr : r < 40) (hA : (P l).2.1 = A) (hA0 : A ≠ []) (hC : (P r).2.1 = (c0, d0) :: (c1, d1) :: C) :
    ∃ L', TI (gvr P l r par X Y A C m1 m2 c0 d0 c1 d1) rt h L' ∧ (∀ k, k ≠ e + 1 → L' k = L k) ∧ ∀ q, (∃ w, (w, q) ∈ L (e + 1)) → ∃ w, (w, q) ∈ L' (e + 1) := by
  obtain ⟨⟨lol, hlm⟩, ⟨lor, hrm⟩, hlr, hpl, hpr, hk, hnf⟩ := T.two he hm hpar hl hr
  obtain ⟨U, V, hL⟩ := List.append_of_mem hm
  have hs := T.site he hL (X := X) (Y := Y) (Z := [(m2, nI r)]) (z := (m1, nI l)) (by rw [hpar]; rfl)
  have T0 := T
  obtain ⟨t1, t2, t3, t4, t5, t6, t7, t8, t9, t10, t11⟩ := T
  obtain ⟨Q, hQ⟩ : ∃ Q, Q = gvr P l r par X Y A C m1 m2 c0 d0 c1 d1 := ⟨_, rfl⟩
  have e1 : Q l = ((P l).1, A ++ [(if (P l).1 = 1 then c0 else m2, d0)], (P l).2.2) := by rw [hQ]; unfold gvr; rw [sp_n _ _ (Ne.symm hpl), sp_n _ _ hlr, sp_s]
  have e2 : Q r = ((P r).1, (if (P l).1 = 1 then c1 else 0, d1) :: C, (P r).2.2) := by rw [hQ]; unfold gvr; rw [sp_n _ _ (Ne.symm hpr), sp_s]
  have e3 : Q par = (2, X ++ (m1, nI l) :: (c1, nI r) :: Y, -1) := by rw [hQ]; unfold gvr; rw [sp_s]
  have e4 : ∀ y, y ≠ par → y ≠ l → y ≠ r → Q y = P y := fun y h1 h2 h3 => by rw [hQ]; unfold gvr; rw [sp_n _ _ h1, sp_n _ _ h3, sp_n _ _ h2]
  rw [← hQ]
  have R := T0.loc he hL (X := X) (Y := Y) (Z := [(m2, nI r)]) (Z' := [(c1, nI r)]) (z := (m1, nI l)) (P' := Q) (by rw [hpar]; rfl) (fun y h1 h2 h3 => by
      simp only [List.map_cons, List.map_nil, pg_nI hl, pg_nI hr, List.mem_cons, List.not_mem_nil, or_false, not_or] at h2
      exact e4 y h1 h2.1 h2.2) e3 (fun w hw => by simp at hw; exact ⟨r, hr, by rw [hw]⟩) (fun w hw => by simp at hw; left; rw [hw]; simp [pg_nI hr]) (by simp [pg_nI hl, pg_nI hr, hlr]) (fun hd => ?_) (fun hd => ?_) (fun w hw _ => by simp at hw; rw [hw]; simp [pg_nI hr]) (fun y hy hn => ?_)
  · refine ⟨_, R, fun k hk => if_neg hk, fun q hq => ?_⟩
    obtain ⟨w, hw⟩ := hq
    simp only [if_pos]
    rw [hs] at hw
    simp only [List.mem_append, List.mem_cons, List.map_cons, List.map_nil, List.not_mem_nil, or_false] at hw ⊢
    rcases hw with (hw | hw | hw) | hw
    · exact ⟨w, Or.inl (Or.inl hw)⟩
    · exact ⟨w, Or.inl (Or.inr (Or.inl hw))⟩
    · refine ⟨c1.toInt, Or.inl (Or.inr (Or.inr ?_))⟩
      have : q = r := by rw [show q = (w, q).2 from rfl, hw, mkc2, pg_nI hr]
      rw [this]; show _ = (c1.toInt, _); rw [nI_clamp (by omega)]
    · exact ⟨w, Or.inr hw⟩
  · have hin := t2 (e + 1) hd _ hlm
    have hin2 := t2 (e + 1) hd _ hrm
    unfold inn at hin hin2
    simp only at hin hin2
    have n1 : ¬ (P l).1 = 1 := by rw [hin.1]; decide
    rw [if_neg n1] at e1 e2
    have hv := hin.2.2.2
    have hv2 := hin2.2.2.2
    rw [hA] at hv
    rw [hC] at hv2
    refine ⟨fun x hx => ?_, ?_⟩
    · simp only [List.map_cons, List.map_nil, List.mem_cons, List.not_mem_nil, or_false] at hx
      rcases hx with rfl | rfl
      · unfold inn
        simp only [pg_nI hl, e1]
        refine ⟨hin.1, hin.2.1, by simp, fun w hw => ?_⟩
        simp only [List.mem_append, List.mem_cons, List.not_mem_nil, or_false] at hw
        rcases hw with hw | rfl
        · exact hv w hw
        · exact hv2 (c0, d0) (by simp)
      · unfold inn
        simp only [mkc2, pg_nI hr, e2]
        refine ⟨hin2.1, hin2.2.1, by simp, fun w hw => ?_⟩
        simp only [List.mem_cons] at hw
        rcases hw with rfl | hw
        · exact hv2 (c1, d1) (by simp)
        · exact hv2 w (by simp [hw])
    · simp only [List.map_cons, List.map_nil, List.flatMap_cons, List.flatMap_nil, List.append_nil, kd, mkc2, pg_nI hl, pg_nI hr, e1, e2, hA, hC]
      rw [kl_cat _ hA0]
      simp [kl, mkc]
  · have hk1 := t4 _ (hd ▸ hlm)
    simp only at hk1
    rw [if_pos hk1] at e1 e2
    refine ⟨fun x hx => ?_, fun pre post hpw => ?_, fun w hw => ?_⟩
    · simp only [List.map_cons, List.map_nil, List.mem_cons, List.not_mem_nil, or_false] at hx
      rcases hx with rfl | rfl
      · simp only [pg_nI hl, e1]; exact hk1
      · simp only [mkc2, pg_nI hr, e2]; rw [hk]; exact hk1
    · simp only [List.map_cons, List.map_nil, List.flatMap_cons, List.flatMap_nil, List.append_nil, pg_nI hl, lk_eq, hA, hC, List.map_append, mkc, nI_clamp (show r < 2 ^ 31 by omega)] at hpw
      simp only [List.map_cons, List.map_nil, List.flatMap_cons, List.flatMap_nil, List.append_nil, pg_nI hl, lk_eq, e1, mkc, e2, List.map_append, nI_clamp (show r < 2 ^ 31 by omega)]
      have h1 := pwD (l1 := pre ++ (2 * lw lo X (m1, nI l) - 1) :: (A.map k2)) (w := 2 * m2.toInt - 1) (l2 := k2 (c0, d0) :: k2 (c1, d1) :: (C.map k2 ++ post)) (by simpa [List.append_assoc] using hpw)
      have := pwI2 (l1 := pre ++ (2 * lw lo X (m1, nI l) - 1) :: A.map k2) (a := c0.toInt) (m := c1.toInt) (l2 := (C.map k2 ++ post)) (by simpa [k2, List.append_assoc] using h1)
      simpa [k2, List.append_assoc] using this
    · simp only [List.map_cons, List.map_nil, chn, hdn, pg_nI hl, mkc2, pg_nI hr, e1, e2] at hw ⊢
      exact hw
  · by_cases y1 : y = par
    · subst y1; rw [e3] at hn; simp only at hn; exact absurd hn (by decide)
    · by_cases y2 : y = l
      · subst y2; rw [e1] at hn; exact absurd hn hnf
      · by_cases y3 : y = r
        · subst y3; rw [e2] at hn; simp only at hn; rw [hk] at hn; exact absurd hn hnf
        · rw [e4 y y1 y2 y3] at hn ⊢; exact t11 y hy hn
def jnp (P : Nat → Pg) (l r par : Nat) (X Y A C : List It) (m1 m2 c0 d0 : Int32) : Nat → Pg :=
  sp (sp (sp P l ((P l).1, A ++ (if (P l).1 = 1 then c0 else m2, d0) :: C, (P r).2.2)) r (0, [], -1)) par (2, X ++ (m1, nI l) :: Y, -1)
theorem TI.join {P : Nat → Pg} {rt h : Nat} {L : Nat → Lev} (T : TI P rt h L) {e : Nat} (he : e < h) {lo : Int} {par l r : Nat} (hm : (lo, par) ∈ L e) {X Y A C : List It} {m1 m2 c0 d0 : Int32} (hpar : (P par).2.1 = X ++ (m1, nI l) :: (m2, nI r) :: Y) (hl : l < 40) (hr : r < 40) (hA : (P l).2.1 = A) (hA0 : A ≠ []) (hC : (P r).2.1 = (c0, d0) :: C) :
    ∃ L', TI (jnp P l r par X Y A C m1 m2 c0 d0) rt h L' ∧ (∀ k, k ≠ e + 1 → L' k = L k) ∧ ∀ q, q ≠ r → (∃ w, (w, q) ∈ L (e + 1)) → ∃ w, (w, q) ∈ L' (e + 1) := by
  obtain ⟨⟨lol, hlm⟩, ⟨lor, hrm⟩, hlr, hpl, hpr, hk, hnf⟩ := T.two he hm hpar hl hr
  obtain ⟨U, V, hL⟩ := List.append_of_mem hm
  have hs := T.site he hL (X := X) (Y := Y) (Z := [(m2, nI r)]) (z := (m1, nI l)) (by rw [hpar]; rfl)
  have T0 := T
  obtain ⟨t1, t2, t3, t4, t5, t6, t7, t8, t9, t10, t11⟩ := T
  obtain ⟨Q, hQ⟩ : ∃ Q, Q = jnp P l r par X Y A C m1 m2 c0 d0 := ⟨_, rfl⟩
  have e1 : Q l = ((P l).1, A ++ (if (P l).1 = 1 then c0 else m2, d0) :: C, (P r).2.2) := by rw [hQ]; unfold jnp; rw [sp_n _ _ (Ne.symm hpl), sp_n _ _ hlr, sp_s]
  have e2 : Q r = (0, [], -1) := by rw [hQ]; unfold jnp; rw [sp_n _ _ (Ne.symm hpr), sp_s]
  have e3 : Q par = (2, X ++ (m1, nI l) :: Y, -1) := by rw [hQ]; unfold jnp; rw [sp_s]
  have e4 : ∀ y, y ≠ par → y ≠ l → y ≠ r → Q y = P y := fun y h1 h2 h3 => by rw [hQ]; unfold jnp; rw [sp_n _ _ h1, sp_n _ _ h3, sp_n _ _ h2]
  rw [← hQ]
  have R := T0.loc he hL (X := X) (Y := Y) (Z := [(m2, nI r)]) (Z' := []) (z := (m1, nI l)) (P' := Q) (by rw [hpar]; rfl) (fun y h1 h2 h3 => by
      simp only [List.map_cons, List.map_nil, pg_nI hl, pg_nI hr, List.mem_cons, List.not_mem_nil, or_false, not_or] at h2
      exact e4 y h1 h2.1 h2.2) e3 (fun w hw => by simp at hw) (fun w hw => by simp at hw) (by simp) (fun hd => ?_) (fun hd => ?_) (fun w hw hn => by simp at hw; rw [hw, pg_nI hr, e2] at hn; exact absurd rfl hn) (fun y hy hn => ?_)
  · refine ⟨_, R, fun k hk => if_neg hk, fun q hqr hq => ?_⟩
    obtain ⟨w, hw⟩ := hq
    simp only [if_pos]
    rw [hs] at hw
    simp only [List.mem_append, List.mem_cons, List.map_cons, List.map_nil, List.not_mem_nil, or_false] at hw ⊢
    rcases hw with (hw | hw | hw) | hw
    · exact ⟨w, Or.inl (Or.inl hw)⟩
    · exact ⟨w, Or.inl (Or.inr hw)⟩
    · exact absurd (show q = r by rw [show q = (w, q).2 from rfl, hw, mkc2, pg_nI hr]) hqr
    · exact ⟨w, Or.inr hw⟩
  · have hin := t2 (e + 1) hd _ hlm
    have hin2 := t2 (e + 1) hd _ hrm
    unfold inn at hin hin2
    simp only at hin hin2
    have n1 : ¬ (P l).1 = 1 := by rw [hin.1]; decide
    rw [if_neg n1] at e1
    have hv := hin.2.2.2
    have hv2 := hin2.2.2.2
    rw [hA] at hv
    rw [hC] at hv2
    refine ⟨fun x hx => ?_, ?_⟩
    · simp only [List.map_nil, List.mem_cons, List.not_mem_nil, or_false] at hx
      subst hx
      unfold inn
      simp only [pg_nI hl, e1]
      refine ⟨hin.1, hin2.2.1, by simp, fun w hw => ?_⟩
      simp only [List.mem_append, List.mem_cons] at hw
      rcases hw with hw | rfl | hw
      · exact hv w hw
      · exact hv2 (c0, d0) (by simp)
      · exact hv2 w (by simp [hw])
    · simp only [List.map_cons, List.map_nil, List.flatMap_cons, List.flatMap_nil, List.append_nil, kd, mkc2, pg_nI hl, pg_nI hr, e1, hA, hC]
      rw [kl_cat _ hA0]
      simp [kl, mkc]
  · have hk1 := t4 _ (hd ▸ hlm)
    simp only at hk1
    rw [if_pos hk1] at e1
    refine ⟨fun x hx => ?_, fun pre post hpw => ?_, fun w hw => ?_⟩
    · simp only [List.map_nil, List.mem_cons, List.not_mem_nil, or_false] at hx
      subst hx
      simp only [pg_nI hl, e1]; exact hk1
    · simp only [List.map_cons, List.map_nil, List.flatMap_cons, List.flatMap_nil, List.append_nil, pg_nI hl, lk_eq, hA, hC, List.map_append, mkc, nI_clamp (show r < 2 ^ 31 by omega)] at hpw
      simp only [List.map_cons, List.map_nil, List.flatMap_cons, List.flatMap_nil, List.append_nil, pg_nI hl, lk_eq, e1, List.map_append]
      have h1 := pwD (l1 := pre ++ (2 * lw lo X (m1, nI l) - 1) :: (A.map k2)) (w := 2 * m2.toInt - 1) (l2 := k2 (c0, d0) :: (C.map k2 ++ post)) (by simpa [List.append_assoc] using hpw)
      simpa [k2, List.append_assoc] using h1
    · simp only [List.map_cons, List.map_nil, chn, hdn, pg_nI hl, mkc2, pg_nI hr, e1] at hw ⊢
      exact hw.2
  · by_cases y1 : y = par
    · subst y1; rw [e3] at hn; simp only at hn; exact absurd hn (by decide)
    · by_cases y2 : y = l
      · subst y2; rw [e1] at hn; exact absurd hn hnf
      · by_cases y3 : y = r
        · subst y3; rw [e2]
        · rw [e4 y y1 y2 y3] at hn ⊢; exact t11 y hy hn
