set_option maxHeartbeats 2000000 in
theorem joinE {g : Nat} (hg : 30 < g) {S R : Mem} {P : Nat → Pg} {pl : List Nat} (hMD : MD S R P pl []) {l r par : Nat} (hl : l < 40) (hr : r < 40) (hp : par < 40) (hlr : l ≠ r) (hpl : par ≠ l) (hpr : par ≠ r) {X Y A C : List It} {m1 m2 c0 d0 : Int32} (hpar : (P par).2.1 = X ++ (m1, nI l) :: (m2, nI r) :: Y) (hkp : (P par).1 = 2) (hkn : (P par).2.2 = -1) (hA : (P l).2.1 = A) (hC : (P r).2.1 = (c0, d0) :: C) (h5 : A.length + C.length < 5) (hk12 : (P l).1 = 1 ∨ ((P l).1 = 2 ∧ (P l).2.2 = (P r).2.2)) (hk : (P r).1 = (P l).1) (ml : l ∈ pl) (mr : r ∈ pl) (mp : par ∈ pl) :
    ∃ S' R', f_X4_join g S (nI par) (nI (X.length + 1)) (nI l) (nI r) = some S' ∧ f_X5_join g R (nI par) (nI X.length) = some R' ∧ MD S' R' (jnp P l r par X Y A C m1 m2 c0 d0) (pl.filter (fun q => decide (q ≠ r))) [] ∧ smX lC S S' ∧ smQ R R' := by
  obtain ⟨hRC, hRM, hF, hM, hN⟩ := hMD
  obtain ⟨S8, a1, a2, a3⟩ := c_join hg hRC hl hr hp hlr hpl hpr hpar hkp hkn hA hC h5 hk12 hk
  obtain ⟨M, Z, b1, b2, b3⟩ := m_join hg hRM hl hr hp hlr hpl hpr hpar hkp hkn hA hC h5 (by rcases hk12 with z | ⟨z, -⟩; exact Or.inl z; exact Or.inr z) hk
  have hF8 := hF.sm a3 (by decide)
  have hM8 : FM [] S8 M := (hM.smC a3 (by decide)).smM b3 (by decide) (fun j _ => by rw [b3.2 0 (by decide)])
  obtain ⟨-, tl, htl, hl8, hl11⟩ := hF8.2.2.2.2.2 l ml
  obtain ⟨-, tr, htr, hr8, hr11⟩ := hF8.2.2.2.2.2 r mr
  obtain ⟨-, tp, htp, hp8, hp11⟩ := hF8.2.2.2.2.2 par mp
  have nlr : tl ≠ tr := fun z => hlr (nI_inj (by omega) (by omega) (by rw [← hl8, ← hr8, z]))
  have npr : tp ≠ tr := fun z => hpr (nI_inj (by omega) (by omega) (by rw [← hp8, ← hr8, z]))
  obtain ⟨T1, hT1⟩ : ∃ T1, T1 = up (up (up S8 10 tl 1) 10 tr 1) 10 tp 1 := ⟨_, rfl⟩
  have hF9 := (hF8.d1 tl)
  have hF10 := hF9.d1 tr
  have hF11 : FI T1 pl := by rw [hT1]; exact hF10.d1 tp
  have n8 : ∀ (T : Mem) t i, (up T 10 t 1).1 8 i = T.1 8 i := fun T t i => by rw [upN _ _ _ (by decide)]
  have hsoil : f_X4_soilThree g S8 (nI l) (nI r) (nI par) = some T1 := by
    unfold f_X4_soilThree
    rw [soil_ok hg hF8 hl htl hl8, bdS, soil_ok hg hF9 hr htr (by rw [n8]; exact hr8), bdS, soil_ok hg hF10 hp htp (by rw [n8, n8]; exact hp8), bdS, hT1]
  have s1 : smX [10] S8 T1 := by rw [hT1]; exact ((smX.rf.up _ _ (by decide)).up _ _ (by decide)).up _ _ (by decide)
  obtain ⟨T2, c1, c2, c3⟩ := c_allot (g := g) (a2.sm s1 (by decide)) (p := r) 0 hr
  have hF12 := hF11.sm c3 (by decide)
  have r8 : T2.1 8 tr = nI r := by rw [c3.2 8 (by decide), s1.2 8 (by decide)]; exact hr8
  have hFc := hF12.clr hr htr r8
  have e8 : ∀ i, i < 12 → M.1 8 i = S8.1 8 i := fun i hi => (hM8.1 i hi).1
  obtain ⟨M1, hM1⟩ : ∃ M1, M1 = up (up (up (clr M tr) 1 r 0) 2 r 0) 5 r (-1) := ⟨_, rfl⟩
  have hrel : f_X5_release g M (nI r) = some M1 := by rw [hM1]; exact rel_ok hg hF8 e8 hr htr hr8
  have m8 : ∀ i, i < 12 → M1.1 8 i = (clr T2 tr).1 8 i := fun i hi => by
    rw [hM1, upN _ _ _ (by decide), upN _ _ _ (by decide), upN _ _ _ (by decide), clr8, clr8, e8 i hi, c3.2 8 (by decide), s1.2 8 (by decide)]
  have l8 : (clr T2 tr).1 8 tl = nI l := by rw [clr8, if_neg nlr, c3.2 8 (by decide), s1.2 8 (by decide)]; exact hl8
  have p8 : (clr T2 tr).1 8 tp = nI par := by rw [clr8, if_neg npr, c3.2 8 (by decide), s1.2 8 (by decide)]; exact hp8
  have hc1 : f_X5_change g M1 (nI l) = some (up M1 10 tl 1) := chg_ok hg hFc m8 hl htl l8
  have hc2 : f_X5_change g (up M1 10 tl 1) (nI par) = some (up (up M1 10 tl 1) 10 tp 1) := chg_ok hg hFc (fun i hi => by rw [n8]; exact m8 i hi) hp htp p8
  have sM1 : smX [1, 2, 5, 8, 9, 10, 11] M M1 := by
    rw [hM1]; exact ((((clrS M tr).wk (by simp)).up _ _ (by decide)).up _ _ (by decide)).up _ _ (by decide)
  have sM3 : smX [1, 2, 5, 8, 9, 10, 11] M (up (up M1 10 tl 1) 10 tp 1) := (sM1.up _ _ (by decide)).up _ _ (by decide)
  have jn_eq : ∀ W, sp (sp (sp (sp P l ((P l).1, A ++ (if (P l).1 = 1 then c0 else m2, d0) :: C, (P r).2.2)) r ((P r).1, W, (P r).2.2)) par (2, X ++ (m1, nI l) :: Y, -1)) r (0, [], -1) = jnp P l r par X Y A C m1 m2 c0 d0 := by
    intro W
    unfold jnp
    funext y
    simp only [sp]
    by_cases y1 : y = par
    · subst y1; simp [hpr]
    · by_cases y3 : y = r
      · subst y3; simp [y1]
      · simp [y1, y3]
  rw [jn_eq] at c2
  refine ⟨clr T2 tr, up (up M1 10 tl 1) 10 tp 1, ?_, ?_, ⟨c2.sm (clrS T2 tr) (by decide), ?_, hFc, ?_, ?_⟩, ?_, ?_⟩
  · rw [a1, hsoil, bdS]
    unfold f_X4_releasePage
    rw [c1, bdS, clr_ok hg hF12 hr htr r8, bdS, bdS]
  · rw [b1, hrel, bdS, hc1, bdS, hc2, bdS]
  · rw [← jn_eq Z]
    refine Rp.emp b2 (fun y => ?_) (fun y => ?_) (fun y => ?_) ?_ ?_
    · rw [hM1, upN _ _ _ (by decide), upN _ _ _ (by decide), upN _ _ _ (by decide), upN _ _ _ (by decide), upA, (clrS M tr).2 1 (by decide)]; simp
    · rw [hM1, upN _ _ _ (by decide), upN _ _ _ (by decide), upA, upN _ _ _ (by decide), upN _ _ _ (by decide), (clrS M tr).2 5 (by decide)]; simp
    · rw [hM1, upN _ _ _ (by decide), upN _ _ _ (by decide), upN _ _ _ (by decide), upA, upN _ _ _ (by decide), (clrS M tr).2 2 (by decide)]; simp
    · rw [sM3.2 3 (by decide)]
    · rw [sM3.2 4 (by decide)]
  · refine FM.mk0 (fun i hi => ?_) ?_
    · obtain ⟨x8, x9, -, x11⟩ := hM8.1 i hi
      have x10 := hM8.d0 hi
      refine ⟨?_, ?_, ?_, ?_⟩
      · rw [upN _ _ _ (by decide), upN _ _ _ (by decide)]; exact m8 i hi
      · rw [upN _ _ _ (by decide), upN _ _ _ (by decide), hM1, upN _ _ _ (by decide), upN _ _ _ (by decide), upN _ _ _ (by decide), clr9, clr9, x9, c3.2 9 (by decide), s1.2 9 (by decide)]
      · rw [clr10, c3.2 10 (by decide), hT1, hM1]
        simp only [upA, clr10, x10]
        by_cases z1 : i = tr
        · subst z1; simp [Ne.symm nlr, Ne.symm npr]
        · by_cases z2 : i = tl
          · subst z2; simp [z1]
          · by_cases z3 : i = tp
            · subst z3; simp [z1]
            · simp [z1, z2, z3]
      · rw [upN _ _ _ (by decide), upN _ _ _ (by decide), hM1, upN _ _ _ (by decide), upN _ _ _ (by decide), upN _ _ _ (by decide), clr11, clr11, x11, c3.2 11 (by decide), s1.2 11 (by decide)]
    · rw [sM3.2 0 (by decide), (clrS T2 tr).2 7 (by decide), c3.2 7 (by decide), s1.2 7 (by decide)]
      exact hM8.2
  · intro i hi q hq e
    rw [clr8] at e
    by_cases z : i = tr
    · rw [if_pos z] at e; exact absurd e.symm (nI_m1 (by omega))
    · rw [if_neg z, c3.2 8 (by decide), s1.2 8 (by decide)] at e
      have hqr : q ≠ r := fun y => z (hF8.un htr hr8 hr hi (by rw [e, y]))
      have hq0 := hN i hi q hq (by rw [← a3.2 8 (by decide)]; exact e)
      unfold jnp
      by_cases y1 : q = par
      · subst y1; rw [sp_s]; simp
      · rw [sp_n _ _ y1, sp_n _ _ hqr]
        by_cases y2 : q = l
        · subst y2; rw [sp_s]; exact hq0
        · rw [sp_n _ _ y2]; exact hq0
  · exact ((a3.wk (by simp)).tr (s1.wk (by simp))).tr ((c3.wk (by simp)).tr ((clrS T2 tr).wk (by simp)))
  · exact (smQ.of b3 (by decide)).tr (smQ.of sM3 (by decide))
/-- counts, with one page that may be short -/
def CNx (P : Nat → Pg) (rt h x : Nat) : Prop := ∀ p, p < 40 → (P p).1 ≠ 0 → (P p).2.1.length ≤ 4 ∧ (2 ≤ (P p).2.1.length ∨ (p = x ∧ 1 ≤ (P p).2.1.length) ∨ (p = rt ∧ h = 0))
def PLI (e : Nat) (w : Nat → Nat × Nat) (h : Nat) (L : Nat → Lev) (pl : List Nat) : Prop := ∀ q, q ∈ pl → (∃ k, k ≤ e ∧ q = (w k).1) ∨ ∃ k, e < k ∧ k ≤ h ∧ ∃ lo, (lo, q) ∈ L k
def Out (S R : Mem) (P : Nat → Pg) (pl : List Nat) (w : Nat → Nat × Nat) (h e rt : Nat) (L : Nat → Lev) (S' R' : Mem) : Prop := ∃ P' L' pl', MD S' R' P' pl' [] ∧ TI P' rt h L' ∧ (∀ k, k ≤ e → L' k = L k) ∧ (∀ k, k < e → P' (w k).1 = P (w k).1) ∧ CNx P' rt h (w e).1 ∧ (∀ k, k ≤ e → (w k).1 ∈ pl') ∧ PLI e w h L' pl' ∧ pl'.length ≤ pl.length ∧ smX lC S S' ∧ smQ R R'
theorem givL_out {g : Nat} (hg : 30 < g) {S R : Mem} {P : Nat → Pg} {pl : List Nat} {w : Nat → Nat × Nat} {h e rt : Nat} {L : Nat → Lev} (hMD : MD S R P pl []) (T : TI P rt h L) (he : e < h) (hwm : ∀ k, k ≤ e → ∃ lo, (lo, (w k).1) ∈ L k) {l r : Nat} {X Y A : List It} {m1 m2 a b c0 d0 : Int32} (hpar : (P (w e).1).2.1 = X ++ (m1, nI l) :: (m2, nI r) :: Y) (hl : l < 40) (hr : r < 40) (hA : (P l).2.1 = A ++ [(a, b)]) (hA2 : 2 ≤ A.length) (hC : (P r).2.1 = [(c0, d0)]) (hcn : CNx P rt h r) (hplw : ∀ k, k ≤ e → (w k).1 ∈ pl) (hPLI : PLI e w h L pl) (ml : l ∈ pl) (mr : r ∈ pl) :
    ∃ S' R', f_X4_giveFromLeft g S (nI (w e).1) (nI (X.length + 1)) (nI l) (nI r) = some S' ∧ f_X5_give g R (nI (w e).1) (nI X.length) 1 = some R' ∧ Out S R P pl w h e rt L S' R' := by
  obtain ⟨loe, hme⟩ := hwm e (Nat.le_refl _)
  obtain ⟨⟨lol, hlm⟩, ⟨lor, hrm⟩, hlr, hpl, hpr, hk, hnf⟩ := T.two he hme hpar hl hr
  have hp40 : (w e).1 < 40 := T.2.2.2.2.2.2.1 e (by omega) _ hme
  have hin := T.2.1 e he _ hme
  unfold inn at hin
  simp only at hin
  have hkl := T.kn (show e + 1 ≤ h by omega) hlm
  simp only at hkl
  have hMD0 := hMD
  obtain ⟨hRC, hRM, hF, hM, hN⟩ := hMD
  obtain ⟨S1, a1, a2, a3⟩ := c_giveL hg hRC hl hr hp40 hlr hpl hpr hpar hin.1 hin.2.1 hA hC (by simp) hk
  obtain ⟨R1, b1, b2, b3⟩ := m_giveL hg hRM hl hr hp40 hlr hpl hpr hpar hin.1 hin.2.1 hA hC (by simp) (by rcases hkl with z | ⟨z, -⟩; exact Or.inl z; exact Or.inr z) hk
  have hnz : ∀ y, (P y).1 ≠ 0 → (gvl P l r (w e).1 X Y A [] m1 m2 a b c0 d0 y).1 ≠ 0 := fun y hy => by
    unfold gvl
    exact sp_k (by simp) (sp_k (by rw [hk]; exact hnf) (sp_k hnf hy))
  have hmd1 := hMD0.pages a2 b2 a3 b3 hnz
  obtain ⟨S', R', c1, c2, c3, c4, c5⟩ := hmd1.marks hg ml mr (hplw e (Nat.le_refl _))
  have hA0 : A ≠ [] := fun z => by rw [z] at hA2; simp at hA2
  obtain ⟨L', T', hL', hq'⟩ := T.giveL he hme hpar hl hr hA hA0 hC
  refine ⟨S', R', by rw [a1, c1, bdS], by rw [b1]; exact c2, _, L', pl, c3, T', fun k hk2 => hL' k (by omega), fun k hk2 => ?_, fun y hy hn => ?_, hplw, fun q hq => ?_, Nat.le_refl _, (a3.wk (by simp)).tr (c4.wk (by simp)), (smQ.of b3 (by decide)).tr (smQ.of c5 (by decide))⟩
  · obtain ⟨lk2, hmk⟩ := hwm k (by omega)
    have t9 := T.2.2.2.2.2.2.2.2.1
    unfold gvl
    rw [sp_n _ _ (fun z => by have := t9 k e (by omega) (by omega) _ hmk _ hme z; omega), sp_n _ _ (fun z => by have := t9 k (e + 1) (by omega) (by omega) _ hmk _ hrm z; omega), sp_n _ _ (fun z => by have := t9 k (e + 1) (by omega) (by omega) _ hmk _ hlm z; omega)]
  · unfold gvl at hn ⊢
    by_cases y1 : y = (w e).1
    · subst y1
      obtain ⟨c1, c2⟩ := hcn _ hp40 (by rw [hin.1]; decide)
      rw [hpar] at c1 c2
      rw [sp_s]
      simp at c1 c2 ⊢
      omega
    · rw [sp_n _ _ y1] at hn ⊢
      by_cases y2 : y = r
      · subst y2; rw [sp_s]
        simp only
        by_cases k1 : (P l).1 = 1
        · simp [k1]
        · simp [k1]
      · rw [sp_n _ _ y2] at hn ⊢
        by_cases y3 : y = l
        · subst y3; rw [sp_s]
          obtain ⟨c1, c2⟩ := hcn y hl hnf
          rw [hA] at c1
          simp at c1 ⊢
          omega
        · rw [sp_n _ _ y3] at hn ⊢
          obtain ⟨c1, c2⟩ := hcn y hy hn
          refine ⟨c1, ?_⟩
          rcases c2 with c2 | ⟨c2, -⟩ | c2
          · exact Or.inl c2
          · exact absurd c2 y2
          · exact Or.inr (Or.inr c2)
  · rcases hPLI q hq with z | ⟨k, k1, k2, lo, hlo⟩
    · exact Or.inl z
    · refine Or.inr ⟨k, k1, k2, ?_⟩
      by_cases ke : k = e + 1
      · subst ke; exact hq' q ⟨lo, hlo⟩
      · rw [hL' k ke]; exact ⟨lo, hlo⟩
theorem givR_out {g : Nat} (hg : 30 < g) {S R : Mem} {P : Nat → Pg} {pl : List Nat} {w : Nat → Nat × Nat} {h e rt : Nat} {L : Nat → Lev} (hMD : MD S R P pl []) (T : TI P rt h L) (he : e < h) (hwm : ∀ k, k ≤ e → ∃ lo, (lo, (w k).1) ∈ L k) {l r : Nat} {X Y C : List It} {m1 m2 c d c0 d0 c1 d1 : Int32} (hpar : (P (w e).1).2.1 = X ++ (m1, nI l) :: (m2, nI r) :: Y) (hl : l < 40) (hr : r < 40) (hA : (P l).2.1 = [(c, d)]) (hC : (P r).2.1 = (c0, d0) :: (c1, d1) :: C) (hC1 : 1 ≤ C.length) (hcn : CNx P rt h l) (hplw : ∀ k, k ≤ e → (w k).1 ∈ pl) (hPLI : PLI e w h L pl) (ml : l ∈ pl) (mr : r ∈ pl) :
    ∃ S' R', f_X4_giveFromRight g S (nI (w e).1) (nI (X.length + 1)) (nI l) (nI r) = some S' ∧ f_X5_give g R (nI (w e).1) (nI X.length) 0 = some R' ∧ Out S R P pl w h e rt L S' R' := by
  obtain ⟨loe, hme⟩ := hwm e (Nat.le_refl _)
  obtain ⟨⟨lol, hlm⟩, ⟨lor, hrm⟩, hlr, hpl, hpr, hk, hnf⟩ := T.two he hme hpar hl hr
  have hp40 : (w e).1 < 40 := T.2.2.2.2.2.2.1 e (by omega) _ hme
  have hin := T.2.1 e he _ hme
  unfold inn at hin
  simp only at hin
  have hkl := T.kn (show e + 1 ≤ h by omega) hlm
  simp only at hkl
  have hkl' : (P l).1 = 1 ∨ (P l).1 = 2 := by rcases hkl with z | ⟨z, -⟩; exact Or.inl z; exact Or.inr z
  have hMD0 := hMD
  obtain ⟨hRC, hRM, hF, hM, hN⟩ := hMD
  obtain ⟨S1, a1, a2, a3⟩ := c_giveR hg hRC hl hr hp40 hlr hpl hpr hpar hin.1 hin.2.1 hA (by simp) hC hkl' hk
  obtain ⟨R1, b1, b2, b3⟩ := m_giveR hg hRM hl hr hp40 hlr hpl hpr hpar hin.1 hin.2.1 hA (by simp) hC hkl' hk
  have hnz : ∀ y, (P y).1 ≠ 0 → (gvr P l r (w e).1 X Y [(c, d)] C m1 m2 c0 d0 c1 d1 y).1 ≠ 0 := fun y hy => by
    unfold gvr
    exact sp_k (by simp) (sp_k (by rw [hk]; exact hnf) (sp_k hnf hy))
  have hmd1 := hMD0.pages a2 b2 a3 b3 hnz
  obtain ⟨S', R', e1, e2, e3, e4, e5⟩ := hmd1.marks hg ml mr (hplw e (Nat.le_refl _))
  obtain ⟨L', T', hL', hq'⟩ := T.giveR he hme hpar hl hr hA (by simp) hC
  refine ⟨S', R', by rw [a1, e1, bdS], by rw [b1]; exact e2, _, L', pl, e3, T', fun k hk2 => hL' k (by omega), fun k hk2 => ?_, fun y hy hn => ?_, hplw, fun q hq => ?_, Nat.le_refl _, (a3.wk (by simp)).tr (e4.wk (by simp)), (smQ.of b3 (by decide)).tr (smQ.of e5 (by decide))⟩
  · obtain ⟨lk2, hmk⟩ := hwm k (by omega)
    have t9 := T.2.2.2.2.2.2.2.2.1
    unfold gvr
    rw [sp_n _ _ (fun z => by have := t9 k e (by omega) (by omega) _ hmk _ hme z; omega), sp_n _ _ (fun z => by have := t9 k (e + 1) (by omega) (by omega) _ hmk _ hrm z; omega), sp_n _ _ (fun z => by have := t9 k (e + 1) (by omega) (by omega) _ hmk _ hlm z; omega)]
  · unfold gvr at hn ⊢
    by_cases y1 : y = (w e).1
    · subst y1
      obtain ⟨c1, c2⟩ := hcn _ hp40 (by rw [hin.1]; decide)
      rw [hpar] at c1 c2
      rw [sp_s]
      simp at c1 c2 ⊢
      omega
    · rw [sp_n _ _ y1] at hn ⊢
      by_cases y2 : y = r
      · subst y2; rw [sp_s]
        obtain ⟨c1, c2⟩ := hcn y hr (by rw [hk]; exact hnf)
        rw [hC] at c1
        simp at c1 ⊢
        omega
      · rw [sp_n _ _ y2] at hn ⊢
        by_cases y3 : y = l
        · subst y3; rw [sp_s]
          simp
        · rw [sp_n _ _ y3] at hn ⊢
          obtain ⟨c1, c2⟩ := hcn y hy hn
          refine ⟨c1, ?_⟩
          rcases c2 with c2 | ⟨c2, -⟩ | c2
          · exact Or.inl c2
          · exact absurd c2 y3
          · exact Or.inr (Or.inr c2)
  · rcases hPLI q hq with z | ⟨k, k1, k2, lo, hlo⟩
    · exact Or.inl z
    · refine Or.inr ⟨k, k1, k2, ?_⟩
      by_cases ke : k = e + 1
      · subst ke; exact hq' q ⟨lo, hlo⟩
      · rw [hL' k ke]; exact ⟨lo, hlo⟩
theorem join_out {g : Nat} (hg : 30 < g) {S R : Mem} {P : Nat → Pg} {pl : List Nat} {w : Nat → Nat × Nat} {h e rt x : Nat} {L : Nat → Lev} (hMD : MD S R P pl []) (T : TI P rt h L) (he : e < h) (hwm : ∀ k, k ≤ e → ∃ lo, (lo, (w k).1) ∈ L k) {l r : Nat} {X Y A C : List It} {m1 m2 c0 d0 : Int32} (hpar : (P (w e).1).2.1 = X ++ (m1, nI l) :: (m2, nI r) :: Y) (hl : l < 40) (hr : r < 40) (hA : (P l).2.1 = A) (hA0 : A ≠ []) (hC : (P r).2.1 = (c0, d0) :: C) (h3 : A.length + C.length = 2) (hcn : CNx P rt h x) (hx : x = l ∨ x = r) (hplw : ∀ k, k ≤ e → (w k).1 ∈ pl) (hPLI : PLI e w h L pl) (ml : l ∈ pl) (mr : r ∈ pl) :
    ∃ S' R', f_X4_join g S (nI (w e).1) (nI (X.length + 1)) (nI l) (nI r) = some S' ∧ f_X5_join g R (nI (w e).1) (nI X.length) = some R' ∧ Out S R P pl w h e rt L S' R' := by
  obtain ⟨loe, hme⟩ := hwm e (Nat.le_refl _)
  obtain ⟨⟨lol, hlm⟩, ⟨lor, hrm⟩, hlr, hpl, hpr, hk, hnf⟩ := T.two he hme hpar hl hr
  have hp40 : (w e).1 < 40 := T.2.2.2.2.2.2.1 e (by omega) _ hme
  have hin := T.2.1 e he _ hme
  unfold inn at hin
  simp only at hin
  have t9 := T.2.2.2.2.2.2.2.2.1
  have hkl : (P l).1 = 1 ∨ ((P l).1 = 2 ∧ (P l).2.2 = (P r).2.2) := by
    have k1 := T.kn (show e + 1 ≤ h by omega) hlm
    have k2 := T.kn (show e + 1 ≤ h by omega) hrm
    simp only at k1 k2
    rcases k1 with k1 | ⟨k1, k1'⟩
    · exact Or.inl k1
    · rcases k2 with k2 | ⟨k2, k2'⟩
      · rw [hk, k1] at k2; exact absurd k2 (by decide)
      · exact Or.inr ⟨k1, by rw [k1', k2']⟩
  obtain ⟨S', R', a1, a2, a3, a4, a5⟩ := joinE hg hMD hl hr hp40 hlr hpl hpr hpar hin.1 hin.2.1 hA hC (by omega) hkl hk ml mr (hplw e (Nat.le_refl _))
  obtain ⟨L', T', hL', hq'⟩ := T.join he hme hpar hl hr hA hA0 hC
  refine ⟨S', R', a1, a2, _, L', _, a3, T', fun k hk2 => hL' k (by omega), fun k hk2 => ?_, fun y hy hn => ?_, fun k hk2 => ?_, fun q hq => ?_, List.length_filter_le _ _, a4, a5⟩
  · obtain ⟨lk2, hmk⟩ := hwm k (by omega)
    unfold jnp
    rw [sp_n _ _ (fun z => by have := t9 k e (by omega) (by omega) _ hmk _ hme z; omega), sp_n _ _ (fun z => by have := t9 k (e + 1) (by omega) (by omega) _ hmk _ hrm z; omega), sp_n _ _ (fun z => by have := t9 k (e + 1) (by omega) (by omega) _ hmk _ hlm z; omega)]
  · unfold jnp at hn ⊢
    by_cases y1 : y = (w e).1
    · subst y1
      obtain ⟨c1, c2⟩ := hcn _ hp40 (by rw [hin.1]; decide)
      rw [hpar] at c1 c2
      rw [sp_s]
      simp at c1 c2 ⊢
      omega
    · rw [sp_n _ _ y1] at hn ⊢
      by_cases y2 : y = r
      · subst y2; rw [sp_s] at hn; exact absurd rfl hn
      · rw [sp_n _ _ y2] at hn ⊢
        by_cases y3 : y = l
        · subst y3; rw [sp_s]
          simp
          omega
        · rw [sp_n _ _ y3] at hn ⊢
          obtain ⟨c1, c2⟩ := hcn y hy hn
          refine ⟨c1, ?_⟩
          rcases c2 with c2 | ⟨c2, -⟩ | c2
          · exact Or.inl c2
          · rcases hx with z | z
            · exact absurd (c2.trans z) y3
            · exact absurd (c2.trans z) y2
          · exact Or.inr (Or.inr c2)
  · refine List.mem_filter.mpr ⟨hplw k hk2, ?_⟩
    obtain ⟨lk2, hmk⟩ := hwm k hk2
    simp
    intro z
    have := t9 k (e + 1) (by omega) (by omega) _ hmk _ hrm z
    omega
  · obtain ⟨hq1, hq2⟩ := List.mem_filter.mp hq
    simp at hq2
    rcases hPLI q hq1 with z | ⟨k, k1, k2, lo, hlo⟩
    · exact Or.inl z
    · refine Or.inr ⟨k, k1, k2, ?_⟩
      by_cases ke : k = e + 1
      · subst ke; exact hq' q hq2 ⟨lo, hlo⟩
      · rw [hL' k ke]; exact ⟨lo, hlo⟩
