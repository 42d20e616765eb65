theorem HN.step {S T : Mem} {P P' : Nat → Pg} {q : Nat} (h : HN S P) (hq : q < 40) (ht : ∀ i, i < 12 → T.1 8 i = S.1 8 i ∨ T.1 8 i = nI q) (hP : ∀ y, y < 40 → (P y).1 ≠ 0 → (P' y).1 ≠ 0) (hPq : (P' q).1 ≠ 0) : HN T P' := by
  intro i hi y hy e
  rcases ht i hi with z | z
  · exact hP y hy (h i hi y hy (z ▸ e))
  · rw [z] at e
    have := nI_inj (by omega) (by omega) e
    rw [← this]; exact hPq
theorem HN.sm {S T : Mem} {P : Nat → Pg} {l : List Nat} (h : HN S P) (hs : smX l S T) (hl : 8 ∉ l) : HN T P := by
  unfold HN
  rw [hs.2 8 hl]
  exact h
theorem sp_k {P : Nat → Pg} {p : Nat} {x : Pg} {y : Nat} (hx : x.1 ≠ 0) (h : (P y).1 ≠ 0) : (sp P p x y).1 ≠ 0 := by
  by_cases e : y = p
  · subst e; rw [sp_s]; exact hx
  · rw [sp_n _ _ e]; exact h
set_option maxHeartbeats 2000000 in
theorem splitE {g : Nat} (hg : 50 < g) {S R : Mem} {P : Nat → Pg} {pl : List Nat} {w : Nat → Nat × Nat} {h e q p par : Nat} (hMD : MD S R P pl []) (hC : WC S w h) (hW : WM R w h) (h4 : h ≤ 4) (he : e + 1 ≤ h) (hp : (w (e + 1)).1 = p) (hpa : (w e).1 = par) (p40 : p < 40) (par40 : par < 40) (hpp : p ≠ par) {A B X Y : List It} {m b m1 : Int32} (hA : (P p).2.1 = A ++ (m, b) :: B) (hA2 : A.length = 2) (hB2 : B.length = 2) (hk : (P p).1 = 1 ∨ ((P p).1 = 2 ∧ (P p).2.2 = -1)) (hkp : (P par).1 = 2) (hkn : (P par).2.2 = -1) (hX : (P par).2.1 = X ++ (m1, nI p) :: Y) (hXl : X.length = (w (e + 1)).2) (hl4 : (P par).2.1.length ≤ 4) (hq : Lf P q) (hppl : p ∈ pl) (hparpl : par ∈ pl) (hpl : pl.length ≤ 11) :
    ∃ S' R', f_X4_split g S (nI (e + 1)) = some S' ∧ f_X5_split g R (nI (e + 1)) = some R' ∧ MD S' R' (spl P p q par X Y A B m1 m b) (q :: pl) [] ∧ smX lC S S' ∧ smQ R R' := by
  obtain ⟨hRC, hRM, hF, hM, hN⟩ := hMD
  have hk0 : (P p).1 ≠ 0 := by rcases hk with z | ⟨z, -⟩ <;> (rw [z]; decide)
  have hpq : p ≠ q := fun z => hk0 (by rw [z]; exact hq.2.1)
  have hparq : par ≠ q := fun z => by have := hq.2.1; rw [← z, hkp] at this; exact absurd this (by decide)
  have q40 := hq.1
  have hqpl : q ∉ pl := fun z => hN.pl hF z hq.2.1
  have hXlen : X.length + Y.length + 1 ≤ 4 := by rw [hX] at hl4; simp at hl4; omega
  -- the new page is allotted and touched
  obtain ⟨S4, a1, a2, a3⟩ := c_allot (g := g) hRC (p := q) (P p).1 q40
  have hF4 := hF.sm a3 (by decide)
  have hM4 := hM.smC a3 (by decide)
  obtain ⟨S6, R5, b1, b2, b3, b4, b5, b6, b7⟩ := touch_both (g := g) (w := 1) (by omega) hF4 hM4 q40 hqpl (by simp) hpl
  have c6 : RC S6 (sp P q ((P p).1, [], -1)) := a2.sm b5 (by decide)
  have c5 : RM R5 P := hRM.sm b6.1 (by decide)
  obtain ⟨S14, d1, d2, d3⟩ := c_spA hg p40 q40 hpq c6 hA hA2 hB2 hk
  obtain ⟨R24, e1, e2, e3⟩ := m_spA hg p40 q40 hpq c5 hA hA2 hB2 hk (nI (e + 1))
  have hF14 := b3.sm d3 (by decide)
  have hM24 : FM [] S14 R24 := (b4.smC d3 (by decide)).smM e3 (by decide) (fun j _ => by rw [e3.2 0 (by decide)])
  obtain ⟨R27, f1, f2, f3⟩ := chgE (g := g) (by omega) hF14 hM24 (p := q) List.mem_cons_self
  obtain ⟨R29, g1, g2, g3⟩ := chgE (g := g) (by omega) hF14 f2 (p := p) (List.mem_cons_of_mem _ hppl)
  have hC14 : WC S14 w h := ((hC.sm a3 (by decide)).sm b5 (by decide)).sm d3 (by decide)
  have hW5 : WM R5 w h := hW.sm b6.1 (b6.2 8 (by decide) (by decide) (by decide) (by decide)) (by decide)
  have hW29 : WM R29 w h := ((hW5.sm e3 (by rw [e3.2 0 (by decide)]) (by decide)).sm f3 (by rw [f3.2 0 (by decide)]) (by decide)).sm g3 (by rw [g3.2 0 (by decide)]) (by decide)
  have r29 : RM R29 (spm P p q A B m b) := (e2.sm f3 (by decide)).sm g3 (by decide)
  have hpm : spm P p q A B m b par = P par := by unfold spm; rw [sp_n _ _ hparq, sp_n _ _ (Ne.symm hpp)]
  -- the parent
  obtain ⟨S24, i1, i2, i3⟩ := c_ins (g := g) (by omega) d2 (p := par) (X := X ++ [(m1, nI p)]) (Y := Y) m (nI q) par40 (by rw [hpm, hX]; simp) (by simp; omega)
  obtain ⟨R46, j1, j2, j3⟩ := m_ins (g := g) (by omega) r29 (p := par) (X := X ++ [(m1, nI p)]) (Y := Y) m (nI q) par40 (by rw [hpm, hX]; simp) (by simp; omega)
  have hPf : sp (spm P p q A B m b) par ((spm P p q A B m b par).1, X ++ [(m1, nI p)] ++ (m, nI q) :: Y, (spm P p q A B m b par).2.2) = spl P p q par X Y A B m1 m b := by
    rw [hpm, hkp, hkn]
    unfold spm spl
    simp
  rw [hPf] at i2 j2
  have hlx : (X ++ [(m1, nI p)]).length = (w (e + 1)).2 + 1 := by rw [List.length_append, hXl]; rfl
  rw [hlx] at i1 j1
  have hF24 := hF14.sm i3 (by decide)
  have hM46 : FM [p, q] S24 R46 := (g2.smC i3 (by decide)).smM j3 (by decide) (fun j _ => by rw [j3.2 0 (by decide)])
  obtain ⟨R49, k1, k2, k3⟩ := chgE (g := g) (by omega) hF24 hM46 (p := par) (List.mem_cons_of_mem _ hparpl)
  obtain ⟨S26, l1, l2, l3, l4⟩ := soil3E (g := g) (by omega) (a := p) (b := q) (c := par) hF24 k2 (List.mem_cons_of_mem _ hppl) List.mem_cons_self (List.mem_cons_of_mem _ hparpl) (fun y => by simp; omega)
  have hW46 : WM R46 w h := hW29.sm j3 (by rw [j3.2 0 (by decide)]) (by decide)
  refine ⟨S26, R49, ?_, ?_, ⟨i2.sm l4 (by decide), j2.sm k3 (by decide), l2, l3, ?_⟩, ?_, ?_⟩
  · have hit : (sp P q ((P p).1, [], -1) p).2.1[2]? = some (m, b) := by rw [sp_n _ _ hpq, hA, ← hA2]; exact getX _ _ _
    unfold f_X4_split
    rw [c_pageAt hC he (by omega), bdS, hp, c_kind hRC p40, bdS]
    unfold f_X4_takePage
    rw [c_lf hg hRC hq, bdS, a1, bdS, b1, bdS, bd2S, show (2 : Int32) = nI 2 from rfl, c_key c6 p40 hit, bdS]
    refine (d1 _).trans ?_
    simp only [jn2]
    rw [nI_pred, c_pageAt hC14 (show e ≤ h by omega) (by omega), bdS, if_neg (nI_ne0 (by omega) (by omega)), c_slotAt hC14 he (by omega), bdS, nI_1, hpa, i1, bdS, l1, bdS]
  · rw [m_split_eq, gdI (by omega) (by decide), nI_clamp (by omega), (hW.2 (e + 1) he).1, hp, m_lf hg hRM hq, bdS, b2, bdS, e1]
    unfold Ks
    rw [f1, bdS, g1, bdS, if_neg (nI_nle (by omega) (by omega)), nI_pred, gdI (by omega) (by decide), gdI (by omega) (by decide)]
    simp only [nI_clamp (show e < 2 ^ 31 by omega), nI_clamp (show e + 1 < 2 ^ 31 by omega), (hW29.2 e (by omega)).1, (hW29.2 (e + 1) he).2, hpa, nI_1, j1, bdS, (hW46.2 e (by omega)).1, k1]
    rw [gdI (by omega) (by decide)]
  · have h8 : ∀ i, S26.1 8 i = S6.1 8 i := fun i => by rw [l4.2 8 (by decide), i3.2 8 (by decide), d3.2 8 (by decide)]
    refine hN.step q40 (fun i hi => ?_) (fun y _ hy => ?_) ?_
    · rw [h8 i]
      rcases b7 i hi with z | z
      · left; rw [z, a3.2 8 (by decide)]
      · exact Or.inr z
    · unfold spl
      exact sp_k (by simp) (sp_k hk0 (sp_k hk0 hy))
    · unfold spl
      rw [sp_n _ _ (Ne.symm hparq), sp_s]; exact hk0
  · exact ((a3.wk (by simp)).tr (b5.wk (by simp))).tr ((d3.wk (by simp)).tr ((i3.wk (by simp)).tr (l4.wk (by simp))))
  · exact (b6.q).tr ((smQ.of e3 (by decide)).tr ((smQ.of f3 (by decide)).tr ((smQ.of g3 (by decide)).tr ((smQ.of j3 (by decide)).tr (smQ.of k3 (by decide))))))
