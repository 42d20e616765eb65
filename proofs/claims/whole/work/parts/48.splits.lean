theorem HN.step {S T : Mem} {P P' : Nat → Pg} {q : Nat} (h : HN S P) (hq : q < 40) (ht : ∀ i, i < 12 → T.1 8 i = S.1 8 i ∨ T.1 8 i = nI q) (hP : ∀ y, y < 40 → (P y).1 ≠ 0 → (P' y).1 ≠ 0) (hPq : (P' q).1 ≠ 0) : HN T P' := by
  intro i hi y hy e
  rcases ht i hi with z | z
  · exact hP y hy (h i hi y hy (z ▸ e))
  · rw [z] at e
    have := nI_inj (by omega) (by omega) e
    rw [← this]; exact hPq
theorem HN.sm {S T : Mem} {P : Nat → Pg} {l : List Nat} (h : HN S P) (hs : smX l S T) (hl : 8 ∉ l) : HN T P := by
  unfold HN
  rw [hs.2 8 hl]
  exact h
theorem sp_k {P : Nat → Pg} {p : Nat} {x : Pg} {y : Nat} (hx : x.1 ≠ 0) (h : (P y).1 ≠ 0) : (sp P p x y).1 ≠ 0 := by
  by_cases e : y = p
  · subst e; rw [sp_s]; exact hx
  · rw [sp_n _ _ e]; exact h
set_option maxHeartbeats 2000000 in
theorem splitE {g : Nat} (hg : 50 < g) {S R : Mem} {P : Nat → Pg} {pl : List Nat} {w : Nat → Nat × Nat} {h e q p par : Nat} (hMD : MD S R P pl []) (hC : WC S w h) (hW : WM R w h) (h4 : h ≤ 4) (he : e + 1 ≤ h) (hp : (w (e + 1)).1 = p) (hpa : (w e).1 = par) (p40 : p < 40) (par40 : par < 40) (hpp : p ≠ par) {A B X Y : List It} {m b m1 : Int32} (hA : (P p).2.1 = A ++ (m, b) :: B) (hA2 : A.length = 2) (hB2 : B.length = 2) (hk : (P p).1 = 1 ∨ ((P p).1 = 2 ∧ (P p).2.2 = -1)) (hkp : (P par).1 = 2) (hkn : (P par).2.2 = -1) (hX : (P par).2.1 = X ++ (m1, nI p) :: Y) (hXl : X.length = (w (e + 1)).2) (hl4 : (P par).2.1.length ≤ 4) (hq : Lf P q) (hppl : p ∈ pl) (hparpl : par ∈ pl) (hpl : pl.length ≤ 11) :
    ∃ S' R', f_X4_split g S (nI (e + 1)) = some S' ∧ f_X5_split g R (nI (e + 1)) = some R' ∧ MD S' R' (spl P p q par X Y A B m1 m b) (q :: pl) [] ∧ smX lC S S' ∧ smQ R R' := by
  obtain ⟨hRC, hRM, hF, hM, hN⟩ := hMD
  have hk0 : (P p).1 ≠ 0 := by rcases hk with z | ⟨z, -⟩ <;> (rw [z]; decide)
  have hpq : p ≠ q := fun z => hk0 (by rw [z]; exact hq.2.1)
  have hparq : par ≠ q := fun z => by have := hq.2.1; rw [← z, hkp] at this; exact absurd this (by decide)
  have q40 := hq.1
  have hqpl : q ∉ pl := fun z => hN.pl hF z hq.2.1
  have hXlen : X.length + Y.length + 1 ≤ 4 := by rw [hX] at hl4; simp at hl4; omega
  -- the new page is allotted and touched
  obtain ⟨S4, a1, a2, a3⟩ := c_allot (g := g) hRC (p := q) (P p).1 q40
  have hF4 := hF.sm a3 (by decide)
  have hM4 := hM.smC a3 (by decide)
  obtain ⟨S6, R5, b1, b2, b3, b4, b5, b6, b7⟩ := touch_both (g := g) (w := 1) (by omega) hF4 hM4 q40 hqpl (by simp) hpl
  have c6 : RC S6 (sp P q ((P p).1, [], -1)) := a2.sm b5 (by decide)
  have c5 : RM R5 P := hRM.sm b6.1 (by decide)
  obtain ⟨S14, d1, d2, d3⟩ := c_spA hg p40 q40 hpq c6 hA hA2 hB2 hk
  obtain ⟨R24, e1, e2, e3⟩ := m_spA hg p40 q40 hpq c5 hA hA2 hB2 hk (nI (e + 1))
  have hF14 := b3.sm d3 (by decide)
  have hM24 : FM [] S14 R24 := (b4.smC d3 (by decide)).smM e3 (by decide) (fun j _ => by rw [e3.2 0 (by decide)])
  obtain ⟨R27, f1, f2, f3⟩ := chgE (g := g) (by omega) hF14 hM24 (p := q) List.mem_cons_self
  obtain ⟨R29, g1, g2, g3⟩ := chgE (g := g) (by omega) hF14 f2 (p := p) (List.mem_cons_of_mem _ hppl)
  have hC14 : WC S14 w h := ((hC.sm a3 (by decide)).sm b5 (by decide)).sm d3 (by decide)
  have hW5 : WM R5 w h := hW.sm b6.1 (b6.2 8 (by decide) (by decide) (by decide) (by decide)) (by decide)
  have hW29 : WM R29 w h := ((hW5.sm e3 (by rw [e3.2 0 (by decide)]) (by decide)).sm f3 (by rw [f3.2 0 (by decide)]) (by decide)).sm g3 (by rw [g3.2 0 (by decide)]) (by decide)
  have r29 : RM R29 (spm P p q A B m b) := (e2.sm f3 (by decide)).sm g3 (by decide)
  have hpm : spm P p q A B m b par = P par := by unfold spm; rw [sp_n _ _ hparq, sp_n _ _ (Ne.symm hpp)]
  -- the parent
  obtain ⟨S24, i1, i2, i3⟩ := c_ins (g := g) (by omega) d2 (p := par) (X := X ++ [(m1, nI p)]) (Y := Y) m (nI q) par40 (by rw [hpm, hX]; simp) (by simp; omega)
  obtain ⟨R46, j1, j2, j3⟩ := m_ins (g := g) (by omega) r29 (p := par) (X := X ++ [(m1, nI p)]) (Y := Y) m (nI q) par40 (by rw [hpm, hX]; simp) (by simp; omega)
  have hPf : sp (spm P p q A B m b) par ((spm P p q A B m b par).1, X ++ [(m1, nI p)] ++ (m, nI q) :: Y, (spm P p q A B m b par).2.2) = spl P p q par X Y A B m1 m b := by
    rw [hpm, hkp, hkn]
    unfold spm spl
    simp
  rw [hPf] at i2 j2
  have hlx : (X ++ [(m1, nI p)]).length = (w (e + 1)).2 + 1 := by rw [List.length_append, hXl]; rfl
  rw [hlx] at i1 j1
  have hF24 := hF14.sm i3 (by decide)
  have hM46 : FM [p, q] S24 R46 := (g2.smC i3 (by decide)).smM j3 (by decide) (fun j _ => by rw [j3.2 0 (by decide)])
  obtain ⟨R49, k1, k2, k3⟩ := chgE (g := g) (by omega) hF24 hM46 (p := par) (List.mem_cons_of_mem _ hparpl)
  obtain ⟨S26, l1, l2, l3, l4⟩ := soil3E (g := g) (by omega) (a := p) (b := q) (c := par) hF24 k2 (List.mem_cons_of_mem _ hppl) List.mem_cons_self (List.mem_cons_of_mem _ hparpl) (fun y => by simp; omega)
  have hW46 : WM R46 w h := hW29.sm j3 (by rw [j3.2 0 (by decide)]) (by decide)
  refine ⟨S26, R49, ?_, ?_, ⟨i2.sm l4 (by decide), j2.sm k3 (by decide), l2, l3, ?_⟩, ?_, ?_⟩
  · have hit : (sp P q ((P p).1, [], -1) p).2.1[2]? = some (m, b) := by rw [sp_n _ _ hpq, hA, ← hA2]; exact getX _ _ _
    unfold f_X4_split
    rw [c_pageAt hC he (by omega), bdS, hp, c_kind hRC p40, bdS]
    unfold f_X4_takePage
    rw [c_lf hg hRC hq, bdS, a1, bdS, b1, bdS, bd2S, show (2 : Int32) = nI 2 from rfl, c_key c6 p40 hit, bdS]
    refine (d1 _).trans ?_
    simp only [jn2]
    rw [nI_pred, c_pageAt hC14 (show e ≤ h by omega) (by omega), bdS, if_neg (nI_ne0 (by omega) (by omega)), c_slotAt hC14 he (by omega), bdS, nI_1, hpa, i1, bdS, l1, bdS]
  · rw [m_split_eq, gdI (by omega) (by decide), nI_clamp (by omega), (hW.2 (e + 1) he).1, hp, m_lf hg hRM hq, bdS, b2, bdS, e1]
    unfold Ks
    rw [f1, bdS, g1, bdS, if_neg (nI_nle (by omega) (by omega)), nI_pred, gdI (by omega) (by decide), gdI (by omega) (by decide)]
    simp only [nI_clamp (show e < 2 ^ 31 by omega), nI_clamp (show e + 1 < 2 ^ 31 by omega), (hW29.2 e (by omega)).1, (hW29.2 (e + 1) he).2, hpa, nI_1, j1, bdS, (hW46.2 e (by omega)).1, k1]
    rw [gdI (by omega) (by decide)]
  · have h8 : ∀ i, S26.1 8 i = S6.1 8 i := fun i => by rw [l4.2 8 (by decide), i3.2 8 (by decide), d3.2 8 (by decide)]
    refine hN.step q40 (fun i hi => ?_) (fun y _ hy => ?_) ?_
    · rw [h8 i]
      rcases b7 i hi with z | z
      · left; rw [z, a3.2 8 (by decide)]
      · exact Or.inr z
    · unfold spl
      exact sp_k (by simp) (sp_k hk0 (sp_k hk0 hy))
    · unfold spl
      rw [sp_n _ _ (Ne.symm hparq), sp_s]; exact hk0
  · exact ((a3.wk (by simp)).tr (b5.wk (by simp))).tr ((d3.wk (by simp)).tr ((i3.wk (by simp)).tr (l4.wk (by simp))))
  · exact (b6.q).tr ((smQ.of e3 (by decide)).tr ((smQ.of f3 (by decide)).tr ((smQ.of g3 (by decide)).tr ((smQ.of j3 (by decide)).tr (smQ.of k3 (by decide))))))
set_option maxHeartbeats 2000000 in
theorem splitR {g : Nat} (hg : 50 < g) {S R : Mem} {P : Nat → Pg} {pl : List Nat} {w : Nat → Nat × Nat} {h q r p : Nat} (hMD : MD S R P pl []) (hC : WC S w h) (hW : WM R w h) (h4 : h ≤ 4) (hp : (w 0).1 = p) (hs0 : (w 0).2 = 0) (p40 : p < 40) {A B : List It} {m b : Int32} (hA : (P p).2.1 = A ++ (m, b) :: B) (hA2 : A.length = 2) (hB2 : B.length = 2) (hk : (P p).1 = 1 ∨ ((P p).1 = 2 ∧ (P p).2.2 = -1)) (hq : Lf P q) (hr : Lf (spm P p q A B m b) r) (hr0 : P r = (0, [], -1)) (hppl : p ∈ pl) (hpl : pl.length ≤ 10) (hrtS : S.1 0 4 = nI p) :
    ∃ S' R', f_X4_split g S (nI 0) = some S' ∧ f_X5_split g R (nI 0) = some R' ∧ MD S' R' (spl (sp P r (2, [(0, nI p)], -1)) p q r [] [] A B 0 m b) (r :: q :: pl) [] ∧ smX (0 :: lC) S S' ∧ S'.1 0 4 = nI r ∧ (∀ j, j ≠ 4 → S'.1 0 j = S.1 0 j) ∧ smX [0, 1, 2, 3, 4, 5, 8, 9, 10, 11] R R' ∧ R'.1 0 6 = nI r ∧ (∀ j, j ≠ 6 → j ≠ 15 → j ≠ 16 → j ≠ 17 → j ≠ 18 → R'.1 0 j = R.1 0 j) := by
  obtain ⟨hRC, hRM, hF, hM, hN⟩ := hMD
  have hk0 : (P p).1 ≠ 0 := by rcases hk with z | ⟨z, -⟩ <;> (rw [z]; decide)
  have hpq : p ≠ q := fun z => hk0 (by rw [z]; exact hq.2.1)
  have q40 := hq.1
  have r40 := hr.1
  have hrq : r ≠ q := fun z => by
    have := hr.2.1
    rw [z] at this
    unfold spm at this
    rw [sp_s] at this
    exact hk0 this
  have hrp : r ≠ p := fun z => by
    have := hr.2.1
    rw [z] at this
    unfold spm at this
    rw [sp_n _ _ hpq, sp_s] at this
    exact hk0 this
  have hqpl : q ∉ pl := fun z => hN.pl hF z hq.2.1
  obtain ⟨S4, a1, a2, a3⟩ := c_allot (g := g) hRC (p := q) (P p).1 q40
  have hF4 := hF.sm a3 (by decide)
  have hM4 := hM.smC a3 (by decide)
  obtain ⟨S6, R5, b1, b2, b3, b4, b5, b6, b7⟩ := touch_both (g := g) (w := 1) (by omega) hF4 hM4 q40 hqpl (by simp) (by omega)
  have c6 : RC S6 (sp P q ((P p).1, [], -1)) := a2.sm b5 (by decide)
  have c5 : RM R5 P := hRM.sm b6.1 (by decide)
  obtain ⟨S14, d1, d2, d3⟩ := c_spA hg p40 q40 hpq c6 hA hA2 hB2 hk
  obtain ⟨R24, e1, e2, e3⟩ := m_spA hg p40 q40 hpq c5 hA hA2 hB2 hk (nI 0)
  have hF14 := b3.sm d3 (by decide)
  have hM24 : FM [] S14 R24 := (b4.smC d3 (by decide)).smM e3 (by decide) (fun j _ => by rw [e3.2 0 (by decide)])
  obtain ⟨R27, f1, f2, f3⟩ := chgE (g := g) (by omega) hF14 hM24 (p := q) List.mem_cons_self
  obtain ⟨R29, g1, g2, g3⟩ := chgE (g := g) (by omega) hF14 f2 (p := p) (List.mem_cons_of_mem _ hppl)
  have hC14 : WC S14 w h := ((hC.sm a3 (by decide)).sm b5 (by decide)).sm d3 (by decide)
  have r29 : RM R29 (spm P p q A B m b) := (e2.sm f3 (by decide)).sm g3 (by decide)
  have hpm : spm P p q A B m b r = (0, [], -1) := by unfold spm; rw [sp_n _ _ hrq, sp_n _ _ hrp, hr0]
  have hN14 : HN S14 (spm P p q A B m b) := by
    refine hN.step q40 (fun i hi => ?_) (fun y _ hy => ?_) ?_
    · rw [d3.2 8 (by decide)]
      rcases b7 i hi with z | z
      · left; rw [z, a3.2 8 (by decide)]
      · exact Or.inr z
    · unfold spm
      exact sp_k hk0 (sp_k hk0 hy)
    · unfold spm
      rw [sp_s]; exact hk0
  have hrpl : r ∉ q :: pl := fun z => hN14.pl hF14 z hr.2.1
  -- the new root
  obtain ⟨T4, m1, m2, m3⟩ := c_allot (g := g) d2 (p := r) 2 r40
  obtain ⟨T6, R34, n1, n2, n3, n4, n5, n6, n7⟩ := touch_both (g := g) (w := 1) (by omega) (hF14.sm m3 (by decide)) (g2.smC m3 (by decide)) r40 hrpl (fun y hy => by simp at hy; rcases hy with rfl | rfl <;> simp [hppl]) (by simp; omega)
  have rt6 : T6.1 0 4 = nI p := by rw [n5.2 0 (by decide), m3.2 0 (by decide), d3.2 0 (by decide), b5.2 0 (by decide), a3.2 0 (by decide)]; exact hrtS
  have o6 : RC T6 (sp (spm P p q A B m b) r (2, [], -1)) := m2.sm n5 (by decide)
  obtain ⟨T7, o1, o2, o3⟩ := c_ins (g := g) (by omega) o6 (p := r) (X := []) (Y := []) 0 (nI p) r40 (by rw [sp_s]; rfl) (by decide)
  rw [sp_s] at o2
  simp only [List.nil_append] at o2
  have hs8 : smX [0] T7 (up T7 0 4 (nI r)) := smX.rf.up _ _ (by decide)
  have o8 : RC (up T7 0 4 (nI r)) _ := o2.sm hs8 (by decide)
  obtain ⟨T9, p1, p2, p3⟩ := c_ins (g := g) (by omega) o8 (p := r) (X := [(0, nI p)]) (Y := []) m (nI q) r40 (by rw [sp_s]; rfl) (by simp)
  rw [sp_s] at p2
  have hPf : sp (sp (sp (spm P p q A B m b) r (2, [], -1)) r (2, [(0, nI p)], -1)) r (2, [(0, nI p)] ++ [(m, nI q)], -1) = spl (sp P r (2, [(0, nI p)], -1)) p q r [] [] A B 0 m b := by
    unfold spm spl
    rw [sp_n P _ (Ne.symm hrp)]
    funext y
    simp only [sp]
    by_cases y1 : y = r
    · simp [y1]
    · simp [y1]
  have p2' : RC T9 (spl (sp P r (2, [(0, nI p)], -1)) p q r [] [] A B 0 m b) := hPf ▸ p2
  have r34 : RM R34 (spm P p q A B m b) := r29.sm n6.1 (by decide)
  have q36 : RM (up (up R34 1 r 2) 2 r 0) (sp (spm P p q A B m b) r (2, [], -1)) := by
    refine Rp.emp r34 (fun y => ?_) (fun y => ?_) (fun y => ?_) ?_ ?_
    · simp only [upA]; simp
    · rw [upN _ _ _ (by decide), upN _ _ _ (by decide)]
      by_cases z : y = r
      · rw [if_pos z, z, (r34 r r40).2.2.1, hpm]
      · rw [if_neg z]
    · simp only [upA]; simp
    · rw [upN _ _ _ (by decide), upN _ _ _ (by decide)]
    · rw [upN _ _ _ (by decide), upN _ _ _ (by decide)]
  obtain ⟨R38, s1, s2, s3⟩ := m_ins (g := g) (by omega) q36 (p := r) (X := []) (Y := []) 0 (nI p) r40 (by rw [sp_s]; rfl) (by decide)
  rw [sp_s] at s2
  simp only [List.nil_append] at s2
  obtain ⟨R40, t1, t2, t3⟩ := m_ins (g := g) (by omega) s2 (p := r) (X := [(0, nI p)]) (Y := []) m (nI q) r40 (by rw [sp_s]; rfl) (by simp)
  rw [sp_s] at t2
  have t2' : RM R40 (spl (sp P r (2, [(0, nI p)], -1)) p q r [] [] A B 0 m b) := hPf ▸ t2
  have hs41 : smX [0] R40 (up R40 0 6 (nI r)) := smX.rf.up _ _ (by decide)
  have hF9 : FI T9 (r :: q :: pl) := ((n3.sm o3 (by decide)).sm hs8 (by decide)).sm p3 (by decide)
  have hM41 : FM [p, q] T9 (up R40 0 6 (nI r)) := by
    have h1 : FM [p, q] T9 R34 := ((n4.smC o3 (by decide)).smC hs8 (by decide)).smC p3 (by decide)
    have hsx : smX [0, 1, 2, 3, 4] R34 (up R40 0 6 (nI r)) := ((((smX.rf.up _ _ (by decide)).up _ _ (by decide)).tr (s3.wk (by simp))).tr (t3.wk (by simp))).tr (hs41.wk (by simp))
    refine h1.smM hsx (by decide) (fun j hj => ?_)
    rw [upA, if_neg (by omega), t3.2 0 (by decide), s3.2 0 (by decide), upN _ _ _ (by decide), upN _ _ _ (by decide)]
  obtain ⟨R42, u1, u2, u3⟩ := chgE (g := g) (by omega) hF9 hM41 (p := r) List.mem_cons_self
  obtain ⟨T10, v1, v2, v3, v4⟩ := soil3E (g := g) (by omega) (a := p) (b := q) (c := r) hF9 u2 (by simp [hppl]) (by simp) (by simp) (fun y => by simp; omega)
  have hC9 : WC (up T7 0 4 (nI r)) w h := (((hC14.sm m3 (by decide)).sm n5 (by decide)).sm o3 (by decide)).sm hs8 (by decide)
  refine ⟨T10, R42, ?_, ?_, ⟨p2'.sm v4 (by decide), (t2'.sm hs41 (by decide)).sm u3 (by decide), v2, v3, ?_⟩, ?_, ?_, ?_, ?_, ?_, ?_⟩
  · have hit : (sp P q ((P p).1, [], -1) p).2.1[2]? = some (m, b) := by rw [sp_n _ _ hpq, hA, ← hA2]; exact getX _ _ _
    unfold f_X4_split
    rw [c_pageAt hC (Nat.zero_le _) (by omega), bdS, hp, c_kind hRC p40, bdS]
    unfold f_X4_takePage
    rw [c_lf hg hRC hq, bdS, a1, bdS, b1, bdS, bd2S, show (2 : Int32) = nI 2 from rfl, c_key c6 p40 hit, bdS]
    refine (d1 _).trans ?_
    simp only [jn2]
    have z1 : f_X3_pageAt g S14 (nI 0 - 1) = some (-1) := by
      unfold f_X3_pageAt
      rw [if_pos (by decide)]
    rw [z1, bdS, if_pos (by decide), c_lf hg d2 hr, bdS, show nI 2 = (2 : Int32) from rfl, m1, bdS, n1, bdS, bd2S]
    unfold f_X4_raiseRoot
    have o1' : f_X0_insert g T6 (nI r) 0 0 (nI p) = some T7 := o1
    have p1' : f_X0_insert g (up T7 0 4 (nI r)) (nI r) (nI (0 + 1)) m (nI q) = some T9 := p1
    rw [rt6, o1', bdS, bdS, c_slotAt hC9 (Nat.zero_le _) (by omega), bdS, hs0, nI_1, p1', bdS, v1, bdS]
  · rw [m_split_eq, gdT (by decide), show (nI 0).toNatClampNeg = 0 from rfl, (hW.2 0 (Nat.zero_le _)).1, hp, m_lf hg hRM hq, bdS, b2, bdS, e1]
    unfold Ks
    have s1' : f_X5_insert g (up (up R34 1 r 2) 2 r 0) (nI r) 0 0 (nI p) = some R38 := s1
    have t1' : f_X5_insert g R38 (nI r) 1 m (nI q) = some R40 := t1
    rw [f1, bdS, g1, bdS, if_pos (by decide), m_lf hg r29 hr, bdS, n2, bdS, gdI r40 (by decide), gdI r40 (by decide)]
    simp only [nI_clamp (show r < 2 ^ 31 by omega)]
    rw [s1', bdS, t1', bdS, u1, bdS]
  · have h8 : ∀ i, T10.1 8 i = T6.1 8 i := fun i => by rw [v4.2 8 (by decide), p3.2 8 (by decide), hs8.2 8 (by decide), o3.2 8 (by decide)]
    refine hN14.step r40 (fun i hi => ?_) (fun y _ hy => ?_) ?_
    · rw [h8 i]
      rcases n7 i hi with z | z
      · left; rw [z, m3.2 8 (by decide)]
      · exact Or.inr z
    · rw [← hPf]
      exact sp_k (by simp) (sp_k (by simp) (sp_k (by simp) hy))
    · rw [← hPf, sp_s]; simp
  · exact ((a3.wk (by simp)).tr (b5.wk (by simp))).tr ((d3.wk (by simp)).tr ((m3.wk (by simp)).tr ((n5.wk (by simp)).tr ((o3.wk (by simp)).tr ((hs8.wk (by simp)).tr ((p3.wk (by simp)).tr (v4.wk (by simp))))))))
  · rw [v4.2 0 (by decide), p3.2 0 (by decide), upS]
  · intro j hj
    rw [v4.2 0 (by decide), p3.2 0 (by decide), upA, if_neg (by simp [hj]), o3.2 0 (by decide), n5.2 0 (by decide), m3.2 0 (by decide), d3.2 0 (by decide), b5.2 0 (by decide), a3.2 0 (by decide)]
  · have z1 : smX [0, 1, 2, 3, 4, 5, 8, 9, 10, 11] R34 R42 := ((((smX.rf.up _ _ (by decide)).up _ _ (by decide)).tr (s3.wk (by simp))).tr (t3.wk (by simp))).tr ((hs41.wk (by simp)).tr (u3.wk (by simp)))
    exact (b6.q).1.tr ((e3.wk (by simp)).tr ((f3.wk (by simp)).tr ((g3.wk (by simp)).tr ((n6.q).1.tr z1))))
  · rw [u3.2 0 (by decide), upS]
  · intro j h6 h15 h16 h17 h18
    rw [u3.2 0 (by decide), upA, if_neg (by simp [h6]), t3.2 0 (by decide), s3.2 0 (by decide), upN _ _ _ (by decide), upN _ _ _ (by decide), n6.2 j h15 h16 h17 h18, g3.2 0 (by decide), f3.2 0 (by decide), e3.2 0 (by decide), b6.2 j h15 h16 h17 h18]
