theorem fb_holes : ∀ (m n : Nat) (f : Nat → Nat), (∀ i, i < n → f i < m) → (∀ i j, i < j → j < n → f i ≠ f j) → n ≤ m := by
  intro m
  induction m with
  | zero =>
    intro n f h1 _
    rcases Nat.eq_zero_or_pos n with h | h
    · omega
    · exact absurd (h1 0 h) (Nat.not_lt_zero _)
  | succ m ih =>
    intro n f h1 h2
    by_cases hx : ∃ i, i < n ∧ f i = m
    · obtain ⟨a, ha, hfa⟩ := hx
      have hg := ih (n - 1) (fun i => if i < a then f i else f (i + 1)) (by
        intro i hi
        by_cases q : i < a
        · simp only [if_pos q]
          have b1 := h1 i (by omega)
          have b2 := h2 i a q ha
          omega
        · simp only [if_neg q]
          have b1 := h1 (i + 1) (by omega)
          have b2 := h2 a (i + 1) (by omega) (by omega)
          omega) (by
        intro i j hij hj
        by_cases q : i < a
        · by_cases r : j < a
          · simp only [if_pos q, if_pos r]
            exact h2 i j hij (by omega)
          · simp only [if_pos q, if_neg r]
            exact h2 i (j + 1) (by omega) (by omega)
        · have r : ¬ j < a := by omega
          simp only [if_neg q, if_neg r]
          exact h2 (i + 1) (j + 1) (by omega) (by omega))
      omega
    · have hg := ih n f (fun i hi => by
        have b1 := h1 i hi
        have b2 : f i ≠ m := fun e => hx ⟨i, hi, e⟩
        omega) h2
      omega
/-- two of them in one place -/
theorem FI.free {S : Mem} {pl : List Nat} (hF : FI S pl) (hl : pl.length ≤ 11) : ∃ i, i < 12 ∧ S.1 11 i = 0 := by
  apply Classical.byContradiction
  intro hno
  have all : ∀ i, i < 12 → ∃ a, a < pl.length ∧ ∃ q, pl[a]? = some q ∧ S.1 8 i = nI q := by
    intro i hi
    obtain ⟨q, h1, h2⟩ := hF.2.2.2.2.1 i hi (fun e => hno ⟨i, hi, e⟩)
    obtain ⟨a, ha⟩ := List.getElem?_of_mem h1
    exact ⟨a, (List.getElem?_eq_some_iff.mp ha).1, q, ha, h2⟩
  have h0 : ∀ i, ∃ a, i < 12 → a < pl.length ∧ ∃ q, pl[a]? = some q ∧ S.1 8 i = nI q := by
    intro i
    by_cases hi : i < 12
    · obtain ⟨a, h⟩ := all i hi
      exact ⟨a, fun _ => h⟩
    · exact ⟨0, fun h => absurd h hi⟩
  obtain ⟨f, hf⟩ := Classical.axiomOfChoice h0
  have := fb_holes pl.length 12 f (fun i hi => (hf i hi).1) (fun i j hij hj e => by
    obtain ⟨q1, a1, a2⟩ := (hf i (by omega)).2
    obtain ⟨q2, b1, b2⟩ := (hf j hj).2
    rw [e] at a1
    have eq : q1 = q2 := Option.some.inj (a1.symm.trans b1)
    subst eq
    have hq : q1 < 40 := (hF.2.2.2.2.2 q1 (List.mem_of_getElem? a1)).1
    have := hF.2.1 i j (by omega) hj (a2.trans b2.symm) (by rw [a2]; exact nI_m1 (by omega))
    omega)
  omega
theorem FI.put {S T : Mem} {pl : List Nat} {u p h2 : Nat} (hF : FI S pl) (hu : u < 12) (hp : p < 40) (h8 : ∀ i, i < 12 → T.1 8 i = if i = u then nI p else S.1 8 i) (h11 : ∀ i, i < 12 → T.1 11 i = if i = u then 1 else S.1 11 i) (hz : ∀ i, i < 12 → iz (T.1 9 i) ∧ iz (T.1 10 i)) (hh : h2 < 12) (hh2 : T.1 7 4 = nI h2) (hfree : S.1 8 u = -1 ∨ S.1 11 u = 0) (hne : ∀ i, i < 12 → i ≠ u → S.1 8 i ≠ nI p) : FI T (p :: pl) := by
  obtain ⟨f1, f2, f3, f4, f5, f6⟩ := hF
  refine ⟨fun i hi => ?_, fun i j hi hj e1 e2 => ?_, fun i hi => ⟨(hz i hi).1, (hz i hi).2, ?_⟩, ⟨h2, hh, hh2⟩, fun i hi e => ?_, fun q hq => ?_⟩
  · rw [h8 i hi]
    by_cases e : i = u
    · rw [if_pos e]; exact Or.inr ⟨p, hp, rfl⟩
    · rw [if_neg e]; exact f1 i hi
  · rw [h8 i hi, h8 j hj] at e1
    rw [h8 i hi] at e2
    by_cases e : i = u
    · by_cases e' : j = u
      · omega
      · rw [if_pos e, if_neg e'] at e1
        exact absurd e1.symm (hne j hj e')
    · by_cases e' : j = u
      · rw [if_neg e, if_pos e'] at e1
        exact absurd e1 (hne i hi e)
      · rw [if_neg e, if_neg e'] at e1
        rw [if_neg e] at e2
        exact f2 i j hi hj e1 e2
  · rw [h11 i hi]
    by_cases e : i = u
    · rw [if_pos e]; exact Or.inr rfl
    · rw [if_neg e]; exact (f3 i hi).2.2
  · rw [h11 i hi] at e
    rw [h8 i hi]
    by_cases e1 : i = u
    · rw [if_pos e1]; exact ⟨p, List.mem_cons_self, rfl⟩
    · rw [if_neg e1] at e ⊢
      obtain ⟨q, a, b⟩ := f5 i hi e
      exact ⟨q, List.mem_cons_of_mem _ a, b⟩
  · rcases List.mem_cons.mp hq with e | hq
    · subst e
      exact ⟨hp, u, hu, by rw [h8 u hu, if_pos rfl], by rw [h11 u hu, if_pos rfl]⟩
    · obtain ⟨a, i, b, c, d⟩ := f6 q hq
      have hiu : i ≠ u := fun e => by
        subst e
        rcases hfree with z | z
        · rw [c] at z; exact nI_m1 (by omega) z
        · rw [d] at z; exact absurd z (by decide)
      exact ⟨a, i, b, by rw [h8 i b, if_neg hiu]; exact c, by rw [h11 i b, if_neg hiu]; exact d⟩
/-- what a touch leaves as it was in the reference -/
def smR (R T : Mem) : Prop := smX [0, 8, 9, 10, 11] R T ∧ ∀ j, j ≠ 15 → j ≠ 16 → j ≠ 17 → j ≠ 18 → T.1 0 j = R.1 0 j
theorem smR.rf {R : Mem} : smR R R := ⟨smX.rf, fun _ _ _ _ _ => rfl⟩
theorem smR.tr {R T U : Mem} (h1 : smR R T) (h2 : smR T U) : smR R U := ⟨h1.1.tr h2.1, fun j a b c d => (h2.2 j a b c d).trans (h1.2 j a b c d)⟩
set_option maxHeartbeats 2000000 in
theorem touch_hit {g : Nat} (hg : 30 < g) {S R : Mem} {pl D : List Nat} {p t : Nat} {w : Int32} (hF : FI S pl) (hM : FM D S R) (hp : p < 40) (hn : p ∉ pl) (ht : t < 12) (h8 : S.1 8 t = nI p) :
    ∃ S' R', f_X1_touch g S (nI p) w = some S' ∧ f_X5_touch g R (nI p) w = some R' ∧ FI S' (p :: pl) ∧ FM D S' R' ∧ smX [7, 8, 9, 10, 11] S S' ∧ smR R R' ∧ (∀ i, i < 12 → S'.1 8 i = S.1 8 i ∨ S'.1 8 i = nI p) := by
  have hu : ∀ j, j < 12 → S.1 8 j = nI p → j = t := fun j hj e => hF.2.1 j t hj ht (e.trans h8.symm) (by rw [e]; exact nI_m1 (by omega))
  have hpin : S.1 11 t = 0 := by
    apply Classical.byContradiction
    intro e
    obtain ⟨q, a, b⟩ := hF.2.2.2.2.1 t ht e
    have hq := (hF.2.2.2.2.2 q a).1
    rw [h8] at b
    exact hn (nI_inj (by omega) (by omega) b ▸ a)
  obtain ⟨e8, e9, e10, e11⟩ := hM.1 t ht
  have hfo := c_foY (g := g) (by omega) (nI_m1 (show p < 2 ^ 31 by omega)) ht h8 hu
  have hfo2 := m_foY (g := g) (by omega) ht (e8.trans h8) (fun j hj e => hu j hj (by rw [← (hM.1 j hj).1]; exact e))
  obtain ⟨h, hh1, hh2⟩ := hF.2.2.2.1
  refine ⟨up (up (up (up S 7 5 (S.1 7 5 + 1)) 8 t (nI p)) 9 t 1) 11 t 1, up (up (up R 0 16 (R.1 0 16 + 1)) 9 t 1) 11 t 1, ?_, ?_, ?_, ?_, ?_, ?_, ?_⟩
  · unfold f_X1_touch
    rw [hfo, bdS]
    simp only [jn2]
    rw [if_neg (nI_m1 (by omega))]
    unfold f_X1_isFrame
    rw [if_neg (nI_nneg (by omega)), if_neg (nle12 ht), bdS, if_neg (by decide)]
    simp only [gdI ht (show 12 < 2 ^ 31 by decide), nI_clamp (show t < 2 ^ 31 by omega)]
  · unfold f_X5_touch
    rw [hfo2, bdS]
    simp only [jn0, jn2]
    simp only [gdI ht (show 12 < 2 ^ 31 by decide), nI_clamp (show t < 2 ^ 31 by omega), e11]
    rw [if_neg (nI_nneg (by omega)), if_pos hpin, if_neg (nI_nneg (by omega))]
  · refine hF.put (u := t) (p := p) (h2 := h) ht hp (fun i hi => ?_) (fun i hi => ?_) (fun i hi => ?_) hh1 ?_ (Or.inr hpin) (fun i hi hne e => hne (hu i hi e))
    · simp only [upA]; simp
    · simp only [upA]; simp
    · simp only [upA]; simp
      have := hF.2.2.1 i hi
      by_cases e : i = t
      · simp [e]
        have := hF.2.2.1 t ht
        exact ⟨Or.inr rfl, this.2.1⟩
      · simp [e]; exact ⟨this.1, this.2.1⟩
    · simp only [upA]; simp [hh2]
  · refine ⟨fun i hi => ?_, ?_, ?_, ?_, ?_⟩
    · obtain ⟨a, b, c, d⟩ := hM.1 i hi
      simp only [upA]
      by_cases e : i = t
      · subst e; simp [a, b, d, h8]
        have ca := c.agr hpin
        refine ⟨fun q hq e2 => ?_, fun _ => ?_⟩
        · simp only [upA] at e2; simp at e2
          exact absurd ((c.1 q hq (h8.trans e2)).1.symm.trans hpin) (by decide)
        · simp only [upA]; simp [ca]
      · simp [e, a, b, d]
        refine c.cong ?_ ?_ ?_ ?_ <;> (simp only [upA]; simp [e])
    · simp only [upA]; simp [hM.2.1]
    · simp only [upA]; simp [hM.2.2.1]
    · simp only [upA]; simp [hM.2.2.2.1]
    · simp only [upA]; simp [hM.2.2.2.2]
  · exact (((smX.rf.up _ _ (by decide)).up _ _ (by decide)).up _ _ (by decide)).up _ _ (by decide)
  · refine ⟨((smX.rf.up _ _ (by decide)).up _ _ (by decide)).up _ _ (by decide), fun j a b c d => ?_⟩
    simp only [upA]; simp [b]
  · intro i hi
    simp only [upA]; simp
    by_cases e : i = t
    · exact Or.inr (by simp [e])
    · exact Or.inl (by simp [e])
theorem up_self (S : Mem) (k i : Nat) : up S k i (S.1 k i) = S := by
  unfold up
  refine Prod.ext ?_ rfl
  funext k2 j
  by_cases h : k2 = k
  · subst h
    simp [upd]
    intro e; rw [e]
  · simp [h]
set_option maxHeartbeats 4000000 in
theorem touch_miss {g : Nat} (hg : 30 < g) {S R : Mem} {pl D : List Nat} {p : Nat} {w : Int32} (hF : FI S pl) (hM : FM D S R) (hp : p < 40) (hD : ∀ q, q ∈ D → nI p ≠ nI q) (hl : pl.length ≤ 11) (hno : ∀ j, j < 12 → S.1 8 j ≠ nI p) :
    ∃ S' R', f_X1_touch g S (nI p) w = some S' ∧ f_X5_touch g R (nI p) w = some R' ∧ FI S' (p :: pl) ∧ FM D S' R' ∧ smX [7, 8, 9, 10, 11] S S' ∧ smR R R' ∧ (∀ i, i < 12 → S'.1 8 i = S.1 8 i ∨ S'.1 8 i = nI p) := by
  obtain ⟨h, hh1, hh2⟩ := hF.2.2.2.1
  have hfo := c_foN (g := g) (by omega) (nI_m1 (show p < 2 ^ 31 by omega)) hno
  have hfo2 := m_foN (g := g) (R := R) (v := nI p) (by omega) (fun j hj e => hno j hj (by rw [← (hM.1 j hj).1]; exact e))
  have hG : Gd h 0 S := by
    obtain ⟨i, hi, hi0⟩ := hF.free hl
    have e : (h + ((i + 12 - h) % 12)) % 12 = i := by omega
    refine ⟨(i + 12 - h) % 12, by omega, by omega, ?_, Or.inl (by omega)⟩
    rw [e]; exact Or.inr hi0
  have hR15 : R.1 0 15 = nI ((h + 0) % 12) := by rw [hM.2.1, hh2]; congr 1; omega
  obtain ⟨kx, hkx⟩ : ∃ kx : Mem → Int32 → Option (Int32 × Mem), kx = (fun (S8 : Mem) (v9 : Int32) => bd (f_J9_floorMod_7cf53 g S8 (v9 + 1) 12) (fun r11 => bd (f_X1_clear g (up S8 7 4 r11) v9) (fun S13 => some (v9, S13)))) := ⟨_, rfl⟩
  obtain ⟨ky, hky⟩ : ∃ ky : Mem → Option (Int32 × Mem), ky = (fun (S15 : Mem) => gd (ix_in (S15.1 0 15) 12) (jn1 (fun (t17 : Int32) => bd (f_X5_goOn g (up S15 0 18 t17)) (fun S20 => some (S15.1 0 15, S20))) (fun j18 => jn0 (j18 (S15.1 0 18)) (fun j21 => if (S15.1 8 (S15.1 0 15).toNatClampNeg) = ((-1)) then (j21) else (gd (ix_in (S15.1 0 15) 12) (if (S15.1 10 (S15.1 0 15).toNatClampNeg) = 0 then (j21) else (j18 ((S15.1 0 18) + 1)))))))) := ⟨_, rfl⟩
  obtain ⟨u, S1, R1, hu, v1, v2, v3, v4, v5, v6, v7, v8, v9⟩ := vac (g := g) hh1 (kx := kx) (ky := ky) 24 0 g g S R rfl (by omega) (by omega) (fun i hi => ⟨(hM.1 i hi).1, (hM.1 i hi).2.1, (hM.1 i hi).2.2.2⟩) hR15 hG
  have e18 : R1.1 0 18 = S1.1 7 7 := by rw [v7 18 (by decide), hM.2.2.2.2, v3.2 7 (by decide)]
  obtain ⟨a8, a9, a11⟩ := v5 u hu
  have a10 : S1.1 8 u ≠ -1 → R1.1 10 u = S1.1 10 u := by
    intro q
    have z : S1.1 11 u = 0 := v9.resolve_left q
    rw [v8.2 10 (by decide), v3.2 10 (by decide)]
    rw [v3.2 11 (by decide)] at z
    exact (hM.1 u hu).2.2.1.agr z
  obtain ⟨W1, hW1⟩ : ∃ W1 : Int32, W1 = if S1.1 8 u = -1 then S1.1 7 7 else if S1.1 10 u = 0 then S1.1 7 7 else S1.1 7 7 + 1 := ⟨_, rfl⟩
  have g77 : (gw S1 u).1 7 7 = W1 := by
    rw [hW1]; unfold gw
    by_cases q1 : S1.1 8 u = -1
    · rw [if_pos q1, if_pos q1]
    · rw [if_neg q1, if_neg q1]
      by_cases q2 : S1.1 10 u = 0
      · rw [if_pos q2, if_pos q2]
      · rw [if_neg q2, if_neg q2, upA, if_pos ⟨rfl, rfl⟩]
  have gO : ∀ k j, ¬ (k = 7 ∧ j = 7) → (gw S1 u).1 k j = S1.1 k j := by
    intro k j hkj
    unfold gw
    by_cases q1 : S1.1 8 u = -1
    · rw [if_pos q1]
    · rw [if_neg q1]
      by_cases q2 : S1.1 10 u = 0
      · rw [if_pos q2]
      · rw [if_neg q2, upA, if_neg hkj]
  have gS : smX [7] S1 (gw S1 u) := by
    unfold gw
    by_cases q1 : S1.1 8 u = -1
    · rw [if_pos q1]; exact smX.rf
    · rw [if_neg q1]
      by_cases q2 : S1.1 10 u = 0
      · rw [if_pos q2]; exact smX.rf
      · rw [if_neg q2]; exact smX.rf.up _ _ (by decide)
  have hc : f_X1_vacateFrame g S = some (nI u, up (up (up (up (up (gw S1 u) 7 4 (nI ((u + 1) % 12))) 8 u (-1)) 9 u 0) 10 u 0) 11 u 0) := by
    unfold f_X1_vacateFrame
    rw [hh2]
    have := v1
    rw [hkx] at this
    rw [show (0 : Int32) = nI 0 from rfl, this]
    show bd (f_J9_floorMod_7cf53 g (gw S1 u) (nI u + 1) 12) _ = _
    rw [nI_1, fm_ok g _ (by omega), bdS]
    unfold f_X1_clear
    rw [if_neg (nI_nneg (by omega)), if_neg (nle12 hu)]
    simp only [gdI hu (show 12 < 2 ^ 31 by decide), nI_clamp (show u < 2 ^ 31 by omega), bdS]
    rfl
  have hm : f_X5_freeFrame g R = some (nI u, up (up R1 0 18 W1) 0 15 (nI ((u + 1) % 12))) := by
    unfold f_X5_freeFrame
    have := v2
    rw [hky] at this
    rw [this]
    simp only [jn0, jn1, v6, gdI hu (show 12 < 2 ^ 31 by decide), nI_clamp (show u < 2 ^ 31 by omega), f_X5_goOn, bdS, a8, e18, upA]
    rw [hW1]
    by_cases q1 : S1.1 8 u = -1
    · simp [q1, v6, go_dec u hu]
    · rw [a10 q1]
      by_cases q2 : S1.1 10 u = 0
      · simp [q1, q2, v6, go_dec u hu]
      · simp [q1, q2, v6, go_dec u hu]
  obtain ⟨dR, hdR⟩ : ∃ d : Int32 → Int32, d = fun z => if w = 0 then z + 1 else z := ⟨_, rfl⟩
  have s76 : (gw S1 u).1 7 6 = S.1 7 6 := by rw [gO 7 6 (by decide), v3.2 7 (by decide)]
  have s75 : (gw S1 u).1 7 5 = S.1 7 5 := by rw [gO 7 5 (by decide), v3.2 7 (by decide)]
  refine ⟨up (up (up (up (up (up (up (up (up (gw S1 u) 7 4 (nI ((u + 1) % 12))) 8 u (-1)) 9 u 0) 10 u 0) 11 u 0) 7 6 (dR (S.1 7 6))) 8 u (nI p)) 9 u 1) 11 u 1, up (up (up (up (up (up (up R1 0 18 W1) 0 15 (nI ((u + 1) % 12))) 8 u (nI p)) 10 u 0) 0 17 (dR (S.1 7 6))) 9 u 1) 11 u 1, ?_, ?_, ?_, ?_, ?_, ?_, ?_⟩
  · unfold f_X1_touch
    rw [hfo, bdS]
    simp only [jn2]
    rw [if_pos trivial, hc, bd2S]
    have fin : ∀ X : Mem, bd (f_X1_isFrame g X (nI u)) (fun r7 => if r7 = 0 then some X else gd (ix_in (nI u) 12) (gd (ix_in (nI u) 12) (gd (ix_in (nI u) 12) (some (up (up (up X 8 (nI u).toNatClampNeg (nI p)) 9 (nI u).toNatClampNeg 1) 11 (nI u).toNatClampNeg 1))))) = some (up (up (up X 8 u (nI p)) 9 u 1) 11 u 1) := by
      intro X
      unfold f_X1_isFrame
      rw [if_neg (nI_nneg (by omega)), if_neg (nle12 hu), bdS, if_neg (by decide)]
      simp only [gdI hu (show 12 < 2 ^ 31 by decide), nI_clamp (show u < 2 ^ 31 by omega)]
    have e76 : (up (up (up (up (up (gw S1 u) 7 4 (nI ((u + 1) % 12))) 8 u (-1)) 9 u 0) 10 u 0) 11 u 0).1 7 6 = S.1 7 6 := by simp only [upA]; simp [s76]
    by_cases hw : w = 0
    · rw [if_pos hw, fin, e76, hdR]
      simp only [if_pos hw]
    · rw [if_neg hw, fin, hdR]
      simp only [if_neg hw]
      rw [← e76, up_self]
  · unfold f_X5_touch
    rw [hfo2, bdS]
    simp only [jn0, jn1, jn2]
    rw [if_pos m1_neg, if_pos m1_neg, hm, bd2S]
    simp only [gdI hu (show 12 < 2 ^ 31 by decide), nI_clamp (show u < 2 ^ 31 by omega)]
    have e17 : (up (up (up (up R1 0 18 W1) 0 15 (nI ((u + 1) % 12))) 8 u (nI p)) 10 u 0).1 0 17 = S.1 7 6 := by
      simp only [upA]; simp; rw [v7 17 (by decide), hM.2.2.2.1]
    by_cases hw : w = 0
    · rw [if_pos hw, e17, hdR]
      simp only [if_pos hw]
    · rw [if_neg hw, e17, hdR]
      simp only [if_neg hw]
  · refine hF.put (u := u) (p := p) (h2 := (u + 1) % 12) hu hp (fun i hi => ?_) (fun i hi => ?_) (fun i hi => ?_) (by omega) ?_ ?_ (fun i hi _ => hno i hi)
    · simp only [upA]; simp
      by_cases e : i = u
      · simp [e]
      · simp [e]; rw [gO 8 i (by simp), v3.2 8 (by decide)]
    · simp only [upA]; simp
      by_cases e : i = u
      · simp [e]
      · simp [e]; rw [gO 11 i (by simp), v3.2 11 (by decide)]
    · simp only [upA]; simp
      by_cases e : i = u
      · simp [e]
        exact ⟨Or.inr rfl, Or.inl rfl⟩
      · simp [e]
        rw [gO 9 i (by simp), gO 10 i (by simp), v3.2 10 (by decide)]
        refine ⟨?_, (hF.2.2.1 i hi).2.1⟩
        rcases v4 i hi with q | q
        · rw [q]; exact (hF.2.2.1 i hi).1
        · rw [q]; exact Or.inl rfl
    · simp only [upA]; simp
    · rw [← v3.2 8 (by decide), ← v3.2 11 (by decide)]; exact v9
  · refine ⟨fun i hi => ?_, ?_, ?_, ?_, ?_⟩
    · obtain ⟨a, b, d⟩ := v5 i hi
      simp only [upA]
      by_cases e : i = u
      · subst e; simp
        refine ⟨fun q hq e2 => ?_, fun _ => ?_⟩
        · simp only [upA] at e2; simp at e2
          exact absurd e2 (hD q hq)
        · simp only [upA]; simp
      · simp [e, a, b, d]
        rw [gO 8 i (by simp), gO 9 i (by simp), gO 11 i (by simp)]
        refine ⟨rfl, rfl, (hM.1 i hi).2.2.1.cong ?_ ?_ ?_ ?_, rfl⟩
        · simp only [upA]; simp [e]; rw [gO 8 i (by simp), v3.2 8 (by decide)]
        · simp only [upA]; simp [e]; rw [gO 11 i (by simp), v3.2 11 (by decide)]
        · simp only [upA]; simp [e]; rw [gO 10 i (by simp), v3.2 10 (by decide)]
        · simp only [upA]; simp [e]; rw [v8.2 10 (by decide)]
    · simp only [upA]; simp
    · simp only [upA]; simp [v7, hM.2.2.1, s75]
    · simp only [upA]; simp
    · simp only [upA]; simp [g77]
  · refine ((((((((((v3.wk (by simp)).tr (gS.wk (by simp))).up _ _ (by decide)).up _ _ (by decide)).up _ _ (by decide)).up _ _ (by decide)).up _ _ (by decide)).up _ _ (by decide)).up _ _ (by decide)).up _ _ (by decide)).up _ _ (by decide)
  · refine ⟨(((((((v8.wk (by simp)).up _ _ (by decide)).up _ _ (by decide)).up _ _ (by decide)).up _ _ (by decide)).up _ _ (by decide)).up _ _ (by decide)).up _ _ (by decide), fun j a b c d => ?_⟩
    simp only [upA]; simp [a, c, d]
    exact v7 j a
  · intro i hi
    simp only [upA]; simp
    by_cases e : i = u
    · exact Or.inr (by simp [e])
    · refine Or.inl ?_
      simp [e]; rw [gO 8 i (by simp), v3.2 8 (by decide)]
theorem touch_both {g : Nat} (hg : 30 < g) {S R : Mem} {pl D : List Nat} {p : Nat} {w : Int32} (hF : FI S pl) (hM : FM D S R) (hp : p < 40) (hn : p ∉ pl) (hD : ∀ q, q ∈ D → q ∈ pl) (hl : pl.length ≤ 11) :
    ∃ S' R', f_X1_touch g S (nI p) w = some S' ∧ f_X5_touch g R (nI p) w = some R' ∧ FI S' (p :: pl) ∧ FM D S' R' ∧ smX [7, 8, 9, 10, 11] S S' ∧ smR R R' ∧ (∀ i, i < 12 → S'.1 8 i = S.1 8 i ∨ S'.1 8 i = nI p) := by
  by_cases h : ∃ t, t < 12 ∧ S.1 8 t = nI p
  · obtain ⟨t, h1, h2⟩ := h
    exact touch_hit hg hF hM hp hn h1 h2
  · exact touch_miss hg hF hM hp (fun q hq e => hn (nI_inj (by omega) (by have := (hF.2.2.2.2.2 q (hD q hq)).1; omega) e ▸ hD q hq)) hl (fun j hj e => h ⟨j, hj, e⟩)
