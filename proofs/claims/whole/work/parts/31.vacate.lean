def gw (S : Mem) (u : Nat) : Mem := if S.1 8 u = -1 then S else if S.1 10 u = 0 then S else up S 7 7 (S.1 7 7 + 1)
def Gd (h t : Nat) (S : Mem) : Prop := ∃ t1, t ≤ t1 ∧ t1 < 24 ∧ (S.1 8 ((h + t1) % 12) = -1 ∨ S.1 11 ((h + t1) % 12) = 0) ∧ (t1 < 12 ∨ S.1 8 ((h + t1) % 12) = -1 ∨ S.1 9 ((h + t1) % 12) = 0)
def EA (S R : Mem) : Prop := ∀ i, i < 12 → R.1 8 i = S.1 8 i ∧ R.1 9 i = S.1 9 i ∧ R.1 11 i = S.1 11 i
theorem go_dec : ∀ a, a < 12 → (nI a + 1) - (nI a + 1) / 12 * 12 = nI ((a + 1) % 12) := by decide +kernel
theorem Gd.next {h t : Nat} {S : Mem} (G : Gd h t S) (h1 : S.1 8 ((h + t) % 12) ≠ -1) (h2 : S.1 11 ((h + t) % 12) ≠ 0) : Gd h (t + 1) S := by
  obtain ⟨t1, a1, a2, a3, a4⟩ := G
  have e : t1 ≠ t := fun e => by
    subst e
    rcases a3 with a3 | a3
    · exact h1 a3
    · exact h2 a3
  exact ⟨t1, by omega, a2, a3, a4⟩
theorem Gd.used {h t : Nat} {S : Mem} (G : Gd h t S) (h1 : S.1 8 ((h + t) % 12) ≠ -1) (h2 : S.1 11 ((h + t) % 12) = 0) (h3 : S.1 9 ((h + t) % 12) ≠ 0) : Gd h (t + 1) (up S 9 ((h + t) % 12) 0) := by
  obtain ⟨t1, a1, a2, a3, a4⟩ := G
  by_cases e : t1 = t
  · subst e
    have h12 : t1 < 12 := by
      rcases a4 with a4 | a4 | a4
      · exact a4
      · exact absurd a4 h1
      · exact absurd a4 h3
    have e2 : (h + (t1 + 12)) % 12 = (h + t1) % 12 := by omega
    refine ⟨t1 + 12, by omega, by omega, ?_, ?_⟩
    · rw [e2, upA, upA]
      simp
      exact Or.inr h2
    · rw [e2, upA, upA]
      simp
  · refine ⟨t1, by omega, a2, ?_, ?_⟩
    · rw [upA, upA]
      simp
      exact a3
    · rw [upA, upA]
      simp
      rcases a4 with a4 | a4 | a4
      · exact Or.inl a4
      · exact Or.inr (Or.inl a4)
      · exact Or.inr (Or.inr (fun _ => a4))
theorem EA.up9 {S R : Mem} (h : EA S R) (f : Nat) (v : Int32) : EA (up S 9 f v) (up R 9 f v) := by
  intro i hi
  obtain ⟨a, b, d⟩ := h i hi
  simp only [upA]
  simp [a, b, d]
set_option maxHeartbeats 1000000 in
theorem vac {g h : Nat} (hh : h < 12) {kx : Mem → Int32 → Option (Int32 × Mem)} {ky : Mem → Option (Int32 × Mem)} : ∀ (k t n1 n2 : Nat) (S R : Mem), t + k = 24 → k < n1 → k < n2 → EA S R → R.1 0 15 = nI ((h + t) % 12) → Gd h t S →
    ∃ (u : Nat) (S' R' : Mem), u < 12 ∧ f_X1_vacateFrame_7 g (nI h) kx n1 S (nI t) = kx (gw S' u) (nI u) ∧ f_X5_freeFrame_0 g ky n2 R = ky R' ∧ smX [9] S S' ∧ (∀ i, i < 12 → S'.1 9 i = S.1 9 i ∨ S'.1 9 i = 0) ∧ EA S' R' ∧ R'.1 0 15 = nI u ∧ (∀ j, j ≠ 15 → R'.1 0 j = R.1 0 j) ∧ smX [0, 9] R R' ∧ (S'.1 8 u = -1 ∨ S'.1 11 u = 0) := by
  intro k
  induction k with
  | zero =>
    intro t n1 n2 S R ht h1 h2 hE hR hG
    obtain ⟨t1, a1, a2, -⟩ := hG
    omega
  | succ k ih =>
    intro t n1 n2 S R ht h1 h2 hE hR hG
    obtain ⟨n1, rfl⟩ : ∃ m, n1 = m + 1 := ⟨n1 - 1, by omega⟩
    obtain ⟨n2, rfl⟩ : ∃ m, n2 = m + 1 := ⟨n2 - 1, by omega⟩
    obtain ⟨f, hf⟩ : ∃ f, f = (h + t) % 12 := ⟨_, rfl⟩
    have hf12 : f < 12 := by omega
    have hf2 : (f + 1) % 12 = (h + (t + 1)) % 12 := by omega
    rw [← hf] at hR
    obtain ⟨e8, e9, e11⟩ := hE f hf12
    have cS : f_X1_vacateFrame_7 g (nI h) kx (n1 + 1) S (nI t) = bd2 (f_X1_givesWay g S (nI f)) (fun r5 S6 => if r5 = 0 then (f_X1_vacateFrame_7 g (nI h) kx n1 S6 (nI (t + 1))) else (kx S6 (nI f))) := by
      rw [f_X1_vacateFrame_7, if_neg (nle24 (by omega)), nI_add, fm_ok g S (by omega), bdS, nI_1, hf]
    have cG : f_X1_givesWay g S (nI f) = if S.1 8 f = -1 then some (1, S) else if S.1 11 f = 0 then (if S.1 9 f = 0 then (if S.1 10 f = 0 then some (1, S) else some (1, up S 7 7 (S.1 7 7 + 1))) else some (0, up S 9 f 0)) else some (0, S) := by
      unfold f_X1_givesWay
      rw [if_neg (nI_nneg (by omega)), if_pos ((lt_r (a := 12) 12 rfl (by decide) (by omega)).mpr hf12)]
      simp only [gdI hf12 (show 12 < 2 ^ 31 by decide), nI_clamp (show f < 2 ^ 31 by omega)]
    have cM : f_X5_freeFrame_0 g ky (n2 + 1) R = if S.1 8 f = -1 then ky R else if S.1 11 f = 0 then (if S.1 9 f = 0 then ky R else f_X5_freeFrame_0 g ky n2 (up (up R 9 f 0) 0 15 (nI ((f + 1) % 12)))) else f_X5_freeFrame_0 g ky n2 (up R 0 15 (nI ((f + 1) % 12))) := by
      rw [f_X5_freeFrame_0]
      simp only [hR, gdI hf12 (show 12 < 2 ^ 31 by decide), nI_clamp (show f < 2 ^ 31 by omega), e8, e9, e11, jn0, jn1, f_X5_goOn, bdS]
      by_cases q1 : S.1 8 f = -1
      · rw [if_pos q1, if_pos q1]
      · rw [if_neg q1, if_neg q1]
        by_cases q2 : S.1 11 f = 0
        · rw [if_pos q2, if_pos q2, if_pos q2]
          have e15 : (up R 9 f 0).1 0 15 = nI f := by rw [upA]; simp [hR]
          rw [e15, go_dec f hf12]
        · rw [if_neg q2, if_neg q2, if_neg q2, go_dec f hf12]
    rw [cS, cG, cM]
    by_cases q1 : S.1 8 f = -1
    · rw [if_pos q1, if_pos q1]
      refine ⟨f, S, R, hf12, ?_, rfl, smX.rf, fun _ _ => Or.inl rfl, hE, hR, fun _ _ => rfl, smX.rf, Or.inl q1⟩
      rw [bd2S, if_neg (by decide), gw, if_pos q1]
    · rw [if_neg q1, if_neg q1]
      by_cases q2 : S.1 11 f = 0
      · rw [if_pos q2, if_pos q2]
        by_cases q3 : S.1 9 f = 0
        · rw [if_pos q3, if_pos q3]
          refine ⟨f, S, R, hf12, ?_, rfl, smX.rf, fun _ _ => Or.inl rfl, hE, hR, fun _ _ => rfl, smX.rf, Or.inr q2⟩
          rw [gw, if_neg q1]
          by_cases q4 : S.1 10 f = 0
          · rw [if_pos q4, if_pos q4, bd2S, if_neg (by decide)]
          · rw [if_neg q4, if_neg q4, bd2S, if_neg (by decide)]
        · rw [if_neg q3, if_neg q3, bd2S, if_pos rfl]
          obtain ⟨u, S', R', b1, b2, b3, b4, b5, b6, b7, b8, b9, b10⟩ := ih (t + 1) n1 n2 (up S 9 f 0) (up (up R 9 f 0) 0 15 (nI ((f + 1) % 12))) (by omega) (by omega) (by omega) (fun i hi => by
            have := (hE.up9 f 0) i hi
            rw [upN _ 15 _ (by decide : (8 : Nat) ≠ 0), upN _ 15 _ (by decide : (9 : Nat) ≠ 0), upN _ 15 _ (by decide : (11 : Nat) ≠ 0)]
            exact this) (by rw [upA, if_pos ⟨rfl, rfl⟩, hf2]) (by rw [hf]; exact hG.used (by rw [← hf]; exact q1) (by rw [← hf]; exact q2) (by rw [← hf]; exact q3))
          refine ⟨u, S', R', b1, b2, b3, (smX.rf.up f 0 (by decide)).tr b4, fun i hi => ?_, b6, b7, fun j hj => ?_, ((smX.rf.up f 0 (by decide)).up 15 _ (by decide)).tr b9, b10⟩
          · rcases b5 i hi with q | q
            · rw [q, upA]
              by_cases e : i = f
              · exact Or.inr (by rw [if_pos ⟨rfl, e⟩])
              · exact Or.inl (by rw [if_neg (fun z => e z.2)])
            · exact Or.inr q
          · rw [b8 j hj, upA, if_neg (fun z => hj z.2), upN _ f _ (by decide)]
      · rw [if_neg q2, if_neg q2, bd2S, if_pos rfl]
        obtain ⟨u, S', R', b1, b2, b3, b4, b5, b6, b7, b8, b9, b10⟩ := ih (t + 1) n1 n2 S (up R 0 15 (nI ((f + 1) % 12))) (by omega) (by omega) (by omega) (fun i hi => by
            have := hE i hi
            rw [upN _ 15 _ (by decide : (8 : Nat) ≠ 0), upN _ 15 _ (by decide : (9 : Nat) ≠ 0), upN _ 15 _ (by decide : (11 : Nat) ≠ 0)]
            exact this) (by rw [upA, if_pos ⟨rfl, rfl⟩, hf2]) (hG.next (by rw [← hf]; exact q1) (by rw [← hf]; exact q2))
        refine ⟨u, S', R', b1, b2, b3, b4, b5, b6, b7, fun j hj => ?_, (smX.rf.up 15 _ (by decide)).tr b9, b10⟩
        rw [b8 j hj, upA, if_neg (fun z => hj z.2)]
