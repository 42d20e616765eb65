theorem upS (S : Mem) (k i : Nat) (v : Int32) : (up S k i v).1 k i = v := by rw [upA, if_pos ⟨rfl, rfl⟩]
theorem FM.mk0 {S R : Mem} (h : ∀ i, i < 12 → R.1 8 i = S.1 8 i ∧ R.1 9 i = S.1 9 i ∧ R.1 10 i = S.1 10 i ∧ R.1 11 i = S.1 11 i) (h2 : R.1 0 15 = S.1 7 4 ∧ R.1 0 16 = S.1 7 5 ∧ R.1 0 17 = S.1 7 6 ∧ R.1 0 18 = S.1 7 7) : FM [] S R := ⟨fun i hi => ⟨(h i hi).1, (h i hi).2.1, ⟨fun q hq => absurd hq (by simp), fun _ => (h i hi).2.2.1⟩, (h i hi).2.2.2⟩, h2⟩
theorem flushE {g : Nat} (hg : 30 < g) {S R : Mem} (hF : FI S []) (hM : FM [] S R) : ∃ v S' R', f_X4_flush g S = some (v, S') ∧ f_X5_flush g R = some (v, R') ∧ FI S' [] ∧ FM [] S' R' ∧ smX [7, 10] S S' ∧ smX [0, 10] R R' ∧ (∀ j, j ≠ 0 → j ≠ 18 → R'.1 0 j = R.1 0 j) ∧ (∀ i, S'.1 8 i = S.1 8 i) := by
  obtain ⟨c, hc⟩ : ∃ c, c = cn (fun j => decide (S.1 10 j ≠ 0)) 12 0 := ⟨_, rfl⟩
  have h1 := cdirty (g := g) (S := S) 12 0 g 0 rfl (by omega)
  obtain ⟨S1, a1, a2, a3⟩ := wdirty (g := g) (w := nI c) (kx := fun (S5 : Mem) => some (nI c, (up S5 7 7 ((S5.1 7 7) + nI c)))) 12 0 g S rfl (by omega)
  obtain ⟨R1, b1, b2, b3⟩ := mflush (g := g) (kx := fun (S7 : Mem) (v8 : Int32) => some (v8, (up S7 0 18 ((S7.1 0 18) + v8)))) 12 0 g 0 (up R 0 0 0) rfl (by omega)
  have hcr : cn (fun j => decide ((up R 0 0 0).1 10 j ≠ 0)) 12 0 = c := by
    rw [hc]
    exact cn_cong _ _ (fun j _ h2 => by rw [upN _ _ _ (by decide : (10 : Nat) ≠ 0), hM.d0 (by omega)])
  rw [hcr] at b1
  refine ⟨nI c, up S1 7 7 (S1.1 7 7 + nI c), up R1 0 18 (R1.1 0 18 + nI c), ?_, ?_, ?_, ?_, ?_, ?_, ?_, ?_⟩
  · unfold f_X4_flush f_X1_writeDirty f_X1_countDirty
    have h1' := h1
    rw [← hc, Nat.zero_add] at h1'
    rw [show (0 : Int32) = nI 0 from rfl, h1', bdS, a1, bd2S]
  · unfold f_X5_flush
    have b1' := b1
    rw [Nat.zero_add] at b1'
    exact b1'
  · obtain ⟨f1, f2, f3, f4, f5, f6⟩ := hF
    unfold FI
    simp only [upN S1 7 _ (by decide : (8 : Nat) ≠ 7), upN S1 7 _ (by decide : (9 : Nat) ≠ 7), upN S1 7 _ (by decide : (10 : Nat) ≠ 7), upN S1 7 _ (by decide : (11 : Nat) ≠ 7), a2.2 8 (by decide), a2.2 9 (by decide), a2.2 11 (by decide), a2.2 7 (by decide), upA]
    refine ⟨f1, f2, fun i hi => ⟨(f3 i hi).1, ?_, (f3 i hi).2.2⟩, f4, f5, f6⟩
    rw [if_neg (by simp), a3, if_pos ⟨Nat.zero_le _, hi⟩]; exact Or.inl rfl
  · refine FM.mk0 (fun i hi => ?_) ?_
    · obtain ⟨a, b, c, d⟩ := hM.1 i hi
      simp only [upN S1 7 _ (by decide : (8 : Nat) ≠ 7), upN S1 7 _ (by decide : (9 : Nat) ≠ 7), upN S1 7 _ (by decide : (10 : Nat) ≠ 7), upN S1 7 _ (by decide : (11 : Nat) ≠ 7), a2.2 8 (by decide), a2.2 9 (by decide), a2.2 11 (by decide)]
      simp only [upN R1 18 _ (by decide : (8 : Nat) ≠ 0), upN R1 18 _ (by decide : (9 : Nat) ≠ 0), upN R1 18 _ (by decide : (10 : Nat) ≠ 0), upN R1 18 _ (by decide : (11 : Nat) ≠ 0), b2.2 8 (by decide), b2.2 9 (by decide), b2.2 11 (by decide), upN R 0 _ (by decide : (8 : Nat) ≠ 0), upN R 0 _ (by decide : (9 : Nat) ≠ 0), upN R 0 _ (by decide : (11 : Nat) ≠ 0), a3, b3, if_pos (show 0 ≤ i ∧ i < 12 from ⟨Nat.zero_le _, hi⟩)]
      exact ⟨a, b, trivial, d⟩
    · simp only [upA, b2.2 0 (by decide), a2.2 7 (by decide)]
      simp [hM.2.1, hM.2.2.1, hM.2.2.2.1, hM.2.2.2.2]
  · exact (a2.wk (by simp)).up _ _ (by decide)
  · exact (((smX.rf (S := R)).up 0 0 (by decide : 0 ∈ [0, 10])).tr (b2.wk (by simp))).up _ _ (by decide)
  · intro j h0 h18
    rw [upA, if_neg (by simp [h18]), b2.2 0 (by decide), upA, if_neg (by simp [h0])]
  · intro i
    rw [upN S1 7 _ (by decide : (8 : Nat) ≠ 7), a2.2 8 (by decide)]
theorem empt {g : Nat} {kx : Mem → Int32 → Option (Int32 × Mem)} : ∀ (k i n a : Nat) (S : Mem), i + k = 12 → k < n → ∃ S', f_X1_emptyAll_4 g kx n S (nI a) (nI i) = kx S' (nI (a + cn (fun j => decide (S.1 8 j ≠ -1)) k i)) ∧ smX [8, 9, 10, 11] S S' ∧ (∀ k' j, j < i → S'.1 k' j = S.1 k' j) ∧ ∀ j, i ≤ j → j < 12 → S'.1 8 j = -1 ∧ S'.1 9 j = 0 ∧ S'.1 10 j = 0 ∧ S'.1 11 j = 0 := by
  intro k
  induction k with
  | zero =>
    intro i n a S hi hn
    obtain ⟨n, rfl⟩ : ∃ m, n = m + 1 := ⟨n - 1, by omega⟩
    exact ⟨S, by rw [f_X1_emptyAll_4, if_pos (le12 (by omega) (by omega))]; rfl, smX.rf, fun _ _ _ => rfl, fun j _ _ => by omega⟩
  | succ k ih =>
    intro i n a S hi hn
    obtain ⟨n, rfl⟩ : ∃ m, n = m + 1 := ⟨n - 1, by omega⟩
    have hcl : f_X1_clear g S (nI i) = some (clr S i) := by
      unfold f_X1_clear
      rw [if_neg (nI_nneg (by omega)), if_neg (nle12 (by omega))]
      simp only [gdI (show i < 12 by omega) (show 12 < 2 ^ 31 by decide), nI_clamp (show i < 2 ^ 31 by omega)]
      rfl
    have hcg : cn (fun j => decide ((clr S i).1 8 j ≠ -1)) k (i + 1) = cn (fun j => decide (S.1 8 j ≠ -1)) k (i + 1) := cn_cong _ _ (fun j h1 h2 => by rw [clr8, if_neg (by omega)])
    obtain ⟨a', ha'⟩ : ∃ a', a' = if S.1 8 i = -1 then a else a + 1 := ⟨_, rfl⟩
    have hs : f_X1_emptyAll_4 g kx (n + 1) S (nI a) (nI i) = f_X1_emptyAll_4 g kx n (clr S i) (nI a') (nI (i + 1)) := by
      rw [f_X1_emptyAll_4, if_neg (nle12 (by omega)), gdI (by omega) (by decide)]
      simp only [jn1, nI_clamp (show i < 2 ^ 31 by omega), nI_1, hcl, bdS]
      rw [ha']
      by_cases e : S.1 8 i = -1
      · rw [if_pos e, if_pos e]
      · rw [if_neg e, if_neg e]
    obtain ⟨S', q1, q2, q3, q4⟩ := ih (i + 1) n a' (clr S i) (by omega) (by omega)
    refine ⟨S', ?_, (clrS S i).tr q2, fun k' j hj => ?_, fun j h1 h2 => ?_⟩
    · rw [hs, q1, hcg, ha', cn]
      by_cases e : S.1 8 i = -1
      · simp [e]
      · simp [e]
        congr 2; omega
    · rw [q3 k' j (by omega)]
      unfold clr
      simp only [upA]
      simp [show j ≠ i by omega]
    · by_cases e : j = i
      · subst e
        rw [q3 8 j (by omega), q3 9 j (by omega), q3 10 j (by omega), q3 11 j (by omega), clr8, clr9, clr10, clr11]
        simp
      · exact q4 j (by omega) h2
theorem mdrop {g : Nat} {kx : Mem → Int32 → Option (Int32 × Mem)} : ∀ (k i n a : Nat) (R : Mem), i + k = 12 → k < n → ∃ R', f_X5_drop_9 g kx n R (nI a) (nI i) = kx R' (nI (a + cn (fun j => decide (R.1 8 j ≠ -1)) k i)) ∧ smX [0] R R' ∧ (∀ j, j ≠ 0 → R'.1 0 j = R.1 0 j) ∧ R'.1 0 0 = (if cn (fun j => decide (R.1 10 j ≠ 0)) k i = 0 then R.1 0 0 else 1) := by
  intro k
  induction k with
  | zero =>
    intro i n a R hi hn
    obtain ⟨n, rfl⟩ : ∃ m, n = m + 1 := ⟨n - 1, by omega⟩
    exact ⟨R, by rw [f_X5_drop_9, if_pos (le12 (by omega) (by omega))]; rfl, smX.rf, fun _ _ => rfl, rfl⟩
  | succ k ih =>
    intro i n a R hi hn
    obtain ⟨n, rfl⟩ : ∃ m, n = m + 1 := ⟨n - 1, by omega⟩
    obtain ⟨t3, ht3⟩ : ∃ t3, t3 = if R.1 10 i = 0 then R.1 0 0 else 1 := ⟨_, rfl⟩
    obtain ⟨a', ha'⟩ : ∃ a', a' = if R.1 8 i = -1 then a else a + 1 := ⟨_, rfl⟩
    have hs : f_X5_drop_9 g kx (n + 1) R (nI a) (nI i) = f_X5_drop_9 g kx n (up R 0 0 t3) (nI a') (nI (i + 1)) := by
      rw [f_X5_drop_9, if_neg (nle12 (by omega)), gdI (by omega) (by decide)]
      simp only [jn1, nI_clamp (show i < 2 ^ 31 by omega), nI_1, gdI (show i < 12 by omega) (show 12 < 2 ^ 31 by decide), upN R 0 _ (by decide : (8 : Nat) ≠ 0)]
      rw [ha', ht3]
      by_cases e : R.1 8 i = -1
      · by_cases e2 : R.1 10 i = 0
        · simp only [if_pos e, if_pos e2]
        · simp only [if_pos e, if_neg e2]
      · by_cases e2 : R.1 10 i = 0
        · simp only [if_neg e, if_pos e2]
        · simp only [if_neg e, if_neg e2]
    obtain ⟨R', q1, q2, q3, q4⟩ := ih (i + 1) n a' (up R 0 0 t3) (by omega) (by omega)
    rw [upN R 0 _ (by decide : (8 : Nat) ≠ 0)] at q1
    rw [upN R 0 _ (by decide : (10 : Nat) ≠ 0), upS] at q4
    refine ⟨R', ?_, (smX.rf.up _ _ (by decide)).tr q2, fun j hj => ?_, ?_⟩
    · rw [hs, q1, ha', cn]
      by_cases e : R.1 8 i = -1
      · simp [e]
      · simp [e]
        congr 2; omega
    · rw [q3 j hj, upA, if_neg (by simp [hj])]
    · rw [q4, ht3, cn]
      by_cases e2 : R.1 10 i = 0
      · simp [e2]
      · simp [e2]
theorem mdrop2 {g : Nat} {w : Int32} {kx : Mem → Option (Int32 × Mem)} : ∀ (k i n : Nat) (R : Mem), i + k = 12 → k < n → ∃ R', f_X5_drop_71 g w kx n R (nI i) = kx R' ∧ smX [8, 9] R R' ∧ (∀ k' j, j < i → R'.1 k' j = R.1 k' j) ∧ ∀ j, i ≤ j → j < 12 → R'.1 8 j = -1 ∧ R'.1 9 j = 0 := by
  intro k
  induction k with
  | zero =>
    intro i n R hi hn
    obtain ⟨n, rfl⟩ : ∃ m, n = m + 1 := ⟨n - 1, by omega⟩
    exact ⟨R, by rw [f_X5_drop_71, if_pos (le12 (by omega) (by omega))], smX.rf, fun _ _ _ => rfl, fun j _ _ => by omega⟩
  | succ k ih =>
    intro i n R hi hn
    obtain ⟨n, rfl⟩ : ∃ m, n = m + 1 := ⟨n - 1, by omega⟩
    have hs : f_X5_drop_71 g w kx (n + 1) R (nI i) = f_X5_drop_71 g w kx n (up (up R 8 i (-1)) 9 i 0) (nI (i + 1)) := by
      rw [f_X5_drop_71, if_neg (nle12 (by omega)), gdI (by omega) (by decide)]
      simp only [nI_clamp (show i < 2 ^ 31 by omega), nI_1, gdI (show i < 12 by omega) (show 12 < 2 ^ 31 by decide)]
    obtain ⟨R', q1, q2, q3, q4⟩ := ih (i + 1) n (up (up R 8 i (-1)) 9 i 0) (by omega) (by omega)
    refine ⟨R', hs.trans q1, ((smX.rf.up _ _ (by decide)).up _ _ (by decide)).tr q2, fun k' j hj => ?_, fun j h1 h2 => ?_⟩
    · rw [q3 k' j (by omega)]
      simp only [upA]
      simp [show j ≠ i by omega]
    · by_cases e : j = i
      · subst e
        rw [q3 8 j (by omega), q3 9 j (by omega)]
        simp only [upA]; simp
      · exact q4 j (by omega) h2
set_option maxHeartbeats 1000000 in
theorem dropE {g : Nat} (hg : 30 < g) {S R : Mem} (hF : FI S []) (hM : FM [] S R) : (∃ R', f_X4_drop g S = some ((3, 0), S) ∧ f_X5_drop g R = some (0, R') ∧ R'.1 0 0 = 1 ∧ smX [0] R R' ∧ (∀ j, j ≠ 0 → R'.1 0 j = R.1 0 j)) ∨
    (∃ v S' R', f_X4_drop g S = some ((0, v), S') ∧ f_X5_drop g R = some (v, R') ∧ R'.1 0 0 = 0 ∧ FI S' [] ∧ FM [] S' R' ∧ (∀ i, i < 12 → S'.1 8 i = -1) ∧ smX [0, 7, 8, 9, 10, 11] S S' ∧ (∀ j, j ≠ 6 → S'.1 0 j = S.1 0 j) ∧ S'.1 0 6 = -1 ∧ R'.1 0 19 = 0 ∧ smX [0, 8, 9] R R' ∧ (∀ j, j ≠ 0 → j ≠ 15 → j ≠ 19 → R'.1 0 j = R.1 0 j)) := by
  obtain ⟨c, hc⟩ : ∃ c, c = cn (fun j => decide (S.1 10 j ≠ 0)) 12 0 := ⟨_, rfl⟩
  obtain ⟨v, hv⟩ : ∃ v, v = cn (fun j => decide (S.1 8 j ≠ -1)) 12 0 := ⟨_, rfl⟩
  have h1 := cdirty (g := g) (S := S) 12 0 g 0 rfl (by omega)
  rw [← hc, Nat.zero_add] at h1
  have hc12 : c ≤ 12 := by rw [hc]; exact cn_le _ _ _
  obtain ⟨R1, b1, b2, b3, b4⟩ := mdrop (g := g) (kx := fun (S8 : Mem) (v9 : Int32) => if (S8.1 0 0) ≤ 0 then (f_X5_drop_71 g v9 (fun (S14 : Mem) => some (v9, (up (up S14 0 15 0) 0 19 0))) g S8 0) else (some (0, S8))) 12 0 g 0 (up R 0 0 0) rfl (by omega)
  have hcr : cn (fun j => decide ((up R 0 0 0).1 10 j ≠ 0)) 12 0 = c := by
    rw [hc]
    exact cn_cong _ _ (fun j _ h2 => by rw [upN _ _ _ (by decide : (10 : Nat) ≠ 0), hM.d0 (by omega)])
  have hvr : cn (fun j => decide ((up R 0 0 0).1 8 j ≠ -1)) 12 0 = v := by
    rw [hv]
    exact cn_cong _ _ (fun j _ h2 => by rw [upN _ _ _ (by decide : (8 : Nat) ≠ 0), (hM.1 j (by omega)).1])
  rw [hvr, Nat.zero_add] at b1
  rw [hcr, upS] at b4
  have b5 : smX [0] R R1 := (smX.rf.up _ _ (by decide)).tr b2
  have b6 : ∀ j, j ≠ 0 → R1.1 0 j = R.1 0 j := fun j hj => by rw [b3 j hj, upA, if_neg (by simp [hj])]
  by_cases hc0 : c = 0
  · refine Or.inr ?_
    rw [if_pos hc0] at b4
    obtain ⟨S1, d1, d2, d3, d4⟩ := empt (g := g) (kx := fun (S8 : Mem) (v9 : Int32) => some (v9, (up S8 7 4 0))) 12 0 g 0 (up S 0 6 (-1)) rfl (by omega)
    have hvs : cn (fun j => decide ((up S 0 6 (-1)).1 8 j ≠ -1)) 12 0 = v := by
      rw [hv]
      exact cn_cong _ _ (fun j _ h2 => by rw [upN _ _ _ (by decide : (8 : Nat) ≠ 0)])
    rw [hvs, Nat.zero_add] at d1
    obtain ⟨R2, e1, e2, e3, e4⟩ := mdrop2 (g := g) (w := nI v) (kx := fun (S14 : Mem) => some (nI v, (up (up S14 0 15 0) 0 19 0))) 12 0 g R1 rfl (by omega)
    have z10 : ∀ i, i < 12 → S.1 10 i = 0 := fun i hi => by
      have := cn_zero 12 0 (hc.symm.trans hc0) i (Nat.zero_le _) (by omega)
      simpa using this
    have z11 : ∀ i, i < 12 → S.1 11 i = 0 := fun i hi => Classical.byContradiction (fun e => by
      obtain ⟨q, hq, -⟩ := hF.2.2.2.2.1 i hi e
      simp at hq)
    refine ⟨nI v, up S1 7 4 0, up (up R2 0 15 0) 0 19 0, ?_, ?_, ?_, ?_, ?_, ?_, ?_, ?_, ?_, ?_, ?_, ?_⟩
    · unfold f_X4_drop f_X1_countDirty
      rw [show (0 : Int32) = nI 0 from rfl, h1, bdS, hc0]
      rw [show nI 0 = (0 : Int32) from rfl, if_pos (by decide)]
      unfold f_X4_endCursor f_X1_emptyAll
      rw [bdS]
      exact (congrArg (fun o => bd2 o (fun r7 S8 => some ((0, r7), S8))) d1).trans rfl
    · unfold f_X5_drop
      rw [show (0 : Int32) = nI 0 from rfl]
      refine b1.trans ?_
      show (if R1.1 0 0 ≤ 0 then _ else _) = _
      rw [b4, if_pos (by decide)]
      exact e1
    · simp only [upA]; simp
      rw [e2.2 0 (by decide), b4]
    · unfold FI
      have k8 : ∀ i, i < 12 → (up S1 7 4 0).1 8 i = -1 := fun i hi => by rw [upN _ _ _ (by decide : (8 : Nat) ≠ 7)]; exact (d4 i (Nat.zero_le _) hi).1
      have k9 : ∀ i, i < 12 → (up S1 7 4 0).1 9 i = 0 := fun i hi => by rw [upN _ _ _ (by decide : (9 : Nat) ≠ 7)]; exact (d4 i (Nat.zero_le _) hi).2.1
      have k10 : ∀ i, i < 12 → (up S1 7 4 0).1 10 i = 0 := fun i hi => by rw [upN _ _ _ (by decide : (10 : Nat) ≠ 7)]; exact (d4 i (Nat.zero_le _) hi).2.2.1
      have k11 : ∀ i, i < 12 → (up S1 7 4 0).1 11 i = 0 := fun i hi => by rw [upN _ _ _ (by decide : (11 : Nat) ≠ 7)]; exact (d4 i (Nat.zero_le _) hi).2.2.2
      refine ⟨fun i hi => Or.inl (k8 i hi), fun i j hi hj e1 e2 => absurd (k8 i hi) e2, fun i hi => ⟨Or.inl (k9 i hi), Or.inl (k10 i hi), Or.inl (k11 i hi)⟩, ⟨0, by decide, by rw [upA, if_pos ⟨rfl, rfl⟩]; rfl⟩, fun i hi e => absurd (k11 i hi) e, fun q hq => absurd hq (by simp)⟩
    · refine FM.mk0 (fun i hi => ?_) ?_
      · obtain ⟨a, b, c, d⟩ := hM.1 i hi
        obtain ⟨k8, k9, k10, k11⟩ := d4 i (Nat.zero_le _) hi
        obtain ⟨m8, m9⟩ := e4 i (Nat.zero_le _) hi
        have m10 : R2.1 10 i = 0 := by rw [e2.2 10 (by decide), b5.2 10 (by decide), hM.d0 hi, z10 i hi]
        have m11 : R2.1 11 i = 0 := by rw [e2.2 11 (by decide), b5.2 11 (by decide), d, z11 i hi]
        simp only [upA]
        simp [k8, k9, k10, k11, m8, m9, m10, m11]
      · simp only [upA, e2.2 0 (by decide), d2.2 7 (by decide)]
        simp [b6, hM.2.2.1, hM.2.2.2.1, hM.2.2.2.2]
    · intro i hi
      rw [upN _ _ _ (by decide : (8 : Nat) ≠ 7)]; exact (d4 i (Nat.zero_le _) hi).1
    · exact (((smX.rf (S := S)).up 6 (-1) (by decide : 0 ∈ [0, 7, 8, 9, 10, 11])).tr (d2.wk (by simp))).up _ _ (by decide)
    · intro j hj
      rw [upN _ _ _ (by decide : (0 : Nat) ≠ 7), d2.2 0 (by decide), upA, if_neg (by simp [hj])]
    · rw [upN _ _ _ (by decide : (0 : Nat) ≠ 7), d2.2 0 (by decide), upA, if_pos ⟨rfl, rfl⟩]
    · simp only [upA]; simp
    · exact (((b5.wk (by simp)).tr (e2.wk (by simp))).up _ _ (by decide)).up _ _ (by decide)
    · intro j h0 h15 h19
      simp only [upA, e2.2 0 (by decide)]
      simp [h15, h19, b6 j h0]
  · refine Or.inl ⟨R1, ?_, ?_, ?_, b5, b6⟩
    · unfold f_X4_drop f_X1_countDirty
      rw [show (0 : Int32) = nI 0 from rfl, h1, bdS, show nI 0 = (0 : Int32) from rfl, if_neg (fun q => hc0 ((lgd (by omega)).mp q))]
    · unfold f_X5_drop
      rw [show (0 : Int32) = nI 0 from rfl]
      refine b1.trans ?_
      show (if R1.1 0 0 ≤ 0 then _ else _) = _
      rw [b4, if_neg hc0, if_neg (by decide)]
      rfl
    · rw [b4, if_neg hc0]
