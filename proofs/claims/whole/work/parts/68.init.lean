def P0 (p : Nat) : Pg := if p = 0 then (1, [], -1) else (0, [], -1)
theorem P0_len (p : Nat) : (P0 p).2.1 = [] := by unfold P0; by_cases e : p = 0 <;> simp [e]
theorem P0_nx (p : Nat) : (P0 p).2.2 = -1 := by unfold P0; by_cases e : p = 0 <;> simp [e]
theorem T0 : TI P0 0 0 (fun _ => [(-2147483648, 0)]) := by
  refine ⟨rfl, fun d hd => absurd hd (by omega), fun d hd => absurd hd (by omega), fun x hx => ?_, ?_, ?_, fun d _ x hx => ?_, fun d _ => ?_, fun d e hd he x _ y _ _ => by omega, fun p hp hn => ?_, fun p hp hn => ?_⟩
  · simp at hx; subst hx; rfl
  · show (([((-2147483648 : Int), 0)] : Lev).flatMap (lk P0)).Pairwise (· < ·)
    rw [List.flatMap_cons]
    unfold lk
    rw [P0_len]
    simp
  · exact ⟨rfl, trivial⟩
  · simp at hx; subst hx; decide
  · simp
  · refine ⟨0, Nat.le_refl _, -2147483648, ?_⟩
    by_cases e : p = 0
    · subst e; simp
    · unfold P0 at hn; rw [if_neg e] at hn; exact absurd rfl hn
  · by_cases e : p = 0
    · subst e; unfold P0 at hn; rw [if_pos rfl] at hn; exact absurd hn (by decide)
    · unfold P0; rw [if_neg e]
theorem init103 {g : Nat} {kx : Mem → Option Mem} : ∀ (k i n : Nat) (S : Mem), i + k = 40 → k < n → ∃ S', f_X5_init_103 g kx n S (nI i) = kx S' ∧ smX [5] S S' ∧ ∀ j, S'.1 5 j = if i ≤ j ∧ j < 40 then -1 else S.1 5 j := by
  intro k
  induction k with
  | zero =>
    intro i n S hi hn
    obtain ⟨n, rfl⟩ : ∃ m, n = m + 1 := ⟨n - 1, by omega⟩
    refine ⟨S, by rw [f_X5_init_103, if_pos (le40 (by omega) (by omega))], smX.rf, fun j => ?_⟩
    rw [if_neg (by omega)]
  | succ k ih =>
    intro i n S hi hn
    obtain ⟨n, rfl⟩ : ∃ m, n = m + 1 := ⟨n - 1, by omega⟩
    obtain ⟨S', a, b, c⟩ := ih (i + 1) n (up S 5 i (-1)) (by omega) (by omega)
    refine ⟨S', ?_, (smX.rf.up _ _ (by decide)).tr b, fun j => ?_⟩
    · rw [f_X5_init_103, if_neg (nle40 (by omega)), gdI (by omega) (by decide), nI_clamp (by omega), nI_1]; exact a
    · rw [c j, upA]
      by_cases e : j = i
      · subst e; simp; omega
      · simp [e]
        by_cases q : i + 1 ≤ j ∧ j < 40
        · rw [if_pos q, if_pos (by omega)]
        · rw [if_neg q, if_neg (by omega)]
theorem init124 {g : Nat} : ∀ (k i n : Nat) (S : Mem), i + k = 12 → k < n → ∃ S', f_X5_init_124 g n S (nI i) = some S' ∧ smX [8] S S' ∧ ∀ j, S'.1 8 j = if i ≤ j ∧ j < 12 then -1 else S.1 8 j := by
  intro k
  induction k with
  | zero =>
    intro i n S hi hn
    obtain ⟨n, rfl⟩ : ∃ m, n = m + 1 := ⟨n - 1, by omega⟩
    refine ⟨S, by rw [f_X5_init_124, if_pos (le12 (by omega) (by omega))], smX.rf, fun j => ?_⟩
    rw [if_neg (by omega)]
  | succ k ih =>
    intro i n S hi hn
    obtain ⟨n, rfl⟩ : ∃ m, n = m + 1 := ⟨n - 1, by omega⟩
    obtain ⟨S', a, b, c⟩ := ih (i + 1) n (up S 8 i (-1)) (by omega) (by omega)
    refine ⟨S', ?_, (smX.rf.up _ _ (by decide)).tr b, fun j => ?_⟩
    · rw [f_X5_init_124, if_neg (nle12 (by omega)), gdI (by omega) (by decide), nI_clamp (by omega), nI_1]; exact a
    · rw [c j, upA]
      by_cases e : j = i
      · subst e; simp; omega
      · simp [e]
        by_cases q : i + 1 ≤ j ∧ j < 12
        · rw [if_pos q, if_pos (by omega)]
        · rw [if_neg q, if_neg (by omega)]
theorem initE {g : Nat} (hg : 50 < g) : ∃ S1 R1, f_X0_allot g (up (up (up S0 0 4 0) 0 5 0) 0 6 (-1)) 0 1 = some S1 ∧ f_X5_initT g = some R1 ∧ INV S1 R1 := by
  obtain ⟨Ra, a1, a2, a3⟩ := init103 (g := g) (kx := fun (S4 : Mem) => f_X5_init_124 g g S4 0) 40 0 g (up R0 1 0 1) rfl (by omega)
  obtain ⟨R1, b1, b2, b3⟩ := init124 (g := g) 12 0 g Ra rfl (by omega)
  obtain ⟨S1, hS1⟩ : ∃ S1, S1 = up (up (up (up (up (up S0 0 4 0) 0 5 0) 0 6 (-1)) 2 0 1) 3 0 0) 4 0 (-1) := ⟨_, rfl⟩
  have r0 : ∀ k j, k ≠ 1 → k ≠ 5 → k ≠ 8 → R1.1 k j = 0 := fun k j h1 h5 h8 => by
    rw [b2.2 k (by simp [h8]), a2.2 k (by simp [h5]), upN _ _ _ h1]; rfl
  have s0 : ∀ k j, k ≠ 0 → k ≠ 2 → k ≠ 4 → k ≠ 8 → S1.1 k j = 0 := fun k j h0 h2 h4 h8 => by
    rw [hS1]; simp only [upA]
    by_cases e3 : k = 3
    · subst e3
      simp [S0]
    · simp [h0, h2, h4, e3, S0, h8]
  have s8 : ∀ j, j < 12 → S1.1 8 j = -1 := fun j hj => by
    rw [hS1]; simp only [upA]; simp [S0, hj]
  have r8 : ∀ j, j < 12 → R1.1 8 j = -1 := fun j hj => by rw [b3 j, if_pos ⟨Nat.zero_le _, hj⟩]
  have r5 : ∀ j, j < 40 → R1.1 5 j = -1 := fun j hj => by rw [b2.2 5 (by decide), a3 j, if_pos ⟨Nat.zero_le _, hj⟩]
  have s4 : ∀ j, j < 40 → S1.1 4 j = -1 := fun j hj => by
    rw [hS1]; simp only [upA]
    by_cases e : j = 0
    · simp [e]
    · simp [e, S0, hj]
  have s2 : ∀ j, S1.1 2 j = (P0 j).1 := fun j => by
    rw [hS1]; simp only [upA]; unfold P0
    by_cases e : j = 0
    · simp [e]
    · simp [e, S0]
  have r1 : ∀ j, R1.1 1 j = (P0 j).1 := fun j => by
    rw [b2.2 1 (by decide), a2.2 1 (by decide), upA]; unfold P0
    by_cases e : j = 0
    · simp [e]
    · simp [e, R0]
  have s04 : S1.1 0 4 = nI 0 := by rw [hS1]; simp only [upA]; simp; rfl
  have s05 : S1.1 0 5 = 0 := by rw [hS1]; simp only [upA]; simp
  have s06 : S1.1 0 6 = -1 := by rw [hS1]; simp only [upA]; simp
  refine ⟨S1, R1, ?_, ?_, P0, 0, 0, fun _ => [(-2147483648, 0)], ⟨?_, ?_, ?_, ?_, ?_⟩, T0, by omega, fun p hp hn => ?_, s04, r0 0 6 (by decide) (by decide) (by decide), ?_, Or.inl ⟨s06, r0 0 19 (by decide) (by decide) (by decide)⟩⟩
  · rw [hS1]
    unfold f_X0_allot
    have := cisP g (up (up (up S0 0 4 0) 0 5 0) 0 6 (-1)) (p := 0) (by decide)
    rw [show (0 : Int32) = nI 0 from rfl, show nI 0 = (0 : Int32) from rfl] at this
    rw [this, bdS, if_neg (by decide), gdT (by decide), gdT (by decide), gdT (by decide)]
    rfl
  · unfold f_X5_initT
    rw [gdT (by decide)]
    exact a1.trans b1
  · intro p hp
    refine ⟨s2 p, by rw [s0 3 p (by decide) (by decide) (by decide) (by decide), P0_len]; rfl, by rw [s4 p hp, P0_nx], by rw [P0_len]; simp, fun i e he => by rw [P0_len] at he; simp at he⟩
  · intro p hp
    refine ⟨r1 p, by rw [r0 2 p (by decide) (by decide) (by decide), P0_len]; rfl, by rw [r5 p hp, P0_nx], by rw [P0_len]; simp, fun i e he => by rw [P0_len] at he; simp at he⟩
  · refine ⟨fun i hi => Or.inl (s8 i hi), fun i j hi hj _ e2 => absurd (s8 i hi) e2, fun i hi => ⟨Or.inl (s0 9 i (by decide) (by decide) (by decide) (by decide)), Or.inl (s0 10 i (by decide) (by decide) (by decide) (by decide)), Or.inl (s0 11 i (by decide) (by decide) (by decide) (by decide))⟩, ⟨0, by decide, s0 7 4 (by decide) (by decide) (by decide) (by decide)⟩, fun i hi e => absurd (s0 11 i (by decide) (by decide) (by decide) (by decide)) e, fun q hq => absurd hq (by simp)⟩
  · refine FM.mk0 (fun i hi => ⟨by rw [s8 i hi, r8 i hi], ?_, ?_, ?_⟩) ⟨?_, ?_, ?_, ?_⟩
    · rw [s0 9 i (by decide) (by decide) (by decide) (by decide), r0 9 i (by decide) (by decide) (by decide)]
    · rw [s0 10 i (by decide) (by decide) (by decide) (by decide), r0 10 i (by decide) (by decide) (by decide)]
    · rw [s0 11 i (by decide) (by decide) (by decide) (by decide), r0 11 i (by decide) (by decide) (by decide)]
    · rw [s0 7 4 (by decide) (by decide) (by decide) (by decide), r0 0 15 (by decide) (by decide) (by decide)]
    · rw [s0 7 5 (by decide) (by decide) (by decide) (by decide), r0 0 16 (by decide) (by decide) (by decide)]
    · rw [s0 7 6 (by decide) (by decide) (by decide) (by decide), r0 0 17 (by decide) (by decide) (by decide)]
    · rw [s0 7 7 (by decide) (by decide) (by decide) (by decide), r0 0 18 (by decide) (by decide) (by decide)]
  · intro i hi q hq e
    rw [s8 i hi] at e
    exact absurd e.symm (nI_m1 (by omega))
  · by_cases e : p = 0
    · rw [P0_len]; exact ⟨by simp, Or.inr ⟨e, rfl⟩⟩
    · unfold P0 at hn; rw [if_neg e] at hn; exact absurd rfl hn
  · rw [s05, r0 0 7 (by decide) (by decide) (by decide)]
theorem lawI : ∀ L, L < 257 → (nI L - 4).toInt = (L : Int) - 4 := by decide +kernel
set_option maxHeartbeats 4000000 in
theorem lawE {g : Nat} (hg : 50 < g) {L : Nat} (hL : L ≤ 256) {xs : Nat → Int32} : ∀ (n i : Nat) (S R : Mem) (o : Nat → Int64), i ≤ L → L < i + 4 * n → INV S R → f_law g L xs n S R o (nI i) = some 1 := by
  intro n
  induction n with
  | zero => intro i S R o h1 h2; omega
  | succ n ih =>
    intro i S R o h1 h2 hI
    have hcond : (Int32.ofNat L - 4 < nI i) ↔ (L : Int) - 4 < i := by
      rw [Int32.lt_iff_toInt_lt, nI_toInt (by omega)]
      have := lawI L (by omega)
      unfold nI at this
      rw [this]
    by_cases hend : (L : Int) - 4 < i
    · rw [f_law, if_pos (hcond.mpr hend)]
    · have hi : i + 4 ≤ L := by omega
      have go : ∀ (S' R' : Mem) (o' : Nat → Int64), INV S' R' → f_law g L xs n S' R' o' (nI (i + 4)) = some 1 := fun S' R' o' hI' => ih (i + 4) S' R' o' (by omega) (by omega) hI'
      have e2 : nI i + 2 = nI (i + 2) := nI_add i 2
      have e3 : nI i + 3 = nI (i + 3) := nI_add i 3
      have e4 : nI i + 4 = nI (i + 4) := nI_add i 4
      have z0 : (0 : Int32).toNatClampNeg = 0 := rfl
      have u0 : ∀ (o' : Nat → Int64) v, vp_updL o' 0 v 0 = v := fun o' v => by unfold vp_updL; rw [if_pos rfl]
      have cc : ∀ v : Int64, lg_cmp v v = 0 := fun v => (lg_cmp_eq v v).mpr rfl
      rw [f_law, if_neg (fun z => hend (hcond.mp z)), gdI (by omega) (by omega)]
      simp only [nI_1, e2, e3, e4, nI_clamp (show i < 2 ^ 31 by omega), nI_clamp (show i + 1 < 2 ^ 31 by omega), nI_clamp (show i + 2 < 2 ^ 31 by omega), nI_clamp (show i + 3 < 2 ^ 31 by omega), gdI (show i + 1 < L by omega) (show L < 2 ^ 31 by omega), gdI (show i + 2 < L by omega) (show L < 2 ^ 31 by omega), gdI (show i + 3 < L by omega) (show L < 2 ^ 31 by omega), f_X5_thrown, bdS, jn1, z0]
      have n10 : ¬ (1 : Int32) = 0 := by decide
      have n20 : ¬ (2 : Int32) = 0 := by decide
      have m10 : ¬ (1 : Nat) = 0 := by decide
      have m20 : ¬ (2 : Nat) = 0 := by decide
      have m30 : ¬ (3 : Nat) = 0 := by decide
      have m40 : ¬ (4 : Nat) = 0 := by decide
      have m50 : ¬ (5 : Nat) = 0 := by decide
      have m54 : ¬ (5 : Nat) = 4 := by decide
      by_cases c0 : xs i &&& 15 = 0
      · rw [if_pos c0]
        obtain ⟨e, v, v', S', R', p1, p2, p3, p4⟩ := putE hg hI (xs (i + 1)) (xs (i + 2))
        unfold f_L_put
        rw [p1, bd2S]
        rcases p4 with ⟨rfl, hr, rfl, hv⟩ | ⟨rfl, hr⟩
        · simp only [if_true, bdS, p2, bd2S, hr, u0]
          by_cases v0 : v' = 0
          · simp only [if_pos v0, cc, if_true]; exact go _ _ _ p3
          · simp only [if_neg v0, cc, if_true]; exact go _ _ _ p3
        · simp only [if_neg m10, if_true, bdS, p2, bd2S, hr, if_neg n10]; exact go _ _ _ p3
      rw [if_neg c0]
      by_cases c1 : xs i &&& 15 = 1
      · rw [if_pos c1]
        obtain ⟨e, v, v', S', R', p1, p2, p3, p4⟩ := getE hg hI (xs (i + 1))
        unfold f_L_get
        rw [p1, bd2S]
        rcases p4 with ⟨rfl, hr, rfl⟩ | ⟨rfl, hr⟩
        · simp only [if_true, bdS, p2, bd2S, hr, u0, cc]; exact go _ _ _ p3
        · simp only [if_neg m20, if_true, bdS, p2, bd2S, hr, if_neg n10]; exact go _ _ _ p3
      rw [if_neg c1]
      by_cases c2 : xs i &&& 15 = 2
      · rw [if_pos c2]
        obtain ⟨v, S', R', p1, p2, p3⟩ := removeE hg hI (xs (i + 1))
        rw [p1, bd2S, p2, bd2S, if_pos rfl]; exact go _ _ _ p3
      rw [if_neg c2]
      by_cases c3 : xs i &&& 15 = 3
      · rw [if_pos c3]
        obtain ⟨v, S', R', p1, p2, p3⟩ := seekE hg hI (xs (i + 1))
        rw [p1, bd2S, p2, bd2S, if_pos rfl]; exact go _ _ _ p3
      rw [if_neg c3]
      by_cases c4 : xs i &&& 15 = 4
      · rw [if_pos c4]
        obtain ⟨e, v, v', S', R', p1, p2, p3, p4⟩ := nextE hg hI
        unfold f_L_next
        rw [p1, bd2S]
        rcases p4 with ⟨rfl, hr, rfl, hv⟩ | ⟨rfl, hr⟩
        · simp only [if_true, bdS, p2, bd2S, hr, u0]
          by_cases v0 : v' = 0
          · simp only [if_pos v0, cc, if_true]; exact go _ _ _ p3
          · simp only [if_neg v0, cc, if_true]; exact go _ _ _ p3
        · simp only [if_neg m20, if_true, bdS, p2, bd2S, hr, if_neg n10]; exact go _ _ _ p3
      rw [if_neg c4]
      by_cases c5 : xs i &&& 15 = 5
      · rw [if_pos c5]
        have hcu : ∀ a : Int32, bd (f_L_cursor g S o a) (fun z88 => bd2 (f_X5_cursor g R a) (fun r94 S95 => if S95.1 0 0 = z88.1 then (if z88.1 = 0 then (if (lg_cmp (z88.2.2 0) r94.toInt64) = 0 then (f_law g L xs n z88.2.1 S95 z88.2.2 (nI (i + 4))) else (some 0)) else (f_law g L xs n z88.2.1 S95 z88.2.2 (nI (i + 4)))) else (some 0))) = some 1 := by
          intro a
          obtain ⟨e, v, v', R', p1, p2, p3, p4⟩ := cursorE (g := g) hI a
          unfold f_L_cursor
          rw [p1, bd2S]
          rcases p4 with ⟨rfl, hr, rfl⟩ | ⟨rfl, hr⟩
          · simp only [if_true, bdS, p2, bd2S, hr, u0, cc]; exact go _ _ _ p3
          · simp only [if_neg m20, if_true, bdS, p2, bd2S, hr, if_neg n10]; exact go _ _ _ p3
        by_cases x0 : xs (i + 1) = 0
        · simp only [if_pos x0]; exact hcu 0
        · simp only [if_neg x0]; exact hcu 1
      rw [if_neg c5]
      by_cases c6 : xs i &&& 15 = 6
      · rw [if_pos c6]
        obtain ⟨v, S', R', p1, p2, p3⟩ := flushI hg hI
        rw [p1, bd2S, p2, bd2S, if_pos rfl]; exact go _ _ _ p3
      rw [if_neg c6]
      by_cases c7 : xs i &&& 15 = 7
      · rw [if_pos c7]
        obtain ⟨e, v, v', S', R', p1, p2, p3, p4⟩ := dropI hg hI
        unfold f_L_drop
        rw [p1, bd2S]
        rcases p4 with ⟨rfl, hr, rfl⟩ | ⟨rfl, hr⟩
        · simp only [if_true, bdS, p2, bd2S, hr, u0, cc]; exact go _ _ _ p3
        · simp only [if_neg m30, if_true, bdS, p2, bd2S, hr, if_neg n10]; exact go _ _ _ p3
      rw [if_neg c7]
      by_cases c8 : xs i &&& 15 = 8
      · rw [if_pos c8]
        obtain ⟨e, v, v', R', p1, p2, p3, p4⟩ := pageE (g := g) hI (xs (i + 1)) (xs (i + 2))
        unfold f_L_page
        rw [p1, bd2S]
        rcases p4 with ⟨rfl, hr, rfl⟩ | ⟨rfl, hr⟩ | ⟨rfl, hr⟩
        · simp only [if_true, bdS, p2, bd2S, hr, u0, cc]; exact go _ _ _ p3
        · simp only [if_neg m40, if_true, bdS, p2, bd2S, hr, if_neg n10]; exact go _ _ _ p3
        · simp only [if_neg m50, if_neg m54, if_true, bdS, p2, bd2S, hr, if_neg n20]; exact go _ _ _ p3
      rw [if_neg c8]
      by_cases c9 : xs i &&& 15 = 9
      · rw [if_pos c9]
        have hit : ∀ a : Int32, bd (f_L_item g S o (xs (i + 1)) (xs (i + 2)) a) (fun z155 => bd2 (f_X5_item g R (xs (i + 1)) (xs (i + 2)) a) (fun r163 S164 => if S164.1 0 0 = z155.1 then (if z155.1 = 0 then (if (lg_cmp (z155.2.2 0) r163.toInt64) = 0 then (f_law g L xs n z155.2.1 S164 z155.2.2 (nI (i + 4))) else (some 0)) else (f_law g L xs n z155.2.1 S164 z155.2.2 (nI (i + 4)))) else (some 0))) = some 1 := by
          intro a
          obtain ⟨e, v, v', R', p1, p2, p3, p4⟩ := itemE (g := g) hI (xs (i + 1)) (xs (i + 2)) a
          unfold f_L_item
          rw [p1, bd2S]
          rcases p4 with ⟨rfl, hr, rfl⟩ | ⟨rfl, hr⟩
          · simp only [if_true, bdS, p2, bd2S, hr, u0, cc]; exact go _ _ _ p3
          · simp only [if_neg m40, if_true, bdS, p2, bd2S, hr, if_neg n10]; exact go _ _ _ p3
        by_cases x0 : xs (i + 3) = 0
        · simp only [if_pos x0]; exact hit 0
        · simp only [if_neg x0]; exact hit 1
      rw [if_neg c9]
      by_cases c10 : xs i &&& 15 = 10
      · rw [if_pos c10]
        obtain ⟨e, v, v', R', p1, p2, p3, p4⟩ := frameE (g := g) hI (xs (i + 1)) (xs (i + 2))
        unfold f_L_frame
        rw [p1, bd2S]
        rcases p4 with ⟨rfl, hr, rfl⟩ | ⟨rfl, hr⟩ | ⟨rfl, hr⟩
        · simp only [if_true, bdS, p2, bd2S, hr, u0, cc]; exact go _ _ _ p3
        · simp only [if_neg m40, if_true, bdS, p2, bd2S, hr, if_neg n10]; exact go _ _ _ p3
        · simp only [if_neg m50, if_neg m54, if_true, bdS, p2, bd2S, hr, if_neg n20]; exact go _ _ _ p3
      rw [if_neg c10]
      by_cases c11 : xs i &&& 15 = 11
      · rw [if_pos c11]
        obtain ⟨v, R', p1, p2, p3⟩ := toldE hg hI (xs (i + 1))
        rw [p1, bdS, p2, bd2S, if_pos rfl]; exact go _ _ _ p3
      rw [if_neg c11]
      by_cases c12 : xs i &&& 15 = 12
      · rw [if_pos c12]
        obtain ⟨v, S', R', p1, p2, p3⟩ := astrayE hg hI
        rw [p1, bd2S, p2, bd2S, if_pos rfl]; exact go _ _ _ p3
      rw [if_neg c12]
      exact go _ _ _ hI
