/-! the reference's disk over pages -/
theorem m_insL {g p a : Nat} (hp : p < 40) {w3 w4 : Int32} {kx : Mem → Option Mem} : ∀ (k i n : Nat) (S : Mem), i = a + k → i < 5 → k < n → ∃ S', f_X5_insert_8 g (nI p) (nI a) w3 w4 kx n S (nI i) = kx S' ∧ smX [3, 4] S S' ∧ (∀ c, S'.1 3 c = if 5 * p + a < c ∧ c ≤ 5 * p + i then S.1 3 (c - 1) else S.1 3 c) ∧ (∀ c, S'.1 4 c = if 5 * p + a < c ∧ c ≤ 5 * p + i then S.1 4 (c - 1) else S.1 4 c) := by
  intro k
  induction k with
  | zero =>
    intro i n S hi h5 hn
    obtain ⟨n, rfl⟩ : ∃ m, n = m + 1 := ⟨n - 1, by omega⟩
    refine ⟨S, by rw [f_X5_insert_8, if_pos (nI_leN (by omega) (by omega) (by omega))], smX.rf, fun c => ?_, fun c => ?_⟩
    · rw [if_neg (by omega)]
    · rw [if_neg (by omega)]
  | succ k ih =>
    intro i n S hi h5 hn
    obtain ⟨n, rfl⟩ : ∃ m, n = m + 1 := ⟨n - 1, by omega⟩
    obtain ⟨j, rfl⟩ : ∃ j, i = j + 1 := ⟨i - 1, by omega⟩
    obtain ⟨S', a1, a2, a3, a4⟩ := ih j n (up (up S 3 (5 * p + (j + 1)) (S.1 3 (5 * p + j))) 4 (5 * p + (j + 1)) (S.1 4 (5 * p + j))) (by omega) (by omega) (by omega)
    refine ⟨S', ?_, ((smX.rf.up _ _ (by decide)).up _ _ (by decide)).tr a2, fun c => ?_, fun c => ?_⟩
    · rw [f_X5_insert_8, if_neg (nI_nleN (by omega) (by omega) (by omega))]
      have e1 : 5 * nI p + nI (j + 1) = nI (5 * p + (j + 1)) := by rw [nI_m5, nI_add]
      have e2 : nI (5 * p + (j + 1)) - 1 = nI (5 * p + j) := nI_pred (5 * p + j)
      simp only [e2, e1, gdI (show 5 * p + j < 200 by omega) (show 200 < 2 ^ 31 by decide), gdI (show 5 * p + (j + 1) < 200 by omega) (show 200 < 2 ^ 31 by decide), nI_clamp (show 5 * p + j < 2 ^ 31 by omega), nI_clamp (show 5 * p + (j + 1) < 2 ^ 31 by omega), upN S _ _ (show (4 : Nat) ≠ 3 by decide), nI_dec]
      exact a1
    · rw [a3 c]
      simp only [upA]
      by_cases e1 : 5 * p + a < c ∧ c ≤ 5 * p + j
      · rw [if_pos e1, if_pos (show 5 * p + a < c ∧ c ≤ 5 * p + (j + 1) by omega)]
        simp
        intro q; omega
      · rw [if_neg e1]
        by_cases e2 : c = 5 * p + (j + 1)
        · rw [if_pos (show 5 * p + a < c ∧ c ≤ 5 * p + (j + 1) by omega)]
          simp [e2]
        · rw [if_neg (show ¬ (5 * p + a < c ∧ c ≤ 5 * p + (j + 1)) by omega)]
          simp [e2]
    · rw [a4 c]
      simp only [upA]
      by_cases e1 : 5 * p + a < c ∧ c ≤ 5 * p + j
      · rw [if_pos e1, if_pos (show 5 * p + a < c ∧ c ≤ 5 * p + (j + 1) by omega)]
        simp
        intro q; omega
      · rw [if_neg e1]
        by_cases e2 : c = 5 * p + (j + 1)
        · rw [if_pos (show 5 * p + a < c ∧ c ≤ 5 * p + (j + 1) by omega)]
          simp [e2]
        · rw [if_neg (show ¬ (5 * p + a < c ∧ c ≤ 5 * p + (j + 1)) by omega)]
          simp [e2]
theorem m_ins {g : Nat} (hg : 30 < g) {R : Mem} {P : Nat → Pg} (h : RM R P) {p : Nat} {X Y : List (Int32 × Int32)} (k v : Int32) (hp : p < 40) (hl : (P p).2.1 = X ++ Y) (h4 : X.length + Y.length < 5) : ∃ R', f_X5_insert g R (nI p) (nI X.length) k v = some R' ∧ RM R' (sp P p ((P p).1, X ++ (k, v) :: Y, (P p).2.2)) ∧ smX [2, 3, 4] R R' := by
  have hlen : (P p).2.1.length = X.length + Y.length := by rw [hl]; simp
  obtain ⟨a, b, c, d, r⟩ := h p hp
  rw [hlen] at b
  have e1 : 5 * nI p + nI X.length = nI (5 * p + X.length) := by rw [nI_m5, nI_add]
  obtain ⟨S1, a1, a2, a3, a4⟩ := m_insL (g := g) (a := X.length) hp (w3 := k) (w4 := v) (kx := fun (S7 : Mem) => gd (ix_in ((5 * (nI p)) + (nI X.length)) 200) (gd (ix_in ((5 * (nI p)) + (nI X.length)) 200) (gd (ix_in (nI p) 40) (gd (ix_in (nI p) 40) (some (up (up (up S7 3 ((5 * (nI p)) + (nI X.length)).toNatClampNeg k) 4 ((5 * (nI p)) + (nI X.length)).toNatClampNeg v) 2 (nI p).toNatClampNeg (((up (up S7 3 ((5 * (nI p)) + (nI X.length)).toNatClampNeg k) 4 ((5 * (nI p)) + (nI X.length)).toNatClampNeg v).1 2 (nI p).toNatClampNeg) + 1))))))) Y.length (X.length + Y.length) g R rfl h4 (by omega)
  refine ⟨up (up (up S1 3 (5 * p + X.length) k) 4 (5 * p + X.length) v) 2 p (nI (X.length + Y.length + 1)), ?_, ?_, (((a2.wk (by simp)).up _ _ (by decide)).up _ _ (by decide)).up _ _ (by decide)⟩
  · unfold f_X5_insert
    rw [gdI hp (by decide), show R.1 2 (nI p).toNatClampNeg = nI (X.length + Y.length) by rw [nI_clamp (by omega)]; exact b, a1]
    simp only [e1, gdI hp (show 40 < 2 ^ 31 by decide), gdI (show 5 * p + X.length < 200 by omega) (show 200 < 2 ^ 31 by decide), nI_clamp (show p < 2 ^ 31 by omega), nI_clamp (show 5 * p + X.length < 2 ^ 31 by omega)]
    rw [upN _ _ _ (show (2 : Nat) ≠ 4 by decide), upN _ _ _ (show (2 : Nat) ≠ 3 by decide), a2.2 2 (by decide), b, nI_1]
  · refine Rp.ins h hp hl h4 ?_ ?_ (fun q => ?_) (fun c => ?_) (fun c => ?_)
    · rw [upN _ _ _ (by decide), upN _ _ _ (by decide), upN _ _ _ (by decide), a2.2 1 (by decide)]
    · rw [upN _ _ _ (by decide), upN _ _ _ (by decide), upN _ _ _ (by decide), a2.2 5 (by decide)]
    · simp only [upA, a2.2 2 (by decide)]; simp
    · simp only [upA, a3]; simp
    · simp only [upA, a4]; simp
theorem m_delL {g p z : Nat} (hp : p < 40) (h5 : z < 5) : ∀ (k i n : Nat) (S : Mem), i + k = z → S.1 2 p = nI z → k < n → ∃ S', f_X5_removeAt_12 g (nI p) n S (nI i) = some S' ∧ smX [3, 4] S S' ∧ (∀ c, S'.1 3 c = if 5 * p + i ≤ c ∧ c < 5 * p + z then S.1 3 (c + 1) else S.1 3 c) ∧ (∀ c, S'.1 4 c = if 5 * p + i ≤ c ∧ c < 5 * p + z then S.1 4 (c + 1) else S.1 4 c) := by
  intro k
  induction k with
  | zero =>
    intro i n S hi hz hn
    obtain ⟨n, rfl⟩ : ∃ m, n = m + 1 := ⟨n - 1, by omega⟩
    refine ⟨S, ?_, smX.rf, fun c => ?_, fun c => ?_⟩
    · rw [f_X5_removeAt_12, gdI hp (by decide), if_pos (by rw [nI_clamp (by omega), hz]; exact nI_leN (by omega) (by omega) (by omega))]
    · rw [if_neg (by omega)]
    · rw [if_neg (by omega)]
  | succ k ih =>
    intro i n S hi hz hn
    obtain ⟨n, rfl⟩ : ∃ m, n = m + 1 := ⟨n - 1, by omega⟩
    obtain ⟨S', a1, a2, a3, a4⟩ := ih (i + 1) n (up (up S 3 (5 * p + i) (S.1 3 (5 * p + (i + 1)))) 4 (5 * p + i) (S.1 4 (5 * p + (i + 1)))) (by omega) (by rw [upN _ _ _ (by decide), upN _ _ _ (by decide)]; exact hz) (by omega)
    refine ⟨S', ?_, ((smX.rf.up _ _ (by decide)).up _ _ (by decide)).tr a2, fun c => ?_, fun c => ?_⟩
    · rw [f_X5_removeAt_12, gdI hp (by decide), if_neg (by rw [nI_clamp (by omega), hz]; exact nI_nleN (by omega) (by omega) (by omega))]
      have e1 : 5 * nI p + nI i = nI (5 * p + i) := by rw [nI_m5, nI_add]
      have e2 : nI (5 * p + i) + 1 = nI (5 * p + (i + 1)) := nI_1 (5 * p + i)
      simp only [e1, e2, gdI (show 5 * p + i < 200 by omega) (show 200 < 2 ^ 31 by decide), gdI (show 5 * p + (i + 1) < 200 by omega) (show 200 < 2 ^ 31 by decide), nI_clamp (show 5 * p + i < 2 ^ 31 by omega), nI_clamp (show 5 * p + (i + 1) < 2 ^ 31 by omega), upN S _ _ (show (4 : Nat) ≠ 3 by decide), nI_1]
      exact a1
    · rw [a3 c]
      simp only [upA]
      by_cases e1 : 5 * p + (i + 1) ≤ c ∧ c < 5 * p + z
      · rw [if_pos e1, if_pos (show 5 * p + i ≤ c ∧ c < 5 * p + z by omega)]
        simp
        intro q; omega
      · rw [if_neg e1]
        by_cases e2 : c = 5 * p + i
        · rw [if_pos (show 5 * p + i ≤ c ∧ c < 5 * p + z by omega)]
          simp [e2]; rfl
        · rw [if_neg (show ¬ (5 * p + i ≤ c ∧ c < 5 * p + z) by omega)]
          simp [e2]
    · rw [a4 c]
      simp only [upA]
      by_cases e1 : 5 * p + (i + 1) ≤ c ∧ c < 5 * p + z
      · rw [if_pos e1, if_pos (show 5 * p + i ≤ c ∧ c < 5 * p + z by omega)]
        simp
        intro q; omega
      · rw [if_neg e1]
        by_cases e2 : c = 5 * p + i
        · rw [if_pos (show 5 * p + i ≤ c ∧ c < 5 * p + z by omega)]
          simp [e2]; rfl
        · rw [if_neg (show ¬ (5 * p + i ≤ c ∧ c < 5 * p + z) by omega)]
          simp [e2]
theorem m_del {g : Nat} (hg : 30 < g) {R : Mem} {P : Nat → Pg} (h : RM R P) {p : Nat} {X Y : List (Int32 × Int32)} {z : Int32 × Int32} (hp : p < 40) (hl : (P p).2.1 = X ++ z :: Y) : ∃ R', f_X5_removeAt g R (nI p) (nI X.length) = some R' ∧ RM R' (sp P p ((P p).1, X ++ Y, (P p).2.2)) ∧ smX [2, 3, 4] R R' := by
  have hlen : (P p).2.1.length = X.length + Y.length + 1 := by rw [hl]; simp; omega
  obtain ⟨a, b, c, d, r⟩ := h p hp
  rw [hlen] at b
  obtain ⟨S1, a1, a2, a3, a4⟩ := m_delL (g := g) (z := X.length + Y.length) hp (by omega) Y.length X.length g (up R 2 p (nI (X.length + Y.length))) rfl (upS _ _ _ _) (by omega)
  refine ⟨S1, ?_, ?_, (smX.rf.up _ _ (by decide)).tr (a2.wk (by simp))⟩
  · unfold f_X5_removeAt
    rw [gdI hp (by decide), gdI hp (by decide)]
    simp only [nI_clamp (show p < 2 ^ 31 by omega)]
    rw [b, nI_pred]
    exact a1
  · refine Rp.del h hp hl ?_ ?_ (fun q => ?_) (fun c => ?_) (fun c => ?_)
    · rw [a2.2 1 (by decide), upN _ _ _ (by decide)]
    · rw [a2.2 5 (by decide), upN _ _ _ (by decide)]
    · rw [a2.2 2 (by decide), upA]; simp
    · rw [a3]; simp only [upN R _ _ (show (3 : Nat) ≠ 2 by decide)]
    · rw [a4]; simp only [upN R _ _ (show (4 : Nat) ≠ 2 by decide)]
theorem m_lfL {g : Nat} {R : Mem} {P : Nat → Pg} (h : RM R P) {q : Nat} (hq : Lf P q) : ∀ (k i n : Nat), i + k = q → k < n → f_X5_leastFree_2 g R n (nI i) = some (nI q) := by
  intro k
  induction k with
  | zero =>
    intro i n hi hn
    obtain ⟨n, rfl⟩ : ∃ m, n = m + 1 := ⟨n - 1, by omega⟩
    have : i = q := by omega
    subst this
    have := hq.1
    rw [f_X5_leastFree_2, if_neg (nle40 hq.1), gdI hq.1 (by decide), nI_clamp (by omega), (h i hq.1).1, if_pos hq.2.1]
  | succ k ih =>
    intro i n hi hn
    obtain ⟨n, rfl⟩ : ∃ m, n = m + 1 := ⟨n - 1, by omega⟩
    have := hq.1
    rw [f_X5_leastFree_2, if_neg (nle40 (by omega)), gdI (by omega) (by decide), nI_clamp (by omega), (h i (by omega)).1, if_neg (hq.2.2 i (by omega)), nI_1]
    exact ih (i + 1) n (by omega) (by omega)
theorem m_lf {g : Nat} (hg : 50 < g) {R : Mem} {P : Nat → Pg} (h : RM R P) {q : Nat} (hq : Lf P q) : f_X5_leastFree g R = some (nI q) := m_lfL h hq q 0 g (by omega) (by have := hq.1; omega)
theorem m_inuL {g : Nat} {R : Mem} {P : Nat → Pg} (h : RM R P) : ∀ (k i n a : Nat), i + k = 40 → k < n → f_X5_pagesInUse_4 g R n (nI a) (nI i) = some (nI (a + (k - fre P k i))) := by
  intro k
  induction k with
  | zero =>
    intro i n a hi hn
    obtain ⟨n, rfl⟩ : ∃ m, n = m + 1 := ⟨n - 1, by omega⟩
    rw [f_X5_pagesInUse_4, if_pos (le40 (by omega) (by omega))]; rfl
  | succ k ih =>
    intro i n a hi hn
    obtain ⟨n, rfl⟩ : ∃ m, n = m + 1 := ⟨n - 1, by omega⟩
    rw [f_X5_pagesInUse_4, if_neg (nle40 (by omega)), gdI (by omega) (by decide), nI_clamp (by omega), (h i (by omega)).1, nI_1, nI_1]
    have hle : fre P k (i + 1) ≤ k := cn_le _ _ _
    have hs : fre P (k + 1) i = (if (P i).1 = 0 then 1 else 0) + fre P k (i + 1) := by
      unfold fre
      rw [cn]; simp
    rw [hs]
    by_cases e : (P i).1 = 0
    · rw [if_pos e, if_pos e, ih (i + 1) n a (by omega) (by omega)]
      congr 2; omega
    · rw [if_neg e, if_neg e, ih (i + 1) n (a + 1) (by omega) (by omega)]
      congr 2; omega
theorem m_inu {g : Nat} (hg : 50 < g) {R : Mem} {P : Nat → Pg} (h : RM R P) : f_X5_pagesInUse g R = some (nI (40 - fre P 40 0)) := by
  have := m_inuL (g := g) h 40 0 g 0 rfl (by omega)
  rw [Nat.zero_add] at this
  exact this
theorem m_plL {g : Nat} {R : Mem} {P : Nat → Pg} (h : RM R P) {p : Nat} {key : Int32} (hp : p < 40) : ∀ (Y X : List (Int32 × Int32)) (n : Nat), (P p).2.1 = X ++ Y → Y.length < n → f_X5_placeOf_12 g R key (nI p) n (nI X.length) = some (nI (X.length + plc key Y)) := by
  intro Y
  obtain ⟨a, b, c, d, r⟩ := h p hp
  induction Y with
  | nil =>
    intro X n hl hn
    obtain ⟨n, rfl⟩ : ∃ m, n = m + 1 := ⟨n - 1, by omega⟩
    have e : (P p).2.1.length = X.length := by rw [hl]; simp
    rw [f_X5_placeOf_12, gdI hp (by decide), nI_clamp (by omega), b, e, if_pos (nI_leN (by omega) (by omega) (by omega))]; rfl
  | cons y Y ih =>
    intro X n hl hn
    obtain ⟨n, rfl⟩ : ∃ m, n = m + 1 := ⟨n - 1, by omega⟩
    have e : (P p).2.1.length = X.length + Y.length + 1 := by rw [hl]; simp; omega
    simp at hn
    have e1 : 5 * nI p + nI X.length = nI (5 * p + X.length) := by rw [nI_m5, nI_add]
    rw [f_X5_placeOf_12, gdI hp (by decide), nI_clamp (show p < 2 ^ 31 by omega), b, if_neg (nI_nleN (by omega) (by omega) (by omega)), e1, gdI (by omega) (by decide), nI_clamp (by omega), (r X.length y (by rw [hl]; exact getX _ _ _)).1, plc]
    by_cases q : y.1 < key
    · rw [if_neg (fun z => absurd q (Int32.not_lt.mpr z)), if_pos q, nI_1]
      have := ih (X ++ [y]) n (by rw [hl]; simp) (by omega)
      simp only [List.length_append, List.length_cons, List.length_nil] at this
      rw [show X.length + (0 + 1) = X.length + 1 by omega] at this
      rw [this]
      congr 2; omega
    · rw [if_pos (Int32.not_lt.mp q), if_neg q]; rfl
theorem m_pl {g : Nat} (hg : 30 < g) {R : Mem} {P : Nat → Pg} (h : RM R P) {p d : Nat} (key : Int32) (hp : p < 40) (hd : d < 50) (h8 : R.1 0 8 = nI d) (h6 : R.1 6 d = nI p) : f_X5_placeOf g R key = some (nI (plc key (P p).2.1)) := by
  unfold f_X5_placeOf
  have h5 := (h p hp).2.2.2.1
  have := m_plL (g := g) (key := key) h hp (P p).2.1 [] g rfl (by omega)
  rw [List.length_nil, Nat.zero_add] at this
  rw [h8, gdI hd (by decide), nI_clamp (by omega), h6]
  exact this
theorem m_at {g : Nat} {R : Mem} {P : Nat → Pg} (h : RM R P) {p d i : Nat} (key : Int32) (hp : p < 40) (hd : d < 50) (h8 : R.1 0 8 = nI d) (h6 : R.1 6 d = nI p) (hi : i ≤ (P p).2.1.length) : f_X5_isAt g R (nI i) key = some (if hasB (P p).2.1 i key = true then 1 else 0) := by
  unfold f_X5_isAt hasB
  obtain ⟨a, b, c, d', r⟩ := h p hp
  have e1 : 5 * nI p + nI i = nI (5 * p + i) := by rw [nI_m5, nI_add]
  simp only [h8, gdI hd (show 50 < 2 ^ 31 by decide), nI_clamp (show d < 2 ^ 31 by omega), h6, gdI hp (show 40 < 2 ^ 31 by decide), nI_clamp (show p < 2 ^ 31 by omega), b, e1]
  by_cases e : i = (P p).2.1.length
  · rw [if_pos (nI_leN (by omega) (by omega) (by omega)), List.getElem?_eq_none (by omega)]; simp
  · rw [if_neg (nI_nleN (by omega) (by omega) (by omega))]
    obtain ⟨z, hz⟩ : ∃ z, (P p).2.1[i]? = some z := ⟨_, List.getElem?_eq_getElem (by omega)⟩
    rw [gdI (by omega) (by decide), nI_clamp (by omega), (r i z hz).1, hz]
    simp
    by_cases q : z.1 = key
    · rw [if_pos q, if_pos q]
    · rw [if_neg q, if_neg q]
theorem m_chL {g : Nat} {R : Mem} {P : Nat → Pg} (h : RM R P) {p : Nat} {key : Int32} {kx : Int32 → Option Mem} (hp : p < 40) : ∀ (k i n : Nat), i + k = (P p).2.1.length → 1 ≤ i → k < n → f_X5_find_39 g R key (nI p) kx n (nI (chq key (P p).2.1 (i - 1))) (nI i) = kx (nI (chq key (P p).2.1 ((P p).2.1.length - 1))) := by
  obtain ⟨a, b, c, d, r⟩ := h p hp
  intro k
  induction k with
  | zero =>
    intro i n hi h1 hn
    obtain ⟨n, rfl⟩ : ∃ m, n = m + 1 := ⟨n - 1, by omega⟩
    rw [f_X5_find_39, gdI hp (by decide), nI_clamp (by omega), b, if_pos (nI_leN (by omega) (by omega) (by omega)), show i = (P p).2.1.length by omega]
  | succ k ih =>
    intro i n hi h1 hn
    obtain ⟨n, rfl⟩ : ∃ m, n = m + 1 := ⟨n - 1, by omega⟩
    obtain ⟨j, rfl⟩ : ∃ j, i = j + 1 := ⟨i - 1, by omega⟩
    obtain ⟨z, hz⟩ : ∃ z, (P p).2.1[j + 1]? = some z := ⟨_, List.getElem?_eq_getElem (by omega)⟩
    have e1 : 5 * nI p + nI (j + 1) = nI (5 * p + (j + 1)) := by rw [nI_m5, nI_add]
    have := ih (j + 1 + 1) n (by omega) (by omega) (by omega)
    rw [show j + 1 + 1 - 1 = j + 1 by omega, chq, hz] at this
    simp only at this
    rw [f_X5_find_39, gdI hp (by decide), nI_clamp (show p < 2 ^ 31 by omega), b, if_neg (nI_nleN (by omega) (by omega) (by omega)), e1, gdI (by omega) (by decide), nI_clamp (by omega), (r (j + 1) z hz).1, nI_1, show j + 1 - 1 = j by omega]
    by_cases q : key < z.1
    · rw [if_pos q] at this ⊢
      exact this
    · rw [if_neg q] at this ⊢
      exact this
