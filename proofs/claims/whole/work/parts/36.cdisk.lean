/-! the class's disk over pages -/
theorem cisP (g : Nat) (S : Mem) {p : Nat} (hp : p < 40) : f_X0_isPage g S (nI p) = some 1 := by
  unfold f_X0_isPage
  rw [if_neg (nI_nneg (by omega)), if_neg (nle40 hp)]
theorem c_cell (g : Nat) (S : Mem) {p i : Nat} (hp : p < 40) (hi : i < 5) : f_X0_cellOf g S (nI p) (nI i) = some (nI (5 * p + i)) := by
  unfold f_X0_cellOf
  simp only [jn0, jn1]
  rw [if_neg (nI_nneg (by omega)), if_neg (nle40 hp), if_neg (nI_nneg (by omega)), if_neg (nle5 hi), if_neg (by decide), nI_m5', nI_add]
theorem nle200 {i : Nat} (h : i < 200) : ¬ (200 : Int32) ≤ nI i := fun q => by have := (le_l (a := 200) (i := i) 200 rfl (by decide) (by omega)).mp q; omega
theorem c_keyR (g : Nat) (S : Mem) {p i : Nat} (hp : p < 40) (hi : i < 5) : f_X0_keyAt g S (nI p) (nI i) = some (S.1 5 (5 * p + i)) := by
  unfold f_X0_keyAt
  rw [c_cell g S hp hi, bdS, if_neg (nI_nneg (by omega)), if_neg (nle200 (by omega)), gdI (by omega) (by decide), nI_clamp (by omega)]
theorem c_secR (g : Nat) (S : Mem) {p i : Nat} (hp : p < 40) (hi : i < 5) : f_X0_secondAt g S (nI p) (nI i) = some (S.1 6 (5 * p + i)) := by
  unfold f_X0_secondAt
  rw [c_cell g S hp hi, bdS, if_neg (nI_nneg (by omega)), if_neg (nle200 (by omega)), gdI (by omega) (by decide), nI_clamp (by omega)]
theorem c_stkR (g : Nat) (S : Mem) {p i : Nat} (k : Int32) (hp : p < 40) (hi : i < 5) : f_X0_setKey g S (nI p) (nI i) k = some (up S 5 (5 * p + i) k) := by
  unfold f_X0_setKey
  rw [c_cell g S hp hi, bdS, if_neg (nI_nneg (by omega)), if_neg (nle200 (by omega)), gdI (by omega) (by decide), nI_clamp (by omega)]
theorem c_stiR (g : Nat) (S : Mem) {p i : Nat} (k v : Int32) (hp : p < 40) (hi : i < 5) : f_X0_setItem g S (nI p) (nI i) k v = some (up (up S 5 (5 * p + i) k) 6 (5 * p + i) v) := by
  unfold f_X0_setItem
  rw [c_cell g S hp hi, bdS, if_neg (nI_nneg (by omega)), if_neg (nle200 (by omega)), if_neg (nle200 (by omega)), gdI (by omega) (by decide), gdI (by omega) (by decide), nI_clamp (by omega)]
theorem c_kind {g : Nat} {S : Mem} {P : Nat → Pg} (h : RC S P) {p : Nat} (hp : p < 40) : f_X0_kindOf g S (nI p) = some (P p).1 := by
  unfold f_X0_kindOf
  rw [cisP g S hp, bdS, if_neg (by decide), gdI hp (by decide), nI_clamp (by omega), (h p hp).1]
theorem c_count {g : Nat} {S : Mem} {P : Nat → Pg} (h : RC S P) {p : Nat} (hp : p < 40) : f_X0_countOf g S (nI p) = some (nI (P p).2.1.length) := by
  unfold f_X0_countOf
  rw [cisP g S hp, bdS, if_neg (by decide), gdI hp (by decide), nI_clamp (by omega), (h p hp).2.1]
theorem c_next {g : Nat} {S : Mem} {P : Nat → Pg} (h : RC S P) {p : Nat} (hp : p < 40) : f_X0_leafAfter g S (nI p) = some (P p).2.2 := by
  unfold f_X0_leafAfter
  rw [cisP g S hp, bdS, if_neg (by decide), gdI hp (by decide), nI_clamp (by omega), (h p hp).2.2.1]
theorem Rp.i5 {f : Nat → Nat → Int32} {ak az ai ao an : Nat} {P : Nat → Pg} (h : Rp f ak az ai ao an P) {p i : Nat} {e : Int32 × Int32} (hp : p < 40) (he : (P p).2.1[i]? = some e) : i < 5 := by
  have h1 := (List.getElem?_eq_some_iff.mp he).1
  have h2 := (h p hp).2.2.2.1
  omega
theorem c_key {g : Nat} {S : Mem} {P : Nat → Pg} (h : RC S P) {p i : Nat} {e : Int32 × Int32} (hp : p < 40) (he : (P p).2.1[i]? = some e) : f_X0_keyAt g S (nI p) (nI i) = some e.1 := by
  rw [c_keyR g S hp (h.i5 hp he), ((h p hp).2.2.2.2 i e he).1]
theorem c_sec {g : Nat} {S : Mem} {P : Nat → Pg} (h : RC S P) {p i : Nat} {e : Int32 × Int32} (hp : p < 40) (he : (P p).2.1[i]? = some e) : f_X0_secondAt g S (nI p) (nI i) = some e.2 := by
  rw [c_secR g S hp (h.i5 hp he), ((h p hp).2.2.2.2 i e he).2]
theorem getX (X Y : List (Int32 × Int32)) (z : Int32 × Int32) : (X ++ z :: Y)[X.length]? = some z := by simp
theorem c_setN {g : Nat} {S : Mem} {P : Nat → Pg} (h : RC S P) {p : Nat} (v : Int32) (hp : p < 40) : ∃ S', f_X0_setLeafAfter g S (nI p) v = some S' ∧ RC S' (sp P p ((P p).1, (P p).2.1, v)) ∧ smX [4] S S' := by
  refine ⟨up S 4 p v, ?_, ?_, smX.rf.up _ _ (by decide)⟩
  · unfold f_X0_setLeafAfter
    rw [cisP g S hp, bdS, if_neg (by decide), gdI hp (by decide), nI_clamp (by omega)]
  · refine Rp.kn h hp (fun q => ?_) (fun q => ?_) (upN _ _ _ (by decide)) (upN _ _ _ (by decide)) (upN _ _ _ (by decide))
    · rw [upN _ _ _ (by decide)]
      by_cases e : q = p
      · rw [if_pos e, e]; exact (h p hp).1
      · rw [if_neg e]
    · rw [upA]; simp
theorem c_setK {g : Nat} {S : Mem} {P : Nat → Pg} (h : RC S P) {p : Nat} {X Y : List (Int32 × Int32)} {m v : Int32} (k : Int32) (hp : p < 40) (hl : (P p).2.1 = X ++ (m, v) :: Y) : ∃ S', f_X0_setKey g S (nI p) (nI X.length) k = some S' ∧ RC S' (sp P p ((P p).1, X ++ (k, v) :: Y, (P p).2.2)) ∧ smX [5] S S' := by
  have h5 : X.length < 5 := h.i5 hp (show (P p).2.1[X.length]? = some (m, v) by rw [hl]; exact getX _ _ _)
  refine ⟨_, c_stkR g S k hp h5, ?_, smX.rf.up _ _ (by decide)⟩
  exact Rp.key h hp hl (upN _ _ _ (by decide)) (upN _ _ _ (by decide)) (upN _ _ _ (by decide)) (fun c => by rw [upA]; simp) (upN _ _ _ (by decide))
theorem c_setI {g : Nat} {S : Mem} {P : Nat → Pg} (h : RC S P) {p : Nat} {X Y : List (Int32 × Int32)} {m v : Int32} (w : Int32) (hp : p < 40) (hl : (P p).2.1 = X ++ (m, v) :: Y) : ∃ S', f_X0_setItem g S (nI p) (nI X.length) m w = some S' ∧ RC S' (sp P p ((P p).1, X ++ (m, w) :: Y, (P p).2.2)) ∧ smX [5, 6] S S' := by
  have h5 : X.length < 5 := h.i5 hp (show (P p).2.1[X.length]? = some (m, v) by rw [hl]; exact getX _ _ _)
  refine ⟨_, c_stiR g S m w hp h5, ?_, (smX.rf.up _ _ (by decide)).up _ _ (by decide)⟩
  refine Rp.val h hp hl ?_ ?_ ?_ ?_ (fun c => by rw [upA]; simp only [upA]; simp)
  · rw [upN _ _ _ (by decide), upN _ _ _ (by decide)]
  · rw [upN _ _ _ (by decide), upN _ _ _ (by decide)]
  · rw [upN _ _ _ (by decide), upN _ _ _ (by decide)]
  · rw [upN _ _ _ (by decide)]
    funext c
    rw [upA]
    by_cases e : c = 5 * p + X.length
    · rw [if_pos ⟨rfl, e⟩, e]
      exact ((h p hp).2.2.2.2 X.length (m, v) (by rw [hl]; exact getX _ _ _)).1.symm
    · rw [if_neg (fun q => e q.2)]
theorem c_insL {g p a : Nat} (hp : p < 40) {w3 w4 w5 : Int32} {kx : Mem → Option Mem} : ∀ (k i n : Nat) (S : Mem), i = a + k → i < 5 → k < n → ∃ S', f_X0_insert_36 g (nI p) (nI a) w3 w4 w5 kx n S (nI i) = kx S' ∧ smX [5, 6] S S' ∧ (∀ c, S'.1 5 c = if 5 * p + a < c ∧ c ≤ 5 * p + i then S.1 5 (c - 1) else S.1 5 c) ∧ (∀ c, S'.1 6 c = if 5 * p + a < c ∧ c ≤ 5 * p + i then S.1 6 (c - 1) else S.1 6 c) := by
  intro k
  induction k with
  | zero =>
    intro i n S hi h5 hn
    obtain ⟨n, rfl⟩ : ∃ m, n = m + 1 := ⟨n - 1, by omega⟩
    refine ⟨S, by rw [f_X0_insert_36, if_pos (nI_leN (by omega) (by omega) (by omega))], smX.rf, fun c => ?_, fun c => ?_⟩
    · rw [if_neg (by omega)]
    · rw [if_neg (by omega)]
  | succ k ih =>
    intro i n S hi h5 hn
    obtain ⟨n, rfl⟩ : ∃ m, n = m + 1 := ⟨n - 1, by omega⟩
    obtain ⟨j, rfl⟩ : ∃ j, i = j + 1 := ⟨i - 1, by omega⟩
    obtain ⟨S', a1, a2, a3, a4⟩ := ih j n (up (up S 5 (5 * p + (j + 1)) (S.1 5 (5 * p + j))) 6 (5 * p + (j + 1)) (S.1 6 (5 * p + j))) (by omega) (by omega) (by omega)
    refine ⟨S', ?_, ((smX.rf.up _ _ (by decide)).up _ _ (by decide)).tr a2, fun c => ?_, fun c => ?_⟩
    · rw [f_X0_insert_36, if_neg (nI_nleN (by omega) (by omega) (by omega)), nI_pred, c_keyR g S hp (by omega), bdS, c_secR g S hp (by omega), bdS, c_stiR g S _ _ hp h5, bdS, nI_dec]
      exact a1
    · rw [a3 c]
      simp only [upA]
      by_cases e1 : 5 * p + a < c ∧ c ≤ 5 * p + j
      · rw [if_pos e1, if_pos (show 5 * p + a < c ∧ c ≤ 5 * p + (j + 1) by omega)]
        simp
        intro q; omega
      · rw [if_neg e1]
        by_cases e2 : c = 5 * p + (j + 1)
        · rw [if_pos (show 5 * p + a < c ∧ c ≤ 5 * p + (j + 1) by omega)]
          simp [e2]
        · rw [if_neg (show ¬ (5 * p + a < c ∧ c ≤ 5 * p + (j + 1)) by omega)]
          simp [e2]
    · rw [a4 c]
      simp only [upA]
      by_cases e1 : 5 * p + a < c ∧ c ≤ 5 * p + j
      · rw [if_pos e1, if_pos (show 5 * p + a < c ∧ c ≤ 5 * p + (j + 1) by omega)]
        simp
        intro q; omega
      · rw [if_neg e1]
        by_cases e2 : c = 5 * p + (j + 1)
        · rw [if_pos (show 5 * p + a < c ∧ c ≤ 5 * p + (j + 1) by omega)]
          simp [e2]
        · rw [if_neg (show ¬ (5 * p + a < c ∧ c ≤ 5 * p + (j + 1)) by omega)]
          simp [e2]
theorem c_ins {g : Nat} (hg : 30 < g) {S : Mem} {P : Nat → Pg} (h : RC S P) {p : Nat} {X Y : List (Int32 × Int32)} (k v : Int32) (hp : p < 40) (hl : (P p).2.1 = X ++ Y) (h4 : X.length + Y.length < 5) : ∃ S', f_X0_insert g S (nI p) (nI X.length) k v = some S' ∧ RC S' (sp P p ((P p).1, X ++ (k, v) :: Y, (P p).2.2)) ∧ smX [3, 5, 6] S S' := by
  have hlen : (P p).2.1.length = X.length + Y.length := by rw [hl]; simp
  obtain ⟨S1, a1, a2, a3, a4⟩ := c_insL (g := g) (a := X.length) hp (w3 := k) (w4 := v) (w5 := nI (X.length + Y.length)) (kx := fun (S16 : Mem) => bd (f_X0_setItem g S16 (nI p) (nI X.length) k v) (fun S18 => gd (ix_in (nI p) 40) (some (up S18 3 (nI p).toNatClampNeg (nI (X.length + Y.length) + 1))))) Y.length (X.length + Y.length) g S rfl h4 (by omega)
  refine ⟨up (up (up S1 5 (5 * p + X.length) k) 6 (5 * p + X.length) v) 3 p (nI (X.length + Y.length + 1)), ?_, ?_, (((a2.wk (by simp)).up _ _ (by decide)).up _ _ (by decide)).up _ _ (by decide)⟩
  · unfold f_X0_insert
    rw [c_count h hp, bdS, cisP g S hp, bdS, if_neg (by decide), hlen, if_neg (nle5 h4), if_neg (nI_nneg (by omega)), if_pos (nI_leN (by omega) (by omega) (by omega)), a1]
    show bd (f_X0_setItem g S1 (nI p) (nI X.length) k v) _ = _
    rw [c_stiR g S1 k v hp (by omega), bdS, gdI hp (by decide), nI_clamp (by omega), nI_1]
  · refine Rp.ins h hp hl h4 ?_ ?_ (fun q => ?_) (fun c => ?_) (fun c => ?_)
    · rw [upN _ _ _ (by decide), upN _ _ _ (by decide), upN _ _ _ (by decide), a2.2 2 (by decide)]
    · rw [upN _ _ _ (by decide), upN _ _ _ (by decide), upN _ _ _ (by decide), a2.2 4 (by decide)]
    · simp only [upA, a2.2 3 (by decide)]; simp
    · simp only [upA, a3]; simp
    · simp only [upA, a4]; simp
theorem c_delL {g p z : Nat} (hp : p < 40) {kx : Mem → Option Mem} : ∀ (k i n : Nat) (S : Mem), i + k + 1 = z → z ≤ 5 → k < n → ∃ S', f_X0_delete_27 g (nI p) (nI z) kx n S (nI i) = kx S' ∧ smX [5, 6] S S' ∧ (∀ c, S'.1 5 c = if 5 * p + i ≤ c ∧ c < 5 * p + (z - 1) then S.1 5 (c + 1) else S.1 5 c) ∧ (∀ c, S'.1 6 c = if 5 * p + i ≤ c ∧ c < 5 * p + (z - 1) then S.1 6 (c + 1) else S.1 6 c) := by
  intro k
  induction k with
  | zero =>
    intro i n S hi h5 hn
    obtain ⟨n, rfl⟩ : ∃ m, n = m + 1 := ⟨n - 1, by omega⟩
    refine ⟨S, by rw [f_X0_delete_27, nI_1, if_pos (nI_leN (by omega) (by omega) (by omega))], smX.rf, fun c => ?_, fun c => ?_⟩
    · rw [if_neg (by omega)]
    · rw [if_neg (by omega)]
  | succ k ih =>
    intro i n S hi h5 hn
    obtain ⟨n, rfl⟩ : ∃ m, n = m + 1 := ⟨n - 1, by omega⟩
    obtain ⟨S', a1, a2, a3, a4⟩ := ih (i + 1) n (up (up S 5 (5 * p + i) (S.1 5 (5 * p + (i + 1)))) 6 (5 * p + i) (S.1 6 (5 * p + (i + 1)))) (by omega) (by omega) (by omega)
    refine ⟨S', ?_, ((smX.rf.up _ _ (by decide)).up _ _ (by decide)).tr a2, fun c => ?_, fun c => ?_⟩
    · rw [f_X0_delete_27, nI_1, if_neg (nI_nleN (by omega) (by omega) (by omega)), c_keyR g S hp (by omega), bdS, c_secR g S hp (by omega), bdS, c_stiR g S _ _ hp (by omega), bdS]
      exact a1
    · rw [a3 c]
      simp only [upA]
      by_cases e1 : 5 * p + (i + 1) ≤ c ∧ c < 5 * p + (z - 1)
      · rw [if_pos e1, if_pos (show 5 * p + i ≤ c ∧ c < 5 * p + (z - 1) by omega)]
        simp
        intro q; omega
      · rw [if_neg e1]
        by_cases e2 : c = 5 * p + i
        · rw [if_pos (show 5 * p + i ≤ c ∧ c < 5 * p + (z - 1) by omega)]
          simp [e2]; rfl
        · rw [if_neg (show ¬ (5 * p + i ≤ c ∧ c < 5 * p + (z - 1)) by omega)]
          simp [e2]
    · rw [a4 c]
      simp only [upA]
      by_cases e1 : 5 * p + (i + 1) ≤ c ∧ c < 5 * p + (z - 1)
      · rw [if_pos e1, if_pos (show 5 * p + i ≤ c ∧ c < 5 * p + (z - 1) by omega)]
        simp
        intro q; omega
      · rw [if_neg e1]
        by_cases e2 : c = 5 * p + i
        · rw [if_pos (show 5 * p + i ≤ c ∧ c < 5 * p + (z - 1) by omega)]
          simp [e2]; rfl
        · rw [if_neg (show ¬ (5 * p + i ≤ c ∧ c < 5 * p + (z - 1)) by omega)]
          simp [e2]
theorem c_del {g : Nat} (hg : 30 < g) {S : Mem} {P : Nat → Pg} (h : RC S P) {p : Nat} {X Y : List (Int32 × Int32)} {z : Int32 × Int32} (hp : p < 40) (hl : (P p).2.1 = X ++ z :: Y) : ∃ S', f_X0_delete g S (nI p) (nI X.length) = some S' ∧ RC S' (sp P p ((P p).1, X ++ Y, (P p).2.2)) ∧ smX [3, 5, 6] S S' := by
  have hlen : (P p).2.1.length = X.length + Y.length + 1 := by rw [hl]; simp; omega
  have h5 := (h p hp).2.2.2.1
  obtain ⟨S1, a1, a2, a3, a4⟩ := c_delL (g := g) (z := X.length + Y.length + 1) hp (kx := fun (S15 : Mem) => gd (ix_in (nI p) 40) (some (up S15 3 (nI p).toNatClampNeg (nI (X.length + Y.length + 1) - 1)))) Y.length X.length g S rfl (by omega) (by omega)
  refine ⟨up S1 3 p (nI (X.length + Y.length)), ?_, ?_, (a2.wk (by simp)).up _ _ (by decide)⟩
  · unfold f_X0_delete
    rw [c_count h hp, bdS, cisP g S hp, bdS, if_neg (by decide), hlen, if_neg (nI_nneg (by omega)), if_pos (nI_ltN (by omega) (by omega) (by omega)), a1, gdI hp (by decide), nI_clamp (by omega), nI_pred]
  · refine Rp.del h hp hl ?_ ?_ (fun q => ?_) (fun c => ?_) (fun c => ?_)
    · rw [upN _ _ _ (by decide), a2.2 2 (by decide)]
    · rw [upN _ _ _ (by decide), a2.2 4 (by decide)]
    · simp only [upA, a2.2 3 (by decide)]; simp
    · simp only [upA, a3]; simp
    · simp only [upA, a4]; simp
