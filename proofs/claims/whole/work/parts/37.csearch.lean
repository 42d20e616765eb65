theorem c_movL {g a b st cnt bh : Nat} (ha : a < 40) (hb : b < 40) (hab : a ≠ b) (hc5 : cnt ≤ 5) (hb5 : bh + (cnt - st) ≤ 5) {kx : Mem → Option Mem} : ∀ (k i n : Nat) (S : Mem), i + k = cnt → st ≤ i → k < n → ∃ S', f_X0_moveItems_55 g (nI a) (nI st) (nI b) (nI cnt) (nI bh) kx n S (nI i) = kx S' ∧ smX [5, 6] S S' ∧ (∀ c, S'.1 5 c = if 5 * b + bh + (i - st) ≤ c ∧ c < 5 * b + bh + (cnt - st) then S.1 5 (5 * a + st + (c - (5 * b + bh))) else S.1 5 c) ∧ (∀ c, S'.1 6 c = if 5 * b + bh + (i - st) ≤ c ∧ c < 5 * b + bh + (cnt - st) then S.1 6 (5 * a + st + (c - (5 * b + bh))) else S.1 6 c) := by
  intro k
  induction k with
  | zero =>
    intro i n S hi hs hn
    obtain ⟨n, rfl⟩ : ∃ m, n = m + 1 := ⟨n - 1, by omega⟩
    refine ⟨S, by rw [f_X0_moveItems_55, if_pos (nI_leN (by omega) (by omega) (by omega))], smX.rf, fun c => ?_, fun c => ?_⟩
    · rw [if_neg (by omega)]
    · rw [if_neg (by omega)]
  | succ k ih =>
    intro i n S hi hs hn
    obtain ⟨n, rfl⟩ : ∃ m, n = m + 1 := ⟨n - 1, by omega⟩
    obtain ⟨S', a1, a2, a3, a4⟩ := ih (i + 1) n (up (up S 5 (5 * b + (bh + i - st)) (S.1 5 (5 * a + i))) 6 (5 * b + (bh + i - st)) (S.1 6 (5 * a + i))) (by omega) (by omega) (by omega)
    refine ⟨S', ?_, ((smX.rf.up _ _ (by decide)).up _ _ (by decide)).tr a2, fun c => ?_, fun c => ?_⟩
    · rw [f_X0_moveItems_55, if_neg (nI_nleN (by omega) (by omega) (by omega)), c_keyR g S ha (by omega), bdS, c_secR g S ha (by omega), bdS, nI_add, nI_sub (by omega), c_stiR g S _ _ hb (by omega), bdS, nI_1]
      exact a1
    · rw [a3 c]
      simp only [upA]
      by_cases e1 : 5 * b + bh + (i + 1 - st) ≤ c ∧ c < 5 * b + bh + (cnt - st)
      · rw [if_pos e1, if_pos (show 5 * b + bh + (i - st) ≤ c ∧ c < 5 * b + bh + (cnt - st) by omega)]
        simp
        intro q; omega
      · rw [if_neg e1]
        by_cases e2 : c = 5 * b + (bh + i - st)
        · rw [if_pos (show 5 * b + bh + (i - st) ≤ c ∧ c < 5 * b + bh + (cnt - st) by omega)]
          rw [if_neg (by simp), if_pos ⟨trivial, e2⟩, show 5 * a + st + (c - (5 * b + bh)) = 5 * a + i by omega]
        · rw [if_neg (show ¬ (5 * b + bh + (i - st) ≤ c ∧ c < 5 * b + bh + (cnt - st)) by omega)]
          simp [e2]
    · rw [a4 c]
      simp only [upA]
      by_cases e1 : 5 * b + bh + (i + 1 - st) ≤ c ∧ c < 5 * b + bh + (cnt - st)
      · rw [if_pos e1, if_pos (show 5 * b + bh + (i - st) ≤ c ∧ c < 5 * b + bh + (cnt - st) by omega)]
        simp
        intro q; omega
      · rw [if_neg e1]
        by_cases e2 : c = 5 * b + (bh + i - st)
        · rw [if_pos (show 5 * b + bh + (i - st) ≤ c ∧ c < 5 * b + bh + (cnt - st) by omega)]
          rw [if_pos ⟨trivial, e2⟩, show 5 * a + st + (c - (5 * b + bh)) = 5 * a + i by omega]
        · rw [if_neg (show ¬ (5 * b + bh + (i - st) ≤ c ∧ c < 5 * b + bh + (cnt - st)) by omega)]
          simp [e2]
theorem c_mov {g : Nat} (hg : 30 < g) {S : Mem} {P : Nat → Pg} (h : RC S P) {a b : Nat} {X Y Z : List (Int32 × Int32)} (ha : a < 40) (hb : b < 40) (hab : a ≠ b) (hl : (P a).2.1 = X ++ Y) (hz : (P b).2.1 = Z) (h5 : Z.length + Y.length ≤ 5) : ∃ S', f_X0_moveItems g S (nI a) (nI X.length) (nI b) = some S' ∧ RC S' (sp (sp P a ((P a).1, X, (P a).2.2)) b ((P b).1, Z ++ Y, (P b).2.2)) ∧ smX [3, 5, 6] S S' := by
  have hla : (P a).2.1.length = X.length + Y.length := by rw [hl]; simp
  have hlb : (P b).2.1.length = Z.length := by rw [hz]
  have ha5 := (h a ha).2.2.2.1
  obtain ⟨S1, a1, a2, a3, a4⟩ := c_movL (g := g) (st := X.length) (cnt := X.length + Y.length) (bh := Z.length) ha hb hab (by omega) (by omega) (kx := fun (S21 : Mem) => gd (ix_in (nI a) 40) (gd (ix_in (nI b) 40) (some (up (up S21 3 (nI a).toNatClampNeg (nI X.length)) 3 (nI b).toNatClampNeg (nI (Z.length + Y.length)))))) Y.length X.length g S rfl (Nat.le_refl _) (by omega)
  refine ⟨up (up S1 3 a (nI X.length)) 3 b (nI (Z.length + Y.length)), ?_, ?_, ((a2.wk (by simp)).up _ _ (by decide)).up _ _ (by decide)⟩
  · unfold f_X0_moveItems
    rw [c_count h ha, bdS, c_count h hb, bdS, cisP g S ha, bdS, if_neg (by decide), cisP g S hb, bdS, if_neg (by decide), if_neg (nI_nneg (by omega)), hla, if_neg (nI_nltN (by omega) (by omega) (by omega)), hlb, nI_add, nI_sub (by omega), show Z.length + (X.length + Y.length) - X.length = Z.length + Y.length by omega, if_pos ((le_r (a := 5) 5 rfl (by decide) (by omega)).mpr h5)]
    exact a1.trans (by simp only [gdI ha (show 40 < 2 ^ 31 by decide), gdI hb (show 40 < 2 ^ 31 by decide), nI_clamp (show a < 2 ^ 31 by omega), nI_clamp (show b < 2 ^ 31 by omega)])
  · have h1 : RC (up S 3 a (nI X.length)) (sp P a ((P a).1, X, (P a).2.2)) := Rp.cut h ha hl (upN _ _ _ (by decide)) (upN _ _ _ (by decide)) (fun q => by rw [upA]; simp) (upN _ _ _ (by decide)) (upN _ _ _ (by decide))
    obtain ⟨u1, u2, u3, u4, u5⟩ := h b hb
    obtain ⟨v1, v2, v3, v4, v5⟩ := h a ha
    refine Rp.set h1 (fun q e => ?_) (fun q e => ?_) (fun q e => ?_) (fun c hc => ?_) ?_ ?_ ?_ ?_ (fun i e he => ?_)
    · rw [upN _ _ _ (by decide), upN _ _ _ (by decide), upN _ _ _ (by decide), a2.2 2 (by decide)]
    · simp only [upA, a2.2 3 (by decide)]; simp [e]
    · rw [upN _ _ _ (by decide), upN _ _ _ (by decide), upN _ _ _ (by decide), a2.2 4 (by decide)]
    · rw [upN _ _ _ (by decide), upN _ _ _ (by decide), upN _ _ _ (by decide), upN _ _ _ (by decide), upN _ _ _ (by decide), upN _ _ _ (by decide), a3, a4, if_neg (by omega), if_neg (by omega)]
      exact ⟨rfl, rfl⟩
    · rw [upN _ _ _ (by decide), upN _ _ _ (by decide), a2.2 2 (by decide)]; exact u1
    · simp only [upA]; simp
    · rw [upN _ _ _ (by decide), upN _ _ _ (by decide), a2.2 4 (by decide)]; exact u3
    · simp; omega
    · rw [upN _ _ _ (by decide), upN _ _ _ (by decide), upN _ _ _ (by decide), upN _ _ _ (by decide), a3, a4]
      simp only at he
      have hlt := (List.getElem?_eq_some_iff.mp he).1
      simp only [List.length_append] at hlt
      by_cases e1 : i < Z.length
      · rw [List.getElem?_append_left e1] at he
        rw [if_neg (by omega), if_neg (by omega)]
        exact u5 i e (by rw [hz]; exact he)
      · rw [List.getElem?_append_right (by omega)] at he
        rw [if_pos (by omega), if_pos (by omega), show 5 * a + X.length + (5 * b + i - (5 * b + Z.length)) = 5 * a + (X.length + (i - Z.length)) by omega]
        exact v5 _ e (by rw [hl, List.getElem?_append_right (by omega), show X.length + (i - Z.length) - X.length = i - Z.length by omega]; exact he)
theorem c_allot {g : Nat} {S : Mem} {P : Nat → Pg} (h : RC S P) {p : Nat} (k : Int32) (hp : p < 40) : ∃ S', f_X0_allot g S (nI p) k = some S' ∧ RC S' (sp P p (k, [], -1)) ∧ smX [2, 3, 4] S S' := by
  refine ⟨up (up (up S 2 p k) 3 p 0) 4 p (-1), ?_, ?_, ((smX.rf.up _ _ (by decide)).up _ _ (by decide)).up _ _ (by decide)⟩
  · unfold f_X0_allot
    rw [cisP g S hp, bdS, if_neg (by decide)]
    simp only [gdI hp (show 40 < 2 ^ 31 by decide), nI_clamp (show p < 2 ^ 31 by omega)]
  · refine Rp.emp h (fun q => ?_) (fun q => ?_) (fun q => ?_) ?_ ?_
    · simp only [upA]; simp
    · simp only [upA]; simp
    · simp only [upA]; simp
    · rw [upN _ _ _ (by decide), upN _ _ _ (by decide), upN _ _ _ (by decide)]
    · rw [upN _ _ _ (by decide), upN _ _ _ (by decide), upN _ _ _ (by decide)]
/-- the least page that is free -/
def Lf (P : Nat → Pg) (q : Nat) : Prop := q < 40 ∧ (P q).1 = 0 ∧ ∀ j, j < q → (P j).1 ≠ 0
theorem c_lfL {g : Nat} {S : Mem} {P : Nat → Pg} (h : RC S P) {q : Nat} (hq : Lf P q) : ∀ (k i n : Nat), i + k = q → k < n → f_X0_leastFree_2 g S n (nI i) = some (nI q) := by
  intro k
  induction k with
  | zero =>
    intro i n hi hn
    obtain ⟨n, rfl⟩ : ∃ m, n = m + 1 := ⟨n - 1, by omega⟩
    have : i = q := by omega
    subst this
    rw [f_X0_leastFree_2, if_neg (nle40 hq.1), c_kind h hq.1, bdS, hq.2.1, if_pos rfl]
  | succ k ih =>
    intro i n hi hn
    obtain ⟨n, rfl⟩ : ∃ m, n = m + 1 := ⟨n - 1, by omega⟩
    have := hq.1
    rw [f_X0_leastFree_2, if_neg (nle40 (by omega)), c_kind h (show i < 40 by omega), bdS, if_neg (hq.2.2 i (by omega)), nI_1]
    exact ih (i + 1) n (by omega) (by omega)
theorem c_lf {g : Nat} (hg : 50 < g) {S : Mem} {P : Nat → Pg} (h : RC S P) {q : Nat} (hq : Lf P q) : f_X0_leastFree g S = some (nI q) := c_lfL h hq q 0 g (by omega) (by have := hq.1; omega)
def fre (P : Nat → Pg) (k i : Nat) : Nat := cn (fun p => decide ((P p).1 = 0)) k i
theorem c_cfL {g : Nat} {S : Mem} {P : Nat → Pg} (h : RC S P) : ∀ (k i n a : Nat), i + k = 40 → k < n → f_X0_countFree_4 g S n (nI a) (nI i) = some (nI (a + fre P k i)) := by
  intro k
  induction k with
  | zero =>
    intro i n a hi hn
    obtain ⟨n, rfl⟩ : ∃ m, n = m + 1 := ⟨n - 1, by omega⟩
    rw [f_X0_countFree_4, if_pos (le40 (by omega) (by omega))]; rfl
  | succ k ih =>
    intro i n a hi hn
    obtain ⟨n, rfl⟩ : ∃ m, n = m + 1 := ⟨n - 1, by omega⟩
    rw [f_X0_countFree_4, if_neg (nle40 (by omega)), c_kind h (show i < 40 by omega), bdS, nI_1, nI_1]
    unfold fre at ih ⊢
    rw [cn]
    by_cases e : (P i).1 = 0
    · rw [if_pos e, ih (i + 1) n (a + 1) (by omega) (by omega)]
      simp [e]
      congr 1; omega
    · rw [if_neg e, ih (i + 1) n a (by omega) (by omega)]
      simp [e]
theorem c_cf {g : Nat} (hg : 50 < g) {S : Mem} {P : Nat → Pg} (h : RC S P) : f_X0_countFree g S = some (nI (fre P 40 0)) := by
  have := c_cfL (g := g) h 40 0 g 0 rfl (by omega)
  rw [Nat.zero_add] at this
  exact this
/-- the place of the least key that is not below one -/
def plc (key : Int32) : List (Int32 × Int32) → Nat
  | [] => 0
  | e :: r => if e.1 < key then plc key r + 1 else 0
theorem plc_le (key : Int32) : ∀ l, plc key l ≤ l.length := by
  intro l
  induction l with
  | nil => exact Nat.le_refl _
  | cons e r ih =>
    rw [plc]
    split
    · simp; omega
    · simp
theorem c_plL {g : Nat} {S : Mem} {P : Nat → Pg} (h : RC S P) {p : Nat} {key : Int32} (hp : p < 40) : ∀ (Y X : List (Int32 × Int32)) (n : Nat), (P p).2.1 = X ++ Y → Y.length < n → f_X0_placeOf_9 g S (nI p) key (nI (P p).2.1.length) n (nI X.length) = some (nI (X.length + plc key Y)) := by
  intro Y
  induction Y with
  | nil =>
    intro X n hl hn
    obtain ⟨n, rfl⟩ : ∃ m, n = m + 1 := ⟨n - 1, by omega⟩
    have := (h p hp).2.2.2.1
    have e : (P p).2.1.length = X.length := by rw [hl]; simp
    rw [f_X0_placeOf_9, e, if_pos (nI_leN (by omega) (by omega) (by omega))]; rfl
  | cons y Y ih =>
    intro X n hl hn
    obtain ⟨n, rfl⟩ : ∃ m, n = m + 1 := ⟨n - 1, by omega⟩
    have := (h p hp).2.2.2.1
    have e : (P p).2.1.length = X.length + Y.length + 1 := by rw [hl]; simp; omega
    simp at hn
    rw [f_X0_placeOf_9, if_neg (nI_nleN (by omega) (by omega) (by omega)), c_key h hp (show (P p).2.1[X.length]? = some y by rw [hl]; exact getX _ _ _), bdS, plc]
    by_cases q : y.1 < key
    · rw [if_pos q, if_pos q, nI_1]
      have := ih (X ++ [y]) n (by rw [hl]; simp) (by omega)
      simp only [List.length_append, List.length_cons, List.length_nil] at this
      rw [show X.length + (0 + 1) = X.length + 1 by omega] at this
      rw [this]
      congr 2; omega
    · rw [if_neg q, if_neg q]; rfl
theorem c_pl {g : Nat} (hg : 30 < g) {S : Mem} {P : Nat → Pg} (h : RC S P) {p : Nat} (key : Int32) (hp : p < 40) : f_X0_placeOf g S (nI p) key = some (nI (plc key (P p).2.1)) := by
  unfold f_X0_placeOf
  rw [c_count h hp, bdS]
  have h5 := (h p hp).2.2.2.1
  have := c_plL (g := g) (key := key) h hp (P p).2.1 [] g rfl (by omega)
  rw [List.length_nil, Nat.zero_add] at this
  exact this
def hasB (l : List (Int32 × Int32)) (i : Nat) (key : Int32) : Bool := match l[i]? with
  | some e => decide (e.1 = key)
  | none => false
theorem c_has {g : Nat} {S : Mem} {P : Nat → Pg} (h : RC S P) {p i : Nat} (key : Int32) (hp : p < 40) (hi : i ≤ (P p).2.1.length) : f_X0_hasKey g S (nI p) (nI i) key = some (if hasB (P p).2.1 i key = true then 1 else 0) := by
  unfold f_X0_hasKey hasB
  have h5 := (h p hp).2.2.2.1
  rw [c_count h hp, bdS]
  by_cases e : i = (P p).2.1.length
  · rw [if_pos (nI_leN (by omega) (by omega) (by omega)), List.getElem?_eq_none (by omega)]; simp
  · rw [if_neg (nI_nleN (by omega) (by omega) (by omega))]
    obtain ⟨z, hz⟩ : ∃ z, (P p).2.1[i]? = some z := ⟨_, List.getElem?_eq_getElem (by omega)⟩
    rw [c_key h hp hz, bdS, hz]
    simp
    by_cases q : z.1 = key
    · rw [if_pos q, if_pos q]
    · rw [if_neg q, if_neg q]
/-- the child for a key -/
def chq (key : Int32) (l : List (Int32 × Int32)) : Nat → Nat
  | 0 => 0
  | n + 1 => match l[n + 1]? with
    | some e => if key < e.1 then chq key l n else n + 1
    | none => chq key l n
theorem chq_le (key : Int32) (l : List (Int32 × Int32)) : ∀ n, chq key l n ≤ n := by
  intro n
  induction n with
  | zero => exact Nat.le_refl _
  | succ n ih =>
    rw [chq]
    split
    · split <;> omega
    · omega
theorem c_chL {g : Nat} {S : Mem} {P : Nat → Pg} (h : RC S P) {p : Nat} {key : Int32} (hp : p < 40) : ∀ (k n : Nat), k < (P p).2.1.length → k < n → f_X0_childPlaceFor_8 g S (nI p) key n (nI k) = some (nI (chq key (P p).2.1 k)) := by
  intro k
  induction k with
  | zero =>
    intro n hk hn
    obtain ⟨n, rfl⟩ : ∃ m, n = m + 1 := ⟨n - 1, by omega⟩
    rw [f_X0_childPlaceFor_8, if_pos (by decide)]; rfl
  | succ k ih =>
    intro n hk hn
    obtain ⟨n, rfl⟩ : ∃ m, n = m + 1 := ⟨n - 1, by omega⟩
    have h5 := (h p hp).2.2.2.1
    obtain ⟨z, hz⟩ : ∃ z, (P p).2.1[k + 1]? = some z := ⟨_, List.getElem?_eq_getElem (by omega)⟩
    rw [f_X0_childPlaceFor_8, if_neg (nI_nle (by omega) (by omega)), c_key h hp hz, bdS, chq, hz, nI_dec, ih n (by omega) (by omega)]
    simp only
    by_cases q : key < z.1
    · rw [if_pos q, if_pos q]
    · rw [if_neg q, if_neg q]
theorem c_ch {g : Nat} (hg : 30 < g) {S : Mem} {P : Nat → Pg} (h : RC S P) {p : Nat} (key : Int32) (hp : p < 40) (h1 : 1 ≤ (P p).2.1.length) : f_X0_childPlaceFor g S (nI p) key = some (nI (chq key (P p).2.1 ((P p).2.1.length - 1))) := by
  unfold f_X0_childPlaceFor
  have h5 := (h p hp).2.2.2.1
  rw [c_count h hp, bdS, nI_s1 h1]
  exact c_chL h hp _ g (by omega) (by omega)
