/-! frames: the rest -/
theorem FM.d0 {S R : Mem} (h : FM [] S R) {i : Nat} (hi : i < 12) : R.1 10 i = S.1 10 i := (h.1 i hi).2.2.1.2 (fun q hq => absurd hq (by simp))
theorem FI.un {S : Mem} {pl : List Nat} {t j p : Nat} (hF : FI S pl) (ht : t < 12) (h8 : S.1 8 t = nI p) (hp : p < 40) (hj : j < 12) (e : S.1 8 j = nI p) : j = t := hF.2.1 j t hj ht (e.trans h8.symm) (by rw [e]; exact nI_m1 (by omega))
theorem soil_ok {g : Nat} (hg : 30 < g) {S : Mem} {pl : List Nat} {p t : Nat} (hF : FI S pl) (hp : p < 40) (ht : t < 12) (h8 : S.1 8 t = nI p) : f_X1_soil g S (nI p) = some (up S 10 t 1) := by
  unfold f_X1_soil
  rw [c_foY (by omega) (nI_m1 (by omega)) ht h8 (fun j hj e => hF.un ht h8 hp hj e), bdS]
  unfold f_X1_isFrame
  rw [if_neg (nI_nneg (by omega)), if_neg (nle12 ht), bdS, if_neg (by decide), gdI ht (by decide), nI_clamp (by omega)]
theorem chg_ok {g : Nat} (hg : 30 < g) {S R : Mem} {pl : List Nat} {p t : Nat} (hF : FI S pl) (hM : ∀ i, i < 12 → R.1 8 i = S.1 8 i) (hp : p < 40) (ht : t < 12) (h8 : S.1 8 t = nI p) : f_X5_change g R (nI p) = some (up R 10 t 1) := by
  unfold f_X5_change
  rw [m_foY (by omega) ht ((hM t ht).trans h8) (fun j hj e => hF.un ht h8 hp hj ((hM j hj).symm.trans e)), bdS, gdI ht (by decide), nI_clamp (by omega)]
theorem FI.d1 {S : Mem} {pl : List Nat} (hF : FI S pl) (t : Nat) : FI (up S 10 t 1) pl := by
  obtain ⟨f1, f2, f3, f4, f5, f6⟩ := hF
  unfold FI
  simp only [upN S t 1 (by decide : (8 : Nat) ≠ 10), upN S t 1 (by decide : (9 : Nat) ≠ 10), upN S t 1 (by decide : (11 : Nat) ≠ 10), upN S t 1 (by decide : (7 : Nat) ≠ 10)]
  refine ⟨f1, f2, fun i hi => ⟨(f3 i hi).1, ?_, (f3 i hi).2.2⟩, f4, f5, f6⟩
  rw [upA]
  by_cases e : i = t
  · rw [if_pos ⟨rfl, e⟩]; exact Or.inr rfl
  · rw [if_neg (fun q => e q.2)]; exact (f3 i hi).2.1
theorem FM.chg {S R : Mem} {pl D : List Nat} {p t : Nat} (hF : FI S pl) (hM : FM D S R) (hp : p < 40) (ht : t < 12) (h8 : S.1 8 t = nI p) (h11 : S.1 11 t = 1) : FM (p :: D) S (up R 10 t 1) := by
  obtain ⟨m1, m2⟩ := hM
  refine ⟨fun i hi => ?_, by simpa only [upN R t 1 (by decide : (0 : Nat) ≠ 10)] using m2⟩
  obtain ⟨a, b, c, d⟩ := m1 i hi
  simp only [upN R t 1 (by decide : (8 : Nat) ≠ 10), upN R t 1 (by decide : (9 : Nat) ≠ 10), upN R t 1 (by decide : (11 : Nat) ≠ 10)]
  refine ⟨a, b, ⟨fun q hq e => ?_, fun hq => ?_⟩, d⟩
  · rcases List.mem_cons.mp hq with rfl | hq
    · have := hF.un ht h8 hp hi e
      subst this
      exact ⟨h11, by rw [upA, if_pos ⟨rfl, rfl⟩]⟩
    · obtain ⟨c1, c2⟩ := c.1 q hq e
      refine ⟨c1, ?_⟩
      rw [upA]
      by_cases e : i = t
      · rw [if_pos ⟨rfl, e⟩]
      · rw [if_neg (fun q => e q.2)]; exact c2
  · have : i ≠ t := fun e => hq p List.mem_cons_self (by rw [e]; exact h8)
    rw [upA, if_neg (fun q => this q.2)]
    exact c.2 (fun q hq2 => hq q (List.mem_cons_of_mem _ hq2))
theorem FM.soil {S R : Mem} {pl D D' : List Nat} {p t : Nat} (hF : FI S pl) (hM : FM D S R) (hp : p < 40) (ht : t < 12) (h8 : S.1 8 t = nI p) (h0 : p ∈ D) (h1 : ∀ q, q ∈ D → q = p ∨ q ∈ D') (h2 : ∀ q, q ∈ D' → q ∈ D) : FM D' (up S 10 t 1) R := by
  obtain ⟨m1, m2⟩ := hM
  refine ⟨fun i hi => ?_, by simpa only [upN S t 1 (by decide : (7 : Nat) ≠ 10)] using m2⟩
  obtain ⟨a, b, c, d⟩ := m1 i hi
  unfold Dq
  simp only [upN S t 1 (by decide : (8 : Nat) ≠ 10), upN S t 1 (by decide : (9 : Nat) ≠ 10), upN S t 1 (by decide : (11 : Nat) ≠ 10)]
  refine ⟨a, b, ⟨fun q hq e => c.1 q (h2 q hq) e, fun hq => ?_⟩, d⟩
  rw [upA]
  by_cases e : i = t
  · rw [if_pos ⟨rfl, e⟩]
    exact (c.1 p h0 (by rw [e]; exact h8)).2
  · rw [if_neg (fun q => e q.2)]
    refine c.2 (fun q hq2 e2 => ?_)
    rcases h1 q hq2 with rfl | h3
    · exact e (hF.un ht h8 hp hi e2)
    · exact hq q h3 e2
theorem chgE {g : Nat} (hg : 30 < g) {S R : Mem} {pl D : List Nat} {p : Nat} (hF : FI S pl) (hM : FM D S R) (hp : p ∈ pl) : ∃ R', f_X5_change g R (nI p) = some R' ∧ FM (p :: D) S R' ∧ smX [10] R R' := by
  obtain ⟨h40, t, ht, h8, h11⟩ := hF.2.2.2.2.2 p hp
  exact ⟨_, chg_ok hg hF (fun i hi => (hM.1 i hi).1) h40 ht h8, hM.chg hF h40 ht h8 h11, smX.rf.up _ _ (by decide)⟩
theorem soilE {g : Nat} (hg : 30 < g) {S R : Mem} {pl D : List Nat} (D' : List Nat) {p : Nat} (hF : FI S pl) (hM : FM D S R) (hp : p ∈ pl) (h0 : p ∈ D) (h1 : ∀ q, q ∈ D → q = p ∨ q ∈ D') (h2 : ∀ q, q ∈ D' → q ∈ D) : ∃ S', f_X1_soil g S (nI p) = some S' ∧ FI S' pl ∧ FM D' S' R ∧ smX [10] S S' := by
  obtain ⟨h40, t, ht, h8, h11⟩ := hF.2.2.2.2.2 p hp
  exact ⟨_, soil_ok hg hF h40 ht h8, hF.d1 t, hM.soil hF h40 ht h8 h0 h1 h2, smX.rf.up _ _ (by decide)⟩
/-- three pages are marked, in both -/
theorem soil3E {g : Nat} (hg : 30 < g) {S R : Mem} {pl D : List Nat} {a b c : Nat} (hF : FI S pl) (hM : FM D S R) (ha : a ∈ pl) (hb : b ∈ pl) (hc : c ∈ pl) (hD : ∀ q, q ∈ D ↔ q = a ∨ q = b ∨ q = c) : ∃ S', f_X4_soilThree g S (nI a) (nI b) (nI c) = some S' ∧ FI S' pl ∧ FM [] S' R ∧ smX [10] S S' := by
  have hM' : FM [a, b, c] S R := by
    refine ⟨fun i hi => ?_, hM.2⟩
    obtain ⟨x1, x2, x3, x4⟩ := hM.1 i hi
    exact ⟨x1, x2, ⟨fun q hq => x3.1 q ((hD q).mpr (by simpa using hq)), fun h => x3.2 (fun q hq => h q (by have := (hD q).mp hq; simpa using this))⟩, x4⟩
  obtain ⟨S1, a1, a2, a3, a4⟩ := soilE hg [b, c] hF hM' (p := a) ha (by simp) (by simp) (by simp)
  obtain ⟨S2, b1, b2, b3, b4⟩ := soilE hg [c] a2 a3 (p := b) hb (by simp) (by simp) (by simp)
  obtain ⟨S3, c1, c2, c3, c4⟩ := soilE hg [] b2 b3 (p := c) hc (by simp) (by simp) (by simp)
  refine ⟨S3, ?_, c2, c3, (a4.tr b4).tr c4⟩
  unfold f_X4_soilThree
  rw [a1, bdS, b1, bdS, c1, bdS]
def clr (S : Mem) (t : Nat) : Mem := up (up (up (up S 8 t (-1)) 9 t 0) 10 t 0) 11 t 0
theorem clr_ok {g : Nat} (hg : 30 < g) {S : Mem} {pl : List Nat} {p t : Nat} (hF : FI S pl) (hp : p < 40) (ht : t < 12) (h8 : S.1 8 t = nI p) : f_X1_clearPage g S (nI p) = some (clr S t) := by
  unfold f_X1_clearPage
  rw [c_foY (by omega) (nI_m1 (by omega)) ht h8 (fun j hj e => hF.un ht h8 hp hj e), bdS]
  unfold f_X1_clear
  rw [if_neg (nI_nneg (by omega)), if_neg (nle12 ht)]
  simp only [gdI ht (show 12 < 2 ^ 31 by decide), nI_clamp (show t < 2 ^ 31 by omega), bdS]
  rfl
theorem rel_ok {g : Nat} (hg : 30 < g) {S R : Mem} {pl : List Nat} {p t : Nat} (hF : FI S pl) (hM : ∀ i, i < 12 → R.1 8 i = S.1 8 i) (hp : p < 40) (ht : t < 12) (h8 : S.1 8 t = nI p) : f_X5_release g R (nI p) = some (up (up (up (clr R t) 1 p 0) 2 p 0) 5 p (-1)) := by
  unfold f_X5_release
  rw [m_foY (by omega) ht ((hM t ht).trans h8) (fun j hj e => hF.un ht h8 hp hj ((hM j hj).symm.trans e)), bdS]
  simp only [jn1]
  rw [if_neg (nI_nneg (by omega))]
  simp only [gdI ht (show 12 < 2 ^ 31 by decide), gdI hp (show 40 < 2 ^ 31 by decide), nI_clamp (show t < 2 ^ 31 by omega), nI_clamp (show p < 2 ^ 31 by omega)]
  rfl
theorem clr8 (S : Mem) (t i : Nat) : (clr S t).1 8 i = if i = t then -1 else S.1 8 i := by unfold clr; simp only [upA]; simp
theorem clr9 (S : Mem) (t i : Nat) : (clr S t).1 9 i = if i = t then 0 else S.1 9 i := by unfold clr; simp only [upA]; simp
theorem clr10 (S : Mem) (t i : Nat) : (clr S t).1 10 i = if i = t then 0 else S.1 10 i := by unfold clr; simp only [upA]; simp
theorem clr11 (S : Mem) (t i : Nat) : (clr S t).1 11 i = if i = t then 0 else S.1 11 i := by unfold clr; simp only [upA]; simp
theorem clrS (S : Mem) (t : Nat) : smX [8, 9, 10, 11] S (clr S t) := (((smX.rf.up _ _ (by decide)).up _ _ (by decide)).up _ _ (by decide)).up _ _ (by decide)
theorem FI.clr {S : Mem} {pl : List Nat} {p t : Nat} (hF : FI S pl) (hp : p < 40) (ht : t < 12) (h8 : S.1 8 t = nI p) : FI (clr S t) (pl.filter (fun q => decide (q ≠ p))) := by
  have hun := fun j (hj : j < 12) (e : S.1 8 j = nI p) => hF.un ht h8 hp hj e
  obtain ⟨f1, f2, f3, f4, f5, f6⟩ := hF
  unfold FI
  simp only [clr8, clr9, clr10, clr11, (clrS S t).2 7 (by decide)]
  refine ⟨fun i hi => ?_, fun i j hi hj e1 e2 => ?_, fun i hi => ?_, f4, fun i hi e => ?_, fun q hq => ?_⟩
  · by_cases e : i = t
    · rw [if_pos e]; exact Or.inl rfl
    · rw [if_neg e]; exact f1 i hi
  · by_cases e : i = t
    · rw [if_pos e] at e2; exact absurd rfl e2
    · rw [if_neg e] at e1 e2
      by_cases e' : j = t
      · rw [if_pos e'] at e1; exact absurd e1 e2
      · rw [if_neg e'] at e1; exact f2 i j hi hj e1 e2
  · by_cases e : i = t
    · simp only [if_pos e]; exact ⟨Or.inl rfl, Or.inl rfl, Or.inl rfl⟩
    · simp only [if_neg e]; exact f3 i hi
  · by_cases e1 : i = t
    · rw [if_pos e1] at e; exact absurd rfl e
    · rw [if_neg e1] at e
      obtain ⟨q, a, b⟩ := f5 i hi e
      refine ⟨q, List.mem_filter.mpr ⟨a, ?_⟩, by rw [if_neg e1]; exact b⟩
      simp
      intro e2
      subst e2
      exact e1 (hun i hi b)
  · obtain ⟨hq1, hq2⟩ := List.mem_filter.mp hq
    simp at hq2
    obtain ⟨a, i, b, c, d⟩ := f6 q hq1
    have e1 : i ≠ t := fun e => by
      subst e
      rw [h8] at c
      exact hq2 (nI_inj (by omega) (by omega) c).symm
    exact ⟨a, i, b, by rw [if_neg e1]; exact c, by rw [if_neg e1]; exact d⟩
theorem FM.clr {S R : Mem} {t : Nat} (hM : FM [] S R) : FM [] (clr S t) (clr R t) := by
  refine ⟨fun i hi => ?_, by simpa only [(clrS S t).2 7 (by decide), (clrS R t).2 0 (by decide)] using hM.2⟩
  obtain ⟨a, b, c, d⟩ := hM.1 i hi
  have c' := hM.d0 hi
  unfold Dq
  simp only [clr8, clr9, clr10, clr11, a, b, c', d]
  exact ⟨trivial, trivial, ⟨fun q hq => absurd hq (by simp), fun _ => trivial⟩, trivial⟩
/-- unpin -/
theorem unp {g : Nat} : ∀ (k i n : Nat) (S : Mem), i + k = 12 → k < n → ∃ S', f_X1_unpinAll_2 g n S (nI i) = some S' ∧ smX [11] S S' ∧ ∀ j, S'.1 11 j = if i ≤ j ∧ j < 12 then 0 else S.1 11 j := by
  intro k
  induction k with
  | zero =>
    intro i n S hi hn
    obtain ⟨n, rfl⟩ : ∃ m, n = m + 1 := ⟨n - 1, by omega⟩
    refine ⟨S, by rw [f_X1_unpinAll_2, if_pos (le12 (by omega) (by omega))], smX.rf, fun j => ?_⟩
    rw [if_neg (by omega)]
  | succ k ih =>
    intro i n S hi hn
    obtain ⟨n, rfl⟩ : ∃ m, n = m + 1 := ⟨n - 1, by omega⟩
    obtain ⟨S', a, b, c⟩ := ih (i + 1) n (up S 11 i 0) (by omega) (by omega)
    refine ⟨S', ?_, (smX.rf.up _ _ (by decide)).tr b, fun j => ?_⟩
    · rw [f_X1_unpinAll_2, if_neg (nle12 (by omega)), gdI (by omega) (by decide), nI_clamp (by omega), nI_1]; exact a
    · rw [c j, upA]
      by_cases e : j = i
      · subst e; simp; omega
      · simp [e]
        by_cases q : i + 1 ≤ j ∧ j < 12
        · rw [if_pos q, if_pos (by omega)]
        · rw [if_neg q, if_neg (by omega)]
theorem unp_same {g : Nat} : ∀ (n : Nat) (S : Mem) (i : Int32), f_X5_unpin_2 g n S i = f_X1_unpinAll_2 g n S i := by
  intro n
  induction n with
  | zero => intro S i; rfl
  | succ n ih => intro S i; rw [f_X5_unpin_2, f_X1_unpinAll_2]; simp only [ih]
theorem unpinE {g : Nat} (hg : 30 < g) {S R : Mem} {pl : List Nat} (hF : FI S pl) (hM : FM [] S R) : ∃ S' R', f_X1_unpinAll g S = some S' ∧ f_X5_unpin g R = some R' ∧ FI S' [] ∧ FM [] S' R' ∧ smX [11] S S' ∧ smX [11] R R' := by
  obtain ⟨S', a1, a2, a3⟩ := unp (g := g) 12 0 g S rfl (by omega)
  obtain ⟨R', b1, b2, b3⟩ := unp (g := g) 12 0 g R rfl (by omega)
  refine ⟨S', R', a1, (unp_same g R 0).trans b1, ?_, ?_, a2, b2⟩
  · obtain ⟨f1, f2, f3, f4, f5, f6⟩ := hF
    unfold FI
    simp only [a2.2 8 (by decide), a2.2 9 (by decide), a2.2 10 (by decide), a2.2 7 (by decide)]
    refine ⟨f1, f2, fun i hi => ⟨(f3 i hi).1, (f3 i hi).2.1, ?_⟩, f4, fun i hi e => ?_, fun q hq => absurd hq (by simp)⟩
    · rw [a3, if_pos ⟨Nat.zero_le _, hi⟩]; exact Or.inl rfl
    · rw [a3, if_pos ⟨Nat.zero_le _, hi⟩] at e; exact absurd rfl e
  · refine ⟨fun i hi => ?_, by simpa only [a2.2 7 (by decide), b2.2 0 (by decide)] using hM.2⟩
    obtain ⟨a, b, c, d⟩ := hM.1 i hi
    have c' := hM.d0 hi
    unfold Dq
    rw [a2.2 8 (by decide), b2.2 8 (by decide), a2.2 9 (by decide), b2.2 9 (by decide), a2.2 10 (by decide), b2.2 10 (by decide), a3, b3, if_pos ⟨Nat.zero_le _, hi⟩, if_pos ⟨Nat.zero_le _, hi⟩]
    exact ⟨a, b, ⟨fun q hq => absurd hq (by simp), fun _ => c'⟩, rfl⟩
/-- how many places from i on, k of them, are so -/
def cn (b : Nat → Bool) : Nat → Nat → Nat
  | 0, _ => 0
  | k + 1, i => (if b i = true then 1 else 0) + cn b k (i + 1)
theorem cn_le (b : Nat → Bool) : ∀ k i, cn b k i ≤ k := by
  intro k
  induction k with
  | zero => intro i; exact Nat.le_refl _
  | succ k ih =>
    intro i
    have := ih (i + 1)
    rw [cn]
    split <;> omega
theorem cn_cong {b c : Nat → Bool} : ∀ k i, (∀ j, i ≤ j → j < i + k → b j = c j) → cn b k i = cn c k i := by
  intro k
  induction k with
  | zero => intro i _; rfl
  | succ k ih =>
    intro i h
    rw [cn, cn, h i (Nat.le_refl _) (by omega), ih (i + 1) (fun j h1 h2 => h j (by omega) (by omega))]
theorem cn_not (b : Nat → Bool) : ∀ k i, cn b k i + cn (fun j => !(b j)) k i = k := by
  intro k
  induction k with
  | zero => intro i; rfl
  | succ k ih =>
    intro i
    have := ih (i + 1)
    rw [cn, cn]
    cases b i <;> simp <;> omega
theorem cn_zero {b : Nat → Bool} : ∀ k i, cn b k i = 0 → ∀ j, i ≤ j → j < i + k → b j = false := by
  intro k
  induction k with
  | zero => intro i _ j h1 h2; omega
  | succ k ih =>
    intro i h j h1 h2
    rw [cn] at h
    by_cases e : j = i
    · subst e
      cases hb : b j with
      | false => rfl
      | true => rw [hb] at h; simp at h
    · exact ih (i + 1) (by omega) j (by omega) (by omega)
theorem cn_z {b : Nat → Bool} : ∀ k i, (∀ j, i ≤ j → j < i + k → b j = false) → cn b k i = 0 := by
  intro k
  induction k with
  | zero => intro i _; rfl
  | succ k ih =>
    intro i h
    rw [cn, h i (Nat.le_refl _) (by omega), ih (i + 1) (fun j h1 h2 => h j (by omega) (by omega))]
    rfl
/-- one place more -/
theorem cn_up {b c : Nat → Bool} {p : Nat} (hb : b p = true) (hc : c p = false) (h : ∀ j, j ≠ p → b j = c j) : ∀ k i, i ≤ p → p < i + k → cn b k i = cn c k i + 1 := by
  intro k
  induction k with
  | zero => intro i h1 h2; omega
  | succ k ih =>
    intro i h1 h2
    by_cases e : i = p
    · subst e
      rw [cn, cn, hb, hc, cn_cong k (i + 1) (fun j h3 _ => h j (by omega))]
      simp; omega
    · rw [cn, cn, h i e, ih (i + 1) (by omega) (by omega)]
      omega
theorem lgd {n : Nat} (h : n < 2 ^ 31) : nI n ≤ 0 ↔ n = 0 := by
  rw [le_r (a := 0) 0 rfl (by decide) h]; omega
theorem cdirty {g : Nat} {S : Mem} : ∀ (k i n a : Nat), i + k = 12 → k < n → f_X1_countDirty_4 g S n (nI a) (nI i) = some (nI (a + cn (fun j => decide (S.1 10 j ≠ 0)) k i)) := by
  intro k
  induction k with
  | zero =>
    intro i n a hi hn
    obtain ⟨n, rfl⟩ : ∃ m, n = m + 1 := ⟨n - 1, by omega⟩
    rw [f_X1_countDirty_4, if_pos (le12 (by omega) (by omega))]; rfl
  | succ k ih =>
    intro i n a hi hn
    obtain ⟨n, rfl⟩ : ∃ m, n = m + 1 := ⟨n - 1, by omega⟩
    rw [f_X1_countDirty_4, if_neg (nle12 (by omega)), gdI (by omega) (by decide), nI_clamp (by omega), nI_1, nI_1, cn]
    by_cases e : S.1 10 i = 0
    · rw [if_pos e, ih (i + 1) n a (by omega) (by omega)]
      simp [e]
    · rw [if_neg e, ih (i + 1) n (a + 1) (by omega) (by omega)]
      simp [e]
      congr 1; omega
theorem wdirty {g : Nat} {w : Int32} {kx : Mem → Option (Int32 × Mem)} : ∀ (k i n : Nat) (S : Mem), i + k = 12 → k < n → ∃ S', f_X1_writeDirty_7 g w kx n S (nI i) = kx S' ∧ smX [10] S S' ∧ ∀ j, S'.1 10 j = if i ≤ j ∧ j < 12 then 0 else S.1 10 j := by
  intro k
  induction k with
  | zero =>
    intro i n S hi hn
    obtain ⟨n, rfl⟩ : ∃ m, n = m + 1 := ⟨n - 1, by omega⟩
    refine ⟨S, by rw [f_X1_writeDirty_7, if_pos (le12 (by omega) (by omega))], smX.rf, fun j => ?_⟩
    rw [if_neg (by omega)]
  | succ k ih =>
    intro i n S hi hn
    obtain ⟨n, rfl⟩ : ∃ m, n = m + 1 := ⟨n - 1, by omega⟩
    obtain ⟨S', a, b, c⟩ := ih (i + 1) n (up S 10 i 0) (by omega) (by omega)
    refine ⟨S', ?_, (smX.rf.up _ _ (by decide)).tr b, fun j => ?_⟩
    · rw [f_X1_writeDirty_7, if_neg (nle12 (by omega)), gdI (by omega) (by decide), nI_clamp (by omega), nI_1]; exact a
    · rw [c j, upA]
      by_cases e : j = i
      · subst e; simp; omega
      · simp [e]
        by_cases q : i + 1 ≤ j ∧ j < 12
        · rw [if_pos q, if_pos (by omega)]
        · rw [if_neg q, if_neg (by omega)]
theorem mflush {g : Nat} {kx : Mem → Int32 → Option (Int32 × Mem)} : ∀ (k i n a : Nat) (S : Mem), i + k = 12 → k < n → ∃ S', f_X5_flush_9 g kx n S (nI a) (nI i) = kx S' (nI (a + cn (fun j => decide (S.1 10 j ≠ 0)) k i)) ∧ smX [10] S S' ∧ ∀ j, S'.1 10 j = if i ≤ j ∧ j < 12 then 0 else S.1 10 j := by
  intro k
  induction k with
  | zero =>
    intro i n a S hi hn
    obtain ⟨n, rfl⟩ : ∃ m, n = m + 1 := ⟨n - 1, by omega⟩
    refine ⟨S, by rw [f_X5_flush_9, if_pos (le12 (by omega) (by omega))]; rfl, smX.rf, fun j => ?_⟩
    rw [if_neg (by omega)]
  | succ k ih =>
    intro i n a S hi hn
    obtain ⟨n, rfl⟩ : ∃ m, n = m + 1 := ⟨n - 1, by omega⟩
    have hcg : cn (fun j => decide ((up S 10 i 0).1 10 j ≠ 0)) k (i + 1) = cn (fun j => decide (S.1 10 j ≠ 0)) k (i + 1) := cn_cong _ _ (fun j h1 h2 => by rw [upA, if_neg (by omega)])
    by_cases e : S.1 10 i = 0
    · obtain ⟨S', a1, b, c⟩ := ih (i + 1) n a (up S 10 i 0) (by omega) (by omega)
      refine ⟨S', ?_, (smX.rf.up _ _ (by decide)).tr b, fun j => ?_⟩
      · rw [f_X5_flush_9, if_neg (nle12 (by omega)), gdI (by omega) (by decide)]
        simp only [jn1, nI_clamp (show i < 2 ^ 31 by omega), nI_1]
        rw [if_pos e, gdI (by omega) (by decide), a1, hcg, cn]
        simp [e]
      · rw [c j, upA]
        by_cases e : j = i
        · subst e; simp; omega
        · simp [e]
          by_cases q : i + 1 ≤ j ∧ j < 12
          · rw [if_pos q, if_pos (by omega)]
          · rw [if_neg q, if_neg (by omega)]
    · obtain ⟨S', a1, b, c⟩ := ih (i + 1) n (a + 1) (up S 10 i 0) (by omega) (by omega)
      refine ⟨S', ?_, (smX.rf.up _ _ (by decide)).tr b, fun j => ?_⟩
      · rw [f_X5_flush_9, if_neg (nle12 (by omega)), gdI (by omega) (by decide)]
        simp only [jn1, nI_clamp (show i < 2 ^ 31 by omega), nI_1]
        rw [if_neg e, gdI (by omega) (by decide), a1, hcg, cn]
        simp [e]
        congr 2; omega
      · rw [c j, upA]
        by_cases e : j = i
        · subst e; simp; omega
        · simp [e]
          by_cases q : i + 1 ≤ j ∧ j < 12
          · rw [if_pos q, if_pos (by omega)]
          · rw [if_neg q, if_neg (by omega)]
