/-! plain facts: numbers, memories -/
theorem upA (S : Mem) (k i : Nat) (v : Int32) (k2 j : Nat) : (up S k i v).1 k2 j = if k2 = k ∧ j = i then v else S.1 k2 j := by
  unfold up
  by_cases h1 : k2 = k
  · subst h1
    simp [upd]
  · simp [h1]
theorem upN (S : Mem) {k k2 : Nat} (i : Nat) (v : Int32) (h : k2 ≠ k) : (up S k i v).1 k2 = S.1 k2 := by
  unfold up
  simp [h]
theorem up2 (S : Mem) (k i : Nat) (v : Int32) : (up S k i v).2 = S.2 := rfl
theorem ixn {i n : Nat} (h : i < n) (hn : n < 2 ^ 31) : ix_in (nI i) n := vp_in_nI h hn
theorem nI_m1 {q : Nat} (h : q < 2 ^ 31) : nI q ≠ -1 := by
  intro e
  have h1 := congrArg Int32.toInt e
  rw [nI_toInt h] at h1
  have h2 : (-1 : Int32).toInt = -1 := by decide
  omega
theorem nI_inj {a b : Nat} (ha : a < 2 ^ 31) (hb : b < 2 ^ 31) (h : nI a = nI b) : a = b := (nI_eq ha hb).mp h
theorem nI_lit (n : Nat) : (OfNat.ofNat n : Int32) = nI n := rfl
theorem le_l {a : Int32} (n : Nat) {i : Nat} (ha : a = nI n) (hn : n < 2 ^ 31) (hi : i < 2 ^ 31) : a ≤ nI i ↔ n ≤ i := by subst ha; exact nI_leI hn hi
theorem lt_l {a : Int32} (n : Nat) {i : Nat} (ha : a = nI n) (hn : n < 2 ^ 31) (hi : i < 2 ^ 31) : a < nI i ↔ n < i := by subst ha; exact nI_ltI hn hi
theorem le_r {a : Int32} (n : Nat) {i : Nat} (ha : a = nI n) (hn : n < 2 ^ 31) (hi : i < 2 ^ 31) : nI i ≤ a ↔ i ≤ n := by subst ha; exact nI_leI hi hn
theorem lt_r {a : Int32} (n : Nat) {i : Nat} (ha : a = nI n) (hn : n < 2 ^ 31) (hi : i < 2 ^ 31) : nI i < a ↔ i < n := by subst ha; exact nI_ltI hi hn
theorem eq_l {a : Int32} (n : Nat) {i : Nat} (ha : a = nI n) (hn : n < 2 ^ 31) (hi : i < 2 ^ 31) : nI i = a ↔ i = n := by subst ha; exact nI_eq hi hn
theorem le5 {i : Nat} (h : 5 ≤ i) (hi : i < 2 ^ 31) : (5 : Int32) ≤ nI i := (le_l (a := 5) 5 rfl (by decide) hi).mpr h
theorem nle5 {i : Nat} (h : i < 5) : ¬ (5 : Int32) ≤ nI i := fun q => by have := (le_l (a := 5) (i := i) 5 rfl (by decide) (by omega)).mp q; omega
theorem le12 {i : Nat} (h : 12 ≤ i) (hi : i < 2 ^ 31) : (12 : Int32) ≤ nI i := (le_l (a := 12) 12 rfl (by decide) hi).mpr h
theorem nle12 {i : Nat} (h : i < 12) : ¬ (12 : Int32) ≤ nI i := fun q => by have := (le_l (a := 12) (i := i) 12 rfl (by decide) (by omega)).mp q; omega
theorem le24 {i : Nat} (h : 24 ≤ i) (hi : i < 2 ^ 31) : (24 : Int32) ≤ nI i := (le_l (a := 24) 24 rfl (by decide) hi).mpr h
theorem nle24 {i : Nat} (h : i < 24) : ¬ (24 : Int32) ≤ nI i := fun q => by have := (le_l (a := 24) (i := i) 24 rfl (by decide) (by omega)).mp q; omega
theorem le40 {i : Nat} (h : 40 ≤ i) (hi : i < 2 ^ 31) : (40 : Int32) ≤ nI i := (le_l (a := 40) 40 rfl (by decide) hi).mpr h
theorem nle40 {i : Nat} (h : i < 40) : ¬ (40 : Int32) ≤ nI i := fun q => by have := (le_l (a := 40) (i := i) 40 rfl (by decide) (by omega)).mp q; omega
theorem nI_nneg {i : Nat} (hi : i < 2 ^ 31) : ¬ nI i < 0 := nI_pos hi
theorem m1_neg : (-1 : Int32) < 0 := by decide
theorem m1_ne0 : ¬ (-1 : Int32) = 0 := by decide
theorem gdT {α : Type} {b : Prop} [Decidable b] {y : Option α} (h : b) : gd b y = y := if_pos h
theorem gdI {α : Type} {i n : Nat} {y : Option α} (h : i < n) (hn : n < 2 ^ 31) : gd (ix_in (nI i) n) y = y := gdT (ixn h hn)
theorem bdS {α β : Type} (a : α) (k : α → Option β) : bd (some a) k = k a := rfl
theorem bd2S {α β γ : Type} (a : α) (c : γ) (k : α → γ → Option β) : bd2 (some (a, c)) k = k a c := rfl
theorem fm_dec : ∀ a, a < 40 → (0 : Int32) ≤ (nI a ^^^ 12) ∧ nI a - nI a / 12 * 12 = nI (a % 12) := by decide +kernel
theorem fm_ok (g : Nat) (S : Mem) {a : Nat} (h : a < 40) : f_J9_floorMod_7cf53 g S (nI a) 12 = some (nI (a % 12)) := by
  obtain ⟨h1, h2⟩ := fm_dec a h
  unfold f_J9_floorMod_7cf53
  rw [gdT (by decide), if_pos h1, h2]
/-- the same arrays but those of a list -/
def smX (l : List Nat) (S T : Mem) : Prop := T.2 = S.2 ∧ ∀ k, k ∉ l → T.1 k = S.1 k
theorem smX.rf {l : List Nat} {S : Mem} : smX l S S := ⟨rfl, fun _ _ => rfl⟩
theorem smX.tr {l : List Nat} {S T U : Mem} (h1 : smX l S T) (h2 : smX l T U) : smX l S U := ⟨h2.1.trans h1.1, fun k hk => (h2.2 k hk).trans (h1.2 k hk)⟩
theorem smX.wk {l l2 : List Nat} {S T : Mem} (h1 : smX l S T) (h : ∀ k, k ∈ l → k ∈ l2) : smX l2 S T := ⟨h1.1, fun k hk => h1.2 k (fun q => hk (h k q))⟩
theorem smX.up {l : List Nat} {S T : Mem} (h1 : smX l S T) {k : Nat} (i : Nat) (v : Int32) (h : k ∈ l) : smX l S (up T k i v) := ⟨h1.1, fun j hj => (upN T i v (fun e => hj (by rw [e]; exact h))).trans (h1.2 j hj)⟩
/-! frames: the class's and the reference's, side by side -/
def FI (S : Mem) (pl : List Nat) : Prop :=
  (∀ i, i < 12 → S.1 8 i = -1 ∨ ∃ q, q < 40 ∧ S.1 8 i = nI q) ∧
  (∀ i j, i < 12 → j < 12 → S.1 8 i = S.1 8 j → S.1 8 i ≠ -1 → i = j) ∧
  (∀ i, i < 12 → iz (S.1 9 i) ∧ iz (S.1 10 i) ∧ iz (S.1 11 i)) ∧
  (∃ h, h < 12 ∧ S.1 7 4 = nI h) ∧
  (∀ i, i < 12 → S.1 11 i ≠ 0 → ∃ q, q ∈ pl ∧ S.1 8 i = nI q) ∧
  (∀ q, q ∈ pl → q < 40 ∧ ∃ i, i < 12 ∧ S.1 8 i = nI q ∧ S.1 11 i = 1)
/-- the dirty bits agree, but where the reference has marked a page of D already -/
def Dq (D : List Nat) (S R : Mem) (i : Nat) : Prop := (∀ q, q ∈ D → S.1 8 i = nI q → S.1 11 i = 1 ∧ R.1 10 i = 1) ∧ ((∀ q, q ∈ D → S.1 8 i ≠ nI q) → R.1 10 i = S.1 10 i)
theorem Dq.agr {D : List Nat} {S R : Mem} {i : Nat} (h : Dq D S R i) (h0 : S.1 11 i = 0) : R.1 10 i = S.1 10 i := h.2 (fun q a b => absurd ((h.1 q a b).1.symm.trans h0) (by decide))
theorem Dq.cong {D : List Nat} {S R S' R' : Mem} {i : Nat} (h : Dq D S R i) (e8 : S'.1 8 i = S.1 8 i) (e11 : S'.1 11 i = S.1 11 i) (e10 : S'.1 10 i = S.1 10 i) (f10 : R'.1 10 i = R.1 10 i) : Dq D S' R' i := by
  unfold Dq
  rw [e8, e11, e10, f10]
  exact h
def FM (D : List Nat) (S R : Mem) : Prop := (∀ i, i < 12 → R.1 8 i = S.1 8 i ∧ R.1 9 i = S.1 9 i ∧ Dq D S R i ∧ R.1 11 i = S.1 11 i) ∧ R.1 0 15 = S.1 7 4 ∧ R.1 0 16 = S.1 7 5 ∧ R.1 0 17 = S.1 7 6 ∧ R.1 0 18 = S.1 7 7
/-- frameOf, the class's: the first place -/
theorem c_fo {g : Nat} {S : Mem} {v : Int32} (hv : v ≠ -1) : ∀ (k i n : Nat), i + k = 12 → k < n → (∀ t, t < 12 → i ≤ t → S.1 8 t = v → (∀ j, i ≤ j → j < t → S.1 8 j ≠ v) → f_X1_frameOf_2 g S v n (nI i) = some (nI t)) ∧ ((∀ j, i ≤ j → j < 12 → S.1 8 j ≠ v) → f_X1_frameOf_2 g S v n (nI i) = some (-1)) := by
  intro k
  induction k with
  | zero =>
    intro i n hi hn
    obtain ⟨n, rfl⟩ : ∃ m, n = m + 1 := ⟨n - 1, by omega⟩
    refine ⟨fun t h1 h2 => absurd h2 (by omega), fun _ => ?_⟩
    rw [f_X1_frameOf_2, if_pos (le12 (by omega) (by omega))]
  | succ k ih =>
    intro i n hi hn
    obtain ⟨n, rfl⟩ : ∃ m, n = m + 1 := ⟨n - 1, by omega⟩
    have st : f_X1_frameOf_2 g S v (n + 1) (nI i) = if S.1 8 i = v then some (nI i) else f_X1_frameOf_2 g S v n (nI (i + 1)) := by
      rw [f_X1_frameOf_2, if_neg (nle12 (by omega)), if_neg hv, gdI (by omega) (by decide), nI_clamp (by omega), nI_1]
    obtain ⟨a1, a2⟩ := ih (i + 1) n (by omega) (by omega)
    refine ⟨fun t h1 h2 h3 h4 => ?_, fun h => ?_⟩
    · rw [st]
      by_cases e : t = i
      · subst e
        rw [if_pos h3]
      · rw [if_neg (h4 i (Nat.le_refl _) (by omega))]
        exact a1 t h1 (by omega) h3 (fun j hj1 hj2 => h4 j (by omega) hj2)
    · rw [st, if_neg (h i (Nat.le_refl _) (by omega))]
      exact a2 (fun j h1 h2 => h j (by omega) h2)
theorem c_foY {g : Nat} (hg : 12 < g) {S : Mem} {v : Int32} (hv : v ≠ -1) {t : Nat} (ht : t < 12) (h : S.1 8 t = v) (hu : ∀ j, j < 12 → S.1 8 j = v → j = t) : f_X1_frameOf g S v = some (nI t) := (c_fo hv 12 0 g rfl hg).1 t ht (Nat.zero_le _) h (fun j _ hj e => by have := hu j (by omega) e; omega)
theorem c_foN {g : Nat} (hg : 12 < g) {S : Mem} {v : Int32} (hv : v ≠ -1) (h : ∀ j, j < 12 → S.1 8 j ≠ v) : f_X1_frameOf g S v = some (-1) := (c_fo hv 12 0 g rfl hg).2 (fun j _ hj => h j hj)
/-- frameOf, the reference's: the last place -/
theorem m_fo {g : Nat} {R : Mem} {v : Int32} : ∀ (k i n : Nat) (w : Int32), i + k = 12 → k < n → (∀ t, t < 12 → i ≤ t → R.1 8 t = v → (∀ j, j < 12 → R.1 8 j = v → j = t) → f_X5_frameOf_4 g R v n w (nI i) = some (nI t)) ∧ ((∀ j, i ≤ j → j < 12 → R.1 8 j ≠ v) → f_X5_frameOf_4 g R v n w (nI i) = some w) := by
  intro k
  induction k with
  | zero =>
    intro i n w hi hn
    obtain ⟨n, rfl⟩ : ∃ m, n = m + 1 := ⟨n - 1, by omega⟩
    refine ⟨fun t h1 h2 => absurd h2 (by omega), fun _ => ?_⟩
    rw [f_X5_frameOf_4, if_pos (le12 (by omega) (by omega))]
  | succ k ih =>
    intro i n w hi hn
    obtain ⟨n, rfl⟩ : ∃ m, n = m + 1 := ⟨n - 1, by omega⟩
    have st : f_X5_frameOf_4 g R v (n + 1) w (nI i) = if R.1 8 i = v then f_X5_frameOf_4 g R v n (nI i) (nI (i + 1)) else f_X5_frameOf_4 g R v n w (nI (i + 1)) := by
      rw [f_X5_frameOf_4, if_neg (nle12 (by omega)), gdI (by omega) (by decide), nI_clamp (by omega), nI_1]
    refine ⟨fun t h1 h2 h3 h4 => ?_, fun h => ?_⟩
    · rw [st]
      by_cases e : t = i
      · subst e
        rw [if_pos h3]
        refine (ih (t + 1) n _ (by omega) (by omega)).2 (fun j h5 h6 h7 => ?_)
        have := h4 j h6 h7
        omega
      · rw [if_neg (fun q => e (h4 i (by omega) q).symm)]
        exact (ih (i + 1) n w (by omega) (by omega)).1 t h1 (by omega) h3 h4
    · rw [st, if_neg (h i (Nat.le_refl _) (by omega))]
      exact (ih (i + 1) n w (by omega) (by omega)).2 (fun j h1 h2 => h j (by omega) h2)
theorem m_foY {g : Nat} (hg : 12 < g) {R : Mem} {v : Int32} {t : Nat} (ht : t < 12) (h : R.1 8 t = v) (hu : ∀ j, j < 12 → R.1 8 j = v → j = t) : f_X5_frameOf g R v = some (nI t) := (m_fo 12 0 g (-1) rfl hg).1 t ht (Nat.zero_le _) h hu
theorem m_foN {g : Nat} (hg : 12 < g) {R : Mem} {v : Int32} (h : ∀ j, j < 12 → R.1 8 j ≠ v) : f_X5_frameOf g R v = some (-1) := (m_fo 12 0 g (-1) rfl hg).2 (fun j _ hj => h j hj)
