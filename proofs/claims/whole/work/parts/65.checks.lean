theorem c_hold {g : Nat} {S : Mem} {v : Int32} : ∀ (k i n a : Nat), i + k = 12 → k < n → f_X1_countHolding_4 g S v n (nI a) (nI i) = some (nI (a + cn (fun j => decide (S.1 8 j = v)) k i)) := by
  intro k
  induction k with
  | zero =>
    intro i n a hi hn
    obtain ⟨n, rfl⟩ : ∃ m, n = m + 1 := ⟨n - 1, by omega⟩
    rw [f_X1_countHolding_4, if_pos (le12 (by omega) (by omega))]; rfl
  | succ k ih =>
    intro i n a hi hn
    obtain ⟨n, rfl⟩ : ∃ m, n = m + 1 := ⟨n - 1, by omega⟩
    rw [f_X1_countHolding_4, if_neg (nle12 (by omega)), gdI (by omega) (by decide), nI_clamp (by omega), nI_1, nI_1, cn]
    by_cases e : S.1 8 i = v
    · rw [if_pos e, ih (i + 1) n (a + 1) (by omega) (by omega)]
      simp [e]
      congr 1; omega
    · rw [if_neg e, ih (i + 1) n a (by omega) (by omega)]
      simp [e]
theorem cn_le1 {b : Nat → Bool} : ∀ k i, (∀ x y, i ≤ x → x < i + k → i ≤ y → y < i + k → b x = true → b y = true → x = y) → cn b k i ≤ 1 := by
  intro k
  induction k with
  | zero => intro i _; simp [cn]
  | succ k ih =>
    intro i h
    rw [cn]
    cases hb : b i with
    | true =>
      have : cn b k (i + 1) = 0 := cn_z k (i + 1) (fun j h1 h2 => by
        cases hj : b j with
        | false => rfl
        | true =>
          have := h i j (Nat.le_refl _) (by omega) (by omega) (by omega) hb hj
          omega)
      rw [this]; simp
    | false =>
      have := ih (i + 1) (fun x y h1 h2 h3 h4 => h x y (by omega) (by omega) (by omega) (by omega))
      simp; exact this
theorem dueL {g : Nat} {S : Mem} {E : List Ent} (hB : BQ S E) (hnd : (E.map Prod.fst).Nodup) {p j : Nat} {e : Ent} (hj : E[j]? = some e) (hp : e.1 = p) : ∀ (k i n : Nat), i + k = j → k < n → f_X2_leafDueAfter_11 g S (nI p) (fun (v8 : Int32) => gd (ix_in (v8 + 1) 40) (some (S.1 16 (v8 + 1).toNatClampNeg))) n (nI i) = some (match E[j + 1]? with
    | some y => nI y.1
    | none => -1) := by
  have hjl := (List.getElem?_eq_some_iff.mp hj).1
  have h40 := hB.2.1
  intro k
  induction k with
  | zero =>
    intro i n hi hn
    obtain ⟨n, rfl⟩ : ∃ m, n = m + 1 := ⟨n - 1, by omega⟩
    have hij : i = j := by omega
    subst hij
    rw [f_X2_leafDueAfter_11, nI_1]
    by_cases hl : i + 1 < E.length
    · rw [if_neg (nle40 (by omega)), hB.1, if_neg (nI_nleN (by omega) (by omega) hl), gdI (by omega) (by decide), nI_clamp (show i < 2 ^ 31 by omega), hB.2.2.1 i e hj, hp, if_pos rfl]
      obtain ⟨y, hy⟩ : ∃ y, E[i + 1]? = some y := ⟨_, List.getElem?_eq_getElem hl⟩
      rw [hy]
      simp only
      rw [gdI (by omega) (by decide), nI_clamp (by omega), hB.2.2.1 (i + 1) y hy]
    · rw [List.getElem?_eq_none (by omega)]
      simp only
      by_cases h4 : 40 ≤ i + 1
      · rw [if_pos (le40 h4 (by omega))]
      · rw [if_neg (nle40 (by omega)), hB.1, if_pos (nI_leN (by omega) (by omega) (by omega))]
  | succ k ih =>
    intro i n hi hn
    obtain ⟨n, rfl⟩ : ∃ m, n = m + 1 := ⟨n - 1, by omega⟩
    obtain ⟨y, hy⟩ : ∃ y, E[i]? = some y := ⟨_, List.getElem?_eq_getElem (by omega)⟩
    have hyp : y.1 ≠ p := fun z => by
      have h1 : (E.map Prod.fst)[i]? = some y.1 := by rw [List.getElem?_map, hy]; rfl
      have h2 : (E.map Prod.fst)[j]? = some y.1 := by rw [List.getElem?_map, hj, z, ← hp]; rfl
      have := (List.getElem?_inj (by simp; omega) hnd).mp (h1.trans h2.symm)
      omega
    have hy40 : y.1 < 40 := hB.2.2.2.2.2 y (List.mem_of_getElem? hy)
    have hp40 : p < 40 := by rw [← hp]; exact hB.2.2.2.2.2 e (List.mem_of_getElem? hj)
    rw [f_X2_leafDueAfter_11, nI_1, if_neg (nle40 (by omega)), hB.1, if_neg (nI_nleN (by omega) (by omega) (by omega)), gdI (by omega) (by decide), nI_clamp (show i < 2 ^ 31 by omega), hB.2.2.1 i y hy, if_neg (fun z => hyp (nI_inj (by omega) (by omega) z))]
    exact ih (i + 1) n (by omega) (by omega)
theorem dueE {g : Nat} (hg : 50 < g) {P : Nat → Pg} {rt h : Nat} {L : Nat → Lev} (T : TI P rt h L) {S : Mem} (hR : RC S P) (hB : BQ S (Ep L (h + 1))) {p : Nat} (hp : p < 40) (h0 : (P p).1 ≠ 0) : f_X2_leafDueAfter g S (nI p) = some (P p).2.2 := by
  unfold f_X2_leafDueAfter
  rw [c_kind hR hp, bdS]
  obtain ⟨d, hd, lo, hm⟩ := T.2.2.2.2.2.2.2.2.2.1 p hp h0
  by_cases e : d = h
  · subst e
    have hk := T.2.2.2.1 _ hm
    simp only at hk
    rw [if_pos hk]
    obtain ⟨U, V, hL⟩ := List.append_of_mem hm
    have hc := T.2.2.2.2.2.1
    rw [hL, chn_app] at hc
    have hn := hc.2.1
    simp only at hn
    have hE : Ep L (d + 1) = (Ep L d ++ att (d + 1) U (hdl ((lo, p) :: V) 2147483648)) ++ (p, d + 1, lo, hdl V 2147483648) :: att (d + 1) V 2147483648 := by
      rw [Ep, hL, att_app, att, List.append_assoc]
    have hj : (Ep L (d + 1))[(Ep L d ++ att (d + 1) U (hdl ((lo, p) :: V) 2147483648)).length]? = some (p, d + 1, lo, hdl V 2147483648) := by
      rw [hE, List.getElem?_append_right (by omega)]; simp
    have hlen := (List.getElem?_eq_some_iff.mp hj).1
    have h40 := hB.2.1
    have hd2 := dueL (g := g) hB (Ep_nd T _ (Nat.le_refl _)) hj rfl _ 0 g (Nat.zero_add _) (by omega)
    have hnext : (match (Ep L (d + 1))[(Ep L d ++ att (d + 1) U (hdl ((lo, p) :: V) 2147483648)).length + 1]? with
        | some y => nI y.1
        | none => -1) = (P p).2.2 := by
      rw [hn, hE, List.getElem?_append_right (by omega), show (Ep L d ++ att (d + 1) U (hdl ((lo, p) :: V) 2147483648)).length + 1 - (Ep L d ++ att (d + 1) U (hdl ((lo, p) :: V) 2147483648)).length = 1 by omega, List.getElem?_cons_succ]
      cases V with
      | nil => rfl
      | cons y V => rfl
    rw [hnext] at hd2
    exact hd2
  · have hin := T.2.1 d (by omega) _ hm
    unfold inn at hin
    simp only at hin
    rw [if_neg (by rw [hin.1]; decide), hin.2.1]
theorem kidsL {g : Nat} {P : Nat → Pg} {S : Mem} (hR : RC S P) {p : Nat} (hp : p < 40) (hv : ∀ e, e ∈ (P p).2.1 → ∃ c, c < 40 ∧ e.2 = nI c ∧ (P c).1 ≠ 0) : ∀ (Y X : List It) (n : Nat), (P p).2.1 = X ++ Y → Y.length < n → f_X2_childrenArePages_11 g S (nI p) n (nI X.length) = some 1 := by
  have h5 := (hR p hp).2.2.2.1
  intro Y
  induction Y with
  | nil =>
    intro X n hl hn
    obtain ⟨n, rfl⟩ : ∃ m, n = m + 1 := ⟨n - 1, by omega⟩
    have e : (P p).2.1.length = X.length := by rw [hl]; simp
    rw [f_X2_childrenArePages_11, c_count hR hp, bdS, e, if_pos (nI_leN (by omega) (by omega) (by omega))]
  | cons z Y ih =>
    intro X n hl hn
    obtain ⟨n, rfl⟩ : ∃ m, n = m + 1 := ⟨n - 1, by omega⟩
    simp at hn
    have e : (P p).2.1.length = X.length + Y.length + 1 := by rw [hl]; simp; omega
    obtain ⟨c, hc, hzc, hc0⟩ := hv z (by rw [hl]; simp)
    have := ih (X ++ [z]) n (by rw [hl]; simp) (by omega)
    rw [List.length_append, List.length_singleton] at this
    rw [f_X2_childrenArePages_11, c_count hR hp, bdS, e, if_neg (nI_nleN (by omega) (by omega) (by omega)), c_sec hR hp (show (P p).2.1[X.length]? = some z by rw [hl]; exact getX _ _ _), bdS, hzc, c_kind hR hc, bdS, if_neg hc0, nI_1]
    exact this
theorem i64s (k : Int32) : (k.toInt64 + 1).toInt = k.toInt + 1 := by
  have h1 := Int32.le_toInt k
  have h2 := Int32.toInt_lt k
  have h3 := i64 k
  rw [Int64.toInt_add, h3]
  have h4 : (1 : Int64).toInt = 1 := by decide
  rw [h4]
  exact Int.bmod_eq_of_le (by omega) (by omega)
theorem keysL {g : Nat} {P : Nat → Pg} {S : Mem} (hR : RC S P) {p : Nat} {hi : Int} (hp : p < 40) (hhi : (S.2 20 p).toInt = hi) : ∀ (Y X : List It) (n : Nat) (least : Int64), (P p).2.1 = X ++ Y → (Y.map (fun e => e.1.toInt)).Pairwise (· < ·) → (∀ e, e ∈ Y → least.toInt ≤ e.1.toInt ∧ e.1.toInt < hi) → Y.length < n → f_X2_keysAreInPlace_38 g S (nI p) n least (nI X.length) = some 1 := by
  have h5 := (hR p hp).2.2.2.1
  intro Y
  induction Y with
  | nil =>
    intro X n least hl hpw hle hn
    obtain ⟨n, rfl⟩ : ∃ m, n = m + 1 := ⟨n - 1, by omega⟩
    have e : (P p).2.1.length = X.length := by rw [hl]; simp
    rw [f_X2_keysAreInPlace_38, c_count hR hp, bdS, e, if_pos (nI_leN (by omega) (by omega) (by omega))]
  | cons z Y ih =>
    intro X n least hl hpw hle hn
    obtain ⟨n, rfl⟩ : ∃ m, n = m + 1 := ⟨n - 1, by omega⟩
    simp at hn
    have e : (P p).2.1.length = X.length + Y.length + 1 := by rw [hl]; simp; omega
    obtain ⟨z1, z2⟩ := hle z List.mem_cons_self
    rw [List.map_cons] at hpw
    obtain ⟨p1, p2⟩ := List.pairwise_cons.mp hpw
    have := ih (X ++ [z]) n (z.1.toInt64 + 1) (by rw [hl]; simp) p2 (fun y hy => ⟨by
      rw [i64s]
      have := p1 y.1.toInt (List.mem_map.mpr ⟨y, hy, rfl⟩)
      omega, (hle y (List.mem_cons_of_mem _ hy)).2⟩) (by omega)
    rw [List.length_append, List.length_singleton] at this
    have hz := i64 z.1
    rw [f_X2_keysAreInPlace_38, c_count hR hp, bdS, e, if_neg (nI_nleN (by omega) (by omega) (by omega)), c_key hR hp (show (P p).2.1[X.length]? = some z by rw [hl]; exact getX _ _ _), bdS, if_neg (by rw [lg_cmp_lt, Int64.lt_iff_toInt_lt, hz]; omega), gdI hp (by decide), nI_clamp (by omega), if_pos (by rw [lg_cmp_lt, Int64.lt_iff_toInt_lt, hz, hhi]; exact z2), nI_1]
    exact this
