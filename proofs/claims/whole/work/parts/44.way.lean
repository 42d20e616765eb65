/-! the way of a key -/
def wy (P : Nat → Pg) (rt : Nat) (key : Int32) : Nat → Nat × Nat
  | 0 => (rt, 0)
  | k + 1 => ((match (P (wy P rt key k).1).2.1[chq key (P (wy P rt key k).1).2.1 ((P (wy P rt key k).1).2.1.length - 1)]? with
    | some e => pg e
    | none => 0), chq key (P (wy P rt key k).1).2.1 ((P (wy P rt key k).1).2.1.length - 1))
theorem chq_pos (key : Int32) (l : List It) : ∀ n, n < l.length → 0 < chq key l n → ∃ e, l[chq key l n]? = some e ∧ ¬ key < e.1 := by
  intro n
  induction n with
  | zero => intro _ h; exact absurd h (by simp [chq])
  | succ n ih =>
    intro hn h
    obtain ⟨z, hz⟩ : ∃ z, l[n + 1]? = some z := ⟨_, List.getElem?_eq_getElem hn⟩
    rw [chq, hz] at h ⊢
    simp only at h ⊢
    by_cases q : key < z.1
    · rw [if_pos q] at h ⊢; exact ih (by omega) h
    · rw [if_neg q]; exact ⟨z, hz, q⟩
theorem chq_gt (key : Int32) (l : List It) : ∀ n, n < l.length → ∀ j e, chq key l n < j → j ≤ n → l[j]? = some e → key < e.1 := by
  intro n
  induction n with
  | zero => intro _ j e h1 h2; omega
  | succ n ih =>
    intro hn j e h1 h2 he
    obtain ⟨z, hz⟩ : ∃ z, l[n + 1]? = some z := ⟨_, List.getElem?_eq_getElem hn⟩
    rw [chq, hz] at h1
    simp only at h1
    by_cases q : key < z.1
    · rw [if_pos q] at h1
      by_cases ej : j = n + 1
      · subst ej; rw [hz] at he; cases he; exact q
      · exact ih (by omega) j e h1 (by omega) he
    · rw [if_neg q] at h1; omega
theorem sub_fst {f : Int × Nat → Lev} : ∀ (A : Lev), (∀ x, x ∈ A → ∃ c r, f x = (x.1, c) :: r) → (A.map Prod.fst).Sublist ((A.flatMap f).map Prod.fst) := by
  intro A
  induction A with
  | nil => intro _; exact List.Sublist.refl _
  | cons x A ih =>
    intro h
    obtain ⟨c, r, hx⟩ := h x List.mem_cons_self
    rw [List.flatMap_cons, hx, List.map_cons, List.cons_append, List.map_cons, List.map_append]
    exact List.Sublist.cons₂ _ ((ih (fun y hy => h y (List.mem_cons_of_mem _ hy))).trans (List.sublist_append_right _ _))
theorem kd_hd {P : Nat → Pg} {x : Int × Nat} (h : (P x.2).2.1 ≠ []) : ∃ c r, kd P x = (x.1, c) :: r := by
  unfold kd
  cases hl : (P x.2).2.1 with
  | nil => exact absurd hl h
  | cons e r => exact ⟨_, _, rfl⟩
theorem sub_lk {P : Nat → Pg} : ∀ (A : Lev), (A.map (fun x => 2 * x.1 - 1)).Sublist (A.flatMap (lk P)) := by
  intro A
  induction A with
  | nil => exact List.Sublist.refl _
  | cons x A ih =>
    rw [List.flatMap_cons, lk, List.map_cons, List.cons_append]
    exact List.Sublist.cons₂ _ (ih.trans (List.sublist_append_right _ _))
theorem TI.srt {P : Nat → Pg} {rt h : Nat} {L : Nat → Lev} (T : TI P rt h L) : ∀ k d, d + k = h → ((L d).map Prod.fst).Pairwise (· < ·) := by
  intro k
  induction k with
  | zero =>
    intro d hd
    have hd' : d = h := by omega
    subst hd'
    have := T.2.2.2.2.1.sublist (sub_lk (P := P) (L d))
    rw [List.pairwise_map] at this ⊢
    exact this.imp (fun q => by omega)
  | succ k ih =>
    intro d hd
    have := ih (d + 1) (by omega)
    rw [T.2.2.1 d (by omega)] at this
    exact this.sublist (sub_fst _ (fun x hx => kd_hd (T.2.1 d (by omega) x hx).2.2.1))
def At (L : Nat → Lev) (k p : Nat) (key : Int32) : Prop := ∃ U lo V, L k = U ++ (lo, p) :: V ∧ lo ≤ key.toInt ∧ ∀ y, y ∈ V → key.toInt < y.1
theorem TI.step {P : Nat → Pg} {rt h : Nat} {L : Nat → Lev} (T : TI P rt h L) {k p : Nat} {key : Int32} (hk : k < h) (ha : At L k p key) : ∃ X Y m c, c < 40 ∧ (P p).2.1 = X ++ (m, nI c) :: Y ∧ X.length = chq key (P p).2.1 ((P p).2.1.length - 1) ∧ At L (k + 1) c key := by
  obtain ⟨U, lo, V, hL, hlo, hV⟩ := ha
  have hpm : (lo, p) ∈ L k := by rw [hL]; simp
  have hin := T.2.1 k hk _ hpm
  unfold inn at hin
  simp only at hin
  have hpos : 0 < (P p).2.1.length := List.length_pos_iff.mpr hin.2.2.1
  have hle := chq_le key (P p).2.1 ((P p).2.1.length - 1)
  have hlt : chq key (P p).2.1 ((P p).2.1.length - 1) < (P p).2.1.length := by omega
  obtain ⟨z, hz⟩ : ∃ z, (P p).2.1[chq key (P p).2.1 ((P p).2.1.length - 1)]? = some z := ⟨_, List.getElem?_eq_getElem hlt⟩
  obtain ⟨hz1, hz2⟩ := List.getElem?_eq_some_iff.mp hz
  obtain ⟨c, hc, hcz⟩ := hin.2.2.2 z (by rw [← hz2]; exact List.getElem_mem _)
  obtain ⟨X, hX⟩ : ∃ X, X = (P p).2.1.take (chq key (P p).2.1 ((P p).2.1.length - 1)) := ⟨_, rfl⟩
  obtain ⟨Y, hY⟩ : ∃ Y, Y = (P p).2.1.drop (chq key (P p).2.1 ((P p).2.1.length - 1) + 1) := ⟨_, rfl⟩
  have hsplit : (P p).2.1 = X ++ z :: Y := by
    rw [hX, hY, ← hz2, ← List.drop_eq_getElem_cons hlt, List.take_append_drop]
  have hXl : X.length = chq key (P p).2.1 ((P p).2.1.length - 1) := by rw [hX, List.length_take]; omega
  have hz' : z = (z.1, nI c) := by rw [← hcz]
  refine ⟨X, Y, z.1, c, hc, by rw [← hz']; exact hsplit, hXl, ?_⟩
  have hs := T.site hk hL (X := X) (Y := Y) (Z := []) (z := z) (by rw [hsplit]; rfl)
  refine ⟨U.flatMap (kd P) ++ kl lo X, lw lo X z, Y.map mkc ++ V.flatMap (kd P), ?_, ?_, fun y hy => ?_⟩
  · rw [hs]
    have : pg z = c := by rw [hz']; exact pg_nI hc
    rw [this]; simp
  · cases hX0 : X with
    | nil => exact hlo
    | cons x X' =>
      show z.1.toInt ≤ key.toInt
      have hpos2 : 0 < chq key (P p).2.1 ((P p).2.1.length - 1) := by rw [← hXl, hX0]; simp
      obtain ⟨e, he1, he2⟩ := chq_pos key (P p).2.1 _ (by omega) hpos2
      rw [hz] at he1
      cases he1
      rw [Int32.lt_iff_toInt_lt] at he2
      omega
  · rcases List.mem_append.mp hy with hy | hy
    · obtain ⟨e, he, rfl⟩ := List.mem_map.mp hy
      obtain ⟨j, hj⟩ := List.getElem?_of_mem he
      have hj2 : (P p).2.1[X.length + 1 + j]? = some e := by
        rw [hsplit, List.getElem?_append_right (by omega), show X.length + 1 + j - X.length = j + 1 by omega, List.getElem?_cons_succ]; exact hj
      have hjl := (List.getElem?_eq_some_iff.mp hj2).1
      have := chq_gt key (P p).2.1 _ (show (P p).2.1.length - 1 < (P p).2.1.length by omega) _ e (by omega) (by omega) hj2
      rw [Int32.lt_iff_toInt_lt] at this
      exact this
    · cases V with
      | nil => simp at hy
      | cons v V1 =>
        have hv := hV v List.mem_cons_self
        have hvin := T.2.1 k hk v (by rw [hL]; simp)
        obtain ⟨c', r', hk'⟩ := kd_hd hvin.2.2.1
        have hsr := T.srt (h - (k + 1)) (k + 1) (by omega)
        rw [hs, List.map_append, List.map_append] at hsr
        have h2 := (List.pairwise_append.mp hsr).2.1
        rw [List.map_append] at h2
        have h2 := (List.pairwise_append.mp h2).2.1
        rw [List.flatMap_cons, hk', List.cons_append, List.map_cons] at h2
        rw [List.flatMap_cons, hk', List.cons_append] at hy
        rcases List.mem_cons.mp hy with rfl | hy
        · exact hv
        · have := (List.pairwise_cons.mp h2).1 y.1 (List.mem_map.mpr ⟨y, hy, rfl⟩)
          omega
theorem TI.way {P : Nat → Pg} {rt h : Nat} {L : Nat → Lev} (T : TI P rt h L) (key : Int32) : ∀ k, k ≤ h → At L k (wy P rt key k).1 key := by
  intro k
  induction k with
  | zero =>
    intro _
    refine ⟨[], -2147483648, [], T.1, ?_, fun y hy => by simp at hy⟩
    exact Int32.le_toInt key
  | succ k ih =>
    intro hk
    obtain ⟨X, Y, m, c, hc, hl, hXl, ha⟩ := T.step (by omega) (ih (by omega))
    have : (wy P rt key (k + 1)).1 = c := by
      rw [wy]
      simp only
      rw [← hXl]
      have : (P (wy P rt key k).1).2.1[X.length]? = some (m, nI c) := by rw [hl]; exact getX _ _ _
      rw [this]
      exact pg_nI hc
    rw [this]; exact ha
theorem TI.wayS {P : Nat → Pg} {rt h : Nat} {L : Nat → Lev} (T : TI P rt h L) (key : Int32) {k : Nat} (hk : k < h) : ∃ X Y m, (P (wy P rt key k).1).2.1 = X ++ (m, nI (wy P rt key (k + 1)).1) :: Y ∧ X.length = (wy P rt key (k + 1)).2 ∧ (wy P rt key (k + 1)).2 = chq key (P (wy P rt key k).1).2.1 ((P (wy P rt key k).1).2.1.length - 1) := by
  obtain ⟨X, Y, m, c, hc, hl, hXl, ha⟩ := T.step hk (T.way key k (by omega))
  have : (wy P rt key (k + 1)).1 = c := by
    rw [wy]
    simp only
    rw [← hXl]
    have : (P (wy P rt key k).1).2.1[X.length]? = some (m, nI c) := by rw [hl]; exact getX _ _ _
    rw [this]
    exact pg_nI hc
  rw [this]
  exact ⟨X, Y, m, hl, hXl, rfl⟩
theorem At.mem {L : Nat → Lev} {k p : Nat} {key : Int32} (h : At L k p key) : ∃ lo, (lo, p) ∈ L k := by
  obtain ⟨U, lo, V, hL, -⟩ := h
  exact ⟨lo, by rw [hL]; simp⟩
theorem TI.w40 {P : Nat → Pg} {rt h : Nat} {L : Nat → Lev} (T : TI P rt h L) (key : Int32) {k : Nat} (hk : k ≤ h) : (wy P rt key k).1 < 40 := by
  obtain ⟨lo, hm⟩ := (T.way key k hk).mem
  exact T.2.2.2.2.2.2.1 k hk _ hm
theorem TI.winj {P : Nat → Pg} {rt h : Nat} {L : Nat → Lev} (T : TI P rt h L) (key : Int32) {k j : Nat} (hk : k ≤ h) (hj : j ≤ h) (e : (wy P rt key k).1 = (wy P rt key j).1) : k = j := by
  obtain ⟨lo, hm⟩ := (T.way key k hk).mem
  obtain ⟨lo2, hm2⟩ := (T.way key j hj).mem
  exact T.2.2.2.2.2.2.2.2.1 k j hk hj _ hm _ hm2 e
theorem TI.wkind {P : Nat → Pg} {rt h : Nat} {L : Nat → Lev} (T : TI P rt h L) (key : Int32) {k : Nat} (hk : k ≤ h) : (P (wy P rt key k).1).1 = if k = h then 1 else 2 := by
  obtain ⟨lo, hm⟩ := (T.way key k hk).mem
  by_cases e : k = h
  · rw [if_pos e]; subst e; exact T.2.2.2.1 _ hm
  · rw [if_neg e]; exact (T.2.1 k (by omega) _ hm).1
