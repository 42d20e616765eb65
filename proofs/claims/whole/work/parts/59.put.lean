theorem nd_le : ∀ (N : List Nat) (b : Nat → Bool), N.Nodup → (∀ p, p ∈ N → p < 40 ∧ b p = true) → N.length ≤ cn b 40 0 := by
  intro N
  induction N with
  | nil => intro b _ _; exact Nat.zero_le _
  | cons p N ih =>
    intro b hnd hb
    obtain ⟨h1, h2⟩ := List.nodup_cons.mp hnd
    obtain ⟨p40, hbp⟩ := hb p List.mem_cons_self
    have := ih (fun j => b j && decide (j ≠ p)) h2 (fun y hy => ⟨(hb y (List.mem_cons_of_mem _ hy)).1, by
      have := (hb y (List.mem_cons_of_mem _ hy)).2
      have hyp : y ≠ p := fun e => h1 (e ▸ hy)
      simp [this, hyp]⟩)
    have hup := cn_up (b := b) (c := fun j => b j && decide (j ≠ p)) (p := p) hbp (by simp) (fun j hj => by simp [hj]) 40 0 (Nat.zero_le _) (by omega)
    rw [List.length_cons]; omega
theorem kl_len (lo : Int) (l : List It) : (kl lo l).length = l.length := by
  cases l with
  | nil => rfl
  | cons x l => simp [kl]
theorem kd_len (P : Nat → Pg) (x : Int × Nat) : (kd P x).length = (P x.2).2.1.length := kl_len _ _
theorem fm_len2 {P : Nat → Pg} : ∀ (A : Lev), (∀ x, x ∈ A → 2 ≤ (P x.2).2.1.length) → 2 * A.length ≤ (A.flatMap (kd P)).length := by
  intro A
  induction A with
  | nil => intro _; exact Nat.le_refl _
  | cons x A ih =>
    intro h
    have h1 := h x List.mem_cons_self
    have h2 := ih (fun y hy => h y (List.mem_cons_of_mem _ hy))
    rw [List.flatMap_cons, List.length_append, kd_len, List.length_cons]
    omega
theorem fm_len4 {P : Nat → Pg} {A : Lev} (h : ∀ x, x ∈ A → 2 ≤ (P x.2).2.1.length) {x : Int × Nat} (hx : x ∈ A) (h4 : 4 ≤ (P x.2).2.1.length) : 2 * A.length + 2 ≤ (A.flatMap (kd P)).length := by
  obtain ⟨U, V, rfl⟩ := List.append_of_mem hx
  have h1 := fm_len2 U (fun y hy => h y (by simp [hy]))
  have h2 := fm_len2 V (fun y hy => h y (by simp [hy]))
  rw [List.flatMap_append, List.flatMap_cons]
  simp only [List.length_append, kd_len, List.length_cons]
  omega
theorem TI.room {P : Nat → Pg} {rt : Nat} {L : Nat → Lev} (T : TI P rt 3 L) (hcn : CN P rt 3) {w : Nat → Nat × Nat} (hm : ∀ k, k ≤ 3 → ∃ lo, (lo, (w k).1) ∈ L k) (hf : ∀ k, k ≤ 2 → 4 ≤ (P (w k).1).2.1.length) : fre P 40 0 ≤ 3 := by
  have T0 := T
  obtain ⟨t1, t2, t3, t4, t5, t6, t7, t8, t9, t10, t11⟩ := T
  have h2 : ∀ d, d ≤ 3 → ∀ x, x ∈ L d → 2 ≤ (P x.2).2.1.length := fun d hd x hx => by
    rcases (hcn x.2 (t7 d hd x hx) (T0.nf hd hx)).2 with z | ⟨-, z⟩
    · exact z
    · omega
  have hst : ∀ d, d ≤ 2 → 2 * (L d).length + 2 ≤ (L (d + 1)).length := fun d hd => by
    obtain ⟨lo, hlo⟩ := hm d (by omega)
    rw [t3 d (by omega)]
    exact fm_len4 (h2 d (by omega)) hlo (hf d hd)
  have l0 : (L 0).length = 1 := by rw [t1]; rfl
  have l1 : 2 * (L 0).length + 2 ≤ (L 1).length := hst 0 (by omega)
  have l2 : 2 * (L 1).length + 2 ≤ (L 2).length := hst 1 (by omega)
  have l3 : 2 * (L 2).length + 2 ≤ (L 3).length := hst 2 (by omega)
  obtain ⟨N, hN⟩ : ∃ N, N = (L 0).map Prod.snd ++ ((L 1).map Prod.snd ++ ((L 2).map Prod.snd ++ (L 3).map Prod.snd)) := ⟨_, rfl⟩
  have hdis : ∀ d e, d ≤ 3 → e ≤ 3 → d ≠ e → ∀ a, a ∈ (L d).map Prod.snd → ∀ b, b ∈ (L e).map Prod.snd → a ≠ b := fun d e hd he hde a ha b hb hab => by
    obtain ⟨x, hx, rfl⟩ := List.mem_map.mp ha
    obtain ⟨y, hy, rfl⟩ := List.mem_map.mp hb
    exact hde (t9 d e hd he x hx y hy hab)
  have hnd : N.Nodup := by
    rw [hN]
    refine List.nodup_append.mpr ⟨t8 0 (by omega), List.nodup_append.mpr ⟨t8 1 (by omega), List.nodup_append.mpr ⟨t8 2 (by omega), t8 3 (by omega), hdis 2 3 (by omega) (by omega) (by omega)⟩, fun a ha b hb => ?_⟩, fun a ha b hb => ?_⟩
    · rcases List.mem_append.mp hb with hb | hb
      · exact hdis 1 2 (by omega) (by omega) (by omega) a ha b hb
      · exact hdis 1 3 (by omega) (by omega) (by omega) a ha b hb
    · rcases List.mem_append.mp hb with hb | hb
      · exact hdis 0 1 (by omega) (by omega) (by omega) a ha b hb
      · rcases List.mem_append.mp hb with hb | hb
        · exact hdis 0 2 (by omega) (by omega) (by omega) a ha b hb
        · exact hdis 0 3 (by omega) (by omega) (by omega) a ha b hb
  have hin : ∀ d, d ≤ 3 → ∀ p, p ∈ (L d).map Prod.snd → p < 40 ∧ (!decide ((P p).1 = 0)) = true := fun d hd p hp => by
    obtain ⟨x, hx, rfl⟩ := List.mem_map.mp hp
    exact ⟨t7 d hd x hx, by simp [T0.nf hd hx]⟩
  have hle := nd_le N (fun p => !decide ((P p).1 = 0)) hnd (fun p hp => by
    rw [hN] at hp
    simp only [List.mem_append] at hp
    rcases hp with hp | hp | hp | hp
    · exact hin 0 (by omega) p hp
    · exact hin 1 (by omega) p hp
    · exact hin 2 (by omega) p hp
    · exact hin 3 (by omega) p hp)
  have hsum := cn_not (fun p => decide ((P p).1 = 0)) 40 0
  have hNl : N.length = (L 0).length + ((L 1).length + ((L 2).length + (L 3).length)) := by rw [hN]; simp
  unfold fre
  omega
theorem plc_spec (key : Int32) : ∀ l : List It, ∃ X Y, l = X ++ Y ∧ X.length = plc key l ∧ (∀ x, x ∈ X → x.1 < key) ∧ (∀ z Y', Y = z :: Y' → ¬ z.1 < key) := by
  intro l
  induction l with
  | nil => exact ⟨[], [], rfl, rfl, fun x hx => by simp at hx, fun z Y' h => by simp at h⟩
  | cons e l ih =>
    rw [plc]
    by_cases q : e.1 < key
    · obtain ⟨X, Y, h1, h2, h3, h4⟩ := ih
      rw [if_pos q]
      refine ⟨e :: X, Y, by rw [h1]; rfl, by rw [List.length_cons, h2], fun x hx => ?_, h4⟩
      rcases List.mem_cons.mp hx with rfl | hx
      · exact q
      · exact h3 x hx
    · rw [if_neg q]
      exact ⟨[], e :: l, rfl, rfl, fun x hx => by simp at hx, fun z Y' h => by cases h; exact q⟩
theorem TI.put {P : Nat → Pg} {rt h : Nat} {L : Nat → Lev} (T : TI P rt h L) {q : Nat} {key value : Int32} (ha : At L h q key) {X Y : List It} (hl : (P q).2.1 = X ++ Y) (hX : ∀ x, x ∈ X → x.1 < key) (hY : ∀ z Y', Y = z :: Y' → key < z.1) : TI (sp P q ((P q).1, X ++ (key, value) :: Y, (P q).2.2)) rt h L := by
  obtain ⟨U, lo, V, hL, hlo, hV⟩ := ha
  refine T.leaf hL ?_
  have hpw := T.2.2.2.2.1
  rw [hL, List.flatMap_append, List.flatMap_cons, lk_eq, hl, List.map_append] at hpw
  have hpw' : (U.flatMap (lk P) ++ (2 * lo - 1) :: X.map k2 ++ (Y.map k2 ++ V.flatMap (lk P))).Pairwise (· < ·) := by simpa [List.append_assoc] using hpw
  obtain ⟨p1, p2, p3⟩ := List.pairwise_append.mp hpw'
  obtain ⟨q1, q2, q3⟩ := List.pairwise_append.mp p1
  have hlt : ∀ x, x ∈ X → 2 * x.1.toInt < 2 * key.toInt := fun x hx => by
    have := hX x hx
    rw [Int32.lt_iff_toInt_lt] at this
    omega
  have hbef : ∀ y, y ∈ U.flatMap (lk P) ++ (2 * lo - 1) :: X.map k2 → y < 2 * key.toInt := fun y hy => by
    rcases List.mem_append.mp hy with hy | hy
    · have := q3 y hy (2 * lo - 1) List.mem_cons_self
      omega
    · rcases List.mem_cons.mp hy with rfl | hy
      · omega
      · obtain ⟨x, hx, rfl⟩ := List.mem_map.mp hy
        exact hlt x hx
  have haft : ∀ y, y ∈ Y.map k2 ++ V.flatMap (lk P) → 2 * key.toInt < y := fun y hy => by
    cases hYe : Y with
    | nil =>
      rw [hYe] at hy p2
      simp only [List.map_nil, List.nil_append] at hy p2
      cases V with
      | nil => simp at hy
      | cons v V =>
        have hv := hV v List.mem_cons_self
        rw [List.flatMap_cons] at hy p2
        unfold lk at hy p2
        rw [List.cons_append] at hy p2
        rcases List.mem_cons.mp hy with rfl | hy
        · omega
        · have := (List.pairwise_cons.mp p2).1 y hy
          omega
    | cons z Y' =>
      have hz := hY z Y' hYe
      rw [Int32.lt_iff_toInt_lt] at hz
      rw [hYe, List.map_cons, List.cons_append] at hy p2
      rcases List.mem_cons.mp hy with rfl | hy
      · unfold k2; omega
      · have := (List.pairwise_cons.mp p2).1 y hy
        unfold k2 at this; omega
  have : (U.flatMap (lk P) ++ (2 * lo - 1) :: X.map k2 ++ (2 * key.toInt :: (Y.map k2 ++ V.flatMap (lk P)))).Pairwise (· < ·) := by
    refine List.pairwise_append.mpr ⟨p1, List.pairwise_cons.mpr ⟨haft, p2⟩, fun a ha b hb => ?_⟩
    rcases List.mem_cons.mp hb with rfl | hb
    · exact hbef a ha
    · exact p3 a ha b hb
  show (U.flatMap (lk P) ++ ((2 * lo - 1) :: (X ++ (key, value) :: Y).map k2) ++ V.flatMap (lk P)).Pairwise (· < ·)
  rw [List.map_append, List.map_cons, show k2 (key, value) = 2 * key.toInt from rfl]
  simpa [List.append_assoc] using this
theorem markMD {g : Nat} (hg : 30 < g) {S R : Mem} {P : Nat → Pg} {pl : List Nat} {q : Nat} (h : MD S R P pl []) (hq : q ∈ pl) : ∃ S' R', f_X1_soil g S (nI q) = some S' ∧ f_X5_change g R (nI q) = some R' ∧ MD S' R' P pl [] ∧ smX [10] S S' ∧ smX [10] R R' := by
  obtain ⟨h1, h2, h3, h4, h5⟩ := h
  obtain ⟨R1, a1, a2, a3⟩ := chgE hg h3 h4 hq
  obtain ⟨S1, b1, b2, b3, b4⟩ := soilE hg [] h3 a2 hq (by simp) (by simp) (by simp)
  exact ⟨S1, R1, b1, a1, ⟨h1.sm b4 (by decide), h2.sm a3 (by decide), b2, b3, h5.sm b4 (by decide)⟩, b4, a3⟩
theorem fre_cg {P P' : Nat → Pg} (h : ∀ y, ((P' y).1 = 0 ↔ (P y).1 = 0)) : fre P' 40 0 = fre P 40 0 := by
  unfold fre
  exact cn_cong _ _ (fun j _ _ => by simp [h j])
theorem wq_full {P : Nat → Pg} {w : Nat → Nat × Nat} : ∀ m, (∀ k, k < m → 4 ≤ (P (w k).1).2.1.length) → wq P w m = m + 1 := by
  intro m
  induction m with
  | zero => intro _; rfl
  | succ m ih =>
    intro h
    rw [wq, if_pos (h m (by omega)), ih (fun k hk => h k (by omega))]
