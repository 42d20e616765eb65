/-! pages: what both sides hold -/
abbrev Pg : Type := Int32 × List (Int32 × Int32) × Int32
def Rp (f : Nat → Nat → Int32) (ak az ai ao an : Nat) (P : Nat → Pg) : Prop :=
  ∀ p, p < 40 → f ak p = (P p).1 ∧ f az p = nI (P p).2.1.length ∧ f an p = (P p).2.2 ∧ (P p).2.1.length ≤ 5 ∧ ∀ i e, (P p).2.1[i]? = some e → f ai (5 * p + i) = e.1 ∧ f ao (5 * p + i) = e.2
abbrev RC (S : Mem) (P : Nat → Pg) : Prop := Rp S.1 2 3 5 6 4 P
abbrev RM (R : Mem) (P : Nat → Pg) : Prop := Rp R.1 1 2 3 4 5 P
def sp (P : Nat → Pg) (p : Nat) (x : Pg) : Nat → Pg := fun q => if q = p then x else P q
theorem sp_s (P : Nat → Pg) (p : Nat) (x : Pg) : sp P p x p = x := if_pos rfl
theorem sp_n (P : Nat → Pg) {p q : Nat} (x : Pg) (h : q ≠ p) : sp P p x q = P q := if_neg h
theorem nI_m5 (p : Nat) : 5 * nI p = nI (5 * p) := (Int32.ofNat_mul 5 p).symm
theorem nI_m5' (p : Nat) : nI p * 5 = nI (5 * p) := by rw [Nat.mul_comm]; exact (Int32.ofNat_mul p 5).symm
theorem nI_dec (n : Nat) : nI (n + 1) + -1 = nI n := by rw [← Int32.sub_eq_add_neg]; exact nI_pred n
theorem nI_sub {a b : Nat} (h : b ≤ a) : nI a - nI b = nI (a - b) := by
  obtain ⟨c, rfl⟩ : ∃ c, a = c + b := ⟨a - b, by omega⟩
  rw [← nI_add, Int32.add_sub_cancel, Nat.add_sub_cancel]
theorem nI_s1 {a : Nat} (h : 1 ≤ a) : nI a - 1 = nI (a - 1) := nI_sub h
theorem nI_s2 {a : Nat} (h : 2 ≤ a) : nI a - 2 = nI (a - 2) := nI_sub h
theorem nI_leN {a b : Nat} (ha : a < 2 ^ 31) (hb : b < 2 ^ 31) (h : a ≤ b) : nI a ≤ nI b := (nI_leI ha hb).mpr h
theorem nI_nleN {a b : Nat} (ha : a < 2 ^ 31) (hb : b < 2 ^ 31) (h : b < a) : ¬ nI a ≤ nI b := fun q => by have := (nI_leI ha hb).mp q; omega
theorem nI_ltN {a b : Nat} (ha : a < 2 ^ 31) (hb : b < 2 ^ 31) (h : a < b) : nI a < nI b := (nI_ltI ha hb).mpr h
theorem nI_nltN {a b : Nat} (ha : a < 2 ^ 31) (hb : b < 2 ^ 31) (h : b ≤ a) : ¬ nI a < nI b := fun q => by have := (nI_ltI ha hb).mp q; omega
theorem Rp.cg {f f' : Nat → Nat → Int32} {ak az ai ao an : Nat} {P : Nat → Pg} (h : Rp f ak az ai ao an P) (h1 : f' ak = f ak) (h2 : f' az = f az) (h3 : f' ai = f ai) (h4 : f' ao = f ao) (h5 : f' an = f an) : Rp f' ak az ai ao an P := by
  unfold Rp
  rw [h1, h2, h3, h4, h5]
  exact h
theorem RC.sm {l : List Nat} {S T : Mem} {P : Nat → Pg} (h : RC S P) (hs : smX l S T) (hl : ∀ k, k ∈ l → k ≠ 2 ∧ k ≠ 3 ∧ k ≠ 4 ∧ k ≠ 5 ∧ k ≠ 6) : RC T P :=
  h.cg (hs.2 2 (fun q => (hl 2 q).1 rfl)) (hs.2 3 (fun q => (hl 3 q).2.1 rfl)) (hs.2 5 (fun q => (hl 5 q).2.2.2.1 rfl)) (hs.2 6 (fun q => (hl 6 q).2.2.2.2 rfl)) (hs.2 4 (fun q => (hl 4 q).2.2.1 rfl))
theorem RM.sm {l : List Nat} {S T : Mem} {P : Nat → Pg} (h : RM S P) (hs : smX l S T) (hl : ∀ k, k ∈ l → k ≠ 1 ∧ k ≠ 2 ∧ k ≠ 3 ∧ k ≠ 4 ∧ k ≠ 5) : RM T P :=
  h.cg (hs.2 1 (fun q => (hl 1 q).1 rfl)) (hs.2 2 (fun q => (hl 2 q).2.1 rfl)) (hs.2 3 (fun q => (hl 3 q).2.2.1 rfl)) (hs.2 4 (fun q => (hl 4 q).2.2.2.1 rfl)) (hs.2 5 (fun q => (hl 5 q).2.2.2.2 rfl))
/-- one page is told anew -/
theorem Rp.set {f f' : Nat → Nat → Int32} {ak az ai ao an : Nat} {P : Nat → Pg} {p : Nat} {x : Pg} (h : Rp f ak az ai ao an P) (hk : ∀ q, q ≠ p → f' ak q = f ak q) (hz : ∀ q, q ≠ p → f' az q = f az q) (hn : ∀ q, q ≠ p → f' an q = f an q) (hi : ∀ c, ¬ (5 * p ≤ c ∧ c < 5 * p + 5) → f' ai c = f ai c ∧ f' ao c = f ao c) (k1 : f' ak p = x.1) (k2 : f' az p = nI x.2.1.length) (k3 : f' an p = x.2.2) (k4 : x.2.1.length ≤ 5) (k5 : ∀ i e, x.2.1[i]? = some e → f' ai (5 * p + i) = e.1 ∧ f' ao (5 * p + i) = e.2) : Rp f' ak az ai ao an (sp P p x) := by
  intro q hq
  by_cases e : q = p
  · subst e
    rw [sp_s]
    exact ⟨k1, k2, k3, k4, k5⟩
  · rw [sp_n P x e]
    obtain ⟨a, b, c, d, r⟩ := h q hq
    refine ⟨(hk q e).trans a, (hz q e).trans b, (hn q e).trans c, d, fun i w hw => ?_⟩
    have hi5 : i < 5 := by
      have := (List.getElem?_eq_some_iff.mp hw).1
      omega
    obtain ⟨u1, u2⟩ := hi (5 * q + i) (by omega)
    rw [u1, u2]
    exact r i w hw
theorem Rp.ins {f f' : Nat → Nat → Int32} {ak az ai ao an : Nat} {P : Nat → Pg} {p : Nat} {X Y : List (Int32 × Int32)} {k v : Int32} (h : Rp f ak az ai ao an P) (hp : p < 40) (hl : (P p).2.1 = X ++ Y) (h4 : X.length + Y.length < 5) (hk : f' ak = f ak) (hn : f' an = f an) (hz : ∀ q, f' az q = if q = p then nI (X.length + Y.length + 1) else f az q) (hi : ∀ c, f' ai c = if c = 5 * p + X.length then k else if 5 * p + X.length < c ∧ c ≤ 5 * p + (X.length + Y.length) then f ai (c - 1) else f ai c) (ho : ∀ c, f' ao c = if c = 5 * p + X.length then v else if 5 * p + X.length < c ∧ c ≤ 5 * p + (X.length + Y.length) then f ao (c - 1) else f ao c) : Rp f' ak az ai ao an (sp P p ((P p).1, X ++ (k, v) :: Y, (P p).2.2)) := by
  obtain ⟨a, b, c, d, r⟩ := h p hp
  refine h.set (fun q _ => by rw [hk]) (fun q e => by rw [hz, if_neg e]) (fun q _ => by rw [hn]) (fun c hc => ?_) (by rw [hk]; exact a) ?_ (by rw [hn]; exact c) ?_ (fun i e he => ?_)
  · rw [hi, ho, if_neg (by omega), if_neg (by omega), if_neg (by omega), if_neg (by omega)]; exact ⟨rfl, rfl⟩
  · rw [hz, if_pos rfl]; simp; congr 1
  · simp; omega
  · rw [hi, ho]
    simp only at he
    by_cases e1 : i < X.length
    · rw [List.getElem?_append_left e1] at he
      rw [if_neg (by omega), if_neg (by omega), if_neg (by omega), if_neg (by omega)]
      exact r i e (by rw [hl, List.getElem?_append_left e1]; exact he)
    · rw [List.getElem?_append_right (by omega)] at he
      by_cases e2 : i = X.length
      · subst e2
        simp at he
        subst he
        rw [if_pos rfl, if_pos rfl]; exact ⟨rfl, rfl⟩
      · obtain ⟨j, rfl⟩ : ∃ j, i = X.length + j + 1 := ⟨i - X.length - 1, by omega⟩
        rw [show X.length + j + 1 - X.length = j + 1 by omega, List.getElem?_cons_succ] at he
        have hj := (List.getElem?_eq_some_iff.mp he).1
        rw [if_neg (by omega), if_pos (by omega), if_neg (by omega), if_pos (by omega), show 5 * p + (X.length + j + 1) - 1 = 5 * p + (X.length + j) by omega]
        exact r _ e (by rw [hl, List.getElem?_append_right (by omega), show X.length + j - X.length = j by omega]; exact he)
theorem Rp.del {f f' : Nat → Nat → Int32} {ak az ai ao an : Nat} {P : Nat → Pg} {p : Nat} {X Y : List (Int32 × Int32)} {z : Int32 × Int32} (h : Rp f ak az ai ao an P) (hp : p < 40) (hl : (P p).2.1 = X ++ z :: Y) (hk : f' ak = f ak) (hn : f' an = f an) (hz : ∀ q, f' az q = if q = p then nI (X.length + Y.length) else f az q) (hi : ∀ c, f' ai c = if 5 * p + X.length ≤ c ∧ c < 5 * p + (X.length + Y.length) then f ai (c + 1) else f ai c) (ho : ∀ c, f' ao c = if 5 * p + X.length ≤ c ∧ c < 5 * p + (X.length + Y.length) then f ao (c + 1) else f ao c) : Rp f' ak az ai ao an (sp P p ((P p).1, X ++ Y, (P p).2.2)) := by
  obtain ⟨a, b, c, d, r⟩ := h p hp
  have hd : X.length + Y.length < 5 := by rw [hl] at d; simp at d; omega
  refine h.set (fun q _ => by rw [hk]) (fun q e => by rw [hz, if_neg e]) (fun q _ => by rw [hn]) (fun c hc => ?_) (by rw [hk]; exact a) ?_ (by rw [hn]; exact c) ?_ (fun i e he => ?_)
  · rw [hi, ho, if_neg (by omega), if_neg (by omega)]; exact ⟨rfl, rfl⟩
  · rw [hz, if_pos rfl]; simp
  · simp; omega
  · rw [hi, ho]
    simp only at he
    by_cases e1 : i < X.length
    · rw [List.getElem?_append_left e1] at he
      rw [if_neg (by omega), if_neg (by omega)]
      exact r i e (by rw [hl, List.getElem?_append_left e1]; exact he)
    · rw [List.getElem?_append_right (by omega)] at he
      have hj := (List.getElem?_eq_some_iff.mp he).1
      rw [if_pos (by omega), if_pos (by omega), show 5 * p + i + 1 = 5 * p + (i + 1) by omega]
      exact r _ e (by rw [hl, List.getElem?_append_right (by omega), show i + 1 - X.length = (i - X.length) + 1 by omega, List.getElem?_cons_succ]; exact he)
/-- a cell's key is set -/
theorem Rp.key {f f' : Nat → Nat → Int32} {ak az ai ao an : Nat} {P : Nat → Pg} {p : Nat} {X Y : List (Int32 × Int32)} {m v k : Int32} (h : Rp f ak az ai ao an P) (hp : p < 40) (hl : (P p).2.1 = X ++ (m, v) :: Y) (hk : f' ak = f ak) (hn : f' an = f an) (hz : f' az = f az) (hi : ∀ c, f' ai c = if c = 5 * p + X.length then k else f ai c) (ho : f' ao = f ao) : Rp f' ak az ai ao an (sp P p ((P p).1, X ++ (k, v) :: Y, (P p).2.2)) := by
  obtain ⟨a, b, c, d, r⟩ := h p hp
  refine h.set (fun q _ => by rw [hk]) (fun q _ => by rw [hz]) (fun q _ => by rw [hn]) (fun c hc => ?_) (by rw [hk]; exact a) ?_ (by rw [hn]; exact c) ?_ (fun i e he => ?_)
  · rw [hi, ho, if_neg (by rw [hl] at d; simp at d; omega)]; exact ⟨rfl, rfl⟩
  · rw [hz, b, hl]; simp
  · rw [hl] at d; simpa using d
  · rw [hi, ho]
    simp only at he
    by_cases e1 : i < X.length
    · rw [List.getElem?_append_left e1] at he
      rw [if_neg (by omega)]
      exact r i e (by rw [hl, List.getElem?_append_left e1]; exact he)
    · rw [List.getElem?_append_right (by omega)] at he
      by_cases e2 : i = X.length
      · subst e2
        simp at he
        subst he
        rw [if_pos rfl]
        exact ⟨rfl, (r X.length (m, v) (by rw [hl, List.getElem?_append_right (by omega)]; simp)).2⟩
      · rw [if_neg (by omega)]
        obtain ⟨j, rfl⟩ : ∃ j, i = X.length + j + 1 := ⟨i - X.length - 1, by omega⟩
        rw [show X.length + j + 1 - X.length = j + 1 by omega, List.getElem?_cons_succ] at he
        exact r _ e (by rw [hl, List.getElem?_append_right (by omega), show X.length + j + 1 - X.length = j + 1 by omega, List.getElem?_cons_succ]; exact he)
/-- a cell's value is set -/
theorem Rp.val {f f' : Nat → Nat → Int32} {ak az ai ao an : Nat} {P : Nat → Pg} {p : Nat} {X Y : List (Int32 × Int32)} {m v k : Int32} (h : Rp f ak az ai ao an P) (hp : p < 40) (hl : (P p).2.1 = X ++ (m, v) :: Y) (hk : f' ak = f ak) (hn : f' an = f an) (hz : f' az = f az) (hi : f' ai = f ai) (ho : ∀ c, f' ao c = if c = 5 * p + X.length then k else f ao c) : Rp f' ak az ai ao an (sp P p ((P p).1, X ++ (m, k) :: Y, (P p).2.2)) := by
  obtain ⟨a, b, c, d, r⟩ := h p hp
  refine h.set (fun q _ => by rw [hk]) (fun q _ => by rw [hz]) (fun q _ => by rw [hn]) (fun c hc => ?_) (by rw [hk]; exact a) ?_ (by rw [hn]; exact c) ?_ (fun i e he => ?_)
  · rw [hi, ho, if_neg (by rw [hl] at d; simp at d; omega)]; exact ⟨rfl, rfl⟩
  · rw [hz, b, hl]; simp
  · rw [hl] at d; simpa using d
  · rw [hi, ho]
    simp only at he
    by_cases e1 : i < X.length
    · rw [List.getElem?_append_left e1] at he
      rw [if_neg (by omega)]
      exact r i e (by rw [hl, List.getElem?_append_left e1]; exact he)
    · rw [List.getElem?_append_right (by omega)] at he
      by_cases e2 : i = X.length
      · subst e2
        simp at he
        subst he
        rw [if_pos rfl]
        exact ⟨(r X.length (m, v) (by rw [hl, List.getElem?_append_right (by omega)]; simp)).1, rfl⟩
      · rw [if_neg (by omega)]
        obtain ⟨j, rfl⟩ : ∃ j, i = X.length + j + 1 := ⟨i - X.length - 1, by omega⟩
        rw [show X.length + j + 1 - X.length = j + 1 by omega, List.getElem?_cons_succ] at he
        exact r _ e (by rw [hl, List.getElem?_append_right (by omega), show X.length + j + 1 - X.length = j + 1 by omega, List.getElem?_cons_succ]; exact he)
/-- a page is cut short -/
theorem Rp.cut {f f' : Nat → Nat → Int32} {ak az ai ao an : Nat} {P : Nat → Pg} {p : Nat} {X Y : List (Int32 × Int32)} (h : Rp f ak az ai ao an P) (hp : p < 40) (hl : (P p).2.1 = X ++ Y) (hk : f' ak = f ak) (hn : f' an = f an) (hz : ∀ q, f' az q = if q = p then nI X.length else f az q) (hi : f' ai = f ai) (ho : f' ao = f ao) : Rp f' ak az ai ao an (sp P p ((P p).1, X, (P p).2.2)) := by
  obtain ⟨a, b, c, d, r⟩ := h p hp
  refine h.set (fun q _ => by rw [hk]) (fun q e => by rw [hz, if_neg e]) (fun q _ => by rw [hn]) (fun c hc => by rw [hi, ho]; exact ⟨rfl, rfl⟩) (by rw [hk]; exact a) (by rw [hz, if_pos rfl]) (by rw [hn]; exact c) ?_ (fun i e he => ?_)
  · rw [hl] at d; simp at d; simp; omega
  · rw [hi, ho]
    exact r i e (by rw [hl, List.getElem?_append_left ((List.getElem?_eq_some_iff.mp he).1)]; exact he)
/-- kind and next are set -/
theorem Rp.kn {f f' : Nat → Nat → Int32} {ak az ai ao an : Nat} {P : Nat → Pg} {p : Nat} {x y : Int32} (h : Rp f ak az ai ao an P) (hp : p < 40) (hk : ∀ q, f' ak q = if q = p then x else f ak q) (hn : ∀ q, f' an q = if q = p then y else f an q) (hz : f' az = f az) (hi : f' ai = f ai) (ho : f' ao = f ao) : Rp f' ak az ai ao an (sp P p (x, (P p).2.1, y)) := by
  obtain ⟨a, b, c, d, r⟩ := h p hp
  refine h.set (fun q e => by rw [hk, if_neg e]) (fun q _ => by rw [hz]) (fun q e => by rw [hn, if_neg e]) (fun c hc => by rw [hi, ho]; exact ⟨rfl, rfl⟩) (by rw [hk, if_pos rfl]) (by rw [hz]; exact b) (by rw [hn, if_pos rfl]) d (fun i e he => ?_)
  rw [hi, ho]
  exact r i e he
/-- a page is emptied -/
theorem Rp.emp {f f' : Nat → Nat → Int32} {ak az ai ao an : Nat} {P : Nat → Pg} {p : Nat} {x y : Int32} (h : Rp f ak az ai ao an P) (hk : ∀ q, f' ak q = if q = p then x else f ak q) (hn : ∀ q, f' an q = if q = p then y else f an q) (hz : ∀ q, f' az q = if q = p then 0 else f az q) (hi : f' ai = f ai) (ho : f' ao = f ao) : Rp f' ak az ai ao an (sp P p (x, [], y)) :=
  h.set (fun q e => by rw [hk, if_neg e]) (fun q e => by rw [hz, if_neg e]) (fun q e => by rw [hn, if_neg e]) (fun c hc => by rw [hi, ho]; exact ⟨rfl, rfl⟩) (by rw [hk, if_pos rfl]) (by rw [hz, if_pos rfl]; rfl) (by rw [hn, if_pos rfl]) (by simp) (fun i e he => by simp at he)
