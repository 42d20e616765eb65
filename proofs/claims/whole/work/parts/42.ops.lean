theorem pwI {l1 l2 : List Int} {x w : Int} (h : (l1 ++ x :: l2).Pairwise (· < ·)) (h1 : ∀ y, y ∈ l1 → y < w) (h2 : w < x) : (l1 ++ w :: x :: l2).Pairwise (· < ·) := by
  obtain ⟨a, b, c⟩ := List.pairwise_append.mp h
  refine List.pairwise_append.mpr ⟨a, List.pairwise_cons.mpr ⟨fun y hy => ?_, b⟩, fun y hy z hz => ?_⟩
  · rcases List.mem_cons.mp hy with rfl | hy
    · exact h2
    · exact Int.lt_trans h2 ((List.pairwise_cons.mp b).1 y hy)
  · rcases List.mem_cons.mp hz with rfl | hz
    · exact h1 y hy
    · exact c y hy z hz
theorem pwI2 {l1 l2 : List Int} {a m : Int} (h : (l1 ++ [2 * a] ++ 2 * m :: l2).Pairwise (· < ·)) : (l1 ++ [2 * a] ++ (2 * m - 1) :: 2 * m :: l2).Pairwise (· < ·) := by
  obtain ⟨p1, p2, p3⟩ := List.pairwise_append.mp h
  obtain ⟨q1, q2, q3⟩ := List.pairwise_append.mp p1
  have ham := p3 (2 * a) (by simp) (2 * m) (by simp)
  refine pwI h (fun y hy => ?_) (by omega)
  rcases List.mem_append.mp hy with hy | hy
  · have := q3 y hy (2 * a) (by simp); omega
  · simp at hy; omega
theorem pwD {l1 l2 : List Int} {w : Int} (h : (l1 ++ w :: l2).Pairwise (· < ·)) : (l1 ++ l2).Pairwise (· < ·) := h.sublist (List.Sublist.append (List.Sublist.refl _) (List.sublist_cons_self _ _))
def k2 (e : It) : Int := 2 * e.1.toInt
theorem lk_eq (P : Nat → Pg) (lo : Int) (p : Nat) : lk P (lo, p) = (2 * lo - 1) :: (P p).2.1.map k2 := rfl
theorem lastE {A : List It} (h : A ≠ []) : ∃ A' z, A = A' ++ [z] := ⟨A.dropLast, A.getLast h, (List.dropLast_concat_getLast h).symm⟩
/-- where a child stands -/
theorem TI.child {P : Nat → Pg} {rt h : Nat} {L : Nat → Lev} (T : TI P rt h L) {e : Nat} (he : e < h) {lo : Int} {par : Nat} (hm : (lo, par) ∈ L e) {z : It} (hz : z ∈ (P par).2.1) : ∃ lo', (lo', pg z) ∈ L (e + 1) := by
  obtain ⟨U, V, hL⟩ := List.append_of_mem hm
  obtain ⟨X, Y, hX⟩ := List.append_of_mem hz
  have := T.site he hL (X := X) (Y := Y) (Z := []) (z := z) (by rw [hX]; rfl)
  exact ⟨lw lo X z, by rw [this]; simp⟩
def spl (P : Nat → Pg) (p q par : Nat) (X Y A B : List It) (m1 m b : Int32) : Nat → Pg :=
  sp (sp (sp P p ((P p).1, A, if (P p).1 = 1 then nI q else -1)) q ((P p).1, (if (P p).1 = 1 then m else 0, b) :: B, (P p).2.2)) par (2, X ++ (m1, nI p) :: (m, nI q) :: Y, -1)
theorem TI.split {P : Nat → Pg} {rt h : Nat} {L : Nat → Lev} (T : TI P rt h L) {e : Nat} (he : e < h) {lo : Int} {par p q : Nat} (hm : (lo, par) ∈ L e) {X Y A B : List It} {m1 m b : Int32} (hpar : (P par).2.1 = X ++ (m1, nI p) :: Y) (hp : p < 40) (hA : (P p).2.1 = A ++ (m, b) :: B) (hA0 : A ≠ []) (hq : q < 40) (hf : (P q).1 = 0) :
    ∃ L', TI (spl P p q par X Y A B m1 m b) rt h L' ∧ ∀ k, k ≠ e + 1 → L' k = L k := by
  obtain ⟨U, V, hL⟩ := List.append_of_mem hm
  have T0 := T
  obtain ⟨t1, t2, t3, t4, t5, t6, t7, t8, t9, t10, t11⟩ := T
  obtain ⟨lop, hpm⟩ := T0.child he hm (z := (m1, nI p)) (by rw [hpar]; simp)
  rw [pg_nI hp] at hpm
  have hpq : p ≠ q := fun z => T0.nf (show e + 1 ≤ h by omega) hpm (by simp only; rw [z]; exact hf)
  have hparq : par ≠ q := fun z => T0.nf (show e ≤ h by omega) hm (by simp only; rw [z]; exact hf)
  have hparp : par ≠ p := fun z => by have := t9 e (e + 1) (by omega) (by omega) _ hm _ hpm z; omega
  have e1 : spl P p q par X Y A B m1 m b p = ((P p).1, A, if (P p).1 = 1 then nI q else -1) := by unfold spl; rw [sp_n _ _ (Ne.symm hparp), sp_n _ _ hpq, sp_s]
  have e2 : spl P p q par X Y A B m1 m b q = ((P p).1, (if (P p).1 = 1 then m else 0, b) :: B, (P p).2.2) := by unfold spl; rw [sp_n _ _ (Ne.symm hparq), sp_s]
  have e3 : spl P p q par X Y A B m1 m b par = (2, X ++ (m1, nI p) :: (m, nI q) :: Y, -1) := by unfold spl; rw [sp_s]
  have e4 : ∀ y, y ≠ par → y ≠ p → y ≠ q → spl P p q par X Y A B m1 m b y = P y := fun y h1 h2 h3 => by unfold spl; rw [sp_n _ _ h1, sp_n _ _ h3, sp_n _ _ h2]
  have hnf := T0.nf (show e + 1 ≤ h by omega) hpm
  simp only at hnf
  have R := T0.loc he hL (X := X) (Y := Y) (Z := []) (Z' := [(m, nI q)]) (z := (m1, nI p)) (P' := spl P p q par X Y A B m1 m b) (by rw [hpar]; rfl) (fun y h1 h2 h3 => by
      simp only [List.map_cons, List.map_nil, pg_nI hp, pg_nI hq, List.mem_cons, List.not_mem_nil, or_false, not_or] at h2 h3
      exact e4 y h1 h2 h3.2) e3 (fun w hw => by simp at hw; exact ⟨q, hq, by rw [hw]⟩) (fun w hw => by simp at hw; right; rw [hw, pg_nI hq]; exact hf) (by simp [pg_nI hp, pg_nI hq, hpq]) (fun hd => ?_) (fun hd => ?_) (fun w hw => by simp at hw) (fun y hy hn => ?_)
  · exact ⟨_, R, fun k hk => if_neg hk⟩
  · have hin := t2 (e + 1) hd _ hpm
    unfold inn at hin
    simp only at hin
    have n1 : ¬ (P p).1 = 1 := by rw [hin.1]; decide
    rw [if_neg n1] at e1 e2
    have hv := hin.2.2.2
    rw [hA] at hv
    refine ⟨fun x hx => ?_, ?_⟩
    · simp only [List.map_cons, List.map_nil, List.mem_cons, List.not_mem_nil, or_false] at hx
      rcases hx with rfl | rfl
      · unfold inn
        simp only [pg_nI hp, e1]
        exact ⟨hin.1, trivial, hA0, fun w hw => hv w (by simp [hw])⟩
      · unfold inn
        simp only [mkc2, pg_nI hq, e2]
        refine ⟨hin.1, hin.2.1, by simp, fun w hw => ?_⟩
        rcases List.mem_cons.mp hw with rfl | hw
        · exact hv (m, b) (by simp)
        · exact hv w (by simp [hw])
    · simp only [List.map_cons, List.map_nil, List.flatMap_cons, List.flatMap_nil, List.append_nil, kd, mkc2, pg_nI hp, pg_nI hq, e1, e2, hA]
      rw [kl_cat _ hA0]
      rfl
  · have hk1 := t4 _ (hd ▸ hpm)
    simp only at hk1
    rw [if_pos hk1] at e1 e2
    refine ⟨fun x hx => ?_, fun pre post hpw => ?_, fun w hw => ?_⟩
    · simp only [List.map_cons, List.map_nil, List.mem_cons, List.not_mem_nil, or_false] at hx
      rcases hx with rfl | rfl
      · simp only [pg_nI hp, e1]; exact hk1
      · simp only [mkc2, pg_nI hq, e2]; exact hk1
    · obtain ⟨A', a, rfl⟩ := lastE hA0
      simp only [List.map_cons, List.map_nil, List.flatMap_cons, List.flatMap_nil, List.append_nil, pg_nI hp, lk_eq, hA, List.map_append] at hpw
      simp only [List.map_cons, List.map_nil, List.flatMap_cons, List.flatMap_nil, List.append_nil, pg_nI hp, lk_eq, e1, mkc, e2, List.map_append, nI_clamp (show q < 2 ^ 31 by omega)]
      have := pwI2 (l1 := pre ++ (2 * lw lo X (m1, nI p) - 1) :: A'.map k2) (a := a.1.toInt) (m := m.toInt) (l2 := B.map k2 ++ post) (by simpa [k2, List.append_assoc] using hpw)
      simpa [k2, List.append_assoc] using this
    · simp only [List.map_cons, List.map_nil, chn, hdn, pg_nI hp, mkc2, pg_nI hq, e1, e2] at hw ⊢
      exact ⟨trivial, hw.1, trivial⟩
  · by_cases y1 : y = par
    · subst y1; rw [e3] at hn; simp only at hn; exact absurd hn (by decide)
    · by_cases y2 : y = p
      · subst y2; rw [e1] at hn; exact absurd hn hnf
      · by_cases y3 : y = q
        · subst y3; rw [e2] at hn; exact absurd hn hnf
        · rw [e4 y y1 y2 y3] at hn ⊢; exact t11 y hy hn
