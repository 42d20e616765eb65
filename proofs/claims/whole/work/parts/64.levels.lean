def Ep (L : Nat → Lev) : Nat → List Ent
  | 0 => []
  | d + 1 => Ep L d ++ att (d + 1) (L d) 2147483648
theorem att_mem {d : Nat} {z : Int} : ∀ {A : Lev} {e : Ent}, e ∈ att d A z → ∃ x, x ∈ A ∧ e.1 = x.2 ∧ e.2.1 = d ∧ e.2.2.1 = x.1 := by
  intro A
  induction A with
  | nil => intro e h; simp [att] at h
  | cons x A ih =>
    intro e h
    rw [att] at h
    rcases List.mem_cons.mp h with rfl | h
    · exact ⟨x, List.mem_cons_self, rfl, rfl, rfl⟩
    · obtain ⟨y, hy, h1, h2, h3⟩ := ih h
      exact ⟨y, List.mem_cons_of_mem _ hy, h1, h2, h3⟩
theorem Ep_mem {L : Nat → Lev} : ∀ {d : Nat} {e : Ent}, e ∈ Ep L d → ∃ k, k < d ∧ e ∈ att (k + 1) (L k) 2147483648 := by
  intro d
  induction d with
  | zero => intro e h; simp [Ep] at h
  | succ d ih =>
    intro e h
    rw [Ep] at h
    rcases List.mem_append.mp h with h | h
    · obtain ⟨k, hk, h1⟩ := ih h
      exact ⟨k, by omega, h1⟩
    · exact ⟨d, by omega, h⟩
theorem Ep_nd {P : Nat → Pg} {rt h : Nat} {L : Nat → Lev} (T : TI P rt h L) : ∀ d, d ≤ h + 1 → ((Ep L d).map Prod.fst).Nodup := by
  intro d
  induction d with
  | zero => intro _; simp [Ep]
  | succ d ih =>
    intro hd
    rw [Ep, List.map_append]
    refine List.nodup_append.mpr ⟨ih (by omega), by rw [att_pg]; exact T.2.2.2.2.2.2.2.1 d (by omega), fun a ha b hb e => ?_⟩
    obtain ⟨x, hx, rfl⟩ := List.mem_map.mp ha
    obtain ⟨y, hy, rfl⟩ := List.mem_map.mp hb
    obtain ⟨k, hk, h1⟩ := Ep_mem hx
    obtain ⟨u, hu, u1, -⟩ := att_mem h1
    obtain ⟨v, hv, v1, -⟩ := att_mem hy
    have := T.2.2.2.2.2.2.2.2.1 k d (by omega) (by omega) u hu v hv (by rw [← u1, ← v1]; exact e)
    omega
theorem Ep_40 {P : Nat → Pg} {rt h : Nat} {L : Nat → Lev} (T : TI P rt h L) {d : Nat} (hd : d ≤ h + 1) {e : Ent} (he : e ∈ Ep L d) : e.1 < 40 := by
  obtain ⟨k, hk, h1⟩ := Ep_mem he
  obtain ⟨u, hu, u1, -⟩ := att_mem h1
  rw [u1]
  exact T.2.2.2.2.2.2.1 k (by omega) u hu
theorem Ep_le {L : Nat → Lev} {d e : Nat} (h : d ≤ e) : (Ep L d).length ≤ (Ep L e).length := by
  induction e with
  | zero => rw [show d = 0 by omega]; exact Nat.le_refl _
  | succ e ih =>
    by_cases q : d = e + 1
    · rw [q]; exact Nat.le_refl _
    · have := ih (by omega)
      rw [Ep, List.length_append]; omega
theorem bfsI {g : Nat} (hg : 50 < g) {P : Nat → Pg} {rt h : Nat} {L : Nat → Lev} (T : TI P rt h L) {d : Nat} (hd : d ≤ h) {w3 : Int32} {kx : Mem → Option (Int32 × Mem)} : ∀ (V U : List Ent) (n : Nat) (S : Mem), att (d + 1) (L d) 2147483648 = U ++ V → RC S P → BQ S (Ep L d ++ (U ++ V) ++ U.flatMap (ke P)) → ((Ep L d ++ (U ++ V) ++ (U ++ V).flatMap (ke P)).map Prod.fst).Nodup → (∀ e, e ∈ Ep L d ++ (U ++ V) ++ (U ++ V).flatMap (ke P) → e.1 < 40) →
    ∃ S', f_X2_countAstray_28 g w3 kx (n + V.length) S (nI ((Ep L d).length + U.length)) = f_X2_countAstray_28 g w3 kx n S' (nI ((Ep L d).length + (U ++ V).length)) ∧ BQ S' (Ep L d ++ (U ++ V) ++ (U ++ V).flatMap (ke P)) ∧ sa S S' := by
  intro V
  induction V with
  | nil =>
    intro U n S he hR hB hnd h40
    exact ⟨S, by simp, by simpa using hB, sa.rf⟩
  | cons v V ih =>
    intro U n S he hR hB hnd h40
    have hvm : v ∈ att (d + 1) (L d) 2147483648 := by rw [he]; simp
    obtain ⟨x, hx, x1, x2, x3⟩ := att_mem hvm
    have hk : (P v.1).1 = 1 ∨ inn P v.1 := by
      rw [x1]
      by_cases e : d = h
      · subst e; exact Or.inl (T.2.2.2.1 x hx)
      · exact Or.inr (T.2.1 d (by omega) x hx)
    obtain ⟨Q, hQ⟩ : ∃ Q, Q = Ep L d ++ (U ++ v :: V) ++ U.flatMap (ke P) := ⟨_, rfl⟩
    rw [← hQ] at hB
    have hQv : Q ++ ke P v = Ep L d ++ (U ++ [v] ++ V) ++ (U ++ [v]).flatMap (ke P) := by rw [hQ]; simp
    have hpre : Ep L d ++ (U ++ v :: V) ++ (U ++ v :: V).flatMap (ke P) = (Q ++ ke P v) ++ V.flatMap (ke P) := by rw [hQ]; simp
    have hnd1 : ((Q ++ ke P v).map Prod.fst).Nodup := by
      rw [hpre, List.map_append] at hnd
      exact (List.nodup_append.mp hnd).1
    have h401 : ∀ e, e ∈ Q ++ ke P v → e.1 < 40 := fun e hee => h40 e (by rw [hpre]; exact List.mem_append.mpr (Or.inl hee))
    obtain ⟨S1, m1, m2, m3⟩ := mcE hg hR hB (x := v) (by rw [hQ]; simp) hk hnd1 h401
    have hlen := hB.2.1
    have hidx : (Ep L d).length + U.length < Q.length := by rw [hQ]; simp
    have hget : Q[(Ep L d).length + U.length]? = some v := by
      rw [hQ, List.append_assoc, List.getElem?_append_right (by omega), show (Ep L d).length + U.length - (Ep L d).length = U.length by omega, List.append_assoc, List.getElem?_append_right (by omega)]
      simp
    rw [hQv] at m2
    have hUV : U ++ [v] ++ V = U ++ v :: V := by simp
    obtain ⟨S', q1, q2, q3⟩ := ih (U ++ [v]) n S1 (by rw [he]; simp) (hR.sa m3) m2 (by rw [hUV]; exact hnd) (by rw [hUV]; exact h40)
    rw [hUV] at q1 q2
    refine ⟨S', ?_, q2, m3.tr q3⟩
    rw [List.length_cons, ← Nat.add_assoc, f_X2_countAstray_28, if_neg (nle40 (by omega)), hB.1, if_neg (nI_nleN (by omega) (by omega) hidx), gdI (by omega) (by decide), nI_clamp (by omega), hB.2.2.1 _ _ hget, m1, bdS, nI_1]
    rw [List.length_append, List.length_singleton] at q1
    exact q1
theorem Ep_next {P : Nat → Pg} {rt h : Nat} {L : Nat → Lev} (T : TI P rt h L) {d : Nat} (hd : d ≤ h) : Ep L d ++ att (d + 1) (L d) 2147483648 ++ (att (d + 1) (L d) 2147483648).flatMap (ke P) = if d = h then Ep L (h + 1) else Ep L (d + 2) := by
  by_cases e : d = h
  · rw [if_pos e, e, att_leaf _ _ _ T.2.2.2.1, List.append_nil]; rfl
  · rw [if_neg e, att_kids _ _ _ (T.2.1 d (by omega)), ← T.2.2.1 d (by omega)]; rfl
theorem bfsD {g : Nat} (hg : 50 < g) {P : Nat → Pg} {rt h : Nat} {L : Nat → Lev} (T : TI P rt h L) {w3 : Int32} {kx : Mem → Option (Int32 × Mem)} : ∀ (j d n : Nat) (S : Mem), d + j = h → RC S P → BQ S (Ep L (d + 1)) → (Ep L (h + 1)).length < n + (Ep L d).length →
    ∃ S', f_X2_countAstray_28 g w3 kx n S (nI (Ep L d).length) = kx S' ∧ BQ S' (Ep L (h + 1)) ∧ sa S S' := by
  intro j
  induction j with
  | zero =>
    intro d n S hd hR hB hn
    have hdh : d = h := by omega
    subst hdh
    have hnx := Ep_next T (Nat.le_refl d)
    rw [if_pos rfl] at hnx
    have hEp : (Ep L (d + 1)).length = (Ep L d).length + (att (d + 1) (L d) 2147483648).length := by rw [Ep, List.length_append]
    obtain ⟨n', rfl⟩ : ∃ n', n = n' + (att (d + 1) (L d) 2147483648).length := ⟨n - (att (d + 1) (L d) 2147483648).length, by omega⟩
    obtain ⟨S', q1, q2, q3⟩ := bfsI hg T (Nat.le_refl d) (w3 := w3) (kx := kx) (att (d + 1) (L d) 2147483648) [] n' S rfl hR (by simpa [Ep] using hB) (by rw [List.nil_append, hnx]; exact Ep_nd T (d + 1) (Nat.le_refl _)) (fun e he => by rw [List.nil_append, hnx] at he; exact Ep_40 T (Nat.le_refl _) he)
    rw [List.nil_append, hnx] at q2
    rw [List.nil_append] at q1
    simp only [List.length_nil, Nat.add_zero] at q1
    obtain ⟨m, rfl⟩ : ∃ m, n' = m + 1 := ⟨n' - 1, by omega⟩
    refine ⟨S', ?_, q2, q3⟩
    rw [q1, f_X2_countAstray_28, ← hEp, q2.1]
    have := q2.2.1
    by_cases e : (40 : Int32) ≤ nI (Ep L (d + 1)).length
    · rw [if_pos e]
    · rw [if_neg e, if_pos (nI_leN (by omega) (by omega) (Nat.le_refl _))]
  | succ j ih =>
    intro d n S hd hR hB hn
    have hnx := Ep_next T (show d ≤ h by omega)
    rw [if_neg (by omega)] at hnx
    have hEp : (Ep L (d + 1)).length = (Ep L d).length + (att (d + 1) (L d) 2147483648).length := by rw [Ep, List.length_append]
    have hmono := Ep_le (L := L) (show d + 1 ≤ h + 1 by omega)
    obtain ⟨n', rfl⟩ : ∃ n', n = n' + (att (d + 1) (L d) 2147483648).length := ⟨n - (att (d + 1) (L d) 2147483648).length, by omega⟩
    obtain ⟨S1, q1, q2, q3⟩ := bfsI hg T (show d ≤ h by omega) (w3 := w3) (kx := kx) (att (d + 1) (L d) 2147483648) [] n' S rfl hR (by simpa [Ep] using hB) (by rw [List.nil_append, hnx]; exact Ep_nd T (d + 2) (by omega)) (fun e he => by rw [List.nil_append, hnx] at he; exact Ep_40 T (by omega) he)
    rw [List.nil_append, hnx] at q2
    rw [List.nil_append] at q1
    simp only [List.length_nil, Nat.add_zero] at q1
    obtain ⟨S', r1, r2, r3⟩ := ih (d + 1) n' S1 (by omega) (hR.sa q3) q2 (by omega)
    refine ⟨S', ?_, r2, q3.tr r3⟩
    rw [q1, ← hEp]; exact r1
theorem bfsE {g : Nat} (hg : 50 < g) {P : Nat → Pg} {rt h : Nat} {L : Nat → Lev} (T : TI P rt h L) {S : Mem} (hR : RC S P) : ∃ S', f_X2_countAstray g S (nI rt) = f_X2_countAstray_68 g S' (nI rt) g 0 0 ∧ BQ S' (Ep L (h + 1)) ∧ sa S S' := by
  have hrm : ((-2147483648 : Int), rt) ∈ L 0 := by rw [T.1]; simp
  have r40 : rt < 40 := T.2.2.2.2.2.2.1 0 (Nat.zero_le _) _ hrm
  obtain ⟨S1, hS1⟩ : ∃ S1, S1 = up (upF S 17 40 0) 15 1 0 := ⟨_, rfl⟩
  have hs1 : sa S S1 := fun k hk => by
    simp at hk
    rw [hS1, upN _ _ _ (by omega)]
    unfold upF
    simp [hk.2.2.1]
  have hB1 : BQ S1 [] := by
    refine ⟨by rw [hS1, upS]; rfl, by simp, fun i e he => by simp at he, fun p hp => ?_, fun e he => by simp at he, fun e he => by simp at he⟩
    rw [hS1, upN _ _ _ (by decide)]
    unfold upF
    simp [hp]
  obtain ⟨S2, m1, m2, m3⟩ := meetE (g := g) (lev := 1) (a3 := -2147483648) (a5 := 2147483648) hB1 r40 (by simp) (by simp)
  have h1 : Ep L 1 = [(rt, 1, (-2147483648 : Int64).toInt, (2147483648 : Int64).toInt)] := by
    rw [Ep, Ep, T.1]
    have z1 : (-2147483648 : Int64).toInt = -2147483648 := by decide
    have z2 : (2147483648 : Int64).toInt = 2147483648 := by decide
    rw [z1, z2]; rfl
  rw [List.nil_append, ← h1] at m2
  have hle : (Ep L (h + 1)).length ≤ 40 := by
    have := nd_le ((Ep L (h + 1)).map Prod.fst) (fun _ => true) (Ep_nd T _ (Nat.le_refl _)) (fun p hp => by
      obtain ⟨e, he, rfl⟩ := List.mem_map.mp hp
      exact ⟨Ep_40 T (Nat.le_refl _) he, rfl⟩)
    have hc := cn_le (fun _ => true) 40 0
    simp at this
    omega
  obtain ⟨S', q1, q2, q3⟩ := bfsD hg T (w3 := nI rt) (kx := fun (S8 : Mem) => f_X2_countAstray_68 g S8 (nI rt) g 0 0) h 0 g S2 (by omega) ((hR.sa hs1).sa m3) m2 (by omega)
  refine ⟨S', ?_, q2, (hs1.tr m3).tr q3⟩
  unfold f_X2_countAstray
  rw [← hS1]
  have m1' : f_X2_meet g S1 (nI rt) 1 (-2147483648) 2147483648 = some S2 := m1
  rw [m1', bdS]
  exact q1
