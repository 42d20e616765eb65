/-! astray: the queue of the class -/
abbrev Ent : Type := Nat × Nat × Int × Int
def hdl (A : Lev) (z : Int) : Int := match A with
  | [] => z
  | y :: _ => y.1
def att (d : Nat) : Lev → Int → List Ent
  | [], _ => []
  | x :: r, z => (x.2, d, x.1, hdl r z) :: att d r z
theorem hdl_app (A B : Lev) (z : Int) : hdl (A ++ B) z = hdl A (hdl B z) := by cases A <;> rfl
theorem att_app (d : Nat) (B : Lev) (z : Int) : ∀ A, att d (A ++ B) z = att d A (hdl B z) ++ att d B z := by
  intro A
  induction A with
  | nil => rfl
  | cons x A ih => rw [List.cons_append, att, att, ih, hdl_app]; rfl
theorem att_pg (d : Nat) (z : Int) : ∀ A, (att d A z).map Prod.fst = A.map Prod.snd := by
  intro A
  induction A with
  | nil => rfl
  | cons x A ih => rw [att, List.map_cons, List.map_cons, ih]
theorem att_len (d : Nat) (z : Int) : ∀ A, (att d A z).length = A.length := by
  intro A
  induction A with
  | nil => rfl
  | cons x A ih => rw [att, List.length_cons, List.length_cons, ih]
def ke (P : Nat → Pg) (x : Ent) : List Ent := if (P x.1).1 = 2 then att (x.2.1 + 1) (kl x.2.2.1 (P x.1).2.1) x.2.2.2 else []
theorem hdl_kd {P : Nat → Pg} (z : Int) (A : Lev) (h : ∀ x, x ∈ A → (P x.2).2.1 ≠ []) : hdl (A.flatMap (kd P)) z = hdl A z := by
  cases A with
  | nil => rfl
  | cons x A =>
    obtain ⟨c, r, hk⟩ := kd_hd (h x List.mem_cons_self)
    rw [List.flatMap_cons, hk]
    rfl
theorem att_kids {P : Nat → Pg} (d : Nat) (z : Int) : ∀ A : Lev, (∀ x, x ∈ A → inn P x.2) → (att d A z).flatMap (ke P) = att (d + 1) (A.flatMap (kd P)) z := by
  intro A
  induction A with
  | nil => intro _; rfl
  | cons x A ih =>
    intro h
    have h1 := h x List.mem_cons_self
    rw [att, List.flatMap_cons, List.flatMap_cons, att_app, ih (fun y hy => h y (List.mem_cons_of_mem _ hy)), hdl_kd z A (fun y hy => (h y (List.mem_cons_of_mem _ hy)).2.2.1)]
    unfold ke kd
    simp only [h1.1, if_true]
theorem att_leaf {P : Nat → Pg} (d : Nat) (z : Int) : ∀ A : Lev, (∀ x, x ∈ A → (P x.2).1 = 1) → (att d A z).flatMap (ke P) = [] := by
  intro A
  induction A with
  | nil => intro _; rfl
  | cons x A ih =>
    intro h
    rw [att, List.flatMap_cons, ih (fun y hy => h y (List.mem_cons_of_mem _ hy))]
    unfold ke
    simp only [h x List.mem_cons_self]
    rfl
def sa (S T : Mem) : Prop := ∀ k, k ∉ [15, 16, 17, 18] → T.1 k = S.1 k
theorem sa.rf {S : Mem} : sa S S := fun _ _ => rfl
theorem sa.tr {S T U : Mem} (h1 : sa S T) (h2 : sa T U) : sa S U := fun k hk => (h2 k hk).trans (h1 k hk)
theorem RC.sa {S T : Mem} {P : Nat → Pg} (h : RC S P) (hs : sa S T) : RC T P := h.cg (hs 2 (by decide)) (hs 3 (by decide)) (hs 5 (by decide)) (hs 6 (by decide)) (hs 4 (by decide))
def BQ (S : Mem) (Q : List Ent) : Prop := S.1 15 1 = nI Q.length ∧ Q.length ≤ 40 ∧ (∀ i e, Q[i]? = some e → S.1 16 i = nI e.1) ∧ (∀ p, p < 40 → S.1 17 p = if p ∈ Q.map Prod.fst then 1 else 0) ∧ (∀ e, e ∈ Q → S.1 18 e.1 = nI e.2.1 ∧ (S.2 19 e.1).toInt = e.2.2.1 ∧ (S.2 20 e.1).toInt = e.2.2.2) ∧ (∀ e, e ∈ Q → e.1 < 40)
theorem upLA (S : Mem) (k i : Nat) (v : Int64) (k2 j : Nat) : (upL S k i v).2 k2 j = if k2 = k ∧ j = i then v else S.2 k2 j := by
  unfold upL
  by_cases h1 : k2 = k
  · subst h1
    simp [vp_updL]
  · simp [h1]
theorem upL1 (S : Mem) (k i : Nat) (v : Int64) : (upL S k i v).1 = S.1 := rfl
theorem meetE {g : Nat} {S : Mem} {Q : List Ent} {p lev : Nat} {a3 a5 : Int64} (hB : BQ S Q) (hp : p < 40) (hn : p ∉ Q.map Prod.fst) (hl : Q.length < 40) : ∃ S', f_X2_meet g S (nI p) (nI lev) a3 a5 = some S' ∧ BQ S' (Q ++ [(p, lev, a3.toInt, a5.toInt)]) ∧ sa S S' := by
  obtain ⟨b1, b2, b3, b4, b5, b6⟩ := hB
  have h17 : S.1 17 p = 0 := by rw [b4 p hp, if_neg hn]
  have hlt : nI p < (40 : Int32) := (lt_r (a := 40) 40 rfl (by decide) (by omega)).mpr hp
  have e15 : ∀ v, (up S 17 p v).1 15 1 = nI Q.length := fun v => by rw [upN _ _ _ (by decide)]; exact b1
  have e15' : ∀ v w, (up (up S 17 p v) 16 Q.length w).1 15 1 = nI Q.length := fun v w => by rw [upN _ _ _ (by decide), upN _ _ _ (by decide)]; exact b1
  refine ⟨upL (upL (up (up (up (up S 17 p 1) 16 Q.length (nI p)) 15 1 (nI (Q.length + 1))) 18 p (nI lev)) 19 p a3) 20 p a5, ?_, ⟨?_, ?_, fun i e he => ?_, fun y hy => ?_, fun e he => ?_, fun e he => ?_⟩, fun k hk => ?_⟩
  · unfold f_X2_meet
    rw [if_neg (nI_nneg (by omega)), if_pos hlt]
    simp only [gdI hp (show 40 < 2 ^ 31 by decide), nI_clamp (show p < 2 ^ 31 by omega), h17, upS]
    have z1 : (0 : Int32) + 1 = 1 := by decide
    rw [z1, if_pos rfl]
    simp only [e15, nI_clamp (show Q.length < 2 ^ 31 by omega), gdI hl (show 40 < 2 ^ 31 by decide), e15', nI_1]
    rw [if_neg (nI_nneg (by omega)), if_neg (nle40 hl)]
  · simp only [upL1, upA]; simp
  · simp; omega
  · simp only [upL1, upA]
    by_cases e1 : i < Q.length
    · rw [List.getElem?_append_left e1] at he
      simp [show i ≠ Q.length by omega]
      exact b3 i e he
    · have := (List.getElem?_eq_some_iff.mp he).1
      simp at this
      have e2 : i = Q.length := by omega
      subst e2
      rw [List.getElem?_append_right (by omega)] at he
      simp at he
      subst he
      simp
  · have hmem : y ∈ (Q ++ [(p, lev, a3.toInt, a5.toInt)]).map Prod.fst ↔ y ∈ Q.map Prod.fst ∨ y = p := by
      rw [List.map_append, List.mem_append]
      simp only [List.map_cons, List.map_nil, List.mem_singleton]
    simp only [upL1, upA]
    by_cases e1 : y = p
    · subst e1; rw [if_pos (hmem.mpr (Or.inr rfl))]; simp
    · by_cases m : y ∈ Q.map Prod.fst
      · rw [if_pos (hmem.mpr (Or.inl m))]
        have := b4 y hy
        rw [if_pos m] at this
        simp [e1, this]
      · rw [if_neg (fun z => (hmem.mp z).elim m e1)]
        have := b4 y hy
        rw [if_neg m] at this
        simp [e1, this]
  · simp only [upL1, upLA, upA]
    rcases List.mem_append.mp he with he | he
    · have hne : e.1 ≠ p := fun z => hn (by rw [← z]; exact List.mem_map.mpr ⟨e, he, rfl⟩)
      simp [hne]
      exact b5 e he
    · simp at he
      subst he
      simp
  · rcases List.mem_append.mp he with he | he
    · exact b6 e he
    · simp at he; subst he; exact hp
  · simp only [upL1]
    simp at hk
    rw [upN _ _ _ (by omega), upN _ _ _ (by omega), upN _ _ _ (by omega), upN _ _ _ (by omega)]
theorem nd40 {Q K : List Ent} {x : Ent} (h : ((Q ++ x :: K).map Prod.fst).Nodup) (h40 : ∀ e, e ∈ Q ++ x :: K → e.1 < 40) : x.1 ∉ Q.map Prod.fst ∧ Q.length < 40 := by
  have hl := nd_le ((Q ++ x :: K).map Prod.fst) (fun _ => true) h (fun p hp => by
    obtain ⟨e, he, rfl⟩ := List.mem_map.mp hp
    exact ⟨h40 e he, rfl⟩)
  have hc := cn_le (fun _ => true) 40 0
  simp at hl
  rw [List.map_append, List.map_cons] at h
  refine ⟨fun z => ?_, by omega⟩
  exact (List.nodup_append.mp h).2.2 x.1 z x.1 List.mem_cons_self rfl
theorem i64 (k : Int32) : (k.toInt64).toInt = k.toInt := Int32.toInt_toInt64 k
theorem mcL {g : Nat} {P : Nat → Pg} {p lev : Nat} {lo hi : Int} (hp : p < 40) (hv : ∀ e, e ∈ (P p).2.1 → ∃ c, c < 40 ∧ e.2 = nI c) : ∀ (Y X : List It) (n : Nat) (S : Mem) (Q : List Ent), (P p).2.1 = X ++ Y → X ≠ [] → RC S P → BQ S Q → (p, lev, lo, hi) ∈ Q → ((Q ++ att (lev + 1) (Y.map mkc) hi).map Prod.fst).Nodup → (∀ e, e ∈ Q ++ att (lev + 1) (Y.map mkc) hi → e.1 < 40) → Y.length < n → ∃ S', f_X2_meetChildren_29 g (nI p) (nI (P p).2.1.length) n S (nI X.length) = some S' ∧ BQ S' (Q ++ att (lev + 1) (Y.map mkc) hi) ∧ sa S S' := by
  intro Y
  induction Y with
  | nil =>
    intro X n S Q hl hX hR hB hx hnd h40 hn
    obtain ⟨n, rfl⟩ : ∃ m, n = m + 1 := ⟨n - 1, by omega⟩
    have h5 := (hR p hp).2.2.2.1
    have e : (P p).2.1.length = X.length := by rw [hl]; simp
    refine ⟨S, ?_, by simpa [att] using hB, sa.rf⟩
    rw [f_X2_meetChildren_29, e, if_pos (nI_leN (by omega) (by omega) (by omega))]
  | cons z Y ih =>
    intro X n S Q hl hX hR hB hx hnd h40 hn
    obtain ⟨n, rfl⟩ : ∃ m, n = m + 1 := ⟨n - 1, by omega⟩
    simp at hn
    have h5 := (hR p hp).2.2.2.1
    have e : (P p).2.1.length = X.length + Y.length + 1 := by rw [hl]; simp; omega
    obtain ⟨c, hc, hzc⟩ := hv z (by rw [hl]; simp)
    have hpg : pg z = c := by unfold pg; rw [hzc, nI_clamp (by omega)]
    obtain ⟨hb18, hb19, hb20⟩ := hB.2.2.2.2.1 _ hx
    simp only at hb18 hb19 hb20
    have hXl : 0 < X.length := List.length_pos_iff.mpr hX
    obtain ⟨t11, ht11, hti⟩ : ∃ t11 : Int64, (if nI (X.length + Y.length + 1) ≤ nI (X.length + 1) then gd (ix_in (nI p) 40) (some (S.2 20 p)) else bd (f_X0_keyAt g S (nI p) (nI (X.length + 1))) (fun r21 => some r21.toInt64)) = some t11 ∧ t11.toInt = hdl (Y.map mkc) hi := by
      cases hY : Y with
      | nil => exact ⟨S.2 20 p, by rw [if_pos (nI_leN (by simp; omega) (by omega) (by simp)), gdI hp (by decide)], hb20⟩
      | cons z2 Y2 =>
        refine ⟨z2.1.toInt64, ?_, i64 _⟩
        rw [if_neg (nI_nleN (by rw [hY] at e; simp at e ⊢; omega) (by omega) (by simp)), c_key hR hp (show (P p).2.1[X.length + 1]? = some z2 by rw [hl, hY]; exact getX1 _ _ _ _), bdS]
    rw [List.map_cons, att] at hnd h40
    obtain ⟨hfr, hlt⟩ := nd40 hnd h40
    have hfr' : c ∉ Q.map Prod.fst := by
      have : (mkc z).2 = c := hpg
      simp only [this] at hfr
      exact hfr
    obtain ⟨S1, m1, m2, m3⟩ := meetE (g := g) (lev := lev + 1) (a3 := z.1.toInt64) (a5 := t11) hB hc hfr' hlt
    have hent : (c, lev + 1, z.1.toInt64.toInt, t11.toInt) = ((mkc z).2, lev + 1, (mkc z).1, hdl (Y.map mkc) hi) := by
      rw [i64, hti]
      show _ = (pg z, _, _, _)
      rw [hpg]; rfl
    rw [hent] at m2
    have hcat : Q ++ ((mkc z).2, lev + 1, (mkc z).1, hdl (Y.map mkc) hi) :: att (lev + 1) (Y.map mkc) hi = (Q ++ [((mkc z).2, lev + 1, (mkc z).1, hdl (Y.map mkc) hi)]) ++ att (lev + 1) (Y.map mkc) hi := by simp
    rw [hcat] at hnd h40
    obtain ⟨S', q1, q2, q3⟩ := ih (X ++ [z]) n S1 _ (by rw [hl]; simp) (by simp) (hR.sa m3) m2 (by simp [hx]) hnd h40 (by omega)
    refine ⟨S', ?_, by rw [List.map_cons, att, hcat]; exact q2, m3.tr q3⟩
    rw [List.length_append, List.length_singleton] at q1
    rw [f_X2_meetChildren_29, if_neg (nI_nleN (by omega) (by omega) (by omega))]
    simp only [jn1]
    rw [if_neg (nI_ne0 hXl (by omega)), c_key hR hp (show (P p).2.1[X.length]? = some z by rw [hl]; exact getX _ _ _), bdS, c_sec hR hp (show (P p).2.1[X.length]? = some z by rw [hl]; exact getX _ _ _)]
    simp only [bdS, gdI hp (show 40 < 2 ^ 31 by decide), nI_clamp (show p < 2 ^ 31 by omega), hb18, nI_1, hzc]
    rw [e]
    rw [e] at q1
    by_cases hle : nI (X.length + Y.length + 1) ≤ nI (X.length + 1)
    · rw [if_pos hle] at ht11 ⊢
      rw [gdI hp (by decide)] at ht11
      cases ht11
      rw [m1, bdS]; exact q1
    · rw [if_neg hle] at ht11 ⊢
      cases hk : f_X0_keyAt g S (nI p) (nI (X.length + 1)) with
      | none => rw [hk] at ht11; exact absurd ht11 (by simp [bd])
      | some r21 =>
        rw [hk, bdS] at ht11
        cases ht11
        rw [bdS, m1, bdS]; exact q1
theorem mcE {g : Nat} (hg : 50 < g) {P : Nat → Pg} {S : Mem} {Q : List Ent} {x : Ent} (hR : RC S P) (hB : BQ S Q) (hx : x ∈ Q) (hk : (P x.1).1 = 1 ∨ inn P x.1) (hnd : ((Q ++ ke P x).map Prod.fst).Nodup) (h40 : ∀ e, e ∈ Q ++ ke P x → e.1 < 40) : ∃ S', f_X2_meetChildren g S (nI x.1) = some S' ∧ BQ S' (Q ++ ke P x) ∧ sa S S' := by
  have hp : x.1 < 40 := hB.2.2.2.2.2 x hx
  obtain ⟨p, lev, lo, hi⟩ := x
  simp only at hp hk
  rcases hk with hk | hk
  · have hke : ke P (p, lev, lo, hi) = [] := by unfold ke; simp only [hk]; rfl
    rw [hke, List.append_nil]
    refine ⟨S, ?_, hB, sa.rf⟩
    unfold f_X2_meetChildren
    rw [if_neg (nI_nneg (by omega)), if_neg (nle40 hp), c_kind hR hp, bdS, hk, if_neg (by decide)]
  · unfold inn at hk
    have hke : ke P (p, lev, lo, hi) = att (lev + 1) (kl lo (P p).2.1) hi := by unfold ke; simp only [hk.1, if_true]
    rw [hke] at hnd h40 ⊢
    obtain ⟨z, Y, hl⟩ : ∃ z Y, (P p).2.1 = z :: Y := by
      cases hq : (P p).2.1 with
      | nil => exact absurd hq hk.2.2.1
      | cons a b => exact ⟨a, b, rfl⟩
    have h5 := (hR p hp).2.2.2.1
    have e : (P p).2.1.length = Y.length + 1 := by rw [hl]; simp
    obtain ⟨c, hc, hzc⟩ := hk.2.2.2 z (by rw [hl]; simp)
    have hpg : pg z = c := by unfold pg; rw [hzc, nI_clamp (by omega)]
    obtain ⟨hb18, hb19, hb20⟩ := hB.2.2.2.2.1 _ hx
    simp only at hb18 hb19 hb20
    obtain ⟨t11, ht11, hti⟩ : ∃ t11 : Int64, (if nI (Y.length + 1) ≤ nI (0 + 1) then gd (ix_in (nI p) 40) (some (S.2 20 p)) else bd (f_X0_keyAt g S (nI p) (nI (0 + 1))) (fun r21 => some r21.toInt64)) = some t11 ∧ t11.toInt = hdl (Y.map mkc) hi := by
      cases hY : Y with
      | nil => exact ⟨S.2 20 p, by rw [if_pos (nI_leN (by simp) (by omega) (by simp)), gdI hp (by decide)], hb20⟩
      | cons z2 Y2 =>
        refine ⟨z2.1.toInt64, ?_, i64 _⟩
        rw [if_neg (nI_nleN (by rw [hY] at e; simp at e ⊢; omega) (by omega) (by simp)), c_key hR hp (show (P p).2.1[0 + 1]? = some z2 by rw [hl, hY]; rfl), bdS]
    have hatt : att (lev + 1) (kl lo (P p).2.1) hi = (c, lev + 1, lo, hdl (Y.map mkc) hi) :: att (lev + 1) (Y.map mkc) hi := by
      rw [hl]
      show att (lev + 1) ((lo, pg z) :: Y.map mkc) hi = _
      rw [att, hpg]
    rw [hatt] at hnd h40 ⊢
    obtain ⟨hfr, hlt⟩ := nd40 hnd h40
    obtain ⟨S1, m1, m2, m3⟩ := meetE (g := g) (lev := lev + 1) (a3 := S.2 19 p) (a5 := t11) hB hc hfr hlt
    rw [hb19, hti] at m2
    have hcat : Q ++ (c, lev + 1, lo, hdl (Y.map mkc) hi) :: att (lev + 1) (Y.map mkc) hi = (Q ++ [(c, lev + 1, lo, hdl (Y.map mkc) hi)]) ++ att (lev + 1) (Y.map mkc) hi := by simp
    rw [hcat] at hnd h40 ⊢
    obtain ⟨n, hn⟩ : ∃ n, g = n + 1 := ⟨g - 1, by omega⟩
    obtain ⟨S', q1, q2, q3⟩ := mcL (g := g) (lev := lev) (lo := lo) (hi := hi) hp hk.2.2.2 Y [z] n S1 _ (by rw [hl]; rfl) (by simp) (hR.sa m3) m2 (by simp [hx]) hnd h40 (by omega)
    refine ⟨S', ?_, q2, m3.tr q3⟩
    unfold f_X2_meetChildren
    rw [if_neg (nI_nneg (by omega)), if_neg (nle40 hp), c_kind hR hp, bdS, hk.1, if_pos rfl, c_count hR hp, bdS]
    have hstep : ∀ f : Nat, f_X2_meetChildren_29 g (nI p) (nI (P p).2.1.length) (f + 1) S 0 = f_X2_meetChildren_29 g (nI p) (nI (P p).2.1.length) f S1 (nI (0 + 1)) := by
      intro f
      rw [show (0 : Int32) = nI 0 from rfl, f_X2_meetChildren_29, if_neg (nI_nleN (by omega) (by omega) (by omega))]
      simp only [jn1]
      rw [if_pos (by decide), gdI hp (by decide), c_sec hR hp (show (P p).2.1[0]? = some z by rw [hl]; rfl)]
      simp only [bdS, gdI hp (show 40 < 2 ^ 31 by decide), nI_clamp (show p < 2 ^ 31 by omega), hb18, nI_1, hzc, e]
      by_cases hle : nI (Y.length + 1) ≤ nI (0 + 1)
      · rw [if_pos hle] at ht11 ⊢
        rw [gdI hp (by decide)] at ht11
        cases ht11
        rw [m1, bdS]
      · rw [if_neg hle] at ht11 ⊢
        cases hk2 : f_X0_keyAt g S (nI p) (nI (0 + 1)) with
        | none => rw [hk2] at ht11; exact absurd ht11 (by simp [bd])
        | some r21 =>
          rw [hk2, bdS] at ht11
          cases ht11
          rw [bdS, m1, bdS]
    have : ∀ f, f = n + 1 → f_X2_meetChildren_29 g (nI p) (nI (P p).2.1.length) f S 0 = some S' := fun f hf => by
      subst hf; rw [hstep n]; exact q1
    exact this g hn
