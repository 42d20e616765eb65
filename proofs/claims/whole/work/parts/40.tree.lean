/-! the tree, level by level -/
abbrev Lev : Type := List (Int × Nat)
abbrev It : Type := Int32 × Int32
def mkc (e : It) : Int × Nat := (e.1.toInt, e.2.toNatClampNeg)
def kl (lo : Int) : List It → Lev
  | [] => []
  | e :: r => (lo, e.2.toNatClampNeg) :: r.map mkc
def kd (P : Nat → Pg) (x : Int × Nat) : Lev := kl x.1 (P x.2).2.1
def lw (lo : Int) (X : List It) (z : It) : Int := match X with
  | [] => lo
  | _ :: _ => z.1.toInt
theorem kl_app (lo : Int) (X : List It) (z : It) (Y : List It) : kl lo (X ++ z :: Y) = kl lo X ++ (lw lo X z, z.2.toNatClampNeg) :: Y.map mkc := by
  cases X with
  | nil => rfl
  | cons x X => simp [kl, lw, mkc]
theorem kl_cat (lo : Int) {X : List It} (hX : X ≠ []) (Y : List It) : kl lo (X ++ Y) = kl lo X ++ Y.map mkc := by
  cases X with
  | nil => exact absurd rfl hX
  | cons x X => simp [kl]
def lk (P : Nat → Pg) (x : Int × Nat) : List Int := (2 * x.1 - 1) :: (P x.2).2.1.map (fun e => 2 * e.1.toInt)
def hdn (A : Lev) (z : Int32) : Int32 := match A with
  | [] => z
  | y :: _ => nI y.2
def chn (P : Nat → Pg) : Lev → Int32 → Prop
  | [], _ => True
  | x :: r, z => (P x.2).2.2 = hdn r z ∧ chn P r z
theorem hdn_app (A B : Lev) (z : Int32) : hdn (A ++ B) z = hdn A (hdn B z) := by cases A <;> rfl
theorem chn_app (P : Nat → Pg) (B : Lev) (z : Int32) : ∀ A, chn P (A ++ B) z ↔ chn P A (hdn B z) ∧ chn P B z := by
  intro A
  induction A with
  | nil => simp [chn]
  | cons x A ih =>
    simp only [List.cons_append, chn, ih, hdn_app]
    exact ⟨fun h => ⟨⟨h.1, h.2.1⟩, h.2.2⟩, fun h => ⟨h.1.1, h.1.2, h.2⟩⟩
theorem chn_cg {P P' : Nat → Pg} : ∀ (A : Lev) (z : Int32), (∀ x, x ∈ A → P' x.2 = P x.2) → chn P A z → chn P' A z := by
  intro A
  induction A with
  | nil => intro z _ h; exact h
  | cons x A ih =>
    intro z h1 h
    exact ⟨by rw [h1 x List.mem_cons_self]; exact h.1, ih z (fun y hy => h1 y (List.mem_cons_of_mem _ hy)) h.2⟩
theorem fm_cg {β : Type} {f f' : Int × Nat → List β} : ∀ (A : Lev), (∀ x, x ∈ A → f' x = f x) → A.flatMap f' = A.flatMap f := by
  intro A
  induction A with
  | nil => intro _; rfl
  | cons x A ih =>
    intro h
    rw [List.flatMap_cons, List.flatMap_cons, h x List.mem_cons_self, ih (fun y hy => h y (List.mem_cons_of_mem _ hy))]
theorem kd_cg {P P' : Nat → Pg} (A : Lev) (h : ∀ x, x ∈ A → P' x.2 = P x.2) : A.flatMap (kd P') = A.flatMap (kd P) := fm_cg A (fun x hx => by unfold kd; rw [h x hx])
theorem lk_cg {P P' : Nat → Pg} (A : Lev) (h : ∀ x, x ∈ A → P' x.2 = P x.2) : A.flatMap (lk P') = A.flatMap (lk P) := fm_cg A (fun x hx => by unfold lk; rw [h x hx])
/-- an inner page -/
def inn (P : Nat → Pg) (p : Nat) : Prop := (P p).1 = 2 ∧ (P p).2.2 = -1 ∧ (P p).2.1 ≠ [] ∧ ∀ e, e ∈ (P p).2.1 → ∃ c, c < 40 ∧ e.2 = nI c
def TI (P : Nat → Pg) (rt h : Nat) (L : Nat → Lev) : Prop :=
  L 0 = [(-2147483648, rt)] ∧
  (∀ d, d < h → ∀ x, x ∈ L d → inn P x.2) ∧
  (∀ d, d < h → L (d + 1) = (L d).flatMap (kd P)) ∧
  (∀ x, x ∈ L h → (P x.2).1 = 1) ∧
  ((L h).flatMap (lk P)).Pairwise (· < ·) ∧
  chn P (L h) (-1) ∧
  (∀ d, d ≤ h → ∀ x, x ∈ L d → x.2 < 40) ∧
  (∀ d, d ≤ h → ((L d).map Prod.snd).Nodup) ∧
  (∀ d e, d ≤ h → e ≤ h → ∀ x, x ∈ L d → ∀ y, y ∈ L e → x.2 = y.2 → d = e) ∧
  (∀ p, p < 40 → (P p).1 ≠ 0 → ∃ d, d ≤ h ∧ ∃ lo, (lo, p) ∈ L d) ∧
  (∀ p, p < 40 → (P p).1 = 0 → P p = (0, [], -1))
theorem TI.nf {P : Nat → Pg} {rt h : Nat} {L : Nat → Lev} (T : TI P rt h L) {d : Nat} (hd : d ≤ h) {x : Int × Nat} (hx : x ∈ L d) : (P x.2).1 ≠ 0 := by
  obtain ⟨t1, t2, t3, t4, -⟩ := T
  by_cases e : d = h
  · subst e; rw [t4 x hx]; decide
  · rw [(t2 d (by omega) x hx).1]; decide
/-- one level anew -/
theorem TI.relev {P P' : Nat → Pg} {rt h : Nat} {L : Nat → Lev} (T : TI P rt h L) {d : Nat} (hd : d ≤ h) {B : Lev}
    (hP : ∀ k, k ≤ h → k ≠ d → k + 1 ≠ d → ∀ x, x ∈ L k → P' x.2 = P x.2)
    (hr : d = 0 → B = [(-2147483648, rt)])
    (hup : ∀ k, k + 1 = d → (∀ x, x ∈ L k → inn P' x.2) ∧ B = (L k).flatMap (kd P'))
    (hdn : d < h → (∀ x, x ∈ B → inn P' x.2) ∧ L (d + 1) = B.flatMap (kd P'))
    (hlf : d = h → (∀ x, x ∈ B → (P' x.2).1 = 1) ∧ (B.flatMap (lk P')).Pairwise (· < ·) ∧ chn P' B (-1))
    (h40 : ∀ x, x ∈ B → x.2 < 40) (hnd : (B.map Prod.snd).Nodup) (hdj : ∀ k, k ≤ h → k ≠ d → ∀ x, x ∈ B → ∀ y, y ∈ L k → x.2 ≠ y.2)
    (h9 : ∀ p, p < 40 → (P' p).1 ≠ 0 → (∃ lo, (lo, p) ∈ B) ∨ ∃ k, k ≤ h ∧ k ≠ d ∧ ∃ lo, (lo, p) ∈ L k)
    (h10 : ∀ p, p < 40 → (P' p).1 = 0 → P' p = (0, [], -1)) : TI P' rt h (fun k => if k = d then B else L k) := by
  obtain ⟨t1, t2, t3, t4, t5, t6, t7, t8, t9, t10, t11⟩ := T
  refine ⟨?_, fun k hk x hx => ?_, fun k hk => ?_, fun x hx => ?_, ?_, ?_, fun k hk x hx => ?_, fun k hk => ?_, fun k e hk he x hx y hy exy => ?_, fun p hp hn => ?_, h10⟩
  · show (if 0 = d then B else L 0) = _
    by_cases e : 0 = d
    · rw [if_pos e]; exact hr e.symm
    · rw [if_neg e]; exact t1
  · have hx' : x ∈ if k = d then B else L k := hx
    by_cases e : k = d
    · rw [if_pos e] at hx'; exact (hdn (by omega)).1 x hx'
    · rw [if_neg e] at hx'
      by_cases e2 : k + 1 = d
      · exact (hup k e2).1 x hx'
      · unfold inn
        rw [hP k (by omega) e e2 x hx']
        exact t2 k hk x hx'
  · show (if k + 1 = d then B else L (k + 1)) = (if k = d then B else L k).flatMap (kd P')
    by_cases e : k + 1 = d
    · rw [if_pos e, if_neg (by omega)]; exact (hup k e).2
    · rw [if_neg e]
      by_cases e2 : k = d
      · rw [if_pos e2]
        subst e2
        exact (hdn (by omega)).2
      · rw [if_neg e2, kd_cg (L k) (hP k (by omega) e2 e)]; exact t3 k hk
  · have hx' : x ∈ if h = d then B else L h := hx
    by_cases e : h = d
    · rw [if_pos e] at hx'; exact (hlf e.symm).1 x hx'
    · rw [if_neg e] at hx'; rw [hP h (Nat.le_refl _) e (by omega) x hx']; exact t4 x hx'
  · show ((if h = d then B else L h).flatMap (lk P')).Pairwise (· < ·)
    by_cases e : h = d
    · rw [if_pos e]; exact (hlf e.symm).2.1
    · rw [if_neg e, lk_cg (L h) (hP h (Nat.le_refl _) e (by omega))]; exact t5
  · show chn P' (if h = d then B else L h) (-1)
    by_cases e : h = d
    · rw [if_pos e]; exact (hlf e.symm).2.2
    · rw [if_neg e]; exact chn_cg _ _ (hP h (Nat.le_refl _) e (by omega)) t6
  · have hx' : x ∈ if k = d then B else L k := hx
    by_cases e : k = d
    · rw [if_pos e] at hx'; exact h40 x hx'
    · rw [if_neg e] at hx'; exact t7 k hk x hx'
  · show ((if k = d then B else L k).map Prod.snd).Nodup
    by_cases e : k = d
    · rw [if_pos e]; exact hnd
    · rw [if_neg e]; exact t8 k hk
  · have hx' : x ∈ if k = d then B else L k := hx
    have hy' : y ∈ if e = d then B else L e := hy
    by_cases e1 : k = d
    · by_cases e2 : e = d
      · omega
      · rw [if_pos e1] at hx'; rw [if_neg e2] at hy'
        exact absurd exy (hdj e he e2 x hx' y hy')
    · by_cases e2 : e = d
      · rw [if_neg e1] at hx'; rw [if_pos e2] at hy'
        exact absurd exy.symm (hdj k hk e1 y hy' x hx')
      · rw [if_neg e1] at hx'; rw [if_neg e2] at hy'
        exact t9 k e hk he x hx' y hy' exy
  · rcases h9 p hp hn with ⟨lo, hl⟩ | ⟨k, hk, hkd, lo, hl⟩
    · exact ⟨d, hd, lo, by show (lo, p) ∈ if d = d then B else L d; rw [if_pos rfl]; exact hl⟩
    · exact ⟨k, hk, lo, by show (lo, p) ∈ if k = d then B else L k; rw [if_neg hkd]; exact hl⟩
/-- a leaf's entries anew -/
theorem TI.leaf {P : Nat → Pg} {rt h : Nat} {L : Nat → Lev} (T : TI P rt h L) {U V : Lev} {lo : Int} {p : Nat} (hL : L h = U ++ (lo, p) :: V) {l : List It} (hs : (U.flatMap (lk P) ++ ((2 * lo - 1) :: l.map (fun e => 2 * e.1.toInt)) ++ V.flatMap (lk P)).Pairwise (· < ·)) : TI (sp P p ((P p).1, l, (P p).2.2)) rt h L := by
  have T0 := T
  obtain ⟨t1, t2, t3, t4, t5, t6, t7, t8, t9, t10, t11⟩ := T
  have hpm : (lo, p) ∈ L h := by rw [hL]; simp
  have hp40 := t7 h (Nat.le_refl _) _ hpm
  have hk1 := t4 _ hpm
  simp only at hp40 hk1
  have hnd := t8 h (Nat.le_refl _)
  rw [hL] at hnd
  simp only [List.map_append, List.map_cons] at hnd
  have hndU : ∀ x, x ∈ U → x.2 ≠ p := fun x hx e => by
    have := (List.nodup_append.mp hnd).2.2 x.2 (List.mem_map.mpr ⟨x, hx, rfl⟩) p (by simp)
    exact this e
  have hndV : ∀ x, x ∈ V → x.2 ≠ p := fun x hx e => by
    have := (List.nodup_cons.mp (List.nodup_append.mp hnd).2.1).1
    exact this (by rw [← e]; exact List.mem_map.mpr ⟨x, hx, rfl⟩)
  have hoth : ∀ k, k ≤ h → k ≠ h → ∀ x, x ∈ L k → x.2 ≠ p := fun k hk hkh x hx e => hkh (t9 k h hk (Nat.le_refl _) x hx _ hpm e)
  have e0 : (fun k => if k = h then L h else L k) = L := by
    funext k
    by_cases e : k = h
    · rw [if_pos e, e]
    · rw [if_neg e]
  rw [← e0]
  refine T0.relev (Nat.le_refl _) (fun k hk hkh _ x hx => sp_n P _ (hoth k hk hkh x hx)) (fun e => by rw [e]; exact t1) (fun k hk => ?_) (fun e => absurd e (by omega)) (fun _ => ⟨fun x hx => ?_, ?_, ?_⟩) (fun x hx => t7 h (Nat.le_refl _) x hx) (t8 h (Nat.le_refl _)) (fun k hk hkh x hx y hy e => hkh (t9 k h hk (Nat.le_refl _) y hy x hx e.symm)) (fun q hq hn => ?_) (fun q hq hn => ?_)
  · have hag : ∀ x, x ∈ L k → sp P p ((P p).1, l, (P p).2.2) x.2 = P x.2 := fun x hx => sp_n P _ (hoth k (by omega) (by omega) x hx)
    refine ⟨fun x hx => ?_, ?_⟩
    · unfold inn; rw [hag x hx]; exact t2 k (by omega) x hx
    · rw [kd_cg (L k) hag, ← hk]; exact t3 k (by omega)
  · by_cases e : x.2 = p
    · rw [e, sp_s]; exact hk1
    · rw [sp_n P _ e]; exact t4 x hx
  · rw [hL, List.flatMap_append, List.flatMap_cons, lk_cg U (fun x hx => sp_n P _ (hndU x hx)), lk_cg V (fun x hx => sp_n P _ (hndV x hx))]
    unfold lk
    rw [sp_s, ← List.append_assoc]
    exact hs
  · rw [hL] at t6 ⊢
    rw [chn_app] at t6 ⊢
    refine ⟨chn_cg _ _ (fun x hx => sp_n P _ (hndU x hx)) t6.1, ?_, chn_cg _ _ (fun x hx => sp_n P _ (hndV x hx)) t6.2.2⟩
    rw [sp_s]; exact t6.2.1
  · by_cases e : q = p
    · subst e; exact Or.inl ⟨lo, hpm⟩
    · rw [sp_n P _ e] at hn
      obtain ⟨d, hd, lo2, hl⟩ := t10 q hq hn
      by_cases e2 : d = h
      · subst e2; exact Or.inl ⟨lo2, hl⟩
      · exact Or.inr ⟨d, hd, e2, lo2, hl⟩
  · by_cases e : q = p
    · subst e; rw [sp_s] at hn; simp only at hn; rw [hk1] at hn; exact absurd hn (by decide)
    · rw [sp_n P _ e] at hn ⊢; exact t11 q hq hn
