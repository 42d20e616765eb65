theorem kl_snd (lo : Int) (l : List It) : (kl lo l).map Prod.snd = l.map pg := by
  cases l with
  | nil => rfl
  | cons x l => simp [kl, pg, mkc]
theorem TI.kids {P : Nat → Pg} {rt h : Nat} {L : Nat → Lev} (T : TI P rt h L) {e : Nat} (he : e < h) {lo : Int} {par : Nat} (hm : (lo, par) ∈ L e) : ((P par).2.1.map pg).Nodup := by
  obtain ⟨U, V, hL⟩ := List.append_of_mem hm
  have := T.2.2.2.2.2.2.2.1 (e + 1) (by omega)
  rw [T.2.2.1 e he, hL, List.flatMap_append, List.flatMap_cons, List.map_append, List.map_append] at this
  have := (List.nodup_append.mp (List.nodup_append.mp this).2.1).1
  unfold kd at this
  rw [kl_snd] at this
  exact this
theorem touchMD {g : Nat} (hg : 30 < g) {S R : Mem} {P : Nat → Pg} {pl : List Nat} {q : Nat} (h : MD S R P pl []) (hq : q < 40) (hn : q ∉ pl) (h0 : (P q).1 ≠ 0) (hl : pl.length ≤ 11) : ∃ S' R', f_X1_touch g S (nI q) 0 = some S' ∧ f_X5_touch g R (nI q) 0 = some R' ∧ MD S' R' P (q :: pl) [] ∧ smX [7, 8, 9, 10, 11] S S' ∧ smR R R' := by
  obtain ⟨hRC, hRM, hF, hM, hN⟩ := h
  obtain ⟨S', R', a1, a2, a3, a4, a5, a6, a7⟩ := touch_both (w := 0) hg hF hM hq hn (by simp) hl
  exact ⟨S', R', a1, a2, ⟨hRC.sm a5 (by decide), hRM.sm a6.1 (by decide), a3, a4, hN.step hq a7 (fun y _ hy => hy) h0⟩, a5, a6⟩
theorem Out.wk {S R S1 R1 : Mem} {P : Nat → Pg} {pl pl2 : List Nat} {w : Nat → Nat × Nat} {h e rt : Nat} {L : Nat → Lev} {S' R' : Mem} (h1 : smX [7, 8, 9, 10, 11] S S1) (h2 : smR R R1) (h3 : pl.length ≤ pl2.length) (ho : Out S1 R1 P pl w h e rt L S' R') : Out S R P pl2 w h e rt L S' R' := by
  obtain ⟨P', L', pl', a1, a2, a3, a4, a5, a6, a7, a8, a9, a10⟩ := ho
  exact ⟨P', L', pl', a1, a2, a3, a4, a5, a6, a7, by omega, (h1.wk (by simp)).tr a9, h2.q.tr a10⟩
def C3 (g : Nat) (r2 r4 r6 t7 t11 : Int32) (S15 : Mem) : Option Mem := if t7 = ((-1)) then (if t11 = ((-1)) then (some S15) else (bd (f_X4_join g S15 r4 (r6 + 1) r2 t11) (fun S20 => some S20))) else (bd (f_X4_join g S15 r4 r6 t7 r2) (fun S22 => some S22))
def C2 (g : Nat) (r2 r4 r6 t7 t11 : Int32) (S13 : Mem) : Option Mem := if t11 = ((-1)) then (C3 g r2 r4 r6 t7 t11 S13) else (bd (f_X1_touch g S13 t11 0) (fun S25 => bd (f_X0_countOf g S25 t11) (fun r27 => if r27 ≤ 2 then (C3 g r2 r4 r6 t7 t11 S25) else (bd (f_X4_giveFromRight g S25 r4 (r6 + 1) r2 t11) (fun S30 => some S30)))))
def C1 (g : Nat) (r2 r4 r6 t7 t11 : Int32) (S : Mem) : Option Mem := if t7 = ((-1)) then (C2 g r2 r4 r6 t7 t11 S) else (bd (f_X1_touch g S t7 0) (fun S33 => bd (f_X0_countOf g S33 t7) (fun r35 => if r35 ≤ 2 then (C2 g r2 r4 r6 t7 t11 S33) else (bd (f_X4_giveFromLeft g S33 r4 r6 t7 r2) (fun S38 => some S38)))))
theorem c_mend_eq (g : Nat) (S : Mem) (a1 : Int32) : f_X4_mend g S a1 = bd (f_X3_pageAt g S a1) (fun r2 => bd (f_X3_pageAt g S (a1 - 1)) (fun r4 => bd (f_X3_slotAt g S a1) (fun r6 => jn1 (fun (t7 : Int32) => bd (f_X0_countOf g S r4) (fun r10 => jn1 (fun (t11 : Int32) => C1 g r2 r4 r6 t7 t11 S) (fun j12 => if r10 ≤ (r6 + 1) then (j12 ((-1))) else (bd (f_X0_secondAt g S r4 (r6 + 1)) (fun r41 => j12 r41))))) (fun j8 => if r6 ≤ 0 then (j8 ((-1))) else (bd (f_X0_secondAt g S r4 (r6 - 1)) (fun r44 => j8 r44)))))) := rfl
def N3 (g : Nat) (par c t3 : Int32) (S10 : Mem) : Option Mem := jn1 (fun (t12 : Int32) => bd (f_X5_join g S10 par t12) (fun S15 => some S15)) (fun j13 => if t3 = 0 then (j13 c) else (j13 (c - 1)))
def N2 (g : Nat) (par c t3 t6 : Int32) (S8 : Mem) : Option Mem := if t6 = 0 then (N3 g par c t3 S8) else (gd (ix_in (((5 * par) + c) + 1) 200) (bd (f_X5_touch g S8 (S8.1 4 (((5 * par) + c) + 1).toNatClampNeg) 0) (fun S20 => gd (ix_in (S8.1 4 (((5 * par) + c) + 1).toNatClampNeg) 40) (if (S20.1 2 (S8.1 4 (((5 * par) + c) + 1).toNatClampNeg).toNatClampNeg) ≤ 2 then (N3 g par c t3 S20) else (bd (f_X5_give g S20 par c 0) (fun S24 => some S24))))))
def N1 (g : Nat) (par c t3 t6 : Int32) (S : Mem) : Option Mem := if t3 = 0 then (N2 g par c t3 t6 S) else (gd (ix_in (((5 * par) + c) - 1) 200) (bd (f_X5_touch g S (S.1 4 (((5 * par) + c) - 1).toNatClampNeg) 0) (fun S28 => gd (ix_in (S.1 4 (((5 * par) + c) - 1).toNatClampNeg) 40) (if (S28.1 2 (S.1 4 (((5 * par) + c) - 1).toNatClampNeg).toNatClampNeg) ≤ 2 then (N2 g par c t3 t6 S28) else (bd (f_X5_give g S28 par (c - 1) 1) (fun S32 => some S32))))))
theorem m_mend_eq (g : Nat) (S : Mem) (a1 : Int32) : f_X5_mend g S a1 = gd (ix_in (a1 - 1) 50) (gd (ix_in a1 50) (jn1 (fun (t3 : Int32) => gd (ix_in (S.1 6 (a1 - 1).toNatClampNeg) 40) (jn1 (fun (t6 : Int32) => N1 g (S.1 6 (a1 - 1).toNatClampNeg) (S.1 7 a1.toNatClampNeg) t3 t6 S) (fun j7 => if (S.1 2 (S.1 6 (a1 - 1).toNatClampNeg).toNatClampNeg) ≤ ((S.1 7 a1.toNatClampNeg) + 1) then (j7 0) else (j7 1)))) (fun j4 => if (S.1 7 a1.toNatClampNeg) ≤ 0 then (j4 0) else (j4 1)))) := rfl
def tl7 (X : List It) : Int32 := match X.getLast? with
  | some z => z.2
  | none => -1
def tr11 (Y : List It) : Int32 := match Y with
  | z :: _ => z.2
  | [] => -1
def t01 (X : List It) : Int32 := if X = [] then 0 else 1
theorem lastX {X : List It} (h : X ≠ []) : ∃ X' z, X = X' ++ [z] ∧ tl7 X = z.2 ∧ t01 X = 1 := by
  obtain ⟨X', z, rfl⟩ := lastE h
  refine ⟨X', z, rfl, ?_, ?_⟩
  · unfold tl7; rw [List.getLast?_append]; simp
  · unfold t01; simp
/-- the context of a page that is short -/
def Shc (P : Nat → Pg) (rt h : Nat) (L : Nat → Lev) (w : Nat → Nat × Nat) (e p : Nat) (X Y : List It) (m1 c d : Int32) : Prop :=
  TI P rt h L ∧ e < h ∧ (∀ k, k ≤ e → ∃ lo, (lo, (w k).1) ∈ L k) ∧ p < 40 ∧ (P (w e).1).2.1 = X ++ (m1, nI p) :: Y ∧ (P p).2.1 = [(c, d)] ∧ CNx P rt h p
theorem Shc.kid {P : Nat → Pg} {rt h : Nat} {L : Nat → Lev} {w : Nat → Nat × Nat} {e p : Nat} {X Y : List It} {m1 c d : Int32} (hs : Shc P rt h L w e p X Y m1 c d) {z : It} (hz : z ∈ X ++ (m1, nI p) :: Y) : ∃ q, q < 40 ∧ z.2 = nI q ∧ (P q).1 ≠ 0 ∧ (∃ lo, (lo, q) ∈ L (e + 1)) ∧ (q = p ∨ 2 ≤ (P q).2.1.length) := by
  obtain ⟨T, he, hwm, p40, hX, hp1, hcn⟩ := hs
  obtain ⟨loe, hme⟩ := hwm e (Nat.le_refl _)
  have hin := T.2.1 e he _ hme
  unfold inn at hin
  simp only at hin
  rw [hX] at hin
  obtain ⟨q, hq, hzq⟩ := hin.2.2.2 z hz
  obtain ⟨lo, hlo⟩ := T.child he hme (z := z) (by rw [hX]; exact hz)
  have hpg : pg z = q := by unfold pg; rw [hzq, nI_clamp (by omega)]
  rw [hpg] at hlo
  have hnf := T.nf (show e + 1 ≤ h by omega) hlo
  refine ⟨q, hq, hzq, hnf, ⟨lo, hlo⟩, ?_⟩
  rcases (hcn q hq hnf).2 with z | ⟨z, -⟩ | ⟨z1, z2⟩
  · exact Or.inr z
  · exact Or.inl z
  · omega
theorem mend3 {g : Nat} (hg : 30 < g) {S R : Mem} {P : Nat → Pg} {pl : List Nat} {w : Nat → Nat × Nat} {h e rt p : Nat} {L : Nat → Lev} {X Y : List It} {m1 c d : Int32} (hMD : MD S R P pl []) (hx : Shc P rt h L w e p X Y m1 c d) (h2 : 2 ≤ (P (w e).1).2.1.length) (hplw : ∀ k, k ≤ e → (w k).1 ∈ pl) (hPLI : PLI e w h L pl) (mp : p ∈ pl) (mX : ∀ z q, z ∈ X.getLast? → z.2 = nI q → q < 40 → q ∈ pl ∧ (P q).2.1.length ≤ 2) (mY : ∀ z q, z ∈ Y.head? → z.2 = nI q → q < 40 → q ∈ pl ∧ (X = [] → (P q).2.1.length ≤ 2)) :
    ∃ S' R', C3 g (nI p) (nI (w e).1) (nI X.length) (tl7 X) (tr11 Y) S = some S' ∧ N3 g (nI (w e).1) (nI X.length) (t01 X) R = some R' ∧ Out S R P pl w h e rt L S' R' := by
  have hx0 := hx
  obtain ⟨T, he, hwm, p40, hX, hp1, hcn⟩ := hx
  by_cases hX0 : X = []
  · cases hY : Y with
    | nil => rw [hX, hX0, hY] at h2; simp at h2
    | cons z Y' =>
      obtain ⟨r, r40, hzr, hr0, ⟨lor, hrm⟩, hr2⟩ := hx0.kid (z := z) (by rw [hY]; simp)
      have hzz : z = (z.1, nI r) := by rw [← hzr]
      obtain ⟨loe, hme⟩ := hwm e (Nat.le_refl _)
      have hpar : (P (w e).1).2.1 = [] ++ (m1, nI p) :: (z.1, nI r) :: Y' := by rw [hX, hX0, hY, ← hzz]
      obtain ⟨-, -, hpr, -⟩ := T.two he hme hpar p40 r40
      have hlen : (P r).2.1.length = 2 := by
        have a := (mY z r (by rw [hY]; rfl) hzr r40).2 hX0
        rcases hr2 with q | q
        · exact absurd q.symm hpr
        · omega
      obtain ⟨c0, d0, C, hC⟩ : ∃ c0 d0 C, (P r).2.1 = (c0, d0) :: C := by
        cases hq : (P r).2.1 with
        | nil => rw [hq] at hlen; simp at hlen
        | cons a b => exact ⟨a.1, a.2, b, rfl⟩
      obtain ⟨S', R', a1, a2, a3⟩ := join_out hg hMD T he hwm hpar p40 r40 hp1 (by simp) hC (by rw [hC] at hlen; simp at hlen ⊢; omega) hcn (Or.inl rfl) hplw hPLI mp (mY z r (by rw [hY]; rfl) hzr r40).1
      refine ⟨S', R', ?_, ?_, a3⟩
      · unfold C3
        have t1 : tl7 X = -1 := by rw [hX0]; rfl
        have t2 : tr11 (z :: Y') = nI r := hzr
        rw [t1, if_pos rfl, t2, if_neg (nI_m1 (by omega)), hX0]
        have : nI ([] : List It).length + 1 = nI (([] : List It).length + 1) := nI_1 _
        rw [this, a1, bdS]
      · unfold N3 t01
        rw [if_pos hX0]
        simp only [jn1]
        rw [if_pos trivial, hX0, a2, bdS]
  · obtain ⟨X', z, hXe, ht7, ht01⟩ := lastX hX0
    obtain ⟨l, l40, hzl, hl0, ⟨lol, hlm⟩, hl2⟩ := hx0.kid (z := z) (by rw [hXe]; simp)
    have hzz : z = (z.1, nI l) := by rw [← hzl]
    obtain ⟨loe, hme⟩ := hwm e (Nat.le_refl _)
    have hpar : (P (w e).1).2.1 = X' ++ (z.1, nI l) :: (m1, nI p) :: Y := by rw [hX, hXe, ← hzz]; simp
    obtain ⟨-, -, hlp, -⟩ := T.two he hme hpar l40 p40
    have hlast : z ∈ X.getLast? := by rw [hXe, List.getLast?_append]; simp
    have hlen : (P l).2.1.length = 2 := by
      have a := (mX z l hlast hzl l40).2
      rcases hl2 with q | q
      · exact absurd q hlp
      · omega
    obtain ⟨S', R', a1, a2, a3⟩ := join_out hg hMD T he hwm hpar l40 p40 rfl (fun q => by rw [q] at hlen; simp at hlen) hp1 (by simp; omega) hcn (Or.inr rfl) hplw hPLI (mX z l hlast hzl l40).1 mp
    have hXl : X.length = X'.length + 1 := by rw [hXe]; simp
    refine ⟨S', R', ?_, ?_, a3⟩
    · unfold C3
      rw [ht7, hzl, if_neg (nI_m1 (by omega)), hXl, a1, bdS]
    · unfold N3
      rw [ht01]
      simp only [jn1]
      rw [if_neg (by decide), hXl, nI_pred, a2, bdS]
