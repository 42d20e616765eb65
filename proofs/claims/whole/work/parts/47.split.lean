/-! splitting, both sides -/
theorem FI.sm {l : List Nat} {S T : Mem} {pl : List Nat} (hF : FI S pl) (hs : smX l S T) (hl : ∀ k, k ∈ l → k ≠ 7 ∧ k ≠ 8 ∧ k ≠ 9 ∧ k ≠ 10 ∧ k ≠ 11) : FI T pl := by
  unfold FI
  rw [hs.2 7 (fun q => (hl _ q).1 rfl), hs.2 8 (fun q => (hl _ q).2.1 rfl), hs.2 9 (fun q => (hl _ q).2.2.1 rfl), hs.2 10 (fun q => (hl _ q).2.2.2.1 rfl), hs.2 11 (fun q => (hl _ q).2.2.2.2 rfl)]
  exact hF
theorem FM.smC {l D : List Nat} {S T R : Mem} (hM : FM D S R) (hs : smX l S T) (hl : ∀ k, k ∈ l → k ≠ 7 ∧ k ≠ 8 ∧ k ≠ 9 ∧ k ≠ 10 ∧ k ≠ 11) : FM D T R := by
  unfold FM Dq
  rw [hs.2 7 (fun q => (hl _ q).1 rfl), hs.2 8 (fun q => (hl _ q).2.1 rfl), hs.2 9 (fun q => (hl _ q).2.2.1 rfl), hs.2 10 (fun q => (hl _ q).2.2.2.1 rfl), hs.2 11 (fun q => (hl _ q).2.2.2.2 rfl)]
  exact hM
theorem FM.smM {l D : List Nat} {S R T : Mem} (hM : FM D S R) (hs : smX l R T) (hl : ∀ k, k ∈ l → k ≠ 8 ∧ k ≠ 9 ∧ k ≠ 10 ∧ k ≠ 11) (h0 : ∀ j, j = 15 ∨ j = 16 ∨ j = 17 ∨ j = 18 → T.1 0 j = R.1 0 j) : FM D S T := by
  unfold FM Dq
  rw [hs.2 8 (fun q => (hl _ q).1 rfl), hs.2 9 (fun q => (hl _ q).2.1 rfl), hs.2 10 (fun q => (hl _ q).2.2.1 rfl), hs.2 11 (fun q => (hl _ q).2.2.2 rfl), h0 15 (by simp), h0 16 (by simp), h0 17 (by simp), h0 18 (by simp)]
  exact hM
/-- the pages that frames hold are not free -/
def HN (S : Mem) (P : Nat → Pg) : Prop := ∀ i, i < 12 → ∀ q, q < 40 → S.1 8 i = nI q → (P q).1 ≠ 0
theorem HN.pl {S : Mem} {P : Nat → Pg} {pl : List Nat} (h : HN S P) (hF : FI S pl) {q : Nat} (hq : q ∈ pl) : (P q).1 ≠ 0 := by
  obtain ⟨a, i, hi, b, -⟩ := hF.2.2.2.2.2 q hq
  exact h i hi q a b
def smQ (R T : Mem) : Prop := smX [0, 1, 2, 3, 4, 5, 8, 9, 10, 11] R T ∧ ∀ j, j ≠ 15 → j ≠ 16 → j ≠ 17 → j ≠ 18 → T.1 0 j = R.1 0 j
theorem smQ.rf {R : Mem} : smQ R R := ⟨smX.rf, fun _ _ _ _ _ => rfl⟩
theorem smQ.tr {R T U : Mem} (h1 : smQ R T) (h2 : smQ T U) : smQ R U := ⟨h1.1.tr h2.1, fun j a b c d => (h2.2 j a b c d).trans (h1.2 j a b c d)⟩
theorem smR.q {R T : Mem} (h : smR R T) : smQ R T := ⟨h.1.wk (by simp), h.2⟩
theorem smQ.of {l : List Nat} {R T : Mem} (h : smX l R T) (hl : ∀ k, k ∈ l → k ≠ 0 ∧ (k ∈ [0, 1, 2, 3, 4, 5, 8, 9, 10, 11])) : smQ R T := ⟨h.wk (fun k hk => (hl k hk).2), fun j _ _ _ _ => by rw [h.2 0 (fun q => (hl 0 q).1 rfl)]⟩
abbrev lC : List Nat := [2, 3, 4, 5, 6, 7, 8, 9, 10, 11]
def MD (S R : Mem) (P : Nat → Pg) (pl D : List Nat) : Prop := RC S P ∧ RM R P ∧ FI S pl ∧ FM D S R ∧ HN S P
theorem m_spL {g : Nat} (hg : 30 < g) {w1 : Int32} {p q : Nat} (hp : p < 40) (hq : q < 40) (hpq : p ≠ q) : ∀ (Y X Z : List It) (n : Nat) (M : Mem) (Q : Nat → Pg), RM M Q → (Q p).2.1 = X ++ Y → (Q q).2.1 = Z → X.length + Y.length = 5 → X.length = Z.length + 2 → Y.length < n → ∃ M', (∀ kx : Mem → Option Mem, f_X5_split_73 g w1 (nI p) (nI q) kx n M (nI X.length) = kx M') ∧ RM M' (sp Q q ((Q q).1, Z ++ Y, (Q q).2.2)) ∧ smX [2, 3, 4] M M' := by
  intro Y
  induction Y with
  | nil =>
    intro X Z n M Q hR hl hz h5 hx hn
    obtain ⟨n, rfl⟩ : ∃ m, n = m + 1 := ⟨n - 1, by omega⟩
    simp at h5
    refine ⟨M, ?_, ?_, smX.rf⟩
    · intro kx; rw [f_X5_split_73, if_pos (le5 (by omega) (by omega))]
    · have : sp Q q ((Q q).1, Z ++ [], (Q q).2.2) = Q := by
        funext y
        unfold sp
        by_cases e : y = q
        · rw [if_pos e, List.append_nil, ← hz, e]
        · rw [if_neg e]
      rw [this]; exact hR
  | cons y Y ih =>
    intro X Z n M Q hR hl hz h5 hx hn
    obtain ⟨n, rfl⟩ : ∃ m, n = m + 1 := ⟨n - 1, by omega⟩
    simp at h5 hn
    obtain ⟨M1, a1, a2, a3⟩ := m_ins hg hR (X := Z) (Y := []) y.1 y.2 hq (by rw [hz]; simp) (by simp; omega)
    obtain ⟨M', b1, b2, b3⟩ := ih (X ++ [y]) (Z ++ [y]) n M1 (sp Q q ((Q q).1, Z ++ [(y.1, y.2)], (Q q).2.2)) a2 (by rw [sp_n _ _ hpq, hl]; simp) (by rw [sp_s]) (by simp; omega) (by simp; omega) (by omega)
    refine ⟨M', ?_, ?_, a3.tr b3⟩
    · intro kx
      have e1 : 5 * nI p + nI X.length = nI (5 * p + X.length) := by rw [nI_m5, nI_add]
      have hc := (hR p hp).2.2.2.2 X.length y (by rw [hl]; exact getX _ _ _)
      rw [f_X5_split_73, if_neg (nle5 (by omega)), e1, gdI (by omega) (by decide), gdI (by omega) (by decide)]
      simp only [nI_clamp (show 5 * p + X.length < 2 ^ 31 by omega), hc.1, hc.2]
      rw [nI_s2 (by omega), show X.length - 2 = Z.length by omega, a1, bdS, nI_1]
      have := b1 kx
      rw [List.length_append, List.length_singleton] at this
      exact this
    · have : sp (sp Q q ((Q q).1, Z ++ [(y.1, y.2)], (Q q).2.2)) q ((sp Q q ((Q q).1, Z ++ [(y.1, y.2)], (Q q).2.2) q).1, Z ++ [y] ++ Y, (sp Q q ((Q q).1, Z ++ [(y.1, y.2)], (Q q).2.2) q).2.2) = sp Q q ((Q q).1, Z ++ y :: Y, (Q q).2.2) := by
        rw [sp_s]
        funext z
        unfold sp
        by_cases e : z = q
        · rw [if_pos e, if_pos e]; simp
        · rw [if_neg e, if_neg e, if_neg e]
      rw [this] at b2; exact b2
/-- the page splits: what stays, what goes; the parent not yet -/
def spm (P : Nat → Pg) (p q : Nat) (A B : List It) (m b : Int32) : Nat → Pg := sp (sp P p ((P p).1, A, if (P p).1 = 1 then nI q else -1)) q ((P p).1, (if (P p).1 = 1 then m else 0, b) :: B, (P p).2.2)
theorem c_spA {g : Nat} (hg : 50 < g) {S : Mem} {P : Nat → Pg} {p q : Nat} (hp : p < 40) (hq : q < 40) (hpq : p ≠ q) (hR : RC S (sp P q ((P p).1, [], -1))) {A B : List It} {m b : Int32} (hA : (P p).2.1 = A ++ (m, b) :: B) (hA2 : A.length = 2) (hB2 : B.length = 2) (hk : (P p).1 = 1 ∨ ((P p).1 = 2 ∧ (P p).2.2 = -1)) :
    ∃ S14, (∀ K : Mem → Option Mem, bd (f_X0_moveItems g S (nI p) 2 (nI q)) (fun S11 => bd (f_X0_kindOf g S11 (nI p)) (fun r13 => jn1 K (fun j15 => if r13 = 1 then (bd (f_X0_leafAfter g S11 (nI p)) (fun r37 => bd (f_X0_setLeafAfter g S11 (nI q) r37) (fun S39 => bd (f_X0_setLeafAfter g S39 (nI p) (nI q)) (fun S41 => j15 S41)))) else (bd (f_X0_setKey g S11 (nI q) 0 0) (fun S35 => j15 S35))))) = K S14) ∧ RC S14 (spm P p q A B m b) ∧ smX [3, 4, 5, 6] S S14 := by
  obtain ⟨P1, hP1⟩ : ∃ P1, P1 = sp P q ((P p).1, ([] : List It), (-1 : Int32)) := ⟨_, rfl⟩
  rw [← hP1] at hR
  have p1 : P1 p = P p := by rw [hP1, sp_n _ _ hpq]
  have q1 : P1 q = ((P p).1, [], -1) := by rw [hP1, sp_s]
  obtain ⟨S11, a1, a2, a3⟩ := c_mov (g := g) (by omega) hR (a := p) (b := q) (X := A) (Y := (m, b) :: B) (Z := []) hp hq hpq (by rw [p1]; exact hA) (by rw [q1]) (by simp; omega)
  rw [hA2] at a1
  rw [p1, q1] at a2
  simp only [List.nil_append] at a2
  obtain ⟨P2, hP2⟩ : ∃ P2, P2 = sp (sp P1 p ((P p).1, A, (P p).2.2)) q ((P p).1, (m, b) :: B, (-1 : Int32)) := ⟨_, rfl⟩
  rw [← hP2] at a2
  have p2 : P2 p = ((P p).1, A, (P p).2.2) := by rw [hP2, sp_n _ _ hpq, sp_s]
  have q2 : P2 q = ((P p).1, (m, b) :: B, -1) := by rw [hP2, sp_s]
  have hkk : f_X0_kindOf g S11 (nI p) = some (P p).1 := by rw [c_kind a2 hp, p2]
  rcases hk with hk | ⟨hk, hn⟩
  · obtain ⟨S39, b1, b2, b3⟩ := c_setN (g := g) a2 (p := q) (P p).2.2 hq
    obtain ⟨S41, c1, c2, c3⟩ := c_setN (g := g) b2 (p := p) (nI q) hp
    refine ⟨S41, ?_, ?_, (a3.wk (by simp)).tr ((b3.wk (by simp)).tr (c3.wk (by simp)))⟩
    · intro K
      rw [show (2 : Int32) = nI 2 from rfl, a1, bdS, hkk, bdS]
      simp only [jn1]
      rw [if_pos hk, c_next a2 hp, bdS, p2, b1, bdS, c1, bdS]
    · have : sp (sp P2 q ((P2 q).1, (P2 q).2.1, (P p).2.2)) p ((sp P2 q ((P2 q).1, (P2 q).2.1, (P p).2.2) p).1, (sp P2 q ((P2 q).1, (P2 q).2.1, (P p).2.2) p).2.1, nI q) = spm P p q A B m b := by
        rw [sp_n _ _ hpq, p2, q2, hP2, hP1]
        unfold spm
        rw [if_pos hk, if_pos hk]
        funext y
        simp only [sp]
        by_cases y1 : y = p
        · subst y1; simp [hpq]
        · by_cases y2 : y = q
          · subst y2; simp [y1]
          · simp [y1, y2]
      rw [this] at c2; exact c2
  · obtain ⟨S35, b1, b2, b3⟩ := c_setK (g := g) a2 (p := q) (X := []) (Y := B) (m := m) (v := b) 0 hq (by rw [q2]; rfl)
    refine ⟨S35, ?_, ?_, (a3.wk (by simp)).tr (b3.wk (by simp))⟩
    · intro K
      rw [show (2 : Int32) = nI 2 from rfl, a1, bdS, hkk, bdS]
      simp only [jn1]
      rw [if_neg (by rw [hk]; decide)]
      have b1' : f_X0_setKey g S11 (nI q) 0 0 = some S35 := b1
      rw [b1', bdS]
    · have : sp P2 q ((P2 q).1, [] ++ (0, b) :: B, (P2 q).2.2) = spm P p q A B m b := by
        rw [q2, hP2, hP1]
        unfold spm
        have n1 : ¬ (P p).1 = 1 := by rw [hk]; decide
        rw [if_neg n1, if_neg n1, hn]
        funext y
        simp only [sp]
        by_cases y1 : y = p
        · subst y1; simp [hpq]
        · by_cases y2 : y = q
          · subst y2; simp
          · simp [y1, y2]
      rw [this] at b2; exact b2
/-- what the reference's split does behind the copying -/
def Ks (g : Nat) (a1 : Int32) (p r3 : Int32) (mark : Int32) (S24 : Mem) : Option Mem := bd (f_X5_change g S24 r3) (fun S27 => bd (f_X5_change g S27 p) (fun S29 => if a1 ≤ 0 then (bd (f_X5_leastFree g S29) (fun r32 => bd (f_X5_touch g S29 r32 1) (fun S34 => gd (ix_in r32 40) (gd (ix_in r32 40) (bd (f_X5_insert g (up (up S34 1 r32.toNatClampNeg 2) 2 r32.toNatClampNeg 0) r32 0 0 p) (fun S38 => bd (f_X5_insert g S38 r32 1 mark r3) (fun S40 => bd (f_X5_change g (up S40 0 6 r32) r32) (fun S42 => some S42)))))))) else (gd (ix_in (a1 - 1) 50) (gd (ix_in a1 50) (bd (f_X5_insert g S29 (S29.1 6 (a1 - 1).toNatClampNeg) ((S29.1 7 a1.toNatClampNeg) + 1) mark r3) (fun S46 => gd (ix_in (a1 - 1) 50) (bd (f_X5_change g S46 (S46.1 6 (a1 - 1).toNatClampNeg)) (fun S49 => some S49))))))))
def Em (g : Nat) (a1 : Int32) (p q : Int32) (K : Int32 → Mem → Option Mem) (S5 : Mem) : Option Mem := gd (ix_in p 40) (gd (ix_in q 40) (gd (ix_in p 40) (gd (ix_in q 40) (gd (ix_in p 40) (jn1 (fun (t11 : Int32) => gd (ix_in p 40) (gd (ix_in q 40) (f_X5_split_73 g a1 p q (fun (S20 : Mem) => gd (ix_in p 40) (gd (ix_in (5 * q) 200) (gd (ix_in q 40) (jn1 (fun (S24 : Mem) => K ((up S20 2 p.toNatClampNeg 2).1 3 (5 * q).toNatClampNeg) S24) (fun j25 => if ((up S20 2 p.toNatClampNeg 2).1 1 q.toNatClampNeg) = 2 then (gd (ix_in (5 * q) 200) (j25 (up (up S20 2 p.toNatClampNeg 2) 3 (5 * q).toNatClampNeg 0))) else (j25 (up S20 2 p.toNatClampNeg 2))))))) g (up (up (up (up S5 1 q.toNatClampNeg (S5.1 1 p.toNatClampNeg)) 5 q.toNatClampNeg ((up S5 1 q.toNatClampNeg (S5.1 1 p.toNatClampNeg)).1 5 p.toNatClampNeg)) 5 p.toNatClampNeg t11) 2 q.toNatClampNeg 0) 2))) (fun j12 => if ((up (up S5 1 q.toNatClampNeg (S5.1 1 p.toNatClampNeg)) 5 q.toNatClampNeg ((up S5 1 q.toNatClampNeg (S5.1 1 p.toNatClampNeg)).1 5 p.toNatClampNeg)).1 1 p.toNatClampNeg) = 1 then (j12 q) else (j12 ((-1)))))))))
theorem m_split_eq (g : Nat) (S : Mem) (a1 : Int32) : f_X5_split g S a1 = gd (ix_in a1 50) (bd (f_X5_leastFree g S) (fun r3 => bd (f_X5_touch g S r3 1) (fun S5 => Em g a1 (S.1 6 a1.toNatClampNeg) r3 (Ks g a1 (S.1 6 a1.toNatClampNeg) r3) S5))) := rfl
theorem m_spA {g : Nat} (hg : 50 < g) {M : Mem} {P : Nat → Pg} {p q : Nat} (hp : p < 40) (hq : q < 40) (hpq : p ≠ q) (hR : RM M P) {A B : List It} {m b : Int32} (hA : (P p).2.1 = A ++ (m, b) :: B) (hA2 : A.length = 2) (hB2 : B.length = 2) (hk : (P p).1 = 1 ∨ ((P p).1 = 2 ∧ (P p).2.2 = -1)) (a1 : Int32) :
    ∃ R24, (∀ K : Int32 → Mem → Option Mem, Em g a1 (nI p) (nI q) K M = K m R24) ∧ RM R24 (spm P p q A B m b) ∧ smX [1, 2, 3, 4, 5] M R24 := by
  obtain ⟨hk1, hk2, hk3, hk4, hk5⟩ := hR p hp
  obtain ⟨t11, ht⟩ : ∃ t11 : Int32, t11 = if (P p).1 = 1 then nI q else -1 := ⟨_, rfl⟩
  obtain ⟨M4, hM4⟩ : ∃ M4, M4 = up (up (up (up M 1 q (P p).1) 5 q (P p).2.2) 5 p t11) 2 q 0 := ⟨_, rfl⟩
  have hs4 : smX [1, 2, 3, 4, 5] M M4 := by rw [hM4]; exact (((smX.rf.up _ _ (by decide)).up _ _ (by decide)).up _ _ (by decide)).up _ _ (by decide)
  have h1 : RM (up (up (up M 1 q (P p).1) 5 q (P p).2.2) 2 q 0) (sp P q ((P p).1, [], (P p).2.2)) := by
    refine Rp.emp hR (fun y => ?_) (fun y => ?_) (fun y => ?_) ?_ ?_
    · simp only [upA]; simp
    · simp only [upA]; simp
    · simp only [upA]; simp
    · rw [upN _ _ _ (by decide), upN _ _ _ (by decide), upN _ _ _ (by decide)]
    · rw [upN _ _ _ (by decide), upN _ _ _ (by decide), upN _ _ _ (by decide)]
  have h2 : RM M4 (sp (sp P q ((P p).1, [], (P p).2.2)) p ((P p).1, (P p).2.1, t11)) := by
    have := Rp.kn (f' := M4.1) h1 hp (x := (P p).1) (y := t11) (fun y => by
      rw [hM4]; simp only [upA]
      by_cases e : y = p
      · subst e; simp [hpq, hk1]
      · simp [e]) (fun y => by
      rw [hM4]; simp only [upA]
      by_cases e : y = p
      · subst e; simp
      · simp [e]) (by
      funext y
      rw [hM4]; simp only [upA]; simp) (by rw [hM4, upN _ _ _ (by decide), upN _ _ _ (by decide), upN _ _ _ (by decide), upN _ _ _ (by decide), upN _ _ _ (by decide), upN _ _ _ (by decide), upN _ _ _ (by decide)]) (by rw [hM4, upN _ _ _ (by decide), upN _ _ _ (by decide), upN _ _ _ (by decide), upN _ _ _ (by decide), upN _ _ _ (by decide), upN _ _ _ (by decide), upN _ _ _ (by decide)])
    rw [sp_n _ _ hpq] at this
    exact this
  obtain ⟨P4, hP4⟩ : ∃ P4, P4 = sp (sp P q ((P p).1, ([] : List It), (P p).2.2)) p ((P p).1, (P p).2.1, t11) := ⟨_, rfl⟩
  rw [← hP4] at h2
  have p4 : P4 p = ((P p).1, (P p).2.1, t11) := by rw [hP4, sp_s]
  have q4 : P4 q = ((P p).1, [], (P p).2.2) := by rw [hP4, sp_n _ _ (Ne.symm hpq), sp_s]
  obtain ⟨M20, l1, l2, l3⟩ := m_spL (g := g) (by omega) (w1 := a1) hp hq hpq ((m, b) :: B) A [] g M4 P4 h2 (by rw [p4]; exact hA) (by rw [q4]) (by simp; omega) (by simp; omega) (by simp; omega)
  rw [hA2] at l1
  rw [q4] at l2
  simp only [List.nil_append] at l2
  obtain ⟨P5, hP5⟩ : ∃ P5, P5 = sp P4 q ((P p).1, (m, b) :: B, (P p).2.2) := ⟨_, rfl⟩
  rw [← hP5] at l2
  have p5 : P5 p = ((P p).1, (P p).2.1, t11) := by rw [hP5, sp_n _ _ hpq, p4]
  have q5 : P5 q = ((P p).1, (m, b) :: B, (P p).2.2) := by rw [hP5, sp_s]
  have h6 : RM (up M20 2 p 2) (sp P5 p ((P p).1, A, t11)) := by
    have := Rp.cut (f' := (up M20 2 p 2).1) (X := A) (Y := (m, b) :: B) l2 hp (by rw [p5]; exact hA) (upN _ _ _ (by decide)) (upN _ _ _ (by decide)) (fun y => by rw [upA, hA2]; simp; rfl) (upN _ _ _ (by decide)) (upN _ _ _ (by decide))
    rw [p5] at this
    exact this
  obtain ⟨P6, hP6⟩ : ∃ P6, P6 = sp P5 p ((P p).1, A, t11) := ⟨_, rfl⟩
  rw [← hP6] at h6
  have q6 : P6 q = ((P p).1, (m, b) :: B, (P p).2.2) := by rw [hP6, sp_n _ _ (Ne.symm hpq), q5]
  have hmark : (up M20 2 p 2).1 3 (5 * q) = m := ((h6 q hq).2.2.2.2 0 (m, b) (by rw [q6]; rfl)).1
  have hkq : (up M20 2 p 2).1 1 q = (P p).1 := by rw [(h6 q hq).1, q6]
  have s21 : smX [1, 2, 3, 4, 5] M (up M20 2 p 2) := (hs4.tr (l3.wk (by simp))).up _ _ (by decide)
  have hE : ∀ K : Int32 → Mem → Option Mem, Em g a1 (nI p) (nI q) K M = if (P p).1 = 2 then K m (up (up M20 2 p 2) 3 (5 * q) 0) else K m (up M20 2 p 2) := by
    intro K
    unfold Em
    simp only [jn1, nI_m5, gdI hp (show 40 < 2 ^ 31 by decide), gdI hq (show 40 < 2 ^ 31 by decide), nI_clamp (show p < 2 ^ 31 by omega), nI_clamp (show q < 2 ^ 31 by omega), gdI (show 5 * q < 200 by omega) (show 200 < 2 ^ 31 by decide), nI_clamp (show 5 * q < 2 ^ 31 by omega)]
    have z1 : (up M 1 q (M.1 1 p)).1 5 p = (P p).2.2 := by rw [upN _ _ _ (by decide), hk3]
    have z2 : (up (up M 1 q (M.1 1 p)) 5 q ((up M 1 q (M.1 1 p)).1 5 p)).1 1 p = (P p).1 := by simp only [upA]; simp [hpq, hk1]
    rw [z2, z1, hk1]
    have z3 : (if (P p).1 = 1 then f_X5_split_73 g a1 (nI p) (nI q) (fun S20 => if (up S20 2 p 2).1 1 q = 2 then K ((up S20 2 p 2).1 3 (5 * q)) (up (up S20 2 p 2) 3 (5 * q) 0) else K ((up S20 2 p 2).1 3 (5 * q)) (up S20 2 p 2)) g (up (up (up (up M 1 q (P p).1) 5 q (P p).2.2) 5 p (nI q)) 2 q 0) 2 else f_X5_split_73 g a1 (nI p) (nI q) (fun S20 => if (up S20 2 p 2).1 1 q = 2 then K ((up S20 2 p 2).1 3 (5 * q)) (up (up S20 2 p 2) 3 (5 * q) 0) else K ((up S20 2 p 2).1 3 (5 * q)) (up S20 2 p 2)) g (up (up (up (up M 1 q (P p).1) 5 q (P p).2.2) 5 p (-1)) 2 q 0) 2) = f_X5_split_73 g a1 (nI p) (nI q) (fun S20 => if (up S20 2 p 2).1 1 q = 2 then K ((up S20 2 p 2).1 3 (5 * q)) (up (up S20 2 p 2) 3 (5 * q) 0) else K ((up S20 2 p 2).1 3 (5 * q)) (up S20 2 p 2)) g M4 (nI 2) := by
      rw [hM4, ht]
      by_cases e : (P p).1 = 1
      · rw [if_pos e, if_pos e]; rfl
      · rw [if_neg e, if_neg e]; rfl
    refine z3.trans ?_
    rw [l1, hmark, hkq]
  have hfin : ∀ y, spm P p q A B m b y = (if (P p).1 = 2 then sp P6 q ((P p).1, (0, b) :: B, (P p).2.2) else P6) y := by
    intro y
    rcases hk with hk | ⟨hk, hn⟩
    · rw [if_neg (by rw [hk]; decide), hP6, hP5, hP4, ht]
      unfold spm
      rw [if_pos hk, if_pos hk]
      simp only [sp]
      by_cases y1 : y = p
      · subst y1; simp [hpq]
      · by_cases y2 : y = q
        · subst y2; simp [y1]
        · simp [y1, y2]
    · rw [if_pos hk, hP6, hP5, hP4, ht]
      have n1 : ¬ (P p).1 = 1 := by rw [hk]; decide
      unfold spm
      rw [if_neg n1, if_neg n1]
      simp only [sp]
      by_cases y1 : y = p
      · subst y1; simp [hpq]
      · by_cases y2 : y = q
        · subst y2; simp
        · simp [y1, y2]
  by_cases e : (P p).1 = 2
  · refine ⟨up (up M20 2 p 2) 3 (5 * q) 0, fun K => by rw [hE K, if_pos e], ?_, s21.up _ _ (by decide)⟩
    have := Rp.key (f' := (up (up M20 2 p 2) 3 (5 * q) 0).1) (X := []) (Y := B) (m := m) (v := b) (k := 0) h6 hq (by rw [q6]; rfl) (upN _ _ _ (by decide)) (upN _ _ _ (by decide)) (upN _ _ _ (by decide)) (fun c => by rw [upA]; simp) (upN _ _ _ (by decide))
    rw [q6] at this
    have hh : spm P p q A B m b = sp P6 q ((P p).1, (0, b) :: B, (P p).2.2) := by
      funext y; rw [hfin y, if_pos e]
    rw [hh]; exact this
  · refine ⟨up M20 2 p 2, fun K => by rw [hE K, if_neg e], ?_, s21⟩
    have hh : spm P p q A B m b = P6 := by
      funext y; rw [hfin y, if_neg e]
    rw [hh]; exact h6
