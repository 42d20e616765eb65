def WC (S : Mem) (w : Nat → Nat × Nat) (h : Nat) : Prop := S.1 12 2 = nI (h + 1) ∧ ∀ k, k ≤ h → S.1 13 k = nI (w k).1 ∧ S.1 14 k = nI (w k).2
def WM (R : Mem) (w : Nat → Nat × Nat) (h : Nat) : Prop := R.1 0 8 = nI h ∧ ∀ k, k ≤ h → R.1 6 k = nI (w k).1 ∧ R.1 7 k = nI (w k).2
theorem WC.sm {l : List Nat} {S T : Mem} {w : Nat → Nat × Nat} {h : Nat} (hw : WC S w h) (hs : smX l S T) (hl : ∀ k, k ∈ l → k ≠ 12 ∧ k ≠ 13 ∧ k ≠ 14) : WC T w h := by
  unfold WC
  rw [hs.2 12 (fun q => (hl _ q).1 rfl), hs.2 13 (fun q => (hl _ q).2.1 rfl), hs.2 14 (fun q => (hl _ q).2.2 rfl)]
  exact hw
theorem WM.sm {l : List Nat} {S T : Mem} {w : Nat → Nat × Nat} {h : Nat} (hw : WM S w h) (hs : smX l S T) (h8 : T.1 0 8 = S.1 0 8) (hl : ∀ k, k ∈ l → k ≠ 6 ∧ k ≠ 7) : WM T w h := by
  unfold WM
  rw [h8, hs.2 6 (fun q => (hl _ q).1 rfl), hs.2 7 (fun q => (hl _ q).2 rfl)]
  exact hw
theorem nle6 {i : Nat} (h : i < 6) : ¬ (6 : Int32) ≤ nI i := fun q => by have := (le_l (a := 6) (i := i) 6 rfl (by decide) (by omega)).mp q; omega
theorem c_pageAt {g : Nat} {S : Mem} {w : Nat → Nat × Nat} {h d : Nat} (hw : WC S w h) (hd : d ≤ h) (h6 : h < 6) : f_X3_pageAt g S (nI d) = some (nI (w d).1) := by
  unfold f_X3_pageAt
  rw [if_neg (nI_nneg (by omega)), if_neg (nle6 (by omega)), gdI (by omega) (by decide), nI_clamp (by omega), (hw.2 d hd).1]
theorem c_slotAt {g : Nat} {S : Mem} {w : Nat → Nat × Nat} {h d : Nat} (hw : WC S w h) (hd : d ≤ h) (h6 : h < 6) : f_X3_slotAt g S (nI d) = some (nI (w d).2) := by
  unfold f_X3_slotAt
  rw [if_neg (nI_nneg (by omega)), if_neg (nle6 (by omega)), gdI (by omega) (by decide), nI_clamp (by omega), (hw.2 d hd).2]
theorem c_leaf {g : Nat} {S : Mem} {w : Nat → Nat × Nat} {h : Nat} (hw : WC S w h) (h6 : h < 6) : f_X3_leaf g S = some (nI (w h).1) := by
  unfold f_X3_leaf
  rw [hw.1, nI_pred, c_pageAt hw (Nat.le_refl _) h6, bdS]
theorem c_add {g : Nat} {S : Mem} {n : Nat} (a b : Int32) (hn : S.1 12 2 = nI n) (h6 : n < 6) : f_X3_add g S a b = some (up (up (up S 13 n a) 14 n b) 12 2 (nI (n + 1))) := by
  unfold f_X3_add
  simp only [hn, upN S _ _ (show (12 : Nat) ≠ 13 by decide), upN (up S _ _ _) _ _ (show (12 : Nat) ≠ 14 by decide), nI_clamp (show n < 2 ^ 31 by omega), gdI h6 (show 6 < 2 ^ 31 by decide), nI_1]
  rw [if_neg (nI_nneg (by omega)), if_neg (nle6 h6)]
theorem wc_add {S : Mem} {w : Nat → Nat × Nat} {k : Nat} (hw : WC S w k) : WC (up (up (up S 13 (k + 1) (nI (w (k + 1)).1)) 14 (k + 1) (nI (w (k + 1)).2)) 12 2 (nI (k + 1 + 1))) w (k + 1) := by
  refine ⟨upS _ _ _ _, fun j hj => ?_⟩
  simp only [upA]
  by_cases e : j = k + 1
  · subst e; simp
  · have := hw.2 j (by omega)
    simp [e]; exact this
theorem c_leadL {g : Nat} (hg : 30 < g) {P : Nat → Pg} {rt h : Nat} {L : Nat → Lev} (T : TI P rt h L) (h4 : h ≤ 4) (key : Int32) : ∀ (j k n : Nat) (S : Mem), k + j = h → j < n → RC S P → WC S (wy P rt key) k → ∃ S', f_X3_lead_14 g key n S (nI (k + 1)) = some S' ∧ smX [12, 13, 14] S S' ∧ WC S' (wy P rt key) h := by
  intro j
  induction j with
  | zero =>
    intro k n S hk hn hR hw
    obtain ⟨n, rfl⟩ : ∃ m, n = m + 1 := ⟨n - 1, by omega⟩
    have hkh : k = h := by omega
    subst hkh
    refine ⟨S, ?_, smX.rf, hw⟩
    rw [f_X3_lead_14, if_neg (nle6 (by omega)), c_leaf hw (by omega), bdS, c_kind hR (T.w40 key (Nat.le_refl _)), bdS, T.wkind key (Nat.le_refl _), if_pos rfl, if_neg (by decide)]
  | succ j ih =>
    intro k n S hk hn hR hw
    obtain ⟨n, rfl⟩ : ∃ m, n = m + 1 := ⟨n - 1, by omega⟩
    have hp := T.w40 key (show k ≤ h by omega)
    obtain ⟨X, Y, m, hl, hX, hc⟩ := T.wayS key (show k < h by omega)
    have hit : (P (wy P rt key k).1).2.1[(wy P rt key (k + 1)).2]? = some (m, nI (wy P rt key (k + 1)).1) := by rw [← hX, hl]; exact getX _ _ _
    obtain ⟨S', a1, a2, a3⟩ := ih (k + 1) n _ (by omega) (by omega) (hR.sm (l := [12, 13, 14]) (((smX.rf.up (k + 1) (nI (wy P rt key (k + 1)).1) (by decide : 13 ∈ [12, 13, 14])).up (k + 1) (nI (wy P rt key (k + 1)).2) (by decide : 14 ∈ [12, 13, 14])).up 2 (nI (k + 1 + 1)) (by decide : 12 ∈ [12, 13, 14])) (by decide)) (wc_add hw)
    refine ⟨S', ?_, (((smX.rf.up _ _ (by decide)).up _ _ (by decide)).up _ _ (by decide)).tr a2, a3⟩
    rw [f_X3_lead_14, if_neg (nle6 (by omega)), c_leaf hw (by omega), bdS, c_kind hR hp, bdS, T.wkind key (show k ≤ h by omega), if_neg (show ¬ k = h by omega), if_pos rfl, bdS, c_ch hg hR key hp (by rw [hl]; simp; omega), bdS, bdS, ← hc, c_sec hR hp hit, bdS, c_add _ _ hw.1 (by omega), bdS, nI_1]
    exact a1
theorem c_lead {g : Nat} (hg : 30 < g) {P : Nat → Pg} {rt h : Nat} {L : Nat → Lev} (T : TI P rt h L) (h4 : h ≤ 4) (key : Int32) {S : Mem} (hR : RC S P) : ∃ S', f_X3_lead g S (nI rt) key = some S' ∧ smX [12, 13, 14] S S' ∧ WC S' (wy P rt key) h := by
  have hw : WC (up (up (up (up S 12 2 0) 13 0 (nI rt)) 14 0 0) 12 2 (nI (0 + 1))) (wy P rt key) 0 := by
    refine ⟨upS _ _ _ _, fun j hj => ?_⟩
    have : j = 0 := by omega
    subst this
    simp only [upA]; simp [wy]; rfl
  have hs : smX [12, 13, 14] S (up (up (up (up S 12 2 0) 13 0 (nI rt)) 14 0 0) 12 2 (nI (0 + 1))) := (((smX.rf.up _ _ (by decide)).up _ _ (by decide)).up _ _ (by decide)).up _ _ (by decide)
  obtain ⟨S', a1, a2, a3⟩ := c_leadL hg T h4 key h 0 g _ (by omega) (by omega) (hR.sm hs (by decide)) hw
  refine ⟨S', ?_, hs.tr a2, a3⟩
  unfold f_X3_lead
  rw [c_add (S := up S 12 2 0) (n := 0) (nI rt) 0 (upS _ _ _ _) (by decide), bdS]
  exact a1
theorem m_findL {g : Nat} (hg : 30 < g) {P : Nat → Pg} {rt h : Nat} {L : Nat → Lev} (T : TI P rt h L) (h4 : h ≤ 4) (key : Int32) : ∀ (j k n : Nat) (R : Mem), k + j = h → j < n → RM R P → WM R (wy P rt key) k → ∃ R', f_X5_find_24 g key n R (nI (wy P rt key k).1) = some R' ∧ smX [0, 6, 7] R R' ∧ (∀ i, i ≠ 8 → R'.1 0 i = R.1 0 i) ∧ WM R' (wy P rt key) h := by
  intro j
  induction j with
  | zero =>
    intro k n R hk hn hR hw
    obtain ⟨n, rfl⟩ : ∃ m, n = m + 1 := ⟨n - 1, by omega⟩
    have hkh : k = h := by omega
    subst hkh
    refine ⟨R, ?_, smX.rf, fun _ _ => rfl, hw⟩
    have hp := T.w40 key (Nat.le_refl k)
    rw [f_X5_find_24, gdI hp (by decide), nI_clamp (by omega), (hR _ hp).1, T.wkind key (Nat.le_refl _), if_pos rfl, if_neg (by decide)]
  | succ j ih =>
    intro k n R hk hn hR hw
    obtain ⟨n, rfl⟩ : ∃ m, n = m + 1 := ⟨n - 1, by omega⟩
    have hp := T.w40 key (show k ≤ h by omega)
    obtain ⟨X, Y, m, hl, hX, hc⟩ := T.wayS key (show k < h by omega)
    have hit : (P (wy P rt key k).1).2.1[(wy P rt key (k + 1)).2]? = some (m, nI (wy P rt key (k + 1)).1) := by rw [← hX, hl]; exact getX _ _ _
    have hi5 := hR.i5 hp hit
    obtain ⟨R1, hR1⟩ : ∃ R1, R1 = up (up (up R 0 8 (nI (k + 1))) 6 (k + 1) (nI (wy P rt key (k + 1)).1)) 7 (k + 1) (nI (wy P rt key (k + 1)).2) := ⟨_, rfl⟩
    have hs : smX [0, 6, 7] R R1 := by rw [hR1]; exact ((smX.rf.up _ _ (by decide)).up _ _ (by decide)).up _ _ (by decide)
    have hw1 : WM R1 (wy P rt key) (k + 1) := by
      rw [hR1]
      refine ⟨by simp only [upA]; simp, fun i hi => ?_⟩
      simp only [upA]
      by_cases e : i = k + 1
      · subst e; simp
      · have := hw.2 i (by omega)
        simp [e]; exact this
    obtain ⟨R', a1, a2, a3, a4⟩ := ih (k + 1) n R1 (by omega) (by omega) (hR.sm hs (by decide)) hw1
    refine ⟨R', ?_, hs.tr a2, fun i hi => ?_, a4⟩
    · have hch := m_chL (g := g) (key := key) hR hp (kx := fun (v9 : Int32) => gd (ix_in ((5 * (nI (wy P rt key k).1)) + v9) 200) (gd (ix_in ((up R 0 8 ((R.1 0 8) + 1)).1 0 8) 50) (gd (ix_in ((up (up R 0 8 ((R.1 0 8) + 1)) 6 ((up R 0 8 ((R.1 0 8) + 1)).1 0 8).toNatClampNeg (R.1 4 ((5 * (nI (wy P rt key k).1)) + v9).toNatClampNeg)).1 0 8) 50) (f_X5_find_24 g key n (up (up (up R 0 8 ((R.1 0 8) + 1)) 6 ((up R 0 8 ((R.1 0 8) + 1)).1 0 8).toNatClampNeg (R.1 4 ((5 * (nI (wy P rt key k).1)) + v9).toNatClampNeg)) 7 ((up (up R 0 8 ((R.1 0 8) + 1)) 6 ((up R 0 8 ((R.1 0 8) + 1)).1 0 8).toNatClampNeg (R.1 4 ((5 * (nI (wy P rt key k).1)) + v9).toNatClampNeg)).1 0 8).toNatClampNeg v9) (R.1 4 ((5 * (nI (wy P rt key k).1)) + v9).toNatClampNeg))))) ((P (wy P rt key k).1).2.1.length - 1) 1 g (by rw [hl]; simp; omega) (Nat.le_refl _) (by have := (hR _ hp).2.2.2.1; omega)
      rw [f_X5_find_24, gdI hp (by decide), nI_clamp (by omega), (hR _ hp).1, T.wkind key (show k ≤ h by omega), if_neg (show ¬ k = h by omega), if_pos rfl]
      refine hch.trans ?_
      have e1 : 5 * nI (wy P rt key k).1 + nI (wy P rt key (k + 1)).2 = nI (5 * (wy P rt key k).1 + (wy P rt key (k + 1)).2) := by rw [nI_m5, nI_add]
      have e4 := ((hR _ hp).2.2.2.2 _ _ hit).2
      simp only at e4
      rw [← hc]
      simp only [upS, upN (up R 0 8 _) _ _ (show (0 : Nat) ≠ 6 by decide), hw.1, nI_1, e1, gdI (show 5 * (wy P rt key k).1 + (wy P rt key (k + 1)).2 < 200 by omega) (show 200 < 2 ^ 31 by decide), gdI (show k + 1 < 50 by omega) (show 50 < 2 ^ 31 by decide), nI_clamp (show k + 1 < 2 ^ 31 by omega), nI_clamp (show 5 * (wy P rt key k).1 + (wy P rt key (k + 1)).2 < 2 ^ 31 by omega), e4]
      rw [← hR1]
      exact a1
    · rw [a3 i hi, hR1]
      simp only [upA]
      simp [hi]
theorem m_find {g : Nat} (hg : 30 < g) {P : Nat → Pg} {rt h : Nat} {L : Nat → Lev} (T : TI P rt h L) (h4 : h ≤ 4) (key : Int32) {R : Mem} (hR : RM R P) (hrt : R.1 0 6 = nI rt) : ∃ R', f_X5_find g R key = some R' ∧ smX [0, 6, 7] R R' ∧ (∀ i, i ≠ 8 → R'.1 0 i = R.1 0 i) ∧ WM R' (wy P rt key) h := by
  obtain ⟨R1, hR1⟩ : ∃ R1, R1 = up (up (up R 0 8 0) 6 0 (nI rt)) 7 0 0 := ⟨_, rfl⟩
  have hs : smX [0, 6, 7] R R1 := by rw [hR1]; exact ((smX.rf.up _ _ (by decide)).up _ _ (by decide)).up _ _ (by decide)
  have hw1 : WM R1 (wy P rt key) 0 := by
    rw [hR1]
    refine ⟨by simp only [upA]; simp; rfl, fun i hi => ?_⟩
    have : i = 0 := by omega
    subst this
    simp only [upA]; simp [wy]; rfl
  obtain ⟨R', a1, a2, a3, a4⟩ := m_findL hg T h4 key h 0 g R1 (by omega) (by omega) (hR.sm hs (by decide)) hw1
  refine ⟨R', ?_, hs.tr a2, fun i hi => ?_, a4⟩
  · unfold f_X5_find
    rw [gdT (by decide), gdT (by decide), hrt, show (0 : Int32).toNatClampNeg = 0 from rfl, ← hR1]
    exact a1
  · rw [a3 i hi, hR1]
    simp only [upA]; simp [hi]
