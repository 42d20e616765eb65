theorem twL {g : Nat} (hg : 30 < g) {w : Nat → Nat × Nat} {h : Nat} (h4 : h ≤ 4) (hw40 : ∀ k, k ≤ h → (w k).1 < 40) (hwi : ∀ k j, k ≤ h → j ≤ h → (w k).1 = (w j).1 → k = j) : ∀ (j i n1 n2 : Nat) (S R : Mem) (pl : List Nat), i + j = h + 1 → j < n1 → j < n2 → FI S pl → FM [] S R → WC S w h → WM R w h → pl.length = i → (∀ q, q ∈ pl → ∃ k, k < i ∧ q = (w k).1) →
    ∃ S' R' pl', f_X4_touchWay_2 g n1 S (nI i) = some S' ∧ f_X5_touchWay_2 g n2 R (nI i) = some R' ∧ FI S' pl' ∧ FM [] S' R' ∧ smX [7, 8, 9, 10, 11] S S' ∧ smR R R' ∧ pl'.length = h + 1 ∧ (∀ q, q ∈ pl' ↔ q ∈ pl ∨ ∃ k, i ≤ k ∧ k ≤ h ∧ q = (w k).1) ∧ (∀ t, t < 12 → S'.1 8 t = S.1 8 t ∨ ∃ k, k ≤ h ∧ S'.1 8 t = nI (w k).1) := by
  intro j
  induction j with
  | zero =>
    intro i n1 n2 S R pl hi h1 h2 hF hM hC hW hl hq
    obtain ⟨n1, rfl⟩ : ∃ m, n1 = m + 1 := ⟨n1 - 1, by omega⟩
    obtain ⟨n2, rfl⟩ : ∃ m, n2 = m + 1 := ⟨n2 - 1, by omega⟩
    refine ⟨S, R, pl, ?_, ?_, hF, hM, smX.rf, smR.rf, by omega, fun q => ⟨Or.inl, fun z => ?_⟩, fun t _ => Or.inl rfl⟩
    · rw [f_X4_touchWay_2, f_X3_length, bdS, hC.1, if_pos (nI_leN (by omega) (by omega) (by omega))]
    · rw [f_X5_touchWay_2, hW.1, if_pos (nI_ltN (by omega) (by omega) (by omega))]
    · rcases z with z | ⟨k, k1, k2, -⟩
      · exact z
      · omega
  | succ j ih =>
    intro i n1 n2 S R pl hi h1 h2 hF hM hC hW hl hq
    obtain ⟨n1, rfl⟩ : ∃ m, n1 = m + 1 := ⟨n1 - 1, by omega⟩
    obtain ⟨n2, rfl⟩ : ∃ m, n2 = m + 1 := ⟨n2 - 1, by omega⟩
    have hnp : (w i).1 ∉ pl := fun z => by
      obtain ⟨k, k1, k2⟩ := hq _ z
      have := hwi i k (by omega) (by omega) k2
      omega
    obtain ⟨S1, R1, a1, a2, a3, a4, a5, a6, a7⟩ := touch_both (w := 0) hg hF hM (hw40 i (by omega)) hnp (by simp) (by omega)
    obtain ⟨S', R', pl', b1, b2, b3, b4, b5, b6, b7, b8, b9⟩ := ih (i + 1) n1 n2 S1 R1 ((w i).1 :: pl) (by omega) (by omega) (by omega) a3 a4 (hC.sm a5 (by decide)) (hW.sm a6.1 (a6.2 8 (by decide) (by decide) (by decide) (by decide)) (by decide)) (by simp; omega) (fun q z => by
      rcases List.mem_cons.mp z with rfl | z
      · exact ⟨i, by omega, rfl⟩
      · obtain ⟨k, k1, k2⟩ := hq q z
        exact ⟨k, by omega, k2⟩)
    refine ⟨S', R', pl', ?_, ?_, b3, b4, a5.tr b5, a6.tr b6, b7, fun q => ?_, fun t ht => ?_⟩
    · rw [f_X4_touchWay_2, f_X3_length, bdS, hC.1, if_neg (nI_nleN (by omega) (by omega) (by omega)), c_pageAt hC (by omega) (by omega), bdS, a1, bdS, nI_1]
      exact b1
    · rw [f_X5_touchWay_2, hW.1, if_neg (nI_nltN (by omega) (by omega) (by omega)), gdI (by omega) (by decide), nI_clamp (by omega), (hW.2 i (by omega)).1, a2, bdS, nI_1]
      exact b2
    · rw [b8 q]
      constructor
      · rintro (z | ⟨k, k1, k2, k3⟩)
        · rcases List.mem_cons.mp z with rfl | z
          · exact Or.inr ⟨i, Nat.le_refl _, by omega, rfl⟩
          · exact Or.inl z
        · exact Or.inr ⟨k, by omega, k2, k3⟩
      · rintro (z | ⟨k, k1, k2, k3⟩)
        · exact Or.inl (List.mem_cons_of_mem _ z)
        · by_cases e : k = i
          · subst e; exact Or.inl (by rw [k3]; exact List.mem_cons_self)
          · exact Or.inr ⟨k, by omega, k2, k3⟩
    · rcases b9 t ht with z | z
      · rw [z]
        rcases a7 t ht with z | z
        · exact Or.inl z
        · exact Or.inr ⟨i, by omega, z⟩
      · exact Or.inr z
theorem twE {g : Nat} (hg : 30 < g) {w : Nat → Nat × Nat} {h : Nat} (h4 : h ≤ 4) (hw40 : ∀ k, k ≤ h → (w k).1 < 40) (hwi : ∀ k j, k ≤ h → j ≤ h → (w k).1 = (w j).1 → k = j) {S R : Mem} (hF : FI S []) (hM : FM [] S R) (hC : WC S w h) (hW : WM R w h) :
    ∃ S' R' pl', f_X4_touchWay g S = some S' ∧ f_X5_touchWay g R = some R' ∧ FI S' pl' ∧ FM [] S' R' ∧ smX [7, 8, 9, 10, 11] S S' ∧ smR R R' ∧ pl'.length = h + 1 ∧ (∀ q, q ∈ pl' ↔ ∃ k, k ≤ h ∧ q = (w k).1) ∧ (∀ t, t < 12 → S'.1 8 t = S.1 8 t ∨ ∃ k, k ≤ h ∧ S'.1 8 t = nI (w k).1) := by
  obtain ⟨S', R', pl', b1, b2, b3, b4, b5, b6, b7, b8, b9⟩ := twL hg h4 hw40 hwi (h + 1) 0 g g S R [] (by omega) (by omega) (by omega) hF hM hC hW rfl (fun q hq => by simp at hq)
  refine ⟨S', R', pl', b1, b2, b3, b4, b5, b6, b7, fun q => ?_, b9⟩
  rw [b8 q]
  simp
/-- how many pages a new entry takes, from a depth up -/
def wq (P : Nat → Pg) (w : Nat → Nat × Nat) : Nat → Nat
  | 0 => 1
  | d + 1 => if 4 ≤ (P (w d).1).2.1.length then wq P w d + 1 else 0
theorem wq_le (P : Nat → Pg) (w : Nat → Nat × Nat) : ∀ m, wq P w m ≤ m + 1 := by
  intro m
  induction m with
  | zero => exact Nat.le_refl _
  | succ m ih => rw [wq]; split <;> omega
theorem c_wqL {g : Nat} {S : Mem} {P : Nat → Pg} (hR : RC S P) {w : Nat → Nat × Nat} {h : Nat} (h4 : h ≤ 4) (hC : WC S w h) (hw40 : ∀ k, k ≤ h → (w k).1 < 40) : ∀ (m n a : Nat), m ≤ h + 1 → m < n → f_X4_newPagesForEntry_12 g S (fun (v9 : Int32) => some (v9 + 1)) n (nI a) (nI m + -1) = some (nI (a + wq P w m)) := by
  intro m
  induction m with
  | zero =>
    intro n a hm hn
    obtain ⟨n, rfl⟩ : ∃ m, n = m + 1 := ⟨n - 1, by omega⟩
    rw [f_X4_newPagesForEntry_12, if_pos (by decide), nI_1]; rfl
  | succ m ih =>
    intro n a hm hn
    obtain ⟨n, rfl⟩ : ∃ m, n = m + 1 := ⟨n - 1, by omega⟩
    have h5 := (hR _ (hw40 m (by omega))).2.2.2.1
    rw [f_X4_newPagesForEntry_12, nI_dec, if_neg (nI_nneg (by omega)), c_pageAt hC (by omega) (by omega), bdS, c_count hR (hw40 m (by omega)), bdS, wq, nI_1]
    by_cases e : 4 ≤ (P (w m).1).2.1.length
    · rw [if_pos ((le_l (a := 4) 4 rfl (by decide) (by omega)).mpr e), if_pos e, ih n (a + 1) (by omega) (by omega)]
      congr 2; omega
    · rw [if_neg (fun q => e ((le_l (a := 4) 4 rfl (by decide) (by omega)).mp q)), if_neg e]; rfl
theorem c_wq {g : Nat} (hg : 30 < g) {S : Mem} {P : Nat → Pg} (hR : RC S P) {w : Nat → Nat × Nat} {h : Nat} (h4 : h ≤ 4) (hC : WC S w h) (hw40 : ∀ k, k ≤ h → (w k).1 < 40) : f_X4_newPagesForEntry g S = some (nI (wq P w (h + 1))) := by
  unfold f_X4_newPagesForEntry f_X3_length
  have := c_wqL (g := g) hR h4 hC hw40 (h + 1) g 0 (by omega) (by omega)
  rw [bdS, hC.1, nI_pred]
  rw [nI_dec, Nat.zero_add] at this
  exact this
theorem m_wqL {g : Nat} {R : Mem} {P : Nat → Pg} (hR : RM R P) {w : Nat → Nat × Nat} {h : Nat} (h4 : h ≤ 4) (hW : WM R w h) (hw40 : ∀ k, k ≤ h → (w k).1 < 40) (hle : ∀ k, k ≤ h → (P (w k).1).2.1.length ≤ 4) : ∀ (m n a : Nat), m ≤ h + 1 → m < n → f_X5_wanted_7 g R (fun (v5 : Int32) (v6 : Int32) => if 0 ≤ v6 then (some v5) else (some (v5 + 1))) n (nI a) (nI m + -1) = some (nI (a + wq P w m)) := by
  intro m
  induction m with
  | zero =>
    intro n a hm hn
    obtain ⟨n, rfl⟩ : ∃ m, n = m + 1 := ⟨n - 1, by omega⟩
    rw [f_X5_wanted_7, if_pos (by decide), if_neg (by decide), nI_1]; rfl
  | succ m ih =>
    intro n a hm hn
    obtain ⟨n, rfl⟩ : ∃ m, n = m + 1 := ⟨n - 1, by omega⟩
    have hp := hw40 m (by omega)
    have hl4 := hle m (by omega)
    rw [f_X5_wanted_7, nI_dec, if_neg (nI_nneg (by omega)), gdI (by omega) (by decide)]
    simp only [nI_clamp (show m < 2 ^ 31 by omega), (hW.2 m (by omega)).1, gdI hp (show 40 < 2 ^ 31 by decide), nI_clamp (show (w m).1 < 2 ^ 31 by omega), (hR _ hp).2.1, nI_1]
    rw [wq]
    by_cases e : 4 ≤ (P (w m).1).2.1.length
    · rw [if_pos ((eq_l (a := 4) 4 rfl (by decide) (by omega)).mpr (by omega)), if_pos e, ih n (a + 1) (by omega) (by omega)]
      congr 2; omega
    · rw [if_neg (fun q => e (by have := (eq_l (a := 4) 4 rfl (by decide) (by omega)).mp q; omega)), if_neg e, if_pos (nI_pos' (by omega))]; rfl
theorem m_wq {g : Nat} (hg : 30 < g) {R : Mem} {P : Nat → Pg} (hR : RM R P) {w : Nat → Nat × Nat} {h : Nat} (h4 : h ≤ 4) (hW : WM R w h) (hw40 : ∀ k, k ≤ h → (w k).1 < 40) (hle : ∀ k, k ≤ h → (P (w k).1).2.1.length ≤ 4) : f_X5_wanted g R = some (nI (wq P w (h + 1))) := by
  unfold f_X5_wanted
  have := m_wqL (g := g) hR h4 hW hw40 hle (h + 1) g 0 (by omega) (by omega)
  rw [nI_dec, Nat.zero_add] at this
  rw [hW.1]
  exact this
