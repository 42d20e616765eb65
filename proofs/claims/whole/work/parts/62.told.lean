theorem INV.r0 {S R : Mem} (h : INV S R) (v : Int32) : INV S (up R 0 0 v) := by
  obtain ⟨P, rt, h, L, hMD, T, h3, hcn, hrS, hrR, hent, hcur⟩ := h
  have hs0 : smX [0] R (up R 0 0 v) := smX.rf.up _ _ (by decide)
  exact ⟨P, rt, h, L, hMD.sm (l := []) smX.rf (by simp) hs0 (by simp) (fun j hj => by rw [upA, if_neg (by omega)]), T, h3, hcn, hrS, by rw [upA, if_neg (by simp)]; exact hrR, by rw [upA, if_neg (by simp)]; exact hent, hcur.sm (fun _ _ _ => rfl) (fun j hj => by rw [upA, if_neg (by omega)])⟩
theorem cursorE {g : Nat} {S R : Mem} (hI : INV S R) (a : Int32) : ∃ e v v' R', f_X4_cursor g S a = some ((e, v), S) ∧ f_X5_cursor g R a = some (v', R') ∧ INV S R' ∧ ((e = 0 ∧ R'.1 0 0 = 0 ∧ v' = v) ∨ (e = 2 ∧ R'.1 0 0 = 1)) := by
  have hI0 := hI
  obtain ⟨P, rt, h, L, hMD, T, h3, hcn, hrS, hrR, hent, hcur⟩ := hI
  rcases hcur with ⟨c1, c2⟩ | ⟨q, i, q40, i5, hk, d1, d2, d3, d4, d5, d6, d7⟩
  · refine ⟨2, 0, 0, up R 0 0 1, ?_, ?_, hI0.r0 1, Or.inr ⟨rfl, upS _ _ _ _⟩⟩
    · unfold f_X4_cursor; rw [if_pos c1]
    · unfold f_X5_cursor
      simp only [jn1]
      rw [if_pos c2, upS, if_neg (by decide)]
  · have hn : ¬ S.1 0 6 = -1 := by rw [d1]; exact nI_m1 (by omega)
    have hr : ¬ R.1 0 19 = 0 := by rw [d3]; decide
    by_cases ha : a = 0
    · refine ⟨0, S.1 0 8, S.1 0 8, up R 0 0 0, ?_, ?_, hI0.r0 0, Or.inl ⟨rfl, upS _ _ _ _, rfl⟩⟩
      · unfold f_X4_cursor; rw [if_neg hn, if_pos ha]
      · unfold f_X5_cursor
        simp only [jn1]
        rw [if_neg hr, upS, if_pos (by decide), if_pos ha, upA, if_neg (by simp), d6]
    · refine ⟨0, S.1 0 9, S.1 0 9, up R 0 0 0, ?_, ?_, hI0.r0 0, Or.inl ⟨rfl, upS _ _ _ _, rfl⟩⟩
      · unfold f_X4_cursor; rw [if_neg hn, if_neg ha]
      · unfold f_X5_cursor
        simp only [jn1]
        rw [if_neg hr, upS, if_pos (by decide), if_neg ha, upA, if_neg (by simp), d7]
theorem flushI {g : Nat} (hg : 50 < g) {S R : Mem} (hI : INV S R) : ∃ v S' R', f_X4_flush g S = some (v, S') ∧ f_X5_flush g R = some (v, R') ∧ INV S' R' := by
  obtain ⟨P, rt, h, L, hMD, T, h3, hcn, hrS, hrR, hent, hcur⟩ := hI
  obtain ⟨a, b, c, d, e⟩ := hMD
  obtain ⟨v, S', R', f1, f2, f3, f4, f5, f6, f7, f8⟩ := flushE (g := g) (by omega) c d
  refine ⟨v, S', R', f1, f2, P, rt, h, L, ⟨a.sm f5 (by decide), b.sm f6 (by decide), f3, f4, fun i hi q hq z => e i hi q hq (by rw [← f8 i]; exact z)⟩, T, h3, hcn, by rw [f5.2 0 (by decide)]; exact hrS, by rw [f7 6 (by decide) (by decide)]; exact hrR, by rw [f5.2 0 (by decide), f7 7 (by decide) (by decide)]; exact hent, hcur.sm (fun j _ _ => by rw [f5.2 0 (by decide)]) (fun j hj => f7 j (by omega) (by omega))⟩
theorem dropI {g : Nat} (hg : 50 < g) {S R : Mem} (hI : INV S R) : ∃ e v v' S' R', f_X4_drop g S = some ((e, v), S') ∧ f_X5_drop g R = some (v', R') ∧ INV S' R' ∧ ((e = 0 ∧ R'.1 0 0 = 0 ∧ v' = v) ∨ (e = 3 ∧ R'.1 0 0 = 1)) := by
  obtain ⟨P, rt, h, L, hMD, T, h3, hcn, hrS, hrR, hent, hcur⟩ := hI
  obtain ⟨a, b, c, d, e⟩ := hMD
  rcases dropE (g := g) (by omega) c d with ⟨R', f1, f2, f3, f4, f5⟩ | ⟨v, S', R', f1, f2, f3, f4, f5, f6, f7, f8, f9, f10, f11, f12⟩
  · refine ⟨3, 0, 0, S, R', f1, f2, ⟨P, rt, h, L, ⟨a, b.sm f4 (by decide), c, d.smM f4 (by decide) (fun j hj => f5 j (by omega)), e⟩, T, h3, hcn, hrS, by rw [f5 6 (by decide)]; exact hrR, by rw [f5 7 (by decide)]; exact hent, hcur.sm (fun _ _ _ => rfl) (fun j hj => f5 j (by omega))⟩, Or.inr ⟨rfl, f3⟩⟩
  · refine ⟨0, v, v, S', R', f1, f2, ⟨P, rt, h, L, ⟨a.sm f7 (by decide), b.sm f11 (by decide), f4, f5, fun i hi q hq z => ?_⟩, T, h3, hcn, by rw [f8 4 (by decide)]; exact hrS, by rw [f12 6 (by decide) (by decide) (by decide)]; exact hrR, by rw [f8 5 (by decide), f12 7 (by decide) (by decide) (by decide)]; exact hent, Or.inl ⟨f9, f10⟩⟩, Or.inl ⟨rfl, f3, rfl⟩⟩
    rw [f6 i hi] at z
    exact absurd z.symm (nI_m1 (by omega))
theorem pageCases (a : Int32) (n : Nat) {m : Int32} (hm : m = nI n) (hn : n < 2 ^ 31) : a < 0 ∨ (¬ a < 0 ∧ m ≤ a) ∨ ∃ p, p < n ∧ a = nI p := by
  by_cases h : a < 0
  · exact Or.inl h
  · obtain ⟨j, hj, rfl⟩ := nI_of h
    by_cases h2 : n ≤ j
    · exact Or.inr (Or.inl ⟨h, (le_l n hm hn hj).mpr h2⟩)
    · exact Or.inr (Or.inr ⟨j, by omega, rfl⟩)
theorem what3 {a : Int32} (h0 : ¬ a = 0) (h1 : ¬ a = 1) (h2 : ¬ a = 2) : a < 0 ∨ (¬ a < 0 ∧ ¬ a ≤ 2) := by
  by_cases h : a < 0
  · exact Or.inl h
  · refine Or.inr ⟨h, fun q => ?_⟩
    obtain ⟨j, hj, rfl⟩ := nI_of2 (M := 2) (n := 2) rfl h q
    have : j = 0 ∨ j = 1 ∨ j = 2 := by omega
    rcases this with rfl | rfl | rfl
    · exact h0 rfl
    · exact h1 rfl
    · exact h2 rfl
theorem pageE {g : Nat} {S R : Mem} (hI : INV S R) (a1 a2 : Int32) : ∃ e v v' R', f_X4_page g S a1 a2 = some ((e, v), S) ∧ f_X5_page g R a1 a2 = some (v', R') ∧ INV S R' ∧ ((e = 0 ∧ R'.1 0 0 = 0 ∧ v' = v) ∨ (e = 4 ∧ R'.1 0 0 = 1) ∨ (e = 5 ∧ R'.1 0 0 = 2)) := by
  have hI0 := hI
  obtain ⟨P, rt, h, L, hMD, T, h3, hcn, hrS, hrR, hent, hcur⟩ := hI
  rcases pageCases a1 40 (m := 40) rfl (by decide) with h1 | ⟨h1, h2⟩ | ⟨p, hp, rfl⟩
  · refine ⟨4, 0, 0, up R 0 0 1, ?_, ?_, hI0.r0 1, Or.inr (Or.inl ⟨rfl, upS _ _ _ _⟩)⟩
    · unfold f_X4_page f_X0_isPage
      rw [if_pos h1, bdS, if_pos rfl]
    · unfold f_X5_page
      simp only [jn0, jn1]
      rw [if_pos h1, upS, if_neg (by decide)]
  · have h2' : ¬ a1 < 40 := fun q => absurd q (Int32.not_lt.mpr h2)
    refine ⟨4, 0, 0, up R 0 0 1, ?_, ?_, hI0.r0 1, Or.inr (Or.inl ⟨rfl, upS _ _ _ _⟩)⟩
    · unfold f_X4_page f_X0_isPage
      rw [if_neg h1, if_pos h2, bdS, if_pos rfl]
    · unfold f_X5_page
      simp only [jn0, jn1]
      rw [if_neg h1, if_neg h2', upS, if_neg (by decide)]
  · have hc : f_X4_page g S (nI p) a2 = (if a2 = 0 then (some ((0, (P p).1), S)) else (if a2 = 1 then (some ((0, nI (P p).2.1.length), S)) else (if a2 = 2 then (some ((0, (P p).2.2), S)) else (some ((5, 0), S))))) := by
      unfold f_X4_page
      rw [cisP g S hp, bdS, if_neg (by decide), c_kind hMD.1 hp, bdS, c_count hMD.1 hp, bdS, c_next hMD.1 hp, bdS]
    have hlt : nI p < (40 : Int32) := (lt_r (a := 40) 40 rfl (by decide) (by omega)).mpr hp
    obtain ⟨k1, k2, k3, -⟩ := hMD.2.1 p hp
    by_cases w0 : a2 = 0
    · subst w0
      refine ⟨0, (P p).1, (P p).1, up R 0 0 0, by rw [hc, if_pos rfl], ?_, hI0.r0 0, Or.inl ⟨rfl, upS _ _ _ _, rfl⟩⟩
      unfold f_X5_page
      simp only [jn0, jn1]
      rw [if_neg (nI_nneg (by omega)), if_pos hlt, if_neg (by decide), if_pos (by decide), upS, if_pos (by decide), if_pos trivial, gdI hp (by decide), upN _ _ _ (by decide), nI_clamp (by omega), k1]
    · by_cases w1 : a2 = 1
      · subst w1
        refine ⟨0, nI (P p).2.1.length, nI (P p).2.1.length, up R 0 0 0, by rw [hc, if_neg w0, if_pos rfl], ?_, hI0.r0 0, Or.inl ⟨rfl, upS _ _ _ _, rfl⟩⟩
        unfold f_X5_page
        simp only [jn0, jn1]
        rw [if_neg (nI_nneg (by omega)), if_pos hlt, if_neg (by decide), if_pos (by decide), upS, if_pos (by decide), if_neg w0, if_pos trivial, gdI hp (by decide), upN _ _ _ (by decide), nI_clamp (by omega), k2]
      · by_cases w2 : a2 = 2
        · subst w2
          refine ⟨0, (P p).2.2, (P p).2.2, up R 0 0 0, by rw [hc, if_neg w0, if_neg w1, if_pos rfl], ?_, hI0.r0 0, Or.inl ⟨rfl, upS _ _ _ _, rfl⟩⟩
          unfold f_X5_page
          simp only [jn0, jn1]
          rw [if_neg (nI_nneg (by omega)), if_pos hlt, if_neg (by decide), if_pos (by decide), upS, if_pos (by decide), if_neg w0, if_neg w1, gdI hp (by decide), upN _ _ _ (by decide), nI_clamp (by omega), k3]
        · refine ⟨5, 0, 0, up R 0 0 2, by rw [hc, if_neg w0, if_neg w1, if_neg w2], ?_, hI0.r0 2, Or.inr (Or.inr ⟨rfl, upS _ _ _ _⟩)⟩
          unfold f_X5_page
          simp only [jn0, jn1]
          rw [if_neg (nI_nneg (by omega)), if_pos hlt]
          rcases what3 w0 w1 w2 with z | ⟨z1, z2⟩
          · rw [if_pos z, upS, if_neg (by decide)]
          · rw [if_neg z1, if_neg z2, upS, if_neg (by decide)]
theorem itemE {g : Nat} {S R : Mem} (hI : INV S R) (a1 a2 a3 : Int32) : ∃ e v v' R', f_X4_item g S a1 a2 a3 = some ((e, v), S) ∧ f_X5_item g R a1 a2 a3 = some (v', R') ∧ INV S R' ∧ ((e = 0 ∧ R'.1 0 0 = 0 ∧ v' = v) ∨ (e = 4 ∧ R'.1 0 0 = 1)) := by
  have hI0 := hI
  obtain ⟨P, rt, h, L, hMD, T, h3, hcn, hrS, hrR, hent, hcur⟩ := hI
  rcases pageCases a1 40 (m := 40) rfl (by decide) with h1 | ⟨h1, h2⟩ | ⟨p, hp, rfl⟩
  · refine ⟨4, 0, 0, up R 0 0 1, ?_, ?_, hI0.r0 1, Or.inr ⟨rfl, upS _ _ _ _⟩⟩
    · unfold f_X4_item f_X0_isPage
      rw [if_pos h1, bdS, if_pos rfl]
    · unfold f_X5_item
      simp only [jn0, jn1]
      rw [if_pos h1, upS, if_neg (by decide)]
  · refine ⟨4, 0, 0, up R 0 0 1, ?_, ?_, hI0.r0 1, Or.inr ⟨rfl, upS _ _ _ _⟩⟩
    · unfold f_X4_item f_X0_isPage
      rw [if_neg h1, if_pos h2, bdS, if_pos rfl]
    · unfold f_X5_item
      simp only [jn0, jn1]
      rw [if_neg h1, if_pos h2, upS, if_neg (by decide)]
  · obtain ⟨k1, k2, k3, k4, k5⟩ := hMD.2.1 p hp
    by_cases hn : a2 < 0
    · refine ⟨4, 0, 0, up R 0 0 1, ?_, ?_, hI0.r0 1, Or.inr ⟨rfl, upS _ _ _ _⟩⟩
      · unfold f_X4_item
        rw [cisP g S hp, bdS, if_neg (by decide), if_pos hn]
      · unfold f_X5_item
        simp only [jn0, jn1]
        rw [if_neg (nI_nneg (by omega)), if_neg (nle40 hp), if_pos hn, upS, if_neg (by decide)]
    · obtain ⟨j, hj, rfl⟩ := nI_of hn
      by_cases hl : j < (P p).2.1.length
      · obtain ⟨e, he⟩ : ∃ e, (P p).2.1[j]? = some e := ⟨_, List.getElem?_eq_getElem hl⟩
        obtain ⟨m1, m2⟩ := k5 j e he
        have hltn := nI_ltN hj (by omega) hl
        by_cases h3' : a3 = 0
        · refine ⟨0, e.1, e.1, up R 0 0 0, ?_, ?_, hI0.r0 0, Or.inl ⟨rfl, upS _ _ _ _, rfl⟩⟩
          · unfold f_X4_item
            rw [cisP g S hp, bdS, if_neg (by decide), if_neg hn, c_count hMD.1 hp, bdS, if_pos hltn, if_pos h3', c_key hMD.1 hp he, bdS]
          · unfold f_X5_item
            simp only [jn0, jn1]
            rw [if_neg (nI_nneg (by omega)), if_neg (nle40 hp), if_neg hn, gdI hp (by decide), nI_clamp (show p < 2 ^ 31 by omega), k2, if_pos hltn, upS, if_pos (by decide), if_pos h3', nI_m5, nI_add, gdI (by omega) (by decide), nI_clamp (by omega), upN _ _ _ (by decide), m1]
        · refine ⟨0, e.2, e.2, up R 0 0 0, ?_, ?_, hI0.r0 0, Or.inl ⟨rfl, upS _ _ _ _, rfl⟩⟩
          · unfold f_X4_item
            rw [cisP g S hp, bdS, if_neg (by decide), if_neg hn, c_count hMD.1 hp, bdS, if_pos hltn, if_neg h3', c_sec hMD.1 hp he, bdS]
          · unfold f_X5_item
            simp only [jn0, jn1]
            rw [if_neg (nI_nneg (by omega)), if_neg (nle40 hp), if_neg hn, gdI hp (by decide), nI_clamp (show p < 2 ^ 31 by omega), k2, if_pos hltn, upS, if_pos (by decide), if_neg h3', nI_m5, nI_add, gdI (by omega) (by decide), nI_clamp (by omega), upN _ _ _ (by decide), m2]
      · have hltn := nI_nltN hj (show (P p).2.1.length < 2 ^ 31 by omega) (by omega)
        refine ⟨4, 0, 0, up R 0 0 1, ?_, ?_, hI0.r0 1, Or.inr ⟨rfl, upS _ _ _ _⟩⟩
        · unfold f_X4_item
          rw [cisP g S hp, bdS, if_neg (by decide), if_neg hn, c_count hMD.1 hp, bdS, if_neg hltn]
        · unfold f_X5_item
          simp only [jn0, jn1]
          rw [if_neg (nI_nneg (by omega)), if_neg (nle40 hp), if_neg hn, gdI hp (by decide), nI_clamp (show p < 2 ^ 31 by omega), k2, if_neg hltn, upS, if_neg (by decide)]
theorem frameE {g : Nat} {S R : Mem} (hI : INV S R) (a1 a2 : Int32) : ∃ e v v' R', f_X4_frame g S a1 a2 = some ((e, v), S) ∧ f_X5_frame g R a1 a2 = some (v', R') ∧ INV S R' ∧ ((e = 0 ∧ R'.1 0 0 = 0 ∧ v' = v) ∨ (e = 4 ∧ R'.1 0 0 = 1) ∨ (e = 5 ∧ R'.1 0 0 = 2)) := by
  have hI0 := hI
  obtain ⟨P, rt, h, L, hMD, T, h3, hcn, hrS, hrR, hent, hcur⟩ := hI
  rcases pageCases a1 12 (m := 12) rfl (by decide) with h1 | ⟨h1, h2⟩ | ⟨t, ht, rfl⟩
  · refine ⟨4, 0, 0, up R 0 0 1, ?_, ?_, hI0.r0 1, Or.inr (Or.inl ⟨rfl, upS _ _ _ _⟩)⟩
    · unfold f_X4_frame f_X1_isFrame
      rw [if_pos h1, bdS, if_pos rfl]
    · unfold f_X5_frame
      simp only [jn0, jn1]
      rw [if_pos h1, upS, if_neg (by decide)]
  · have h2' : ¬ a1 < 12 := fun q => absurd q (Int32.not_lt.mpr h2)
    refine ⟨4, 0, 0, up R 0 0 1, ?_, ?_, hI0.r0 1, Or.inr (Or.inl ⟨rfl, upS _ _ _ _⟩)⟩
    · unfold f_X4_frame f_X1_isFrame
      rw [if_neg h1, if_pos h2, bdS, if_pos rfl]
    · unfold f_X5_frame
      simp only [jn0, jn1]
      rw [if_neg h1, if_neg h2', upS, if_neg (by decide)]
  · have hisF : f_X1_isFrame g S (nI t) = some 1 := by
      unfold f_X1_isFrame
      rw [if_neg (nI_nneg (by omega)), if_neg (nle12 ht)]
    have hlt : nI t < (12 : Int32) := (lt_r (a := 12) 12 rfl (by decide) (by omega)).mpr ht
    obtain ⟨k8, k9, -, k11⟩ := hMD.2.2.2.1.1 t ht
    have k10 := hMD.2.2.2.1.d0 ht
    have hc : f_X4_frame g S (nI t) a2 = (if a2 = 0 then (some ((0, S.1 8 t), S)) else (if a2 = 1 then (some ((0, if S.1 9 t = 0 then 0 else 1), S)) else (if a2 = 2 then (some ((0, if S.1 10 t = 0 then 0 else 1), S)) else (some ((5, 0), S))))) := by
      unfold f_X4_frame f_X1_pageIn f_X1_isUsed f_X1_isDirty
      rw [hisF]
      simp only [bdS, gdI ht (show 12 < 2 ^ 31 by decide), nI_clamp (show t < 2 ^ 31 by omega)]
      have n10 : ¬ (1 : Int32) = 0 := by decide
      simp only [if_neg n10]
      by_cases z9 : S.1 9 t = 0
      · by_cases z10 : S.1 10 t = 0
        · simp only [if_pos z9, if_pos z10, bdS, if_true]
        · simp only [if_pos z9, if_neg z10, bdS, if_true, if_neg n10]
      · by_cases z10 : S.1 10 t = 0
        · simp only [if_neg z9, if_pos z10, bdS, if_true, if_neg n10]
        · simp only [if_neg z9, if_neg z10, bdS, if_neg n10]
    by_cases w0 : a2 = 0
    · subst w0
      refine ⟨0, S.1 8 t, S.1 8 t, up R 0 0 0, by rw [hc, if_pos rfl], ?_, hI0.r0 0, Or.inl ⟨rfl, upS _ _ _ _, rfl⟩⟩
      unfold f_X5_frame
      simp only [jn0, jn1]
      rw [if_neg (nI_nneg (by omega)), if_pos hlt, if_neg (by decide), if_pos (by decide), upS, if_pos (by decide), if_pos trivial, gdI ht (by decide), upN _ _ _ (by decide), nI_clamp (by omega), k8]
    · by_cases w1 : a2 = 1
      · subst w1
        refine ⟨0, (if S.1 9 t = 0 then 0 else 1), (if S.1 9 t = 0 then 0 else 1), up R 0 0 0, by rw [hc, if_neg w0, if_pos rfl], ?_, hI0.r0 0, Or.inl ⟨rfl, upS _ _ _ _, rfl⟩⟩
        unfold f_X5_frame
        simp only [jn0, jn1]
        rw [if_neg (nI_nneg (by omega)), if_pos hlt, if_neg (by decide), if_pos (by decide), upS, if_pos (by decide), if_neg w0, if_pos trivial, gdI ht (by decide), upN _ _ _ (by decide), nI_clamp (by omega), k9]
        by_cases z9 : S.1 9 t = 0
        · rw [if_pos z9, if_pos z9]
        · rw [if_neg z9, if_neg z9]
      · by_cases w2 : a2 = 2
        · subst w2
          refine ⟨0, (if S.1 10 t = 0 then 0 else 1), (if S.1 10 t = 0 then 0 else 1), up R 0 0 0, by rw [hc, if_neg w0, if_neg w1, if_pos rfl], ?_, hI0.r0 0, Or.inl ⟨rfl, upS _ _ _ _, rfl⟩⟩
          unfold f_X5_frame
          simp only [jn0, jn1]
          rw [if_neg (nI_nneg (by omega)), if_pos hlt, if_neg (by decide), if_pos (by decide), upS, if_pos (by decide), if_neg w0, if_neg w1, gdI ht (by decide), upN _ _ _ (by decide), nI_clamp (by omega), k10]
          by_cases z9 : S.1 10 t = 0
          · rw [if_pos z9, if_pos z9]
          · rw [if_neg z9, if_neg z9]
        · refine ⟨5, 0, 0, up R 0 0 2, by rw [hc, if_neg w0, if_neg w1, if_neg w2], ?_, hI0.r0 2, Or.inr (Or.inr ⟨rfl, upS _ _ _ _⟩)⟩
          unfold f_X5_frame
          simp only [jn0, jn1]
          rw [if_neg (nI_nneg (by omega)), if_pos hlt]
          rcases what3 w0 w1 w2 with z | ⟨z1, z2⟩
          · rw [if_pos z, upS, if_neg (by decide)]
          · rw [if_neg z1, if_neg z2, upS, if_neg (by decide)]
theorem c_lev {g : Nat} {S : Mem} {P : Nat → Pg} {rt h : Nat} {L : Nat → Lev} (hR : RC S P) (T : TI P rt h L) (h3 : h ≤ 3) : ∀ (j d n p : Nat) (lo : Int), d + j = h → j < n → (lo, p) ∈ L d → f_X0_countLevels_4 g S n (nI p) (nI (d + 1)) = some (nI (h + 1)) := by
  intro j
  induction j with
  | zero =>
    intro d n p lo hd hn hm
    obtain ⟨n, rfl⟩ : ∃ m, n = m + 1 := ⟨n - 1, by omega⟩
    have hdh : d = h := by omega
    subst hdh
    have p40 : p < 40 := T.2.2.2.2.2.2.1 d (Nat.le_refl _) _ hm
    have hk := T.2.2.2.1 _ hm
    simp only at hk
    rw [f_X0_countLevels_4, if_neg (nle6 (by omega)), c_kind hR p40, bdS, hk, if_neg (by decide)]
  | succ j ih =>
    intro d n p lo hd hn hm
    obtain ⟨n, rfl⟩ : ∃ m, n = m + 1 := ⟨n - 1, by omega⟩
    have p40 : p < 40 := T.2.2.2.2.2.2.1 d (by omega) _ hm
    have hin := T.2.1 d (by omega) _ hm
    unfold inn at hin
    simp only at hin
    obtain ⟨e, r, he⟩ : ∃ e r, (P p).2.1 = e :: r := by
      cases hq : (P p).2.1 with
      | nil => exact absurd hq hin.2.2.1
      | cons a b => exact ⟨a, b, rfl⟩
    obtain ⟨c, hc, hec⟩ := hin.2.2.2 e (by rw [he]; simp)
    obtain ⟨lo', hlo'⟩ := T.child (by omega) hm (z := e) (by rw [he]; simp)
    have hpg : pg e = c := by unfold pg; rw [hec, nI_clamp (by omega)]
    rw [hpg] at hlo'
    have hs : f_X0_secondAt g S (nI p) 0 = some e.2 := c_sec hR p40 (i := 0) (e := e) (by rw [he]; rfl)
    rw [f_X0_countLevels_4, if_neg (nle6 (by omega)), c_kind hR p40, bdS, hin.1, if_pos rfl, hs, bdS, hec, nI_1]
    exact ih (d + 1) n c lo' (by omega) (by omega) hlo'
theorem m_lev {g : Nat} {R : Mem} {P : Nat → Pg} {rt h : Nat} {L : Nat → Lev} (hR : RM R P) (T : TI P rt h L) (h3 : h ≤ 3) : ∀ (j d n p : Nat) (lo : Int), d + j = h → j < n → (lo, p) ∈ L d → f_X5_levels_7 g R n (nI (d + 1)) (nI p) = some (nI (h + 1)) := by
  intro j
  induction j with
  | zero =>
    intro d n p lo hd hn hm
    obtain ⟨n, rfl⟩ : ∃ m, n = m + 1 := ⟨n - 1, by omega⟩
    have hdh : d = h := by omega
    subst hdh
    have p40 : p < 40 := T.2.2.2.2.2.2.1 d (Nat.le_refl _) _ hm
    have hk := T.2.2.2.1 _ hm
    simp only at hk
    rw [f_X5_levels_7, gdI p40 (by decide), nI_clamp (by omega), (hR p p40).1, hk, if_neg (by decide)]
  | succ j ih =>
    intro d n p lo hd hn hm
    obtain ⟨n, rfl⟩ : ∃ m, n = m + 1 := ⟨n - 1, by omega⟩
    have p40 : p < 40 := T.2.2.2.2.2.2.1 d (by omega) _ hm
    have hin := T.2.1 d (by omega) _ hm
    unfold inn at hin
    simp only at hin
    obtain ⟨e, r, he⟩ : ∃ e r, (P p).2.1 = e :: r := by
      cases hq : (P p).2.1 with
      | nil => exact absurd hq hin.2.2.1
      | cons a b => exact ⟨a, b, rfl⟩
    obtain ⟨c, hc, hec⟩ := hin.2.2.2 e (by rw [he]; simp)
    obtain ⟨lo', hlo'⟩ := T.child (by omega) hm (z := e) (by rw [he]; simp)
    have hpg : pg e = c := by unfold pg; rw [hec, nI_clamp (by omega)]
    rw [hpg] at hlo'
    have hs : R.1 4 (5 * p) = e.2 := m_other hR p40 (i := 0) (e := e) (by rw [he]; rfl)
    rw [f_X5_levels_7, gdI p40 (by decide), nI_clamp (show p < 2 ^ 31 by omega), (hR p p40).1, hin.1, if_pos rfl, nI_m5, gdI (by omega) (by decide), nI_clamp (by omega), hs, hec, nI_1]
    exact ih (d + 1) n c lo' (by omega) (by omega) hlo'
theorem toldE {g : Nat} (hg : 50 < g) {S R : Mem} (hI : INV S R) (a : Int32) : ∃ v R', f_X4_told g S a = some v ∧ f_X5_told g R a = some (v, R') ∧ INV S R' := by
  have hI1 := hI.r0 0
  have hI0 := hI
  obtain ⟨P, rt, h, L, hMD, T, h3, hcn, hrS, hrR, hent, hcur⟩ := hI
  have hs0 : smX [0] R (up R 0 0 0) := smX.rf.up _ _ (by decide)
  have hRM := hMD.2.1.sm hs0 (by decide)
  have hrm : ((-2147483648 : Int), rt) ∈ L 0 := by rw [T.1]; simp
  have k0 : ∀ j, j ≠ 0 → (up R 0 0 0).1 0 j = R.1 0 j := fun j hj => by rw [upA, if_neg (by simp [hj])]
  have hfm := hMD.2.2.2.1.2
  have hfle : fre P 40 0 ≤ 40 := cn_le _ _ _
  have hl1 := c_lev (g := g) hMD.1 T h3 h 0 g rt _ (by omega) (by omega) hrm
  have hl2 := m_lev (g := g) hRM T h3 h 0 g rt _ (by omega) (by omega) hrm
  unfold f_X4_told f_X5_told
  by_cases a0 : a = 0
  · rw [if_pos a0, if_pos a0]; exact ⟨_, _, rfl, by rw [k0 7 (by decide), ← hent], hI1⟩
  · rw [if_neg a0, if_neg a0]
    by_cases a1 : a = 1
    · rw [if_pos a1, if_pos a1]; exact ⟨_, _, rfl, by rw [k0 6 (by decide), hrR, hrS], hI1⟩
    · rw [if_neg a1, if_neg a1]
      by_cases a2 : a = 2
      · rw [if_pos a2, if_pos a2]
        refine ⟨nI (h + 1), _, ?_, ?_, hI1⟩
        · unfold f_X0_countLevels
          rw [hrS]
          have : f_X0_countLevels_4 g S g (nI rt) 1 = some (nI (h + 1)) := hl1
          rw [this, bdS]
        · unfold f_X5_levels
          rw [k0 6 (by decide), hrR]
          have : f_X5_levels_7 g (up R 0 0 0) g 1 (nI rt) = some (nI (h + 1)) := hl2
          rw [this, bdS]
      · rw [if_neg a2, if_neg a2]
        by_cases a3 : a = 3
        · rw [if_pos a3, if_pos a3]
          refine ⟨nI (40 - fre P 40 0), _, ?_, ?_, hI1⟩
          · rw [c_cf hg hMD.1, bdS]
            have : (40 : Int32) - nI (fre P 40 0) = nI (40 - fre P 40 0) := nI_sub hfle
            rw [this]
          · rw [m_inu hg hRM, bdS]
        · rw [if_neg a3, if_neg a3]
          by_cases a4 : a = 4
          · rw [if_pos a4, if_pos a4]; exact ⟨S.1 7 5, _, rfl, by rw [k0 16 (by decide), hfm.2.1], hI1⟩
          · rw [if_neg a4, if_neg a4]
            by_cases a5 : a = 5
            · rw [if_pos a5, if_pos a5]; exact ⟨S.1 7 6, _, rfl, by rw [k0 17 (by decide), hfm.2.2.1], hI1⟩
            · rw [if_neg a5, if_neg a5]
              by_cases a6 : a = 6
              · rw [if_pos a6, if_pos a6]; exact ⟨S.1 7 7, _, rfl, by rw [k0 18 (by decide), hfm.2.2.2], hI1⟩
              · rw [if_neg a6, if_neg a6]
                by_cases a7 : a = 7
                · rw [if_pos a7, if_pos a7]; exact ⟨S.1 7 4, _, rfl, by rw [k0 15 (by decide), hfm.1], hI1⟩
                · rw [if_neg a7, if_neg a7]; exact ⟨_, _, rfl, rfl, hI1⟩
