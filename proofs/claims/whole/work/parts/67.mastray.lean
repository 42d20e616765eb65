theorem m_srt {g : Nat} {R : Mem} {P : Nat → Pg} (hR : RM R P) {w1 : Int32} {p : Nat} (hp : p < 40) {kx : Int32 → Option (Int32 × Mem)} : ∀ (k i n : Nat), i + k = (P p).2.1.length ∨ (k = 0 ∧ (P p).2.1.length ≤ i) → i < 10 → 1 ≤ i → (∀ j a b, i ≤ j → (P p).2.1[j - 1]? = some a → (P p).2.1[j]? = some b → a.1 < b.1) → k < n → f_X5_astray_34 g R w1 (nI p) kx n 1 (nI i) = kx 1 := by
  have h5 := (hR p hp).2.2.2.1
  intro k
  induction k with
  | zero =>
    intro i n hi hi10 h1 hs hn
    obtain ⟨n, rfl⟩ : ∃ m, n = m + 1 := ⟨n - 1, by omega⟩
    rw [f_X5_astray_34, gdI hp (by decide), nI_clamp (by omega), (hR p hp).2.1, if_pos (nI_leN (by omega) (by omega) (by omega))]
  | succ k ih =>
    intro i n hi hi10 h1 hs hn
    obtain ⟨n, rfl⟩ : ∃ m, n = m + 1 := ⟨n - 1, by omega⟩
    have hi' : i + (k + 1) = (P p).2.1.length := by omega
    obtain ⟨j, rfl⟩ : ∃ j, i = j + 1 := ⟨i - 1, by omega⟩
    obtain ⟨a, ha⟩ : ∃ a, (P p).2.1[j]? = some a := ⟨_, List.getElem?_eq_getElem (by omega)⟩
    obtain ⟨b, hb⟩ : ∃ b, (P p).2.1[j + 1]? = some b := ⟨_, List.getElem?_eq_getElem (by omega)⟩
    have hlt := hs (j + 1) a b (Nat.le_refl _) ha hb
    have ka := m_key hR hp ha
    have kb := m_key hR hp hb
    have e2 : nI (5 * p + (j + 1)) - 1 = nI (5 * p + j) := nI_pred (5 * p + j)
    rw [f_X5_astray_34, gdI hp (by decide), nI_clamp (show p < 2 ^ 31 by omega), (hR p hp).2.1, if_neg (nI_nleN (by omega) (by omega) (by omega)), if_neg (by decide)]
    simp only [nI_m5, nI_add, e2, gdI (show 5 * p + j < 200 by omega) (show 200 < 2 ^ 31 by decide), gdI (show 5 * p + (j + 1) < 200 by omega) (show 200 < 2 ^ 31 by decide), nI_clamp (show 5 * p + j < 2 ^ 31 by omega), nI_clamp (show 5 * p + (j + 1) < 2 ^ 31 by omega), ka, kb, nI_1]
    rw [if_neg (fun z => absurd hlt (Int32.not_lt.mpr z))]
    exact ih (j + 1 + 1) n (by omega) (by omega) (by omega) (fun j' a b h1 => hs j' a b (by omega)) (by omega)
theorem m_kid {g : Nat} {R : Mem} {P : Nat → Pg} (hR : RM R P) {w1 : Int32} {p : Nat} (hp : p < 40) {kx : Int32 → Option (Int32 × Mem)} (hv : (P p).1 = 2 → ∀ e, e ∈ (P p).2.1 → ∃ c, c < 40 ∧ e.2 = nI c ∧ (P c).1 ≠ 0) : ∀ (k i n : Nat), i + k = (P p).2.1.length → k < n → f_X5_astray_91 g R w1 (nI p) kx n 1 (nI i) = kx 1 := by
  have h5 := (hR p hp).2.2.2.1
  intro k
  induction k with
  | zero =>
    intro i n hi hn
    obtain ⟨n, rfl⟩ : ∃ m, n = m + 1 := ⟨n - 1, by omega⟩
    rw [f_X5_astray_91, gdI hp (by decide)]
    simp only [nI_clamp (show p < 2 ^ 31 by omega), (hR p hp).2.1]
    rw [if_pos (nI_leN (by omega) (by omega) (by omega))]
  | succ k ih =>
    intro i n hi hn
    obtain ⟨n, rfl⟩ : ∃ m, n = m + 1 := ⟨n - 1, by omega⟩
    rw [f_X5_astray_91, gdI hp (by decide)]
    simp only [nI_clamp (show p < 2 ^ 31 by omega), (hR p hp).2.1, (hR p hp).1]
    rw [if_neg (nI_nleN (by omega) (by omega) (by omega)), gdI hp (by decide)]
    by_cases e : (P p).1 = 2
    · obtain ⟨b, hb⟩ : ∃ b, (P p).2.1[i]? = some b := ⟨_, List.getElem?_eq_getElem (by omega)⟩
      obtain ⟨c, hc, hbc, hc0⟩ := hv e b (List.mem_of_getElem? hb)
      have kb := m_other hR hp hb
      rw [if_pos e, if_neg (by decide)]
      simp only [nI_m5, nI_add, gdI (show 5 * p + i < 200 by omega) (show 200 < 2 ^ 31 by decide), nI_clamp (show 5 * p + i < 2 ^ 31 by omega), kb, hbc, gdI hc (show 40 < 2 ^ 31 by decide), nI_clamp (show c < 2 ^ 31 by omega), (hR c hc).1, nI_1]
      rw [if_neg hc0]
      exact ih (i + 1) n (by omega) (by omega)
    · rw [if_neg e]
theorem m_hold {g : Nat} {R : Mem} {w1 v w3 : Int32} {kx : Int32 → Option (Int32 × Mem)} : ∀ (k i n a : Nat), i + k = 12 → k < n → f_X5_astray_153 g R w1 v w3 kx n (nI a) (nI i) = kx (nI (a + cn (fun j => decide (R.1 8 j = v)) k i)) := by
  intro k
  induction k with
  | zero =>
    intro i n a hi hn
    obtain ⟨n, rfl⟩ : ∃ m, n = m + 1 := ⟨n - 1, by omega⟩
    rw [f_X5_astray_153, if_pos (le12 (by omega) (by omega))]; rfl
  | succ k ih =>
    intro i n a hi hn
    obtain ⟨n, rfl⟩ : ∃ m, n = m + 1 := ⟨n - 1, by omega⟩
    rw [f_X5_astray_153, if_neg (nle12 (by omega)), gdI (by omega) (by decide), nI_clamp (by omega), nI_1, nI_1, cn]
    by_cases e : R.1 8 i = v
    · rw [if_pos e, ih (i + 1) n (a + 1) (by omega) (by omega)]
      simp [e]
      congr 2; omega
    · rw [if_neg e, ih (i + 1) n a (by omega) (by omega)]
      simp [e]
theorem pw_adj {l : List It} (h : (l.map (fun e => e.1.toInt)).Pairwise (· < ·)) {j : Nat} {a b : It} (h1 : 1 ≤ j) (ha : l[j - 1]? = some a) (hb : l[j]? = some b) : a.1 < b.1 := by
  rw [List.pairwise_map, List.pairwise_iff_getElem] at h
  obtain ⟨x1, x2⟩ := List.getElem?_eq_some_iff.mp ha
  obtain ⟨y1, y2⟩ := List.getElem?_eq_some_iff.mp hb
  have := h (j - 1) j x1 y1 (by omega)
  rw [x2, y2] at this
  rw [Int32.lt_iff_toInt_lt]; exact this
theorem m_astL {g : Nat} (hg : 50 < g) {P : Nat → Pg} {rt h : Nat} {L : Nat → Lev} (T : TI P rt h L) {R : Mem} (hR : RM R P) (hF : ∀ i j, i < 12 → j < 12 → R.1 8 i = R.1 8 j → R.1 8 i ≠ -1 → i = j) : ∀ (k i n : Nat), i + k = 40 → k < n → f_X5_astray_9 g R n 0 (nI i) = some (0, R) := by
  intro k
  induction k with
  | zero =>
    intro i n hi hn
    obtain ⟨n, rfl⟩ : ∃ m, n = m + 1 := ⟨n - 1, by omega⟩
    rw [f_X5_astray_9, if_pos (le40 (by omega) (by omega))]
  | succ k ih =>
    intro i n hi hn
    obtain ⟨n, rfl⟩ : ∃ m, n = m + 1 := ⟨n - 1, by omega⟩
    have hp : i < 40 := by omega
    have h5 := (hR i hp).2.2.2.1
    have hkid : (P i).1 = 2 → ∀ e, e ∈ (P i).2.1 → ∃ c, c < 40 ∧ e.2 = nI c ∧ (P c).1 ≠ 0 := fun e2 y hy => by
      obtain ⟨d, hd, lo, hm⟩ := T.2.2.2.2.2.2.2.2.2.1 i hp (by rw [e2]; decide)
      have hdh : d < h := by
        have : ¬ d = h := fun z => by
          subst z
          have := T.2.2.2.1 _ hm
          simp only at this
          rw [e2] at this; exact absurd this (by decide)
        omega
      have hin := T.2.1 d hdh _ hm
      obtain ⟨c, hc, hyc⟩ := hin.2.2.2 y hy
      obtain ⟨lo', hlo'⟩ := T.child hdh hm hy
      have hpg : pg y = c := by unfold pg; rw [hyc, nI_clamp (by omega)]
      rw [hpg] at hlo'
      exact ⟨c, hc, hyc, T.nf (show d + 1 ≤ h by omega) hlo'⟩
    have hc1 : cn (fun j => decide (R.1 8 j = nI i)) 12 0 ≤ 1 := cn_le1 12 0 (fun x y _ h2 _ h4 hx hy => by
      simp at hx hy
      exact hF x y (by omega) (by omega) (hx.trans hy.symm) (by rw [hx]; exact nI_m1 (by omega)))
    have hrest : f_X5_astray_91 g R 0 (nI i) (fun (v20 : Int32) => f_X5_astray_153 g R 0 (nI i) v20 (fun (v24 : Int32) => jn0 (f_X5_astray_9 g R n (0 + 1) (nI i + 1)) (fun j25 => if v20 = 0 then (j25) else (if 2 ≤ v24 then (j25) else (f_X5_astray_9 g R n 0 (nI i + 1))))) g 0 0) g 1 0 = some (0, R) := by
      refine (m_kid hR hp hkid (P i).2.1.length 0 g (Nat.zero_add _) (by omega)).trans ?_
      refine (m_hold 12 0 g 0 rfl (by omega)).trans ?_
      simp only [jn0]
      rw [if_neg (by decide), Nat.zero_add, if_neg (fun z => by have := (le_l (a := 2) 2 rfl (by decide) (by omega)).mp z; omega), nI_1]
      exact ih (i + 1) n (by omega) (by omega)
    rw [f_X5_astray_9, if_neg (nle40 hp), gdI hp (by decide)]
    simp only [jn1, nI_clamp (show i < 2 ^ 31 by omega), (hR i hp).1]
    by_cases k1 : (P i).1 = 1
    · rw [if_pos k1]
      have hs : ∀ j a b, 1 ≤ j → (P i).2.1[j - 1]? = some a → (P i).2.1[j]? = some b → a.1 < b.1 := fun j a b h1 ha hb => by
        obtain ⟨lo, hm⟩ := T.leafm hp k1
        obtain ⟨U, V, hL⟩ := List.append_of_mem hm
        exact pw_adj (T.keysLeaf hL).1 h1 ha hb
      refine (m_srt hR hp ((P i).2.1.length - 1) 1 g (by omega) (by omega) (by omega) hs (by omega)).trans ?_
      exact hrest
    · rw [if_neg k1]
      have hs : ∀ j a b, 2 ≤ j → (P i).2.1[j - 1]? = some a → (P i).2.1[j]? = some b → a.1 < b.1 := fun j a b h2 ha hb => by
        have h0 : (P i).1 ≠ 0 := fun z => by
          have := T.2.2.2.2.2.2.2.2.2.2 i hp z
          rw [this] at hb
          simp at hb
        obtain ⟨d, hd, lo, hm⟩ := T.2.2.2.2.2.2.2.2.2.1 i hp h0
        have hdh : d < h := by
          have : ¬ d = h := fun z => by
            subst z
            exact k1 (T.2.2.2.1 _ hm)
          omega
        obtain ⟨U, V, hL⟩ := List.append_of_mem hm
        obtain ⟨z, Y, hl⟩ : ∃ z Y, (P i).2.1 = z :: Y := by
          cases hq : (P i).2.1 with
          | nil => rw [hq] at hb; simp at hb
          | cons a b => exact ⟨a, b, rfl⟩
        rw [hl] at ha hb
        obtain ⟨m, rfl⟩ : ∃ m, j = m + 2 := ⟨j - 2, by omega⟩
        rw [show m + 2 - 1 = m + 1 by omega, List.getElem?_cons_succ] at ha
        rw [show m + 2 = (m + 1) + 1 by omega, List.getElem?_cons_succ] at hb
        exact pw_adj (j := m + 1) (T.keysInn hdh hL hl).1 (by omega) ha hb
      refine (m_srt hR hp ((P i).2.1.length - 2) 2 g (by omega) (by omega) (by omega) hs (by omega)).trans ?_
      exact hrest
theorem astrayE {g : Nat} (hg : 50 < g) {S R : Mem} (hI : INV S R) : ∃ v S' R', f_X4_astray g S = some (v, S') ∧ f_X5_astray g R = some (v, R') ∧ INV S' R' := by
  have hI1 := hI.r0 0
  obtain ⟨P, rt, h, L, hMD, T, h3, hcn, hrS, hrR, hent, hcur⟩ := hI1
  obtain ⟨hRC, hRM, hF, hM, hN⟩ := hMD
  obtain ⟨S', a1, a2, a3⟩ := bfsE hg T hRC
  have e8 : S'.1 8 = S.1 8 := a3 8 (by decide)
  have hN' : HN S' P := by unfold HN; rw [e8]; exact hN
  have hF' : FI S' [] := by
    unfold FI
    rw [e8, a3 7 (by decide), a3 9 (by decide), a3 10 (by decide), a3 11 (by decide)]
    exact hF
  have hM' : FM [] S' (up R 0 0 0) := by
    unfold FM Dq
    rw [e8, a3 7 (by decide), a3 9 (by decide), a3 10 (by decide), a3 11 (by decide)]
    exact hM
  have hR' := hRC.sa a3
  have hast := astL (g := g) (S := S') (w3 := nI rt) (fun p hp => astrayP hg T h3 hcn hR' a2 hF'.2.1 hN' hp) 40 0 g rfl (by omega)
  have hmst := m_astL hg T hRM (fun i j hi hj e1 e2 => by
    rw [(hM.1 i hi).1, (hM.1 j hj).1] at e1
    rw [(hM.1 i hi).1] at e2
    exact hF.2.1 i j hi hj e1 e2) 40 0 g rfl (by omega)
  have e0 : S'.1 0 = S.1 0 := a3 0 (by decide)
  refine ⟨0, S', up R 0 0 0, ?_, ?_, P, rt, h, L, ⟨hR', hRM, hF', hM', hN'⟩, T, h3, hcn, by rw [e0]; exact hrS, hrR, by rw [e0]; exact hent, hcur.sm (fun j _ _ => by rw [e0]) (fun j _ => rfl)⟩
  · unfold f_X4_astray
    have : f_X2_countAstray_68 g S' (nI rt) g 0 0 = some (0, S') := hast
    rw [hrS, a1, this, bd2S]
  · unfold f_X5_astray
    exact hmst
