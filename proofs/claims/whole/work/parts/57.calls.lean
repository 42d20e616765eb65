/-! the calls -/
def CUR (S R : Mem) (P : Nat → Pg) : Prop := (S.1 0 6 = -1 ∧ R.1 0 19 = 0) ∨ (∃ q i, q < 40 ∧ i < 5 ∧ (P q).1 = 1 ∧ S.1 0 6 = nI q ∧ S.1 0 7 = nI i ∧ R.1 0 19 = 1 ∧ R.1 0 20 = nI q ∧ R.1 0 21 = nI i ∧ R.1 0 22 = S.1 0 8 ∧ R.1 0 23 = S.1 0 9)
def INV (S R : Mem) : Prop := ∃ P rt h L, MD S R P [] [] ∧ TI P rt h L ∧ h ≤ 3 ∧ CN P rt h ∧ S.1 0 4 = nI rt ∧ R.1 0 6 = nI rt ∧ S.1 0 5 = R.1 0 7 ∧ CUR S R P
theorem MD.sm {l l' D pl : List Nat} {S S' R R' : Mem} {P : Nat → Pg} (h : MD S R P pl D) (hs : smX l S S') (hl : ∀ k, k ∈ l → k = 0 ∨ 12 ≤ k) (hr : smX l' R R') (hl' : ∀ k, k ∈ l' → k = 0 ∨ k = 6 ∨ k = 7) (h0 : ∀ j, j = 15 ∨ j = 16 ∨ j = 17 ∨ j = 18 → R'.1 0 j = R.1 0 j) : MD S' R' P pl D := by
  obtain ⟨a, b, c, d, e⟩ := h
  refine ⟨a.sm hs (fun k hk => by have := hl k hk; omega), b.sm hr (fun k hk => by have := hl' k hk; omega), c.sm hs (fun k hk => by have := hl k hk; omega), (d.smC hs (fun k hk => by have := hl k hk; omega)).smM hr (fun k hk => by have := hl' k hk; omega) h0, e.sm hs (fun q => by have := hl 8 q; omega)⟩
theorem unpinMD {g : Nat} (hg : 30 < g) {S R : Mem} {P : Nat → Pg} {pl : List Nat} (h : MD S R P pl []) : ∃ S' R', f_X1_unpinAll g S = some S' ∧ f_X5_unpin g R = some R' ∧ MD S' R' P [] [] ∧ smX [11] S S' ∧ smX [11] R R' := by
  obtain ⟨a, b, c, d, e⟩ := h
  obtain ⟨S', R', a1, a2, a3, a4, a5, a6⟩ := unpinE hg c d
  exact ⟨S', R', a1, a2, ⟨a.sm a5 (by decide), b.sm a6 (by decide), a3, a4, e.sm a5 (by decide)⟩, a5, a6⟩
theorem CUR.sm {S S' R R' : Mem} {P : Nat → Pg} (h : CUR S R P) (h1 : ∀ j, 6 ≤ j → j ≤ 9 → S'.1 0 j = S.1 0 j) (h2 : ∀ j, 19 ≤ j → R'.1 0 j = R.1 0 j) : CUR S' R' P := by
  unfold CUR
  rw [h1 6 (by omega) (by omega), h1 7 (by omega) (by omega), h1 8 (by omega) (by omega), h1 9 (by omega) (by omega), h2 19 (by omega), h2 20 (by omega), h2 21 (by omega), h2 22 (by omega), h2 23 (by omega)]
  exact h
theorem TI.leafm {P : Nat → Pg} {rt h : Nat} {L : Nat → Lev} (T : TI P rt h L) {q : Nat} (hq : q < 40) (hk : (P q).1 = 1) : ∃ lo, (lo, q) ∈ L h := by
  obtain ⟨d, hd, lo, hl⟩ := T.2.2.2.2.2.2.2.2.2.1 q hq (by rw [hk]; decide)
  by_cases e : d = h
  · subst e; exact ⟨lo, hl⟩
  · have := (T.2.1 d (by omega) _ hl).1
    simp only at this
    rw [hk] at this; exact absurd this (by decide)
theorem TI.nxt {P : Nat → Pg} {rt h : Nat} {L : Nat → Lev} (T : TI P rt h L) {q : Nat} (hq : q < 40) (hk : (P q).1 = 1) : (P q).2.2 = -1 ∨ ∃ q', (P q).2.2 = nI q' ∧ q' < 40 ∧ q' ≠ q ∧ (P q').1 = 1 ∧ ∃ lo, (lo, q') ∈ L h := by
  obtain ⟨lo, hm⟩ := T.leafm hq hk
  obtain ⟨U, V, hL⟩ := List.append_of_mem hm
  have hc := T.2.2.2.2.2.1
  rw [hL, chn_app] at hc
  have hn := hc.2.1
  simp only at hn
  cases V with
  | nil => exact Or.inl hn
  | cons y V =>
    have hy : y ∈ L h := by rw [hL]; simp
    refine Or.inr ⟨y.2, hn, T.2.2.2.2.2.2.1 h (Nat.le_refl _) y hy, fun e => ?_, T.2.2.2.1 y hy, y.1, hy⟩
    have hnd := T.2.2.2.2.2.2.2.1 h (Nat.le_refl _)
    rw [hL, List.map_append] at hnd
    have := (List.nodup_append.mp hnd).2.1
    simp [e] at this
theorem startE {g : Nat} (hg : 50 < g) {S R : Mem} {P : Nat → Pg} {rt h : Nat} {L : Nat → Lev} (hMD : MD S R P [] []) (T : TI P rt h L) (h3 : h ≤ 3) (hrS : S.1 0 4 = nI rt) (hrR : R.1 0 6 = nI rt) (key : Int32) : ∃ S2 R2, f_X3_lead g S (S.1 0 4) key = some S2 ∧ f_X5_find g R key = some R2 ∧ MD S2 R2 P [] [] ∧ WC S2 (wy P rt key) h ∧ WM R2 (wy P rt key) h ∧ smX [12, 13, 14] S S2 ∧ smX [0, 6, 7] R R2 ∧ (∀ j, j ≠ 8 → R2.1 0 j = R.1 0 j) := by
  obtain ⟨S2, a1, a2, a3⟩ := c_lead (g := g) (by omega) T (by omega) key hMD.1
  obtain ⟨R2, b1, b2, b3, b4⟩ := m_find (g := g) (by omega) T (by omega) key hMD.2.1 hrR
  exact ⟨S2, R2, by rw [hrS]; exact a1, b1, hMD.sm a2 (by simp) b2 (by simp) (fun j hj => b3 j (by omega)), a3, b4, a2, b2, b3⟩
theorem hasB_iff {l : List It} {i : Nat} {key : Int32} (h : hasB l i key = true) : ∃ X v Y, l = X ++ (key, v) :: Y ∧ X.length = i := by
  unfold hasB at h
  cases hz : l[i]? with
  | none => rw [hz] at h; simp at h
  | some e =>
    rw [hz] at h
    simp at h
    obtain ⟨h1, h2⟩ := List.getElem?_eq_some_iff.mp hz
    refine ⟨l.take i, e.2, l.drop (i + 1), ?_, by rw [List.length_take]; omega⟩
    rw [← h]
    have : (e.1, e.2) = l[i] := h2.symm
    rw [this, ← List.drop_eq_getElem_cons h1, List.take_append_drop]
set_option maxHeartbeats 1000000 in
theorem getE {g : Nat} (hg : 50 < g) {S R : Mem} (hI : INV S R) (key : Int32) : ∃ e v v' S' R', f_X4_get g S key = some ((e, v), S') ∧ f_X5_get g R key = some (v', R') ∧ INV S' R' ∧ ((e = 0 ∧ R'.1 0 0 = 0 ∧ v' = v) ∨ (e = 2 ∧ R'.1 0 0 = 1)) := by
  obtain ⟨P, rt, h, L, hMD, T, h3, hcn, hrS, hrR, hent, hcur⟩ := hI
  obtain ⟨S2, R2, a1, a2, a3, a4, a5, a6, a7, a8⟩ := startE hg hMD T h3 hrS hrR key
  obtain ⟨q, hq⟩ : ∃ q, q = (wy P rt key h).1 := ⟨_, rfl⟩
  have q40 : q < 40 := by rw [hq]; exact T.w40 key (Nat.le_refl _)
  have hleaf : f_X3_leaf g S2 = some (nI q) := by rw [c_leaf a4 (by omega), hq]
  have hw6 : R2.1 6 h = nI q := by rw [(a5.2 h (Nat.le_refl _)).1, hq]
  obtain ⟨i, hi⟩ : ∃ i, i = plc key (P q).2.1 := ⟨_, rfl⟩
  have hile : i ≤ (P q).2.1.length := by rw [hi]; exact plc_le _ _
  have hpc : f_X0_placeOf g S2 (nI q) key = some (nI i) := by rw [hi]; exact c_pl (by omega) a3.1 key q40
  have hpm : f_X5_placeOf g R2 key = some (nI i) := by rw [hi]; exact m_pl (by omega) a3.2.1 key q40 (show h < 50 by omega) a5.1 hw6
  have hhc := c_has (g := g) a3.1 key q40 hile
  have hhm := m_at (g := g) a3.2.1 key q40 (show h < 50 by omega) a5.1 hw6 hile
  by_cases hb : hasB (P q).2.1 i key = true
  · rw [if_pos hb] at hhc hhm
    obtain ⟨X, v, Y, hl, hXl⟩ := hasB_iff hb
    have hs1 : smX [0] R2 (up R2 0 0 0) := smX.rf.up _ _ (by decide)
    have hMD2 : MD S2 (up R2 0 0 0) P [] [] := a3.sm (l := []) smX.rf (by simp) hs1 (by simp) (fun j hj => by rw [upA, if_neg (by omega)])
    have hW2 : WM (up R2 0 0 0) (wy P rt key) h := a5.sm hs1 (by rw [upA, if_neg (by simp)]) (by simp)
    obtain ⟨S11, R11, pl, b1, b2, b3, b4, b5, b6, b7, b8, b9⟩ := twE (g := g) (by omega) (by omega) (fun k hk => T.w40 key hk) (fun k j hk hj => T.winj key hk hj) hMD2.2.2.1 hMD2.2.2.2.1 a4 hW2
    have hMD11 : MD S11 R11 P pl [] := ⟨hMD2.1.sm b5 (by decide), hMD2.2.1.sm b6.1 (by decide), b3, b4, fun t ht y hy e => by
      rcases b9 t ht with z | ⟨k, k1, z⟩
      · exact hMD2.2.2.2.2 t ht y hy (z ▸ e)
      · rw [z] at e
        have hk40 := T.w40 key k1
        rw [← nI_inj (by omega) (by omega) e, T.wkind key k1]
        by_cases q' : k = h
        · rw [if_pos q']; decide
        · rw [if_neg q']; decide⟩
    obtain ⟨S13, R13, c1, c2, c3, c4, c5⟩ := unpinMD (g := g) (by omega) hMD11
    have hv : f_X0_secondAt g S13 (nI q) (nI i) = some v := c_sec c3.1 q40 (e := (key, v)) (by rw [hl, ← hXl]; exact getX _ _ _)
    have hi5 : i < 5 := c3.1.i5 q40 (e := (key, v)) (show (P q).2.1[i]? = some (key, v) by rw [hl, ← hXl]; exact getX _ _ _)
    have hv2 : R13.1 4 (5 * q + i) = v := m_other c3.2.1 q40 (e := (key, v)) (by rw [hl, ← hXl]; exact getX _ _ _)
    have hW13 : WM R13 (wy P rt key) h := (hW2.sm b6.1 (b6.2 8 (by decide) (by decide) (by decide) (by decide)) (by simp)).sm c5 (by rw [c5.2 0 (by decide)]) (by simp)
    have hS0 : ∀ j, S13.1 0 j = S.1 0 j := fun j => by rw [c4.2 0 (by decide), b5.2 0 (by decide), a6.2 0 (by decide)]
    have hR0 : ∀ j, j ≠ 0 → j ≠ 8 → j ≠ 15 → j ≠ 16 → j ≠ 17 → j ≠ 18 → R13.1 0 j = R.1 0 j := fun j h0 h8 h15 h16 h17 h18 => by rw [c5.2 0 (by decide), b6.2 j h15 h16 h17 h18, upA, if_neg (by simp [h0]), a8 j h8]
    refine ⟨0, v, v, S13, R13, ?_, ?_, ⟨P, rt, h, L, c3, T, h3, hcn, by rw [hS0]; exact hrS, by rw [hR0 6 (by decide) (by decide) (by decide) (by decide) (by decide) (by decide)]; exact hrR, by rw [hS0, hR0 7 (by decide) (by decide) (by decide) (by decide) (by decide) (by decide)]; exact hent, hcur.sm (fun j _ _ => hS0 j) (fun j hj => hR0 j (by omega) (by omega) (by omega) (by omega) (by omega) (by omega))⟩, Or.inl ⟨rfl, ?_, rfl⟩⟩
    · unfold f_X4_get
      rw [a1, bdS, hleaf, bdS, hpc, bdS, hhc, bdS, if_neg (by decide), b1, bdS, c1, bdS, hv, bdS]
    · unfold f_X5_get
      rw [a2, bdS, hpm, bdS, hhm, bdS]
      simp only [jn1]
      rw [if_neg (by decide), upS, if_pos (by decide), b2, bdS, c2, bdS, hW13.1, gdI (by omega) (by decide)]
      simp only [nI_clamp (show h < 2 ^ 31 by omega), (hW13.2 h (Nat.le_refl _)).1, ← hq, nI_m5, nI_add, gdI (show 5 * q + i < 200 by omega) (show 200 < 2 ^ 31 by decide), nI_clamp (show 5 * q + i < 2 ^ 31 by omega), hv2]
    · rw [c5.2 0 (by decide), b6.2 0 (by decide) (by decide) (by decide) (by decide), upS]
  · rw [if_neg hb] at hhc hhm
    have hs1 : smX [0] R2 (up R2 0 0 1) := smX.rf.up _ _ (by decide)
    refine ⟨2, 0, 0, S2, up R2 0 0 1, ?_, ?_, ⟨P, rt, h, L, a3.sm (l := []) smX.rf (by simp) hs1 (by simp) (fun j hj => by rw [upA, if_neg (by omega)]), T, h3, hcn, by rw [a6.2 0 (by decide)]; exact hrS, by rw [upA, if_neg (by simp), a8 6 (by decide)]; exact hrR, by rw [a6.2 0 (by decide), upA, if_neg (by simp), a8 7 (by decide)]; exact hent, hcur.sm (fun j _ _ => by rw [a6.2 0 (by decide)]) (fun j hj => by rw [upA, if_neg (by omega), a8 j (by omega)])⟩, Or.inr ⟨rfl, upS _ _ _ _⟩⟩
    · unfold f_X4_get
      rw [a1, bdS, hleaf, bdS, hpc, bdS, hhc, bdS, if_pos rfl]
    · unfold f_X5_get
      rw [a2, bdS, hpm, bdS, hhm, bdS]
      simp only [jn1]
      rw [if_pos trivial, upS, if_neg (by decide)]
