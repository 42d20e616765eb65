def upF (S : Mem) (k n : Nat) (v : Int32) : Mem := (fun j => if j = k then (fun i => if i < n then v else S.1 k i) else S.1 j, S.2)
theorem set_get {α : Type} {w : List α} {q : Nat} {A B : α} (h : w[q]? = some A) : (w.set q B)[q]? = some B := by
  have hl : q < w.length := (List.getElem?_eq_some_iff.mp h).1
  rw [List.getElem?_set_self hl]
abbrev rmJ7_fill_53178 : Room := { frames := 0, cells := 0, slots := 0, locals := 0 }
set_option maxHeartbeats 4000000 in
set_option maxRecDepth 100000 in
theorem lp_fill {κ : Kx} {x : Ad} (C : Cx κ x cJ7_fill_53178 RJ7 kJ7_fill_53178 rmJ7_fill_53178 4) {w : va_W} {q0 a n : Nat} {f : Nat → Int32} {v : Int32} (ha : w[q0]? = some (a, .inl (x.2.1, n, .inl f))) (hn : n < 2 ^ 31) (hr : RV κ x cJ7_fill_53178 (w.set q0 (a, .inl (x.2.1, n, .inl (fun j => if j < n then v else f j))))) : ∀ (k i : Nat), i + k = n → GG κ x (w.set q0 (a, .inl (x.2.1, n, .inl (fun j => if j < i then v else f j)))) 5 [(0, .ref a), (1, .int v), (2, .int (nI i)), (3, .int (nI n))] [] := by
  intro k
  induction k with
  | zero =>
    intro i hi
    have e : i = n := by omega
    subst e
    refine g_iload_n C 2 rfl rfl dJ7_fill_53178_5 ?_
    refine g_iload_n C 3 rfl rfl dJ7_fill_53178_6 ?_
    refine g_icmp_ge C 20 (by decide) dJ7_fill_53178_7 (fun h => ?_) (fun h => ?_)
    · exact g_vret hr dJ7_fill_53178_20
    · exact absurd (nI_le (Nat.le_refl _) hn) h
  | succ k ih =>
    intro i hi
    refine g_iload_n C 2 rfl rfl dJ7_fill_53178_5 ?_
    refine g_iload_n C 3 rfl rfl dJ7_fill_53178_6 ?_
    refine g_icmp_ge C 20 (by decide) dJ7_fill_53178_7 (fun h => ?_) (fun h => ?_)
    · exact absurd h (nI_ge (by omega) hn)
    · refine g_aload_n C 0 rfl rfl dJ7_fill_53178_10 ?_
      refine g_iload_n C 2 rfl rfl dJ7_fill_53178_11 ?_
      refine g_iload_n C 1 rfl rfl dJ7_fill_53178_12 ?_
      refine g_iast (w2 := w.set q0 (a, .inl (x.2.1, n, .inl (fun j => if j < i + 1 then v else f j)))) C q0 (set_get ha) (vp_in_nI (by omega) hn) ?_ dJ7_fill_53178_13 ?_
      · rw [List.set_set, nI_clamp (by omega)]
        congr 6
        funext j
        unfold upd
        by_cases h1 : j = i
        · rw [if_pos h1, if_pos (by omega)]
        · rw [if_neg h1]
          by_cases h2 : j < i
          · show (if j < i then v else f j) = _
            rw [if_pos h2, if_pos (by omega)]
          · show (if j < i then v else f j) = _
            rw [if_neg h2, if_neg (by omega)]
      · refine g_iinc C (v := nI (i + 1)) (lv2 := [(2, .int (nI (i + 1))), (0, .ref a), (1, .int v), (3, .int (nI n))]) 2 rfl (by rw [nI_succ]; rfl) (by decide) rfl dJ7_fill_53178_14 ?_
        refine g_goto C 5 (by decide) dJ7_fill_53178_17 ?_
        refine g_sub [1, 2, 0, 3] rfl ?_
        exact ih (i + 1) (by omega)
set_option maxHeartbeats 4000000 in
set_option maxRecDepth 100000 in
theorem c_fill {l : Launch} {x : Ad} {w : va_W} (q0 : Nat) {a n : Nat} {f : Nat → Int32} {v : Int32} (ha : w[q0]? = some (a, .inl (x.2.1, n, .inl f))) (hn : n < 2 ^ 31) : MV l x yJ7_fill_53178 kJ7_fill_53178 rmJ7_fill_53178 [.ref a, .int v] w (w.set q0 (a, .inl (x.2.1, n, .inl (fun j => if j < n then v else f j)))) := by
  refine met_V RJ7 (by decide +kernel) rfl (Nat.le_of_ble_eq_true rfl) [(0, .ref a), (1, .int v)] rfl ?_
  intro κ hl C hr
  subst hl
  refine g_iconst C (v := 0) (by decide) dJ7_fill_53178_0 ?_
  refine g_istore_n C (lv2 := [(2, .int 0), (0, .ref a), (1, .int v)]) rfl (by decide) rfl dJ7_fill_53178_1 ?_
  refine g_aload_n C 1 rfl rfl dJ7_fill_53178_2 ?_
  refine g_alen C (v := nI n) q0 0 ha rfl rfl dJ7_fill_53178_3 ?_
  refine g_istore_n C (lv2 := [(3, .int (nI n)), (2, .int 0), (0, .ref a), (1, .int v)]) rfl (by decide) rfl dJ7_fill_53178_4 ?_
  refine g_sub [2, 3, 1, 0] rfl ?_
  have h0 := lp_fill C ha hn hr n 0 (by omega)
  have e : w.set q0 (a, .inl (x.2.1, n, .inl (fun j => if j < 0 then v else f j))) = w := by
    have hl : q0 < w.length := (List.getElem?_eq_some_iff.mp ha).1
    have e1 : (fun j => if j < 0 then v else f j) = f := by funext j; rw [if_neg (Nat.not_lt_zero j)]
    rw [e1]
    have e2 : w[q0] = (a, .inl (x.2.1, n, .inl f)) := by
      have := List.getElem?_eq_some_iff.mp ha
      exact this.2
    rw [← e2, List.set_getElem_self]
  rw [e, nI_0] at h0
  exact h0

def f_J9_floorMod_7cf53 (g : Nat) (S : Mem) (a0 : Int32) (a1 : Int32) : Option (Int32) := gd (¬ a1 = 0) (if 0 ≤ (a0 ^^^ a1) then (some (a0 - a0 / a1 * a1)) else (if (a0 - a0 / a1 * a1) = 0 then (some (a0 - a0 / a1 * a1)) else (some ((a0 - a0 / a1 * a1) + a1))))
abbrev rmJ9_floorMod_7cf53 : Room := { frames := 0, cells := 0, slots := 0, locals := 0 }
set_option maxHeartbeats 4000000 in
set_option maxRecDepth 100000 in
theorem c_J9_floorMod_7cf53 {l : Launch} {x : Ad} (g : Nat) (S : Mem) (a0 : Int32) (a1 : Int32) {z : Int32} (hf : f_J9_floorMod_7cf53 g S a0 a1 = some z) : MI l x yJ9_floorMod_7cf53 kJ9_floorMod_7cf53 rmJ9_floorMod_7cf53 [.int a0, .int a1] (cT x S) z (cT x S) := by
  refine met_I RJ9 (by decide +kernel) rfl (Nat.le_of_ble_eq_true rfl) [(0, .int a0), (1, .int a1)] rfl ?_
  intro κ hl C hr
  subst hl
  rw [f_J9_floorMod_7cf53] at hf
  refine g_iload_n C 0 rfl rfl dJ9_floorMod_7cf53_0 ?_
  refine g_iload_n C 1 rfl rfl dJ9_floorMod_7cf53_1 ?_
  obtain ⟨h1, hf⟩ := gd_some hf
  refine g_irem C h1 dJ9_floorMod_7cf53_2 ?_
  refine g_istore_n C (lv2 := [(2, .int (a0 - a0 / a1 * a1)), (0, .int a0), (1, .int a1)]) rfl (by decide) rfl dJ9_floorMod_7cf53_3 ?_
  refine g_iload_n C 1 rfl rfl dJ9_floorMod_7cf53_4 ?_
  refine g_iload_n C 2 rfl rfl dJ9_floorMod_7cf53_5 ?_
  refine g_ixor C dJ9_floorMod_7cf53_6 ?_
  refine g_if_ge C 18 (by decide) dJ9_floorMod_7cf53_7 (fun h2 => ?_) (fun h2 => ?_)
  · rw [if_pos h2] at hf
    refine g_iload_n C 0 rfl rfl dJ9_floorMod_7cf53_18 ?_
    obtain rfl := Option.some.inj hf
    exact g_iret hr dJ9_floorMod_7cf53_19
  · rw [if_neg h2] at hf
    refine g_iload_n C 0 rfl rfl dJ9_floorMod_7cf53_10 ?_
    refine g_if_eq C 18 (by decide) dJ9_floorMod_7cf53_11 (fun h3 => ?_) (fun h3 => ?_)
    · rw [if_pos h3] at hf
      refine g_iload_n C 0 rfl rfl dJ9_floorMod_7cf53_18 ?_
      obtain rfl := Option.some.inj hf
      exact g_iret hr dJ9_floorMod_7cf53_19
    · rw [if_neg h3] at hf
      refine g_iload_n C 0 rfl rfl dJ9_floorMod_7cf53_14 ?_
      refine g_iload_n C 2 rfl rfl dJ9_floorMod_7cf53_15 ?_
      refine g_iadd C dJ9_floorMod_7cf53_16 ?_
      obtain rfl := Option.some.inj hf
      exact g_iret hr dJ9_floorMod_7cf53_17
def f_X1_isFrame (g : Nat) (S : Mem) (a1 : Int32) : Option (Int32) := if a1 < 0 then (some 0) else (if 12 ≤ a1 then (some 0) else (some 1))
abbrev rmX1_isFrame : Room := { frames := 0, cells := 0, slots := 0, locals := 0 }
set_option maxHeartbeats 4000000 in
set_option maxRecDepth 100000 in
theorem c_X1_isFrame {l : Launch} {x : Ad} (g : Nat) (S : Mem) (a1 : Int32) {z : Int32} (hf : f_X1_isFrame g S a1 = some z) : MI l x yX1_isFrame kX1_isFrame rmX1_isFrame [.ref (ax x 7), .int a1] (cT x S) z (cT x S) := by
  refine met_Z RX1 (by decide +kernel) rfl (Nat.le_of_ble_eq_true rfl) [(0, .ref (ax x 7)), (1, .int a1)] rfl ?_
  intro κ hl C hr
  subst hl
  rw [f_X1_isFrame] at hf
  refine g_iload_n C 1 rfl rfl dX1_isFrame_0 ?_
  refine g_if_lt C 14 (by decide) dX1_isFrame_1 (fun h1 => ?_) (fun h1 => ?_)
  · rw [if_pos h1] at hf
    refine g_iconst C (v := 0) (by decide) dX1_isFrame_14 ?_
    obtain rfl := Option.some.inj hf
    exact g_iret (hr (Or.inl rfl)) dX1_isFrame_15
  · rw [if_neg h1] at hf
    refine g_iload_n C 1 rfl rfl dX1_isFrame_4 ?_
    refine g_bipush C (v := 12) (by decide) dX1_isFrame_5 ?_
    refine g_icmp_ge C 14 (by decide) dX1_isFrame_7 (fun h2 => ?_) (fun h2 => ?_)
    · rw [if_pos h2] at hf
      refine g_iconst C (v := 0) (by decide) dX1_isFrame_14 ?_
      obtain rfl := Option.some.inj hf
      exact g_iret (hr (Or.inl rfl)) dX1_isFrame_15
    · rw [if_neg h2] at hf
      refine g_iconst C (v := 1) (by decide) dX1_isFrame_10 ?_
      refine g_goto C 15 (by decide) dX1_isFrame_11 ?_
      obtain rfl := Option.some.inj hf
      exact g_iret (hr (Or.inr rfl)) dX1_isFrame_15
def f_X1_pageIn (g : Nat) (S : Mem) (a1 : Int32) : Option (Int32) := bd (f_X1_isFrame g S a1) (fun r2 => if r2 = 0 then (some ((-1))) else (gd (ix_in a1 12) (some (S.1 8 a1.toNatClampNeg))))
abbrev rmX1_pageIn : Room := { frames := 1, cells := 0, slots := 0, locals := 21 }
set_option maxHeartbeats 4000000 in
set_option maxRecDepth 100000 in
theorem c_X1_pageIn {l : Launch} {x : Ad} (g : Nat) (S : Mem) (a1 : Int32) {z : Int32} (hf : f_X1_pageIn g S a1 = some z) : MI l x yX1_pageIn kX1_pageIn rmX1_pageIn [.ref (ax x 7), .int a1] (cT x S) z (cT x S) := by
  refine met_I RX1 (by decide +kernel) rfl (Nat.le_of_ble_eq_true rfl) [(0, .ref (ax x 7)), (1, .int a1)] rfl ?_
  intro κ hl C hr
  subst hl
  rw [f_X1_pageIn] at hf
  refine g_aload_n C 0 rfl rfl dX1_pageIn_0 ?_
  refine g_iload_n C 1 rfl rfl dX1_pageIn_1 ?_
  obtain ⟨r2, h1, hf⟩ := bd_some hf
  refine g_callVI C (n := 1) (st := []) (c_X1_isFrame g S a1 h1) (tb_wsV _ mM_X1_31 mI_X1_isFrame mS_X1_isFrame mN_X1 mK_X1_isFrame) (by decide +kernel) rfl rfl ⟨by decide, by decide⟩ 7 1 rfl rfl rfl (Nat.le_of_ble_eq_true rfl) dX1_pageIn_2 rfl ?_
  refine g_if_eq C 17 (by decide) dX1_pageIn_5 (fun h3 => ?_) (fun h3 => ?_)
  · rw [if_pos h3] at hf
    refine g_iconst C (v := (-1)) (by decide) dX1_pageIn_17 ?_
    obtain rfl := Option.some.inj hf
    exact g_iret hr dX1_pageIn_18
  · rw [if_neg h3] at hf
    refine g_aload_n C 0 rfl rfl dX1_pageIn_8 ?_
    refine tF_X1_9 C dX1_pageIn_9 ?_
    refine g_iload_n C 1 rfl rfl dX1_pageIn_12 ?_
    obtain ⟨h4, hf⟩ := gd_some hf
    refine tL_8 C h4 dX1_pageIn_13 ?_
    refine g_goto C 18 (by decide) dX1_pageIn_14 ?_
    obtain rfl := Option.some.inj hf
    exact g_iret hr dX1_pageIn_18
def f_X1_isUsed (g : Nat) (S : Mem) (a1 : Int32) : Option (Int32) := bd (f_X1_isFrame g S a1) (fun r2 => if r2 = 0 then (some 0) else (gd (ix_in a1 12) (if (S.1 9 a1.toNatClampNeg) = 0 then (some 0) else (some 1))))
abbrev rmX1_isUsed : Room := { frames := 1, cells := 0, slots := 0, locals := 21 }
set_option maxHeartbeats 4000000 in
set_option maxRecDepth 100000 in
theorem c_X1_isUsed {l : Launch} {x : Ad} (g : Nat) (S : Mem) (a1 : Int32) {z : Int32} (hf : f_X1_isUsed g S a1 = some z) : MI l x yX1_isUsed kX1_isUsed rmX1_isUsed [.ref (ax x 7), .int a1] (cT x S) z (cT x S) := by
  refine met_Z RX1 (by decide +kernel) rfl (Nat.le_of_ble_eq_true rfl) [(0, .ref (ax x 7)), (1, .int a1)] rfl ?_
  intro κ hl C hr
  subst hl
  rw [f_X1_isUsed] at hf
  refine g_aload_n C 0 rfl rfl dX1_isUsed_0 ?_
  refine g_iload_n C 1 rfl rfl dX1_isUsed_1 ?_
  obtain ⟨r2, h1, hf⟩ := bd_some hf
  refine g_callVI C (n := 1) (st := []) (c_X1_isFrame g S a1 h1) (tb_wsV _ mM_X1_31 mI_X1_isFrame mS_X1_isFrame mN_X1 mK_X1_isFrame) (by decide +kernel) rfl rfl ⟨by decide, by decide⟩ 7 1 rfl rfl rfl (Nat.le_of_ble_eq_true rfl) dX1_isUsed_2 rfl ?_
  refine g_if_eq C 21 (by decide) dX1_isUsed_5 (fun h3 => ?_) (fun h3 => ?_)
  · rw [if_pos h3] at hf
    refine g_iconst C (v := 0) (by decide) dX1_isUsed_21 ?_
    obtain rfl := Option.some.inj hf
    exact g_iret (hr (Or.inl rfl)) dX1_isUsed_22
  · rw [if_neg h3] at hf
    refine g_aload_n C 0 rfl rfl dX1_isUsed_8 ?_
    refine tF_X1_15 C dX1_isUsed_9 ?_
    refine g_iload_n C 1 rfl rfl dX1_isUsed_12 ?_
    obtain ⟨h4, hf⟩ := gd_some hf
    refine tL_9 C h4 dX1_isUsed_13 ?_
    refine g_if_eq C 21 (by decide) dX1_isUsed_14 (fun h5 => ?_) (fun h5 => ?_)
    · rw [if_pos h5] at hf
      refine g_iconst C (v := 0) (by decide) dX1_isUsed_21 ?_
      obtain rfl := Option.some.inj hf
      exact g_iret (hr (Or.inl rfl)) dX1_isUsed_22
    · rw [if_neg h5] at hf
      refine g_iconst C (v := 1) (by decide) dX1_isUsed_17 ?_
      refine g_goto C 22 (by decide) dX1_isUsed_18 ?_
      obtain rfl := Option.some.inj hf
      exact g_iret (hr (Or.inr rfl)) dX1_isUsed_22
def f_X1_isDirty (g : Nat) (S : Mem) (a1 : Int32) : Option (Int32) := bd (f_X1_isFrame g S a1) (fun r2 => if r2 = 0 then (some 0) else (gd (ix_in a1 12) (if (S.1 10 a1.toNatClampNeg) = 0 then (some 0) else (some 1))))
abbrev rmX1_isDirty : Room := { frames := 1, cells := 0, slots := 0, locals := 21 }
set_option maxHeartbeats 4000000 in
set_option maxRecDepth 100000 in
theorem c_X1_isDirty {l : Launch} {x : Ad} (g : Nat) (S : Mem) (a1 : Int32) {z : Int32} (hf : f_X1_isDirty g S a1 = some z) : MI l x yX1_isDirty kX1_isDirty rmX1_isDirty [.ref (ax x 7), .int a1] (cT x S) z (cT x S) := by
  refine met_Z RX1 (by decide +kernel) rfl (Nat.le_of_ble_eq_true rfl) [(0, .ref (ax x 7)), (1, .int a1)] rfl ?_
  intro κ hl C hr
  subst hl
  rw [f_X1_isDirty] at hf
  refine g_aload_n C 0 rfl rfl dX1_isDirty_0 ?_
  refine g_iload_n C 1 rfl rfl dX1_isDirty_1 ?_
  obtain ⟨r2, h1, hf⟩ := bd_some hf
  refine g_callVI C (n := 1) (st := []) (c_X1_isFrame g S a1 h1) (tb_wsV _ mM_X1_31 mI_X1_isFrame mS_X1_isFrame mN_X1 mK_X1_isFrame) (by decide +kernel) rfl rfl ⟨by decide, by decide⟩ 7 1 rfl rfl rfl (Nat.le_of_ble_eq_true rfl) dX1_isDirty_2 rfl ?_
  refine g_if_eq C 21 (by decide) dX1_isDirty_5 (fun h3 => ?_) (fun h3 => ?_)
  · rw [if_pos h3] at hf
    refine g_iconst C (v := 0) (by decide) dX1_isDirty_21 ?_
    obtain rfl := Option.some.inj hf
    exact g_iret (hr (Or.inl rfl)) dX1_isDirty_22
  · rw [if_neg h3] at hf
    refine g_aload_n C 0 rfl rfl dX1_isDirty_8 ?_
    refine tF_X1_19 C dX1_isDirty_9 ?_
    refine g_iload_n C 1 rfl rfl dX1_isDirty_12 ?_
    obtain ⟨h4, hf⟩ := gd_some hf
    refine tL_10 C h4 dX1_isDirty_13 ?_
    refine g_if_eq C 21 (by decide) dX1_isDirty_14 (fun h5 => ?_) (fun h5 => ?_)
    · rw [if_pos h5] at hf
      refine g_iconst C (v := 0) (by decide) dX1_isDirty_21 ?_
      obtain rfl := Option.some.inj hf
      exact g_iret (hr (Or.inl rfl)) dX1_isDirty_22
    · rw [if_neg h5] at hf
      refine g_iconst C (v := 1) (by decide) dX1_isDirty_17 ?_
      refine g_goto C 22 (by decide) dX1_isDirty_18 ?_
      obtain rfl := Option.some.inj hf
      exact g_iret (hr (Or.inr rfl)) dX1_isDirty_22
def f_X1_hits (g : Nat) (S : Mem) : Option (Int32) := some (S.1 7 5)
abbrev rmX1_hits : Room := { frames := 0, cells := 0, slots := 0, locals := 0 }
set_option maxHeartbeats 4000000 in
set_option maxRecDepth 100000 in
theorem c_X1_hits {l : Launch} {x : Ad} (g : Nat) (S : Mem) {z : Int32} (hf : f_X1_hits g S = some z) : MI l x yX1_hits kX1_hits rmX1_hits [.ref (ax x 7)] (cT x S) z (cT x S) := by
  refine met_I RX1 (by decide +kernel) rfl (Nat.le_of_ble_eq_true rfl) [(0, .ref (ax x 7))] rfl ?_
  intro κ hl C hr
  subst hl
  rw [f_X1_hits] at hf
  refine g_aload_n C 0 rfl rfl dX1_hits_0 ?_
  refine tF_X1_35 C dX1_hits_1 ?_
  obtain rfl := Option.some.inj hf
  exact g_iret hr dX1_hits_4
def f_X1_pagesRead (g : Nat) (S : Mem) : Option (Int32) := some (S.1 7 6)
abbrev rmX1_pagesRead : Room := { frames := 0, cells := 0, slots := 0, locals := 0 }
set_option maxHeartbeats 4000000 in
set_option maxRecDepth 100000 in
theorem c_X1_pagesRead {l : Launch} {x : Ad} (g : Nat) (S : Mem) {z : Int32} (hf : f_X1_pagesRead g S = some z) : MI l x yX1_pagesRead kX1_pagesRead rmX1_pagesRead [.ref (ax x 7)] (cT x S) z (cT x S) := by
  refine met_I RX1 (by decide +kernel) rfl (Nat.le_of_ble_eq_true rfl) [(0, .ref (ax x 7))] rfl ?_
  intro κ hl C hr
  subst hl
  rw [f_X1_pagesRead] at hf
  refine g_aload_n C 0 rfl rfl dX1_pagesRead_0 ?_
  refine tF_X1_39 C dX1_pagesRead_1 ?_
  obtain rfl := Option.some.inj hf
  exact g_iret hr dX1_pagesRead_4
def f_X1_pagesWritten (g : Nat) (S : Mem) : Option (Int32) := some (S.1 7 7)
abbrev rmX1_pagesWritten : Room := { frames := 0, cells := 0, slots := 0, locals := 0 }
set_option maxHeartbeats 4000000 in
set_option maxRecDepth 100000 in
theorem c_X1_pagesWritten {l : Launch} {x : Ad} (g : Nat) (S : Mem) {z : Int32} (hf : f_X1_pagesWritten g S = some z) : MI l x yX1_pagesWritten kX1_pagesWritten rmX1_pagesWritten [.ref (ax x 7)] (cT x S) z (cT x S) := by
  refine met_I RX1 (by decide +kernel) rfl (Nat.le_of_ble_eq_true rfl) [(0, .ref (ax x 7))] rfl ?_
  intro κ hl C hr
  subst hl
  rw [f_X1_pagesWritten] at hf
  refine g_aload_n C 0 rfl rfl dX1_pagesWritten_0 ?_
  refine tF_X1_42 C dX1_pagesWritten_1 ?_
  obtain rfl := Option.some.inj hf
  exact g_iret hr dX1_pagesWritten_4
def f_X1_handPlace (g : Nat) (S : Mem) : Option (Int32) := some (S.1 7 4)
abbrev rmX1_handPlace : Room := { frames := 0, cells := 0, slots := 0, locals := 0 }
set_option maxHeartbeats 4000000 in
set_option maxRecDepth 100000 in
theorem c_X1_handPlace {l : Launch} {x : Ad} (g : Nat) (S : Mem) {z : Int32} (hf : f_X1_handPlace g S = some z) : MI l x yX1_handPlace kX1_handPlace rmX1_handPlace [.ref (ax x 7)] (cT x S) z (cT x S) := by
  refine met_I RX1 (by decide +kernel) rfl (Nat.le_of_ble_eq_true rfl) [(0, .ref (ax x 7))] rfl ?_
  intro κ hl C hr
  subst hl
  rw [f_X1_handPlace] at hf
  refine g_aload_n C 0 rfl rfl dX1_handPlace_0 ?_
  refine tF_X1_45 C dX1_handPlace_1 ?_
  obtain rfl := Option.some.inj hf
  exact g_iret hr dX1_handPlace_4
def f_X1_frameOf_2 (g : Nat) (S : Mem) (w1 : Int32) : Nat → Int32 → Option (Int32)
  | 0, _ => none
  | n + 1, w2 => if 12 ≤ w2 then (some ((-1))) else (if w1 = ((-1)) then (f_X1_frameOf_2 g S w1 n (w2 + 1)) else (gd (ix_in w2 12) (if (S.1 8 w2.toNatClampNeg) = w1 then (some w2) else (f_X1_frameOf_2 g S w1 n (w2 + 1)))))
def f_X1_frameOf (g : Nat) (S : Mem) (a1 : Int32) : Option (Int32) := f_X1_frameOf_2 g S a1 g 0
abbrev rmX1_frameOf : Room := { frames := 0, cells := 0, slots := 0, locals := 0 }
set_option maxHeartbeats 4000000 in
set_option maxRecDepth 100000 in
theorem lp_X1_frameOf_2 {κ : Kx} {x : Ad} (C : Cx κ x cX1_frameOf RX1 kX1_frameOf rmX1_frameOf 3) (S : Mem) {z : Int32} (hr : RI κ x cX1_frameOf (cT x S) z) (g : Nat) (w1 : Int32) : ∀ (n : Nat) (w2 : Int32), f_X1_frameOf_2 g S w1 n w2 = some z → GG κ x (cT x S) 2 [(0, .ref (ax x 7)), (1, .int w1), (2, .int w2)] [] := by
  intro n
  induction n with
  | zero => intro w2 hf; cases hf
  | succ n ih =>
    intro w2 hf
    rw [f_X1_frameOf_2] at hf
    refine g_iload_n C 2 rfl rfl dX1_frameOf_2 ?_
    refine g_bipush C (v := 12) (by decide) dX1_frameOf_3 ?_
    refine g_icmp_ge C 31 (by decide) dX1_frameOf_5 (fun h1 => ?_) (fun h1 => ?_)
    · rw [if_pos h1] at hf
      refine g_iconst C (v := (-1)) (by decide) dX1_frameOf_31 ?_
      obtain rfl := Option.some.inj hf
      exact g_iret hr dX1_frameOf_32
    · rw [if_neg h1] at hf
      refine g_iload_n C 1 rfl rfl dX1_frameOf_8 ?_
      refine g_iconst C (v := (-1)) (by decide) dX1_frameOf_9 ?_
      refine g_icmp_eq C 25 (by decide) dX1_frameOf_10 (fun h2 => ?_) (fun h2 => ?_)
      · rw [if_pos h2] at hf
        refine g_iinc C (v := w2 + 1) (lv2 := [(2, .int (w2 + 1)), (0, .ref (ax x 7)), (1, .int w1)]) 2 rfl (by rw [(by decide : Int32.ofInt 1 = 1)]) (by decide) rfl dX1_frameOf_25 ?_
        refine g_goto C 2 (by decide) dX1_frameOf_28 ?_
        refine g_sub [1, 2, 0] rfl ?_
        exact ih (w2 + 1) hf
      · rw [if_neg h2] at hf
        refine g_aload_n C 0 rfl rfl dX1_frameOf_13 ?_
        refine tF_X1_9 C dX1_frameOf_14 ?_
        refine g_iload_n C 2 rfl rfl dX1_frameOf_17 ?_
        obtain ⟨h3, hf⟩ := gd_some hf
        refine tL_8 C h3 dX1_frameOf_18 ?_
        refine g_iload_n C 1 rfl rfl dX1_frameOf_19 ?_
        refine g_icmp_ne C 25 (by decide) dX1_frameOf_20 (fun h4 => ?_) (fun h4 => ?_)
        · rw [if_neg h4] at hf
          refine g_iinc C (v := w2 + 1) (lv2 := [(2, .int (w2 + 1)), (0, .ref (ax x 7)), (1, .int w1)]) 2 rfl (by rw [(by decide : Int32.ofInt 1 = 1)]) (by decide) rfl dX1_frameOf_25 ?_
          refine g_goto C 2 (by decide) dX1_frameOf_28 ?_
          refine g_sub [1, 2, 0] rfl ?_
          exact ih (w2 + 1) hf
        · rw [if_pos h4] at hf
          refine g_iload_n C 2 rfl rfl dX1_frameOf_23 ?_
          obtain rfl := Option.some.inj hf
          exact g_iret hr dX1_frameOf_24
set_option maxHeartbeats 4000000 in
set_option maxRecDepth 100000 in
theorem c_X1_frameOf {l : Launch} {x : Ad} (g : Nat) (S : Mem) (a1 : Int32) {z : Int32} (hf : f_X1_frameOf g S a1 = some z) : MI l x yX1_frameOf kX1_frameOf rmX1_frameOf [.ref (ax x 7), .int a1] (cT x S) z (cT x S) := by
  refine met_I RX1 (by decide +kernel) rfl (Nat.le_of_ble_eq_true rfl) [(0, .ref (ax x 7)), (1, .int a1)] rfl ?_
  intro κ hl C hr
  subst hl
  rw [f_X1_frameOf] at hf
  refine g_iconst C (v := 0) (by decide) dX1_frameOf_0 ?_
  refine g_istore_n C (lv2 := [(2, .int 0), (0, .ref (ax x 7)), (1, .int a1)]) rfl (by decide) rfl dX1_frameOf_1 ?_
  refine g_sub [1, 2, 0] rfl ?_
  exact lp_X1_frameOf_2 C S hr g a1 g 0 hf
def f_X1_givesWay (g : Nat) (S : Mem) (a1 : Int32) : Option (Int32 × Mem) := if a1 < 0 then (some (0, S)) else (if a1 < 12 then (gd (ix_in a1 12) (if (S.1 8 a1.toNatClampNeg) = ((-1)) then (some (1, S)) else (gd (ix_in a1 12) (if (S.1 11 a1.toNatClampNeg) = 0 then (gd (ix_in a1 12) (if (S.1 9 a1.toNatClampNeg) = 0 then (gd (ix_in a1 12) (if (S.1 10 a1.toNatClampNeg) = 0 then (some (1, S)) else (some (1, (up S 7 7 ((S.1 7 7) + 1)))))) else (gd (ix_in a1 12) (some (0, (up S 9 a1.toNatClampNeg 0)))))) else (some (0, S)))))) else (some (0, S)))
abbrev rmX1_givesWay : Room := { frames := 0, cells := 0, slots := 0, locals := 0 }
set_option maxHeartbeats 4000000 in
set_option maxRecDepth 100000 in
theorem c_X1_givesWay {l : Launch} {x : Ad} (g : Nat) (S : Mem) (a1 : Int32) {z : Int32 × Mem} (hf : f_X1_givesWay g S a1 = some z) : MI l x yX1_givesWay kX1_givesWay rmX1_givesWay [.ref (ax x 7), .int a1] (cT x S) z.1 (cT x z.2) := by
  refine met_Z RX1 (by decide +kernel) rfl (Nat.le_of_ble_eq_true rfl) [(0, .ref (ax x 7)), (1, .int a1)] rfl ?_
  intro κ hl C hr
  subst hl
  rw [f_X1_givesWay] at hf
  refine g_iload_n C 1 rfl rfl dX1_givesWay_0 ?_
  refine g_if_lt C 10 (by decide) dX1_givesWay_1 (fun h1 => ?_) (fun h1 => ?_)
  · rw [if_pos h1] at hf
    refine g_iconst C (v := 0) (by decide) dX1_givesWay_10 ?_
    obtain rfl := Option.some.inj hf
    exact g_iret (hr (Or.inl rfl)) dX1_givesWay_11
  · rw [if_neg h1] at hf
    refine g_iload_n C 1 rfl rfl dX1_givesWay_4 ?_
    refine g_bipush C (v := 12) (by decide) dX1_givesWay_5 ?_
    refine g_icmp_lt C 12 (by decide) dX1_givesWay_7 (fun h2 => ?_) (fun h2 => ?_)
    · rw [if_pos h2] at hf
      refine g_aload_n C 0 rfl rfl dX1_givesWay_12 ?_
      refine tF_X1_9 C dX1_givesWay_13 ?_
      refine g_iload_n C 1 rfl rfl dX1_givesWay_16 ?_
      obtain ⟨h3, hf⟩ := gd_some hf
      refine tL_8 C h3 dX1_givesWay_17 ?_
      refine g_iconst C (v := (-1)) (by decide) dX1_givesWay_18 ?_
      refine g_icmp_ne C 24 (by decide) dX1_givesWay_19 (fun h4 => ?_) (fun h4 => ?_)
      · rw [if_neg h4] at hf
        refine g_aload_n C 0 rfl rfl dX1_givesWay_24 ?_
        refine tF_X1_22 C dX1_givesWay_25 ?_
        refine g_iload_n C 1 rfl rfl dX1_givesWay_28 ?_
        obtain ⟨h5, hf⟩ := gd_some hf
        refine tL_11 C h5 dX1_givesWay_29 ?_
        refine g_if_eq C 35 (by decide) dX1_givesWay_30 (fun h6 => ?_) (fun h6 => ?_)
        · rw [if_pos h6] at hf
          refine g_aload_n C 0 rfl rfl dX1_givesWay_35 ?_
          refine tF_X1_15 C dX1_givesWay_36 ?_
          refine g_iload_n C 1 rfl rfl dX1_givesWay_39 ?_
          obtain ⟨h7, hf⟩ := gd_some hf
          refine tL_9 C h7 dX1_givesWay_40 ?_
          refine g_if_eq C 53 (by decide) dX1_givesWay_41 (fun h8 => ?_) (fun h8 => ?_)
          · rw [if_pos h8] at hf
            refine g_aload_n C 0 rfl rfl dX1_givesWay_53 ?_
            refine tF_X1_19 C dX1_givesWay_54 ?_
            refine g_iload_n C 1 rfl rfl dX1_givesWay_57 ?_
            obtain ⟨h9, hf⟩ := gd_some hf
            refine tL_10 C h9 dX1_givesWay_58 ?_
            refine g_if_eq C 72 (by decide) dX1_givesWay_59 (fun h10 => ?_) (fun h10 => ?_)
            · rw [if_pos h10] at hf
              refine g_iconst C (v := 1) (by decide) dX1_givesWay_72 ?_
              obtain rfl := Option.some.inj hf
              exact g_iret (hr (Or.inr rfl)) dX1_givesWay_73
            · rw [if_neg h10] at hf
              refine g_aload_n C 0 rfl rfl dX1_givesWay_62 ?_
              refine g_dup C rfl dX1_givesWay_63 ?_
              refine tF_X1_42 C dX1_givesWay_64 ?_
              refine g_iconst C (v := 1) (by decide) dX1_givesWay_67 ?_
              refine g_iadd C dX1_givesWay_68 ?_
              refine tP_X1_42 C dX1_givesWay_69 ?_
              refine g_iconst C (v := 1) (by decide) dX1_givesWay_72 ?_
              obtain rfl := Option.some.inj hf
              exact g_iret (hr (Or.inr rfl)) dX1_givesWay_73
          · rw [if_neg h8] at hf
            refine g_aload_n C 0 rfl rfl dX1_givesWay_44 ?_
            refine tF_X1_15 C dX1_givesWay_45 ?_
            refine g_iload_n C 1 rfl rfl dX1_givesWay_48 ?_
            refine g_iconst C (v := 0) (by decide) dX1_givesWay_49 ?_
            obtain ⟨h11, hf⟩ := gd_some hf
            refine tS_9 C h11 (by decide) dX1_givesWay_50 ?_
            refine g_iconst C (v := 0) (by decide) dX1_givesWay_51 ?_
            obtain rfl := Option.some.inj hf
            exact g_iret (hr (Or.inl rfl)) dX1_givesWay_52
        · rw [if_neg h6] at hf
          refine g_iconst C (v := 0) (by decide) dX1_givesWay_33 ?_
          obtain rfl := Option.some.inj hf
          exact g_iret (hr (Or.inl rfl)) dX1_givesWay_34
      · rw [if_pos h4] at hf
        refine g_iconst C (v := 1) (by decide) dX1_givesWay_22 ?_
        obtain rfl := Option.some.inj hf
        exact g_iret (hr (Or.inr rfl)) dX1_givesWay_23
    · rw [if_neg h2] at hf
      refine g_iconst C (v := 0) (by decide) dX1_givesWay_10 ?_
      obtain rfl := Option.some.inj hf
      exact g_iret (hr (Or.inl rfl)) dX1_givesWay_11
def f_X1_clear (g : Nat) (S : Mem) (a1 : Int32) : Option (Mem) := if a1 < 0 then (some S) else (if 12 ≤ a1 then (some S) else (gd (ix_in a1 12) (gd (ix_in a1 12) (gd (ix_in a1 12) (gd (ix_in a1 12) (some (up (up (up (up S 8 a1.toNatClampNeg ((-1))) 9 a1.toNatClampNeg 0) 10 a1.toNatClampNeg 0) 11 a1.toNatClampNeg 0)))))))
abbrev rmX1_clear : Room := { frames := 0, cells := 0, slots := 0, locals := 0 }
set_option maxHeartbeats 4000000 in
set_option maxRecDepth 100000 in
theorem c_X1_clear {l : Launch} {x : Ad} (g : Nat) (S : Mem) (a1 : Int32) {z : Mem} (hf : f_X1_clear g S a1 = some z) : MV l x yX1_clear kX1_clear rmX1_clear [.ref (ax x 7), .int a1] (cT x S) (cT x z) := by
  refine met_V RX1 (by decide +kernel) rfl (Nat.le_of_ble_eq_true rfl) [(0, .ref (ax x 7)), (1, .int a1)] rfl ?_
  intro κ hl C hr
  subst hl
  rw [f_X1_clear] at hf
  refine g_iload_n C 1 rfl rfl dX1_clear_0 ?_
  refine g_if_lt C 38 (by decide) dX1_clear_1 (fun h1 => ?_) (fun h1 => ?_)
  · rw [if_pos h1] at hf
    obtain rfl := Option.some.inj hf
    exact g_vret hr dX1_clear_38
  · rw [if_neg h1] at hf
    refine g_iload_n C 1 rfl rfl dX1_clear_4 ?_
    refine g_bipush C (v := 12) (by decide) dX1_clear_5 ?_
    refine g_icmp_ge C 38 (by decide) dX1_clear_7 (fun h2 => ?_) (fun h2 => ?_)
    · rw [if_pos h2] at hf
      obtain rfl := Option.some.inj hf
      exact g_vret hr dX1_clear_38
    · rw [if_neg h2] at hf
      refine g_aload_n C 0 rfl rfl dX1_clear_10 ?_
      refine tF_X1_9 C dX1_clear_11 ?_
      refine g_iload_n C 1 rfl rfl dX1_clear_14 ?_
      refine g_iconst C (v := (-1)) (by decide) dX1_clear_15 ?_
      obtain ⟨h3, hf⟩ := gd_some hf
      refine tS_8 C h3 dX1_clear_16 ?_
      refine g_aload_n C 0 rfl rfl dX1_clear_17 ?_
      refine tF_X1_15 C dX1_clear_18 ?_
      refine g_iload_n C 1 rfl rfl dX1_clear_21 ?_
      refine g_iconst C (v := 0) (by decide) dX1_clear_22 ?_
      obtain ⟨h4, hf⟩ := gd_some hf
      refine tS_9 C h4 (by decide) dX1_clear_23 ?_
      refine g_aload_n C 0 rfl rfl dX1_clear_24 ?_
      refine tF_X1_19 C dX1_clear_25 ?_
      refine g_iload_n C 1 rfl rfl dX1_clear_28 ?_
      refine g_iconst C (v := 0) (by decide) dX1_clear_29 ?_
      obtain ⟨h5, hf⟩ := gd_some hf
      refine tS_10 C h5 (by decide) dX1_clear_30 ?_
      refine g_aload_n C 0 rfl rfl dX1_clear_31 ?_
      refine tF_X1_22 C dX1_clear_32 ?_
      refine g_iload_n C 1 rfl rfl dX1_clear_35 ?_
      refine g_iconst C (v := 0) (by decide) dX1_clear_36 ?_
      obtain ⟨h6, hf⟩ := gd_some hf
      refine tS_11 C h6 (by decide) dX1_clear_37 ?_
      obtain rfl := Option.some.inj hf
      exact g_vret hr dX1_clear_38
def f_X1_vacateFrame_7 (g : Nat) (w1 : Int32) (kx : Mem → Int32 → Option (Int32 × Mem)) : Nat → Mem → Int32 → Option (Int32 × Mem)
  | 0, _, _ => none
  | n + 1, S, w2 => if 24 ≤ w2 then (some ((-1), S)) else (bd (f_J9_floorMod_7cf53 g S (w1 + w2) 12) (fun r3 => bd2 (f_X1_givesWay g S r3) (fun r5 S6 => if r5 = 0 then (f_X1_vacateFrame_7 g w1 kx n S6 (w2 + 1)) else (kx S6 r3))))
def f_X1_vacateFrame (g : Nat) (S : Mem) : Option (Int32 × Mem) := f_X1_vacateFrame_7 g (S.1 7 4) (fun (S8 : Mem) (v9 : Int32) => bd (f_J9_floorMod_7cf53 g S8 (v9 + 1) 12) (fun r11 => bd (f_X1_clear g (up S8 7 4 r11) v9) (fun S13 => some (v9, S13)))) g S 0
abbrev rmX1_vacateFrame : Room := { frames := 1, cells := 0, slots := 0, locals := 22 }
set_option maxHeartbeats 4000000 in
set_option maxRecDepth 100000 in
theorem lp_X1_vacateFrame_7 {κ : Kx} {x : Ad} (C : Cx κ x cX1_vacateFrame RX1 kX1_vacateFrame rmX1_vacateFrame 4) {z : Int32 × Mem} (hr : RI κ x cX1_vacateFrame (cT x z.2) z.1) (g : Nat) (w1 : Int32) (kx : Mem → Int32 → Option (Int32 × Mem)) (hk : ∀ (S1 : Mem) (u3 : Int32), kx S1 u3 = some z → GG κ x (cT x S1) 30 [(0, .ref (ax x 7)), (3, .int u3)] []) : ∀ (n : Nat) (S : Mem) (w2 : Int32), f_X1_vacateFrame_7 g w1 kx n S w2 = some z → GG κ x (cT x S) 7 [(0, .ref (ax x 7)), (1, .int w1), (2, .int w2)] [] := by
  intro n
  induction n with
  | zero => intro S w2 hf; cases hf
  | succ n ih =>
    intro S w2 hf
    rw [f_X1_vacateFrame_7] at hf
    refine g_iload_n C 2 rfl rfl dX1_vacateFrame_7 ?_
    refine g_bipush C (v := 24) (by decide) dX1_vacateFrame_8 ?_
    refine g_icmp_ge C 55 (by decide) dX1_vacateFrame_10 (fun h1 => ?_) (fun h1 => ?_)
    · rw [if_pos h1] at hf
      refine g_iconst C (v := (-1)) (by decide) dX1_vacateFrame_55 ?_
      obtain rfl := Option.some.inj hf
      exact g_iret hr dX1_vacateFrame_56
    · rw [if_neg h1] at hf
      refine g_iload_n C 1 rfl rfl dX1_vacateFrame_13 ?_
      refine g_iload_n C 2 rfl rfl dX1_vacateFrame_14 ?_
      refine g_iadd C dX1_vacateFrame_15 ?_
      refine g_bipush C (v := 12) (by decide) dX1_vacateFrame_16 ?_
      obtain ⟨r3, h2, hf⟩ := bd_some hf
      refine g_callSI C (n := 2) (st := []) (c_J9_floorMod_7cf53 g S (w1 + w2) 12 h2) (tb_wsX _ mM_X1_56 mT_J9_floorMod_7cf53 mN_J9 mK_J9_floorMod_7cf53) (by decide +kernel) rfl rfl ⟨by decide, by decide⟩ rfl (Nat.le_of_ble_eq_true rfl) dX1_vacateFrame_18 rfl ?_
      refine g_istore_n C (lv2 := [(3, .int r3), (0, .ref (ax x 7)), (1, .int w1), (2, .int w2)]) rfl (by decide) rfl dX1_vacateFrame_21 ?_
      refine g_aload_n C 1 rfl rfl dX1_vacateFrame_22 ?_
      refine g_iload_n C 0 rfl rfl dX1_vacateFrame_23 ?_
      obtain ⟨r5, S6, h4, hf⟩ := bd2_some hf
      refine g_callVI C (n := 1) (st := []) (c_X1_givesWay g S r3 h4) (tb_wsV _ mM_X1_62 mI_X1_givesWay mS_X1_givesWay mN_X1 mK_X1_givesWay) (by decide +kernel) rfl rfl ⟨by decide, by decide⟩ 7 1 rfl rfl rfl (Nat.le_of_ble_eq_true rfl) dX1_vacateFrame_24 rfl ?_
      refine g_if_eq C 49 (by decide) dX1_vacateFrame_27 (fun h7 => ?_) (fun h7 => ?_)
      · rw [if_pos h7] at hf
        refine g_iinc C (v := w2 + 1) (lv2 := [(2, .int (w2 + 1)), (3, .int r3), (0, .ref (ax x 7)), (1, .int w1)]) 3 rfl (by rw [(by decide : Int32.ofInt 1 = 1)]) (by decide) rfl dX1_vacateFrame_49 ?_
        refine g_goto C 7 (by decide) dX1_vacateFrame_52 ?_
        refine g_sub [2, 3, 0] rfl ?_
        exact ih S6 (w2 + 1) hf
      · rw [if_neg h7] at hf
        refine g_sub [1, 0] rfl ?_
        exact hk S6 r3 hf
set_option maxHeartbeats 4000000 in
set_option maxRecDepth 100000 in
theorem c_X1_vacateFrame {l : Launch} {x : Ad} (g : Nat) (S : Mem) {z : Int32 × Mem} (hf : f_X1_vacateFrame g S = some z) : MI l x yX1_vacateFrame kX1_vacateFrame rmX1_vacateFrame [.ref (ax x 7)] (cT x S) z.1 (cT x z.2) := by
  refine met_I RX1 (by decide +kernel) rfl (Nat.le_of_ble_eq_true rfl) [(0, .ref (ax x 7))] rfl ?_
  intro κ hl C hr
  subst hl
  rw [f_X1_vacateFrame] at hf
  refine g_aload_n C 0 rfl rfl dX1_vacateFrame_0 ?_
  refine tF_X1_45 C dX1_vacateFrame_1 ?_
  refine g_istore_n C (lv2 := [(1, .int (S.1 7 4)), (0, .ref (ax x 7))]) rfl (by decide) rfl dX1_vacateFrame_4 ?_
  refine g_iconst C (v := 0) (by decide) dX1_vacateFrame_5 ?_
  refine g_istore_n C (lv2 := [(2, .int 0), (1, .int (S.1 7 4)), (0, .ref (ax x 7))]) rfl (by decide) rfl dX1_vacateFrame_6 ?_
  refine g_sub [2, 1, 0] rfl ?_
  refine lp_X1_vacateFrame_7 C hr g (S.1 7 4) _ (fun S8 v9 hf => ?_) g S 0 hf
  refine g_aload_n C 0 rfl rfl dX1_vacateFrame_30 ?_
  refine g_iload_n C 1 rfl rfl dX1_vacateFrame_31 ?_
  refine g_iconst C (v := 1) (by decide) dX1_vacateFrame_32 ?_
  refine g_iadd C dX1_vacateFrame_33 ?_
  refine g_bipush C (v := 12) (by decide) dX1_vacateFrame_34 ?_
  obtain ⟨r11, h10, hf⟩ := bd_some hf
  refine g_callSI C (n := 2) (st := [.ref (ax x 7)]) (c_J9_floorMod_7cf53 g S8 (v9 + 1) 12 h10) (tb_wsX _ mM_X1_56 mT_J9_floorMod_7cf53 mN_J9 mK_J9_floorMod_7cf53) (by decide +kernel) rfl rfl ⟨by decide, by decide⟩ rfl (Nat.le_of_ble_eq_true rfl) dX1_vacateFrame_36 rfl ?_
  refine tP_X1_45 C dX1_vacateFrame_39 ?_
  refine g_aload_n C 0 rfl rfl dX1_vacateFrame_42 ?_
  refine g_iload_n C 1 rfl rfl dX1_vacateFrame_43 ?_
  obtain ⟨S13, h12, hf⟩ := bd_some hf
  refine g_callVV C (n := 1) (st := []) (c_X1_clear g (up S8 7 4 r11) v9 h12) (tb_wsV _ mM_X1_65 mI_X1_clear mS_X1_clear mN_X1 mK_X1_clear) (by decide +kernel) rfl rfl ⟨by decide, by decide⟩ 7 1 rfl rfl rfl (Nat.le_of_ble_eq_true rfl) dX1_vacateFrame_44 rfl ?_
  refine g_iload_n C 1 rfl rfl dX1_vacateFrame_47 ?_
  obtain rfl := Option.some.inj hf
  exact g_iret hr dX1_vacateFrame_48
def f_X1_touch (g : Nat) (S : Mem) (a1 : Int32) (a2 : Int32) : Option (Mem) := bd (f_X1_frameOf g S a1) (fun r2 => jn2 (fun (S3 : Mem) (v4 : Int32) => bd (f_X1_isFrame g S3 v4) (fun r7 => if r7 = 0 then (some S3) else (gd (ix_in v4 12) (gd (ix_in v4 12) (gd (ix_in v4 12) (some (up (up (up S3 8 v4.toNatClampNeg a1) 9 v4.toNatClampNeg 1) 11 v4.toNatClampNeg 1))))))) (fun j5 => if r2 = ((-1)) then (bd2 (f_X1_vacateFrame g S) (fun r14 S15 => if a2 = 0 then (j5 (up S15 7 6 ((S15.1 7 6) + 1)) r14) else (j5 S15 r14))) else (j5 (up S 7 5 ((S.1 7 5) + 1)) r2)))
abbrev rmX1_touch : Room := { frames := 2, cells := 0, slots := 0, locals := 45 }
set_option maxHeartbeats 4000000 in
set_option maxRecDepth 100000 in
theorem c_X1_touch {l : Launch} {x : Ad} (g : Nat) (S : Mem) (a1 : Int32) (a2 : Int32) {z : Mem} (hf : f_X1_touch g S a1 a2 = some z) : MV l x yX1_touch kX1_touch rmX1_touch [.ref (ax x 7), .int a1, .int a2] (cT x S) (cT x z) := by
  refine met_V RX1 (by decide +kernel) rfl (Nat.le_of_ble_eq_true rfl) [(0, .ref (ax x 7)), (1, .int a1), (2, .int a2)] rfl ?_
  intro κ hl C hr
  subst hl
  rw [f_X1_touch] at hf
  refine g_aload_n C 0 rfl rfl dX1_touch_0 ?_
  refine g_iload_n C 1 rfl rfl dX1_touch_1 ?_
  obtain ⟨r2, h1, hf⟩ := bd_some hf
  refine g_callVI C (n := 1) (st := []) (c_X1_frameOf g S a1 h1) (tb_wsV _ mM_X1_48 mI_X1_frameOf mS_X1_frameOf mN_X1 mK_X1_frameOf) (by decide +kernel) rfl rfl ⟨by decide, by decide⟩ 7 1 rfl rfl rfl (Nat.le_of_ble_eq_true rfl) dX1_touch_2 rfl ?_
  refine g_istore_n C (lv2 := [(3, .int r2), (0, .ref (ax x 7)), (1, .int a1), (2, .int a2)]) rfl (by decide) rfl dX1_touch_5 ?_
  refine g_iload_n C 0 rfl rfl dX1_touch_6 ?_
  refine g_iconst C (v := (-1)) (by decide) dX1_touch_7 ?_
  refine jn2_elim (fun (S3 : Mem) (v4 : Int32) => GG κ x (cT x S3) 43 [(0, .ref (ax x 7)), (1, .int a1), (3, .int v4)] []) hf (fun S3 v4 hf => ?_) (fun j5 hj5 hf => ?_)
  · show GG κ x (cT x S3) 43 [(0, .ref (ax x 7)), (1, .int a1), (3, .int v4)] []
    refine g_aload_n C 0 rfl rfl dX1_touch_43 ?_
    refine g_iload_n C 2 rfl rfl dX1_touch_44 ?_
    obtain ⟨r7, h6, hf⟩ := bd_some hf
    refine g_callVI C (n := 1) (st := []) (c_X1_isFrame g S3 v4 h6) (tb_wsV _ mM_X1_31 mI_X1_isFrame mS_X1_isFrame mN_X1 mK_X1_isFrame) (by decide +kernel) rfl rfl ⟨by decide, by decide⟩ 7 1 rfl rfl rfl (Nat.le_of_ble_eq_true rfl) dX1_touch_45 rfl ?_
    refine g_if_eq C 72 (by decide) dX1_touch_48 (fun h8 => ?_) (fun h8 => ?_)
    · rw [if_pos h8] at hf
      obtain rfl := Option.some.inj hf
      exact g_vret hr dX1_touch_72
    · rw [if_neg h8] at hf
      refine g_aload_n C 0 rfl rfl dX1_touch_51 ?_
      refine tF_X1_9 C dX1_touch_52 ?_
      refine g_iload_n C 2 rfl rfl dX1_touch_55 ?_
      refine g_iload_n C 1 rfl rfl dX1_touch_56 ?_
      obtain ⟨h9, hf⟩ := gd_some hf
      refine tS_8 C h9 dX1_touch_57 ?_
      refine g_aload_n C 0 rfl rfl dX1_touch_58 ?_
      refine tF_X1_15 C dX1_touch_59 ?_
      refine g_iload_n C 2 rfl rfl dX1_touch_62 ?_
      refine g_iconst C (v := 1) (by decide) dX1_touch_63 ?_
      obtain ⟨h10, hf⟩ := gd_some hf
      refine tS_9 C h10 (by decide) dX1_touch_64 ?_
      refine g_aload_n C 0 rfl rfl dX1_touch_65 ?_
      refine tF_X1_22 C dX1_touch_66 ?_
      refine g_iload_n C 2 rfl rfl dX1_touch_69 ?_
      refine g_iconst C (v := 1) (by decide) dX1_touch_70 ?_
      obtain ⟨h11, hf⟩ := gd_some hf
      refine tS_11 C h11 (by decide) dX1_touch_71 ?_
      obtain rfl := Option.some.inj hf
      exact g_vret hr dX1_touch_72
  · skip
    refine g_icmp_eq C 24 (by decide) dX1_touch_8 (fun h12 => ?_) (fun h12 => ?_)
    · rw [if_pos h12] at hf
      refine g_aload_n C 1 rfl rfl dX1_touch_24 ?_
      obtain ⟨r14, S15, h13, hf⟩ := bd2_some hf
      refine g_callVI C (n := 0) (st := []) (c_X1_vacateFrame g S h13) (tb_wsV _ mM_X1_52 mI_X1_vacateFrame mS_X1_vacateFrame mN_X1 mK_X1_vacateFrame) (by decide +kernel) rfl rfl ⟨by decide, by decide⟩ 7 1 rfl rfl rfl (Nat.le_of_ble_eq_true rfl) dX1_touch_25 rfl ?_
      refine g_istore_n C (lv2 := [(3, .int r14), (0, .ref (ax x 7)), (1, .int a1), (2, .int a2)]) rfl (by decide) rfl dX1_touch_28 ?_
      refine g_iload_n C 3 rfl rfl dX1_touch_29 ?_
      refine g_if_ne C 43 (by decide) dX1_touch_30 (fun h16 => ?_) (fun h16 => ?_)
      · rw [if_neg h16] at hf
        refine g_sub [1, 2, 0] rfl ?_
        exact hj5 S15 r14 hf
      · rw [if_pos h16] at hf
        refine g_aload_n C 1 rfl rfl dX1_touch_33 ?_
        refine g_dup C rfl dX1_touch_34 ?_
        refine tF_X1_39 C dX1_touch_35 ?_
        refine g_iconst C (v := 1) (by decide) dX1_touch_38 ?_
        refine g_iadd C dX1_touch_39 ?_
        refine tP_X1_39 C dX1_touch_40 ?_
        refine g_sub [1, 2, 0] rfl ?_
        exact hj5 (up S15 7 6 ((S15.1 7 6) + 1)) r14 hf
    · rw [if_neg h12] at hf
      refine g_aload_n C 1 rfl rfl dX1_touch_11 ?_
      refine g_dup C rfl dX1_touch_12 ?_
      refine tF_X1_35 C dX1_touch_13 ?_
      refine g_iconst C (v := 1) (by decide) dX1_touch_16 ?_
      refine g_iadd C dX1_touch_17 ?_
      refine tP_X1_35 C dX1_touch_18 ?_
      refine g_goto C 43 (by decide) dX1_touch_21 ?_
      refine g_sub [1, 2, 0] rfl ?_
      exact hj5 (up S 7 5 ((S.1 7 5) + 1)) r2 hf
def f_X1_soil (g : Nat) (S : Mem) (a1 : Int32) : Option (Mem) := bd (f_X1_frameOf g S a1) (fun r2 => bd (f_X1_isFrame g S r2) (fun r4 => if r4 = 0 then (some S) else (gd (ix_in r2 12) (some (up S 10 r2.toNatClampNeg 1)))))
abbrev rmX1_soil : Room := { frames := 1, cells := 0, slots := 0, locals := 22 }
set_option maxHeartbeats 4000000 in
set_option maxRecDepth 100000 in
theorem c_X1_soil {l : Launch} {x : Ad} (g : Nat) (S : Mem) (a1 : Int32) {z : Mem} (hf : f_X1_soil g S a1 = some z) : MV l x yX1_soil kX1_soil rmX1_soil [.ref (ax x 7), .int a1] (cT x S) (cT x z) := by
  refine met_V RX1 (by decide +kernel) rfl (Nat.le_of_ble_eq_true rfl) [(0, .ref (ax x 7)), (1, .int a1)] rfl ?_
  intro κ hl C hr
  subst hl
  rw [f_X1_soil] at hf
  refine g_aload_n C 0 rfl rfl dX1_soil_0 ?_
  refine g_iload_n C 1 rfl rfl dX1_soil_1 ?_
  obtain ⟨r2, h1, hf⟩ := bd_some hf
  refine g_callVI C (n := 1) (st := []) (c_X1_frameOf g S a1 h1) (tb_wsV _ mM_X1_48 mI_X1_frameOf mS_X1_frameOf mN_X1 mK_X1_frameOf) (by decide +kernel) rfl rfl ⟨by decide, by decide⟩ 7 1 rfl rfl rfl (Nat.le_of_ble_eq_true rfl) dX1_soil_2 rfl ?_
  refine g_istore_n C (lv2 := [(2, .int r2), (0, .ref (ax x 7)), (1, .int a1)]) rfl (by decide) rfl dX1_soil_5 ?_
  refine g_aload_n C 1 rfl rfl dX1_soil_6 ?_
  refine g_iload_n C 0 rfl rfl dX1_soil_7 ?_
  obtain ⟨r4, h3, hf⟩ := bd_some hf
  refine g_callVI C (n := 1) (st := []) (c_X1_isFrame g S r2 h3) (tb_wsV _ mM_X1_31 mI_X1_isFrame mS_X1_isFrame mN_X1 mK_X1_isFrame) (by decide +kernel) rfl rfl ⟨by decide, by decide⟩ 7 1 rfl rfl rfl (Nat.le_of_ble_eq_true rfl) dX1_soil_8 rfl ?_
  refine g_if_eq C 21 (by decide) dX1_soil_11 (fun h5 => ?_) (fun h5 => ?_)
  · rw [if_pos h5] at hf
    obtain rfl := Option.some.inj hf
    exact g_vret hr dX1_soil_21
  · rw [if_neg h5] at hf
    refine g_aload_n C 1 rfl rfl dX1_soil_14 ?_
    refine tF_X1_19 C dX1_soil_15 ?_
    refine g_iload_n C 0 rfl rfl dX1_soil_18 ?_
    refine g_iconst C (v := 1) (by decide) dX1_soil_19 ?_
    obtain ⟨h6, hf⟩ := gd_some hf
    refine tS_10 C h6 (by decide) dX1_soil_20 ?_
    obtain rfl := Option.some.inj hf
    exact g_vret hr dX1_soil_21
def f_X1_clearPage (g : Nat) (S : Mem) (a1 : Int32) : Option (Mem) := bd (f_X1_frameOf g S a1) (fun r2 => bd (f_X1_clear g S r2) (fun S4 => some S4))
abbrev rmX1_clearPage : Room := { frames := 1, cells := 0, slots := 0, locals := 22 }
set_option maxHeartbeats 4000000 in
set_option maxRecDepth 100000 in
theorem c_X1_clearPage {l : Launch} {x : Ad} (g : Nat) (S : Mem) (a1 : Int32) {z : Mem} (hf : f_X1_clearPage g S a1 = some z) : MV l x yX1_clearPage kX1_clearPage rmX1_clearPage [.ref (ax x 7), .int a1] (cT x S) (cT x z) := by
  refine met_V RX1 (by decide +kernel) rfl (Nat.le_of_ble_eq_true rfl) [(0, .ref (ax x 7)), (1, .int a1)] rfl ?_
  intro κ hl C hr
  subst hl
  rw [f_X1_clearPage] at hf
  refine g_aload_n C 0 rfl rfl dX1_clearPage_0 ?_
  refine g_aload_n C 0 rfl rfl dX1_clearPage_1 ?_
  refine g_iload_n C 1 rfl rfl dX1_clearPage_2 ?_
  obtain ⟨r2, h1, hf⟩ := bd_some hf
  refine g_callVI C (n := 1) (st := [.ref (ax x 7)]) (c_X1_frameOf g S a1 h1) (tb_wsV _ mM_X1_48 mI_X1_frameOf mS_X1_frameOf mN_X1 mK_X1_frameOf) (by decide +kernel) rfl rfl ⟨by decide, by decide⟩ 7 1 rfl rfl rfl (Nat.le_of_ble_eq_true rfl) dX1_clearPage_3 rfl ?_
  obtain ⟨S4, h3, hf⟩ := bd_some hf
  refine g_callVV C (n := 1) (st := []) (c_X1_clear g S r2 h3) (tb_wsV _ mM_X1_65 mI_X1_clear mS_X1_clear mN_X1 mK_X1_clear) (by decide +kernel) rfl rfl ⟨by decide, by decide⟩ 7 1 rfl rfl rfl (Nat.le_of_ble_eq_true rfl) dX1_clearPage_6 rfl ?_
  obtain rfl := Option.some.inj hf
  exact g_vret hr dX1_clearPage_9
def f_X1_unpinAll_2 (g : Nat)  : Nat → Mem → Int32 → Option (Mem)
  | 0, _, _ => none
  | n + 1, S, w1 => if 12 ≤ w1 then (some S) else (gd (ix_in w1 12) (f_X1_unpinAll_2 g n (up S 11 w1.toNatClampNeg 0) (w1 + 1)))
def f_X1_unpinAll (g : Nat) (S : Mem) : Option (Mem) := f_X1_unpinAll_2 g g S 0
abbrev rmX1_unpinAll : Room := { frames := 0, cells := 0, slots := 0, locals := 0 }
set_option maxHeartbeats 4000000 in
set_option maxRecDepth 100000 in
theorem lp_X1_unpinAll_2 {κ : Kx} {x : Ad} (C : Cx κ x cX1_unpinAll RX1 kX1_unpinAll rmX1_unpinAll 2) {z : Mem} (hr : RV κ x cX1_unpinAll (cT x z)) (g : Nat)  : ∀ (n : Nat) (S : Mem) (w1 : Int32), f_X1_unpinAll_2 g n S w1 = some z → GG κ x (cT x S) 2 [(0, .ref (ax x 7)), (1, .int w1)] [] := by
  intro n
  induction n with
  | zero => intro S w1 hf; cases hf
  | succ n ih =>
    intro S w1 hf
    rw [f_X1_unpinAll_2] at hf
    refine g_iload_n C 1 rfl rfl dX1_unpinAll_2 ?_
    refine g_bipush C (v := 12) (by decide) dX1_unpinAll_3 ?_
    refine g_icmp_ge C 21 (by decide) dX1_unpinAll_5 (fun h1 => ?_) (fun h1 => ?_)
    · rw [if_pos h1] at hf
      obtain rfl := Option.some.inj hf
      exact g_vret hr dX1_unpinAll_21
    · rw [if_neg h1] at hf
      refine g_aload_n C 0 rfl rfl dX1_unpinAll_8 ?_
      refine tF_X1_22 C dX1_unpinAll_9 ?_
      refine g_iload_n C 1 rfl rfl dX1_unpinAll_12 ?_
      refine g_iconst C (v := 0) (by decide) dX1_unpinAll_13 ?_
      obtain ⟨h2, hf⟩ := gd_some hf
      refine tS_11 C h2 (by decide) dX1_unpinAll_14 ?_
      refine g_iinc C (v := w1 + 1) (lv2 := [(1, .int (w1 + 1)), (0, .ref (ax x 7))]) 1 rfl (by rw [(by decide : Int32.ofInt 1 = 1)]) (by decide) rfl dX1_unpinAll_15 ?_
      refine g_goto C 2 (by decide) dX1_unpinAll_18 ?_
      refine g_sub [1, 0] rfl ?_
      exact ih (up S 11 w1.toNatClampNeg 0) (w1 + 1) hf
set_option maxHeartbeats 4000000 in
set_option maxRecDepth 100000 in
theorem c_X1_unpinAll {l : Launch} {x : Ad} (g : Nat) (S : Mem) {z : Mem} (hf : f_X1_unpinAll g S = some z) : MV l x yX1_unpinAll kX1_unpinAll rmX1_unpinAll [.ref (ax x 7)] (cT x S) (cT x z) := by
  refine met_V RX1 (by decide +kernel) rfl (Nat.le_of_ble_eq_true rfl) [(0, .ref (ax x 7))] rfl ?_
  intro κ hl C hr
  subst hl
  rw [f_X1_unpinAll] at hf
  refine g_iconst C (v := 0) (by decide) dX1_unpinAll_0 ?_
  refine g_istore_n C (lv2 := [(1, .int 0), (0, .ref (ax x 7))]) rfl (by decide) rfl dX1_unpinAll_1 ?_
  refine g_sub [1, 0] rfl ?_
  exact lp_X1_unpinAll_2 C hr g g S 0 hf
def f_X1_countDirty_4 (g : Nat) (S : Mem)  : Nat → Int32 → Int32 → Option (Int32)
  | 0, _, _ => none
  | n + 1, w1, w2 => if 12 ≤ w2 then (some w1) else (gd (ix_in w2 12) (if (S.1 10 w2.toNatClampNeg) = 0 then (f_X1_countDirty_4 g S n w1 (w2 + 1)) else (f_X1_countDirty_4 g S n (w1 + 1) (w2 + 1))))
def f_X1_countDirty (g : Nat) (S : Mem) : Option (Int32) := f_X1_countDirty_4 g S g 0 0
abbrev rmX1_countDirty : Room := { frames := 0, cells := 0, slots := 0, locals := 0 }
set_option maxHeartbeats 4000000 in
set_option maxRecDepth 100000 in
theorem lp_X1_countDirty_4 {κ : Kx} {x : Ad} (C : Cx κ x cX1_countDirty RX1 kX1_countDirty rmX1_countDirty 3) (S : Mem) {z : Int32} (hr : RI κ x cX1_countDirty (cT x S) z) (g : Nat)  : ∀ (n : Nat) (w1 : Int32) (w2 : Int32), f_X1_countDirty_4 g S n w1 w2 = some z → GG κ x (cT x S) 4 [(0, .ref (ax x 7)), (1, .int w1), (2, .int w2)] [] := by
  intro n
  induction n with
  | zero => intro w1 w2 hf; cases hf
  | succ n ih =>
    intro w1 w2 hf
    rw [f_X1_countDirty_4] at hf
    refine g_iload_n C 2 rfl rfl dX1_countDirty_4 ?_
    refine g_bipush C (v := 12) (by decide) dX1_countDirty_5 ?_
    refine g_icmp_ge C 28 (by decide) dX1_countDirty_7 (fun h1 => ?_) (fun h1 => ?_)
    · rw [if_pos h1] at hf
      refine g_iload_n C 1 rfl rfl dX1_countDirty_28 ?_
      obtain rfl := Option.some.inj hf
      exact g_iret hr dX1_countDirty_29
    · rw [if_neg h1] at hf
      refine g_aload_n C 0 rfl rfl dX1_countDirty_10 ?_
      refine tF_X1_19 C dX1_countDirty_11 ?_
      refine g_iload_n C 2 rfl rfl dX1_countDirty_14 ?_
      obtain ⟨h2, hf⟩ := gd_some hf
      refine tL_10 C h2 dX1_countDirty_15 ?_
      refine g_if_eq C 22 (by decide) dX1_countDirty_16 (fun h3 => ?_) (fun h3 => ?_)
      · rw [if_pos h3] at hf
        refine g_iinc C (v := w2 + 1) (lv2 := [(2, .int (w2 + 1)), (0, .ref (ax x 7)), (1, .int w1)]) 2 rfl (by rw [(by decide : Int32.ofInt 1 = 1)]) (by decide) rfl dX1_countDirty_22 ?_
        refine g_goto C 4 (by decide) dX1_countDirty_25 ?_
        refine g_sub [1, 2, 0] rfl ?_
        exact ih w1 (w2 + 1) hf
      · rw [if_neg h3] at hf
        refine g_iinc C (v := w1 + 1) (lv2 := [(1, .int (w1 + 1)), (0, .ref (ax x 7)), (2, .int w2)]) 1 rfl (by rw [(by decide : Int32.ofInt 1 = 1)]) (by decide) rfl dX1_countDirty_19 ?_
        refine g_iinc C (v := w2 + 1) (lv2 := [(2, .int (w2 + 1)), (1, .int (w1 + 1)), (0, .ref (ax x 7))]) 2 rfl (by rw [(by decide : Int32.ofInt 1 = 1)]) (by decide) rfl dX1_countDirty_22 ?_
        refine g_goto C 4 (by decide) dX1_countDirty_25 ?_
        refine g_sub [2, 1, 0] rfl ?_
        exact ih (w1 + 1) (w2 + 1) hf
set_option maxHeartbeats 4000000 in
set_option maxRecDepth 100000 in
theorem c_X1_countDirty {l : Launch} {x : Ad} (g : Nat) (S : Mem) {z : Int32} (hf : f_X1_countDirty g S = some z) : MI l x yX1_countDirty kX1_countDirty rmX1_countDirty [.ref (ax x 7)] (cT x S) z (cT x S) := by
  refine met_I RX1 (by decide +kernel) rfl (Nat.le_of_ble_eq_true rfl) [(0, .ref (ax x 7))] rfl ?_
  intro κ hl C hr
  subst hl
  rw [f_X1_countDirty] at hf
  refine g_iconst C (v := 0) (by decide) dX1_countDirty_0 ?_
  refine g_istore_n C (lv2 := [(1, .int 0), (0, .ref (ax x 7))]) rfl (by decide) rfl dX1_countDirty_1 ?_
  refine g_iconst C (v := 0) (by decide) dX1_countDirty_2 ?_
  refine g_istore_n C (lv2 := [(2, .int 0), (1, .int 0), (0, .ref (ax x 7))]) rfl (by decide) rfl dX1_countDirty_3 ?_
  refine g_sub [2, 1, 0] rfl ?_
  exact lp_X1_countDirty_4 C S hr g g 0 0 hf
def f_X1_writeDirty_7 (g : Nat) (w1 : Int32) (kx : Mem → Option (Int32 × Mem)) : Nat → Mem → Int32 → Option (Int32 × Mem)
  | 0, _, _ => none
  | n + 1, S, w2 => if 12 ≤ w2 then (kx S) else (gd (ix_in w2 12) (f_X1_writeDirty_7 g w1 kx n (up S 10 w2.toNatClampNeg 0) (w2 + 1)))
def f_X1_writeDirty (g : Nat) (S : Mem) : Option (Int32 × Mem) := bd (f_X1_countDirty g S) (fun r2 => f_X1_writeDirty_7 g r2 (fun (S5 : Mem) => some (r2, (up S5 7 7 ((S5.1 7 7) + r2)))) g S 0)
abbrev rmX1_writeDirty : Room := { frames := 1, cells := 0, slots := 0, locals := 22 }
set_option maxHeartbeats 4000000 in
set_option maxRecDepth 100000 in
theorem lp_X1_writeDirty_7 {κ : Kx} {x : Ad} (C : Cx κ x cX1_writeDirty RX1 kX1_writeDirty rmX1_writeDirty 3) {z : Int32 × Mem} (hr : RI κ x cX1_writeDirty (cT x z.2) z.1) (g : Nat) (w1 : Int32) (kx : Mem → Option (Int32 × Mem)) (hk : ∀ (S1 : Mem), kx S1 = some z → GG κ x (cT x S1) 26 [(0, .ref (ax x 7)), (1, .int w1)] []) : ∀ (n : Nat) (S : Mem) (w2 : Int32), f_X1_writeDirty_7 g w1 kx n S w2 = some z → GG κ x (cT x S) 7 [(0, .ref (ax x 7)), (1, .int w1), (2, .int w2)] [] := by
  intro n
  induction n with
  | zero => intro S w2 hf; cases hf
  | succ n ih =>
    intro S w2 hf
    rw [f_X1_writeDirty_7] at hf
    refine g_iload_n C 2 rfl rfl dX1_writeDirty_7 ?_
    refine g_bipush C (v := 12) (by decide) dX1_writeDirty_8 ?_
    refine g_icmp_ge C 26 (by decide) dX1_writeDirty_10 (fun h3 => ?_) (fun h3 => ?_)
    · rw [if_pos h3] at hf
      refine g_sub [0, 1] rfl ?_
      exact hk S hf
    · rw [if_neg h3] at hf
      refine g_aload_n C 0 rfl rfl dX1_writeDirty_13 ?_
      refine tF_X1_19 C dX1_writeDirty_14 ?_
      refine g_iload_n C 2 rfl rfl dX1_writeDirty_17 ?_
      refine g_iconst C (v := 0) (by decide) dX1_writeDirty_18 ?_
      obtain ⟨h4, hf⟩ := gd_some hf
      refine tS_10 C h4 (by decide) dX1_writeDirty_19 ?_
      refine g_iinc C (v := w2 + 1) (lv2 := [(2, .int (w2 + 1)), (0, .ref (ax x 7)), (1, .int w1)]) 2 rfl (by rw [(by decide : Int32.ofInt 1 = 1)]) (by decide) rfl dX1_writeDirty_20 ?_
      refine g_goto C 7 (by decide) dX1_writeDirty_23 ?_
      refine g_sub [1, 2, 0] rfl ?_
      exact ih (up S 10 w2.toNatClampNeg 0) (w2 + 1) hf
set_option maxHeartbeats 4000000 in
set_option maxRecDepth 100000 in
theorem c_X1_writeDirty {l : Launch} {x : Ad} (g : Nat) (S : Mem) {z : Int32 × Mem} (hf : f_X1_writeDirty g S = some z) : MI l x yX1_writeDirty kX1_writeDirty rmX1_writeDirty [.ref (ax x 7)] (cT x S) z.1 (cT x z.2) := by
  refine met_I RX1 (by decide +kernel) rfl (Nat.le_of_ble_eq_true rfl) [(0, .ref (ax x 7))] rfl ?_
  intro κ hl C hr
  subst hl
  rw [f_X1_writeDirty] at hf
  refine g_aload_n C 0 rfl rfl dX1_writeDirty_0 ?_
  obtain ⟨r2, h1, hf⟩ := bd_some hf
  refine g_callVI C (n := 0) (st := []) (c_X1_countDirty g S h1) (tb_wsV _ mM_X1_69 mI_X1_countDirty mS_X1_countDirty mN_X1 mK_X1_countDirty) (by decide +kernel) rfl rfl ⟨by decide, by decide⟩ 7 1 rfl rfl rfl (Nat.le_of_ble_eq_true rfl) dX1_writeDirty_1 rfl ?_
  refine g_istore_n C (lv2 := [(1, .int r2), (0, .ref (ax x 7))]) rfl (by decide) rfl dX1_writeDirty_4 ?_
  refine g_iconst C (v := 0) (by decide) dX1_writeDirty_5 ?_
  refine g_istore_n C (lv2 := [(2, .int 0), (1, .int r2), (0, .ref (ax x 7))]) rfl (by decide) rfl dX1_writeDirty_6 ?_
  refine g_sub [2, 1, 0] rfl ?_
  refine lp_X1_writeDirty_7 C hr g r2 _ (fun S5 hf => ?_) g S 0 hf
  refine g_aload_n C 0 rfl rfl dX1_writeDirty_26 ?_
  refine g_dup C rfl dX1_writeDirty_27 ?_
  refine tF_X1_42 C dX1_writeDirty_28 ?_
  refine g_iload_n C 1 rfl rfl dX1_writeDirty_31 ?_
  refine g_iadd C dX1_writeDirty_32 ?_
  refine tP_X1_42 C dX1_writeDirty_33 ?_
  refine g_iload_n C 1 rfl rfl dX1_writeDirty_36 ?_
  obtain rfl := Option.some.inj hf
  exact g_iret hr dX1_writeDirty_37
def f_X1_emptyAll_4 (g : Nat)  (kx : Mem → Int32 → Option (Int32 × Mem)) : Nat → Mem → Int32 → Int32 → Option (Int32 × Mem)
  | 0, _, _, _ => none
  | n + 1, S, w1, w2 => if 12 ≤ w2 then (kx S w1) else (gd (ix_in w2 12) (jn1 (fun (v3 : Int32) => bd (f_X1_clear g S w2) (fun S6 => f_X1_emptyAll_4 g kx n S6 v3 (w2 + 1))) (fun j4 => if (S.1 8 w2.toNatClampNeg) = ((-1)) then (j4 w1) else (j4 (w1 + 1)))))
def f_X1_emptyAll (g : Nat) (S : Mem) : Option (Int32 × Mem) := f_X1_emptyAll_4 g (fun (S8 : Mem) (v9 : Int32) => some (v9, (up S8 7 4 0))) g S 0 0
abbrev rmX1_emptyAll : Room := { frames := 1, cells := 0, slots := 0, locals := 21 }
set_option maxHeartbeats 4000000 in
set_option maxRecDepth 100000 in
theorem lp_X1_emptyAll_4 {κ : Kx} {x : Ad} (C : Cx κ x cX1_emptyAll RX1 kX1_emptyAll rmX1_emptyAll 3) {z : Int32 × Mem} (hr : RI κ x cX1_emptyAll (cT x z.2) z.1) (g : Nat)  (kx : Mem → Int32 → Option (Int32 × Mem)) (hk : ∀ (S1 : Mem) (u1 : Int32), kx S1 u1 = some z → GG κ x (cT x S1) 34 [(0, .ref (ax x 7)), (1, .int u1)] []) : ∀ (n : Nat) (S : Mem) (w1 : Int32) (w2 : Int32), f_X1_emptyAll_4 g kx n S w1 w2 = some z → GG κ x (cT x S) 4 [(0, .ref (ax x 7)), (1, .int w1), (2, .int w2)] [] := by
  intro n
  induction n with
  | zero => intro S w1 w2 hf; cases hf
  | succ n ih =>
    intro S w1 w2 hf
    rw [f_X1_emptyAll_4] at hf
    refine g_iload_n C 2 rfl rfl dX1_emptyAll_4 ?_
    refine g_bipush C (v := 12) (by decide) dX1_emptyAll_5 ?_
    refine g_icmp_ge C 34 (by decide) dX1_emptyAll_7 (fun h1 => ?_) (fun h1 => ?_)
    · rw [if_pos h1] at hf
      refine g_sub [0, 1] rfl ?_
      exact hk S w1 hf
    · rw [if_neg h1] at hf
      refine g_aload_n C 0 rfl rfl dX1_emptyAll_10 ?_
      refine tF_X1_9 C dX1_emptyAll_11 ?_
      refine g_iload_n C 2 rfl rfl dX1_emptyAll_14 ?_
      obtain ⟨h2, hf⟩ := gd_some hf
      refine tL_8 C h2 dX1_emptyAll_15 ?_
      refine g_iconst C (v := (-1)) (by decide) dX1_emptyAll_16 ?_
      refine jn1_elim (fun (v3 : Int32) => GG κ x (cT x S) 23 [(0, .ref (ax x 7)), (1, .int v3), (2, .int w2)] []) hf (fun v3 hf => ?_) (fun j4 hj4 hf => ?_)
      · show GG κ x (cT x S) 23 [(0, .ref (ax x 7)), (1, .int v3), (2, .int w2)] []
        refine g_aload_n C 0 rfl rfl dX1_emptyAll_23 ?_
        refine g_iload_n C 2 rfl rfl dX1_emptyAll_24 ?_
        obtain ⟨S6, h5, hf⟩ := bd_some hf
        refine g_callVV C (n := 1) (st := []) (c_X1_clear g S w2 h5) (tb_wsV _ mM_X1_65 mI_X1_clear mS_X1_clear mN_X1 mK_X1_clear) (by decide +kernel) rfl rfl ⟨by decide, by decide⟩ 7 1 rfl rfl rfl (Nat.le_of_ble_eq_true rfl) dX1_emptyAll_25 rfl ?_
        refine g_iinc C (v := w2 + 1) (lv2 := [(2, .int (w2 + 1)), (0, .ref (ax x 7)), (1, .int v3)]) 2 rfl (by rw [(by decide : Int32.ofInt 1 = 1)]) (by decide) rfl dX1_emptyAll_28 ?_
        refine g_goto C 4 (by decide) dX1_emptyAll_31 ?_
        refine g_sub [1, 2, 0] rfl ?_
        exact ih S6 v3 (w2 + 1) hf
      · skip
        refine g_icmp_eq C 23 (by decide) dX1_emptyAll_17 (fun h7 => ?_) (fun h7 => ?_)
        · rw [if_pos h7] at hf
          refine g_sub [0, 1, 2] rfl ?_
          exact hj4 w1 hf
        · rw [if_neg h7] at hf
          refine g_iinc C (v := w1 + 1) (lv2 := [(1, .int (w1 + 1)), (0, .ref (ax x 7)), (2, .int w2)]) 1 rfl (by rw [(by decide : Int32.ofInt 1 = 1)]) (by decide) rfl dX1_emptyAll_20 ?_
          refine g_sub [1, 0, 2] rfl ?_
          exact hj4 (w1 + 1) hf
set_option maxHeartbeats 4000000 in
set_option maxRecDepth 100000 in
theorem c_X1_emptyAll {l : Launch} {x : Ad} (g : Nat) (S : Mem) {z : Int32 × Mem} (hf : f_X1_emptyAll g S = some z) : MI l x yX1_emptyAll kX1_emptyAll rmX1_emptyAll [.ref (ax x 7)] (cT x S) z.1 (cT x z.2) := by
  refine met_I RX1 (by decide +kernel) rfl (Nat.le_of_ble_eq_true rfl) [(0, .ref (ax x 7))] rfl ?_
  intro κ hl C hr
  subst hl
  rw [f_X1_emptyAll] at hf
  refine g_iconst C (v := 0) (by decide) dX1_emptyAll_0 ?_
  refine g_istore_n C (lv2 := [(1, .int 0), (0, .ref (ax x 7))]) rfl (by decide) rfl dX1_emptyAll_1 ?_
  refine g_iconst C (v := 0) (by decide) dX1_emptyAll_2 ?_
  refine g_istore_n C (lv2 := [(2, .int 0), (1, .int 0), (0, .ref (ax x 7))]) rfl (by decide) rfl dX1_emptyAll_3 ?_
  refine g_sub [2, 1, 0] rfl ?_
  refine lp_X1_emptyAll_4 C hr g _ (fun S8 v9 hf => ?_) g S 0 0 hf
  refine g_aload_n C 0 rfl rfl dX1_emptyAll_34 ?_
  refine g_iconst C (v := 0) (by decide) dX1_emptyAll_35 ?_
  refine tP_X1_45 C dX1_emptyAll_36 ?_
  refine g_iload_n C 1 rfl rfl dX1_emptyAll_39 ?_
  obtain rfl := Option.some.inj hf
  exact g_iret hr dX1_emptyAll_40
def f_X1_countHolding_4 (g : Nat) (S : Mem) (w1 : Int32) : Nat → Int32 → Int32 → Option (Int32)
  | 0, _, _ => none
  | n + 1, w2, w3 => if 12 ≤ w3 then (some w2) else (gd (ix_in w3 12) (if (S.1 8 w3.toNatClampNeg) = w1 then (f_X1_countHolding_4 g S w1 n (w2 + 1) (w3 + 1)) else (f_X1_countHolding_4 g S w1 n w2 (w3 + 1))))
def f_X1_countHolding (g : Nat) (S : Mem) (a1 : Int32) : Option (Int32) := f_X1_countHolding_4 g S a1 g 0 0
abbrev rmX1_countHolding : Room := { frames := 0, cells := 0, slots := 0, locals := 0 }
set_option maxHeartbeats 4000000 in
set_option maxRecDepth 100000 in
theorem lp_X1_countHolding_4 {κ : Kx} {x : Ad} (C : Cx κ x cX1_countHolding RX1 kX1_countHolding rmX1_countHolding 4) (S : Mem) {z : Int32} (hr : RI κ x cX1_countHolding (cT x S) z) (g : Nat) (w1 : Int32) : ∀ (n : Nat) (w2 : Int32) (w3 : Int32), f_X1_countHolding_4 g S w1 n w2 w3 = some z → GG κ x (cT x S) 4 [(0, .ref (ax x 7)), (1, .int w1), (2, .int w2), (3, .int w3)] [] := by
  intro n
  induction n with
  | zero => intro w2 w3 hf; cases hf
  | succ n ih =>
    intro w2 w3 hf
    rw [f_X1_countHolding_4] at hf
    refine g_iload_n C 3 rfl rfl dX1_countHolding_4 ?_
    refine g_bipush C (v := 12) (by decide) dX1_countHolding_5 ?_
    refine g_icmp_ge C 29 (by decide) dX1_countHolding_7 (fun h1 => ?_) (fun h1 => ?_)
    · rw [if_pos h1] at hf
      refine g_iload_n C 2 rfl rfl dX1_countHolding_29 ?_
      obtain rfl := Option.some.inj hf
      exact g_iret hr dX1_countHolding_30
    · rw [if_neg h1] at hf
      refine g_aload_n C 0 rfl rfl dX1_countHolding_10 ?_
      refine tF_X1_9 C dX1_countHolding_11 ?_
      refine g_iload_n C 3 rfl rfl dX1_countHolding_14 ?_
      obtain ⟨h2, hf⟩ := gd_some hf
      refine tL_8 C h2 dX1_countHolding_15 ?_
      refine g_iload_n C 1 rfl rfl dX1_countHolding_16 ?_
      refine g_icmp_ne C 23 (by decide) dX1_countHolding_17 (fun h3 => ?_) (fun h3 => ?_)
      · rw [if_neg h3] at hf
        refine g_iinc C (v := w3 + 1) (lv2 := [(3, .int (w3 + 1)), (0, .ref (ax x 7)), (1, .int w1), (2, .int w2)]) 3 rfl (by rw [(by decide : Int32.ofInt 1 = 1)]) (by decide) rfl dX1_countHolding_23 ?_
        refine g_goto C 4 (by decide) dX1_countHolding_26 ?_
        refine g_sub [1, 2, 3, 0] rfl ?_
        exact ih w2 (w3 + 1) hf
      · rw [if_pos h3] at hf
        refine g_iinc C (v := w2 + 1) (lv2 := [(2, .int (w2 + 1)), (0, .ref (ax x 7)), (1, .int w1), (3, .int w3)]) 2 rfl (by rw [(by decide : Int32.ofInt 1 = 1)]) (by decide) rfl dX1_countHolding_20 ?_
        refine g_iinc C (v := w3 + 1) (lv2 := [(3, .int (w3 + 1)), (2, .int (w2 + 1)), (0, .ref (ax x 7)), (1, .int w1)]) 3 rfl (by rw [(by decide : Int32.ofInt 1 = 1)]) (by decide) rfl dX1_countHolding_23 ?_
        refine g_goto C 4 (by decide) dX1_countHolding_26 ?_
        refine g_sub [2, 3, 1, 0] rfl ?_
        exact ih (w2 + 1) (w3 + 1) hf
set_option maxHeartbeats 4000000 in
set_option maxRecDepth 100000 in
theorem c_X1_countHolding {l : Launch} {x : Ad} (g : Nat) (S : Mem) (a1 : Int32) {z : Int32} (hf : f_X1_countHolding g S a1 = some z) : MI l x yX1_countHolding kX1_countHolding rmX1_countHolding [.ref (ax x 7), .int a1] (cT x S) z (cT x S) := by
  refine met_I RX1 (by decide +kernel) rfl (Nat.le_of_ble_eq_true rfl) [(0, .ref (ax x 7)), (1, .int a1)] rfl ?_
  intro κ hl C hr
  subst hl
  rw [f_X1_countHolding] at hf
  refine g_iconst C (v := 0) (by decide) dX1_countHolding_0 ?_
  refine g_istore_n C (lv2 := [(2, .int 0), (0, .ref (ax x 7)), (1, .int a1)]) rfl (by decide) rfl dX1_countHolding_1 ?_
  refine g_iconst C (v := 0) (by decide) dX1_countHolding_2 ?_
  refine g_istore_n C (lv2 := [(3, .int 0), (2, .int 0), (0, .ref (ax x 7)), (1, .int a1)]) rfl (by decide) rfl dX1_countHolding_3 ?_
  refine g_sub [2, 3, 1, 0] rfl ?_
  exact lp_X1_countHolding_4 C S hr g a1 g 0 0 hf
