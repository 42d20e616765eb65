def f_X0_hasKey (g : Nat) (S : Mem) (a1 : Int32) (a2 : Int32) (a3 : Int32) : Option (Int32) := bd (f_X0_countOf g S a1) (fun r2 => if r2 ≤ a2 then (some 0) else (bd (f_X0_keyAt g S a1 a2) (fun r5 => if r5 = a3 then (some 1) else (some 0))))
abbrev rmX0_hasKey : Room := { frames := 2, cells := 0, slots := 0, locals := 46 }
set_option maxHeartbeats 4000000 in
set_option maxRecDepth 100000 in
theorem c_X0_hasKey {l : Launch} {x : Ad} (g : Nat) (S : Mem) (a1 : Int32) (a2 : Int32) (a3 : Int32) {z : Int32} (hf : f_X0_hasKey g S a1 a2 a3 = some z) : MI l x yX0_hasKey kX0_hasKey rmX0_hasKey [.ref (ax x 1), .int a1, .int a2, .int a3] (cT x S) z (cT x S) := by
  refine met_Z RX0 (by decide +kernel) rfl (Nat.le_of_ble_eq_true rfl) [(0, .ref (ax x 1)), (1, .int a1), (2, .int a2), (3, .int a3)] rfl ?_
  intro κ hl C hr
  subst hl
  rw [f_X0_hasKey] at hf
  refine g_iload_n C 2 rfl rfl dX0_hasKey_0 ?_
  refine g_aload_n C 0 rfl rfl dX0_hasKey_1 ?_
  refine g_iload_n C 1 rfl rfl dX0_hasKey_2 ?_
  obtain ⟨r2, h1, hf⟩ := bd_some hf
  refine g_callVI C (n := 1) (st := [.int a2]) (c_X0_countOf g S a1 h1) (tb_wsV _ mM_X0_41 mI_X0_countOf mS_X0_countOf mN_X0 mK_X0_countOf) (by decide +kernel) rfl rfl ⟨by decide, by decide⟩ 1 0 rfl rfl rfl (Nat.le_of_ble_eq_true rfl) dX0_hasKey_3 rfl ?_
  refine g_icmp_ge C 23 (by decide) dX0_hasKey_6 (fun h3 => ?_) (fun h3 => ?_)
  · rw [if_pos h3] at hf
    refine g_iconst C (v := 0) (by decide) dX0_hasKey_23 ?_
    obtain rfl := Option.some.inj hf
    exact g_iret (hr (Or.inl rfl)) dX0_hasKey_24
  · rw [if_neg h3] at hf
    refine g_aload_n C 0 rfl rfl dX0_hasKey_9 ?_
    refine g_iload_n C 1 rfl rfl dX0_hasKey_10 ?_
    refine g_iload_n C 2 rfl rfl dX0_hasKey_11 ?_
    obtain ⟨r5, h4, hf⟩ := bd_some hf
    refine g_callVI C (n := 2) (st := []) (c_X0_keyAt g S a1 a2 h4) (tb_wsV _ mM_X0_45 mI_X0_keyAt mS_X0_keyAt mN_X0 mK_X0_keyAt) (by decide +kernel) rfl rfl ⟨by decide, by decide⟩ 1 0 rfl rfl rfl (Nat.le_of_ble_eq_true rfl) dX0_hasKey_12 rfl ?_
    refine g_iload_n C 3 rfl rfl dX0_hasKey_15 ?_
    refine g_icmp_ne C 23 (by decide) dX0_hasKey_16 (fun h6 => ?_) (fun h6 => ?_)
    · rw [if_neg h6] at hf
      refine g_iconst C (v := 0) (by decide) dX0_hasKey_23 ?_
      obtain rfl := Option.some.inj hf
      exact g_iret (hr (Or.inl rfl)) dX0_hasKey_24
    · rw [if_pos h6] at hf
      refine g_iconst C (v := 1) (by decide) dX0_hasKey_19 ?_
      refine g_goto C 24 (by decide) dX0_hasKey_20 ?_
      obtain rfl := Option.some.inj hf
      exact g_iret (hr (Or.inr rfl)) dX0_hasKey_24
def f_X0_childPlaceFor_8 (g : Nat) (S : Mem) (w1 : Int32) (w2 : Int32) : Nat → Int32 → Option (Int32)
  | 0, _ => none
  | n + 1, w3 => if w3 ≤ 0 then (some 0) else (bd (f_X0_keyAt g S w1 w3) (fun r5 => if w2 < r5 then (f_X0_childPlaceFor_8 g S w1 w2 n (w3 + (-1))) else (some w3)))
def f_X0_childPlaceFor (g : Nat) (S : Mem) (a1 : Int32) (a2 : Int32) : Option (Int32) := bd (f_X0_countOf g S a1) (fun r2 => f_X0_childPlaceFor_8 g S a1 a2 g (r2 - 1))
abbrev rmX0_childPlaceFor : Room := { frames := 2, cells := 0, slots := 0, locals := 46 }
set_option maxHeartbeats 4000000 in
set_option maxRecDepth 100000 in
theorem lp_X0_childPlaceFor_8 {κ : Kx} {x : Ad} (C : Cx κ x cX0_childPlaceFor RX0 kX0_childPlaceFor rmX0_childPlaceFor 4) (S : Mem) {z : Int32} (hr : RI κ x cX0_childPlaceFor (cT x S) z) (g : Nat) (w1 : Int32) (w2 : Int32) : ∀ (n : Nat) (w3 : Int32), f_X0_childPlaceFor_8 g S w1 w2 n w3 = some z → GG κ x (cT x S) 8 [(0, .ref (ax x 1)), (1, .int w1), (2, .int w2), (3, .int w3)] [] := by
  intro n
  induction n with
  | zero => intro w3 hf; cases hf
  | succ n ih =>
    intro w3 hf
    rw [f_X0_childPlaceFor_8] at hf
    refine g_iload_n C 3 rfl rfl dX0_childPlaceFor_8 ?_
    refine g_if_le C 30 (by decide) dX0_childPlaceFor_9 (fun h3 => ?_) (fun h3 => ?_)
    · rw [if_pos h3] at hf
      refine g_iconst C (v := 0) (by decide) dX0_childPlaceFor_30 ?_
      obtain rfl := Option.some.inj hf
      exact g_iret hr dX0_childPlaceFor_31
    · rw [if_neg h3] at hf
      refine g_aload_n C 0 rfl rfl dX0_childPlaceFor_12 ?_
      refine g_iload_n C 1 rfl rfl dX0_childPlaceFor_13 ?_
      refine g_iload_n C 3 rfl rfl dX0_childPlaceFor_14 ?_
      obtain ⟨r5, h4, hf⟩ := bd_some hf
      refine g_callVI C (n := 2) (st := []) (c_X0_keyAt g S w1 w3 h4) (tb_wsV _ mM_X0_45 mI_X0_keyAt mS_X0_keyAt mN_X0 mK_X0_keyAt) (by decide +kernel) rfl rfl ⟨by decide, by decide⟩ 1 0 rfl rfl rfl (Nat.le_of_ble_eq_true rfl) dX0_childPlaceFor_15 rfl ?_
      refine g_iload_n C 2 rfl rfl dX0_childPlaceFor_18 ?_
      refine g_icmp_gt C 24 (by decide) dX0_childPlaceFor_19 (fun h6 => ?_) (fun h6 => ?_)
      · rw [if_pos h6] at hf
        refine g_iinc C (v := w3 + (-1)) (lv2 := [(3, .int (w3 + (-1))), (0, .ref (ax x 1)), (1, .int w1), (2, .int w2)]) 3 rfl (by rw [(by decide : Int32.ofInt (-1) = (-1))]) (by decide) rfl dX0_childPlaceFor_24 ?_
        refine g_goto C 8 (by decide) dX0_childPlaceFor_27 ?_
        refine g_sub [1, 2, 3, 0] rfl ?_
        exact ih (w3 + (-1)) hf
      · rw [if_neg h6] at hf
        refine g_iload_n C 3 rfl rfl dX0_childPlaceFor_22 ?_
        obtain rfl := Option.some.inj hf
        exact g_iret hr dX0_childPlaceFor_23
set_option maxHeartbeats 4000000 in
set_option maxRecDepth 100000 in
theorem c_X0_childPlaceFor {l : Launch} {x : Ad} (g : Nat) (S : Mem) (a1 : Int32) (a2 : Int32) {z : Int32} (hf : f_X0_childPlaceFor g S a1 a2 = some z) : MI l x yX0_childPlaceFor kX0_childPlaceFor rmX0_childPlaceFor [.ref (ax x 1), .int a1, .int a2] (cT x S) z (cT x S) := by
  refine met_I RX0 (by decide +kernel) rfl (Nat.le_of_ble_eq_true rfl) [(0, .ref (ax x 1)), (1, .int a1), (2, .int a2)] rfl ?_
  intro κ hl C hr
  subst hl
  rw [f_X0_childPlaceFor] at hf
  refine g_aload_n C 0 rfl rfl dX0_childPlaceFor_0 ?_
  refine g_iload_n C 1 rfl rfl dX0_childPlaceFor_1 ?_
  obtain ⟨r2, h1, hf⟩ := bd_some hf
  refine g_callVI C (n := 1) (st := []) (c_X0_countOf g S a1 h1) (tb_wsV _ mM_X0_41 mI_X0_countOf mS_X0_countOf mN_X0 mK_X0_countOf) (by decide +kernel) rfl rfl ⟨by decide, by decide⟩ 1 0 rfl rfl rfl (Nat.le_of_ble_eq_true rfl) dX0_childPlaceFor_2 rfl ?_
  refine g_iconst C (v := 1) (by decide) dX0_childPlaceFor_5 ?_
  refine g_isub C dX0_childPlaceFor_6 ?_
  refine g_istore_n C (lv2 := [(3, .int (r2 - 1)), (0, .ref (ax x 1)), (1, .int a1), (2, .int a2)]) rfl (by decide) rfl dX0_childPlaceFor_7 ?_
  refine g_sub [1, 2, 3, 0] rfl ?_
  exact lp_X0_childPlaceFor_8 C S hr g a1 a2 g (r2 - 1) hf
def f_X0_countLevels_4 (g : Nat) (S : Mem)  : Nat → Int32 → Int32 → Option (Int32)
  | 0, _, _ => none
  | n + 1, w2, w3 => if 6 ≤ w3 then (some w3) else (bd (f_X0_kindOf g S w2) (fun r3 => if r3 = 2 then (bd (f_X0_secondAt g S w2 0) (fun r6 => f_X0_countLevels_4 g S n r6 (w3 + 1))) else (some w3)))
def f_X0_countLevels (g : Nat) (S : Mem) (a1 : Int32) : Option (Int32) := f_X0_countLevels_4 g S g a1 1
abbrev rmX0_countLevels : Room := { frames := 2, cells := 0, slots := 0, locals := 46 }
set_option maxHeartbeats 4000000 in
set_option maxRecDepth 100000 in
theorem lp_X0_countLevels_4 {κ : Kx} {x : Ad} (C : Cx κ x cX0_countLevels RX0 kX0_countLevels rmX0_countLevels 4) (S : Mem) {z : Int32} (hr : RI κ x cX0_countLevels (cT x S) z) (g : Nat)  : ∀ (n : Nat) (w2 : Int32) (w3 : Int32), f_X0_countLevels_4 g S n w2 w3 = some z → GG κ x (cT x S) 4 [(0, .ref (ax x 1)), (2, .int w2), (3, .int w3)] [] := by
  intro n
  induction n with
  | zero => intro w2 w3 hf; cases hf
  | succ n ih =>
    intro w2 w3 hf
    rw [f_X0_countLevels_4] at hf
    refine g_iload_n C 2 rfl rfl dX0_countLevels_4 ?_
    refine g_bipush C (v := 6) (by decide) dX0_countLevels_5 ?_
    refine g_icmp_ge C 32 (by decide) dX0_countLevels_7 (fun h1 => ?_) (fun h1 => ?_)
    · rw [if_pos h1] at hf
      refine g_iload_n C 2 rfl rfl dX0_countLevels_32 ?_
      obtain rfl := Option.some.inj hf
      exact g_iret hr dX0_countLevels_33
    · rw [if_neg h1] at hf
      refine g_aload_n C 0 rfl rfl dX0_countLevels_10 ?_
      refine g_iload_n C 1 rfl rfl dX0_countLevels_11 ?_
      obtain ⟨r3, h2, hf⟩ := bd_some hf
      refine g_callVI C (n := 1) (st := []) (c_X0_kindOf g S w2 h2) (tb_wsV _ mM_X0_55 mI_X0_kindOf mS_X0_kindOf mN_X0 mK_X0_kindOf) (by decide +kernel) rfl rfl ⟨by decide, by decide⟩ 1 0 rfl rfl rfl (Nat.le_of_ble_eq_true rfl) dX0_countLevels_12 rfl ?_
      refine g_iconst C (v := 2) (by decide) dX0_countLevels_15 ?_
      refine g_icmp_ne C 32 (by decide) dX0_countLevels_16 (fun h4 => ?_) (fun h4 => ?_)
      · rw [if_neg h4] at hf
        refine g_iload_n C 2 rfl rfl dX0_countLevels_32 ?_
        obtain rfl := Option.some.inj hf
        exact g_iret hr dX0_countLevels_33
      · rw [if_pos h4] at hf
        refine g_aload_n C 0 rfl rfl dX0_countLevels_19 ?_
        refine g_iload_n C 1 rfl rfl dX0_countLevels_20 ?_
        refine g_iconst C (v := 0) (by decide) dX0_countLevels_21 ?_
        obtain ⟨r6, h5, hf⟩ := bd_some hf
        refine g_callVI C (n := 2) (st := []) (c_X0_secondAt g S w2 0 h5) (tb_wsV _ mM_X0_48 mI_X0_secondAt mS_X0_secondAt mN_X0 mK_X0_secondAt) (by decide +kernel) rfl rfl ⟨by decide, by decide⟩ 1 0 rfl rfl rfl (Nat.le_of_ble_eq_true rfl) dX0_countLevels_22 rfl ?_
        refine g_istore_n C (lv2 := [(2, .int r6), (0, .ref (ax x 1)), (3, .int w3)]) rfl (by decide) rfl dX0_countLevels_25 ?_
        refine g_iinc C (v := w3 + 1) (lv2 := [(3, .int (w3 + 1)), (2, .int r6), (0, .ref (ax x 1))]) 2 rfl (by rw [(by decide : Int32.ofInt 1 = 1)]) (by decide) rfl dX0_countLevels_26 ?_
        refine g_goto C 4 (by decide) dX0_countLevels_29 ?_
        refine g_sub [2, 1, 0] rfl ?_
        exact ih r6 (w3 + 1) hf
set_option maxHeartbeats 4000000 in
set_option maxRecDepth 100000 in
theorem c_X0_countLevels {l : Launch} {x : Ad} (g : Nat) (S : Mem) (a1 : Int32) {z : Int32} (hf : f_X0_countLevels g S a1 = some z) : MI l x yX0_countLevels kX0_countLevels rmX0_countLevels [.ref (ax x 1), .int a1] (cT x S) z (cT x S) := by
  refine met_I RX0 (by decide +kernel) rfl (Nat.le_of_ble_eq_true rfl) [(0, .ref (ax x 1)), (1, .int a1)] rfl ?_
  intro κ hl C hr
  subst hl
  rw [f_X0_countLevels] at hf
  refine g_iload_n C 1 rfl rfl dX0_countLevels_0 ?_
  refine g_istore_n C (lv2 := [(2, .int a1), (0, .ref (ax x 1)), (1, .int a1)]) rfl (by decide) rfl dX0_countLevels_1 ?_
  refine g_iconst C (v := 1) (by decide) dX0_countLevels_2 ?_
  refine g_istore_n C (lv2 := [(3, .int 1), (2, .int a1), (0, .ref (ax x 1)), (1, .int a1)]) rfl (by decide) rfl dX0_countLevels_3 ?_
  refine g_sub [2, 1, 0] rfl ?_
  exact lp_X0_countLevels_4 C S hr g g a1 1 hf
