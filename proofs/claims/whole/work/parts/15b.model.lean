def f_X5_placeOf_12 (g : Nat) (S : Mem) (w1 : Int32) (w2 : Int32) : Nat → Int32 → Option (Int32)
  | 0, _ => none
  | n + 1, w3 => gd (ix_in w2 40) (if (S.1 2 w2.toNatClampNeg) ≤ w3 then (some w3) else (gd (ix_in ((5 * w2) + w3) 200) (if w1 ≤ (S.1 3 ((5 * w2) + w3).toNatClampNeg) then (some w3) else (f_X5_placeOf_12 g S w1 w2 n (w3 + 1)))))
def f_X5_placeOf (g : Nat) (S : Mem) (a1 : Int32) : Option (Int32) := gd (ix_in (S.1 0 8) 50) (f_X5_placeOf_12 g S a1 (S.1 6 (S.1 0 8).toNatClampNeg) g 0)
abbrev rmX5_placeOf : Room := { frames := 0, cells := 0, slots := 0, locals := 0 }
set_option maxHeartbeats 4000000 in
set_option maxRecDepth 100000 in
theorem lp_X5_placeOf_12 {κ : Kx} {x : Ad} (C : Cx κ x cX5_placeOf RX5 kX5_placeOf rmX5_placeOf 4) (S : Mem) {z : Int32} (hr : RI κ x cX5_placeOf (cM x S) z) (g : Nat) (w1 : Int32) (w2 : Int32) : ∀ (n : Nat) (w3 : Int32), f_X5_placeOf_12 g S w1 w2 n w3 = some z → GG κ x (cM x S) 12 [(0, .ref (ax x 30)), (1, .int w1), (2, .int w2), (3, .int w3)] [] := by
  intro n
  induction n with
  | zero => intro w3 hf; cases hf
  | succ n ih =>
    intro w3 hf
    rw [f_X5_placeOf_12] at hf
    refine g_iload_n C 3 rfl rfl dX5_placeOf_12 ?_
    refine g_aload_n C 0 rfl rfl dX5_placeOf_13 ?_
    refine rF_X5_13 C dX5_placeOf_14 ?_
    refine g_iload_n C 2 rfl rfl dX5_placeOf_17 ?_
    obtain ⟨h2, hf⟩ := gd_some hf
    refine rL_2 C h2 dX5_placeOf_18 ?_
    refine g_icmp_ge C 42 (by decide) dX5_placeOf_19 (fun h3 => ?_) (fun h3 => ?_)
    · rw [if_pos h3] at hf
      refine g_iload_n C 3 rfl rfl dX5_placeOf_42 ?_
      obtain rfl := Option.some.inj hf
      exact g_iret hr dX5_placeOf_43
    · rw [if_neg h3] at hf
      refine g_aload_n C 0 rfl rfl dX5_placeOf_22 ?_
      refine rF_X5_16 C dX5_placeOf_23 ?_
      refine g_iconst C (v := 5) (by decide) dX5_placeOf_26 ?_
      refine g_iload_n C 2 rfl rfl dX5_placeOf_27 ?_
      refine g_imul C dX5_placeOf_28 ?_
      refine g_iload_n C 3 rfl rfl dX5_placeOf_29 ?_
      refine g_iadd C dX5_placeOf_30 ?_
      obtain ⟨h4, hf⟩ := gd_some hf
      refine rL_3 C h4 dX5_placeOf_31 ?_
      refine g_iload_n C 1 rfl rfl dX5_placeOf_32 ?_
      refine g_icmp_ge C 42 (by decide) dX5_placeOf_33 (fun h5 => ?_) (fun h5 => ?_)
      · rw [if_pos h5] at hf
        refine g_iload_n C 3 rfl rfl dX5_placeOf_42 ?_
        obtain rfl := Option.some.inj hf
        exact g_iret hr dX5_placeOf_43
      · rw [if_neg h5] at hf
        refine g_iinc C (v := w3 + 1) (lv2 := [(3, .int (w3 + 1)), (0, .ref (ax x 30)), (1, .int w1), (2, .int w2)]) 3 rfl (by rw [(by decide : Int32.ofInt 1 = 1)]) (by decide) rfl dX5_placeOf_36 ?_
        refine g_goto C 12 (by decide) dX5_placeOf_39 ?_
        refine g_sub [1, 2, 3, 0] rfl ?_
        exact ih (w3 + 1) hf
set_option maxHeartbeats 4000000 in
set_option maxRecDepth 100000 in
theorem c_X5_placeOf {l : Launch} {x : Ad} (g : Nat) (S : Mem) (a1 : Int32) {z : Int32} (hf : f_X5_placeOf g S a1 = some z) : MI l x yX5_placeOf kX5_placeOf rmX5_placeOf [.ref (ax x 30), .int a1] (cM x S) z (cM x S) := by
  refine met_I RX5 (by decide +kernel) rfl (Nat.le_of_ble_eq_true rfl) [(0, .ref (ax x 30)), (1, .int a1)] rfl ?_
  intro κ hl C hr
  subst hl
  rw [f_X5_placeOf] at hf
  refine g_aload_n C 0 rfl rfl dX5_placeOf_0 ?_
  refine rF_X5_25 C dX5_placeOf_1 ?_
  refine g_aload_n C 0 rfl rfl dX5_placeOf_4 ?_
  refine rF_X5_74 C dX5_placeOf_5 ?_
  obtain ⟨h1, hf⟩ := gd_some hf
  refine rL_6 C h1 dX5_placeOf_8 ?_
  refine g_istore_n C (lv2 := [(2, .int (S.1 6 (S.1 0 8).toNatClampNeg)), (0, .ref (ax x 30)), (1, .int a1)]) rfl (by decide) rfl dX5_placeOf_9 ?_
  refine g_iconst C (v := 0) (by decide) dX5_placeOf_10 ?_
  refine g_istore_n C (lv2 := [(3, .int 0), (2, .int (S.1 6 (S.1 0 8).toNatClampNeg)), (0, .ref (ax x 30)), (1, .int a1)]) rfl (by decide) rfl dX5_placeOf_11 ?_
  refine g_sub [2, 3, 1, 0] rfl ?_
  exact lp_X5_placeOf_12 C S hr g a1 (S.1 6 (S.1 0 8).toNatClampNeg) g 0 hf
def f_X5_isAt (g : Nat) (S : Mem) (a1 : Int32) (a2 : Int32) : Option (Int32) := gd (ix_in (S.1 0 8) 50) (gd (ix_in (S.1 6 (S.1 0 8).toNatClampNeg) 40) (if (S.1 2 (S.1 6 (S.1 0 8).toNatClampNeg).toNatClampNeg) ≤ a1 then (some 0) else (gd (ix_in ((5 * (S.1 6 (S.1 0 8).toNatClampNeg)) + a1) 200) (if (S.1 3 ((5 * (S.1 6 (S.1 0 8).toNatClampNeg)) + a1).toNatClampNeg) = a2 then (some 1) else (some 0)))))
abbrev rmX5_isAt : Room := { frames := 0, cells := 0, slots := 0, locals := 0 }
set_option maxHeartbeats 4000000 in
set_option maxRecDepth 100000 in
theorem c_X5_isAt {l : Launch} {x : Ad} (g : Nat) (S : Mem) (a1 : Int32) (a2 : Int32) {z : Int32} (hf : f_X5_isAt g S a1 a2 = some z) : MI l x yX5_isAt kX5_isAt rmX5_isAt [.ref (ax x 30), .int a1, .int a2] (cM x S) z (cM x S) := by
  refine met_Z RX5 (by decide +kernel) rfl (Nat.le_of_ble_eq_true rfl) [(0, .ref (ax x 30)), (1, .int a1), (2, .int a2)] rfl ?_
  intro κ hl C hr
  subst hl
  rw [f_X5_isAt] at hf
  refine g_aload_n C 0 rfl rfl dX5_isAt_0 ?_
  refine rF_X5_25 C dX5_isAt_1 ?_
  refine g_aload_n C 0 rfl rfl dX5_isAt_4 ?_
  refine rF_X5_74 C dX5_isAt_5 ?_
  obtain ⟨h1, hf⟩ := gd_some hf
  refine rL_6 C h1 dX5_isAt_8 ?_
  refine g_istore_n C (lv2 := [(3, .int (S.1 6 (S.1 0 8).toNatClampNeg)), (0, .ref (ax x 30)), (1, .int a1), (2, .int a2)]) rfl (by decide) rfl dX5_isAt_9 ?_
  refine g_iload_n C 2 rfl rfl dX5_isAt_10 ?_
  refine g_aload_n C 1 rfl rfl dX5_isAt_11 ?_
  refine rF_X5_13 C dX5_isAt_12 ?_
  refine g_iload_n C 0 rfl rfl dX5_isAt_15 ?_
  obtain ⟨h2, hf⟩ := gd_some hf
  refine rL_2 C h2 dX5_isAt_16 ?_
  refine g_icmp_ge C 38 (by decide) dX5_isAt_17 (fun h3 => ?_) (fun h3 => ?_)
  · rw [if_pos h3] at hf
    refine g_iconst C (v := 0) (by decide) dX5_isAt_38 ?_
    obtain rfl := Option.some.inj hf
    exact g_iret (hr (Or.inl rfl)) dX5_isAt_39
  · rw [if_neg h3] at hf
    refine g_aload_n C 1 rfl rfl dX5_isAt_20 ?_
    refine rF_X5_16 C dX5_isAt_21 ?_
    refine g_iconst C (v := 5) (by decide) dX5_isAt_24 ?_
    refine g_iload_n C 0 rfl rfl dX5_isAt_25 ?_
    refine g_imul C dX5_isAt_26 ?_
    refine g_iload_n C 2 rfl rfl dX5_isAt_27 ?_
    refine g_iadd C dX5_isAt_28 ?_
    obtain ⟨h4, hf⟩ := gd_some hf
    refine rL_3 C h4 dX5_isAt_29 ?_
    refine g_iload_n C 3 rfl rfl dX5_isAt_30 ?_
    refine g_icmp_ne C 38 (by decide) dX5_isAt_31 (fun h5 => ?_) (fun h5 => ?_)
    · rw [if_neg h5] at hf
      refine g_iconst C (v := 0) (by decide) dX5_isAt_38 ?_
      obtain rfl := Option.some.inj hf
      exact g_iret (hr (Or.inl rfl)) dX5_isAt_39
    · rw [if_pos h5] at hf
      refine g_iconst C (v := 1) (by decide) dX5_isAt_34 ?_
      refine g_goto C 39 (by decide) dX5_isAt_35 ?_
      obtain rfl := Option.some.inj hf
      exact g_iret (hr (Or.inr rfl)) dX5_isAt_39
def f_X5_leastFree_2 (g : Nat) (S : Mem)  : Nat → Int32 → Option (Int32)
  | 0, _ => none
  | n + 1, w1 => if 40 ≤ w1 then (some w1) else (gd (ix_in w1 40) (if (S.1 1 w1.toNatClampNeg) = 0 then (some w1) else (f_X5_leastFree_2 g S n (w1 + 1))))
def f_X5_leastFree (g : Nat) (S : Mem) : Option (Int32) := f_X5_leastFree_2 g S g 0
abbrev rmX5_leastFree : Room := { frames := 0, cells := 0, slots := 0, locals := 0 }
set_option maxHeartbeats 4000000 in
set_option maxRecDepth 100000 in
theorem lp_X5_leastFree_2 {κ : Kx} {x : Ad} (C : Cx κ x cX5_leastFree RX5 kX5_leastFree rmX5_leastFree 2) (S : Mem) {z : Int32} (hr : RI κ x cX5_leastFree (cM x S) z) (g : Nat)  : ∀ (n : Nat) (w1 : Int32), f_X5_leastFree_2 g S n w1 = some z → GG κ x (cM x S) 2 [(0, .ref (ax x 30)), (1, .int w1)] [] := by
  intro n
  induction n with
  | zero => intro w1 hf; cases hf
  | succ n ih =>
    intro w1 hf
    rw [f_X5_leastFree_2] at hf
    refine g_iload_n C 1 rfl rfl dX5_leastFree_2 ?_
    refine g_bipush C (v := 40) (by decide) dX5_leastFree_3 ?_
    refine g_icmp_ge C 23 (by decide) dX5_leastFree_5 (fun h1 => ?_) (fun h1 => ?_)
    · rw [if_pos h1] at hf
      refine g_iload_n C 1 rfl rfl dX5_leastFree_23 ?_
      obtain rfl := Option.some.inj hf
      exact g_iret hr dX5_leastFree_24
    · rw [if_neg h1] at hf
      refine g_aload_n C 0 rfl rfl dX5_leastFree_8 ?_
      refine rF_X5_7 C dX5_leastFree_9 ?_
      refine g_iload_n C 1 rfl rfl dX5_leastFree_12 ?_
      obtain ⟨h2, hf⟩ := gd_some hf
      refine rL_1 C h2 dX5_leastFree_13 ?_
      refine g_if_eq C 23 (by decide) dX5_leastFree_14 (fun h3 => ?_) (fun h3 => ?_)
      · rw [if_pos h3] at hf
        refine g_iload_n C 1 rfl rfl dX5_leastFree_23 ?_
        obtain rfl := Option.some.inj hf
        exact g_iret hr dX5_leastFree_24
      · rw [if_neg h3] at hf
        refine g_iinc C (v := w1 + 1) (lv2 := [(1, .int (w1 + 1)), (0, .ref (ax x 30))]) 1 rfl (by rw [(by decide : Int32.ofInt 1 = 1)]) (by decide) rfl dX5_leastFree_17 ?_
        refine g_goto C 2 (by decide) dX5_leastFree_20 ?_
        refine g_sub [1, 0] rfl ?_
        exact ih (w1 + 1) hf
set_option maxHeartbeats 4000000 in
set_option maxRecDepth 100000 in
theorem c_X5_leastFree {l : Launch} {x : Ad} (g : Nat) (S : Mem) {z : Int32} (hf : f_X5_leastFree g S = some z) : MI l x yX5_leastFree kX5_leastFree rmX5_leastFree [.ref (ax x 30)] (cM x S) z (cM x S) := by
  refine met_I RX5 (by decide +kernel) rfl (Nat.le_of_ble_eq_true rfl) [(0, .ref (ax x 30))] rfl ?_
  intro κ hl C hr
  subst hl
  rw [f_X5_leastFree] at hf
  refine g_iconst C (v := 0) (by decide) dX5_leastFree_0 ?_
  refine g_istore_n C (lv2 := [(1, .int 0), (0, .ref (ax x 30))]) rfl (by decide) rfl dX5_leastFree_1 ?_
  refine g_sub [1, 0] rfl ?_
  exact lp_X5_leastFree_2 C S hr g g 0 hf
def f_X5_pagesInUse_4 (g : Nat) (S : Mem)  : Nat → Int32 → Int32 → Option (Int32)
  | 0, _, _ => none
  | n + 1, w1, w2 => if 40 ≤ w2 then (some w1) else (gd (ix_in w2 40) (if (S.1 1 w2.toNatClampNeg) = 0 then (f_X5_pagesInUse_4 g S n w1 (w2 + 1)) else (f_X5_pagesInUse_4 g S n (w1 + 1) (w2 + 1))))
def f_X5_pagesInUse (g : Nat) (S : Mem) : Option (Int32) := f_X5_pagesInUse_4 g S g 0 0
abbrev rmX5_pagesInUse : Room := { frames := 0, cells := 0, slots := 0, locals := 0 }
set_option maxHeartbeats 4000000 in
set_option maxRecDepth 100000 in
theorem lp_X5_pagesInUse_4 {κ : Kx} {x : Ad} (C : Cx κ x cX5_pagesInUse RX5 kX5_pagesInUse rmX5_pagesInUse 3) (S : Mem) {z : Int32} (hr : RI κ x cX5_pagesInUse (cM x S) z) (g : Nat)  : ∀ (n : Nat) (w1 : Int32) (w2 : Int32), f_X5_pagesInUse_4 g S n w1 w2 = some z → GG κ x (cM x S) 4 [(0, .ref (ax x 30)), (1, .int w1), (2, .int w2)] [] := by
  intro n
  induction n with
  | zero => intro w1 w2 hf; cases hf
  | succ n ih =>
    intro w1 w2 hf
    rw [f_X5_pagesInUse_4] at hf
    refine g_iload_n C 2 rfl rfl dX5_pagesInUse_4 ?_
    refine g_bipush C (v := 40) (by decide) dX5_pagesInUse_5 ?_
    refine g_icmp_ge C 33 (by decide) dX5_pagesInUse_7 (fun h1 => ?_) (fun h1 => ?_)
    · rw [if_pos h1] at hf
      refine g_iload_n C 1 rfl rfl dX5_pagesInUse_33 ?_
      obtain rfl := Option.some.inj hf
      exact g_iret hr dX5_pagesInUse_34
    · rw [if_neg h1] at hf
      refine g_aload_n C 0 rfl rfl dX5_pagesInUse_10 ?_
      refine rF_X5_7 C dX5_pagesInUse_11 ?_
      refine g_iload_n C 2 rfl rfl dX5_pagesInUse_14 ?_
      obtain ⟨h2, hf⟩ := gd_some hf
      refine rL_1 C h2 dX5_pagesInUse_15 ?_
      refine g_if_eq C 25 (by decide) dX5_pagesInUse_16 (fun h3 => ?_) (fun h3 => ?_)
      · rw [if_pos h3] at hf
        refine g_iload_n C 1 rfl rfl dX5_pagesInUse_25 ?_
        refine g_istore_n C (lv2 := [(1, .int w1), (0, .ref (ax x 30)), (2, .int w2)]) rfl (by decide) rfl dX5_pagesInUse_26 ?_
        refine g_iinc C (v := w2 + 1) (lv2 := [(2, .int (w2 + 1)), (1, .int w1), (0, .ref (ax x 30))]) 2 rfl (by rw [(by decide : Int32.ofInt 1 = 1)]) (by decide) rfl dX5_pagesInUse_27 ?_
        refine g_goto C 4 (by decide) dX5_pagesInUse_30 ?_
        refine g_sub [2, 1, 0] rfl ?_
        exact ih w1 (w2 + 1) hf
      · rw [if_neg h3] at hf
        refine g_iload_n C 1 rfl rfl dX5_pagesInUse_19 ?_
        refine g_iconst C (v := 1) (by decide) dX5_pagesInUse_20 ?_
        refine g_iadd C dX5_pagesInUse_21 ?_
        refine g_goto C 26 (by decide) dX5_pagesInUse_22 ?_
        refine g_istore_n C (lv2 := [(1, .int (w1 + 1)), (0, .ref (ax x 30)), (2, .int w2)]) rfl (by decide) rfl dX5_pagesInUse_26 ?_
        refine g_iinc C (v := w2 + 1) (lv2 := [(2, .int (w2 + 1)), (1, .int (w1 + 1)), (0, .ref (ax x 30))]) 2 rfl (by rw [(by decide : Int32.ofInt 1 = 1)]) (by decide) rfl dX5_pagesInUse_27 ?_
        refine g_goto C 4 (by decide) dX5_pagesInUse_30 ?_
        refine g_sub [2, 1, 0] rfl ?_
        exact ih (w1 + 1) (w2 + 1) hf
set_option maxHeartbeats 4000000 in
set_option maxRecDepth 100000 in
theorem c_X5_pagesInUse {l : Launch} {x : Ad} (g : Nat) (S : Mem) {z : Int32} (hf : f_X5_pagesInUse g S = some z) : MI l x yX5_pagesInUse kX5_pagesInUse rmX5_pagesInUse [.ref (ax x 30)] (cM x S) z (cM x S) := by
  refine met_I RX5 (by decide +kernel) rfl (Nat.le_of_ble_eq_true rfl) [(0, .ref (ax x 30))] rfl ?_
  intro κ hl C hr
  subst hl
  rw [f_X5_pagesInUse] at hf
  refine g_iconst C (v := 0) (by decide) dX5_pagesInUse_0 ?_
  refine g_istore_n C (lv2 := [(1, .int 0), (0, .ref (ax x 30))]) rfl (by decide) rfl dX5_pagesInUse_1 ?_
  refine g_iconst C (v := 0) (by decide) dX5_pagesInUse_2 ?_
  refine g_istore_n C (lv2 := [(2, .int 0), (1, .int 0), (0, .ref (ax x 30))]) rfl (by decide) rfl dX5_pagesInUse_3 ?_
  refine g_sub [2, 1, 0] rfl ?_
  exact lp_X5_pagesInUse_4 C S hr g g 0 0 hf
def f_X5_insert_8 (g : Nat) (w1 : Int32) (w2 : Int32) (w3 : Int32) (w4 : Int32) (kx : Mem → Option (Mem)) : Nat → Mem → Int32 → Option (Mem)
  | 0, _, _ => none
  | n + 1, S, w5 => if w5 ≤ w2 then (kx S) else (gd (ix_in (((5 * w1) + w5) - 1) 200) (gd (ix_in ((5 * w1) + w5) 200) (gd (ix_in (((5 * w1) + w5) - 1) 200) (gd (ix_in ((5 * w1) + w5) 200) (f_X5_insert_8 g w1 w2 w3 w4 kx n (up (up S 3 ((5 * w1) + w5).toNatClampNeg (S.1 3 (((5 * w1) + w5) - 1).toNatClampNeg)) 4 ((5 * w1) + w5).toNatClampNeg ((up S 3 ((5 * w1) + w5).toNatClampNeg (S.1 3 (((5 * w1) + w5) - 1).toNatClampNeg)).1 4 (((5 * w1) + w5) - 1).toNatClampNeg)) (w5 + (-1)))))))
def f_X5_insert (g : Nat) (S : Mem) (a1 : Int32) (a2 : Int32) (a3 : Int32) (a4 : Int32) : Option (Mem) := gd (ix_in a1 40) (f_X5_insert_8 g a1 a2 a3 a4 (fun (S7 : Mem) => gd (ix_in ((5 * a1) + a2) 200) (gd (ix_in ((5 * a1) + a2) 200) (gd (ix_in a1 40) (gd (ix_in a1 40) (some (up (up (up S7 3 ((5 * a1) + a2).toNatClampNeg a3) 4 ((5 * a1) + a2).toNatClampNeg a4) 2 a1.toNatClampNeg (((up (up S7 3 ((5 * a1) + a2).toNatClampNeg a3) 4 ((5 * a1) + a2).toNatClampNeg a4).1 2 a1.toNatClampNeg) + 1))))))) g S (S.1 2 a1.toNatClampNeg))
abbrev rmX5_insert : Room := { frames := 0, cells := 0, slots := 0, locals := 0 }
set_option maxHeartbeats 4000000 in
set_option maxRecDepth 100000 in
theorem lp_X5_insert_8 {κ : Kx} {x : Ad} (C : Cx κ x cX5_insert RX5 kX5_insert rmX5_insert 6) {z : Mem} (hr : RV κ x cX5_insert (cM x z)) (g : Nat) (w1 : Int32) (w2 : Int32) (w3 : Int32) (w4 : Int32) (kx : Mem → Option (Mem)) (hk : ∀ (S1 : Mem), kx S1 = some z → GG κ x (cM x S1) 68 [(0, .ref (ax x 30)), (1, .int w1), (2, .int w2), (3, .int w3), (4, .int w4)] []) : ∀ (n : Nat) (S : Mem) (w5 : Int32), f_X5_insert_8 g w1 w2 w3 w4 kx n S w5 = some z → GG κ x (cM x S) 8 [(0, .ref (ax x 30)), (1, .int w1), (2, .int w2), (3, .int w3), (4, .int w4), (5, .int w5)] [] := by
  intro n
  induction n with
  | zero => intro S w5 hf; cases hf
  | succ n ih =>
    intro S w5 hf
    rw [f_X5_insert_8] at hf
    refine g_iload C 5 rfl dX5_insert_8 ?_
    refine g_iload_n C 2 rfl rfl dX5_insert_10 ?_
    refine g_icmp_le C 68 (by decide) dX5_insert_11 (fun h2 => ?_) (fun h2 => ?_)
    · rw [if_pos h2] at hf
      refine g_sub [0, 1, 2, 3, 4] rfl ?_
      exact hk S hf
    · rw [if_neg h2] at hf
      refine g_aload_n C 0 rfl rfl dX5_insert_14 ?_
      refine rF_X5_16 C dX5_insert_15 ?_
      refine g_iconst C (v := 5) (by decide) dX5_insert_18 ?_
      refine g_iload_n C 1 rfl rfl dX5_insert_19 ?_
      refine g_imul C dX5_insert_20 ?_
      refine g_iload C 5 rfl dX5_insert_21 ?_
      refine g_iadd C dX5_insert_23 ?_
      refine g_aload_n C 0 rfl rfl dX5_insert_24 ?_
      refine rF_X5_16 C dX5_insert_25 ?_
      refine g_iconst C (v := 5) (by decide) dX5_insert_28 ?_
      refine g_iload_n C 1 rfl rfl dX5_insert_29 ?_
      refine g_imul C dX5_insert_30 ?_
      refine g_iload C 5 rfl dX5_insert_31 ?_
      refine g_iadd C dX5_insert_33 ?_
      refine g_iconst C (v := 1) (by decide) dX5_insert_34 ?_
      refine g_isub C dX5_insert_35 ?_
      obtain ⟨h3, hf⟩ := gd_some hf
      refine rL_3 C h3 dX5_insert_36 ?_
      obtain ⟨h4, hf⟩ := gd_some hf
      refine rS_3 C h4 dX5_insert_37 ?_
      refine g_aload_n C 0 rfl rfl dX5_insert_38 ?_
      refine rF_X5_19 C dX5_insert_39 ?_
      refine g_iconst C (v := 5) (by decide) dX5_insert_42 ?_
      refine g_iload_n C 1 rfl rfl dX5_insert_43 ?_
      refine g_imul C dX5_insert_44 ?_
      refine g_iload C 5 rfl dX5_insert_45 ?_
      refine g_iadd C dX5_insert_47 ?_
      refine g_aload_n C 0 rfl rfl dX5_insert_48 ?_
      refine rF_X5_19 C dX5_insert_49 ?_
      refine g_iconst C (v := 5) (by decide) dX5_insert_52 ?_
      refine g_iload_n C 1 rfl rfl dX5_insert_53 ?_
      refine g_imul C dX5_insert_54 ?_
      refine g_iload C 5 rfl dX5_insert_55 ?_
      refine g_iadd C dX5_insert_57 ?_
      refine g_iconst C (v := 1) (by decide) dX5_insert_58 ?_
      refine g_isub C dX5_insert_59 ?_
      obtain ⟨h5, hf⟩ := gd_some hf
      refine rL_4 C h5 dX5_insert_60 ?_
      obtain ⟨h6, hf⟩ := gd_some hf
      refine rS_4 C h6 dX5_insert_61 ?_
      refine g_iinc C (v := w5 + (-1)) (lv2 := [(5, .int (w5 + (-1))), (0, .ref (ax x 30)), (1, .int w1), (2, .int w2), (3, .int w3), (4, .int w4)]) 5 rfl (by rw [(by decide : Int32.ofInt (-1) = (-1))]) (by decide) rfl dX5_insert_62 ?_
      refine g_goto C 8 (by decide) dX5_insert_65 ?_
      refine g_sub [1, 2, 3, 4, 5, 0] rfl ?_
      exact ih (up (up S 3 ((5 * w1) + w5).toNatClampNeg (S.1 3 (((5 * w1) + w5) - 1).toNatClampNeg)) 4 ((5 * w1) + w5).toNatClampNeg ((up S 3 ((5 * w1) + w5).toNatClampNeg (S.1 3 (((5 * w1) + w5) - 1).toNatClampNeg)).1 4 (((5 * w1) + w5) - 1).toNatClampNeg)) (w5 + (-1)) hf
set_option maxHeartbeats 4000000 in
set_option maxRecDepth 100000 in
theorem c_X5_insert {l : Launch} {x : Ad} (g : Nat) (S : Mem) (a1 : Int32) (a2 : Int32) (a3 : Int32) (a4 : Int32) {z : Mem} (hf : f_X5_insert g S a1 a2 a3 a4 = some z) : MV l x yX5_insert kX5_insert rmX5_insert [.ref (ax x 30), .int a1, .int a2, .int a3, .int a4] (cM x S) (cM x z) := by
  refine met_V RX5 (by decide +kernel) rfl (Nat.le_of_ble_eq_true rfl) [(0, .ref (ax x 30)), (1, .int a1), (2, .int a2), (3, .int a3), (4, .int a4)] rfl ?_
  intro κ hl C hr
  subst hl
  rw [f_X5_insert] at hf
  refine g_aload_n C 0 rfl rfl dX5_insert_0 ?_
  refine rF_X5_13 C dX5_insert_1 ?_
  refine g_iload_n C 1 rfl rfl dX5_insert_4 ?_
  obtain ⟨h1, hf⟩ := gd_some hf
  refine rL_2 C h1 dX5_insert_5 ?_
  refine g_istore C (lv2 := [(5, .int (S.1 2 a1.toNatClampNeg)), (0, .ref (ax x 30)), (1, .int a1), (2, .int a2), (3, .int a3), (4, .int a4)]) (by decide) rfl dX5_insert_6 ?_
  refine g_sub [1, 2, 3, 4, 5, 0] rfl ?_
  refine lp_X5_insert_8 C hr g a1 a2 a3 a4 _ (fun S7 hf => ?_) g S (S.1 2 a1.toNatClampNeg) hf
  refine g_aload_n C 0 rfl rfl dX5_insert_68 ?_
  refine rF_X5_16 C dX5_insert_69 ?_
  refine g_iconst C (v := 5) (by decide) dX5_insert_72 ?_
  refine g_iload_n C 1 rfl rfl dX5_insert_73 ?_
  refine g_imul C dX5_insert_74 ?_
  refine g_iload_n C 2 rfl rfl dX5_insert_75 ?_
  refine g_iadd C dX5_insert_76 ?_
  refine g_iload_n C 3 rfl rfl dX5_insert_77 ?_
  obtain ⟨h8, hf⟩ := gd_some hf
  refine rS_3 C h8 dX5_insert_78 ?_
  refine g_aload_n C 0 rfl rfl dX5_insert_79 ?_
  refine rF_X5_19 C dX5_insert_80 ?_
  refine g_iconst C (v := 5) (by decide) dX5_insert_83 ?_
  refine g_iload_n C 1 rfl rfl dX5_insert_84 ?_
  refine g_imul C dX5_insert_85 ?_
  refine g_iload_n C 2 rfl rfl dX5_insert_86 ?_
  refine g_iadd C dX5_insert_87 ?_
  refine g_iload C 4 rfl dX5_insert_88 ?_
  obtain ⟨h9, hf⟩ := gd_some hf
  refine rS_4 C h9 dX5_insert_90 ?_
  refine g_aload_n C 0 rfl rfl dX5_insert_91 ?_
  refine rF_X5_13 C dX5_insert_92 ?_
  refine g_iload_n C 1 rfl rfl dX5_insert_95 ?_
  refine g_dup2 C rfl rfl dX5_insert_96 ?_
  obtain ⟨h10, hf⟩ := gd_some hf
  refine rL_2 C h10 dX5_insert_97 ?_
  refine g_iconst C (v := 1) (by decide) dX5_insert_98 ?_
  refine g_iadd C dX5_insert_99 ?_
  obtain ⟨h11, hf⟩ := gd_some hf
  refine rS_2 C h11 dX5_insert_100 ?_
  obtain rfl := Option.some.inj hf
  exact g_vret hr dX5_insert_101
def f_X5_removeAt_12 (g : Nat) (w1 : Int32) : Nat → Mem → Int32 → Option (Mem)
  | 0, _, _ => none
  | n + 1, S, w3 => gd (ix_in w1 40) (if (S.1 2 w1.toNatClampNeg) ≤ w3 then (some S) else (gd (ix_in (((5 * w1) + w3) + 1) 200) (gd (ix_in ((5 * w1) + w3) 200) (gd (ix_in (((5 * w1) + w3) + 1) 200) (gd (ix_in ((5 * w1) + w3) 200) (f_X5_removeAt_12 g w1 n (up (up S 3 ((5 * w1) + w3).toNatClampNeg (S.1 3 (((5 * w1) + w3) + 1).toNatClampNeg)) 4 ((5 * w1) + w3).toNatClampNeg ((up S 3 ((5 * w1) + w3).toNatClampNeg (S.1 3 (((5 * w1) + w3) + 1).toNatClampNeg)).1 4 (((5 * w1) + w3) + 1).toNatClampNeg)) (w3 + 1)))))))
def f_X5_removeAt (g : Nat) (S : Mem) (a1 : Int32) (a2 : Int32) : Option (Mem) := gd (ix_in a1 40) (gd (ix_in a1 40) (f_X5_removeAt_12 g a1 g (up S 2 a1.toNatClampNeg ((S.1 2 a1.toNatClampNeg) - 1)) a2))
abbrev rmX5_removeAt : Room := { frames := 0, cells := 0, slots := 0, locals := 0 }
set_option maxHeartbeats 4000000 in
set_option maxRecDepth 100000 in
theorem lp_X5_removeAt_12 {κ : Kx} {x : Ad} (C : Cx κ x cX5_removeAt RX5 kX5_removeAt rmX5_removeAt 4) {z : Mem} (hr : RV κ x cX5_removeAt (cM x z)) (g : Nat) (w1 : Int32) : ∀ (n : Nat) (S : Mem) (w3 : Int32), f_X5_removeAt_12 g w1 n S w3 = some z → GG κ x (cM x S) 12 [(0, .ref (ax x 30)), (1, .int w1), (3, .int w3)] [] := by
  intro n
  induction n with
  | zero => intro S w3 hf; cases hf
  | succ n ih =>
    intro S w3 hf
    rw [f_X5_removeAt_12] at hf
    refine g_iload_n C 2 rfl rfl dX5_removeAt_12 ?_
    refine g_aload_n C 0 rfl rfl dX5_removeAt_13 ?_
    refine rF_X5_13 C dX5_removeAt_14 ?_
    refine g_iload_n C 1 rfl rfl dX5_removeAt_17 ?_
    obtain ⟨h3, hf⟩ := gd_some hf
    refine rL_2 C h3 dX5_removeAt_18 ?_
    refine g_icmp_ge C 72 (by decide) dX5_removeAt_19 (fun h4 => ?_) (fun h4 => ?_)
    · rw [if_pos h4] at hf
      obtain rfl := Option.some.inj hf
      exact g_vret hr dX5_removeAt_72
    · rw [if_neg h4] at hf
      refine g_aload_n C 0 rfl rfl dX5_removeAt_22 ?_
      refine rF_X5_16 C dX5_removeAt_23 ?_
      refine g_iconst C (v := 5) (by decide) dX5_removeAt_26 ?_
      refine g_iload_n C 1 rfl rfl dX5_removeAt_27 ?_
      refine g_imul C dX5_removeAt_28 ?_
      refine g_iload_n C 2 rfl rfl dX5_removeAt_29 ?_
      refine g_iadd C dX5_removeAt_30 ?_
      refine g_aload_n C 0 rfl rfl dX5_removeAt_31 ?_
      refine rF_X5_16 C dX5_removeAt_32 ?_
      refine g_iconst C (v := 5) (by decide) dX5_removeAt_35 ?_
      refine g_iload_n C 1 rfl rfl dX5_removeAt_36 ?_
      refine g_imul C dX5_removeAt_37 ?_
      refine g_iload_n C 2 rfl rfl dX5_removeAt_38 ?_
      refine g_iadd C dX5_removeAt_39 ?_
      refine g_iconst C (v := 1) (by decide) dX5_removeAt_40 ?_
      refine g_iadd C dX5_removeAt_41 ?_
      obtain ⟨h5, hf⟩ := gd_some hf
      refine rL_3 C h5 dX5_removeAt_42 ?_
      obtain ⟨h6, hf⟩ := gd_some hf
      refine rS_3 C h6 dX5_removeAt_43 ?_
      refine g_aload_n C 0 rfl rfl dX5_removeAt_44 ?_
      refine rF_X5_19 C dX5_removeAt_45 ?_
      refine g_iconst C (v := 5) (by decide) dX5_removeAt_48 ?_
      refine g_iload_n C 1 rfl rfl dX5_removeAt_49 ?_
      refine g_imul C dX5_removeAt_50 ?_
      refine g_iload_n C 2 rfl rfl dX5_removeAt_51 ?_
      refine g_iadd C dX5_removeAt_52 ?_
      refine g_aload_n C 0 rfl rfl dX5_removeAt_53 ?_
      refine rF_X5_19 C dX5_removeAt_54 ?_
      refine g_iconst C (v := 5) (by decide) dX5_removeAt_57 ?_
      refine g_iload_n C 1 rfl rfl dX5_removeAt_58 ?_
      refine g_imul C dX5_removeAt_59 ?_
      refine g_iload_n C 2 rfl rfl dX5_removeAt_60 ?_
      refine g_iadd C dX5_removeAt_61 ?_
      refine g_iconst C (v := 1) (by decide) dX5_removeAt_62 ?_
      refine g_iadd C dX5_removeAt_63 ?_
      obtain ⟨h7, hf⟩ := gd_some hf
      refine rL_4 C h7 dX5_removeAt_64 ?_
      obtain ⟨h8, hf⟩ := gd_some hf
      refine rS_4 C h8 dX5_removeAt_65 ?_
      refine g_iinc C (v := w3 + 1) (lv2 := [(3, .int (w3 + 1)), (0, .ref (ax x 30)), (1, .int w1)]) 2 rfl (by rw [(by decide : Int32.ofInt 1 = 1)]) (by decide) rfl dX5_removeAt_66 ?_
      refine g_goto C 12 (by decide) dX5_removeAt_69 ?_
      refine g_sub [1, 2, 0] rfl ?_
      exact ih (up (up S 3 ((5 * w1) + w3).toNatClampNeg (S.1 3 (((5 * w1) + w3) + 1).toNatClampNeg)) 4 ((5 * w1) + w3).toNatClampNeg ((up S 3 ((5 * w1) + w3).toNatClampNeg (S.1 3 (((5 * w1) + w3) + 1).toNatClampNeg)).1 4 (((5 * w1) + w3) + 1).toNatClampNeg)) (w3 + 1) hf
set_option maxHeartbeats 4000000 in
set_option maxRecDepth 100000 in
theorem c_X5_removeAt {l : Launch} {x : Ad} (g : Nat) (S : Mem) (a1 : Int32) (a2 : Int32) {z : Mem} (hf : f_X5_removeAt g S a1 a2 = some z) : MV l x yX5_removeAt kX5_removeAt rmX5_removeAt [.ref (ax x 30), .int a1, .int a2] (cM x S) (cM x z) := by
  refine met_V RX5 (by decide +kernel) rfl (Nat.le_of_ble_eq_true rfl) [(0, .ref (ax x 30)), (1, .int a1), (2, .int a2)] rfl ?_
  intro κ hl C hr
  subst hl
  rw [f_X5_removeAt] at hf
  refine g_aload_n C 0 rfl rfl dX5_removeAt_0 ?_
  refine rF_X5_13 C dX5_removeAt_1 ?_
  refine g_iload_n C 1 rfl rfl dX5_removeAt_4 ?_
  refine g_dup2 C rfl rfl dX5_removeAt_5 ?_
  obtain ⟨h1, hf⟩ := gd_some hf
  refine rL_2 C h1 dX5_removeAt_6 ?_
  refine g_iconst C (v := 1) (by decide) dX5_removeAt_7 ?_
  refine g_isub C dX5_removeAt_8 ?_
  obtain ⟨h2, hf⟩ := gd_some hf
  refine rS_2 C h2 dX5_removeAt_9 ?_
  refine g_iload_n C 2 rfl rfl dX5_removeAt_10 ?_
  refine g_istore_n C (lv2 := [(3, .int a2), (0, .ref (ax x 30)), (1, .int a1), (2, .int a2)]) rfl (by decide) rfl dX5_removeAt_11 ?_
  refine g_sub [1, 2, 0] rfl ?_
  exact lp_X5_removeAt_12 C hr g a1 g (up S 2 a1.toNatClampNeg ((S.1 2 a1.toNatClampNeg) - 1)) a2 hf
def f_X5_wanted_7 (g : Nat) (S : Mem)  (kx : Int32 → Int32 → Option (Int32)) : Nat → Int32 → Int32 → Option (Int32)
  | 0, _, _ => none
  | n + 1, w1, w2 => if w2 < 0 then (kx w1 w2) else (gd (ix_in w2 50) (gd (ix_in (S.1 6 w2.toNatClampNeg) 40) (if (S.1 2 (S.1 6 w2.toNatClampNeg).toNatClampNeg) = 4 then (f_X5_wanted_7 g S kx n (w1 + 1) (w2 + (-1))) else (kx w1 w2))))
def f_X5_wanted (g : Nat) (S : Mem) : Option (Int32) := f_X5_wanted_7 g S (fun (v5 : Int32) (v6 : Int32) => if 0 ≤ v6 then (some v5) else (some (v5 + 1))) g 0 (S.1 0 8)
abbrev rmX5_wanted : Room := { frames := 0, cells := 0, slots := 0, locals := 0 }
set_option maxHeartbeats 4000000 in
set_option maxRecDepth 100000 in
theorem lp_X5_wanted_7 {κ : Kx} {x : Ad} (C : Cx κ x cX5_wanted RX5 kX5_wanted rmX5_wanted 3) (S : Mem) {z : Int32} (hr : RI κ x cX5_wanted (cM x S) z) (g : Nat)  (kx : Int32 → Int32 → Option (Int32)) (hk : ∀ (u1 : Int32) (u2 : Int32), kx u1 u2 = some z → GG κ x (cM x S) 35 [(1, .int u1), (2, .int u2)] []) : ∀ (n : Nat) (w1 : Int32) (w2 : Int32), f_X5_wanted_7 g S kx n w1 w2 = some z → GG κ x (cM x S) 7 [(0, .ref (ax x 30)), (1, .int w1), (2, .int w2)] [] := by
  intro n
  induction n with
  | zero => intro w1 w2 hf; cases hf
  | succ n ih =>
    intro w1 w2 hf
    rw [f_X5_wanted_7] at hf
    refine g_iload_n C 2 rfl rfl dX5_wanted_7 ?_
    refine g_if_lt C 35 (by decide) dX5_wanted_8 (fun h1 => ?_) (fun h1 => ?_)
    · rw [if_pos h1] at hf
      refine g_sub [1, 2] rfl ?_
      exact hk w1 w2 hf
    · rw [if_neg h1] at hf
      refine g_aload_n C 0 rfl rfl dX5_wanted_11 ?_
      refine rF_X5_13 C dX5_wanted_12 ?_
      refine g_aload_n C 0 rfl rfl dX5_wanted_15 ?_
      refine rF_X5_25 C dX5_wanted_16 ?_
      refine g_iload_n C 2 rfl rfl dX5_wanted_19 ?_
      obtain ⟨h2, hf⟩ := gd_some hf
      refine rL_6 C h2 dX5_wanted_20 ?_
      obtain ⟨h3, hf⟩ := gd_some hf
      refine rL_2 C h3 dX5_wanted_21 ?_
      refine g_iconst C (v := 4) (by decide) dX5_wanted_22 ?_
      refine g_icmp_ne C 35 (by decide) dX5_wanted_23 (fun h4 => ?_) (fun h4 => ?_)
      · rw [if_neg h4] at hf
        refine g_sub [1, 2] rfl ?_
        exact hk w1 w2 hf
      · rw [if_pos h4] at hf
        refine g_iinc C (v := w1 + 1) (lv2 := [(1, .int (w1 + 1)), (0, .ref (ax x 30)), (2, .int w2)]) 1 rfl (by rw [(by decide : Int32.ofInt 1 = 1)]) (by decide) rfl dX5_wanted_26 ?_
        refine g_iinc C (v := w2 + (-1)) (lv2 := [(2, .int (w2 + (-1))), (1, .int (w1 + 1)), (0, .ref (ax x 30))]) 2 rfl (by rw [(by decide : Int32.ofInt (-1) = (-1))]) (by decide) rfl dX5_wanted_29 ?_
        refine g_goto C 7 (by decide) dX5_wanted_32 ?_
        refine g_sub [2, 1, 0] rfl ?_
        exact ih (w1 + 1) (w2 + (-1)) hf
set_option maxHeartbeats 4000000 in
set_option maxRecDepth 100000 in
theorem c_X5_wanted {l : Launch} {x : Ad} (g : Nat) (S : Mem) {z : Int32} (hf : f_X5_wanted g S = some z) : MI l x yX5_wanted kX5_wanted rmX5_wanted [.ref (ax x 30)] (cM x S) z (cM x S) := by
  refine met_I RX5 (by decide +kernel) rfl (Nat.le_of_ble_eq_true rfl) [(0, .ref (ax x 30))] rfl ?_
  intro κ hl C hr
  subst hl
  rw [f_X5_wanted] at hf
  refine g_iconst C (v := 0) (by decide) dX5_wanted_0 ?_
  refine g_istore_n C (lv2 := [(1, .int 0), (0, .ref (ax x 30))]) rfl (by decide) rfl dX5_wanted_1 ?_
  refine g_aload_n C 1 rfl rfl dX5_wanted_2 ?_
  refine rF_X5_74 C dX5_wanted_3 ?_
  refine g_istore_n C (lv2 := [(2, .int (S.1 0 8)), (1, .int 0), (0, .ref (ax x 30))]) rfl (by decide) rfl dX5_wanted_6 ?_
  refine g_sub [2, 1, 0] rfl ?_
  refine lp_X5_wanted_7 C S hr g _ (fun v5 v6 hf => ?_) g 0 (S.1 0 8) hf
  refine g_iload_n C 1 rfl rfl dX5_wanted_35 ?_
  refine g_if_ge C 45 (by decide) dX5_wanted_36 (fun h7 => ?_) (fun h7 => ?_)
  · rw [if_pos h7] at hf
    refine g_iload_n C 0 rfl rfl dX5_wanted_45 ?_
    obtain rfl := Option.some.inj hf
    exact g_iret hr dX5_wanted_46
  · rw [if_neg h7] at hf
    refine g_iload_n C 0 rfl rfl dX5_wanted_39 ?_
    refine g_iconst C (v := 1) (by decide) dX5_wanted_40 ?_
    refine g_iadd C dX5_wanted_41 ?_
    refine g_goto C 46 (by decide) dX5_wanted_42 ?_
    obtain rfl := Option.some.inj hf
    exact g_iret hr dX5_wanted_46
