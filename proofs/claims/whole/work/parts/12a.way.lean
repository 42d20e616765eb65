def f_X3_add (g : Nat) (S : Mem) (a1 : Int32) (a2 : Int32) : Option (Mem) := if (S.1 12 2) < 0 then (some S) else (if 6 ≤ (S.1 12 2) then (some S) else (gd (ix_in (S.1 12 2) 6) (gd (ix_in ((up S 13 (S.1 12 2).toNatClampNeg a1).1 12 2) 6) (some (up (up (up S 13 (S.1 12 2).toNatClampNeg a1) 14 ((up S 13 (S.1 12 2).toNatClampNeg a1).1 12 2).toNatClampNeg a2) 12 2 (((up (up S 13 (S.1 12 2).toNatClampNeg a1) 14 ((up S 13 (S.1 12 2).toNatClampNeg a1).1 12 2).toNatClampNeg a2).1 12 2) + 1))))))
abbrev rmX3_add : Room := { frames := 0, cells := 0, slots := 0, locals := 0 }
set_option maxHeartbeats 4000000 in
set_option maxRecDepth 100000 in
theorem c_X3_add {l : Launch} {x : Ad} (g : Nat) (S : Mem) (a1 : Int32) (a2 : Int32) {z : Mem} (hf : f_X3_add g S a1 a2 = some z) : MV l x yX3_add kX3_add rmX3_add [.ref (ax x 12), .int a1, .int a2] (cT x S) (cT x z) := by
  refine met_V RX3 (by decide +kernel) rfl (Nat.le_of_ble_eq_true rfl) [(0, .ref (ax x 12)), (1, .int a1), (2, .int a2)] rfl ?_
  intro κ hl C hr
  subst hl
  rw [f_X3_add] at hf
  refine g_aload_n C 0 rfl rfl dX3_add_0 ?_
  refine tF_X3_18 C dX3_add_1 ?_
  refine g_if_lt C 46 (by decide) dX3_add_4 (fun h1 => ?_) (fun h1 => ?_)
  · rw [if_pos h1] at hf
    obtain rfl := Option.some.inj hf
    exact g_vret hr dX3_add_46
  · rw [if_neg h1] at hf
    refine g_aload_n C 0 rfl rfl dX3_add_7 ?_
    refine tF_X3_18 C dX3_add_8 ?_
    refine g_bipush C (v := 6) (by decide) dX3_add_11 ?_
    refine g_icmp_ge C 46 (by decide) dX3_add_13 (fun h2 => ?_) (fun h2 => ?_)
    · rw [if_pos h2] at hf
      obtain rfl := Option.some.inj hf
      exact g_vret hr dX3_add_46
    · rw [if_neg h2] at hf
      refine g_aload_n C 0 rfl rfl dX3_add_16 ?_
      refine tF_X3_9 C dX3_add_17 ?_
      refine g_aload_n C 0 rfl rfl dX3_add_20 ?_
      refine tF_X3_18 C dX3_add_21 ?_
      refine g_iload_n C 1 rfl rfl dX3_add_24 ?_
      obtain ⟨h3, hf⟩ := gd_some hf
      refine tS_13 C h3 dX3_add_25 ?_
      refine g_aload_n C 0 rfl rfl dX3_add_26 ?_
      refine tF_X3_15 C dX3_add_27 ?_
      refine g_aload_n C 0 rfl rfl dX3_add_30 ?_
      refine tF_X3_18 C dX3_add_31 ?_
      refine g_iload_n C 2 rfl rfl dX3_add_34 ?_
      obtain ⟨h4, hf⟩ := gd_some hf
      refine tS_14 C h4 dX3_add_35 ?_
      refine g_aload_n C 0 rfl rfl dX3_add_36 ?_
      refine g_dup C rfl dX3_add_37 ?_
      refine tF_X3_18 C dX3_add_38 ?_
      refine g_iconst C (v := 1) (by decide) dX3_add_41 ?_
      refine g_iadd C dX3_add_42 ?_
      refine tP_X3_18 C dX3_add_43 ?_
      obtain rfl := Option.some.inj hf
      exact g_vret hr dX3_add_46
def f_X3_pageAt (g : Nat) (S : Mem) (a1 : Int32) : Option (Int32) := if a1 < 0 then (some ((-1))) else (if 6 ≤ a1 then (some ((-1))) else (gd (ix_in a1 6) (some (S.1 13 a1.toNatClampNeg))))
abbrev rmX3_pageAt : Room := { frames := 0, cells := 0, slots := 0, locals := 0 }
set_option maxHeartbeats 4000000 in
set_option maxRecDepth 100000 in
theorem c_X3_pageAt {l : Launch} {x : Ad} (g : Nat) (S : Mem) (a1 : Int32) {z : Int32} (hf : f_X3_pageAt g S a1 = some z) : MI l x yX3_pageAt kX3_pageAt rmX3_pageAt [.ref (ax x 12), .int a1] (cT x S) z (cT x S) := by
  refine met_I RX3 (by decide +kernel) rfl (Nat.le_of_ble_eq_true rfl) [(0, .ref (ax x 12)), (1, .int a1)] rfl ?_
  intro κ hl C hr
  subst hl
  rw [f_X3_pageAt] at hf
  refine g_iload_n C 1 rfl rfl dX3_pageAt_0 ?_
  refine g_if_lt C 19 (by decide) dX3_pageAt_1 (fun h1 => ?_) (fun h1 => ?_)
  · rw [if_pos h1] at hf
    refine g_iconst C (v := (-1)) (by decide) dX3_pageAt_19 ?_
    obtain rfl := Option.some.inj hf
    exact g_iret hr dX3_pageAt_20
  · rw [if_neg h1] at hf
    refine g_iload_n C 1 rfl rfl dX3_pageAt_4 ?_
    refine g_bipush C (v := 6) (by decide) dX3_pageAt_5 ?_
    refine g_icmp_ge C 19 (by decide) dX3_pageAt_7 (fun h2 => ?_) (fun h2 => ?_)
    · rw [if_pos h2] at hf
      refine g_iconst C (v := (-1)) (by decide) dX3_pageAt_19 ?_
      obtain rfl := Option.some.inj hf
      exact g_iret hr dX3_pageAt_20
    · rw [if_neg h2] at hf
      refine g_aload_n C 0 rfl rfl dX3_pageAt_10 ?_
      refine tF_X3_9 C dX3_pageAt_11 ?_
      refine g_iload_n C 1 rfl rfl dX3_pageAt_14 ?_
      obtain ⟨h3, hf⟩ := gd_some hf
      refine tL_13 C h3 dX3_pageAt_15 ?_
      refine g_goto C 20 (by decide) dX3_pageAt_16 ?_
      obtain rfl := Option.some.inj hf
      exact g_iret hr dX3_pageAt_20
def f_X3_leaf (g : Nat) (S : Mem) : Option (Int32) := bd (f_X3_pageAt g S ((S.1 12 2) - 1)) (fun r2 => some r2)
abbrev rmX3_leaf : Room := { frames := 1, cells := 0, slots := 0, locals := 21 }
set_option maxHeartbeats 4000000 in
set_option maxRecDepth 100000 in
theorem c_X3_leaf {l : Launch} {x : Ad} (g : Nat) (S : Mem) {z : Int32} (hf : f_X3_leaf g S = some z) : MI l x yX3_leaf kX3_leaf rmX3_leaf [.ref (ax x 12)] (cT x S) z (cT x S) := by
  refine met_I RX3 (by decide +kernel) rfl (Nat.le_of_ble_eq_true rfl) [(0, .ref (ax x 12))] rfl ?_
  intro κ hl C hr
  subst hl
  rw [f_X3_leaf] at hf
  refine g_aload_n C 0 rfl rfl dX3_leaf_0 ?_
  refine g_aload_n C 0 rfl rfl dX3_leaf_1 ?_
  refine tF_X3_18 C dX3_leaf_2 ?_
  refine g_iconst C (v := 1) (by decide) dX3_leaf_5 ?_
  refine g_isub C dX3_leaf_6 ?_
  obtain ⟨r2, h1, hf⟩ := bd_some hf
  refine g_callVI C (n := 1) (st := []) (c_X3_pageAt g S ((S.1 12 2) - 1) h1) (tb_wsV _ mM_X3_43 mI_X3_pageAt mS_X3_pageAt mN_X3 mK_X3_pageAt) (by decide +kernel) rfl rfl ⟨by decide, by decide⟩ 12 3 rfl rfl rfl (Nat.le_of_ble_eq_true rfl) dX3_leaf_7 rfl ?_
  obtain rfl := Option.some.inj hf
  exact g_iret hr dX3_leaf_10
def f_X3_lead_14 (g : Nat) (w3 : Int32) : Nat → Mem → Int32 → Option (Mem)
  | 0, _, _ => none
  | n + 1, S, w4 => if 6 ≤ w4 then (some S) else (bd (f_X3_leaf g S) (fun r5 => bd (f_X0_kindOf g S r5) (fun r7 => if r7 = 2 then (bd (f_X3_leaf g S) (fun r10 => bd (f_X0_childPlaceFor g S r10 w3) (fun r12 => bd (f_X3_leaf g S) (fun r14 => bd (f_X0_secondAt g S r14 r12) (fun r16 => bd (f_X3_add g S r16 r12) (fun S18 => f_X3_lead_14 g w3 n S18 (w4 + 1))))))) else (some S))))
def f_X3_lead (g : Nat) (S : Mem) (a2 : Int32) (a3 : Int32) : Option (Mem) := bd (f_X3_add g (up S 12 2 0) a2 0) (fun S2 => f_X3_lead_14 g a3 g S2 1)
abbrev rmX3_lead : Room := { frames := 3, cells := 0, slots := 0, locals := 69 }
set_option maxHeartbeats 4000000 in
set_option maxRecDepth 100000 in
theorem lp_X3_lead_14 {κ : Kx} {x : Ad} (C : Cx κ x cX3_lead RX3 kX3_lead rmX3_lead 6) {z : Mem} (hr : RV κ x cX3_lead (cT x z)) (g : Nat) (w3 : Int32) : ∀ (n : Nat) (S : Mem) (w4 : Int32), f_X3_lead_14 g w3 n S w4 = some z → GG κ x (cT x S) 14 [(0, .ref (ax x 12)), (1, .ref (ax x 1)), (3, .int w3), (4, .int w4)] [] := by
  intro n
  induction n with
  | zero => intro S w4 hf; cases hf
  | succ n ih =>
    intro S w4 hf
    rw [f_X3_lead_14] at hf
    refine g_iload C 3 rfl dX3_lead_14 ?_
    refine g_bipush C (v := 6) (by decide) dX3_lead_16 ?_
    refine g_icmp_ge C 66 (by decide) dX3_lead_18 (fun h3 => ?_) (fun h3 => ?_)
    · rw [if_pos h3] at hf
      obtain rfl := Option.some.inj hf
      exact g_vret hr dX3_lead_66
    · rw [if_neg h3] at hf
      refine g_aload_n C 1 rfl rfl dX3_lead_21 ?_
      refine g_aload_n C 0 rfl rfl dX3_lead_22 ?_
      obtain ⟨r5, h4, hf⟩ := bd_some hf
      refine g_callVI C (n := 0) (st := [.ref (ax x 1)]) (c_X3_leaf g S h4) (tb_wsV _ mM_X3_26 mI_X3_leaf mS_X3_leaf mN_X3 mK_X3_leaf) (by decide +kernel) rfl rfl ⟨by decide, by decide⟩ 12 3 rfl rfl rfl (Nat.le_of_ble_eq_true rfl) dX3_lead_23 rfl ?_
      obtain ⟨r7, h6, hf⟩ := bd_some hf
      refine g_callVI C (n := 1) (st := []) (c_X0_kindOf g S r5 h6) (tb_wsV _ mM_X3_30 mI_X0_kindOf mS_X0_kindOf mN_X0 mK_X0_kindOf) (by decide +kernel) rfl rfl ⟨by decide, by decide⟩ 1 0 rfl rfl rfl (Nat.le_of_ble_eq_true rfl) dX3_lead_26 rfl ?_
      refine g_iconst C (v := 2) (by decide) dX3_lead_29 ?_
      refine g_icmp_ne C 66 (by decide) dX3_lead_30 (fun h8 => ?_) (fun h8 => ?_)
      · rw [if_neg h8] at hf
        obtain rfl := Option.some.inj hf
        exact g_vret hr dX3_lead_66
      · rw [if_pos h8] at hf
        refine g_aload_n C 1 rfl rfl dX3_lead_33 ?_
        refine g_aload_n C 0 rfl rfl dX3_lead_34 ?_
        obtain ⟨r10, h9, hf⟩ := bd_some hf
        refine g_callVI C (n := 0) (st := [.ref (ax x 1)]) (c_X3_leaf g S h9) (tb_wsV _ mM_X3_26 mI_X3_leaf mS_X3_leaf mN_X3 mK_X3_leaf) (by decide +kernel) rfl rfl ⟨by decide, by decide⟩ 12 3 rfl rfl rfl (Nat.le_of_ble_eq_true rfl) dX3_lead_35 rfl ?_
        refine g_iload_n C 2 rfl rfl dX3_lead_38 ?_
        obtain ⟨r12, h11, hf⟩ := bd_some hf
        refine g_callVI C (n := 2) (st := []) (c_X0_childPlaceFor g S r10 w3 h11) (tb_wsV _ mM_X3_36 mI_X0_childPlaceFor mS_X0_childPlaceFor mN_X0 mK_X0_childPlaceFor) (by decide +kernel) rfl rfl ⟨by decide, by decide⟩ 1 0 rfl rfl rfl (Nat.le_of_ble_eq_true rfl) dX3_lead_39 rfl ?_
        refine g_istore C (lv2 := [(5, .int r12), (0, .ref (ax x 12)), (1, .ref (ax x 1)), (3, .int w3), (4, .int w4)]) (by decide) rfl dX3_lead_42 ?_
        refine g_aload_n C 1 rfl rfl dX3_lead_44 ?_
        refine g_aload_n C 2 rfl rfl dX3_lead_45 ?_
        refine g_aload_n C 1 rfl rfl dX3_lead_46 ?_
        obtain ⟨r14, h13, hf⟩ := bd_some hf
        refine g_callVI C (n := 0) (st := [.ref (ax x 1), .ref (ax x 12)]) (c_X3_leaf g S h13) (tb_wsV _ mM_X3_26 mI_X3_leaf mS_X3_leaf mN_X3 mK_X3_leaf) (by decide +kernel) rfl rfl ⟨by decide, by decide⟩ 12 3 rfl rfl rfl (Nat.le_of_ble_eq_true rfl) dX3_lead_47 rfl ?_
        refine g_iload C 0 rfl dX3_lead_50 ?_
        obtain ⟨r16, h15, hf⟩ := bd_some hf
        refine g_callVI C (n := 2) (st := [.ref (ax x 12)]) (c_X0_secondAt g S r14 r12 h15) (tb_wsV _ mM_X3_40 mI_X0_secondAt mS_X0_secondAt mN_X0 mK_X0_secondAt) (by decide +kernel) rfl rfl ⟨by decide, by decide⟩ 1 0 rfl rfl rfl (Nat.le_of_ble_eq_true rfl) dX3_lead_52 rfl ?_
        refine g_iload C 0 rfl dX3_lead_55 ?_
        obtain ⟨S18, h17, hf⟩ := bd_some hf
        refine g_callVV C (n := 2) (st := []) (c_X3_add g S r16 r12 h17) (tb_wsV _ mM_X3_22 mI_X3_add mS_X3_add mN_X3 mK_X3_add) (by decide +kernel) rfl rfl ⟨by decide, by decide⟩ 12 3 rfl rfl rfl (Nat.le_of_ble_eq_true rfl) dX3_lead_57 rfl ?_
        refine g_iinc C (v := w4 + 1) (lv2 := [(4, .int (w4 + 1)), (5, .int r12), (0, .ref (ax x 12)), (1, .ref (ax x 1)), (3, .int w3)]) 4 rfl (by rw [(by decide : Int32.ofInt 1 = 1)]) (by decide) rfl dX3_lead_60 ?_
        refine g_goto C 14 (by decide) dX3_lead_63 ?_
        refine g_sub [2, 3, 4, 0] rfl ?_
        exact ih S18 (w4 + 1) hf
set_option maxHeartbeats 4000000 in
set_option maxRecDepth 100000 in
theorem c_X3_lead {l : Launch} {x : Ad} (g : Nat) (S : Mem) (a2 : Int32) (a3 : Int32) {z : Mem} (hf : f_X3_lead g S a2 a3 = some z) : MV l x yX3_lead kX3_lead rmX3_lead [.ref (ax x 12), .ref (ax x 1), .int a2, .int a3] (cT x S) (cT x z) := by
  refine met_V RX3 (by decide +kernel) rfl (Nat.le_of_ble_eq_true rfl) [(0, .ref (ax x 12)), (1, .ref (ax x 1)), (2, .int a2), (3, .int a3)] rfl ?_
  intro κ hl C hr
  subst hl
  rw [f_X3_lead] at hf
  refine g_aload_n C 0 rfl rfl dX3_lead_0 ?_
  refine g_iconst C (v := 0) (by decide) dX3_lead_1 ?_
  refine tP_X3_18 C dX3_lead_2 ?_
  refine g_aload_n C 0 rfl rfl dX3_lead_5 ?_
  refine g_iload_n C 2 rfl rfl dX3_lead_6 ?_
  refine g_iconst C (v := 0) (by decide) dX3_lead_7 ?_
  obtain ⟨S2, h1, hf⟩ := bd_some hf
  refine g_callVV C (n := 2) (st := []) (c_X3_add g (up S 12 2 0) a2 0 h1) (tb_wsV _ mM_X3_22 mI_X3_add mS_X3_add mN_X3 mK_X3_add) (by decide +kernel) rfl rfl ⟨by decide, by decide⟩ 12 3 rfl rfl rfl (Nat.le_of_ble_eq_true rfl) dX3_lead_8 rfl ?_
  refine g_iconst C (v := 1) (by decide) dX3_lead_11 ?_
  refine g_istore C (lv2 := [(4, .int 1), (0, .ref (ax x 12)), (1, .ref (ax x 1)), (2, .int a2), (3, .int a3)]) (by decide) rfl dX3_lead_12 ?_
  refine g_sub [1, 2, 4, 0] rfl ?_
  exact lp_X3_lead_14 C hr g a3 g S2 1 hf
def f_X3_length (g : Nat) (S : Mem) : Option (Int32) := some (S.1 12 2)
abbrev rmX3_length : Room := { frames := 0, cells := 0, slots := 0, locals := 0 }
set_option maxHeartbeats 4000000 in
set_option maxRecDepth 100000 in
theorem c_X3_length {l : Launch} {x : Ad} (g : Nat) (S : Mem) {z : Int32} (hf : f_X3_length g S = some z) : MI l x yX3_length kX3_length rmX3_length [.ref (ax x 12)] (cT x S) z (cT x S) := by
  refine met_I RX3 (by decide +kernel) rfl (Nat.le_of_ble_eq_true rfl) [(0, .ref (ax x 12))] rfl ?_
  intro κ hl C hr
  subst hl
  rw [f_X3_length] at hf
  refine g_aload_n C 0 rfl rfl dX3_length_0 ?_
  refine tF_X3_18 C dX3_length_1 ?_
  obtain rfl := Option.some.inj hf
  exact g_iret hr dX3_length_4
def f_X3_slotAt (g : Nat) (S : Mem) (a1 : Int32) : Option (Int32) := if a1 < 0 then (some 0) else (if 6 ≤ a1 then (some 0) else (gd (ix_in a1 6) (some (S.1 14 a1.toNatClampNeg))))
abbrev rmX3_slotAt : Room := { frames := 0, cells := 0, slots := 0, locals := 0 }
set_option maxHeartbeats 4000000 in
set_option maxRecDepth 100000 in
theorem c_X3_slotAt {l : Launch} {x : Ad} (g : Nat) (S : Mem) (a1 : Int32) {z : Int32} (hf : f_X3_slotAt g S a1 = some z) : MI l x yX3_slotAt kX3_slotAt rmX3_slotAt [.ref (ax x 12), .int a1] (cT x S) z (cT x S) := by
  refine met_I RX3 (by decide +kernel) rfl (Nat.le_of_ble_eq_true rfl) [(0, .ref (ax x 12)), (1, .int a1)] rfl ?_
  intro κ hl C hr
  subst hl
  rw [f_X3_slotAt] at hf
  refine g_iload_n C 1 rfl rfl dX3_slotAt_0 ?_
  refine g_if_lt C 19 (by decide) dX3_slotAt_1 (fun h1 => ?_) (fun h1 => ?_)
  · rw [if_pos h1] at hf
    refine g_iconst C (v := 0) (by decide) dX3_slotAt_19 ?_
    obtain rfl := Option.some.inj hf
    exact g_iret hr dX3_slotAt_20
  · rw [if_neg h1] at hf
    refine g_iload_n C 1 rfl rfl dX3_slotAt_4 ?_
    refine g_bipush C (v := 6) (by decide) dX3_slotAt_5 ?_
    refine g_icmp_ge C 19 (by decide) dX3_slotAt_7 (fun h2 => ?_) (fun h2 => ?_)
    · rw [if_pos h2] at hf
      refine g_iconst C (v := 0) (by decide) dX3_slotAt_19 ?_
      obtain rfl := Option.some.inj hf
      exact g_iret hr dX3_slotAt_20
    · rw [if_neg h2] at hf
      refine g_aload_n C 0 rfl rfl dX3_slotAt_10 ?_
      refine tF_X3_15 C dX3_slotAt_11 ?_
      refine g_iload_n C 1 rfl rfl dX3_slotAt_14 ?_
      obtain ⟨h3, hf⟩ := gd_some hf
      refine tL_14 C h3 dX3_slotAt_15 ?_
      refine g_goto C 20 (by decide) dX3_slotAt_16 ?_
      obtain rfl := Option.some.inj hf
      exact g_iret hr dX3_slotAt_20
