def f_X4_endCursor (g : Nat) (S : Mem) : Option (Mem) := some (up S 0 6 ((-1)))
abbrev rmX4_endCursor : Room := { frames := 0, cells := 0, slots := 0, locals := 0 }
set_option maxHeartbeats 4000000 in
set_option maxRecDepth 100000 in
theorem c_X4_endCursor {l : Launch} {x : Ad} (g : Nat) (S : Mem) {z : Mem} (hf : f_X4_endCursor g S = some z) : MV l x yX4_endCursor kX4_endCursor rmX4_endCursor [.ref (ax x 0)] (cT x S) (cT x z) := by
  refine met_V RX4 (by decide +kernel) rfl (Nat.le_of_ble_eq_true rfl) [(0, .ref (ax x 0))] rfl ?_
  intro κ hl C hr
  subst hl
  rw [f_X4_endCursor] at hf
  refine g_aload_n C 0 rfl rfl dX4_endCursor_0 ?_
  refine g_iconst C (v := (-1)) (by decide) dX4_endCursor_1 ?_
  refine tP_X4_44 C dX4_endCursor_2 ?_
  obtain rfl := Option.some.inj hf
  exact g_vret hr dX4_endCursor_5
def f_X4_touchWay_2 (g : Nat)  : Nat → Mem → Int32 → Option (Mem)
  | 0, _, _ => none
  | n + 1, S, w1 => bd (f_X3_length g S) (fun r2 => if r2 ≤ w1 then (some S) else (bd (f_X3_pageAt g S w1) (fun r5 => bd (f_X1_touch g S r5 0) (fun S7 => f_X4_touchWay_2 g n S7 (w1 + 1)))))
def f_X4_touchWay (g : Nat) (S : Mem) : Option (Mem) := f_X4_touchWay_2 g g S 0
abbrev rmX4_touchWay : Room := { frames := 3, cells := 0, slots := 0, locals := 68 }
set_option maxHeartbeats 4000000 in
set_option maxRecDepth 100000 in
theorem lp_X4_touchWay_2 {κ : Kx} {x : Ad} (C : Cx κ x cX4_touchWay RX4 kX4_touchWay rmX4_touchWay 2) {z : Mem} (hr : RV κ x cX4_touchWay (cT x z)) (g : Nat)  : ∀ (n : Nat) (S : Mem) (w1 : Int32), f_X4_touchWay_2 g n S w1 = some z → GG κ x (cT x S) 2 [(0, .ref (ax x 0)), (1, .int w1)] [] := by
  intro n
  induction n with
  | zero => intro S w1 hf; cases hf
  | succ n ih =>
    intro S w1 hf
    rw [f_X4_touchWay_2] at hf
    refine g_iload_n C 1 rfl rfl dX4_touchWay_2 ?_
    refine g_aload_n C 0 rfl rfl dX4_touchWay_3 ?_
    refine tF_X4_26 C dX4_touchWay_4 ?_
    obtain ⟨r2, h1, hf⟩ := bd_some hf
    refine g_callVI C (n := 0) (st := [.int w1]) (c_X3_length g S h1) (tb_wsV _ mM_X4_214 mI_X3_length mS_X3_length mN_X3 mK_X3_length) (by decide +kernel) rfl rfl ⟨by decide, by decide⟩ 12 3 rfl rfl rfl (Nat.le_of_ble_eq_true rfl) dX4_touchWay_7 rfl ?_
    refine g_icmp_ge C 35 (by decide) dX4_touchWay_10 (fun h3 => ?_) (fun h3 => ?_)
    · rw [if_pos h3] at hf
      obtain rfl := Option.some.inj hf
      exact g_vret hr dX4_touchWay_35
    · rw [if_neg h3] at hf
      refine g_aload_n C 0 rfl rfl dX4_touchWay_13 ?_
      refine tF_X4_19 C dX4_touchWay_14 ?_
      refine g_aload_n C 0 rfl rfl dX4_touchWay_17 ?_
      refine tF_X4_26 C dX4_touchWay_18 ?_
      refine g_iload_n C 1 rfl rfl dX4_touchWay_21 ?_
      obtain ⟨r5, h4, hf⟩ := bd_some hf
      refine g_callVI C (n := 1) (st := [.ref (ax x 7)]) (c_X3_pageAt g S w1 h4) (tb_wsV _ mM_X4_217 mI_X3_pageAt mS_X3_pageAt mN_X3 mK_X3_pageAt) (by decide +kernel) rfl rfl ⟨by decide, by decide⟩ 12 3 rfl rfl rfl (Nat.le_of_ble_eq_true rfl) dX4_touchWay_22 rfl ?_
      refine g_iconst C (v := 0) (by decide) dX4_touchWay_25 ?_
      obtain ⟨S7, h6, hf⟩ := bd_some hf
      refine g_callVV C (n := 2) (st := []) (c_X1_touch g S r5 0 h6) (tb_wsV _ mM_X4_123 mI_X1_touch mS_X1_touch mN_X1 mK_X1_touch) (by decide +kernel) rfl rfl ⟨by decide, by decide⟩ 7 1 rfl rfl rfl (Nat.le_of_ble_eq_true rfl) dX4_touchWay_26 rfl ?_
      refine g_iinc C (v := w1 + 1) (lv2 := [(1, .int (w1 + 1)), (0, .ref (ax x 0))]) 1 rfl (by rw [(by decide : Int32.ofInt 1 = 1)]) (by decide) rfl dX4_touchWay_29 ?_
      refine g_goto C 2 (by decide) dX4_touchWay_32 ?_
      refine g_sub [1, 0] rfl ?_
      exact ih S7 (w1 + 1) hf
set_option maxHeartbeats 4000000 in
set_option maxRecDepth 100000 in
theorem c_X4_touchWay {l : Launch} {x : Ad} (g : Nat) (S : Mem) {z : Mem} (hf : f_X4_touchWay g S = some z) : MV l x yX4_touchWay kX4_touchWay rmX4_touchWay [.ref (ax x 0)] (cT x S) (cT x z) := by
  refine met_V RX4 (by decide +kernel) rfl (Nat.le_of_ble_eq_true rfl) [(0, .ref (ax x 0))] rfl ?_
  intro κ hl C hr
  subst hl
  rw [f_X4_touchWay] at hf
  refine g_iconst C (v := 0) (by decide) dX4_touchWay_0 ?_
  refine g_istore_n C (lv2 := [(1, .int 0), (0, .ref (ax x 0))]) rfl (by decide) rfl dX4_touchWay_1 ?_
  refine g_sub [1, 0] rfl ?_
  exact lp_X4_touchWay_2 C hr g g S 0 hf
def f_X4_soilThree (g : Nat) (S : Mem) (a1 : Int32) (a2 : Int32) (a3 : Int32) : Option (Mem) := bd (f_X1_soil g S a1) (fun S2 => bd (f_X1_soil g S2 a2) (fun S4 => bd (f_X1_soil g S4 a3) (fun S6 => some S6)))
abbrev rmX4_soilThree : Room := { frames := 2, cells := 0, slots := 0, locals := 44 }
set_option maxHeartbeats 4000000 in
set_option maxRecDepth 100000 in
theorem c_X4_soilThree {l : Launch} {x : Ad} (g : Nat) (S : Mem) (a1 : Int32) (a2 : Int32) (a3 : Int32) {z : Mem} (hf : f_X4_soilThree g S a1 a2 a3 = some z) : MV l x yX4_soilThree kX4_soilThree rmX4_soilThree [.ref (ax x 0), .int a1, .int a2, .int a3] (cT x S) (cT x z) := by
  refine met_V RX4 (by decide +kernel) rfl (Nat.le_of_ble_eq_true rfl) [(0, .ref (ax x 0)), (1, .int a1), (2, .int a2), (3, .int a3)] rfl ?_
  intro κ hl C hr
  subst hl
  rw [f_X4_soilThree] at hf
  refine g_aload_n C 0 rfl rfl dX4_soilThree_0 ?_
  refine tF_X4_19 C dX4_soilThree_1 ?_
  refine g_iload_n C 1 rfl rfl dX4_soilThree_4 ?_
  obtain ⟨S2, h1, hf⟩ := bd_some hf
  refine g_callVV C (n := 1) (st := []) (c_X1_soil g S a1 h1) (tb_wsV _ mM_X4_86 mI_X1_soil mS_X1_soil mN_X1 mK_X1_soil) (by decide +kernel) rfl rfl ⟨by decide, by decide⟩ 7 1 rfl rfl rfl (Nat.le_of_ble_eq_true rfl) dX4_soilThree_5 rfl ?_
  refine g_aload_n C 0 rfl rfl dX4_soilThree_8 ?_
  refine tF_X4_19 C dX4_soilThree_9 ?_
  refine g_iload_n C 2 rfl rfl dX4_soilThree_12 ?_
  obtain ⟨S4, h3, hf⟩ := bd_some hf
  refine g_callVV C (n := 1) (st := []) (c_X1_soil g S2 a2 h3) (tb_wsV _ mM_X4_86 mI_X1_soil mS_X1_soil mN_X1 mK_X1_soil) (by decide +kernel) rfl rfl ⟨by decide, by decide⟩ 7 1 rfl rfl rfl (Nat.le_of_ble_eq_true rfl) dX4_soilThree_13 rfl ?_
  refine g_aload_n C 0 rfl rfl dX4_soilThree_16 ?_
  refine tF_X4_19 C dX4_soilThree_17 ?_
  refine g_iload_n C 3 rfl rfl dX4_soilThree_20 ?_
  obtain ⟨S6, h5, hf⟩ := bd_some hf
  refine g_callVV C (n := 1) (st := []) (c_X1_soil g S4 a3 h5) (tb_wsV _ mM_X4_86 mI_X1_soil mS_X1_soil mN_X1 mK_X1_soil) (by decide +kernel) rfl rfl ⟨by decide, by decide⟩ 7 1 rfl rfl rfl (Nat.le_of_ble_eq_true rfl) dX4_soilThree_21 rfl ?_
  obtain rfl := Option.some.inj hf
  exact g_vret hr dX4_soilThree_24
def f_X4_giveFromLeft (g : Nat) (S : Mem) (a1 : Int32) (a2 : Int32) (a3 : Int32) (a4 : Int32) : Option (Mem) := bd (f_X0_countOf g S a3) (fun r2 => bd (f_X0_keyAt g S a3 (r2 - 1)) (fun r4 => bd (f_X0_secondAt g S a3 (r2 - 1)) (fun r6 => bd (f_X0_delete g S a3 (r2 - 1)) (fun S8 => bd (f_X0_kindOf g S8 a4) (fun r10 => jn1 (fun (S11 : Mem) => bd (f_X0_setKey g S11 a1 a2 r4) (fun S14 => bd (f_X4_soilThree g S14 a3 a4 a1) (fun S16 => some S16))) (fun j12 => if r10 = 1 then (bd (f_X0_insert g S8 a4 0 r4 r6) (fun S25 => j12 S25)) else (bd (f_X0_keyAt g S8 a1 a2) (fun r19 => bd (f_X0_setKey g S8 a4 0 r19) (fun S21 => bd (f_X0_insert g S21 a4 0 0 r6) (fun S23 => j12 S23))))))))))
abbrev rmX4_giveFromLeft : Room := { frames := 3, cells := 0, slots := 0, locals := 74 }
set_option maxHeartbeats 4000000 in
set_option maxRecDepth 100000 in
theorem c_X4_giveFromLeft {l : Launch} {x : Ad} (g : Nat) (S : Mem) (a1 : Int32) (a2 : Int32) (a3 : Int32) (a4 : Int32) {z : Mem} (hf : f_X4_giveFromLeft g S a1 a2 a3 a4 = some z) : MV l x yX4_giveFromLeft kX4_giveFromLeft rmX4_giveFromLeft [.ref (ax x 0), .int a1, .int a2, .int a3, .int a4] (cT x S) (cT x z) := by
  refine met_V RX4 (by decide +kernel) rfl (Nat.le_of_ble_eq_true rfl) [(0, .ref (ax x 0)), (1, .int a1), (2, .int a2), (3, .int a3), (4, .int a4)] rfl ?_
  intro κ hl C hr
  subst hl
  rw [f_X4_giveFromLeft] at hf
  refine g_aload_n C 0 rfl rfl dX4_giveFromLeft_0 ?_
  refine tF_X4_12 C dX4_giveFromLeft_1 ?_
  refine g_iload_n C 3 rfl rfl dX4_giveFromLeft_4 ?_
  obtain ⟨r2, h1, hf⟩ := bd_some hf
  refine g_callVI C (n := 1) (st := []) (c_X0_countOf g S a3 h1) (tb_wsV _ mM_X4_163 mI_X0_countOf mS_X0_countOf mN_X0 mK_X0_countOf) (by decide +kernel) rfl rfl ⟨by decide, by decide⟩ 1 0 rfl rfl rfl (Nat.le_of_ble_eq_true rfl) dX4_giveFromLeft_5 rfl ?_
  refine g_iconst C (v := 1) (by decide) dX4_giveFromLeft_8 ?_
  refine g_isub C dX4_giveFromLeft_9 ?_
  refine g_istore C (lv2 := [(5, .int (r2 - 1)), (0, .ref (ax x 0)), (1, .int a1), (2, .int a2), (3, .int a3), (4, .int a4)]) (by decide) rfl dX4_giveFromLeft_10 ?_
  refine g_aload_n C 1 rfl rfl dX4_giveFromLeft_12 ?_
  refine tF_X4_12 C dX4_giveFromLeft_13 ?_
  refine g_iload_n C 4 rfl rfl dX4_giveFromLeft_16 ?_
  refine g_iload C 0 rfl dX4_giveFromLeft_17 ?_
  obtain ⟨r4, h3, hf⟩ := bd_some hf
  refine g_callVI C (n := 2) (st := []) (c_X0_keyAt g S a3 (r2 - 1) h3) (tb_wsV _ mM_X4_176 mI_X0_keyAt mS_X0_keyAt mN_X0 mK_X0_keyAt) (by decide +kernel) rfl rfl ⟨by decide, by decide⟩ 1 0 rfl rfl rfl (Nat.le_of_ble_eq_true rfl) dX4_giveFromLeft_19 rfl ?_
  refine g_istore C (lv2 := [(6, .int r4), (5, .int (r2 - 1)), (0, .ref (ax x 0)), (1, .int a1), (2, .int a2), (3, .int a3), (4, .int a4)]) (by decide) rfl dX4_giveFromLeft_22 ?_
  refine g_aload_n C 2 rfl rfl dX4_giveFromLeft_24 ?_
  refine tF_X4_12 C dX4_giveFromLeft_25 ?_
  refine g_iload_n C 5 rfl rfl dX4_giveFromLeft_28 ?_
  refine g_iload C 1 rfl dX4_giveFromLeft_29 ?_
  obtain ⟨r6, h5, hf⟩ := bd_some hf
  refine g_callVI C (n := 2) (st := []) (c_X0_secondAt g S a3 (r2 - 1) h5) (tb_wsV _ mM_X4_108 mI_X0_secondAt mS_X0_secondAt mN_X0 mK_X0_secondAt) (by decide +kernel) rfl rfl ⟨by decide, by decide⟩ 1 0 rfl rfl rfl (Nat.le_of_ble_eq_true rfl) dX4_giveFromLeft_31 rfl ?_
  refine g_istore C (lv2 := [(7, .int r6), (6, .int r4), (5, .int (r2 - 1)), (0, .ref (ax x 0)), (1, .int a1), (2, .int a2), (3, .int a3), (4, .int a4)]) (by decide) rfl dX4_giveFromLeft_34 ?_
  refine g_aload_n C 3 rfl rfl dX4_giveFromLeft_36 ?_
  refine tF_X4_12 C dX4_giveFromLeft_37 ?_
  refine g_iload_n C 6 rfl rfl dX4_giveFromLeft_40 ?_
  refine g_iload C 2 rfl dX4_giveFromLeft_41 ?_
  obtain ⟨S8, h7, hf⟩ := bd_some hf
  refine g_callVV C (n := 2) (st := []) (c_X0_delete g S a3 (r2 - 1) h7) (tb_wsV _ mM_X4_111 mI_X0_delete mS_X0_delete mN_X0 mK_X0_delete) (by decide +kernel) rfl rfl ⟨by decide, by decide⟩ 1 0 rfl rfl rfl (Nat.le_of_ble_eq_true rfl) dX4_giveFromLeft_43 rfl ?_
  refine g_aload_n C 3 rfl rfl dX4_giveFromLeft_46 ?_
  refine tF_X4_12 C dX4_giveFromLeft_47 ?_
  refine g_iload C 7 rfl dX4_giveFromLeft_50 ?_
  obtain ⟨r10, h9, hf⟩ := bd_some hf
  refine g_callVI C (n := 1) (st := []) (c_X0_kindOf g S8 a4 h9) (tb_wsV _ mM_X4_159 mI_X0_kindOf mS_X0_kindOf mN_X0 mK_X0_kindOf) (by decide +kernel) rfl rfl ⟨by decide, by decide⟩ 1 0 rfl rfl rfl (Nat.le_of_ble_eq_true rfl) dX4_giveFromLeft_52 rfl ?_
  refine g_iconst C (v := 1) (by decide) dX4_giveFromLeft_55 ?_
  refine jn1_elim (fun (S11 : Mem) => GG κ x (cT x S11) 108 [(0, .ref (ax x 0)), (1, .int a1), (2, .int a2), (3, .int a3), (4, .int a4), (6, .int r4)] []) hf (fun S11 hf => ?_) (fun j12 hj12 hf => ?_)
  · show GG κ x (cT x S11) 108 [(0, .ref (ax x 0)), (1, .int a1), (2, .int a2), (3, .int a3), (4, .int a4), (6, .int r4)] []
    refine g_aload_n C 0 rfl rfl dX4_giveFromLeft_108 ?_
    refine tF_X4_12 C dX4_giveFromLeft_109 ?_
    refine g_iload_n C 1 rfl rfl dX4_giveFromLeft_112 ?_
    refine g_iload_n C 2 rfl rfl dX4_giveFromLeft_113 ?_
    refine g_iload C 5 rfl dX4_giveFromLeft_114 ?_
    obtain ⟨S14, h13, hf⟩ := bd_some hf
    refine g_callVV C (n := 3) (st := []) (c_X0_setKey g S11 a1 a2 r4 h13) (tb_wsV _ mM_X4_233 mI_X0_setKey mS_X0_setKey mN_X0 mK_X0_setKey) (by decide +kernel) rfl rfl ⟨by decide, by decide⟩ 1 0 rfl rfl rfl (Nat.le_of_ble_eq_true rfl) dX4_giveFromLeft_116 rfl ?_
    refine g_aload_n C 0 rfl rfl dX4_giveFromLeft_119 ?_
    refine g_iload_n C 3 rfl rfl dX4_giveFromLeft_120 ?_
    refine g_iload C 4 rfl dX4_giveFromLeft_121 ?_
    refine g_iload_n C 1 rfl rfl dX4_giveFromLeft_123 ?_
    obtain ⟨S16, h15, hf⟩ := bd_some hf
    refine g_callVV C (n := 3) (st := []) (c_X4_soilThree g S14 a3 a4 a1 h15) (tb_wsV _ mM_X4_242 mI_X4_soilThree mS_X4_soilThree mN_X4 mK_X4_soilThree) (by decide +kernel) rfl rfl ⟨by decide, by decide⟩ 0 4 rfl rfl rfl (Nat.le_of_ble_eq_true rfl) dX4_giveFromLeft_124 rfl ?_
    obtain rfl := Option.some.inj hf
    exact g_vret hr dX4_giveFromLeft_127
  · skip
    refine g_icmp_ne C 76 (by decide) dX4_giveFromLeft_56 (fun h17 => ?_) (fun h17 => ?_)
    · rw [if_neg h17] at hf
      refine g_aload_n C 3 rfl rfl dX4_giveFromLeft_76 ?_
      refine tF_X4_12 C dX4_giveFromLeft_77 ?_
      refine g_iload C 7 rfl dX4_giveFromLeft_80 ?_
      refine g_iconst C (v := 0) (by decide) dX4_giveFromLeft_82 ?_
      refine g_aload_n C 3 rfl rfl dX4_giveFromLeft_83 ?_
      refine tF_X4_12 C dX4_giveFromLeft_84 ?_
      refine g_iload_n C 4 rfl rfl dX4_giveFromLeft_87 ?_
      refine g_iload_n C 5 rfl rfl dX4_giveFromLeft_88 ?_
      obtain ⟨r19, h18, hf⟩ := bd_some hf
      refine g_callVI C (n := 2) (st := [.int 0, .int a4, .ref (ax x 1)]) (c_X0_keyAt g S8 a1 a2 h18) (tb_wsV _ mM_X4_176 mI_X0_keyAt mS_X0_keyAt mN_X0 mK_X0_keyAt) (by decide +kernel) rfl rfl ⟨by decide, by decide⟩ 1 0 rfl rfl rfl (Nat.le_of_ble_eq_true rfl) dX4_giveFromLeft_89 rfl ?_
      obtain ⟨S21, h20, hf⟩ := bd_some hf
      refine g_callVV C (n := 3) (st := []) (c_X0_setKey g S8 a4 0 r19 h20) (tb_wsV _ mM_X4_233 mI_X0_setKey mS_X0_setKey mN_X0 mK_X0_setKey) (by decide +kernel) rfl rfl ⟨by decide, by decide⟩ 1 0 rfl rfl rfl (Nat.le_of_ble_eq_true rfl) dX4_giveFromLeft_92 rfl ?_
      refine g_aload_n C 3 rfl rfl dX4_giveFromLeft_95 ?_
      refine tF_X4_12 C dX4_giveFromLeft_96 ?_
      refine g_iload C 7 rfl dX4_giveFromLeft_99 ?_
      refine g_iconst C (v := 0) (by decide) dX4_giveFromLeft_101 ?_
      refine g_iconst C (v := 0) (by decide) dX4_giveFromLeft_102 ?_
      refine g_iload C 0 rfl dX4_giveFromLeft_103 ?_
      obtain ⟨S23, h22, hf⟩ := bd_some hf
      refine g_callVV C (n := 4) (st := []) (c_X0_insert g S21 a4 0 0 r6 h22) (tb_wsV _ mM_X4_94 mI_X0_insert mS_X0_insert mN_X0 mK_X0_insert) (by decide +kernel) rfl rfl ⟨by decide, by decide⟩ 1 0 rfl rfl rfl (Nat.le_of_ble_eq_true rfl) dX4_giveFromLeft_105 rfl ?_
      refine g_sub [3, 4, 5, 6, 7, 1] rfl ?_
      exact hj12 S23 hf
    · rw [if_pos h17] at hf
      refine g_aload_n C 3 rfl rfl dX4_giveFromLeft_59 ?_
      refine tF_X4_12 C dX4_giveFromLeft_60 ?_
      refine g_iload C 7 rfl dX4_giveFromLeft_63 ?_
      refine g_iconst C (v := 0) (by decide) dX4_giveFromLeft_65 ?_
      refine g_iload C 1 rfl dX4_giveFromLeft_66 ?_
      refine g_iload C 0 rfl dX4_giveFromLeft_68 ?_
      obtain ⟨S25, h24, hf⟩ := bd_some hf
      refine g_callVV C (n := 4) (st := []) (c_X0_insert g S8 a4 0 r4 r6 h24) (tb_wsV _ mM_X4_94 mI_X0_insert mS_X0_insert mN_X0 mK_X0_insert) (by decide +kernel) rfl rfl ⟨by decide, by decide⟩ 1 0 rfl rfl rfl (Nat.le_of_ble_eq_true rfl) dX4_giveFromLeft_70 rfl ?_
      refine g_goto C 108 (by decide) dX4_giveFromLeft_73 ?_
      refine g_sub [3, 4, 5, 6, 7, 1] rfl ?_
      exact hj12 S25 hf
def f_X4_giveFromRight (g : Nat) (S : Mem) (a1 : Int32) (a2 : Int32) (a3 : Int32) (a4 : Int32) : Option (Mem) := bd (f_X0_keyAt g S a4 0) (fun r2 => bd (f_X0_secondAt g S a4 0) (fun r4 => bd (f_X0_kindOf g S a4) (fun r6 => jn1 (fun (t7 : Int32) => bd (f_X0_delete g S a4 0) (fun S10 => bd (f_X0_countOf g S10 a3) (fun r12 => jn1 (fun (t13 : Int32) => bd (f_X0_insert g S10 a3 r12 t13 r4) (fun S16 => bd (f_X0_keyAt g S16 a4 0) (fun r18 => bd (f_X0_setKey g S16 a1 a2 r18) (fun S20 => jn1 (fun (S21 : Mem) => bd (f_X4_soilThree g S21 a3 a4 a1) (fun S24 => some S24)) (fun j22 => if t7 = 0 then (bd (f_X0_setKey g S20 a4 0 0) (fun S27 => j22 S27)) else (j22 S20)))))) (fun j14 => if t7 = 0 then (bd (f_X0_keyAt g S10 a1 a2) (fun r30 => j14 r30)) else (j14 r2))))) (fun j8 => if r6 = 1 then (j8 1) else (j8 0)))))
abbrev rmX4_giveFromRight : Room := { frames := 3, cells := 0, slots := 0, locals := 74 }
set_option maxHeartbeats 4000000 in
set_option maxRecDepth 100000 in
theorem c_X4_giveFromRight {l : Launch} {x : Ad} (g : Nat) (S : Mem) (a1 : Int32) (a2 : Int32) (a3 : Int32) (a4 : Int32) {z : Mem} (hf : f_X4_giveFromRight g S a1 a2 a3 a4 = some z) : MV l x yX4_giveFromRight kX4_giveFromRight rmX4_giveFromRight [.ref (ax x 0), .int a1, .int a2, .int a3, .int a4] (cT x S) (cT x z) := by
  refine met_V RX4 (by decide +kernel) rfl (Nat.le_of_ble_eq_true rfl) [(0, .ref (ax x 0)), (1, .int a1), (2, .int a2), (3, .int a3), (4, .int a4)] rfl ?_
  intro κ hl C hr
  subst hl
  rw [f_X4_giveFromRight] at hf
  refine g_aload_n C 0 rfl rfl dX4_giveFromRight_0 ?_
  refine tF_X4_12 C dX4_giveFromRight_1 ?_
  refine g_iload C 4 rfl dX4_giveFromRight_4 ?_
  refine g_iconst C (v := 0) (by decide) dX4_giveFromRight_6 ?_
  obtain ⟨r2, h1, hf⟩ := bd_some hf
  refine g_callVI C (n := 2) (st := []) (c_X0_keyAt g S a4 0 h1) (tb_wsV _ mM_X4_176 mI_X0_keyAt mS_X0_keyAt mN_X0 mK_X0_keyAt) (by decide +kernel) rfl rfl ⟨by decide, by decide⟩ 1 0 rfl rfl rfl (Nat.le_of_ble_eq_true rfl) dX4_giveFromRight_7 rfl ?_
  refine g_istore C (lv2 := [(5, .int r2), (0, .ref (ax x 0)), (1, .int a1), (2, .int a2), (3, .int a3), (4, .int a4)]) (by decide) rfl dX4_giveFromRight_10 ?_
  refine g_aload_n C 1 rfl rfl dX4_giveFromRight_12 ?_
  refine tF_X4_12 C dX4_giveFromRight_13 ?_
  refine g_iload C 5 rfl dX4_giveFromRight_16 ?_
  refine g_iconst C (v := 0) (by decide) dX4_giveFromRight_18 ?_
  obtain ⟨r4, h3, hf⟩ := bd_some hf
  refine g_callVI C (n := 2) (st := []) (c_X0_secondAt g S a4 0 h3) (tb_wsV _ mM_X4_108 mI_X0_secondAt mS_X0_secondAt mN_X0 mK_X0_secondAt) (by decide +kernel) rfl rfl ⟨by decide, by decide⟩ 1 0 rfl rfl rfl (Nat.le_of_ble_eq_true rfl) dX4_giveFromRight_19 rfl ?_
  refine g_istore C (lv2 := [(6, .int r4), (5, .int r2), (0, .ref (ax x 0)), (1, .int a1), (2, .int a2), (3, .int a3), (4, .int a4)]) (by decide) rfl dX4_giveFromRight_22 ?_
  refine g_aload_n C 2 rfl rfl dX4_giveFromRight_24 ?_
  refine tF_X4_12 C dX4_giveFromRight_25 ?_
  refine g_iload C 6 rfl dX4_giveFromRight_28 ?_
  obtain ⟨r6, h5, hf⟩ := bd_some hf
  refine g_callVI C (n := 1) (st := []) (c_X0_kindOf g S a4 h5) (tb_wsV _ mM_X4_159 mI_X0_kindOf mS_X0_kindOf mN_X0 mK_X0_kindOf) (by decide +kernel) rfl rfl ⟨by decide, by decide⟩ 1 0 rfl rfl rfl (Nat.le_of_ble_eq_true rfl) dX4_giveFromRight_30 rfl ?_
  refine g_iconst C (v := 1) (by decide) dX4_giveFromRight_33 ?_
  refine jn1_elim (fun (t7 : Int32) => GG κ x (cT x S) 42 [(0, .ref (ax x 0)), (1, .int a1), (2, .int a2), (3, .int a3), (4, .int a4), (5, .int r2), (6, .int r4)] [.int t7]) hf (fun t7 hf => ?_) (fun j8 hj8 hf => ?_)
  · show GG κ x (cT x S) 42 [(0, .ref (ax x 0)), (1, .int a1), (2, .int a2), (3, .int a3), (4, .int a4), (5, .int r2), (6, .int r4)] [.int t7]
    refine g_istore C (lv2 := [(7, .int t7), (0, .ref (ax x 0)), (1, .int a1), (2, .int a2), (3, .int a3), (4, .int a4), (5, .int r2), (6, .int r4)]) (by decide) rfl dX4_giveFromRight_42 ?_
    refine g_aload_n C 1 rfl rfl dX4_giveFromRight_44 ?_
    refine tF_X4_12 C dX4_giveFromRight_45 ?_
    refine g_iload C 5 rfl dX4_giveFromRight_48 ?_
    refine g_iconst C (v := 0) (by decide) dX4_giveFromRight_50 ?_
    obtain ⟨S10, h9, hf⟩ := bd_some hf
    refine g_callVV C (n := 2) (st := []) (c_X0_delete g S a4 0 h9) (tb_wsV _ mM_X4_111 mI_X0_delete mS_X0_delete mN_X0 mK_X0_delete) (by decide +kernel) rfl rfl ⟨by decide, by decide⟩ 1 0 rfl rfl rfl (Nat.le_of_ble_eq_true rfl) dX4_giveFromRight_51 rfl ?_
    refine g_aload_n C 1 rfl rfl dX4_giveFromRight_54 ?_
    refine tF_X4_12 C dX4_giveFromRight_55 ?_
    refine g_iload_n C 4 rfl rfl dX4_giveFromRight_58 ?_
    refine g_aload_n C 1 rfl rfl dX4_giveFromRight_59 ?_
    refine tF_X4_12 C dX4_giveFromRight_60 ?_
    refine g_iload_n C 4 rfl rfl dX4_giveFromRight_63 ?_
    obtain ⟨r12, h11, hf⟩ := bd_some hf
    refine g_callVI C (n := 1) (st := [.int a3, .ref (ax x 1)]) (c_X0_countOf g S10 a3 h11) (tb_wsV _ mM_X4_163 mI_X0_countOf mS_X0_countOf mN_X0 mK_X0_countOf) (by decide +kernel) rfl rfl ⟨by decide, by decide⟩ 1 0 rfl rfl rfl (Nat.le_of_ble_eq_true rfl) dX4_giveFromRight_64 rfl ?_
    refine g_iload C 0 rfl dX4_giveFromRight_67 ?_
    refine jn1_elim (fun (t13 : Int32) => GG κ x (cT x S10) 86 [(0, .ref (ax x 0)), (1, .int a1), (2, .int a2), (3, .int a3), (4, .int a4), (6, .int r4), (7, .int t7)] [.int t13, .int r12, .int a3, .ref (ax x 1)]) hf (fun t13 hf => ?_) (fun j14 hj14 hf => ?_)
    · show GG κ x (cT x S10) 86 [(0, .ref (ax x 0)), (1, .int a1), (2, .int a2), (3, .int a3), (4, .int a4), (6, .int r4), (7, .int t7)] [.int t13, .int r12, .int a3, .ref (ax x 1)]
      refine g_iload C 5 rfl dX4_giveFromRight_86 ?_
      obtain ⟨S16, h15, hf⟩ := bd_some hf
      refine g_callVV C (n := 4) (st := []) (c_X0_insert g S10 a3 r12 t13 r4 h15) (tb_wsV _ mM_X4_94 mI_X0_insert mS_X0_insert mN_X0 mK_X0_insert) (by decide +kernel) rfl rfl ⟨by decide, by decide⟩ 1 0 rfl rfl rfl (Nat.le_of_ble_eq_true rfl) dX4_giveFromRight_88 rfl ?_
      refine g_aload_n C 0 rfl rfl dX4_giveFromRight_91 ?_
      refine tF_X4_12 C dX4_giveFromRight_92 ?_
      refine g_iload_n C 1 rfl rfl dX4_giveFromRight_95 ?_
      refine g_iload_n C 2 rfl rfl dX4_giveFromRight_96 ?_
      refine g_aload_n C 0 rfl rfl dX4_giveFromRight_97 ?_
      refine tF_X4_12 C dX4_giveFromRight_98 ?_
      refine g_iload C 4 rfl dX4_giveFromRight_101 ?_
      refine g_iconst C (v := 0) (by decide) dX4_giveFromRight_103 ?_
      obtain ⟨r18, h17, hf⟩ := bd_some hf
      refine g_callVI C (n := 2) (st := [.int a2, .int a1, .ref (ax x 1)]) (c_X0_keyAt g S16 a4 0 h17) (tb_wsV _ mM_X4_176 mI_X0_keyAt mS_X0_keyAt mN_X0 mK_X0_keyAt) (by decide +kernel) rfl rfl ⟨by decide, by decide⟩ 1 0 rfl rfl rfl (Nat.le_of_ble_eq_true rfl) dX4_giveFromRight_104 rfl ?_
      obtain ⟨S20, h19, hf⟩ := bd_some hf
      refine g_callVV C (n := 3) (st := []) (c_X0_setKey g S16 a1 a2 r18 h19) (tb_wsV _ mM_X4_233 mI_X0_setKey mS_X0_setKey mN_X0 mK_X0_setKey) (by decide +kernel) rfl rfl ⟨by decide, by decide⟩ 1 0 rfl rfl rfl (Nat.le_of_ble_eq_true rfl) dX4_giveFromRight_107 rfl ?_
      refine g_iload C 6 rfl dX4_giveFromRight_110 ?_
      refine jn1_elim (fun (S21 : Mem) => GG κ x (cT x S21) 126 [(0, .ref (ax x 0)), (1, .int a1), (3, .int a3), (4, .int a4)] []) hf (fun S21 hf => ?_) (fun j22 hj22 hf => ?_)
      · show GG κ x (cT x S21) 126 [(0, .ref (ax x 0)), (1, .int a1), (3, .int a3), (4, .int a4)] []
        refine g_aload_n C 0 rfl rfl dX4_giveFromRight_126 ?_
        refine g_iload_n C 2 rfl rfl dX4_giveFromRight_127 ?_
        refine g_iload C 3 rfl dX4_giveFromRight_128 ?_
        refine g_iload_n C 1 rfl rfl dX4_giveFromRight_130 ?_
        obtain ⟨S24, h23, hf⟩ := bd_some hf
        refine g_callVV C (n := 3) (st := []) (c_X4_soilThree g S21 a3 a4 a1 h23) (tb_wsV _ mM_X4_242 mI_X4_soilThree mS_X4_soilThree mN_X4 mK_X4_soilThree) (by decide +kernel) rfl rfl ⟨by decide, by decide⟩ 0 4 rfl rfl rfl (Nat.le_of_ble_eq_true rfl) dX4_giveFromRight_131 rfl ?_
        obtain rfl := Option.some.inj hf
        exact g_vret hr dX4_giveFromRight_134
      · skip
        refine g_if_ne C 126 (by decide) dX4_giveFromRight_112 (fun h25 => ?_) (fun h25 => ?_)
        · rw [if_neg h25] at hf
          refine g_sub [0, 1, 3, 4] rfl ?_
          exact hj22 S20 hf
        · rw [if_pos h25] at hf
          refine g_aload_n C 0 rfl rfl dX4_giveFromRight_115 ?_
          refine tF_X4_12 C dX4_giveFromRight_116 ?_
          refine g_iload C 4 rfl dX4_giveFromRight_119 ?_
          refine g_iconst C (v := 0) (by decide) dX4_giveFromRight_121 ?_
          refine g_iconst C (v := 0) (by decide) dX4_giveFromRight_122 ?_
          obtain ⟨S27, h26, hf⟩ := bd_some hf
          refine g_callVV C (n := 3) (st := []) (c_X0_setKey g S20 a4 0 0 h26) (tb_wsV _ mM_X4_233 mI_X0_setKey mS_X0_setKey mN_X0 mK_X0_setKey) (by decide +kernel) rfl rfl ⟨by decide, by decide⟩ 1 0 rfl rfl rfl (Nat.le_of_ble_eq_true rfl) dX4_giveFromRight_123 rfl ?_
          refine g_sub [0, 1, 3, 4] rfl ?_
          exact hj22 S27 hf
    · skip
      refine g_if_eq C 77 (by decide) dX4_giveFromRight_69 (fun h28 => ?_) (fun h28 => ?_)
      · rw [if_pos h28] at hf
        refine g_aload_n C 1 rfl rfl dX4_giveFromRight_77 ?_
        refine tF_X4_12 C dX4_giveFromRight_78 ?_
        refine g_iload_n C 2 rfl rfl dX4_giveFromRight_81 ?_
        refine g_iload_n C 3 rfl rfl dX4_giveFromRight_82 ?_
        obtain ⟨r30, h29, hf⟩ := bd_some hf
        refine g_callVI C (n := 2) (st := [.int r12, .int a3, .ref (ax x 1)]) (c_X0_keyAt g S10 a1 a2 h29) (tb_wsV _ mM_X4_176 mI_X0_keyAt mS_X0_keyAt mN_X0 mK_X0_keyAt) (by decide +kernel) rfl rfl ⟨by decide, by decide⟩ 1 0 rfl rfl rfl (Nat.le_of_ble_eq_true rfl) dX4_giveFromRight_83 rfl ?_
        refine g_sub [1, 2, 3, 4, 5, 7, 0] rfl ?_
        exact hj14 r30 hf
      · rw [if_neg h28] at hf
        refine g_iload C 6 rfl dX4_giveFromRight_72 ?_
        refine g_goto C 86 (by decide) dX4_giveFromRight_74 ?_
        refine g_sub [1, 2, 3, 4, 5, 7, 0] rfl ?_
        exact hj14 r2 hf
  · skip
    refine g_icmp_ne C 41 (by decide) dX4_giveFromRight_34 (fun h31 => ?_) (fun h31 => ?_)
    · rw [if_neg h31] at hf
      refine g_iconst C (v := 0) (by decide) dX4_giveFromRight_41 ?_
      refine g_sub [2, 3, 4, 5, 6, 1, 0] rfl ?_
      exact hj8 0 hf
    · rw [if_pos h31] at hf
      refine g_iconst C (v := 1) (by decide) dX4_giveFromRight_37 ?_
      refine g_goto C 42 (by decide) dX4_giveFromRight_38 ?_
      refine g_sub [2, 3, 4, 5, 6, 1, 0] rfl ?_
      exact hj8 1 hf
def f_X4_releasePage (g : Nat) (S : Mem) (a1 : Int32) : Option (Mem) := bd (f_X0_allot g S a1 0) (fun S2 => bd (f_X1_clearPage g S2 a1) (fun S4 => some S4))
abbrev rmX4_releasePage : Room := { frames := 2, cells := 0, slots := 0, locals := 43 }
set_option maxHeartbeats 4000000 in
set_option maxRecDepth 100000 in
theorem c_X4_releasePage {l : Launch} {x : Ad} (g : Nat) (S : Mem) (a1 : Int32) {z : Mem} (hf : f_X4_releasePage g S a1 = some z) : MV l x yX4_releasePage kX4_releasePage rmX4_releasePage [.ref (ax x 0), .int a1] (cT x S) (cT x z) := by
  refine met_V RX4 (by decide +kernel) rfl (Nat.le_of_ble_eq_true rfl) [(0, .ref (ax x 0)), (1, .int a1)] rfl ?_
  intro κ hl C hr
  subst hl
  rw [f_X4_releasePage] at hf
  refine g_aload_n C 0 rfl rfl dX4_releasePage_0 ?_
  refine tF_X4_12 C dX4_releasePage_1 ?_
  refine g_iload_n C 1 rfl rfl dX4_releasePage_4 ?_
  refine g_iconst C (v := 0) (by decide) dX4_releasePage_5 ?_
  obtain ⟨S2, h1, hf⟩ := bd_some hf
  refine g_callVV C (n := 2) (st := []) (c_X0_allot g S a1 0 h1) (tb_wsV _ mM_X4_47 mI_X0_allot mS_X0_allot mN_X0 mK_X0_allot) (by decide +kernel) rfl rfl ⟨by decide, by decide⟩ 1 0 rfl rfl rfl (Nat.le_of_ble_eq_true rfl) dX4_releasePage_6 rfl ?_
  refine g_aload_n C 0 rfl rfl dX4_releasePage_9 ?_
  refine tF_X4_19 C dX4_releasePage_10 ?_
  refine g_iload_n C 1 rfl rfl dX4_releasePage_13 ?_
  obtain ⟨S4, h3, hf⟩ := bd_some hf
  refine g_callVV C (n := 1) (st := []) (c_X1_clearPage g S2 a1 h3) (tb_wsV _ mM_X4_266 mI_X1_clearPage mS_X1_clearPage mN_X1 mK_X1_clearPage) (by decide +kernel) rfl rfl ⟨by decide, by decide⟩ 7 1 rfl rfl rfl (Nat.le_of_ble_eq_true rfl) dX4_releasePage_14 rfl ?_
  obtain rfl := Option.some.inj hf
  exact g_vret hr dX4_releasePage_17
def f_X4_join (g : Nat) (S : Mem) (a1 : Int32) (a2 : Int32) (a3 : Int32) (a4 : Int32) : Option (Mem) := bd (f_X0_kindOf g S a3) (fun r2 => jn1 (fun (S3 : Mem) => bd (f_X0_moveItems g S3 a4 0 a3) (fun S6 => bd (f_X0_delete g S6 a1 a2) (fun S8 => bd (f_X4_soilThree g S8 a3 a4 a1) (fun S10 => bd (f_X4_releasePage g S10 a4) (fun S12 => some S12))))) (fun j4 => if r2 = 1 then (bd (f_X0_leafAfter g S a4) (fun r19 => bd (f_X0_setLeafAfter g S a3 r19) (fun S21 => j4 S21))) else (bd (f_X0_keyAt g S a1 a2) (fun r15 => bd (f_X0_setKey g S a4 0 r15) (fun S17 => j4 S17)))))
abbrev rmX4_join : Room := { frames := 3, cells := 0, slots := 0, locals := 74 }
set_option maxHeartbeats 4000000 in
set_option maxRecDepth 100000 in
theorem c_X4_join {l : Launch} {x : Ad} (g : Nat) (S : Mem) (a1 : Int32) (a2 : Int32) (a3 : Int32) (a4 : Int32) {z : Mem} (hf : f_X4_join g S a1 a2 a3 a4 = some z) : MV l x yX4_join kX4_join rmX4_join [.ref (ax x 0), .int a1, .int a2, .int a3, .int a4] (cT x S) (cT x z) := by
  refine met_V RX4 (by decide +kernel) rfl (Nat.le_of_ble_eq_true rfl) [(0, .ref (ax x 0)), (1, .int a1), (2, .int a2), (3, .int a3), (4, .int a4)] rfl ?_
  intro κ hl C hr
  subst hl
  rw [f_X4_join] at hf
  refine g_aload_n C 0 rfl rfl dX4_join_0 ?_
  refine tF_X4_12 C dX4_join_1 ?_
  refine g_iload_n C 3 rfl rfl dX4_join_4 ?_
  obtain ⟨r2, h1, hf⟩ := bd_some hf
  refine g_callVI C (n := 1) (st := []) (c_X0_kindOf g S a3 h1) (tb_wsV _ mM_X4_159 mI_X0_kindOf mS_X0_kindOf mN_X0 mK_X0_kindOf) (by decide +kernel) rfl rfl ⟨by decide, by decide⟩ 1 0 rfl rfl rfl (Nat.le_of_ble_eq_true rfl) dX4_join_5 rfl ?_
  refine g_iconst C (v := 1) (by decide) dX4_join_8 ?_
  refine jn1_elim (fun (S3 : Mem) => GG κ x (cT x S3) 51 [(0, .ref (ax x 0)), (1, .int a1), (2, .int a2), (3, .int a3), (4, .int a4)] []) hf (fun S3 hf => ?_) (fun j4 hj4 hf => ?_)
  · show GG κ x (cT x S3) 51 [(0, .ref (ax x 0)), (1, .int a1), (2, .int a2), (3, .int a3), (4, .int a4)] []
    refine g_aload_n C 0 rfl rfl dX4_join_51 ?_
    refine tF_X4_12 C dX4_join_52 ?_
    refine g_iload C 4 rfl dX4_join_55 ?_
    refine g_iconst C (v := 0) (by decide) dX4_join_57 ?_
    refine g_iload_n C 3 rfl rfl dX4_join_58 ?_
    obtain ⟨S6, h5, hf⟩ := bd_some hf
    refine g_callVV C (n := 3) (st := []) (c_X0_moveItems g S3 a4 0 a3 h5) (tb_wsV _ mM_X4_226 mI_X0_moveItems mS_X0_moveItems mN_X0 mK_X0_moveItems) (by decide +kernel) rfl rfl ⟨by decide, by decide⟩ 1 0 rfl rfl rfl (Nat.le_of_ble_eq_true rfl) dX4_join_59 rfl ?_
    refine g_aload_n C 0 rfl rfl dX4_join_62 ?_
    refine tF_X4_12 C dX4_join_63 ?_
    refine g_iload_n C 1 rfl rfl dX4_join_66 ?_
    refine g_iload_n C 2 rfl rfl dX4_join_67 ?_
    obtain ⟨S8, h7, hf⟩ := bd_some hf
    refine g_callVV C (n := 2) (st := []) (c_X0_delete g S6 a1 a2 h7) (tb_wsV _ mM_X4_111 mI_X0_delete mS_X0_delete mN_X0 mK_X0_delete) (by decide +kernel) rfl rfl ⟨by decide, by decide⟩ 1 0 rfl rfl rfl (Nat.le_of_ble_eq_true rfl) dX4_join_68 rfl ?_
    refine g_aload_n C 0 rfl rfl dX4_join_71 ?_
    refine g_iload_n C 3 rfl rfl dX4_join_72 ?_
    refine g_iload C 4 rfl dX4_join_73 ?_
    refine g_iload_n C 1 rfl rfl dX4_join_75 ?_
    obtain ⟨S10, h9, hf⟩ := bd_some hf
    refine g_callVV C (n := 3) (st := []) (c_X4_soilThree g S8 a3 a4 a1 h9) (tb_wsV _ mM_X4_242 mI_X4_soilThree mS_X4_soilThree mN_X4 mK_X4_soilThree) (by decide +kernel) rfl rfl ⟨by decide, by decide⟩ 0 4 rfl rfl rfl (Nat.le_of_ble_eq_true rfl) dX4_join_76 rfl ?_
    refine g_aload_n C 0 rfl rfl dX4_join_79 ?_
    refine g_iload C 4 rfl dX4_join_80 ?_
    obtain ⟨S12, h11, hf⟩ := bd_some hf
    refine g_callVV C (n := 1) (st := []) (c_X4_releasePage g S10 a4 h11) (tb_wsV _ mM_X4_254 mI_X4_releasePage mS_X4_releasePage mN_X4 mK_X4_releasePage) (by decide +kernel) rfl rfl ⟨by decide, by decide⟩ 0 4 rfl rfl rfl (Nat.le_of_ble_eq_true rfl) dX4_join_82 rfl ?_
    obtain rfl := Option.some.inj hf
    exact g_vret hr dX4_join_85
  · skip
    refine g_icmp_ne C 32 (by decide) dX4_join_9 (fun h13 => ?_) (fun h13 => ?_)
    · rw [if_neg h13] at hf
      refine g_aload_n C 0 rfl rfl dX4_join_32 ?_
      refine tF_X4_12 C dX4_join_33 ?_
      refine g_iload C 4 rfl dX4_join_36 ?_
      refine g_iconst C (v := 0) (by decide) dX4_join_38 ?_
      refine g_aload_n C 0 rfl rfl dX4_join_39 ?_
      refine tF_X4_12 C dX4_join_40 ?_
      refine g_iload_n C 1 rfl rfl dX4_join_43 ?_
      refine g_iload_n C 2 rfl rfl dX4_join_44 ?_
      obtain ⟨r15, h14, hf⟩ := bd_some hf
      refine g_callVI C (n := 2) (st := [.int 0, .int a4, .ref (ax x 1)]) (c_X0_keyAt g S a1 a2 h14) (tb_wsV _ mM_X4_176 mI_X0_keyAt mS_X0_keyAt mN_X0 mK_X0_keyAt) (by decide +kernel) rfl rfl ⟨by decide, by decide⟩ 1 0 rfl rfl rfl (Nat.le_of_ble_eq_true rfl) dX4_join_45 rfl ?_
      obtain ⟨S17, h16, hf⟩ := bd_some hf
      refine g_callVV C (n := 3) (st := []) (c_X0_setKey g S a4 0 r15 h16) (tb_wsV _ mM_X4_233 mI_X0_setKey mS_X0_setKey mN_X0 mK_X0_setKey) (by decide +kernel) rfl rfl ⟨by decide, by decide⟩ 1 0 rfl rfl rfl (Nat.le_of_ble_eq_true rfl) dX4_join_48 rfl ?_
      refine g_sub [0, 1, 2, 3, 4] rfl ?_
      exact hj4 S17 hf
    · rw [if_pos h13] at hf
      refine g_aload_n C 0 rfl rfl dX4_join_12 ?_
      refine tF_X4_12 C dX4_join_13 ?_
      refine g_iload_n C 3 rfl rfl dX4_join_16 ?_
      refine g_aload_n C 0 rfl rfl dX4_join_17 ?_
      refine tF_X4_12 C dX4_join_18 ?_
      refine g_iload C 4 rfl dX4_join_21 ?_
      obtain ⟨r19, h18, hf⟩ := bd_some hf
      refine g_callVI C (n := 1) (st := [.int a3, .ref (ax x 1)]) (c_X0_leafAfter g S a4 h18) (tb_wsV _ mM_X4_166 mI_X0_leafAfter mS_X0_leafAfter mN_X0 mK_X0_leafAfter) (by decide +kernel) rfl rfl ⟨by decide, by decide⟩ 1 0 rfl rfl rfl (Nat.le_of_ble_eq_true rfl) dX4_join_23 rfl ?_
      obtain ⟨S21, h20, hf⟩ := bd_some hf
      refine g_callVV C (n := 2) (st := []) (c_X0_setLeafAfter g S a3 r19 h20) (tb_wsV _ mM_X4_230 mI_X0_setLeafAfter mS_X0_setLeafAfter mN_X0 mK_X0_setLeafAfter) (by decide +kernel) rfl rfl ⟨by decide, by decide⟩ 1 0 rfl rfl rfl (Nat.le_of_ble_eq_true rfl) dX4_join_26 rfl ?_
      refine g_goto C 51 (by decide) dX4_join_29 ?_
      refine g_sub [0, 1, 2, 3, 4] rfl ?_
      exact hj4 S21 hf
