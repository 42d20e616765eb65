def f_X5_split_73 (g : Nat) (w1 : Int32) (w2 : Int32) (w3 : Int32) (kx : Mem → Option (Mem)) : Nat → Mem → Int32 → Option (Mem)
  | 0, _, _ => none
  | n + 1, S, w4 => if 5 ≤ w4 then (kx S) else (gd (ix_in ((5 * w2) + w4) 200) (gd (ix_in ((5 * w2) + w4) 200) (bd (f_X5_insert g S w3 (w4 - 2) (S.1 3 ((5 * w2) + w4).toNatClampNeg) (S.1 4 ((5 * w2) + w4).toNatClampNeg)) (fun S19 => f_X5_split_73 g w1 w2 w3 kx n S19 (w4 + 1)))))
def f_X5_split (g : Nat) (S : Mem) (a1 : Int32) : Option (Mem) := gd (ix_in a1 50) (bd (f_X5_leastFree g S) (fun r3 => bd (f_X5_touch g S r3 1) (fun S5 => gd (ix_in (S.1 6 a1.toNatClampNeg) 40) (gd (ix_in r3 40) (gd (ix_in (S.1 6 a1.toNatClampNeg) 40) (gd (ix_in r3 40) (gd (ix_in (S.1 6 a1.toNatClampNeg) 40) (jn1 (fun (t11 : Int32) => gd (ix_in (S.1 6 a1.toNatClampNeg) 40) (gd (ix_in r3 40) (f_X5_split_73 g a1 (S.1 6 a1.toNatClampNeg) r3 (fun (S20 : Mem) => gd (ix_in (S.1 6 a1.toNatClampNeg) 40) (gd (ix_in (5 * r3) 200) (gd (ix_in r3 40) (jn1 (fun (S24 : Mem) => bd (f_X5_change g S24 r3) (fun S27 => bd (f_X5_change g S27 (S.1 6 a1.toNatClampNeg)) (fun S29 => if a1 ≤ 0 then (bd (f_X5_leastFree g S29) (fun r32 => bd (f_X5_touch g S29 r32 1) (fun S34 => gd (ix_in r32 40) (gd (ix_in r32 40) (bd (f_X5_insert g (up (up S34 1 r32.toNatClampNeg 2) 2 r32.toNatClampNeg 0) r32 0 0 (S.1 6 a1.toNatClampNeg)) (fun S38 => bd (f_X5_insert g S38 r32 1 ((up S20 2 (S.1 6 a1.toNatClampNeg).toNatClampNeg 2).1 3 (5 * r3).toNatClampNeg) r3) (fun S40 => bd (f_X5_change g (up S40 0 6 r32) r32) (fun S42 => some S42)))))))) else (gd (ix_in (a1 - 1) 50) (gd (ix_in a1 50) (bd (f_X5_insert g S29 (S29.1 6 (a1 - 1).toNatClampNeg) ((S29.1 7 a1.toNatClampNeg) + 1) ((up S20 2 (S.1 6 a1.toNatClampNeg).toNatClampNeg 2).1 3 (5 * r3).toNatClampNeg) r3) (fun S46 => gd (ix_in (a1 - 1) 50) (bd (f_X5_change g S46 (S46.1 6 (a1 - 1).toNatClampNeg)) (fun S49 => some S49))))))))) (fun j25 => if ((up S20 2 (S.1 6 a1.toNatClampNeg).toNatClampNeg 2).1 1 r3.toNatClampNeg) = 2 then (gd (ix_in (5 * r3) 200) (j25 (up (up S20 2 (S.1 6 a1.toNatClampNeg).toNatClampNeg 2) 3 (5 * r3).toNatClampNeg 0))) else (j25 (up S20 2 (S.1 6 a1.toNatClampNeg).toNatClampNeg 2))))))) g (up (up (up (up S5 1 r3.toNatClampNeg (S5.1 1 (S.1 6 a1.toNatClampNeg).toNatClampNeg)) 5 r3.toNatClampNeg ((up S5 1 r3.toNatClampNeg (S5.1 1 (S.1 6 a1.toNatClampNeg).toNatClampNeg)).1 5 (S.1 6 a1.toNatClampNeg).toNatClampNeg)) 5 (S.1 6 a1.toNatClampNeg).toNatClampNeg t11) 2 r3.toNatClampNeg 0) 2))) (fun j12 => if ((up (up S5 1 r3.toNatClampNeg (S5.1 1 (S.1 6 a1.toNatClampNeg).toNatClampNeg)) 5 r3.toNatClampNeg ((up S5 1 r3.toNatClampNeg (S5.1 1 (S.1 6 a1.toNatClampNeg).toNatClampNeg)).1 5 (S.1 6 a1.toNatClampNeg).toNatClampNeg)).1 1 (S.1 6 a1.toNatClampNeg).toNatClampNeg) = 1 then (j12 r3) else (j12 ((-1))))))))))))
abbrev rmX5_split : Room := { frames := 3, cells := 0, slots := 0, locals := 64 }
set_option maxHeartbeats 4000000 in
set_option maxRecDepth 100000 in
theorem lp_X5_split_73 {κ : Kx} {x : Ad} (C : Cx κ x cX5_split RX5 kX5_split rmX5_split 6) {z : Mem} (hr : RV κ x cX5_split (cM x z)) (g : Nat) (w1 : Int32) (w2 : Int32) (w3 : Int32) (kx : Mem → Option (Mem)) (hk : ∀ (S1 : Mem), kx S1 = some z → GG κ x (cM x S1) 116 [(0, .ref (ax x 30)), (1, .int w1), (2, .int w2), (3, .int w3)] []) : ∀ (n : Nat) (S : Mem) (w4 : Int32), f_X5_split_73 g w1 w2 w3 kx n S w4 = some z → GG κ x (cM x S) 73 [(0, .ref (ax x 30)), (1, .int w1), (2, .int w2), (3, .int w3), (4, .int w4)] [] := by
  intro n
  induction n with
  | zero => intro S w4 hf; cases hf
  | succ n ih =>
    intro S w4 hf
    rw [f_X5_split_73] at hf
    refine g_iload C 4 rfl dX5_split_73 ?_
    refine g_iconst C (v := 5) (by decide) dX5_split_75 ?_
    refine g_icmp_ge C 116 (by decide) dX5_split_76 (fun h15 => ?_) (fun h15 => ?_)
    · rw [if_pos h15] at hf
      refine g_sub [0, 1, 2, 3] rfl ?_
      exact hk S hf
    · rw [if_neg h15] at hf
      refine g_aload_n C 0 rfl rfl dX5_split_79 ?_
      refine g_iload_n C 3 rfl rfl dX5_split_80 ?_
      refine g_iload C 4 rfl dX5_split_81 ?_
      refine g_iconst C (v := 2) (by decide) dX5_split_83 ?_
      refine g_isub C dX5_split_84 ?_
      refine g_aload_n C 0 rfl rfl dX5_split_85 ?_
      refine rF_X5_16 C dX5_split_86 ?_
      refine g_iconst C (v := 5) (by decide) dX5_split_89 ?_
      refine g_iload_n C 2 rfl rfl dX5_split_90 ?_
      refine g_imul C dX5_split_91 ?_
      refine g_iload C 4 rfl dX5_split_92 ?_
      refine g_iadd C dX5_split_94 ?_
      obtain ⟨h16, hf⟩ := gd_some hf
      refine rL_3 C h16 dX5_split_95 ?_
      refine g_aload_n C 0 rfl rfl dX5_split_96 ?_
      refine rF_X5_19 C dX5_split_97 ?_
      refine g_iconst C (v := 5) (by decide) dX5_split_100 ?_
      refine g_iload_n C 2 rfl rfl dX5_split_101 ?_
      refine g_imul C dX5_split_102 ?_
      refine g_iload C 4 rfl dX5_split_103 ?_
      refine g_iadd C dX5_split_105 ?_
      obtain ⟨h17, hf⟩ := gd_some hf
      refine rL_4 C h17 dX5_split_106 ?_
      obtain ⟨S19, h18, hf⟩ := bd_some hf
      refine g_callVV C (n := 4) (st := []) (c_X5_insert g S w3 (w4 - 2) (S.1 3 ((5 * w2) + w4).toNatClampNeg) (S.1 4 ((5 * w2) + w4).toNatClampNeg) h18) (tb_wsV _ mM_X5_84 mI_X5_insert mS_X5_insert mN_X5 mK_X5_insert) (by decide +kernel) rfl rfl ⟨by decide, by decide⟩ 0 5 rfl rfl rfl (Nat.le_of_ble_eq_true rfl) dX5_split_107 rfl ?_
      refine g_iinc C (v := w4 + 1) (lv2 := [(4, .int (w4 + 1)), (0, .ref (ax x 30)), (1, .int w1), (2, .int w2), (3, .int w3)]) 4 rfl (by rw [(by decide : Int32.ofInt 1 = 1)]) (by decide) rfl dX5_split_110 ?_
      refine g_goto C 73 (by decide) dX5_split_113 ?_
      refine g_sub [1, 2, 3, 4, 0] rfl ?_
      exact ih S19 (w4 + 1) hf
set_option maxHeartbeats 4000000 in
set_option maxRecDepth 100000 in
theorem c_X5_split {l : Launch} {x : Ad} (g : Nat) (S : Mem) (a1 : Int32) {z : Mem} (hf : f_X5_split g S a1 = some z) : MV l x yX5_split kX5_split rmX5_split [.ref (ax x 30), .int a1] (cM x S) (cM x z) := by
  refine met_V RX5 (by decide +kernel) rfl (Nat.le_of_ble_eq_true rfl) [(0, .ref (ax x 30)), (1, .int a1)] rfl ?_
  intro κ hl C hr
  subst hl
  rw [f_X5_split] at hf
  refine g_aload_n C 0 rfl rfl dX5_split_0 ?_
  refine rF_X5_25 C dX5_split_1 ?_
  refine g_iload_n C 1 rfl rfl dX5_split_4 ?_
  obtain ⟨h1, hf⟩ := gd_some hf
  refine rL_6 C h1 dX5_split_5 ?_
  refine g_istore_n C (lv2 := [(2, .int (S.1 6 a1.toNatClampNeg)), (0, .ref (ax x 30)), (1, .int a1)]) rfl (by decide) rfl dX5_split_6 ?_
  refine g_aload_n C 1 rfl rfl dX5_split_7 ?_
  obtain ⟨r3, h2, hf⟩ := bd_some hf
  refine g_callVI C (n := 0) (st := []) (c_X5_leastFree g S h2) (tb_wsV _ mM_X5_81 mI_X5_leastFree mS_X5_leastFree mN_X5 mK_X5_leastFree) (by decide +kernel) rfl rfl ⟨by decide, by decide⟩ 0 5 rfl rfl rfl (Nat.le_of_ble_eq_true rfl) dX5_split_8 rfl ?_
  refine g_istore_n C (lv2 := [(3, .int r3), (2, .int (S.1 6 a1.toNatClampNeg)), (0, .ref (ax x 30)), (1, .int a1)]) rfl (by decide) rfl dX5_split_11 ?_
  refine g_aload_n C 2 rfl rfl dX5_split_12 ?_
  refine g_iload_n C 0 rfl rfl dX5_split_13 ?_
  refine g_iconst C (v := 1) (by decide) dX5_split_14 ?_
  obtain ⟨S5, h4, hf⟩ := bd_some hf
  refine g_callVV C (n := 2) (st := []) (c_X5_touch g S r3 1 h4) (tb_wsV _ mM_X5_77 mI_X5_touch mS_X5_touch mN_X5 mK_X5_touch) (by decide +kernel) rfl rfl ⟨by decide, by decide⟩ 0 5 rfl rfl rfl (Nat.le_of_ble_eq_true rfl) dX5_split_15 rfl ?_
  refine g_aload_n C 2 rfl rfl dX5_split_18 ?_
  refine rF_X5_7 C dX5_split_19 ?_
  refine g_iload_n C 0 rfl rfl dX5_split_22 ?_
  refine g_aload_n C 2 rfl rfl dX5_split_23 ?_
  refine rF_X5_7 C dX5_split_24 ?_
  refine g_iload_n C 1 rfl rfl dX5_split_27 ?_
  obtain ⟨h6, hf⟩ := gd_some hf
  refine rL_1 C h6 dX5_split_28 ?_
  obtain ⟨h7, hf⟩ := gd_some hf
  refine rS_1 C h7 dX5_split_29 ?_
  refine g_aload_n C 2 rfl rfl dX5_split_30 ?_
  refine rF_X5_22 C dX5_split_31 ?_
  refine g_iload_n C 0 rfl rfl dX5_split_34 ?_
  refine g_aload_n C 2 rfl rfl dX5_split_35 ?_
  refine rF_X5_22 C dX5_split_36 ?_
  refine g_iload_n C 1 rfl rfl dX5_split_39 ?_
  obtain ⟨h8, hf⟩ := gd_some hf
  refine rL_5 C h8 dX5_split_40 ?_
  obtain ⟨h9, hf⟩ := gd_some hf
  refine rS_5 C h9 dX5_split_41 ?_
  refine g_aload_n C 2 rfl rfl dX5_split_42 ?_
  refine rF_X5_22 C dX5_split_43 ?_
  refine g_iload_n C 1 rfl rfl dX5_split_46 ?_
  refine g_aload_n C 2 rfl rfl dX5_split_47 ?_
  refine rF_X5_7 C dX5_split_48 ?_
  refine g_iload_n C 1 rfl rfl dX5_split_51 ?_
  obtain ⟨h10, hf⟩ := gd_some hf
  refine rL_1 C h10 dX5_split_52 ?_
  refine g_iconst C (v := 1) (by decide) dX5_split_53 ?_
  refine jn1_elim (fun (t11 : Int32) => GG κ x (cM x (up (up S5 1 r3.toNatClampNeg (S5.1 1 (S.1 6 a1.toNatClampNeg).toNatClampNeg)) 5 r3.toNatClampNeg ((up S5 1 r3.toNatClampNeg (S5.1 1 (S.1 6 a1.toNatClampNeg).toNatClampNeg)).1 5 (S.1 6 a1.toNatClampNeg).toNatClampNeg))) 62 [(0, .ref (ax x 30)), (1, .int a1), (2, .int (S.1 6 a1.toNatClampNeg)), (3, .int r3)] [.int t11, .int (S.1 6 a1.toNatClampNeg), .ref (ax x 35)]) hf (fun t11 hf => ?_) (fun j12 hj12 hf => ?_)
  · show GG κ x (cM x (up (up S5 1 r3.toNatClampNeg (S5.1 1 (S.1 6 a1.toNatClampNeg).toNatClampNeg)) 5 r3.toNatClampNeg ((up S5 1 r3.toNatClampNeg (S5.1 1 (S.1 6 a1.toNatClampNeg).toNatClampNeg)).1 5 (S.1 6 a1.toNatClampNeg).toNatClampNeg))) 62 [(0, .ref (ax x 30)), (1, .int a1), (2, .int (S.1 6 a1.toNatClampNeg)), (3, .int r3)] [.int t11, .int (S.1 6 a1.toNatClampNeg), .ref (ax x 35)]
    obtain ⟨h13, hf⟩ := gd_some hf
    refine rS_5 C h13 dX5_split_62 ?_
    refine g_aload_n C 0 rfl rfl dX5_split_63 ?_
    refine rF_X5_13 C dX5_split_64 ?_
    refine g_iload_n C 3 rfl rfl dX5_split_67 ?_
    refine g_iconst C (v := 0) (by decide) dX5_split_68 ?_
    obtain ⟨h14, hf⟩ := gd_some hf
    refine rS_2 C h14 dX5_split_69 ?_
    refine g_iconst C (v := 2) (by decide) dX5_split_70 ?_
    refine g_istore C (lv2 := [(4, .int 2), (0, .ref (ax x 30)), (1, .int a1), (2, .int (S.1 6 a1.toNatClampNeg)), (3, .int r3)]) (by decide) rfl dX5_split_71 ?_
    refine g_sub [1, 2, 3, 4, 0] rfl ?_
    refine lp_X5_split_73 C hr g a1 (S.1 6 a1.toNatClampNeg) r3 _ (fun S20 hf => ?_) g (up (up (up (up S5 1 r3.toNatClampNeg (S5.1 1 (S.1 6 a1.toNatClampNeg).toNatClampNeg)) 5 r3.toNatClampNeg ((up S5 1 r3.toNatClampNeg (S5.1 1 (S.1 6 a1.toNatClampNeg).toNatClampNeg)).1 5 (S.1 6 a1.toNatClampNeg).toNatClampNeg)) 5 (S.1 6 a1.toNatClampNeg).toNatClampNeg t11) 2 r3.toNatClampNeg 0) 2 hf
    refine g_aload_n C 0 rfl rfl dX5_split_116 ?_
    refine rF_X5_13 C dX5_split_117 ?_
    refine g_iload_n C 2 rfl rfl dX5_split_120 ?_
    refine g_iconst C (v := 2) (by decide) dX5_split_121 ?_
    obtain ⟨h21, hf⟩ := gd_some hf
    refine rS_2 C h21 dX5_split_122 ?_
    refine g_aload_n C 0 rfl rfl dX5_split_123 ?_
    refine rF_X5_16 C dX5_split_124 ?_
    refine g_iconst C (v := 5) (by decide) dX5_split_127 ?_
    refine g_iload_n C 3 rfl rfl dX5_split_128 ?_
    refine g_imul C dX5_split_129 ?_
    obtain ⟨h22, hf⟩ := gd_some hf
    refine rL_3 C h22 dX5_split_130 ?_
    refine g_istore C (lv2 := [(4, .int ((up S20 2 (S.1 6 a1.toNatClampNeg).toNatClampNeg 2).1 3 (5 * r3).toNatClampNeg)), (0, .ref (ax x 30)), (1, .int a1), (2, .int (S.1 6 a1.toNatClampNeg)), (3, .int r3)]) (by decide) rfl dX5_split_131 ?_
    refine g_aload_n C 1 rfl rfl dX5_split_133 ?_
    refine rF_X5_7 C dX5_split_134 ?_
    refine g_iload_n C 4 rfl rfl dX5_split_137 ?_
    obtain ⟨h23, hf⟩ := gd_some hf
    refine rL_1 C h23 dX5_split_138 ?_
    refine g_iconst C (v := 2) (by decide) dX5_split_139 ?_
    refine jn1_elim (fun (S24 : Mem) => GG κ x (cM x S24) 152 [(0, .ref (ax x 30)), (1, .int a1), (2, .int (S.1 6 a1.toNatClampNeg)), (3, .int r3), (4, .int ((up S20 2 (S.1 6 a1.toNatClampNeg).toNatClampNeg 2).1 3 (5 * r3).toNatClampNeg))] []) hf (fun S24 hf => ?_) (fun j25 hj25 hf => ?_)
    · show GG κ x (cM x S24) 152 [(0, .ref (ax x 30)), (1, .int a1), (2, .int (S.1 6 a1.toNatClampNeg)), (3, .int r3), (4, .int ((up S20 2 (S.1 6 a1.toNatClampNeg).toNatClampNeg 2).1 3 (5 * r3).toNatClampNeg))] []
      refine g_aload_n C 0 rfl rfl dX5_split_152 ?_
      refine g_iload_n C 3 rfl rfl dX5_split_153 ?_
      obtain ⟨S27, h26, hf⟩ := bd_some hf
      refine g_callVV C (n := 1) (st := []) (c_X5_change g S24 r3 h26) (tb_wsV _ mM_X5_88 mI_X5_change mS_X5_change mN_X5 mK_X5_change) (by decide +kernel) rfl rfl ⟨by decide, by decide⟩ 0 5 rfl rfl rfl (Nat.le_of_ble_eq_true rfl) dX5_split_154 rfl ?_
      refine g_aload_n C 0 rfl rfl dX5_split_157 ?_
      refine g_iload_n C 2 rfl rfl dX5_split_158 ?_
      obtain ⟨S29, h28, hf⟩ := bd_some hf
      refine g_callVV C (n := 1) (st := []) (c_X5_change g S27 (S.1 6 a1.toNatClampNeg) h28) (tb_wsV _ mM_X5_88 mI_X5_change mS_X5_change mN_X5 mK_X5_change) (by decide +kernel) rfl rfl ⟨by decide, by decide⟩ 0 5 rfl rfl rfl (Nat.le_of_ble_eq_true rfl) dX5_split_159 rfl ?_
      refine g_iload_n C 1 rfl rfl dX5_split_162 ?_
      refine g_if_le C 202 (by decide) dX5_split_163 (fun h30 => ?_) (fun h30 => ?_)
      · rw [if_pos h30] at hf
        refine g_aload_n C 0 rfl rfl dX5_split_202 ?_
        obtain ⟨r32, h31, hf⟩ := bd_some hf
        refine g_callVI C (n := 0) (st := []) (c_X5_leastFree g S29 h31) (tb_wsV _ mM_X5_81 mI_X5_leastFree mS_X5_leastFree mN_X5 mK_X5_leastFree) (by decide +kernel) rfl rfl ⟨by decide, by decide⟩ 0 5 rfl rfl rfl (Nat.le_of_ble_eq_true rfl) dX5_split_203 rfl ?_
        refine g_istore C (lv2 := [(5, .int r32), (0, .ref (ax x 30)), (1, .int a1), (2, .int (S.1 6 a1.toNatClampNeg)), (3, .int r3), (4, .int ((up S20 2 (S.1 6 a1.toNatClampNeg).toNatClampNeg 2).1 3 (5 * r3).toNatClampNeg))]) (by decide) rfl dX5_split_206 ?_
        refine g_aload_n C 1 rfl rfl dX5_split_208 ?_
        refine g_iload C 0 rfl dX5_split_209 ?_
        refine g_iconst C (v := 1) (by decide) dX5_split_211 ?_
        obtain ⟨S34, h33, hf⟩ := bd_some hf
        refine g_callVV C (n := 2) (st := []) (c_X5_touch g S29 r32 1 h33) (tb_wsV _ mM_X5_77 mI_X5_touch mS_X5_touch mN_X5 mK_X5_touch) (by decide +kernel) rfl rfl ⟨by decide, by decide⟩ 0 5 rfl rfl rfl (Nat.le_of_ble_eq_true rfl) dX5_split_212 rfl ?_
        refine g_aload_n C 1 rfl rfl dX5_split_215 ?_
        refine rF_X5_7 C dX5_split_216 ?_
        refine g_iload C 0 rfl dX5_split_219 ?_
        refine g_iconst C (v := 2) (by decide) dX5_split_221 ?_
        obtain ⟨h35, hf⟩ := gd_some hf
        refine rS_1 C h35 dX5_split_222 ?_
        refine g_aload_n C 1 rfl rfl dX5_split_223 ?_
        refine rF_X5_13 C dX5_split_224 ?_
        refine g_iload C 0 rfl dX5_split_227 ?_
        refine g_iconst C (v := 0) (by decide) dX5_split_229 ?_
        obtain ⟨h36, hf⟩ := gd_some hf
        refine rS_2 C h36 dX5_split_230 ?_
        refine g_aload_n C 1 rfl rfl dX5_split_231 ?_
        refine g_iload C 0 rfl dX5_split_232 ?_
        refine g_iconst C (v := 0) (by decide) dX5_split_234 ?_
        refine g_iconst C (v := 0) (by decide) dX5_split_235 ?_
        refine g_iload_n C 3 rfl rfl dX5_split_236 ?_
        obtain ⟨S38, h37, hf⟩ := bd_some hf
        refine g_callVV C (n := 4) (st := []) (c_X5_insert g (up (up S34 1 r32.toNatClampNeg 2) 2 r32.toNatClampNeg 0) r32 0 0 (S.1 6 a1.toNatClampNeg) h37) (tb_wsV _ mM_X5_84 mI_X5_insert mS_X5_insert mN_X5 mK_X5_insert) (by decide +kernel) rfl rfl ⟨by decide, by decide⟩ 0 5 rfl rfl rfl (Nat.le_of_ble_eq_true rfl) dX5_split_237 rfl ?_
        refine g_aload_n C 1 rfl rfl dX5_split_240 ?_
        refine g_iload C 0 rfl dX5_split_241 ?_
        refine g_iconst C (v := 1) (by decide) dX5_split_243 ?_
        refine g_iload C 5 rfl dX5_split_244 ?_
        refine g_iload_n C 4 rfl rfl dX5_split_246 ?_
        obtain ⟨S40, h39, hf⟩ := bd_some hf
        refine g_callVV C (n := 4) (st := []) (c_X5_insert g S38 r32 1 ((up S20 2 (S.1 6 a1.toNatClampNeg).toNatClampNeg 2).1 3 (5 * r3).toNatClampNeg) r3 h39) (tb_wsV _ mM_X5_84 mI_X5_insert mS_X5_insert mN_X5 mK_X5_insert) (by decide +kernel) rfl rfl ⟨by decide, by decide⟩ 0 5 rfl rfl rfl (Nat.le_of_ble_eq_true rfl) dX5_split_247 rfl ?_
        refine g_aload_n C 1 rfl rfl dX5_split_250 ?_
        refine g_iload C 0 rfl dX5_split_251 ?_
        refine rP_X5_71 C dX5_split_253 ?_
        refine g_aload_n C 1 rfl rfl dX5_split_256 ?_
        refine g_iload C 0 rfl dX5_split_257 ?_
        obtain ⟨S42, h41, hf⟩ := bd_some hf
        refine g_callVV C (n := 1) (st := []) (c_X5_change g (up S40 0 6 r32) r32 h41) (tb_wsV _ mM_X5_88 mI_X5_change mS_X5_change mN_X5 mK_X5_change) (by decide +kernel) rfl rfl ⟨by decide, by decide⟩ 0 5 rfl rfl rfl (Nat.le_of_ble_eq_true rfl) dX5_split_259 rfl ?_
        obtain rfl := Option.some.inj hf
        exact g_vret hr dX5_split_262
      · rw [if_neg h30] at hf
        refine g_aload_n C 0 rfl rfl dX5_split_166 ?_
        refine g_aload_n C 0 rfl rfl dX5_split_167 ?_
        refine rF_X5_25 C dX5_split_168 ?_
        refine g_iload_n C 1 rfl rfl dX5_split_171 ?_
        refine g_iconst C (v := 1) (by decide) dX5_split_172 ?_
        refine g_isub C dX5_split_173 ?_
        obtain ⟨h43, hf⟩ := gd_some hf
        refine rL_6 C h43 dX5_split_174 ?_
        refine g_aload_n C 0 rfl rfl dX5_split_175 ?_
        refine rF_X5_28 C dX5_split_176 ?_
        refine g_iload_n C 1 rfl rfl dX5_split_179 ?_
        obtain ⟨h44, hf⟩ := gd_some hf
        refine rL_7 C h44 dX5_split_180 ?_
        refine g_iconst C (v := 1) (by decide) dX5_split_181 ?_
        refine g_iadd C dX5_split_182 ?_
        refine g_iload C 4 rfl dX5_split_183 ?_
        refine g_iload_n C 3 rfl rfl dX5_split_185 ?_
        obtain ⟨S46, h45, hf⟩ := bd_some hf
        refine g_callVV C (n := 4) (st := []) (c_X5_insert g S29 (S29.1 6 (a1 - 1).toNatClampNeg) ((S29.1 7 a1.toNatClampNeg) + 1) ((up S20 2 (S.1 6 a1.toNatClampNeg).toNatClampNeg 2).1 3 (5 * r3).toNatClampNeg) r3 h45) (tb_wsV _ mM_X5_84 mI_X5_insert mS_X5_insert mN_X5 mK_X5_insert) (by decide +kernel) rfl rfl ⟨by decide, by decide⟩ 0 5 rfl rfl rfl (Nat.le_of_ble_eq_true rfl) dX5_split_186 rfl ?_
        refine g_aload_n C 0 rfl rfl dX5_split_189 ?_
        refine g_aload_n C 0 rfl rfl dX5_split_190 ?_
        refine rF_X5_25 C dX5_split_191 ?_
        refine g_iload_n C 1 rfl rfl dX5_split_194 ?_
        refine g_iconst C (v := 1) (by decide) dX5_split_195 ?_
        refine g_isub C dX5_split_196 ?_
        obtain ⟨h47, hf⟩ := gd_some hf
        refine rL_6 C h47 dX5_split_197 ?_
        obtain ⟨S49, h48, hf⟩ := bd_some hf
        refine g_callVV C (n := 1) (st := []) (c_X5_change g S46 (S46.1 6 (a1 - 1).toNatClampNeg) h48) (tb_wsV _ mM_X5_88 mI_X5_change mS_X5_change mN_X5 mK_X5_change) (by decide +kernel) rfl rfl ⟨by decide, by decide⟩ 0 5 rfl rfl rfl (Nat.le_of_ble_eq_true rfl) dX5_split_198 rfl ?_
        obtain rfl := Option.some.inj hf
        exact g_vret hr dX5_split_201
    · skip
      refine g_icmp_ne C 152 (by decide) dX5_split_140 (fun h50 => ?_) (fun h50 => ?_)
      · rw [if_neg h50] at hf
        refine g_sub [1, 2, 3, 4, 0] rfl ?_
        exact hj25 (up S20 2 (S.1 6 a1.toNatClampNeg).toNatClampNeg 2) hf
      · rw [if_pos h50] at hf
        refine g_aload_n C 1 rfl rfl dX5_split_143 ?_
        refine rF_X5_16 C dX5_split_144 ?_
        refine g_iconst C (v := 5) (by decide) dX5_split_147 ?_
        refine g_iload_n C 4 rfl rfl dX5_split_148 ?_
        refine g_imul C dX5_split_149 ?_
        refine g_iconst C (v := 0) (by decide) dX5_split_150 ?_
        obtain ⟨h51, hf⟩ := gd_some hf
        refine rS_3 C h51 dX5_split_151 ?_
        refine g_sub [1, 2, 3, 4, 0] rfl ?_
        exact hj25 (up (up S20 2 (S.1 6 a1.toNatClampNeg).toNatClampNeg 2) 3 (5 * r3).toNatClampNeg 0) hf
  · skip
    refine g_icmp_ne C 61 (by decide) dX5_split_54 (fun h52 => ?_) (fun h52 => ?_)
    · rw [if_neg h52] at hf
      refine g_iconst C (v := (-1)) (by decide) dX5_split_61 ?_
      refine g_sub [2, 3, 1, 0] rfl ?_
      exact hj12 ((-1)) hf
    · rw [if_pos h52] at hf
      refine g_iload_n C 0 rfl rfl dX5_split_57 ?_
      refine g_goto C 62 (by decide) dX5_split_58 ?_
      refine g_sub [2, 3, 1, 0] rfl ?_
      exact hj12 r3 hf
def f_X5_put_121 (g : Nat) (w4 : Int32) (kx : Mem → Option (Int32 × Mem)) : Nat → Mem → Int32 → Option (Int32 × Mem)
  | 0, _, _ => none
  | n + 1, S, w6 => if w6 < 0 then (kx S) else (gd (ix_in w6 50) (gd (ix_in (S.1 6 w6.toNatClampNeg) 40) (if (S.1 2 (S.1 6 w6.toNatClampNeg).toNatClampNeg) ≤ 4 then (kx S) else (bd (f_X5_split g S w6) (fun S26 => f_X5_put_121 g w4 kx n S26 (w6 + (-1)))))))
def f_X5_put (g : Nat) (S : Mem) (a1 : Int32) (a2 : Int32) : Option (Int32 × Mem) := bd (f_X5_find g (up S 0 0 0) a1) (fun S2 => bd (f_X5_placeOf g S2 a1) (fun r4 => bd (f_X5_isAt g S2 r4 a1) (fun r6 => jn0 (bd (f_X5_touchWay g (up S2 0 19 0)) (fun S9 => gd (ix_in (S9.1 0 8) 50) (bd (f_X5_change g S9 (S9.1 6 (S9.1 0 8).toNatClampNeg)) (fun S12 => jn1 (fun (S13 : Mem) => bd (f_X5_unpin g S13) (fun S16 => if r6 = 0 then (some (1, S16)) else (some (0, S16)))) (fun j14 => if r6 = 0 then (bd (f_X5_insert g S12 (S9.1 6 (S9.1 0 8).toNatClampNeg) r4 a1 a2) (fun S20 => f_X5_put_121 g r6 (fun (S27 : Mem) => j14 S27) g (up S20 0 7 ((S20.1 0 7) + 1)) ((up S20 0 7 ((S20.1 0 7) + 1)).1 0 8))) else (gd (ix_in ((5 * (S9.1 6 (S9.1 0 8).toNatClampNeg)) + r4) 200) (j14 (up S12 4 ((5 * (S9.1 6 (S9.1 0 8).toNatClampNeg)) + r4).toNatClampNeg a2)))))))) (fun j7 => if r6 = 0 then (bd (f_X5_pagesInUse g S2) (fun r31 => bd (f_X5_wanted g S2) (fun r33 => if (r31 + r33) ≤ 40 then (j7) else (some (0, (up S2 0 0 1)))))) else (j7)))))
abbrev rmX5_put : Room := { frames := 4, cells := 0, slots := 0, locals := 89 }
set_option maxHeartbeats 4000000 in
set_option maxRecDepth 100000 in
theorem lp_X5_put_121 {κ : Kx} {x : Ad} (C : Cx κ x cX5_put RX5 kX5_put rmX5_put 7) {z : Int32 × Mem} (hr : iz z.1 → RI κ x cX5_put (cM x z.2) z.1) (g : Nat) (w4 : Int32) (kx : Mem → Option (Int32 × Mem)) (hk : ∀ (S1 : Mem), kx S1 = some z → GG κ x (cM x S1) 154 [(0, .ref (ax x 30)), (4, .int w4)] []) : ∀ (n : Nat) (S : Mem) (w6 : Int32), f_X5_put_121 g w4 kx n S w6 = some z → GG κ x (cM x S) 121 [(0, .ref (ax x 30)), (4, .int w4), (6, .int w6)] [] := by
  intro n
  induction n with
  | zero => intro S w6 hf; cases hf
  | succ n ih =>
    intro S w6 hf
    rw [f_X5_put_121] at hf
    refine g_iload C 2 rfl dX5_put_121 ?_
    refine g_if_lt C 154 (by decide) dX5_put_123 (fun h21 => ?_) (fun h21 => ?_)
    · rw [if_pos h21] at hf
      refine g_sub [0, 1] rfl ?_
      exact hk S hf
    · rw [if_neg h21] at hf
      refine g_aload_n C 0 rfl rfl dX5_put_126 ?_
      refine rF_X5_13 C dX5_put_127 ?_
      refine g_aload_n C 0 rfl rfl dX5_put_130 ?_
      refine rF_X5_25 C dX5_put_131 ?_
      refine g_iload C 2 rfl dX5_put_134 ?_
      obtain ⟨h22, hf⟩ := gd_some hf
      refine rL_6 C h22 dX5_put_136 ?_
      obtain ⟨h23, hf⟩ := gd_some hf
      refine rL_2 C h23 dX5_put_137 ?_
      refine g_iconst C (v := 4) (by decide) dX5_put_138 ?_
      refine g_icmp_le C 154 (by decide) dX5_put_139 (fun h24 => ?_) (fun h24 => ?_)
      · rw [if_pos h24] at hf
        refine g_sub [0, 1] rfl ?_
        exact hk S hf
      · rw [if_neg h24] at hf
        refine g_aload_n C 0 rfl rfl dX5_put_142 ?_
        refine g_iload C 2 rfl dX5_put_143 ?_
        obtain ⟨S26, h25, hf⟩ := bd_some hf
        refine g_callVV C (n := 1) (st := []) (c_X5_split g S w6 h25) (tb_wsV _ mM_X5_118 mI_X5_split mS_X5_split mN_X5 mK_X5_split) (by decide +kernel) rfl rfl ⟨by decide, by decide⟩ 0 5 rfl rfl rfl (Nat.le_of_ble_eq_true rfl) dX5_put_145 rfl ?_
        refine g_iinc C (v := w6 + (-1)) (lv2 := [(6, .int (w6 + (-1))), (0, .ref (ax x 30)), (4, .int w4)]) 2 rfl (by rw [(by decide : Int32.ofInt (-1) = (-1))]) (by decide) rfl dX5_put_148 ?_
        refine g_goto C 121 (by decide) dX5_put_151 ?_
        refine g_sub [1, 2, 0] rfl ?_
        exact ih S26 (w6 + (-1)) hf
set_option maxHeartbeats 4000000 in
set_option maxRecDepth 100000 in
theorem c_X5_put {l : Launch} {x : Ad} (g : Nat) (S : Mem) (a1 : Int32) (a2 : Int32) {z : Int32 × Mem} (hf : f_X5_put g S a1 a2 = some z) : MI l x yX5_put kX5_put rmX5_put [.ref (ax x 30), .int a1, .int a2] (cM x S) z.1 (cM x z.2) := by
  refine met_Z RX5 (by decide +kernel) rfl (Nat.le_of_ble_eq_true rfl) [(0, .ref (ax x 30)), (1, .int a1), (2, .int a2)] rfl ?_
  intro κ hl C hr
  subst hl
  rw [f_X5_put] at hf
  refine g_aload_n C 0 rfl rfl dX5_put_0 ?_
  refine g_iconst C (v := 0) (by decide) dX5_put_1 ?_
  refine rP_X5_44 C dX5_put_2 ?_
  refine g_aload_n C 0 rfl rfl dX5_put_5 ?_
  refine g_iload_n C 1 rfl rfl dX5_put_6 ?_
  obtain ⟨S2, h1, hf⟩ := bd_some hf
  refine g_callVV C (n := 1) (st := []) (c_X5_find g (up S 0 0 0) a1 h1) (tb_wsV _ mM_X5_92 mI_X5_find mS_X5_find mN_X5 mK_X5_find) (by decide +kernel) rfl rfl ⟨by decide, by decide⟩ 0 5 rfl rfl rfl (Nat.le_of_ble_eq_true rfl) dX5_put_7 rfl ?_
  refine g_aload_n C 0 rfl rfl dX5_put_10 ?_
  refine g_iload_n C 1 rfl rfl dX5_put_11 ?_
  obtain ⟨r4, h3, hf⟩ := bd_some hf
  refine g_callVI C (n := 1) (st := []) (c_X5_placeOf g S2 a1 h3) (tb_wsV _ mM_X5_95 mI_X5_placeOf mS_X5_placeOf mN_X5 mK_X5_placeOf) (by decide +kernel) rfl rfl ⟨by decide, by decide⟩ 0 5 rfl rfl rfl (Nat.le_of_ble_eq_true rfl) dX5_put_12 rfl ?_
  refine g_istore_n C (lv2 := [(3, .int r4), (0, .ref (ax x 30)), (1, .int a1), (2, .int a2)]) rfl (by decide) rfl dX5_put_15 ?_
  refine g_aload_n C 1 rfl rfl dX5_put_16 ?_
  refine g_iload_n C 0 rfl rfl dX5_put_17 ?_
  refine g_iload_n C 2 rfl rfl dX5_put_18 ?_
  obtain ⟨r6, h5, hf⟩ := bd_some hf
  refine g_callVI C (n := 2) (st := []) (c_X5_isAt g S2 r4 a1 h5) (tb_wsV _ mM_X5_98 mI_X5_isAt mS_X5_isAt mN_X5 mK_X5_isAt) (by decide +kernel) rfl rfl ⟨by decide, by decide⟩ 0 5 rfl rfl rfl (Nat.le_of_ble_eq_true rfl) dX5_put_19 rfl ?_
  refine g_istore C (lv2 := [(4, .int r6), (3, .int r4), (0, .ref (ax x 30)), (1, .int a1), (2, .int a2)]) (by decide) rfl dX5_put_22 ?_
  refine g_iload C 0 rfl dX5_put_24 ?_
  refine jn0_elim (GG κ x (cM x S2) 50 [(0, .ref (ax x 30)), (1, .int a1), (2, .int a2), (3, .int r4), (4, .int r6)] []) hf (fun hf => ?_) (fun j7 hj7 hf => ?_)
  · show GG κ x (cM x S2) 50 [(0, .ref (ax x 30)), (1, .int a1), (2, .int a2), (3, .int r4), (4, .int r6)] []
    refine g_aload_n C 0 rfl rfl dX5_put_50 ?_
    refine g_iconst C (v := 0) (by decide) dX5_put_51 ?_
    refine rP_X5_108 C (Or.inl rfl) dX5_put_52 ?_
    refine g_aload_n C 0 rfl rfl dX5_put_55 ?_
    obtain ⟨S9, h8, hf⟩ := bd_some hf
    refine g_callVV C (n := 0) (st := []) (c_X5_touchWay g (up S2 0 19 0) h8) (tb_wsV _ mM_X5_112 mI_X5_touchWay mS_X5_touchWay mN_X5 mK_X5_touchWay) (by decide +kernel) rfl rfl ⟨by decide, by decide⟩ 0 5 rfl rfl rfl (Nat.le_of_ble_eq_true rfl) dX5_put_56 rfl ?_
    refine g_aload_n C 0 rfl rfl dX5_put_59 ?_
    refine rF_X5_25 C dX5_put_60 ?_
    refine g_aload_n C 0 rfl rfl dX5_put_63 ?_
    refine rF_X5_74 C dX5_put_64 ?_
    obtain ⟨h10, hf⟩ := gd_some hf
    refine rL_6 C h10 dX5_put_67 ?_
    refine g_istore C (lv2 := [(5, .int (S9.1 6 (S9.1 0 8).toNatClampNeg)), (0, .ref (ax x 30)), (1, .int a1), (2, .int a2), (3, .int r4), (4, .int r6)]) (by decide) rfl dX5_put_68 ?_
    refine g_aload_n C 1 rfl rfl dX5_put_70 ?_
    refine g_iload C 0 rfl dX5_put_71 ?_
    obtain ⟨S12, h11, hf⟩ := bd_some hf
    refine g_callVV C (n := 1) (st := []) (c_X5_change g S9 (S9.1 6 (S9.1 0 8).toNatClampNeg) h11) (tb_wsV _ mM_X5_88 mI_X5_change mS_X5_change mN_X5 mK_X5_change) (by decide +kernel) rfl rfl ⟨by decide, by decide⟩ 0 5 rfl rfl rfl (Nat.le_of_ble_eq_true rfl) dX5_put_73 rfl ?_
    refine g_iload C 5 rfl dX5_put_76 ?_
    refine jn1_elim (fun (S13 : Mem) => GG κ x (cM x S13) 154 [(0, .ref (ax x 30)), (4, .int r6)] []) hf (fun S13 hf => ?_) (fun j14 hj14 hf => ?_)
    · show GG κ x (cM x S13) 154 [(0, .ref (ax x 30)), (4, .int r6)] []
      refine g_aload_n C 0 rfl rfl dX5_put_154 ?_
      obtain ⟨S16, h15, hf⟩ := bd_some hf
      refine g_callVV C (n := 0) (st := []) (c_X5_unpin g S13 h15) (tb_wsV _ mM_X5_121 mI_X5_unpin mS_X5_unpin mN_X5 mK_X5_unpin) (by decide +kernel) rfl rfl ⟨by decide, by decide⟩ 0 5 rfl rfl rfl (Nat.le_of_ble_eq_true rfl) dX5_put_155 rfl ?_
      refine g_iload C 1 rfl dX5_put_158 ?_
      refine g_if_ne C 167 (by decide) dX5_put_160 (fun h17 => ?_) (fun h17 => ?_)
      · rw [if_neg h17] at hf
        refine g_iconst C (v := 0) (by decide) dX5_put_167 ?_
        obtain rfl := Option.some.inj hf
        exact g_iret (hr (Or.inl rfl)) dX5_put_168
      · rw [if_pos h17] at hf
        refine g_iconst C (v := 1) (by decide) dX5_put_163 ?_
        refine g_goto C 168 (by decide) dX5_put_164 ?_
        obtain rfl := Option.some.inj hf
        exact g_iret (hr (Or.inr rfl)) dX5_put_168
    · skip
      refine g_if_eq C 96 (by decide) dX5_put_78 (fun h18 => ?_) (fun h18 => ?_)
      · rw [if_pos h18] at hf
        refine g_aload_n C 1 rfl rfl dX5_put_96 ?_
        refine g_iload C 0 rfl dX5_put_97 ?_
        refine g_iload_n C 4 rfl rfl dX5_put_99 ?_
        refine g_iload_n C 2 rfl rfl dX5_put_100 ?_
        refine g_iload_n C 3 rfl rfl dX5_put_101 ?_
        obtain ⟨S20, h19, hf⟩ := bd_some hf
        refine g_callVV C (n := 4) (st := []) (c_X5_insert g S12 (S9.1 6 (S9.1 0 8).toNatClampNeg) r4 a1 a2 h19) (tb_wsV _ mM_X5_84 mI_X5_insert mS_X5_insert mN_X5 mK_X5_insert) (by decide +kernel) rfl rfl ⟨by decide, by decide⟩ 0 5 rfl rfl rfl (Nat.le_of_ble_eq_true rfl) dX5_put_102 rfl ?_
        refine g_aload_n C 1 rfl rfl dX5_put_105 ?_
        refine g_dup C rfl dX5_put_106 ?_
        refine rF_X5_115 C dX5_put_107 ?_
        refine g_iconst C (v := 1) (by decide) dX5_put_110 ?_
        refine g_iadd C dX5_put_111 ?_
        refine rP_X5_115 C dX5_put_112 ?_
        refine g_aload_n C 1 rfl rfl dX5_put_115 ?_
        refine rF_X5_74 C dX5_put_116 ?_
        refine g_istore C (lv2 := [(6, .int ((up S20 0 7 ((S20.1 0 7) + 1)).1 0 8)), (5, .int (S9.1 6 (S9.1 0 8).toNatClampNeg)), (0, .ref (ax x 30)), (1, .int a1), (2, .int a2), (3, .int r4), (4, .int r6)]) (by decide) rfl dX5_put_119 ?_
        refine g_sub [2, 6, 0] rfl ?_
        refine lp_X5_put_121 C hr g r6 _ (fun S27 hf => ?_) g (up S20 0 7 ((S20.1 0 7) + 1)) ((up S20 0 7 ((S20.1 0 7) + 1)).1 0 8) hf
        refine g_sub [0, 1] rfl ?_
        exact hj14 S27 hf
      · rw [if_neg h18] at hf
        refine g_aload_n C 1 rfl rfl dX5_put_81 ?_
        refine rF_X5_19 C dX5_put_82 ?_
        refine g_iconst C (v := 5) (by decide) dX5_put_85 ?_
        refine g_iload C 0 rfl dX5_put_86 ?_
        refine g_imul C dX5_put_88 ?_
        refine g_iload_n C 4 rfl rfl dX5_put_89 ?_
        refine g_iadd C dX5_put_90 ?_
        refine g_iload_n C 3 rfl rfl dX5_put_91 ?_
        obtain ⟨h28, hf⟩ := gd_some hf
        refine rS_4 C h28 dX5_put_92 ?_
        refine g_goto C 154 (by decide) dX5_put_93 ?_
        refine g_sub [1, 5] rfl ?_
        exact hj14 (up S12 4 ((5 * (S9.1 6 (S9.1 0 8).toNatClampNeg)) + r4).toNatClampNeg a2) hf
  · skip
    refine g_if_ne C 50 (by decide) dX5_put_26 (fun h29 => ?_) (fun h29 => ?_)
    · rw [if_neg h29] at hf
      refine g_sub [2, 3, 4, 1, 0] rfl ?_
      exact hj7 hf
    · rw [if_pos h29] at hf
      refine g_aload_n C 2 rfl rfl dX5_put_29 ?_
      obtain ⟨r31, h30, hf⟩ := bd_some hf
      refine g_callVI C (n := 0) (st := []) (c_X5_pagesInUse g S2 h30) (tb_wsV _ mM_X5_102 mI_X5_pagesInUse mS_X5_pagesInUse mN_X5 mK_X5_pagesInUse) (by decide +kernel) rfl rfl ⟨by decide, by decide⟩ 0 5 rfl rfl rfl (Nat.le_of_ble_eq_true rfl) dX5_put_30 rfl ?_
      refine g_aload_n C 2 rfl rfl dX5_put_33 ?_
      obtain ⟨r33, h32, hf⟩ := bd_some hf
      refine g_callVI C (n := 0) (st := [.int r31]) (c_X5_wanted g S2 h32) (tb_wsV _ mM_X5_105 mI_X5_wanted mS_X5_wanted mN_X5 mK_X5_wanted) (by decide +kernel) rfl rfl ⟨by decide, by decide⟩ 0 5 rfl rfl rfl (Nat.le_of_ble_eq_true rfl) dX5_put_34 rfl ?_
      refine g_iadd C dX5_put_37 ?_
      refine g_bipush C (v := 40) (by decide) dX5_put_38 ?_
      refine g_icmp_le C 50 (by decide) dX5_put_40 (fun h34 => ?_) (fun h34 => ?_)
      · rw [if_pos h34] at hf
        refine g_sub [2, 3, 4, 1, 0] rfl ?_
        exact hj7 hf
      · rw [if_neg h34] at hf
        refine g_aload_n C 2 rfl rfl dX5_put_43 ?_
        refine g_iconst C (v := 1) (by decide) dX5_put_44 ?_
        refine rP_X5_44 C dX5_put_45 ?_
        refine g_iconst C (v := 0) (by decide) dX5_put_48 ?_
        obtain rfl := Option.some.inj hf
        exact g_iret (hr (Or.inl rfl)) dX5_put_49
def f_X5_get (g : Nat) (S : Mem) (a1 : Int32) : Option (Int32 × Mem) := bd (f_X5_find g S a1) (fun S2 => bd (f_X5_placeOf g S2 a1) (fun r4 => bd (f_X5_isAt g S2 r4 a1) (fun r6 => jn1 (fun (t7 : Int32) => if ((up S2 0 0 t7).1 0 0) ≤ 0 then (bd (f_X5_touchWay g (up S2 0 0 t7)) (fun S11 => bd (f_X5_unpin g S11) (fun S13 => gd (ix_in (S13.1 0 8) 50) (gd (ix_in ((5 * (S13.1 6 (S13.1 0 8).toNatClampNeg)) + r4) 200) (some (S13.1 4 ((5 * (S13.1 6 (S13.1 0 8).toNatClampNeg)) + r4).toNatClampNeg, S13)))))) else (some (0, (up S2 0 0 t7)))) (fun j8 => if r6 = 0 then (j8 1) else (j8 0)))))
abbrev rmX5_get : Room := { frames := 4, cells := 0, slots := 0, locals := 85 }
set_option maxHeartbeats 4000000 in
set_option maxRecDepth 100000 in
theorem c_X5_get {l : Launch} {x : Ad} (g : Nat) (S : Mem) (a1 : Int32) {z : Int32 × Mem} (hf : f_X5_get g S a1 = some z) : MI l x yX5_get kX5_get rmX5_get [.ref (ax x 30), .int a1] (cM x S) z.1 (cM x z.2) := by
  refine met_I RX5 (by decide +kernel) rfl (Nat.le_of_ble_eq_true rfl) [(0, .ref (ax x 30)), (1, .int a1)] rfl ?_
  intro κ hl C hr
  subst hl
  rw [f_X5_get] at hf
  refine g_aload_n C 0 rfl rfl dX5_get_0 ?_
  refine g_iload_n C 1 rfl rfl dX5_get_1 ?_
  obtain ⟨S2, h1, hf⟩ := bd_some hf
  refine g_callVV C (n := 1) (st := []) (c_X5_find g S a1 h1) (tb_wsV _ mM_X5_92 mI_X5_find mS_X5_find mN_X5 mK_X5_find) (by decide +kernel) rfl rfl ⟨by decide, by decide⟩ 0 5 rfl rfl rfl (Nat.le_of_ble_eq_true rfl) dX5_get_2 rfl ?_
  refine g_aload_n C 0 rfl rfl dX5_get_5 ?_
  refine g_iload_n C 1 rfl rfl dX5_get_6 ?_
  obtain ⟨r4, h3, hf⟩ := bd_some hf
  refine g_callVI C (n := 1) (st := []) (c_X5_placeOf g S2 a1 h3) (tb_wsV _ mM_X5_95 mI_X5_placeOf mS_X5_placeOf mN_X5 mK_X5_placeOf) (by decide +kernel) rfl rfl ⟨by decide, by decide⟩ 0 5 rfl rfl rfl (Nat.le_of_ble_eq_true rfl) dX5_get_7 rfl ?_
  refine g_istore_n C (lv2 := [(2, .int r4), (0, .ref (ax x 30)), (1, .int a1)]) rfl (by decide) rfl dX5_get_10 ?_
  refine g_aload_n C 1 rfl rfl dX5_get_11 ?_
  refine g_aload_n C 1 rfl rfl dX5_get_12 ?_
  refine g_iload_n C 0 rfl rfl dX5_get_13 ?_
  refine g_iload_n C 2 rfl rfl dX5_get_14 ?_
  obtain ⟨r6, h5, hf⟩ := bd_some hf
  refine g_callVI C (n := 2) (st := [.ref (ax x 30)]) (c_X5_isAt g S2 r4 a1 h5) (tb_wsV _ mM_X5_98 mI_X5_isAt mS_X5_isAt mN_X5 mK_X5_isAt) (by decide +kernel) rfl rfl ⟨by decide, by decide⟩ 0 5 rfl rfl rfl (Nat.le_of_ble_eq_true rfl) dX5_get_15 rfl ?_
  refine jn1_elim (fun (t7 : Int32) => GG κ x (cM x S2) 26 [(0, .ref (ax x 30)), (2, .int r4)] [.int t7, .ref (ax x 30)]) hf (fun t7 hf => ?_) (fun j8 hj8 hf => ?_)
  · show GG κ x (cM x S2) 26 [(0, .ref (ax x 30)), (2, .int r4)] [.int t7, .ref (ax x 30)]
    refine rP_X5_44 C dX5_get_26 ?_
    refine g_aload_n C 0 rfl rfl dX5_get_29 ?_
    refine rF_X5_44 C dX5_get_30 ?_
    refine g_if_le C 38 (by decide) dX5_get_33 (fun h9 => ?_) (fun h9 => ?_)
    · rw [if_pos h9] at hf
      refine g_aload_n C 0 rfl rfl dX5_get_38 ?_
      obtain ⟨S11, h10, hf⟩ := bd_some hf
      refine g_callVV C (n := 0) (st := []) (c_X5_touchWay g (up S2 0 0 t7) h10) (tb_wsV _ mM_X5_112 mI_X5_touchWay mS_X5_touchWay mN_X5 mK_X5_touchWay) (by decide +kernel) rfl rfl ⟨by decide, by decide⟩ 0 5 rfl rfl rfl (Nat.le_of_ble_eq_true rfl) dX5_get_39 rfl ?_
      refine g_aload_n C 0 rfl rfl dX5_get_42 ?_
      obtain ⟨S13, h12, hf⟩ := bd_some hf
      refine g_callVV C (n := 0) (st := []) (c_X5_unpin g S11 h12) (tb_wsV _ mM_X5_121 mI_X5_unpin mS_X5_unpin mN_X5 mK_X5_unpin) (by decide +kernel) rfl rfl ⟨by decide, by decide⟩ 0 5 rfl rfl rfl (Nat.le_of_ble_eq_true rfl) dX5_get_43 rfl ?_
      refine g_aload_n C 0 rfl rfl dX5_get_46 ?_
      refine rF_X5_19 C dX5_get_47 ?_
      refine g_iconst C (v := 5) (by decide) dX5_get_50 ?_
      refine g_aload_n C 0 rfl rfl dX5_get_51 ?_
      refine rF_X5_25 C dX5_get_52 ?_
      refine g_aload_n C 0 rfl rfl dX5_get_55 ?_
      refine rF_X5_74 C dX5_get_56 ?_
      obtain ⟨h14, hf⟩ := gd_some hf
      refine rL_6 C h14 dX5_get_59 ?_
      refine g_imul C dX5_get_60 ?_
      refine g_iload_n C 1 rfl rfl dX5_get_61 ?_
      refine g_iadd C dX5_get_62 ?_
      obtain ⟨h15, hf⟩ := gd_some hf
      refine rL_4 C h15 dX5_get_63 ?_
      obtain rfl := Option.some.inj hf
      exact g_iret hr dX5_get_64
    · rw [if_neg h9] at hf
      refine g_iconst C (v := 0) (by decide) dX5_get_36 ?_
      obtain rfl := Option.some.inj hf
      exact g_iret hr dX5_get_37
  · skip
    refine g_if_eq C 25 (by decide) dX5_get_18 (fun h16 => ?_) (fun h16 => ?_)
    · rw [if_pos h16] at hf
      refine g_iconst C (v := 1) (by decide) dX5_get_25 ?_
      refine g_sub [1, 0] rfl ?_
      exact hj8 1 hf
    · rw [if_neg h16] at hf
      refine g_iconst C (v := 0) (by decide) dX5_get_21 ?_
      refine g_goto C 26 (by decide) dX5_get_22 ?_
      refine g_sub [1, 0] rfl ?_
      exact hj8 0 hf
