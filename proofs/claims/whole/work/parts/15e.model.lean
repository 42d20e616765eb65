def f_X5_mend (g : Nat) (S : Mem) (a1 : Int32) : Option (Mem) := gd (ix_in (a1 - 1) 50) (gd (ix_in a1 50) (jn1 (fun (t3 : Int32) => gd (ix_in (S.1 6 (a1 - 1).toNatClampNeg) 40) (jn1 (fun (t6 : Int32) => jn1 (fun (S8 : Mem) => jn1 (fun (S10 : Mem) => jn1 (fun (t12 : Int32) => bd (f_X5_join g S10 (S.1 6 (a1 - 1).toNatClampNeg) t12) (fun S15 => some S15)) (fun j13 => if t3 = 0 then (j13 (S.1 7 a1.toNatClampNeg)) else (j13 ((S.1 7 a1.toNatClampNeg) - 1)))) (fun j11 => if t6 = 0 then (j11 S8) else (gd (ix_in (((5 * (S.1 6 (a1 - 1).toNatClampNeg)) + (S.1 7 a1.toNatClampNeg)) + 1) 200) (bd (f_X5_touch g S8 (S8.1 4 (((5 * (S.1 6 (a1 - 1).toNatClampNeg)) + (S.1 7 a1.toNatClampNeg)) + 1).toNatClampNeg) 0) (fun S20 => gd (ix_in (S8.1 4 (((5 * (S.1 6 (a1 - 1).toNatClampNeg)) + (S.1 7 a1.toNatClampNeg)) + 1).toNatClampNeg) 40) (if (S20.1 2 (S8.1 4 (((5 * (S.1 6 (a1 - 1).toNatClampNeg)) + (S.1 7 a1.toNatClampNeg)) + 1).toNatClampNeg).toNatClampNeg) ≤ 2 then (j11 S20) else (bd (f_X5_give g S20 (S.1 6 (a1 - 1).toNatClampNeg) (S.1 7 a1.toNatClampNeg) 0) (fun S24 => some S24)))))))) (fun j9 => if t3 = 0 then (j9 S) else (gd (ix_in (((5 * (S.1 6 (a1 - 1).toNatClampNeg)) + (S.1 7 a1.toNatClampNeg)) - 1) 200) (bd (f_X5_touch g S (S.1 4 (((5 * (S.1 6 (a1 - 1).toNatClampNeg)) + (S.1 7 a1.toNatClampNeg)) - 1).toNatClampNeg) 0) (fun S28 => gd (ix_in (S.1 4 (((5 * (S.1 6 (a1 - 1).toNatClampNeg)) + (S.1 7 a1.toNatClampNeg)) - 1).toNatClampNeg) 40) (if (S28.1 2 (S.1 4 (((5 * (S.1 6 (a1 - 1).toNatClampNeg)) + (S.1 7 a1.toNatClampNeg)) - 1).toNatClampNeg).toNatClampNeg) ≤ 2 then (j9 S28) else (bd (f_X5_give g S28 (S.1 6 (a1 - 1).toNatClampNeg) ((S.1 7 a1.toNatClampNeg) - 1) 1) (fun S32 => some S32)))))))) (fun j7 => if (S.1 2 (S.1 6 (a1 - 1).toNatClampNeg).toNatClampNeg) ≤ ((S.1 7 a1.toNatClampNeg) + 1) then (j7 0) else (j7 1)))) (fun j4 => if (S.1 7 a1.toNatClampNeg) ≤ 0 then (j4 0) else (j4 1))))
abbrev rmX5_mend : Room := { frames := 3, cells := 0, slots := 0, locals := 73 }
set_option maxHeartbeats 4000000 in
set_option maxRecDepth 100000 in
theorem c_X5_mend {l : Launch} {x : Ad} (g : Nat) (S : Mem) (a1 : Int32) {z : Mem} (hf : f_X5_mend g S a1 = some z) : MV l x yX5_mend kX5_mend rmX5_mend [.ref (ax x 30), .int a1] (cM x S) (cM x z) := by
  refine met_V RX5 (by decide +kernel) rfl (Nat.le_of_ble_eq_true rfl) [(0, .ref (ax x 30)), (1, .int a1)] rfl ?_
  intro κ hl C hr
  subst hl
  rw [f_X5_mend] at hf
  refine g_aload_n C 0 rfl rfl dX5_mend_0 ?_
  refine rF_X5_25 C dX5_mend_1 ?_
  refine g_iload_n C 1 rfl rfl dX5_mend_4 ?_
  refine g_iconst C (v := 1) (by decide) dX5_mend_5 ?_
  refine g_isub C dX5_mend_6 ?_
  obtain ⟨h1, hf⟩ := gd_some hf
  refine rL_6 C h1 dX5_mend_7 ?_
  refine g_istore_n C (lv2 := [(2, .int (S.1 6 (a1 - 1).toNatClampNeg)), (0, .ref (ax x 30)), (1, .int a1)]) rfl (by decide) rfl dX5_mend_8 ?_
  refine g_aload_n C 1 rfl rfl dX5_mend_9 ?_
  refine rF_X5_28 C dX5_mend_10 ?_
  refine g_iload_n C 2 rfl rfl dX5_mend_13 ?_
  obtain ⟨h2, hf⟩ := gd_some hf
  refine rL_7 C h2 dX5_mend_14 ?_
  refine g_istore_n C (lv2 := [(3, .int (S.1 7 a1.toNatClampNeg)), (2, .int (S.1 6 (a1 - 1).toNatClampNeg)), (0, .ref (ax x 30)), (1, .int a1)]) rfl (by decide) rfl dX5_mend_15 ?_
  refine g_iload_n C 0 rfl rfl dX5_mend_16 ?_
  refine jn1_elim (fun (t3 : Int32) => GG κ x (cM x S) 25 [(0, .ref (ax x 30)), (2, .int (S.1 6 (a1 - 1).toNatClampNeg)), (3, .int (S.1 7 a1.toNatClampNeg))] [.int t3]) hf (fun t3 hf => ?_) (fun j4 hj4 hf => ?_)
  · show GG κ x (cM x S) 25 [(0, .ref (ax x 30)), (2, .int (S.1 6 (a1 - 1).toNatClampNeg)), (3, .int (S.1 7 a1.toNatClampNeg))] [.int t3]
    refine g_istore C (lv2 := [(4, .int t3), (0, .ref (ax x 30)), (2, .int (S.1 6 (a1 - 1).toNatClampNeg)), (3, .int (S.1 7 a1.toNatClampNeg))]) (by decide) rfl dX5_mend_25 ?_
    refine g_iload_n C 3 rfl rfl dX5_mend_27 ?_
    refine g_iconst C (v := 1) (by decide) dX5_mend_28 ?_
    refine g_iadd C dX5_mend_29 ?_
    refine g_aload_n C 1 rfl rfl dX5_mend_30 ?_
    refine rF_X5_13 C dX5_mend_31 ?_
    refine g_iload_n C 2 rfl rfl dX5_mend_34 ?_
    obtain ⟨h5, hf⟩ := gd_some hf
    refine rL_2 C h5 dX5_mend_35 ?_
    refine jn1_elim (fun (t6 : Int32) => GG κ x (cM x S) 44 [(0, .ref (ax x 30)), (2, .int (S.1 6 (a1 - 1).toNatClampNeg)), (3, .int (S.1 7 a1.toNatClampNeg)), (4, .int t3)] [.int t6]) hf (fun t6 hf => ?_) (fun j7 hj7 hf => ?_)
    · show GG κ x (cM x S) 44 [(0, .ref (ax x 30)), (2, .int (S.1 6 (a1 - 1).toNatClampNeg)), (3, .int (S.1 7 a1.toNatClampNeg)), (4, .int t3)] [.int t6]
      refine g_istore C (lv2 := [(5, .int t6), (0, .ref (ax x 30)), (2, .int (S.1 6 (a1 - 1).toNatClampNeg)), (3, .int (S.1 7 a1.toNatClampNeg)), (4, .int t3)]) (by decide) rfl dX5_mend_44 ?_
      refine g_iload C 4 rfl dX5_mend_46 ?_
      refine jn1_elim (fun (S8 : Mem) => GG κ x (cM x S8) 93 [(0, .ref (ax x 30)), (2, .int (S.1 6 (a1 - 1).toNatClampNeg)), (3, .int (S.1 7 a1.toNatClampNeg)), (4, .int t3), (5, .int t6)] []) hf (fun S8 hf => ?_) (fun j9 hj9 hf => ?_)
      · show GG κ x (cM x S8) 93 [(0, .ref (ax x 30)), (2, .int (S.1 6 (a1 - 1).toNatClampNeg)), (3, .int (S.1 7 a1.toNatClampNeg)), (4, .int t3), (5, .int t6)] []
        refine g_iload C 4 rfl dX5_mend_93 ?_
        refine jn1_elim (fun (S10 : Mem) => GG κ x (cM x S10) 138 [(0, .ref (ax x 30)), (2, .int (S.1 6 (a1 - 1).toNatClampNeg)), (3, .int (S.1 7 a1.toNatClampNeg)), (4, .int t3)] []) hf (fun S10 hf => ?_) (fun j11 hj11 hf => ?_)
        · show GG κ x (cM x S10) 138 [(0, .ref (ax x 30)), (2, .int (S.1 6 (a1 - 1).toNatClampNeg)), (3, .int (S.1 7 a1.toNatClampNeg)), (4, .int t3)] []
          refine g_aload_n C 0 rfl rfl dX5_mend_138 ?_
          refine g_iload_n C 1 rfl rfl dX5_mend_139 ?_
          refine g_iload C 3 rfl dX5_mend_140 ?_
          refine jn1_elim (fun (t12 : Int32) => GG κ x (cM x S10) 152 [] [.int t12, .int (S.1 6 (a1 - 1).toNatClampNeg), .ref (ax x 30)]) hf (fun t12 hf => ?_) (fun j13 hj13 hf => ?_)
          · show GG κ x (cM x S10) 152 [] [.int t12, .int (S.1 6 (a1 - 1).toNatClampNeg), .ref (ax x 30)]
            obtain ⟨S15, h14, hf⟩ := bd_some hf
            refine g_callVV C (n := 2) (st := []) (c_X5_join g S10 (S.1 6 (a1 - 1).toNatClampNeg) t12 h14) (tb_wsV _ mM_X5_135 mI_X5_join mS_X5_join mN_X5 mK_X5_join) (by decide +kernel) rfl rfl ⟨by decide, by decide⟩ 0 5 rfl rfl rfl (Nat.le_of_ble_eq_true rfl) dX5_mend_152 rfl ?_
            obtain rfl := Option.some.inj hf
            exact g_vret hr dX5_mend_155
          · skip
            refine g_if_eq C 151 (by decide) dX5_mend_142 (fun h16 => ?_) (fun h16 => ?_)
            · rw [if_pos h16] at hf
              refine g_iload_n C 2 rfl rfl dX5_mend_151 ?_
              refine g_sub [] rfl ?_
              exact hj13 (S.1 7 a1.toNatClampNeg) hf
            · rw [if_neg h16] at hf
              refine g_iload_n C 2 rfl rfl dX5_mend_145 ?_
              refine g_iconst C (v := 1) (by decide) dX5_mend_146 ?_
              refine g_isub C dX5_mend_147 ?_
              refine g_goto C 152 (by decide) dX5_mend_148 ?_
              refine g_sub [] rfl ?_
              exact hj13 ((S.1 7 a1.toNatClampNeg) - 1) hf
        · skip
          refine g_if_eq C 138 (by decide) dX5_mend_95 (fun h17 => ?_) (fun h17 => ?_)
          · rw [if_pos h17] at hf
            refine g_sub [0, 1, 2, 3] rfl ?_
            exact hj11 S8 hf
          · rw [if_neg h17] at hf
            refine g_aload_n C 0 rfl rfl dX5_mend_98 ?_
            refine rF_X5_19 C dX5_mend_99 ?_
            refine g_iconst C (v := 5) (by decide) dX5_mend_102 ?_
            refine g_iload_n C 1 rfl rfl dX5_mend_103 ?_
            refine g_imul C dX5_mend_104 ?_
            refine g_iload_n C 2 rfl rfl dX5_mend_105 ?_
            refine g_iadd C dX5_mend_106 ?_
            refine g_iconst C (v := 1) (by decide) dX5_mend_107 ?_
            refine g_iadd C dX5_mend_108 ?_
            obtain ⟨h18, hf⟩ := gd_some hf
            refine rL_4 C h18 dX5_mend_109 ?_
            refine g_istore C (lv2 := [(6, .int (S8.1 4 (((5 * (S.1 6 (a1 - 1).toNatClampNeg)) + (S.1 7 a1.toNatClampNeg)) + 1).toNatClampNeg)), (0, .ref (ax x 30)), (2, .int (S.1 6 (a1 - 1).toNatClampNeg)), (3, .int (S.1 7 a1.toNatClampNeg)), (4, .int t3), (5, .int t6)]) (by decide) rfl dX5_mend_110 ?_
            refine g_aload_n C 1 rfl rfl dX5_mend_112 ?_
            refine g_iload C 0 rfl dX5_mend_113 ?_
            refine g_iconst C (v := 0) (by decide) dX5_mend_115 ?_
            obtain ⟨S20, h19, hf⟩ := bd_some hf
            refine g_callVV C (n := 2) (st := []) (c_X5_touch g S8 (S8.1 4 (((5 * (S.1 6 (a1 - 1).toNatClampNeg)) + (S.1 7 a1.toNatClampNeg)) + 1).toNatClampNeg) 0 h19) (tb_wsV _ mM_X5_77 mI_X5_touch mS_X5_touch mN_X5 mK_X5_touch) (by decide +kernel) rfl rfl ⟨by decide, by decide⟩ 0 5 rfl rfl rfl (Nat.le_of_ble_eq_true rfl) dX5_mend_116 rfl ?_
            refine g_aload_n C 1 rfl rfl dX5_mend_119 ?_
            refine rF_X5_13 C dX5_mend_120 ?_
            refine g_iload C 0 rfl dX5_mend_123 ?_
            obtain ⟨h21, hf⟩ := gd_some hf
            refine rL_2 C h21 dX5_mend_125 ?_
            refine g_iconst C (v := 2) (by decide) dX5_mend_126 ?_
            refine g_icmp_le C 138 (by decide) dX5_mend_127 (fun h22 => ?_) (fun h22 => ?_)
            · rw [if_pos h22] at hf
              refine g_sub [1, 2, 3, 4] rfl ?_
              exact hj11 S20 hf
            · rw [if_neg h22] at hf
              refine g_aload_n C 1 rfl rfl dX5_mend_130 ?_
              refine g_iload_n C 2 rfl rfl dX5_mend_131 ?_
              refine g_iload_n C 3 rfl rfl dX5_mend_132 ?_
              refine g_iconst C (v := 0) (by decide) dX5_mend_133 ?_
              obtain ⟨S24, h23, hf⟩ := bd_some hf
              refine g_callVV C (n := 3) (st := []) (c_X5_give g S20 (S.1 6 (a1 - 1).toNatClampNeg) (S.1 7 a1.toNatClampNeg) 0 h23) (tb_wsV _ mM_X5_131 mI_X5_give mS_X5_give mN_X5 mK_X5_give) (by decide +kernel) rfl rfl ⟨by decide, by decide⟩ 0 5 rfl rfl rfl (Nat.le_of_ble_eq_true rfl) dX5_mend_134 rfl ?_
              obtain rfl := Option.some.inj hf
              exact g_vret hr dX5_mend_137
      · skip
        refine g_if_eq C 93 (by decide) dX5_mend_48 (fun h25 => ?_) (fun h25 => ?_)
        · rw [if_pos h25] at hf
          refine g_sub [1, 2, 3, 4, 0] rfl ?_
          exact hj9 S hf
        · rw [if_neg h25] at hf
          refine g_aload_n C 1 rfl rfl dX5_mend_51 ?_
          refine rF_X5_19 C dX5_mend_52 ?_
          refine g_iconst C (v := 5) (by decide) dX5_mend_55 ?_
          refine g_iload_n C 2 rfl rfl dX5_mend_56 ?_
          refine g_imul C dX5_mend_57 ?_
          refine g_iload_n C 3 rfl rfl dX5_mend_58 ?_
          refine g_iadd C dX5_mend_59 ?_
          refine g_iconst C (v := 1) (by decide) dX5_mend_60 ?_
          refine g_isub C dX5_mend_61 ?_
          obtain ⟨h26, hf⟩ := gd_some hf
          refine rL_4 C h26 dX5_mend_62 ?_
          refine g_istore C (lv2 := [(6, .int (S.1 4 (((5 * (S.1 6 (a1 - 1).toNatClampNeg)) + (S.1 7 a1.toNatClampNeg)) - 1).toNatClampNeg)), (5, .int t6), (0, .ref (ax x 30)), (2, .int (S.1 6 (a1 - 1).toNatClampNeg)), (3, .int (S.1 7 a1.toNatClampNeg)), (4, .int t3)]) (by decide) rfl dX5_mend_63 ?_
          refine g_aload_n C 2 rfl rfl dX5_mend_65 ?_
          refine g_iload C 0 rfl dX5_mend_66 ?_
          refine g_iconst C (v := 0) (by decide) dX5_mend_68 ?_
          obtain ⟨S28, h27, hf⟩ := bd_some hf
          refine g_callVV C (n := 2) (st := []) (c_X5_touch g S (S.1 4 (((5 * (S.1 6 (a1 - 1).toNatClampNeg)) + (S.1 7 a1.toNatClampNeg)) - 1).toNatClampNeg) 0 h27) (tb_wsV _ mM_X5_77 mI_X5_touch mS_X5_touch mN_X5 mK_X5_touch) (by decide +kernel) rfl rfl ⟨by decide, by decide⟩ 0 5 rfl rfl rfl (Nat.le_of_ble_eq_true rfl) dX5_mend_69 rfl ?_
          refine g_aload_n C 2 rfl rfl dX5_mend_72 ?_
          refine rF_X5_13 C dX5_mend_73 ?_
          refine g_iload C 0 rfl dX5_mend_76 ?_
          obtain ⟨h29, hf⟩ := gd_some hf
          refine rL_2 C h29 dX5_mend_78 ?_
          refine g_iconst C (v := 2) (by decide) dX5_mend_79 ?_
          refine g_icmp_le C 93 (by decide) dX5_mend_80 (fun h30 => ?_) (fun h30 => ?_)
          · rw [if_pos h30] at hf
            refine g_sub [2, 3, 4, 5, 1] rfl ?_
            exact hj9 S28 hf
          · rw [if_neg h30] at hf
            refine g_aload_n C 2 rfl rfl dX5_mend_83 ?_
            refine g_iload_n C 3 rfl rfl dX5_mend_84 ?_
            refine g_iload_n C 4 rfl rfl dX5_mend_85 ?_
            refine g_iconst C (v := 1) (by decide) dX5_mend_86 ?_
            refine g_isub C dX5_mend_87 ?_
            refine g_iconst C (v := 1) (by decide) dX5_mend_88 ?_
            obtain ⟨S32, h31, hf⟩ := bd_some hf
            refine g_callVV C (n := 3) (st := []) (c_X5_give g S28 (S.1 6 (a1 - 1).toNatClampNeg) ((S.1 7 a1.toNatClampNeg) - 1) 1 h31) (tb_wsV _ mM_X5_131 mI_X5_give mS_X5_give mN_X5 mK_X5_give) (by decide +kernel) rfl rfl ⟨by decide, by decide⟩ 0 5 rfl rfl rfl (Nat.le_of_ble_eq_true rfl) dX5_mend_89 rfl ?_
            obtain rfl := Option.some.inj hf
            exact g_vret hr dX5_mend_92
    · skip
      refine g_icmp_ge C 43 (by decide) dX5_mend_36 (fun h33 => ?_) (fun h33 => ?_)
      · rw [if_pos h33] at hf
        refine g_iconst C (v := 0) (by decide) dX5_mend_43 ?_
        refine g_sub [1, 2, 3, 0] rfl ?_
        exact hj7 0 hf
      · rw [if_neg h33] at hf
        refine g_iconst C (v := 1) (by decide) dX5_mend_39 ?_
        refine g_goto C 44 (by decide) dX5_mend_40 ?_
        refine g_sub [1, 2, 3, 0] rfl ?_
        exact hj7 1 hf
  · skip
    refine g_if_le C 24 (by decide) dX5_mend_17 (fun h34 => ?_) (fun h34 => ?_)
    · rw [if_pos h34] at hf
      refine g_iconst C (v := 0) (by decide) dX5_mend_24 ?_
      refine g_sub [2, 1, 0] rfl ?_
      exact hj4 0 hf
    · rw [if_neg h34] at hf
      refine g_iconst C (v := 1) (by decide) dX5_mend_20 ?_
      refine g_goto C 25 (by decide) dX5_mend_21 ?_
      refine g_sub [2, 1, 0] rfl ?_
      exact hj4 1 hf
def f_X5_remove_79 (g : Nat) (w3 : Int32) (kx : Mem → Option (Int32 × Mem)) : Nat → Mem → Int32 → Option (Int32 × Mem)
  | 0, _, _ => none
  | n + 1, S, w4 => if w4 ≤ 0 then (kx S) else (gd (ix_in w4 50) (gd (ix_in (S.1 6 w4.toNatClampNeg) 40) (if 2 ≤ (S.1 2 (S.1 6 w4.toNatClampNeg).toNatClampNeg) then (kx S) else (bd (f_X5_mend g S w4) (fun S26 => f_X5_remove_79 g w3 kx n S26 (w4 + (-1)))))))
def f_X5_remove (g : Nat) (S : Mem) (a1 : Int32) : Option (Int32 × Mem) := bd (f_X5_find g (up (up S 0 0 0) 0 19 0) a1) (fun S2 => bd (f_X5_touchWay g S2) (fun S4 => bd (f_X5_placeOf g S4 a1) (fun r6 => bd (f_X5_isAt g S4 r6 a1) (fun r8 => jn1 (fun (S9 : Mem) => bd (f_X5_unpin g S9) (fun S12 => gd (iz r8) (some (r8, S12)))) (fun j10 => if r8 = 0 then (j10 S4) else (gd (ix_in (S4.1 0 8) 50) (bd (f_X5_removeAt g S4 (S4.1 6 (S4.1 0 8).toNatClampNeg) r6) (fun S17 => gd (ix_in (S17.1 0 8) 50) (bd (f_X5_change g S17 (S17.1 6 (S17.1 0 8).toNatClampNeg)) (fun S20 => f_X5_remove_79 g r8 (fun (S27 : Mem) => gd (ix_in (S27.1 0 6) 40) (if (S27.1 1 (S27.1 0 6).toNatClampNeg) = 2 then (gd (ix_in (S27.1 0 6) 40) (if (S27.1 2 (S27.1 0 6).toNatClampNeg) = 1 then (gd (ix_in (5 * (S27.1 0 6)) 200) (bd (f_X5_release g (up S27 0 6 (S27.1 4 (5 * (S27.1 0 6)).toNatClampNeg)) (S27.1 0 6)) (fun S34 => j10 S34))) else (j10 S27))) else (j10 S27))) g (up S20 0 7 ((S20.1 0 7) - 1)) ((up S20 0 7 ((S20.1 0 7) - 1)).1 0 8)))))))))))
abbrev rmX5_remove : Room := { frames := 4, cells := 0, slots := 0, locals := 99 }
set_option maxHeartbeats 4000000 in
set_option maxRecDepth 100000 in
theorem lp_X5_remove_79 {κ : Kx} {x : Ad} (C : Cx κ x cX5_remove RX5 kX5_remove rmX5_remove 5) {z : Int32 × Mem} (hr : iz z.1 → RI κ x cX5_remove (cM x z.2) z.1) (g : Nat) (w3 : Int32) (kx : Mem → Option (Int32 × Mem)) (hk : ∀ (S1 : Mem), kx S1 = some z → GG κ x (cM x S1) 112 [(0, .ref (ax x 30)), (3, .int w3)] []) : ∀ (n : Nat) (S : Mem) (w4 : Int32), f_X5_remove_79 g w3 kx n S w4 = some z → GG κ x (cM x S) 79 [(0, .ref (ax x 30)), (3, .int w3), (4, .int w4)] [] := by
  intro n
  induction n with
  | zero => intro S w4 hf; cases hf
  | succ n ih =>
    intro S w4 hf
    rw [f_X5_remove_79] at hf
    refine g_iload C 2 rfl dX5_remove_79 ?_
    refine g_if_le C 112 (by decide) dX5_remove_81 (fun h21 => ?_) (fun h21 => ?_)
    · rw [if_pos h21] at hf
      refine g_sub [0, 1] rfl ?_
      exact hk S hf
    · rw [if_neg h21] at hf
      refine g_aload_n C 0 rfl rfl dX5_remove_84 ?_
      refine rF_X5_13 C dX5_remove_85 ?_
      refine g_aload_n C 0 rfl rfl dX5_remove_88 ?_
      refine rF_X5_25 C dX5_remove_89 ?_
      refine g_iload C 2 rfl dX5_remove_92 ?_
      obtain ⟨h22, hf⟩ := gd_some hf
      refine rL_6 C h22 dX5_remove_94 ?_
      obtain ⟨h23, hf⟩ := gd_some hf
      refine rL_2 C h23 dX5_remove_95 ?_
      refine g_iconst C (v := 2) (by decide) dX5_remove_96 ?_
      refine g_icmp_ge C 112 (by decide) dX5_remove_97 (fun h24 => ?_) (fun h24 => ?_)
      · rw [if_pos h24] at hf
        refine g_sub [0, 1] rfl ?_
        exact hk S hf
      · rw [if_neg h24] at hf
        refine g_aload_n C 0 rfl rfl dX5_remove_100 ?_
        refine g_iload C 2 rfl dX5_remove_101 ?_
        obtain ⟨S26, h25, hf⟩ := bd_some hf
        refine g_callVV C (n := 1) (st := []) (c_X5_mend g S w4 h25) (tb_wsV _ mM_X5_138 mI_X5_mend mS_X5_mend mN_X5 mK_X5_mend) (by decide +kernel) rfl rfl ⟨by decide, by decide⟩ 0 5 rfl rfl rfl (Nat.le_of_ble_eq_true rfl) dX5_remove_103 rfl ?_
        refine g_iinc C (v := w4 + (-1)) (lv2 := [(4, .int (w4 + (-1))), (0, .ref (ax x 30)), (3, .int w3)]) 2 rfl (by rw [(by decide : Int32.ofInt (-1) = (-1))]) (by decide) rfl dX5_remove_106 ?_
        refine g_goto C 79 (by decide) dX5_remove_109 ?_
        refine g_sub [1, 2, 0] rfl ?_
        exact ih S26 (w4 + (-1)) hf
set_option maxHeartbeats 4000000 in
set_option maxRecDepth 100000 in
theorem c_X5_remove {l : Launch} {x : Ad} (g : Nat) (S : Mem) (a1 : Int32) {z : Int32 × Mem} (hf : f_X5_remove g S a1 = some z) : MI l x yX5_remove kX5_remove rmX5_remove [.ref (ax x 30), .int a1] (cM x S) z.1 (cM x z.2) := by
  refine met_Z RX5 (by decide +kernel) rfl (Nat.le_of_ble_eq_true rfl) [(0, .ref (ax x 30)), (1, .int a1)] rfl ?_
  intro κ hl C hr
  subst hl
  rw [f_X5_remove] at hf
  refine g_aload_n C 0 rfl rfl dX5_remove_0 ?_
  refine g_iconst C (v := 0) (by decide) dX5_remove_1 ?_
  refine rP_X5_44 C dX5_remove_2 ?_
  refine g_aload_n C 0 rfl rfl dX5_remove_5 ?_
  refine g_iconst C (v := 0) (by decide) dX5_remove_6 ?_
  refine rP_X5_108 C (Or.inl rfl) dX5_remove_7 ?_
  refine g_aload_n C 0 rfl rfl dX5_remove_10 ?_
  refine g_iload_n C 1 rfl rfl dX5_remove_11 ?_
  obtain ⟨S2, h1, hf⟩ := bd_some hf
  refine g_callVV C (n := 1) (st := []) (c_X5_find g (up (up S 0 0 0) 0 19 0) a1 h1) (tb_wsV _ mM_X5_92 mI_X5_find mS_X5_find mN_X5 mK_X5_find) (by decide +kernel) rfl rfl ⟨by decide, by decide⟩ 0 5 rfl rfl rfl (Nat.le_of_ble_eq_true rfl) dX5_remove_12 rfl ?_
  refine g_aload_n C 0 rfl rfl dX5_remove_15 ?_
  obtain ⟨S4, h3, hf⟩ := bd_some hf
  refine g_callVV C (n := 0) (st := []) (c_X5_touchWay g S2 h3) (tb_wsV _ mM_X5_112 mI_X5_touchWay mS_X5_touchWay mN_X5 mK_X5_touchWay) (by decide +kernel) rfl rfl ⟨by decide, by decide⟩ 0 5 rfl rfl rfl (Nat.le_of_ble_eq_true rfl) dX5_remove_16 rfl ?_
  refine g_aload_n C 0 rfl rfl dX5_remove_19 ?_
  refine g_iload_n C 1 rfl rfl dX5_remove_20 ?_
  obtain ⟨r6, h5, hf⟩ := bd_some hf
  refine g_callVI C (n := 1) (st := []) (c_X5_placeOf g S4 a1 h5) (tb_wsV _ mM_X5_95 mI_X5_placeOf mS_X5_placeOf mN_X5 mK_X5_placeOf) (by decide +kernel) rfl rfl ⟨by decide, by decide⟩ 0 5 rfl rfl rfl (Nat.le_of_ble_eq_true rfl) dX5_remove_21 rfl ?_
  refine g_istore_n C (lv2 := [(2, .int r6), (0, .ref (ax x 30)), (1, .int a1)]) rfl (by decide) rfl dX5_remove_24 ?_
  refine g_aload_n C 1 rfl rfl dX5_remove_25 ?_
  refine g_iload_n C 0 rfl rfl dX5_remove_26 ?_
  refine g_iload_n C 2 rfl rfl dX5_remove_27 ?_
  obtain ⟨r8, h7, hf⟩ := bd_some hf
  refine g_callVI C (n := 2) (st := []) (c_X5_isAt g S4 r6 a1 h7) (tb_wsV _ mM_X5_98 mI_X5_isAt mS_X5_isAt mN_X5 mK_X5_isAt) (by decide +kernel) rfl rfl ⟨by decide, by decide⟩ 0 5 rfl rfl rfl (Nat.le_of_ble_eq_true rfl) dX5_remove_28 rfl ?_
  refine g_istore_n C (lv2 := [(3, .int r8), (2, .int r6), (0, .ref (ax x 30)), (1, .int a1)]) rfl (by decide) rfl dX5_remove_31 ?_
  refine g_iload_n C 0 rfl rfl dX5_remove_32 ?_
  refine jn1_elim (fun (S9 : Mem) => GG κ x (cM x S9) 163 [(0, .ref (ax x 30)), (3, .int r8)] []) hf (fun S9 hf => ?_) (fun j10 hj10 hf => ?_)
  · show GG κ x (cM x S9) 163 [(0, .ref (ax x 30)), (3, .int r8)] []
    refine g_aload_n C 0 rfl rfl dX5_remove_163 ?_
    obtain ⟨S12, h11, hf⟩ := bd_some hf
    refine g_callVV C (n := 0) (st := []) (c_X5_unpin g S9 h11) (tb_wsV _ mM_X5_121 mI_X5_unpin mS_X5_unpin mN_X5 mK_X5_unpin) (by decide +kernel) rfl rfl ⟨by decide, by decide⟩ 0 5 rfl rfl rfl (Nat.le_of_ble_eq_true rfl) dX5_remove_164 rfl ?_
    refine g_iload_n C 1 rfl rfl dX5_remove_167 ?_
    obtain ⟨h13, hf⟩ := gd_some hf
    obtain rfl := Option.some.inj hf
    exact g_iret (hr h13) dX5_remove_168
  · skip
    refine g_if_eq C 163 (by decide) dX5_remove_33 (fun h14 => ?_) (fun h14 => ?_)
    · rw [if_pos h14] at hf
      refine g_sub [2, 0] rfl ?_
      exact hj10 S4 hf
    · rw [if_neg h14] at hf
      refine g_aload_n C 2 rfl rfl dX5_remove_36 ?_
      refine g_aload_n C 2 rfl rfl dX5_remove_37 ?_
      refine rF_X5_25 C dX5_remove_38 ?_
      refine g_aload_n C 2 rfl rfl dX5_remove_41 ?_
      refine rF_X5_74 C dX5_remove_42 ?_
      obtain ⟨h15, hf⟩ := gd_some hf
      refine rL_6 C h15 dX5_remove_45 ?_
      refine g_iload_n C 1 rfl rfl dX5_remove_46 ?_
      obtain ⟨S17, h16, hf⟩ := bd_some hf
      refine g_callVV C (n := 2) (st := []) (c_X5_removeAt g S4 (S4.1 6 (S4.1 0 8).toNatClampNeg) r6 h16) (tb_wsV _ mM_X5_124 mI_X5_removeAt mS_X5_removeAt mN_X5 mK_X5_removeAt) (by decide +kernel) rfl rfl ⟨by decide, by decide⟩ 0 5 rfl rfl rfl (Nat.le_of_ble_eq_true rfl) dX5_remove_47 rfl ?_
      refine g_aload_n C 2 rfl rfl dX5_remove_50 ?_
      refine g_aload_n C 2 rfl rfl dX5_remove_51 ?_
      refine rF_X5_25 C dX5_remove_52 ?_
      refine g_aload_n C 2 rfl rfl dX5_remove_55 ?_
      refine rF_X5_74 C dX5_remove_56 ?_
      obtain ⟨h18, hf⟩ := gd_some hf
      refine rL_6 C h18 dX5_remove_59 ?_
      obtain ⟨S20, h19, hf⟩ := bd_some hf
      refine g_callVV C (n := 1) (st := []) (c_X5_change g S17 (S17.1 6 (S17.1 0 8).toNatClampNeg) h19) (tb_wsV _ mM_X5_88 mI_X5_change mS_X5_change mN_X5 mK_X5_change) (by decide +kernel) rfl rfl ⟨by decide, by decide⟩ 0 5 rfl rfl rfl (Nat.le_of_ble_eq_true rfl) dX5_remove_60 rfl ?_
      refine g_aload_n C 2 rfl rfl dX5_remove_63 ?_
      refine g_dup C rfl dX5_remove_64 ?_
      refine rF_X5_115 C dX5_remove_65 ?_
      refine g_iconst C (v := 1) (by decide) dX5_remove_68 ?_
      refine g_isub C dX5_remove_69 ?_
      refine rP_X5_115 C dX5_remove_70 ?_
      refine g_aload_n C 2 rfl rfl dX5_remove_73 ?_
      refine rF_X5_74 C dX5_remove_74 ?_
      refine g_istore C (lv2 := [(4, .int ((up S20 0 7 ((S20.1 0 7) - 1)).1 0 8)), (3, .int r8), (2, .int r6), (0, .ref (ax x 30)), (1, .int a1)]) (by decide) rfl dX5_remove_77 ?_
      refine g_sub [3, 1, 0] rfl ?_
      refine lp_X5_remove_79 C hr g r8 _ (fun S27 hf => ?_) g (up S20 0 7 ((S20.1 0 7) - 1)) ((up S20 0 7 ((S20.1 0 7) - 1)).1 0 8) hf
      refine g_aload_n C 0 rfl rfl dX5_remove_112 ?_
      refine rF_X5_7 C dX5_remove_113 ?_
      refine g_aload_n C 0 rfl rfl dX5_remove_116 ?_
      refine rF_X5_71 C dX5_remove_117 ?_
      obtain ⟨h28, hf⟩ := gd_some hf
      refine rL_1 C h28 dX5_remove_120 ?_
      refine g_iconst C (v := 2) (by decide) dX5_remove_121 ?_
      refine g_icmp_ne C 163 (by decide) dX5_remove_122 (fun h29 => ?_) (fun h29 => ?_)
      · rw [if_neg h29] at hf
        refine g_sub [0, 1] rfl ?_
        exact hj10 S27 hf
      · rw [if_pos h29] at hf
        refine g_aload_n C 0 rfl rfl dX5_remove_125 ?_
        refine rF_X5_13 C dX5_remove_126 ?_
        refine g_aload_n C 0 rfl rfl dX5_remove_129 ?_
        refine rF_X5_71 C dX5_remove_130 ?_
        obtain ⟨h30, hf⟩ := gd_some hf
        refine rL_2 C h30 dX5_remove_133 ?_
        refine g_iconst C (v := 1) (by decide) dX5_remove_134 ?_
        refine g_icmp_ne C 163 (by decide) dX5_remove_135 (fun h31 => ?_) (fun h31 => ?_)
        · rw [if_neg h31] at hf
          refine g_sub [0, 1] rfl ?_
          exact hj10 S27 hf
        · rw [if_pos h31] at hf
          refine g_aload_n C 0 rfl rfl dX5_remove_138 ?_
          refine rF_X5_71 C dX5_remove_139 ?_
          refine g_istore C (lv2 := [(4, .int (S27.1 0 6)), (0, .ref (ax x 30)), (3, .int r8)]) (by decide) rfl dX5_remove_142 ?_
          refine g_aload_n C 1 rfl rfl dX5_remove_144 ?_
          refine g_aload_n C 1 rfl rfl dX5_remove_145 ?_
          refine rF_X5_19 C dX5_remove_146 ?_
          refine g_iconst C (v := 5) (by decide) dX5_remove_149 ?_
          refine g_iload C 0 rfl dX5_remove_150 ?_
          refine g_imul C dX5_remove_152 ?_
          obtain ⟨h32, hf⟩ := gd_some hf
          refine rL_4 C h32 dX5_remove_153 ?_
          refine rP_X5_71 C dX5_remove_154 ?_
          refine g_aload_n C 1 rfl rfl dX5_remove_157 ?_
          refine g_iload C 0 rfl dX5_remove_158 ?_
          obtain ⟨S34, h33, hf⟩ := bd_some hf
          refine g_callVV C (n := 1) (st := []) (c_X5_release g (up S27 0 6 (S27.1 4 (5 * (S27.1 0 6)).toNatClampNeg)) (S27.1 0 6) h33) (tb_wsV _ mM_X5_128 mI_X5_release mS_X5_release mN_X5 mK_X5_release) (by decide +kernel) rfl rfl ⟨by decide, by decide⟩ 0 5 rfl rfl rfl (Nat.le_of_ble_eq_true rfl) dX5_remove_160 rfl ?_
          refine g_sub [1, 2] rfl ?_
          exact hj10 S34 hf
def f_X5_arrive (g : Nat) (S : Mem) (a1 : Int32) (a2 : Int32) : Option (Int32 × Mem) := gd (ix_in a1 40) (jn3 (fun (S2 : Mem) (v3 : Int32) (v4 : Int32) => bd (f_X5_unpin g S2) (fun S7 => jn1 (fun (t8 : Int32) => gd (iz t8) (jn1 (fun (S11 : Mem) => gd (iz (S11.1 0 19)) (some (S11.1 0 19, S11))) (fun j12 => if ((up S7 0 19 t8).1 0 19) = 0 then (j12 (up S7 0 19 t8)) else (gd (ix_in ((5 * v3) + v4) 200) (gd (ix_in ((5 * v3) + v4) 200) (j12 (up (up (up (up (up S7 0 19 t8) 0 20 v3) 0 21 v4) 0 22 ((up (up (up S7 0 19 t8) 0 20 v3) 0 21 v4).1 3 ((5 * v3) + v4).toNatClampNeg)) 0 23 ((up (up (up (up S7 0 19 t8) 0 20 v3) 0 21 v4) 0 22 ((up (up (up S7 0 19 t8) 0 20 v3) 0 21 v4).1 3 ((5 * v3) + v4).toNatClampNeg)).1 4 ((5 * v3) + v4).toNatClampNeg)))))))) (fun j9 => jn0 (j9 0) (fun j17 => if v3 = ((-1)) then (j17) else (gd (ix_in v3 40) (if (S7.1 2 v3.toNatClampNeg) ≤ v4 then (j17) else (j9 1))))))) (fun j5 => if a2 < (S.1 2 a1.toNatClampNeg) then (j5 S a1 a2) else (gd (ix_in a1 40) (if (S.1 5 a1.toNatClampNeg) = ((-1)) then (j5 S (S.1 5 a1.toNatClampNeg) 0) else (bd (f_X5_touch g S (S.1 5 a1.toNatClampNeg) 0) (fun S25 => j5 S25 (S.1 5 a1.toNatClampNeg) 0))))))
abbrev rmX5_arrive : Room := { frames := 3, cells := 0, slots := 0, locals := 64 }
set_option maxHeartbeats 4000000 in
set_option maxRecDepth 100000 in
theorem c_X5_arrive {l : Launch} {x : Ad} (g : Nat) (S : Mem) (a1 : Int32) (a2 : Int32) {z : Int32 × Mem} (hf : f_X5_arrive g S a1 a2 = some z) : MI l x yX5_arrive kX5_arrive rmX5_arrive [.ref (ax x 30), .int a1, .int a2] (cM x S) z.1 (cM x z.2) := by
  refine met_Z RX5 (by decide +kernel) rfl (Nat.le_of_ble_eq_true rfl) [(0, .ref (ax x 30)), (1, .int a1), (2, .int a2)] rfl ?_
  intro κ hl C hr
  subst hl
  rw [f_X5_arrive] at hf
  refine g_iload_n C 1 rfl rfl dX5_arrive_0 ?_
  refine g_istore_n C (lv2 := [(3, .int a1), (0, .ref (ax x 30)), (1, .int a1), (2, .int a2)]) rfl (by decide) rfl dX5_arrive_1 ?_
  refine g_iload_n C 3 rfl rfl dX5_arrive_2 ?_
  refine g_istore C (lv2 := [(4, .int a2), (3, .int a1), (0, .ref (ax x 30)), (1, .int a1), (2, .int a2)]) (by decide) rfl dX5_arrive_3 ?_
  refine g_iload C 0 rfl dX5_arrive_5 ?_
  refine g_aload_n C 2 rfl rfl dX5_arrive_7 ?_
  refine rF_X5_13 C dX5_arrive_8 ?_
  refine g_iload_n C 1 rfl rfl dX5_arrive_11 ?_
  obtain ⟨h1, hf⟩ := gd_some hf
  refine rL_2 C h1 dX5_arrive_12 ?_
  refine jn3_elim (fun (S2 : Mem) (v3 : Int32) (v4 : Int32) => GG κ x (cM x S2) 37 [(0, .ref (ax x 30)), (3, .int v3), (4, .int v4)] []) hf (fun S2 v3 v4 hf => ?_) (fun j5 hj5 hf => ?_)
  · show GG κ x (cM x S2) 37 [(0, .ref (ax x 30)), (3, .int v3), (4, .int v4)] []
    refine g_aload_n C 0 rfl rfl dX5_arrive_37 ?_
    obtain ⟨S7, h6, hf⟩ := bd_some hf
    refine g_callVV C (n := 0) (st := []) (c_X5_unpin g S2 h6) (tb_wsV _ mM_X5_121 mI_X5_unpin mS_X5_unpin mN_X5 mK_X5_unpin) (by decide +kernel) rfl rfl ⟨by decide, by decide⟩ 0 5 rfl rfl rfl (Nat.le_of_ble_eq_true rfl) dX5_arrive_38 rfl ?_
    refine g_aload_n C 0 rfl rfl dX5_arrive_41 ?_
    refine g_iload_n C 1 rfl rfl dX5_arrive_42 ?_
    refine g_iconst C (v := (-1)) (by decide) dX5_arrive_43 ?_
    refine jn1_elim (fun (t8 : Int32) => GG κ x (cM x S7) 63 [(0, .ref (ax x 30)), (3, .int v3), (4, .int v4)] [.int t8, .ref (ax x 30)]) hf (fun t8 hf => ?_) (fun j9 hj9 hf => ?_)
    · show GG κ x (cM x S7) 63 [(0, .ref (ax x 30)), (3, .int v3), (4, .int v4)] [.int t8, .ref (ax x 30)]
      obtain ⟨h10, hf⟩ := gd_some hf
      refine rP_X5_108 C h10 dX5_arrive_63 ?_
      refine g_aload_n C 0 rfl rfl dX5_arrive_66 ?_
      refine rF_X5_108 C dX5_arrive_67 ?_
      refine jn1_elim (fun (S11 : Mem) => GG κ x (cM x S11) 114 [(0, .ref (ax x 30))] []) hf (fun S11 hf => ?_) (fun j12 hj12 hf => ?_)
      · show GG κ x (cM x S11) 114 [(0, .ref (ax x 30))] []
        refine g_aload_n C 0 rfl rfl dX5_arrive_114 ?_
        refine rF_X5_108 C dX5_arrive_115 ?_
        obtain ⟨h13, hf⟩ := gd_some hf
        obtain rfl := Option.some.inj hf
        exact g_iret (hr h13) dX5_arrive_118
      · skip
        refine g_if_eq C 114 (by decide) dX5_arrive_70 (fun h14 => ?_) (fun h14 => ?_)
        · rw [if_pos h14] at hf
          refine g_sub [0] rfl ?_
          exact hj12 (up S7 0 19 t8) hf
        · rw [if_neg h14] at hf
          refine g_aload_n C 0 rfl rfl dX5_arrive_73 ?_
          refine g_iload_n C 1 rfl rfl dX5_arrive_74 ?_
          refine rP_X5_141 C dX5_arrive_75 ?_
          refine g_aload_n C 0 rfl rfl dX5_arrive_78 ?_
          refine g_iload C 2 rfl dX5_arrive_79 ?_
          refine rP_X5_144 C dX5_arrive_81 ?_
          refine g_aload_n C 0 rfl rfl dX5_arrive_84 ?_
          refine g_aload_n C 0 rfl rfl dX5_arrive_85 ?_
          refine rF_X5_16 C dX5_arrive_86 ?_
          refine g_iconst C (v := 5) (by decide) dX5_arrive_89 ?_
          refine g_iload_n C 1 rfl rfl dX5_arrive_90 ?_
          refine g_imul C dX5_arrive_91 ?_
          refine g_iload C 2 rfl dX5_arrive_92 ?_
          refine g_iadd C dX5_arrive_94 ?_
          obtain ⟨h15, hf⟩ := gd_some hf
          refine rL_3 C h15 dX5_arrive_95 ?_
          refine rP_X5_147 C dX5_arrive_96 ?_
          refine g_aload_n C 0 rfl rfl dX5_arrive_99 ?_
          refine g_aload_n C 0 rfl rfl dX5_arrive_100 ?_
          refine rF_X5_19 C dX5_arrive_101 ?_
          refine g_iconst C (v := 5) (by decide) dX5_arrive_104 ?_
          refine g_iload_n C 1 rfl rfl dX5_arrive_105 ?_
          refine g_imul C dX5_arrive_106 ?_
          refine g_iload C 2 rfl dX5_arrive_107 ?_
          refine g_iadd C dX5_arrive_109 ?_
          obtain ⟨h16, hf⟩ := gd_some hf
          refine rL_4 C h16 dX5_arrive_110 ?_
          refine rP_X5_150 C dX5_arrive_111 ?_
          refine g_sub [0] rfl ?_
          exact hj12 (up (up (up (up (up S7 0 19 t8) 0 20 v3) 0 21 v4) 0 22 ((up (up (up S7 0 19 t8) 0 20 v3) 0 21 v4).1 3 ((5 * v3) + v4).toNatClampNeg)) 0 23 ((up (up (up (up S7 0 19 t8) 0 20 v3) 0 21 v4) 0 22 ((up (up (up S7 0 19 t8) 0 20 v3) 0 21 v4).1 3 ((5 * v3) + v4).toNatClampNeg)).1 4 ((5 * v3) + v4).toNatClampNeg)) hf
    · skip
      refine jn0_elim (GG κ x (cM x S7) 62 [(0, .ref (ax x 30)), (3, .int v3), (4, .int v4)] [.ref (ax x 30)]) hf (fun hf => ?_) (fun j17 hj17 hf => ?_)
      · show GG κ x (cM x S7) 62 [(0, .ref (ax x 30)), (3, .int v3), (4, .int v4)] [.ref (ax x 30)]
        refine g_iconst C (v := 0) (by decide) dX5_arrive_62 ?_
        refine g_sub [0, 1, 2] rfl ?_
        exact hj9 0 hf
      · skip
        refine g_icmp_eq C 62 (by decide) dX5_arrive_44 (fun h18 => ?_) (fun h18 => ?_)
        · rw [if_pos h18] at hf
          refine g_sub [0, 1, 2] rfl ?_
          exact hj17 hf
        · rw [if_neg h18] at hf
          refine g_iload C 2 rfl dX5_arrive_47 ?_
          refine g_aload_n C 0 rfl rfl dX5_arrive_49 ?_
          refine rF_X5_13 C dX5_arrive_50 ?_
          refine g_iload_n C 1 rfl rfl dX5_arrive_53 ?_
          obtain ⟨h19, hf⟩ := gd_some hf
          refine rL_2 C h19 dX5_arrive_54 ?_
          refine g_icmp_ge C 62 (by decide) dX5_arrive_55 (fun h20 => ?_) (fun h20 => ?_)
          · rw [if_pos h20] at hf
            refine g_sub [0, 1, 2] rfl ?_
            exact hj17 hf
          · rw [if_neg h20] at hf
            refine g_iconst C (v := 1) (by decide) dX5_arrive_58 ?_
            refine g_goto C 63 (by decide) dX5_arrive_59 ?_
            refine g_sub [0, 1, 2] rfl ?_
            exact hj9 1 hf
  · skip
    refine g_icmp_lt C 37 (by decide) dX5_arrive_13 (fun h21 => ?_) (fun h21 => ?_)
    · rw [if_pos h21] at hf
      refine g_sub [2, 1, 0] rfl ?_
      exact hj5 S a1 a2 hf
    · rw [if_neg h21] at hf
      refine g_aload_n C 2 rfl rfl dX5_arrive_16 ?_
      refine rF_X5_22 C dX5_arrive_17 ?_
      refine g_iload_n C 1 rfl rfl dX5_arrive_20 ?_
      obtain ⟨h22, hf⟩ := gd_some hf
      refine rL_5 C h22 dX5_arrive_21 ?_
      refine g_istore_n C (lv2 := [(3, .int (S.1 5 a1.toNatClampNeg)), (4, .int a2), (0, .ref (ax x 30)), (1, .int a1), (2, .int a2)]) rfl (by decide) rfl dX5_arrive_22 ?_
      refine g_iconst C (v := 0) (by decide) dX5_arrive_23 ?_
      refine g_istore C (lv2 := [(4, .int 0), (3, .int (S.1 5 a1.toNatClampNeg)), (0, .ref (ax x 30)), (1, .int a1), (2, .int a2)]) (by decide) rfl dX5_arrive_24 ?_
      refine g_iload_n C 1 rfl rfl dX5_arrive_26 ?_
      refine g_iconst C (v := (-1)) (by decide) dX5_arrive_27 ?_
      refine g_icmp_eq C 37 (by decide) dX5_arrive_28 (fun h23 => ?_) (fun h23 => ?_)
      · rw [if_pos h23] at hf
        refine g_sub [2, 1, 0] rfl ?_
        exact hj5 S (S.1 5 a1.toNatClampNeg) 0 hf
      · rw [if_neg h23] at hf
        refine g_aload_n C 2 rfl rfl dX5_arrive_31 ?_
        refine g_iload_n C 1 rfl rfl dX5_arrive_32 ?_
        refine g_iconst C (v := 0) (by decide) dX5_arrive_33 ?_
        obtain ⟨S25, h24, hf⟩ := bd_some hf
        refine g_callVV C (n := 2) (st := []) (c_X5_touch g S (S.1 5 a1.toNatClampNeg) 0 h24) (tb_wsV _ mM_X5_77 mI_X5_touch mS_X5_touch mN_X5 mK_X5_touch) (by decide +kernel) rfl rfl ⟨by decide, by decide⟩ 0 5 rfl rfl rfl (Nat.le_of_ble_eq_true rfl) dX5_arrive_34 rfl ?_
        refine g_sub [2, 1, 0] rfl ?_
        exact hj5 S25 (S.1 5 a1.toNatClampNeg) 0 hf
def f_X5_seek (g : Nat) (S : Mem) (a1 : Int32) : Option (Int32 × Mem) := bd (f_X5_find g (up S 0 0 0) a1) (fun S2 => bd (f_X5_touchWay g S2) (fun S4 => gd (ix_in (S4.1 0 8) 50) (bd (f_X5_placeOf g S4 a1) (fun r7 => bd2 (f_X5_arrive g S4 (S4.1 6 (S4.1 0 8).toNatClampNeg) r7) (fun r9 S10 => gd (iz r9) (some (r9, S10)))))))
abbrev rmX5_seek : Room := { frames := 4, cells := 0, slots := 0, locals := 88 }
set_option maxHeartbeats 4000000 in
set_option maxRecDepth 100000 in
theorem c_X5_seek {l : Launch} {x : Ad} (g : Nat) (S : Mem) (a1 : Int32) {z : Int32 × Mem} (hf : f_X5_seek g S a1 = some z) : MI l x yX5_seek kX5_seek rmX5_seek [.ref (ax x 30), .int a1] (cM x S) z.1 (cM x z.2) := by
  refine met_Z RX5 (by decide +kernel) rfl (Nat.le_of_ble_eq_true rfl) [(0, .ref (ax x 30)), (1, .int a1)] rfl ?_
  intro κ hl C hr
  subst hl
  rw [f_X5_seek] at hf
  refine g_aload_n C 0 rfl rfl dX5_seek_0 ?_
  refine g_iconst C (v := 0) (by decide) dX5_seek_1 ?_
  refine rP_X5_44 C dX5_seek_2 ?_
  refine g_aload_n C 0 rfl rfl dX5_seek_5 ?_
  refine g_iload_n C 1 rfl rfl dX5_seek_6 ?_
  obtain ⟨S2, h1, hf⟩ := bd_some hf
  refine g_callVV C (n := 1) (st := []) (c_X5_find g (up S 0 0 0) a1 h1) (tb_wsV _ mM_X5_92 mI_X5_find mS_X5_find mN_X5 mK_X5_find) (by decide +kernel) rfl rfl ⟨by decide, by decide⟩ 0 5 rfl rfl rfl (Nat.le_of_ble_eq_true rfl) dX5_seek_7 rfl ?_
  refine g_aload_n C 0 rfl rfl dX5_seek_10 ?_
  obtain ⟨S4, h3, hf⟩ := bd_some hf
  refine g_callVV C (n := 0) (st := []) (c_X5_touchWay g S2 h3) (tb_wsV _ mM_X5_112 mI_X5_touchWay mS_X5_touchWay mN_X5 mK_X5_touchWay) (by decide +kernel) rfl rfl ⟨by decide, by decide⟩ 0 5 rfl rfl rfl (Nat.le_of_ble_eq_true rfl) dX5_seek_11 rfl ?_
  refine g_aload_n C 0 rfl rfl dX5_seek_14 ?_
  refine g_aload_n C 0 rfl rfl dX5_seek_15 ?_
  refine rF_X5_25 C dX5_seek_16 ?_
  refine g_aload_n C 0 rfl rfl dX5_seek_19 ?_
  refine rF_X5_74 C dX5_seek_20 ?_
  obtain ⟨h5, hf⟩ := gd_some hf
  refine rL_6 C h5 dX5_seek_23 ?_
  refine g_aload_n C 0 rfl rfl dX5_seek_24 ?_
  refine g_iload_n C 1 rfl rfl dX5_seek_25 ?_
  obtain ⟨r7, h6, hf⟩ := bd_some hf
  refine g_callVI C (n := 1) (st := [.int (S4.1 6 (S4.1 0 8).toNatClampNeg), .ref (ax x 30)]) (c_X5_placeOf g S4 a1 h6) (tb_wsV _ mM_X5_95 mI_X5_placeOf mS_X5_placeOf mN_X5 mK_X5_placeOf) (by decide +kernel) rfl rfl ⟨by decide, by decide⟩ 0 5 rfl rfl rfl (Nat.le_of_ble_eq_true rfl) dX5_seek_26 rfl ?_
  obtain ⟨r9, S10, h8, hf⟩ := bd2_some hf
  refine g_callVI C (n := 2) (st := []) (c_X5_arrive g S4 (S4.1 6 (S4.1 0 8).toNatClampNeg) r7 h8) (tb_wsV _ mM_X5_153 mI_X5_arrive mS_X5_arrive mN_X5 mK_X5_arrive) (by decide +kernel) rfl rfl ⟨by decide, by decide⟩ 0 5 rfl rfl rfl (Nat.le_of_ble_eq_true rfl) dX5_seek_29 rfl ?_
  obtain ⟨h11, hf⟩ := gd_some hf
  obtain rfl := Option.some.inj hf
  exact g_iret (hr h11) dX5_seek_32
def f_X5_next (g : Nat) (S : Mem) : Option (Int32 × Mem) := jn1 (fun (t1 : Int32) => if ((up S 0 0 t1).1 0 0) ≤ 0 then (bd (f_X5_touch g (up S 0 0 t1) ((up S 0 0 t1).1 0 20) 0) (fun S5 => bd2 (f_X5_arrive g S5 (S5.1 0 20) ((S5.1 0 21) + 1)) (fun r7 S8 => gd (iz r7) (some (r7, S8))))) else (some (0, (up S 0 0 t1)))) (fun j2 => if (S.1 0 19) = 0 then (j2 1) else (j2 0))
abbrev rmX5_next : Room := { frames := 4, cells := 0, slots := 0, locals := 88 }
set_option maxHeartbeats 4000000 in
set_option maxRecDepth 100000 in
theorem c_X5_next {l : Launch} {x : Ad} (g : Nat) (S : Mem) {z : Int32 × Mem} (hf : f_X5_next g S = some z) : MI l x yX5_next kX5_next rmX5_next [.ref (ax x 30)] (cM x S) z.1 (cM x z.2) := by
  refine met_Z RX5 (by decide +kernel) rfl (Nat.le_of_ble_eq_true rfl) [(0, .ref (ax x 30))] rfl ?_
  intro κ hl C hr
  subst hl
  rw [f_X5_next] at hf
  refine g_aload_n C 0 rfl rfl dX5_next_0 ?_
  refine g_aload_n C 0 rfl rfl dX5_next_1 ?_
  refine rF_X5_108 C dX5_next_2 ?_
  refine jn1_elim (fun (t1 : Int32) => GG κ x (cM x S) 13 [(0, .ref (ax x 30))] [.int t1, .ref (ax x 30)]) hf (fun t1 hf => ?_) (fun j2 hj2 hf => ?_)
  · show GG κ x (cM x S) 13 [(0, .ref (ax x 30))] [.int t1, .ref (ax x 30)]
    refine rP_X5_44 C dX5_next_13 ?_
    refine g_aload_n C 0 rfl rfl dX5_next_16 ?_
    refine rF_X5_44 C dX5_next_17 ?_
    refine g_if_le C 25 (by decide) dX5_next_20 (fun h3 => ?_) (fun h3 => ?_)
    · rw [if_pos h3] at hf
      refine g_aload_n C 0 rfl rfl dX5_next_25 ?_
      refine g_aload_n C 0 rfl rfl dX5_next_26 ?_
      refine rF_X5_141 C dX5_next_27 ?_
      refine g_iconst C (v := 0) (by decide) dX5_next_30 ?_
      obtain ⟨S5, h4, hf⟩ := bd_some hf
      refine g_callVV C (n := 2) (st := []) (c_X5_touch g (up S 0 0 t1) ((up S 0 0 t1).1 0 20) 0 h4) (tb_wsV _ mM_X5_77 mI_X5_touch mS_X5_touch mN_X5 mK_X5_touch) (by decide +kernel) rfl rfl ⟨by decide, by decide⟩ 0 5 rfl rfl rfl (Nat.le_of_ble_eq_true rfl) dX5_next_31 rfl ?_
      refine g_aload_n C 0 rfl rfl dX5_next_34 ?_
      refine g_aload_n C 0 rfl rfl dX5_next_35 ?_
      refine rF_X5_141 C dX5_next_36 ?_
      refine g_aload_n C 0 rfl rfl dX5_next_39 ?_
      refine rF_X5_144 C dX5_next_40 ?_
      refine g_iconst C (v := 1) (by decide) dX5_next_43 ?_
      refine g_iadd C dX5_next_44 ?_
      obtain ⟨r7, S8, h6, hf⟩ := bd2_some hf
      refine g_callVI C (n := 2) (st := []) (c_X5_arrive g S5 (S5.1 0 20) ((S5.1 0 21) + 1) h6) (tb_wsV _ mM_X5_153 mI_X5_arrive mS_X5_arrive mN_X5 mK_X5_arrive) (by decide +kernel) rfl rfl ⟨by decide, by decide⟩ 0 5 rfl rfl rfl (Nat.le_of_ble_eq_true rfl) dX5_next_45 rfl ?_
      obtain ⟨h9, hf⟩ := gd_some hf
      obtain rfl := Option.some.inj hf
      exact g_iret (hr h9) dX5_next_48
    · rw [if_neg h3] at hf
      refine g_iconst C (v := 0) (by decide) dX5_next_23 ?_
      obtain rfl := Option.some.inj hf
      exact g_iret (hr (Or.inl rfl)) dX5_next_24
  · skip
    refine g_if_eq C 12 (by decide) dX5_next_5 (fun h10 => ?_) (fun h10 => ?_)
    · rw [if_pos h10] at hf
      refine g_iconst C (v := 1) (by decide) dX5_next_12 ?_
      refine g_sub [0] rfl ?_
      exact hj2 1 hf
    · rw [if_neg h10] at hf
      refine g_iconst C (v := 0) (by decide) dX5_next_8 ?_
      refine g_goto C 13 (by decide) dX5_next_9 ?_
      refine g_sub [0] rfl ?_
      exact hj2 0 hf
def f_X5_cursor (g : Nat) (S : Mem) (a1 : Int32) : Option (Int32 × Mem) := jn1 (fun (t1 : Int32) => if ((up S 0 0 t1).1 0 0) ≤ 0 then (if a1 = 0 then (some ((up S 0 0 t1).1 0 22, (up S 0 0 t1))) else (some ((up S 0 0 t1).1 0 23, (up S 0 0 t1)))) else (some (0, (up S 0 0 t1)))) (fun j2 => if (S.1 0 19) = 0 then (j2 1) else (j2 0))
abbrev rmX5_cursor : Room := { frames := 0, cells := 0, slots := 0, locals := 0 }
set_option maxHeartbeats 4000000 in
set_option maxRecDepth 100000 in
theorem c_X5_cursor {l : Launch} {x : Ad} (g : Nat) (S : Mem) (a1 : Int32) {z : Int32 × Mem} (hf : f_X5_cursor g S a1 = some z) : MI l x yX5_cursor kX5_cursor rmX5_cursor [.ref (ax x 30), .int a1] (cM x S) z.1 (cM x z.2) := by
  refine met_I RX5 (by decide +kernel) rfl (Nat.le_of_ble_eq_true rfl) [(0, .ref (ax x 30)), (1, .int a1)] rfl ?_
  intro κ hl C hr
  subst hl
  rw [f_X5_cursor] at hf
  refine g_aload_n C 0 rfl rfl dX5_cursor_0 ?_
  refine g_aload_n C 0 rfl rfl dX5_cursor_1 ?_
  refine rF_X5_108 C dX5_cursor_2 ?_
  refine jn1_elim (fun (t1 : Int32) => GG κ x (cM x S) 13 [(0, .ref (ax x 30)), (1, .int a1)] [.int t1, .ref (ax x 30)]) hf (fun t1 hf => ?_) (fun j2 hj2 hf => ?_)
  · show GG κ x (cM x S) 13 [(0, .ref (ax x 30)), (1, .int a1)] [.int t1, .ref (ax x 30)]
    refine rP_X5_44 C dX5_cursor_13 ?_
    refine g_aload_n C 0 rfl rfl dX5_cursor_16 ?_
    refine rF_X5_44 C dX5_cursor_17 ?_
    refine g_if_le C 27 (by decide) dX5_cursor_20 (fun h3 => ?_) (fun h3 => ?_)
    · rw [if_pos h3] at hf
      refine g_iload_n C 1 rfl rfl dX5_cursor_27 ?_
      refine g_if_eq C 38 (by decide) dX5_cursor_28 (fun h4 => ?_) (fun h4 => ?_)
      · rw [if_pos h4] at hf
        refine g_aload_n C 0 rfl rfl dX5_cursor_38 ?_
        refine rF_X5_147 C dX5_cursor_39 ?_
        obtain rfl := Option.some.inj hf
        exact g_iret hr dX5_cursor_42
      · rw [if_neg h4] at hf
        refine g_aload_n C 0 rfl rfl dX5_cursor_31 ?_
        refine rF_X5_150 C dX5_cursor_32 ?_
        refine g_goto C 42 (by decide) dX5_cursor_35 ?_
        obtain rfl := Option.some.inj hf
        exact g_iret hr dX5_cursor_42
    · rw [if_neg h3] at hf
      refine g_iconst C (v := 0) (by decide) dX5_cursor_23 ?_
      refine g_goto C 42 (by decide) dX5_cursor_24 ?_
      obtain rfl := Option.some.inj hf
      exact g_iret hr dX5_cursor_42
  · skip
    refine g_if_eq C 12 (by decide) dX5_cursor_5 (fun h5 => ?_) (fun h5 => ?_)
    · rw [if_pos h5] at hf
      refine g_iconst C (v := 1) (by decide) dX5_cursor_12 ?_
      refine g_sub [0, 1] rfl ?_
      exact hj2 1 hf
    · rw [if_neg h5] at hf
      refine g_iconst C (v := 0) (by decide) dX5_cursor_8 ?_
      refine g_goto C 13 (by decide) dX5_cursor_9 ?_
      refine g_sub [0, 1] rfl ?_
      exact hj2 0 hf
