def f_X4_mend (g : Nat) (S : Mem) (a1 : Int32) : Option (Mem) := bd (f_X3_pageAt g S a1) (fun r2 => bd (f_X3_pageAt g S (a1 - 1)) (fun r4 => bd (f_X3_slotAt g S a1) (fun r6 => jn1 (fun (t7 : Int32) => bd (f_X0_countOf g S r4) (fun r10 => jn1 (fun (t11 : Int32) => jn1 (fun (S13 : Mem) => jn1 (fun (S15 : Mem) => if t7 = ((-1)) then (if t11 = ((-1)) then (some S15) else (bd (f_X4_join g S15 r4 (r6 + 1) r2 t11) (fun S20 => some S20))) else (bd (f_X4_join g S15 r4 r6 t7 r2) (fun S22 => some S22))) (fun j16 => if t11 = ((-1)) then (j16 S13) else (bd (f_X1_touch g S13 t11 0) (fun S25 => bd (f_X0_countOf g S25 t11) (fun r27 => if r27 ≤ 2 then (j16 S25) else (bd (f_X4_giveFromRight g S25 r4 (r6 + 1) r2 t11) (fun S30 => some S30))))))) (fun j14 => if t7 = ((-1)) then (j14 S) else (bd (f_X1_touch g S t7 0) (fun S33 => bd (f_X0_countOf g S33 t7) (fun r35 => if r35 ≤ 2 then (j14 S33) else (bd (f_X4_giveFromLeft g S33 r4 r6 t7 r2) (fun S38 => some S38))))))) (fun j12 => if r10 ≤ (r6 + 1) then (j12 ((-1))) else (bd (f_X0_secondAt g S r4 (r6 + 1)) (fun r41 => j12 r41))))) (fun j8 => if r6 ≤ 0 then (j8 ((-1))) else (bd (f_X0_secondAt g S r4 (r6 - 1)) (fun r44 => j8 r44))))))
abbrev rmX4_mend : Room := { frames := 4, cells := 0, slots := 0, locals := 101 }
set_option maxHeartbeats 4000000 in
set_option maxRecDepth 100000 in
theorem c_X4_mend {l : Launch} {x : Ad} (g : Nat) (S : Mem) (a1 : Int32) {z : Mem} (hf : f_X4_mend g S a1 = some z) : MV l x yX4_mend kX4_mend rmX4_mend [.ref (ax x 0), .int a1] (cT x S) (cT x z) := by
  refine met_V RX4 (by decide +kernel) rfl (Nat.le_of_ble_eq_true rfl) [(0, .ref (ax x 0)), (1, .int a1)] rfl ?_
  intro κ hl C hr
  subst hl
  rw [f_X4_mend] at hf
  refine g_aload_n C 0 rfl rfl dX4_mend_0 ?_
  refine tF_X4_26 C dX4_mend_1 ?_
  refine g_iload_n C 1 rfl rfl dX4_mend_4 ?_
  obtain ⟨r2, h1, hf⟩ := bd_some hf
  refine g_callVI C (n := 1) (st := []) (c_X3_pageAt g S a1 h1) (tb_wsV _ mM_X4_217 mI_X3_pageAt mS_X3_pageAt mN_X3 mK_X3_pageAt) (by decide +kernel) rfl rfl ⟨by decide, by decide⟩ 12 3 rfl rfl rfl (Nat.le_of_ble_eq_true rfl) dX4_mend_5 rfl ?_
  refine g_istore_n C (lv2 := [(2, .int r2), (0, .ref (ax x 0)), (1, .int a1)]) rfl (by decide) rfl dX4_mend_8 ?_
  refine g_aload_n C 1 rfl rfl dX4_mend_9 ?_
  refine tF_X4_26 C dX4_mend_10 ?_
  refine g_iload_n C 2 rfl rfl dX4_mend_13 ?_
  refine g_iconst C (v := 1) (by decide) dX4_mend_14 ?_
  refine g_isub C dX4_mend_15 ?_
  obtain ⟨r4, h3, hf⟩ := bd_some hf
  refine g_callVI C (n := 1) (st := []) (c_X3_pageAt g S (a1 - 1) h3) (tb_wsV _ mM_X4_217 mI_X3_pageAt mS_X3_pageAt mN_X3 mK_X3_pageAt) (by decide +kernel) rfl rfl ⟨by decide, by decide⟩ 12 3 rfl rfl rfl (Nat.le_of_ble_eq_true rfl) dX4_mend_16 rfl ?_
  refine g_istore_n C (lv2 := [(3, .int r4), (2, .int r2), (0, .ref (ax x 0)), (1, .int a1)]) rfl (by decide) rfl dX4_mend_19 ?_
  refine g_aload_n C 2 rfl rfl dX4_mend_20 ?_
  refine tF_X4_26 C dX4_mend_21 ?_
  refine g_iload_n C 3 rfl rfl dX4_mend_24 ?_
  obtain ⟨r6, h5, hf⟩ := bd_some hf
  refine g_callVI C (n := 1) (st := []) (c_X3_slotAt g S a1 h5) (tb_wsV _ mM_X4_239 mI_X3_slotAt mS_X3_slotAt mN_X3 mK_X3_slotAt) (by decide +kernel) rfl rfl ⟨by decide, by decide⟩ 12 3 rfl rfl rfl (Nat.le_of_ble_eq_true rfl) dX4_mend_25 rfl ?_
  refine g_istore C (lv2 := [(4, .int r6), (3, .int r4), (2, .int r2), (0, .ref (ax x 0)), (1, .int a1)]) (by decide) rfl dX4_mend_28 ?_
  refine g_iload C 0 rfl dX4_mend_30 ?_
  refine jn1_elim (fun (t7 : Int32) => GG κ x (cT x S) 51 [(0, .ref (ax x 0)), (2, .int r2), (3, .int r4), (4, .int r6)] [.int t7]) hf (fun t7 hf => ?_) (fun j8 hj8 hf => ?_)
  · show GG κ x (cT x S) 51 [(0, .ref (ax x 0)), (2, .int r2), (3, .int r4), (4, .int r6)] [.int t7]
    refine g_istore C (lv2 := [(5, .int t7), (0, .ref (ax x 0)), (2, .int r2), (3, .int r4), (4, .int r6)]) (by decide) rfl dX4_mend_51 ?_
    refine g_iload C 4 rfl dX4_mend_53 ?_
    refine g_iconst C (v := 1) (by decide) dX4_mend_55 ?_
    refine g_iadd C dX4_mend_56 ?_
    refine g_aload_n C 1 rfl rfl dX4_mend_57 ?_
    refine tF_X4_12 C dX4_mend_58 ?_
    refine g_iload_n C 3 rfl rfl dX4_mend_61 ?_
    obtain ⟨r10, h9, hf⟩ := bd_some hf
    refine g_callVI C (n := 1) (st := [.int (r6 + 1)]) (c_X0_countOf g S r4 h9) (tb_wsV _ mM_X4_163 mI_X0_countOf mS_X0_countOf mN_X0 mK_X0_countOf) (by decide +kernel) rfl rfl ⟨by decide, by decide⟩ 1 0 rfl rfl rfl (Nat.le_of_ble_eq_true rfl) dX4_mend_62 rfl ?_
    refine jn1_elim (fun (t11 : Int32) => GG κ x (cT x S) 84 [(0, .ref (ax x 0)), (2, .int r2), (3, .int r4), (4, .int r6), (5, .int t7)] [.int t11]) hf (fun t11 hf => ?_) (fun j12 hj12 hf => ?_)
    · show GG κ x (cT x S) 84 [(0, .ref (ax x 0)), (2, .int r2), (3, .int r4), (4, .int r6), (5, .int t7)] [.int t11]
      refine g_istore C (lv2 := [(6, .int t11), (0, .ref (ax x 0)), (2, .int r2), (3, .int r4), (4, .int r6), (5, .int t7)]) (by decide) rfl dX4_mend_84 ?_
      refine g_iload C 5 rfl dX4_mend_86 ?_
      refine g_iconst C (v := (-1)) (by decide) dX4_mend_88 ?_
      refine jn1_elim (fun (S13 : Mem) => GG κ x (cT x S13) 126 [(0, .ref (ax x 0)), (2, .int r2), (3, .int r4), (4, .int r6), (5, .int t7), (6, .int t11)] []) hf (fun S13 hf => ?_) (fun j14 hj14 hf => ?_)
      · show GG κ x (cT x S13) 126 [(0, .ref (ax x 0)), (2, .int r2), (3, .int r4), (4, .int r6), (5, .int t7), (6, .int t11)] []
        refine g_iload C 5 rfl dX4_mend_126 ?_
        refine g_iconst C (v := (-1)) (by decide) dX4_mend_128 ?_
        refine jn1_elim (fun (S15 : Mem) => GG κ x (cT x S15) 168 [(0, .ref (ax x 0)), (2, .int r2), (3, .int r4), (4, .int r6), (5, .int t7), (6, .int t11)] []) hf (fun S15 hf => ?_) (fun j16 hj16 hf => ?_)
        · show GG κ x (cT x S15) 168 [(0, .ref (ax x 0)), (2, .int r2), (3, .int r4), (4, .int r6), (5, .int t7), (6, .int t11)] []
          refine g_iload C 4 rfl dX4_mend_168 ?_
          refine g_iconst C (v := (-1)) (by decide) dX4_mend_170 ?_
          refine g_icmp_eq C 187 (by decide) dX4_mend_171 (fun h17 => ?_) (fun h17 => ?_)
          · rw [if_pos h17] at hf
            refine g_iload C 5 rfl dX4_mend_187 ?_
            refine g_iconst C (v := (-1)) (by decide) dX4_mend_189 ?_
            refine g_icmp_eq C 205 (by decide) dX4_mend_190 (fun h18 => ?_) (fun h18 => ?_)
            · rw [if_pos h18] at hf
              obtain rfl := Option.some.inj hf
              exact g_vret hr dX4_mend_205
            · rw [if_neg h18] at hf
              refine g_aload_n C 0 rfl rfl dX4_mend_193 ?_
              refine g_iload_n C 2 rfl rfl dX4_mend_194 ?_
              refine g_iload C 3 rfl dX4_mend_195 ?_
              refine g_iconst C (v := 1) (by decide) dX4_mend_197 ?_
              refine g_iadd C dX4_mend_198 ?_
              refine g_iload_n C 1 rfl rfl dX4_mend_199 ?_
              refine g_iload C 5 rfl dX4_mend_200 ?_
              obtain ⟨S20, h19, hf⟩ := bd_some hf
              refine g_callVV C (n := 4) (st := []) (c_X4_join g S15 r4 (r6 + 1) r2 t11 h19) (tb_wsV _ mM_X4_263 mI_X4_join mS_X4_join mN_X4 mK_X4_join) (by decide +kernel) rfl rfl ⟨by decide, by decide⟩ 0 4 rfl rfl rfl (Nat.le_of_ble_eq_true rfl) dX4_mend_202 rfl ?_
              obtain rfl := Option.some.inj hf
              exact g_vret hr dX4_mend_205
          · rw [if_neg h17] at hf
            refine g_aload_n C 0 rfl rfl dX4_mend_174 ?_
            refine g_iload_n C 2 rfl rfl dX4_mend_175 ?_
            refine g_iload C 3 rfl dX4_mend_176 ?_
            refine g_iload C 4 rfl dX4_mend_178 ?_
            refine g_iload_n C 1 rfl rfl dX4_mend_180 ?_
            obtain ⟨S22, h21, hf⟩ := bd_some hf
            refine g_callVV C (n := 4) (st := []) (c_X4_join g S15 r4 r6 t7 r2 h21) (tb_wsV _ mM_X4_263 mI_X4_join mS_X4_join mN_X4 mK_X4_join) (by decide +kernel) rfl rfl ⟨by decide, by decide⟩ 0 4 rfl rfl rfl (Nat.le_of_ble_eq_true rfl) dX4_mend_181 rfl ?_
            refine g_goto C 205 (by decide) dX4_mend_184 ?_
            obtain rfl := Option.some.inj hf
            exact g_vret hr dX4_mend_205
        · skip
          refine g_icmp_eq C 168 (by decide) dX4_mend_129 (fun h23 => ?_) (fun h23 => ?_)
          · rw [if_pos h23] at hf
            refine g_sub [0, 1, 2, 3, 4, 5] rfl ?_
            exact hj16 S13 hf
          · rw [if_neg h23] at hf
            refine g_aload_n C 0 rfl rfl dX4_mend_132 ?_
            refine tF_X4_19 C dX4_mend_133 ?_
            refine g_iload C 5 rfl dX4_mend_136 ?_
            refine g_iconst C (v := 0) (by decide) dX4_mend_138 ?_
            obtain ⟨S25, h24, hf⟩ := bd_some hf
            refine g_callVV C (n := 2) (st := []) (c_X1_touch g S13 t11 0 h24) (tb_wsV _ mM_X4_123 mI_X1_touch mS_X1_touch mN_X1 mK_X1_touch) (by decide +kernel) rfl rfl ⟨by decide, by decide⟩ 7 1 rfl rfl rfl (Nat.le_of_ble_eq_true rfl) dX4_mend_139 rfl ?_
            refine g_aload_n C 0 rfl rfl dX4_mend_142 ?_
            refine tF_X4_12 C dX4_mend_143 ?_
            refine g_iload C 5 rfl dX4_mend_146 ?_
            obtain ⟨r27, h26, hf⟩ := bd_some hf
            refine g_callVI C (n := 1) (st := []) (c_X0_countOf g S25 t11 h26) (tb_wsV _ mM_X4_163 mI_X0_countOf mS_X0_countOf mN_X0 mK_X0_countOf) (by decide +kernel) rfl rfl ⟨by decide, by decide⟩ 1 0 rfl rfl rfl (Nat.le_of_ble_eq_true rfl) dX4_mend_148 rfl ?_
            refine g_iconst C (v := 2) (by decide) dX4_mend_151 ?_
            refine g_icmp_le C 168 (by decide) dX4_mend_152 (fun h28 => ?_) (fun h28 => ?_)
            · rw [if_pos h28] at hf
              refine g_sub [0, 1, 2, 3, 4, 5] rfl ?_
              exact hj16 S25 hf
            · rw [if_neg h28] at hf
              refine g_aload_n C 0 rfl rfl dX4_mend_155 ?_
              refine g_iload_n C 2 rfl rfl dX4_mend_156 ?_
              refine g_iload C 3 rfl dX4_mend_157 ?_
              refine g_iconst C (v := 1) (by decide) dX4_mend_159 ?_
              refine g_iadd C dX4_mend_160 ?_
              refine g_iload_n C 1 rfl rfl dX4_mend_161 ?_
              refine g_iload C 5 rfl dX4_mend_162 ?_
              obtain ⟨S30, h29, hf⟩ := bd_some hf
              refine g_callVV C (n := 4) (st := []) (c_X4_giveFromRight g S25 r4 (r6 + 1) r2 t11 h29) (tb_wsV _ mM_X4_260 mI_X4_giveFromRight mS_X4_giveFromRight mN_X4 mK_X4_giveFromRight) (by decide +kernel) rfl rfl ⟨by decide, by decide⟩ 0 4 rfl rfl rfl (Nat.le_of_ble_eq_true rfl) dX4_mend_164 rfl ?_
              obtain rfl := Option.some.inj hf
              exact g_vret hr dX4_mend_167
      · skip
        refine g_icmp_eq C 126 (by decide) dX4_mend_89 (fun h31 => ?_) (fun h31 => ?_)
        · rw [if_pos h31] at hf
          refine g_sub [1, 2, 3, 4, 5, 0] rfl ?_
          exact hj14 S hf
        · rw [if_neg h31] at hf
          refine g_aload_n C 1 rfl rfl dX4_mend_92 ?_
          refine tF_X4_19 C dX4_mend_93 ?_
          refine g_iload C 5 rfl dX4_mend_96 ?_
          refine g_iconst C (v := 0) (by decide) dX4_mend_98 ?_
          obtain ⟨S33, h32, hf⟩ := bd_some hf
          refine g_callVV C (n := 2) (st := []) (c_X1_touch g S t7 0 h32) (tb_wsV _ mM_X4_123 mI_X1_touch mS_X1_touch mN_X1 mK_X1_touch) (by decide +kernel) rfl rfl ⟨by decide, by decide⟩ 7 1 rfl rfl rfl (Nat.le_of_ble_eq_true rfl) dX4_mend_99 rfl ?_
          refine g_aload_n C 1 rfl rfl dX4_mend_102 ?_
          refine tF_X4_12 C dX4_mend_103 ?_
          refine g_iload C 5 rfl dX4_mend_106 ?_
          obtain ⟨r35, h34, hf⟩ := bd_some hf
          refine g_callVI C (n := 1) (st := []) (c_X0_countOf g S33 t7 h34) (tb_wsV _ mM_X4_163 mI_X0_countOf mS_X0_countOf mN_X0 mK_X0_countOf) (by decide +kernel) rfl rfl ⟨by decide, by decide⟩ 1 0 rfl rfl rfl (Nat.le_of_ble_eq_true rfl) dX4_mend_108 rfl ?_
          refine g_iconst C (v := 2) (by decide) dX4_mend_111 ?_
          refine g_icmp_le C 126 (by decide) dX4_mend_112 (fun h36 => ?_) (fun h36 => ?_)
          · rw [if_pos h36] at hf
            refine g_sub [1, 2, 3, 4, 5, 0] rfl ?_
            exact hj14 S33 hf
          · rw [if_neg h36] at hf
            refine g_aload_n C 1 rfl rfl dX4_mend_115 ?_
            refine g_iload_n C 3 rfl rfl dX4_mend_116 ?_
            refine g_iload C 4 rfl dX4_mend_117 ?_
            refine g_iload C 5 rfl dX4_mend_119 ?_
            refine g_iload_n C 2 rfl rfl dX4_mend_121 ?_
            obtain ⟨S38, h37, hf⟩ := bd_some hf
            refine g_callVV C (n := 4) (st := []) (c_X4_giveFromLeft g S33 r4 r6 t7 r2 h37) (tb_wsV _ mM_X4_257 mI_X4_giveFromLeft mS_X4_giveFromLeft mN_X4 mK_X4_giveFromLeft) (by decide +kernel) rfl rfl ⟨by decide, by decide⟩ 0 4 rfl rfl rfl (Nat.le_of_ble_eq_true rfl) dX4_mend_122 rfl ?_
            obtain rfl := Option.some.inj hf
            exact g_vret hr dX4_mend_125
    · skip
      refine g_icmp_ge C 83 (by decide) dX4_mend_65 (fun h39 => ?_) (fun h39 => ?_)
      · rw [if_pos h39] at hf
        refine g_iconst C (v := (-1)) (by decide) dX4_mend_83 ?_
        refine g_sub [1, 2, 3, 4, 0] rfl ?_
        exact hj12 ((-1)) hf
      · rw [if_neg h39] at hf
        refine g_aload_n C 1 rfl rfl dX4_mend_68 ?_
        refine tF_X4_12 C dX4_mend_69 ?_
        refine g_iload_n C 3 rfl rfl dX4_mend_72 ?_
        refine g_iload C 4 rfl dX4_mend_73 ?_
        refine g_iconst C (v := 1) (by decide) dX4_mend_75 ?_
        refine g_iadd C dX4_mend_76 ?_
        obtain ⟨r41, h40, hf⟩ := bd_some hf
        refine g_callVI C (n := 2) (st := []) (c_X0_secondAt g S r4 (r6 + 1) h40) (tb_wsV _ mM_X4_108 mI_X0_secondAt mS_X0_secondAt mN_X0 mK_X0_secondAt) (by decide +kernel) rfl rfl ⟨by decide, by decide⟩ 1 0 rfl rfl rfl (Nat.le_of_ble_eq_true rfl) dX4_mend_77 rfl ?_
        refine g_goto C 84 (by decide) dX4_mend_80 ?_
        refine g_sub [1, 2, 3, 4, 0] rfl ?_
        exact hj12 r41 hf
  · skip
    refine g_if_le C 50 (by decide) dX4_mend_32 (fun h42 => ?_) (fun h42 => ?_)
    · rw [if_pos h42] at hf
      refine g_iconst C (v := (-1)) (by decide) dX4_mend_50 ?_
      refine g_sub [3, 2, 1, 0] rfl ?_
      exact hj8 ((-1)) hf
    · rw [if_neg h42] at hf
      refine g_aload_n C 3 rfl rfl dX4_mend_35 ?_
      refine tF_X4_12 C dX4_mend_36 ?_
      refine g_iload_n C 1 rfl rfl dX4_mend_39 ?_
      refine g_iload C 0 rfl dX4_mend_40 ?_
      refine g_iconst C (v := 1) (by decide) dX4_mend_42 ?_
      refine g_isub C dX4_mend_43 ?_
      obtain ⟨r44, h43, hf⟩ := bd_some hf
      refine g_callVI C (n := 2) (st := []) (c_X0_secondAt g S r4 (r6 - 1) h43) (tb_wsV _ mM_X4_108 mI_X0_secondAt mS_X0_secondAt mN_X0 mK_X0_secondAt) (by decide +kernel) rfl rfl ⟨by decide, by decide⟩ 1 0 rfl rfl rfl (Nat.le_of_ble_eq_true rfl) dX4_mend_44 rfl ?_
      refine g_goto C 51 (by decide) dX4_mend_47 ?_
      refine g_sub [3, 2, 1, 0] rfl ?_
      exact hj8 r44 hf
def f_X4_lowerRoot (g : Nat) (S : Mem) : Option (Mem) := bd (f_X0_kindOf g S (S.1 0 4)) (fun r2 => if r2 = 2 then (bd (f_X0_countOf g S (S.1 0 4)) (fun r5 => if r5 = 1 then (bd (f_X0_secondAt g S (S.1 0 4) 0) (fun r8 => bd (f_X4_releasePage g S (S.1 0 4)) (fun S10 => some (up S10 0 4 r8)))) else (some S))) else (some S))
abbrev rmX4_lowerRoot : Room := { frames := 3, cells := 0, slots := 0, locals := 64 }
set_option maxHeartbeats 4000000 in
set_option maxRecDepth 100000 in
theorem c_X4_lowerRoot {l : Launch} {x : Ad} (g : Nat) (S : Mem) {z : Mem} (hf : f_X4_lowerRoot g S = some z) : MV l x yX4_lowerRoot kX4_lowerRoot rmX4_lowerRoot [.ref (ax x 0)] (cT x S) (cT x z) := by
  refine met_V RX4 (by decide +kernel) rfl (Nat.le_of_ble_eq_true rfl) [(0, .ref (ax x 0))] rfl ?_
  intro κ hl C hr
  subst hl
  rw [f_X4_lowerRoot] at hf
  refine g_aload_n C 0 rfl rfl dX4_lowerRoot_0 ?_
  refine tF_X4_12 C dX4_lowerRoot_1 ?_
  refine g_aload_n C 0 rfl rfl dX4_lowerRoot_4 ?_
  refine tF_X4_37 C dX4_lowerRoot_5 ?_
  obtain ⟨r2, h1, hf⟩ := bd_some hf
  refine g_callVI C (n := 1) (st := []) (c_X0_kindOf g S (S.1 0 4) h1) (tb_wsV _ mM_X4_159 mI_X0_kindOf mS_X0_kindOf mN_X0 mK_X0_kindOf) (by decide +kernel) rfl rfl ⟨by decide, by decide⟩ 1 0 rfl rfl rfl (Nat.le_of_ble_eq_true rfl) dX4_lowerRoot_8 rfl ?_
  refine g_iconst C (v := 2) (by decide) dX4_lowerRoot_11 ?_
  refine g_icmp_ne C 56 (by decide) dX4_lowerRoot_12 (fun h3 => ?_) (fun h3 => ?_)
  · rw [if_neg h3] at hf
    obtain rfl := Option.some.inj hf
    exact g_vret hr dX4_lowerRoot_56
  · rw [if_pos h3] at hf
    refine g_aload_n C 0 rfl rfl dX4_lowerRoot_15 ?_
    refine tF_X4_12 C dX4_lowerRoot_16 ?_
    refine g_aload_n C 0 rfl rfl dX4_lowerRoot_19 ?_
    refine tF_X4_37 C dX4_lowerRoot_20 ?_
    obtain ⟨r5, h4, hf⟩ := bd_some hf
    refine g_callVI C (n := 1) (st := []) (c_X0_countOf g S (S.1 0 4) h4) (tb_wsV _ mM_X4_163 mI_X0_countOf mS_X0_countOf mN_X0 mK_X0_countOf) (by decide +kernel) rfl rfl ⟨by decide, by decide⟩ 1 0 rfl rfl rfl (Nat.le_of_ble_eq_true rfl) dX4_lowerRoot_23 rfl ?_
    refine g_iconst C (v := 1) (by decide) dX4_lowerRoot_26 ?_
    refine g_icmp_ne C 56 (by decide) dX4_lowerRoot_27 (fun h6 => ?_) (fun h6 => ?_)
    · rw [if_neg h6] at hf
      obtain rfl := Option.some.inj hf
      exact g_vret hr dX4_lowerRoot_56
    · rw [if_pos h6] at hf
      refine g_aload_n C 0 rfl rfl dX4_lowerRoot_30 ?_
      refine tF_X4_12 C dX4_lowerRoot_31 ?_
      refine g_aload_n C 0 rfl rfl dX4_lowerRoot_34 ?_
      refine tF_X4_37 C dX4_lowerRoot_35 ?_
      refine g_iconst C (v := 0) (by decide) dX4_lowerRoot_38 ?_
      obtain ⟨r8, h7, hf⟩ := bd_some hf
      refine g_callVI C (n := 2) (st := []) (c_X0_secondAt g S (S.1 0 4) 0 h7) (tb_wsV _ mM_X4_108 mI_X0_secondAt mS_X0_secondAt mN_X0 mK_X0_secondAt) (by decide +kernel) rfl rfl ⟨by decide, by decide⟩ 1 0 rfl rfl rfl (Nat.le_of_ble_eq_true rfl) dX4_lowerRoot_39 rfl ?_
      refine g_istore_n C (lv2 := [(1, .int r8), (0, .ref (ax x 0))]) rfl (by decide) rfl dX4_lowerRoot_42 ?_
      refine g_aload_n C 1 rfl rfl dX4_lowerRoot_43 ?_
      refine g_aload_n C 1 rfl rfl dX4_lowerRoot_44 ?_
      refine tF_X4_37 C dX4_lowerRoot_45 ?_
      obtain ⟨S10, h9, hf⟩ := bd_some hf
      refine g_callVV C (n := 1) (st := []) (c_X4_releasePage g S (S.1 0 4) h9) (tb_wsV _ mM_X4_254 mI_X4_releasePage mS_X4_releasePage mN_X4 mK_X4_releasePage) (by decide +kernel) rfl rfl ⟨by decide, by decide⟩ 0 4 rfl rfl rfl (Nat.le_of_ble_eq_true rfl) dX4_lowerRoot_48 rfl ?_
      refine g_aload_n C 1 rfl rfl dX4_lowerRoot_51 ?_
      refine g_iload_n C 0 rfl rfl dX4_lowerRoot_52 ?_
      refine tP_X4_37 C dX4_lowerRoot_53 ?_
      obtain rfl := Option.some.inj hf
      exact g_vret hr dX4_lowerRoot_56
def f_X4_mendUpwards_10 (g : Nat)  (kx : Mem → Option (Mem)) : Nat → Mem → Int32 → Option (Mem)
  | 0, _, _ => none
  | n + 1, S, w1 => if w1 ≤ 0 then (kx S) else (bd (f_X3_pageAt g S w1) (fun r5 => bd (f_X0_countOf g S r5) (fun r7 => if r7 < 2 then (bd (f_X4_mend g S w1) (fun S10 => f_X4_mendUpwards_10 g kx n S10 (w1 + (-1)))) else (some S))))
def f_X4_mendUpwards (g : Nat) (S : Mem) : Option (Mem) := bd (f_X3_length g S) (fun r2 => f_X4_mendUpwards_10 g (fun (S11 : Mem) => bd (f_X4_lowerRoot g S11) (fun S13 => some S13)) g S (r2 - 1))
abbrev rmX4_mendUpwards : Room := { frames := 5, cells := 0, slots := 0, locals := 127 }
set_option maxHeartbeats 4000000 in
set_option maxRecDepth 100000 in
theorem lp_X4_mendUpwards_10 {κ : Kx} {x : Ad} (C : Cx κ x cX4_mendUpwards RX4 kX4_mendUpwards rmX4_mendUpwards 2) {z : Mem} (hr : RV κ x cX4_mendUpwards (cT x z)) (g : Nat)  (kx : Mem → Option (Mem)) (hk : ∀ (S1 : Mem), kx S1 = some z → GG κ x (cT x S1) 45 [(0, .ref (ax x 0))] []) : ∀ (n : Nat) (S : Mem) (w1 : Int32), f_X4_mendUpwards_10 g kx n S w1 = some z → GG κ x (cT x S) 10 [(0, .ref (ax x 0)), (1, .int w1)] [] := by
  intro n
  induction n with
  | zero => intro S w1 hf; cases hf
  | succ n ih =>
    intro S w1 hf
    rw [f_X4_mendUpwards_10] at hf
    refine g_iload_n C 1 rfl rfl dX4_mendUpwards_10 ?_
    refine g_if_le C 45 (by decide) dX4_mendUpwards_11 (fun h3 => ?_) (fun h3 => ?_)
    · rw [if_pos h3] at hf
      refine g_sub [0] rfl ?_
      exact hk S hf
    · rw [if_neg h3] at hf
      refine g_aload_n C 0 rfl rfl dX4_mendUpwards_14 ?_
      refine tF_X4_12 C dX4_mendUpwards_15 ?_
      refine g_aload_n C 0 rfl rfl dX4_mendUpwards_18 ?_
      refine tF_X4_26 C dX4_mendUpwards_19 ?_
      refine g_iload_n C 1 rfl rfl dX4_mendUpwards_22 ?_
      obtain ⟨r5, h4, hf⟩ := bd_some hf
      refine g_callVI C (n := 1) (st := [.ref (ax x 1)]) (c_X3_pageAt g S w1 h4) (tb_wsV _ mM_X4_217 mI_X3_pageAt mS_X3_pageAt mN_X3 mK_X3_pageAt) (by decide +kernel) rfl rfl ⟨by decide, by decide⟩ 12 3 rfl rfl rfl (Nat.le_of_ble_eq_true rfl) dX4_mendUpwards_23 rfl ?_
      obtain ⟨r7, h6, hf⟩ := bd_some hf
      refine g_callVI C (n := 1) (st := []) (c_X0_countOf g S r5 h6) (tb_wsV _ mM_X4_163 mI_X0_countOf mS_X0_countOf mN_X0 mK_X0_countOf) (by decide +kernel) rfl rfl ⟨by decide, by decide⟩ 1 0 rfl rfl rfl (Nat.le_of_ble_eq_true rfl) dX4_mendUpwards_26 rfl ?_
      refine g_iconst C (v := 2) (by decide) dX4_mendUpwards_29 ?_
      refine g_icmp_lt C 34 (by decide) dX4_mendUpwards_30 (fun h8 => ?_) (fun h8 => ?_)
      · rw [if_pos h8] at hf
        refine g_aload_n C 0 rfl rfl dX4_mendUpwards_34 ?_
        refine g_iload_n C 1 rfl rfl dX4_mendUpwards_35 ?_
        obtain ⟨S10, h9, hf⟩ := bd_some hf
        refine g_callVV C (n := 1) (st := []) (c_X4_mend g S w1 h9) (tb_wsV _ mM_X4_248 mI_X4_mend mS_X4_mend mN_X4 mK_X4_mend) (by decide +kernel) rfl rfl ⟨by decide, by decide⟩ 0 4 rfl rfl rfl (Nat.le_of_ble_eq_true rfl) dX4_mendUpwards_36 rfl ?_
        refine g_iinc C (v := w1 + (-1)) (lv2 := [(1, .int (w1 + (-1))), (0, .ref (ax x 0))]) 1 rfl (by rw [(by decide : Int32.ofInt (-1) = (-1))]) (by decide) rfl dX4_mendUpwards_39 ?_
        refine g_goto C 10 (by decide) dX4_mendUpwards_42 ?_
        refine g_sub [1, 0] rfl ?_
        exact ih S10 (w1 + (-1)) hf
      · rw [if_neg h8] at hf
        obtain rfl := Option.some.inj hf
        exact g_vret hr dX4_mendUpwards_33
set_option maxHeartbeats 4000000 in
set_option maxRecDepth 100000 in
theorem c_X4_mendUpwards {l : Launch} {x : Ad} (g : Nat) (S : Mem) {z : Mem} (hf : f_X4_mendUpwards g S = some z) : MV l x yX4_mendUpwards kX4_mendUpwards rmX4_mendUpwards [.ref (ax x 0)] (cT x S) (cT x z) := by
  refine met_V RX4 (by decide +kernel) rfl (Nat.le_of_ble_eq_true rfl) [(0, .ref (ax x 0))] rfl ?_
  intro κ hl C hr
  subst hl
  rw [f_X4_mendUpwards] at hf
  refine g_aload_n C 0 rfl rfl dX4_mendUpwards_0 ?_
  refine tF_X4_26 C dX4_mendUpwards_1 ?_
  obtain ⟨r2, h1, hf⟩ := bd_some hf
  refine g_callVI C (n := 0) (st := []) (c_X3_length g S h1) (tb_wsV _ mM_X4_214 mI_X3_length mS_X3_length mN_X3 mK_X3_length) (by decide +kernel) rfl rfl ⟨by decide, by decide⟩ 12 3 rfl rfl rfl (Nat.le_of_ble_eq_true rfl) dX4_mendUpwards_4 rfl ?_
  refine g_iconst C (v := 1) (by decide) dX4_mendUpwards_7 ?_
  refine g_isub C dX4_mendUpwards_8 ?_
  refine g_istore_n C (lv2 := [(1, .int (r2 - 1)), (0, .ref (ax x 0))]) rfl (by decide) rfl dX4_mendUpwards_9 ?_
  refine g_sub [1, 0] rfl ?_
  refine lp_X4_mendUpwards_10 C hr g _ (fun S11 hf => ?_) g S (r2 - 1) hf
  refine g_aload_n C 0 rfl rfl dX4_mendUpwards_45 ?_
  obtain ⟨S13, h12, hf⟩ := bd_some hf
  refine g_callVV C (n := 0) (st := []) (c_X4_lowerRoot g S11 h12) (tb_wsV _ mM_X4_251 mI_X4_lowerRoot mS_X4_lowerRoot mN_X4 mK_X4_lowerRoot) (by decide +kernel) rfl rfl ⟨by decide, by decide⟩ 0 4 rfl rfl rfl (Nat.le_of_ble_eq_true rfl) dX4_mendUpwards_46 rfl ?_
  obtain rfl := Option.some.inj hf
  exact g_vret hr dX4_mendUpwards_49
def f_X4_remove (g : Nat) (S : Mem) (a1 : Int32) : Option (Int32 × Mem) := bd (f_X3_lead g S (S.1 0 4) a1) (fun S2 => bd (f_X3_leaf g S2) (fun r4 => bd (f_X0_placeOf g S2 r4 a1) (fun r6 => bd (f_X0_hasKey g S2 r4 r6 a1) (fun r8 => bd (f_X4_endCursor g S2) (fun S10 => bd (f_X4_touchWay g S10) (fun S12 => jn1 (fun (S13 : Mem) => bd (f_X1_unpinAll g S13) (fun S16 => gd (iz r8) (some (r8, S16)))) (fun j14 => if r8 = 0 then (j14 S12) else (bd (f_X0_delete g S12 r4 r6) (fun S20 => bd (f_X1_soil g S20 r4) (fun S22 => bd (f_X4_mendUpwards g (up S22 0 5 ((S22.1 0 5) - 1))) (fun S24 => j14 S24)))))))))))
abbrev rmX4_remove : Room := { frames := 6, cells := 0, slots := 0, locals := 148 }
set_option maxHeartbeats 4000000 in
set_option maxRecDepth 100000 in
theorem c_X4_remove {l : Launch} {x : Ad} (g : Nat) (S : Mem) (a1 : Int32) {z : Int32 × Mem} (hf : f_X4_remove g S a1 = some z) : MI l x yX4_remove kX4_remove rmX4_remove [.ref (ax x 0), .int a1] (cT x S) z.1 (cT x z.2) := by
  refine met_Z RX4 (by decide +kernel) rfl (Nat.le_of_ble_eq_true rfl) [(0, .ref (ax x 0)), (1, .int a1)] rfl ?_
  intro κ hl C hr
  subst hl
  rw [f_X4_remove] at hf
  refine g_aload_n C 0 rfl rfl dX4_remove_0 ?_
  refine tF_X4_26 C dX4_remove_1 ?_
  refine g_aload_n C 0 rfl rfl dX4_remove_4 ?_
  refine tF_X4_12 C dX4_remove_5 ?_
  refine g_aload_n C 0 rfl rfl dX4_remove_8 ?_
  refine tF_X4_37 C dX4_remove_9 ?_
  refine g_iload_n C 1 rfl rfl dX4_remove_12 ?_
  obtain ⟨S2, h1, hf⟩ := bd_some hf
  refine g_callVV C (n := 3) (st := []) (c_X3_lead g S (S.1 0 4) a1 h1) (tb_wsV _ mM_X4_51 mI_X3_lead mS_X3_lead mN_X3 mK_X3_lead) (by decide +kernel) rfl rfl ⟨by decide, by decide⟩ 12 3 rfl rfl rfl (Nat.le_of_ble_eq_true rfl) dX4_remove_13 rfl ?_
  refine g_aload_n C 0 rfl rfl dX4_remove_16 ?_
  refine tF_X4_26 C dX4_remove_17 ?_
  obtain ⟨r4, h3, hf⟩ := bd_some hf
  refine g_callVI C (n := 0) (st := []) (c_X3_leaf g S2 h3) (tb_wsV _ mM_X4_55 mI_X3_leaf mS_X3_leaf mN_X3 mK_X3_leaf) (by decide +kernel) rfl rfl ⟨by decide, by decide⟩ 12 3 rfl rfl rfl (Nat.le_of_ble_eq_true rfl) dX4_remove_20 rfl ?_
  refine g_istore_n C (lv2 := [(2, .int r4), (0, .ref (ax x 0)), (1, .int a1)]) rfl (by decide) rfl dX4_remove_23 ?_
  refine g_aload_n C 1 rfl rfl dX4_remove_24 ?_
  refine tF_X4_12 C dX4_remove_25 ?_
  refine g_iload_n C 0 rfl rfl dX4_remove_28 ?_
  refine g_iload_n C 2 rfl rfl dX4_remove_29 ?_
  obtain ⟨r6, h5, hf⟩ := bd_some hf
  refine g_callVI C (n := 2) (st := []) (c_X0_placeOf g S2 r4 a1 h5) (tb_wsV _ mM_X4_59 mI_X0_placeOf mS_X0_placeOf mN_X0 mK_X0_placeOf) (by decide +kernel) rfl rfl ⟨by decide, by decide⟩ 1 0 rfl rfl rfl (Nat.le_of_ble_eq_true rfl) dX4_remove_30 rfl ?_
  refine g_istore_n C (lv2 := [(3, .int r6), (2, .int r4), (0, .ref (ax x 0)), (1, .int a1)]) rfl (by decide) rfl dX4_remove_33 ?_
  refine g_aload_n C 2 rfl rfl dX4_remove_34 ?_
  refine tF_X4_12 C dX4_remove_35 ?_
  refine g_iload_n C 1 rfl rfl dX4_remove_38 ?_
  refine g_iload_n C 0 rfl rfl dX4_remove_39 ?_
  refine g_iload_n C 3 rfl rfl dX4_remove_40 ?_
  obtain ⟨r8, h7, hf⟩ := bd_some hf
  refine g_callVI C (n := 3) (st := []) (c_X0_hasKey g S2 r4 r6 a1 h7) (tb_wsV _ mM_X4_63 mI_X0_hasKey mS_X0_hasKey mN_X0 mK_X0_hasKey) (by decide +kernel) rfl rfl ⟨by decide, by decide⟩ 1 0 rfl rfl rfl (Nat.le_of_ble_eq_true rfl) dX4_remove_41 rfl ?_
  refine g_istore C (lv2 := [(4, .int r8), (3, .int r6), (2, .int r4), (0, .ref (ax x 0)), (1, .int a1)]) (by decide) rfl dX4_remove_44 ?_
  refine g_aload_n C 3 rfl rfl dX4_remove_46 ?_
  obtain ⟨S10, h9, hf⟩ := bd_some hf
  refine g_callVV C (n := 0) (st := []) (c_X4_endCursor g S2 h9) (tb_wsV _ mM_X4_80 mI_X4_endCursor mS_X4_endCursor mN_X4 mK_X4_endCursor) (by decide +kernel) rfl rfl ⟨by decide, by decide⟩ 0 4 rfl rfl rfl (Nat.le_of_ble_eq_true rfl) dX4_remove_47 rfl ?_
  refine g_aload_n C 3 rfl rfl dX4_remove_50 ?_
  obtain ⟨S12, h11, hf⟩ := bd_some hf
  refine g_callVV C (n := 0) (st := []) (c_X4_touchWay g S10 h11) (tb_wsV _ mM_X4_83 mI_X4_touchWay mS_X4_touchWay mN_X4 mK_X4_touchWay) (by decide +kernel) rfl rfl ⟨by decide, by decide⟩ 0 4 rfl rfl rfl (Nat.le_of_ble_eq_true rfl) dX4_remove_51 rfl ?_
  refine g_iload C 0 rfl dX4_remove_54 ?_
  refine jn1_elim (fun (S13 : Mem) => GG κ x (cT x S13) 90 [(0, .ref (ax x 0)), (4, .int r8)] []) hf (fun S13 hf => ?_) (fun j14 hj14 hf => ?_)
  · show GG κ x (cT x S13) 90 [(0, .ref (ax x 0)), (4, .int r8)] []
    refine g_aload_n C 0 rfl rfl dX4_remove_90 ?_
    refine tF_X4_19 C dX4_remove_91 ?_
    obtain ⟨S16, h15, hf⟩ := bd_some hf
    refine g_callVV C (n := 0) (st := []) (c_X1_unpinAll g S13 h15) (tb_wsV _ mM_X4_100 mI_X1_unpinAll mS_X1_unpinAll mN_X1 mK_X1_unpinAll) (by decide +kernel) rfl rfl ⟨by decide, by decide⟩ 7 1 rfl rfl rfl (Nat.le_of_ble_eq_true rfl) dX4_remove_94 rfl ?_
    refine g_iload C 1 rfl dX4_remove_97 ?_
    obtain ⟨h17, hf⟩ := gd_some hf
    obtain rfl := Option.some.inj hf
    exact g_iret (hr h17) dX4_remove_99
  · skip
    refine g_if_eq C 90 (by decide) dX4_remove_56 (fun h18 => ?_) (fun h18 => ?_)
    · rw [if_pos h18] at hf
      refine g_sub [3, 0] rfl ?_
      exact hj14 S12 hf
    · rw [if_neg h18] at hf
      refine g_aload_n C 3 rfl rfl dX4_remove_59 ?_
      refine tF_X4_12 C dX4_remove_60 ?_
      refine g_iload_n C 2 rfl rfl dX4_remove_63 ?_
      refine g_iload_n C 1 rfl rfl dX4_remove_64 ?_
      obtain ⟨S20, h19, hf⟩ := bd_some hf
      refine g_callVV C (n := 2) (st := []) (c_X0_delete g S12 r4 r6 h19) (tb_wsV _ mM_X4_111 mI_X0_delete mS_X0_delete mN_X0 mK_X0_delete) (by decide +kernel) rfl rfl ⟨by decide, by decide⟩ 1 0 rfl rfl rfl (Nat.le_of_ble_eq_true rfl) dX4_remove_65 rfl ?_
      refine g_aload_n C 3 rfl rfl dX4_remove_68 ?_
      refine tF_X4_19 C dX4_remove_69 ?_
      refine g_iload_n C 2 rfl rfl dX4_remove_72 ?_
      obtain ⟨S22, h21, hf⟩ := bd_some hf
      refine g_callVV C (n := 1) (st := []) (c_X1_soil g S20 r4 h21) (tb_wsV _ mM_X4_86 mI_X1_soil mS_X1_soil mN_X1 mK_X1_soil) (by decide +kernel) rfl rfl ⟨by decide, by decide⟩ 7 1 rfl rfl rfl (Nat.le_of_ble_eq_true rfl) dX4_remove_73 rfl ?_
      refine g_aload_n C 3 rfl rfl dX4_remove_76 ?_
      refine g_dup C rfl dX4_remove_77 ?_
      refine tF_X4_41 C dX4_remove_78 ?_
      refine g_iconst C (v := 1) (by decide) dX4_remove_81 ?_
      refine g_isub C dX4_remove_82 ?_
      refine tP_X4_41 C dX4_remove_83 ?_
      refine g_aload_n C 3 rfl rfl dX4_remove_86 ?_
      obtain ⟨S24, h23, hf⟩ := bd_some hf
      refine g_callVV C (n := 0) (st := []) (c_X4_mendUpwards g (up S22 0 5 ((S22.1 0 5) - 1)) h23) (tb_wsV _ mM_X4_114 mI_X4_mendUpwards mS_X4_mendUpwards mN_X4 mK_X4_mendUpwards) (by decide +kernel) rfl rfl ⟨by decide, by decide⟩ 0 4 rfl rfl rfl (Nat.le_of_ble_eq_true rfl) dX4_remove_87 rfl ?_
      refine g_sub [3, 0] rfl ?_
      exact hj14 S24 hf
def f_X4_moveCursor (g : Nat) (S : Mem) (a1 : Int32) (a2 : Int32) : Option (Int32 × Mem) := bd (f_X0_countOf g S a1) (fun r2 => jn3 (fun (S3 : Mem) (v4 : Int32) (v5 : Int32) => jn0 (bd (f_X4_endCursor g S3) (fun S9 => some (0, S9))) (fun j7 => if v4 = ((-1)) then (j7) else (bd (f_X0_countOf g S3 v4) (fun r12 => if v5 < r12 then (bd (f_X0_keyAt g (up (up S3 0 6 v4) 0 7 v5) v4 v5) (fun r15 => bd (f_X0_secondAt g (up (up (up S3 0 6 v4) 0 7 v5) 0 8 r15) v4 v5) (fun r17 => some (1, (up (up (up (up S3 0 6 v4) 0 7 v5) 0 8 r15) 0 9 r17))))) else (j7))))) (fun j6 => if a2 < r2 then (j6 S a1 a2) else (bd (f_X0_leafAfter g S a1) (fun r20 => if r20 = ((-1)) then (j6 S r20 0) else (bd (f_X1_touch g S r20 0) (fun S23 => j6 S23 r20 0))))))
abbrev rmX4_moveCursor : Room := { frames := 3, cells := 0, slots := 0, locals := 68 }
set_option maxHeartbeats 4000000 in
set_option maxRecDepth 100000 in
theorem c_X4_moveCursor {l : Launch} {x : Ad} (g : Nat) (S : Mem) (a1 : Int32) (a2 : Int32) {z : Int32 × Mem} (hf : f_X4_moveCursor g S a1 a2 = some z) : MI l x yX4_moveCursor kX4_moveCursor rmX4_moveCursor [.ref (ax x 0), .int a1, .int a2] (cT x S) z.1 (cT x z.2) := by
  refine met_Z RX4 (by decide +kernel) rfl (Nat.le_of_ble_eq_true rfl) [(0, .ref (ax x 0)), (1, .int a1), (2, .int a2)] rfl ?_
  intro κ hl C hr
  subst hl
  rw [f_X4_moveCursor] at hf
  refine g_iload_n C 1 rfl rfl dX4_moveCursor_0 ?_
  refine g_istore_n C (lv2 := [(3, .int a1), (0, .ref (ax x 0)), (1, .int a1), (2, .int a2)]) rfl (by decide) rfl dX4_moveCursor_1 ?_
  refine g_iload_n C 3 rfl rfl dX4_moveCursor_2 ?_
  refine g_istore C (lv2 := [(4, .int a2), (3, .int a1), (0, .ref (ax x 0)), (1, .int a1), (2, .int a2)]) (by decide) rfl dX4_moveCursor_3 ?_
  refine g_iload_n C 4 rfl rfl dX4_moveCursor_5 ?_
  refine g_aload_n C 2 rfl rfl dX4_moveCursor_6 ?_
  refine tF_X4_12 C dX4_moveCursor_7 ?_
  refine g_iload_n C 3 rfl rfl dX4_moveCursor_10 ?_
  obtain ⟨r2, h1, hf⟩ := bd_some hf
  refine g_callVI C (n := 1) (st := [.int a2]) (c_X0_countOf g S a1 h1) (tb_wsV _ mM_X4_163 mI_X0_countOf mS_X0_countOf mN_X0 mK_X0_countOf) (by decide +kernel) rfl rfl ⟨by decide, by decide⟩ 1 0 rfl rfl rfl (Nat.le_of_ble_eq_true rfl) dX4_moveCursor_11 rfl ?_
  refine jn3_elim (fun (S3 : Mem) (v4 : Int32) (v5 : Int32) => GG κ x (cT x S3) 43 [(0, .ref (ax x 0)), (3, .int v4), (4, .int v5)] []) hf (fun S3 v4 v5 hf => ?_) (fun j6 hj6 hf => ?_)
  · show GG κ x (cT x S3) 43 [(0, .ref (ax x 0)), (3, .int v4), (4, .int v5)] []
    refine g_iload_n C 1 rfl rfl dX4_moveCursor_43 ?_
    refine g_iconst C (v := (-1)) (by decide) dX4_moveCursor_44 ?_
    refine jn0_elim (GG κ x (cT x S3) 61 [(0, .ref (ax x 0))] []) hf (fun hf => ?_) (fun j7 hj7 hf => ?_)
    · show GG κ x (cT x S3) 61 [(0, .ref (ax x 0))] []
      refine g_aload_n C 0 rfl rfl dX4_moveCursor_61 ?_
      obtain ⟨S9, h8, hf⟩ := bd_some hf
      refine g_callVV C (n := 0) (st := []) (c_X4_endCursor g S3 h8) (tb_wsV _ mM_X4_80 mI_X4_endCursor mS_X4_endCursor mN_X4 mK_X4_endCursor) (by decide +kernel) rfl rfl ⟨by decide, by decide⟩ 0 4 rfl rfl rfl (Nat.le_of_ble_eq_true rfl) dX4_moveCursor_62 rfl ?_
      refine g_iconst C (v := 0) (by decide) dX4_moveCursor_65 ?_
      obtain rfl := Option.some.inj hf
      exact g_iret (hr (Or.inl rfl)) dX4_moveCursor_66
    · skip
      refine g_icmp_eq C 61 (by decide) dX4_moveCursor_45 (fun h10 => ?_) (fun h10 => ?_)
      · rw [if_pos h10] at hf
        refine g_sub [0] rfl ?_
        exact hj7 hf
      · rw [if_neg h10] at hf
        refine g_iload C 2 rfl dX4_moveCursor_48 ?_
        refine g_aload_n C 0 rfl rfl dX4_moveCursor_50 ?_
        refine tF_X4_12 C dX4_moveCursor_51 ?_
        refine g_iload_n C 1 rfl rfl dX4_moveCursor_54 ?_
        obtain ⟨r12, h11, hf⟩ := bd_some hf
        refine g_callVI C (n := 1) (st := [.int v5]) (c_X0_countOf g S3 v4 h11) (tb_wsV _ mM_X4_163 mI_X0_countOf mS_X0_countOf mN_X0 mK_X0_countOf) (by decide +kernel) rfl rfl ⟨by decide, by decide⟩ 1 0 rfl rfl rfl (Nat.le_of_ble_eq_true rfl) dX4_moveCursor_55 rfl ?_
        refine g_icmp_lt C 67 (by decide) dX4_moveCursor_58 (fun h13 => ?_) (fun h13 => ?_)
        · rw [if_pos h13] at hf
          refine g_aload_n C 0 rfl rfl dX4_moveCursor_67 ?_
          refine g_iload_n C 1 rfl rfl dX4_moveCursor_68 ?_
          refine tP_X4_44 C dX4_moveCursor_69 ?_
          refine g_aload_n C 0 rfl rfl dX4_moveCursor_72 ?_
          refine g_iload C 2 rfl dX4_moveCursor_73 ?_
          refine tP_X4_127 C dX4_moveCursor_75 ?_
          refine g_aload_n C 0 rfl rfl dX4_moveCursor_78 ?_
          refine g_aload_n C 0 rfl rfl dX4_moveCursor_79 ?_
          refine tF_X4_12 C dX4_moveCursor_80 ?_
          refine g_iload_n C 1 rfl rfl dX4_moveCursor_83 ?_
          refine g_iload C 2 rfl dX4_moveCursor_84 ?_
          obtain ⟨r15, h14, hf⟩ := bd_some hf
          refine g_callVI C (n := 2) (st := [.ref (ax x 0)]) (c_X0_keyAt g (up (up S3 0 6 v4) 0 7 v5) v4 v5 h14) (tb_wsV _ mM_X4_176 mI_X0_keyAt mS_X0_keyAt mN_X0 mK_X0_keyAt) (by decide +kernel) rfl rfl ⟨by decide, by decide⟩ 1 0 rfl rfl rfl (Nat.le_of_ble_eq_true rfl) dX4_moveCursor_86 rfl ?_
          refine tP_X4_133 C dX4_moveCursor_89 ?_
          refine g_aload_n C 0 rfl rfl dX4_moveCursor_92 ?_
          refine g_aload_n C 0 rfl rfl dX4_moveCursor_93 ?_
          refine tF_X4_12 C dX4_moveCursor_94 ?_
          refine g_iload_n C 1 rfl rfl dX4_moveCursor_97 ?_
          refine g_iload C 2 rfl dX4_moveCursor_98 ?_
          obtain ⟨r17, h16, hf⟩ := bd_some hf
          refine g_callVI C (n := 2) (st := [.ref (ax x 0)]) (c_X0_secondAt g (up (up (up S3 0 6 v4) 0 7 v5) 0 8 r15) v4 v5 h16) (tb_wsV _ mM_X4_108 mI_X0_secondAt mS_X0_secondAt mN_X0 mK_X0_secondAt) (by decide +kernel) rfl rfl ⟨by decide, by decide⟩ 1 0 rfl rfl rfl (Nat.le_of_ble_eq_true rfl) dX4_moveCursor_100 rfl ?_
          refine tP_X4_130 C dX4_moveCursor_103 ?_
          refine g_iconst C (v := 1) (by decide) dX4_moveCursor_106 ?_
          obtain rfl := Option.some.inj hf
          exact g_iret (hr (Or.inr rfl)) dX4_moveCursor_107
        · rw [if_neg h13] at hf
          refine g_sub [0] rfl ?_
          exact hj7 hf
  · skip
    refine g_icmp_lt C 43 (by decide) dX4_moveCursor_14 (fun h18 => ?_) (fun h18 => ?_)
    · rw [if_pos h18] at hf
      refine g_sub [2, 1, 0] rfl ?_
      exact hj6 S a1 a2 hf
    · rw [if_neg h18] at hf
      refine g_aload_n C 2 rfl rfl dX4_moveCursor_17 ?_
      refine tF_X4_12 C dX4_moveCursor_18 ?_
      refine g_iload_n C 3 rfl rfl dX4_moveCursor_21 ?_
      obtain ⟨r20, h19, hf⟩ := bd_some hf
      refine g_callVI C (n := 1) (st := []) (c_X0_leafAfter g S a1 h19) (tb_wsV _ mM_X4_166 mI_X0_leafAfter mS_X0_leafAfter mN_X0 mK_X0_leafAfter) (by decide +kernel) rfl rfl ⟨by decide, by decide⟩ 1 0 rfl rfl rfl (Nat.le_of_ble_eq_true rfl) dX4_moveCursor_22 rfl ?_
      refine g_istore_n C (lv2 := [(3, .int r20), (4, .int a2), (0, .ref (ax x 0)), (1, .int a1), (2, .int a2)]) rfl (by decide) rfl dX4_moveCursor_25 ?_
      refine g_iconst C (v := 0) (by decide) dX4_moveCursor_26 ?_
      refine g_istore C (lv2 := [(4, .int 0), (3, .int r20), (0, .ref (ax x 0)), (1, .int a1), (2, .int a2)]) (by decide) rfl dX4_moveCursor_27 ?_
      refine g_iload_n C 1 rfl rfl dX4_moveCursor_29 ?_
      refine g_iconst C (v := (-1)) (by decide) dX4_moveCursor_30 ?_
      refine g_icmp_eq C 43 (by decide) dX4_moveCursor_31 (fun h21 => ?_) (fun h21 => ?_)
      · rw [if_pos h21] at hf
        refine g_sub [2, 1, 0] rfl ?_
        exact hj6 S r20 0 hf
      · rw [if_neg h21] at hf
        refine g_aload_n C 2 rfl rfl dX4_moveCursor_34 ?_
        refine tF_X4_19 C dX4_moveCursor_35 ?_
        refine g_iload_n C 1 rfl rfl dX4_moveCursor_38 ?_
        refine g_iconst C (v := 0) (by decide) dX4_moveCursor_39 ?_
        obtain ⟨S23, h22, hf⟩ := bd_some hf
        refine g_callVV C (n := 2) (st := []) (c_X1_touch g S r20 0 h22) (tb_wsV _ mM_X4_123 mI_X1_touch mS_X1_touch mN_X1 mK_X1_touch) (by decide +kernel) rfl rfl ⟨by decide, by decide⟩ 7 1 rfl rfl rfl (Nat.le_of_ble_eq_true rfl) dX4_moveCursor_40 rfl ?_
        refine g_sub [2, 1, 0] rfl ?_
        exact hj6 S23 r20 0 hf
def f_X4_seek (g : Nat) (S : Mem) (a1 : Int32) : Option (Int32 × Mem) := bd (f_X3_lead g S (S.1 0 4) a1) (fun S2 => bd (f_X4_touchWay g S2) (fun S4 => bd (f_X3_leaf g S4) (fun r6 => bd (f_X3_leaf g S4) (fun r8 => bd (f_X0_placeOf g S4 r8 a1) (fun r10 => bd2 (f_X4_moveCursor g S4 r6 r10) (fun r12 S13 => bd (f_X1_unpinAll g S13) (fun S15 => gd (iz r12) (some (r12, S15)))))))))
abbrev rmX4_seek : Room := { frames := 4, cells := 0, slots := 0, locals := 94 }
set_option maxHeartbeats 4000000 in
set_option maxRecDepth 100000 in
theorem c_X4_seek {l : Launch} {x : Ad} (g : Nat) (S : Mem) (a1 : Int32) {z : Int32 × Mem} (hf : f_X4_seek g S a1 = some z) : MI l x yX4_seek kX4_seek rmX4_seek [.ref (ax x 0), .int a1] (cT x S) z.1 (cT x z.2) := by
  refine met_Z RX4 (by decide +kernel) rfl (Nat.le_of_ble_eq_true rfl) [(0, .ref (ax x 0)), (1, .int a1)] rfl ?_
  intro κ hl C hr
  subst hl
  rw [f_X4_seek] at hf
  refine g_aload_n C 0 rfl rfl dX4_seek_0 ?_
  refine tF_X4_26 C dX4_seek_1 ?_
  refine g_aload_n C 0 rfl rfl dX4_seek_4 ?_
  refine tF_X4_12 C dX4_seek_5 ?_
  refine g_aload_n C 0 rfl rfl dX4_seek_8 ?_
  refine tF_X4_37 C dX4_seek_9 ?_
  refine g_iload_n C 1 rfl rfl dX4_seek_12 ?_
  obtain ⟨S2, h1, hf⟩ := bd_some hf
  refine g_callVV C (n := 3) (st := []) (c_X3_lead g S (S.1 0 4) a1 h1) (tb_wsV _ mM_X4_51 mI_X3_lead mS_X3_lead mN_X3 mK_X3_lead) (by decide +kernel) rfl rfl ⟨by decide, by decide⟩ 12 3 rfl rfl rfl (Nat.le_of_ble_eq_true rfl) dX4_seek_13 rfl ?_
  refine g_aload_n C 0 rfl rfl dX4_seek_16 ?_
  obtain ⟨S4, h3, hf⟩ := bd_some hf
  refine g_callVV C (n := 0) (st := []) (c_X4_touchWay g S2 h3) (tb_wsV _ mM_X4_83 mI_X4_touchWay mS_X4_touchWay mN_X4 mK_X4_touchWay) (by decide +kernel) rfl rfl ⟨by decide, by decide⟩ 0 4 rfl rfl rfl (Nat.le_of_ble_eq_true rfl) dX4_seek_17 rfl ?_
  refine g_aload_n C 0 rfl rfl dX4_seek_20 ?_
  refine g_aload_n C 0 rfl rfl dX4_seek_21 ?_
  refine tF_X4_26 C dX4_seek_22 ?_
  obtain ⟨r6, h5, hf⟩ := bd_some hf
  refine g_callVI C (n := 0) (st := [.ref (ax x 0)]) (c_X3_leaf g S4 h5) (tb_wsV _ mM_X4_55 mI_X3_leaf mS_X3_leaf mN_X3 mK_X3_leaf) (by decide +kernel) rfl rfl ⟨by decide, by decide⟩ 12 3 rfl rfl rfl (Nat.le_of_ble_eq_true rfl) dX4_seek_25 rfl ?_
  refine g_aload_n C 0 rfl rfl dX4_seek_28 ?_
  refine tF_X4_12 C dX4_seek_29 ?_
  refine g_aload_n C 0 rfl rfl dX4_seek_32 ?_
  refine tF_X4_26 C dX4_seek_33 ?_
  obtain ⟨r8, h7, hf⟩ := bd_some hf
  refine g_callVI C (n := 0) (st := [.ref (ax x 1), .int r6, .ref (ax x 0)]) (c_X3_leaf g S4 h7) (tb_wsV _ mM_X4_55 mI_X3_leaf mS_X3_leaf mN_X3 mK_X3_leaf) (by decide +kernel) rfl rfl ⟨by decide, by decide⟩ 12 3 rfl rfl rfl (Nat.le_of_ble_eq_true rfl) dX4_seek_36 rfl ?_
  refine g_iload_n C 1 rfl rfl dX4_seek_39 ?_
  obtain ⟨r10, h9, hf⟩ := bd_some hf
  refine g_callVI C (n := 2) (st := [.int r6, .ref (ax x 0)]) (c_X0_placeOf g S4 r8 a1 h9) (tb_wsV _ mM_X4_59 mI_X0_placeOf mS_X0_placeOf mN_X0 mK_X0_placeOf) (by decide +kernel) rfl rfl ⟨by decide, by decide⟩ 1 0 rfl rfl rfl (Nat.le_of_ble_eq_true rfl) dX4_seek_40 rfl ?_
  obtain ⟨r12, S13, h11, hf⟩ := bd2_some hf
  refine g_callVI C (n := 2) (st := []) (c_X4_moveCursor g S4 r6 r10 h11) (tb_wsV _ mM_X4_117 mI_X4_moveCursor mS_X4_moveCursor mN_X4 mK_X4_moveCursor) (by decide +kernel) rfl rfl ⟨by decide, by decide⟩ 0 4 rfl rfl rfl (Nat.le_of_ble_eq_true rfl) dX4_seek_43 rfl ?_
  refine g_istore_n C (lv2 := [(2, .int r12), (0, .ref (ax x 0)), (1, .int a1)]) rfl (by decide) rfl dX4_seek_46 ?_
  refine g_aload_n C 1 rfl rfl dX4_seek_47 ?_
  refine tF_X4_19 C dX4_seek_48 ?_
  obtain ⟨S15, h14, hf⟩ := bd_some hf
  refine g_callVV C (n := 0) (st := []) (c_X1_unpinAll g S13 h14) (tb_wsV _ mM_X4_100 mI_X1_unpinAll mS_X1_unpinAll mN_X1 mK_X1_unpinAll) (by decide +kernel) rfl rfl ⟨by decide, by decide⟩ 7 1 rfl rfl rfl (Nat.le_of_ble_eq_true rfl) dX4_seek_51 rfl ?_
  refine g_iload_n C 0 rfl rfl dX4_seek_54 ?_
  obtain ⟨h16, hf⟩ := gd_some hf
  obtain rfl := Option.some.inj hf
  exact g_iret (hr h16) dX4_seek_55
def f_X4_flush (g : Nat) (S : Mem) : Option (Int32 × Mem) := bd2 (f_X1_writeDirty g S) (fun r2 S3 => some (r2, S3))
abbrev rmX4_flush : Room := { frames := 2, cells := 0, slots := 0, locals := 44 }
set_option maxHeartbeats 4000000 in
set_option maxRecDepth 100000 in
theorem c_X4_flush {l : Launch} {x : Ad} (g : Nat) (S : Mem) {z : Int32 × Mem} (hf : f_X4_flush g S = some z) : MI l x yX4_flush kX4_flush rmX4_flush [.ref (ax x 0)] (cT x S) z.1 (cT x z.2) := by
  refine met_I RX4 (by decide +kernel) rfl (Nat.le_of_ble_eq_true rfl) [(0, .ref (ax x 0))] rfl ?_
  intro κ hl C hr
  subst hl
  rw [f_X4_flush] at hf
  refine g_aload_n C 0 rfl rfl dX4_flush_0 ?_
  refine tF_X4_19 C dX4_flush_1 ?_
  obtain ⟨r2, S3, h1, hf⟩ := bd2_some hf
  refine g_callVI C (n := 0) (st := []) (c_X1_writeDirty g S h1) (tb_wsV _ mM_X4_136 mI_X1_writeDirty mS_X1_writeDirty mN_X1 mK_X1_writeDirty) (by decide +kernel) rfl rfl ⟨by decide, by decide⟩ 7 1 rfl rfl rfl (Nat.le_of_ble_eq_true rfl) dX4_flush_4 rfl ?_
  obtain rfl := Option.some.inj hf
  exact g_iret hr dX4_flush_7
