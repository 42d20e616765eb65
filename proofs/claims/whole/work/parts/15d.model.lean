def f_X5_give (g : Nat) (S : Mem) (a1 : Int32) (a2 : Int32) (a3 : Int32) : Option (Mem) := gd (ix_in ((5 * a1) + a2) 200) (gd (ix_in (((5 * a1) + a2) + 1) 200) (gd (ix_in (S.1 4 ((5 * a1) + a2).toNatClampNeg) 40) (jn1 (fun (t4 : Int32) => jn1 (fun (S6 : Mem) => bd (f_X5_change g S6 (S.1 4 ((5 * a1) + a2).toNatClampNeg)) (fun S9 => bd (f_X5_change g S9 (S.1 4 (((5 * a1) + a2) + 1).toNatClampNeg)) (fun S11 => bd (f_X5_change g S11 a1) (fun S13 => some S13)))) (fun j7 => if a3 = 0 then (gd (ix_in (S.1 4 ((5 * a1) + a2).toNatClampNeg) 40) (jn1 (fun (t16 : Int32) => gd (ix_in (5 * (S.1 4 (((5 * a1) + a2) + 1).toNatClampNeg)) 200) (bd (f_X5_insert g S (S.1 4 ((5 * a1) + a2).toNatClampNeg) (S.1 2 (S.1 4 ((5 * a1) + a2).toNatClampNeg).toNatClampNeg) t16 (S.1 4 (5 * (S.1 4 (((5 * a1) + a2) + 1).toNatClampNeg)).toNatClampNeg)) (fun S20 => bd (f_X5_removeAt g S20 (S.1 4 (((5 * a1) + a2) + 1).toNatClampNeg) 0) (fun S22 => gd (ix_in (5 * (S.1 4 (((5 * a1) + a2) + 1).toNatClampNeg)) 200) (gd (ix_in (((5 * a1) + a2) + 1) 200) (if t4 = 0 then (j7 (up S22 3 (((5 * a1) + a2) + 1).toNatClampNeg (S22.1 3 (5 * (S.1 4 (((5 * a1) + a2) + 1).toNatClampNeg)).toNatClampNeg))) else (gd (ix_in (5 * (S.1 4 (((5 * a1) + a2) + 1).toNatClampNeg)) 200) (j7 (up (up S22 3 (((5 * a1) + a2) + 1).toNatClampNeg (S22.1 3 (5 * (S.1 4 (((5 * a1) + a2) + 1).toNatClampNeg)).toNatClampNeg)) 3 (5 * (S.1 4 (((5 * a1) + a2) + 1).toNatClampNeg)).toNatClampNeg 0))))))))) (fun j17 => if t4 = 0 then (gd (ix_in (5 * (S.1 4 (((5 * a1) + a2) + 1).toNatClampNeg)) 200) (j17 (S.1 3 (5 * (S.1 4 (((5 * a1) + a2) + 1).toNatClampNeg)).toNatClampNeg))) else (gd (ix_in (((5 * a1) + a2) + 1) 200) (j17 (S.1 3 (((5 * a1) + a2) + 1).toNatClampNeg)))))) else (gd (ix_in (S.1 4 ((5 * a1) + a2).toNatClampNeg) 40) (jn1 (fun (S31 : Mem) => gd (ix_in (((5 * (S.1 4 ((5 * a1) + a2).toNatClampNeg)) + (S.1 2 (S.1 4 ((5 * a1) + a2).toNatClampNeg).toNatClampNeg)) - 1) 200) (jn1 (fun (t34 : Int32) => gd (ix_in (((5 * (S.1 4 ((5 * a1) + a2).toNatClampNeg)) + (S.1 2 (S.1 4 ((5 * a1) + a2).toNatClampNeg).toNatClampNeg)) - 1) 200) (bd (f_X5_insert g S31 (S.1 4 (((5 * a1) + a2) + 1).toNatClampNeg) 0 t34 (S31.1 4 (((5 * (S.1 4 ((5 * a1) + a2).toNatClampNeg)) + (S.1 2 (S.1 4 ((5 * a1) + a2).toNatClampNeg).toNatClampNeg)) - 1).toNatClampNeg)) (fun S38 => gd (ix_in (S.1 4 ((5 * a1) + a2).toNatClampNeg) 40) (gd (ix_in (S.1 4 ((5 * a1) + a2).toNatClampNeg) 40) (gd (ix_in (((5 * a1) + a2) + 1) 200) (j7 (up (up S38 2 (S.1 4 ((5 * a1) + a2).toNatClampNeg).toNatClampNeg ((S38.1 2 (S.1 4 ((5 * a1) + a2).toNatClampNeg).toNatClampNeg) - 1)) 3 (((5 * a1) + a2) + 1).toNatClampNeg (S31.1 3 (((5 * (S.1 4 ((5 * a1) + a2).toNatClampNeg)) + (S.1 2 (S.1 4 ((5 * a1) + a2).toNatClampNeg).toNatClampNeg)) - 1).toNatClampNeg)))))))) (fun j35 => if t4 = 0 then (j35 (S31.1 3 (((5 * (S.1 4 ((5 * a1) + a2).toNatClampNeg)) + (S.1 2 (S.1 4 ((5 * a1) + a2).toNatClampNeg).toNatClampNeg)) - 1).toNatClampNeg)) else (j35 0)))) (fun j32 => if t4 = 0 then (j32 S) else (gd (ix_in (((5 * a1) + a2) + 1) 200) (gd (ix_in (5 * (S.1 4 (((5 * a1) + a2) + 1).toNatClampNeg)) 200) (j32 (up S 3 (5 * (S.1 4 (((5 * a1) + a2) + 1).toNatClampNeg)).toNatClampNeg (S.1 3 (((5 * a1) + a2) + 1).toNatClampNeg)))))))))) (fun j5 => if (S.1 1 (S.1 4 ((5 * a1) + a2).toNatClampNeg).toNatClampNeg) = 2 then (j5 1) else (j5 0)))))
abbrev rmX5_give : Room := { frames := 2, cells := 0, slots := 0, locals := 44 }
set_option maxHeartbeats 4000000 in
set_option maxRecDepth 100000 in
theorem c_X5_give {l : Launch} {x : Ad} (g : Nat) (S : Mem) (a1 : Int32) (a2 : Int32) (a3 : Int32) {z : Mem} (hf : f_X5_give g S a1 a2 a3 = some z) : MV l x yX5_give kX5_give rmX5_give [.ref (ax x 30), .int a1, .int a2, .int a3] (cM x S) (cM x z) := by
  refine met_V RX5 (by decide +kernel) rfl (Nat.le_of_ble_eq_true rfl) [(0, .ref (ax x 30)), (1, .int a1), (2, .int a2), (3, .int a3)] rfl ?_
  intro κ hl C hr
  subst hl
  rw [f_X5_give] at hf
  refine g_aload_n C 0 rfl rfl dX5_give_0 ?_
  refine rF_X5_19 C dX5_give_1 ?_
  refine g_iconst C (v := 5) (by decide) dX5_give_4 ?_
  refine g_iload_n C 1 rfl rfl dX5_give_5 ?_
  refine g_imul C dX5_give_6 ?_
  refine g_iload_n C 2 rfl rfl dX5_give_7 ?_
  refine g_iadd C dX5_give_8 ?_
  obtain ⟨h1, hf⟩ := gd_some hf
  refine rL_4 C h1 dX5_give_9 ?_
  refine g_istore C (lv2 := [(4, .int (S.1 4 ((5 * a1) + a2).toNatClampNeg)), (0, .ref (ax x 30)), (1, .int a1), (2, .int a2), (3, .int a3)]) (by decide) rfl dX5_give_10 ?_
  refine g_aload_n C 1 rfl rfl dX5_give_12 ?_
  refine rF_X5_19 C dX5_give_13 ?_
  refine g_iconst C (v := 5) (by decide) dX5_give_16 ?_
  refine g_iload_n C 2 rfl rfl dX5_give_17 ?_
  refine g_imul C dX5_give_18 ?_
  refine g_iload_n C 3 rfl rfl dX5_give_19 ?_
  refine g_iadd C dX5_give_20 ?_
  refine g_iconst C (v := 1) (by decide) dX5_give_21 ?_
  refine g_iadd C dX5_give_22 ?_
  obtain ⟨h2, hf⟩ := gd_some hf
  refine rL_4 C h2 dX5_give_23 ?_
  refine g_istore C (lv2 := [(5, .int (S.1 4 (((5 * a1) + a2) + 1).toNatClampNeg)), (4, .int (S.1 4 ((5 * a1) + a2).toNatClampNeg)), (0, .ref (ax x 30)), (1, .int a1), (2, .int a2), (3, .int a3)]) (by decide) rfl dX5_give_24 ?_
  refine g_iconst C (v := 5) (by decide) dX5_give_26 ?_
  refine g_iload_n C 3 rfl rfl dX5_give_27 ?_
  refine g_imul C dX5_give_28 ?_
  refine g_iload_n C 4 rfl rfl dX5_give_29 ?_
  refine g_iadd C dX5_give_30 ?_
  refine g_iconst C (v := 1) (by decide) dX5_give_31 ?_
  refine g_iadd C dX5_give_32 ?_
  refine g_istore C (lv2 := [(6, .int (((5 * a1) + a2) + 1)), (5, .int (S.1 4 (((5 * a1) + a2) + 1).toNatClampNeg)), (4, .int (S.1 4 ((5 * a1) + a2).toNatClampNeg)), (0, .ref (ax x 30)), (1, .int a1), (2, .int a2), (3, .int a3)]) (by decide) rfl dX5_give_33 ?_
  refine g_aload_n C 3 rfl rfl dX5_give_35 ?_
  refine rF_X5_7 C dX5_give_36 ?_
  refine g_iload C 2 rfl dX5_give_39 ?_
  obtain ⟨h3, hf⟩ := gd_some hf
  refine rL_1 C h3 dX5_give_41 ?_
  refine g_iconst C (v := 2) (by decide) dX5_give_42 ?_
  refine jn1_elim (fun (t4 : Int32) => GG κ x (cM x S) 51 [(0, .ref (ax x 30)), (1, .int a1), (3, .int a3), (4, .int (S.1 4 ((5 * a1) + a2).toNatClampNeg)), (5, .int (S.1 4 (((5 * a1) + a2) + 1).toNatClampNeg)), (6, .int (((5 * a1) + a2) + 1))] [.int t4]) hf (fun t4 hf => ?_) (fun j5 hj5 hf => ?_)
  · show GG κ x (cM x S) 51 [(0, .ref (ax x 30)), (1, .int a1), (3, .int a3), (4, .int (S.1 4 ((5 * a1) + a2).toNatClampNeg)), (5, .int (S.1 4 (((5 * a1) + a2) + 1).toNatClampNeg)), (6, .int (((5 * a1) + a2) + 1))] [.int t4]
    refine g_istore C (lv2 := [(7, .int t4), (0, .ref (ax x 30)), (1, .int a1), (3, .int a3), (4, .int (S.1 4 ((5 * a1) + a2).toNatClampNeg)), (5, .int (S.1 4 (((5 * a1) + a2) + 1).toNatClampNeg)), (6, .int (((5 * a1) + a2) + 1))]) (by decide) rfl dX5_give_51 ?_
    refine g_iload_n C 3 rfl rfl dX5_give_53 ?_
    refine jn1_elim (fun (S6 : Mem) => GG κ x (cM x S6) 235 [(0, .ref (ax x 30)), (1, .int a1), (4, .int (S.1 4 ((5 * a1) + a2).toNatClampNeg)), (5, .int (S.1 4 (((5 * a1) + a2) + 1).toNatClampNeg))] []) hf (fun S6 hf => ?_) (fun j7 hj7 hf => ?_)
    · show GG κ x (cM x S6) 235 [(0, .ref (ax x 30)), (1, .int a1), (4, .int (S.1 4 ((5 * a1) + a2).toNatClampNeg)), (5, .int (S.1 4 (((5 * a1) + a2) + 1).toNatClampNeg))] []
      refine g_aload_n C 0 rfl rfl dX5_give_235 ?_
      refine g_iload C 2 rfl dX5_give_236 ?_
      obtain ⟨S9, h8, hf⟩ := bd_some hf
      refine g_callVV C (n := 1) (st := []) (c_X5_change g S6 (S.1 4 ((5 * a1) + a2).toNatClampNeg) h8) (tb_wsV _ mM_X5_88 mI_X5_change mS_X5_change mN_X5 mK_X5_change) (by decide +kernel) rfl rfl ⟨by decide, by decide⟩ 0 5 rfl rfl rfl (Nat.le_of_ble_eq_true rfl) dX5_give_238 rfl ?_
      refine g_aload_n C 0 rfl rfl dX5_give_241 ?_
      refine g_iload C 3 rfl dX5_give_242 ?_
      obtain ⟨S11, h10, hf⟩ := bd_some hf
      refine g_callVV C (n := 1) (st := []) (c_X5_change g S9 (S.1 4 (((5 * a1) + a2) + 1).toNatClampNeg) h10) (tb_wsV _ mM_X5_88 mI_X5_change mS_X5_change mN_X5 mK_X5_change) (by decide +kernel) rfl rfl ⟨by decide, by decide⟩ 0 5 rfl rfl rfl (Nat.le_of_ble_eq_true rfl) dX5_give_244 rfl ?_
      refine g_aload_n C 0 rfl rfl dX5_give_247 ?_
      refine g_iload_n C 1 rfl rfl dX5_give_248 ?_
      obtain ⟨S13, h12, hf⟩ := bd_some hf
      refine g_callVV C (n := 1) (st := []) (c_X5_change g S11 a1 h12) (tb_wsV _ mM_X5_88 mI_X5_change mS_X5_change mN_X5 mK_X5_change) (by decide +kernel) rfl rfl ⟨by decide, by decide⟩ 0 5 rfl rfl rfl (Nat.le_of_ble_eq_true rfl) dX5_give_249 rfl ?_
      obtain rfl := Option.some.inj hf
      exact g_vret hr dX5_give_252
    · skip
      refine g_if_eq C 151 (by decide) dX5_give_54 (fun h14 => ?_) (fun h14 => ?_)
      · rw [if_pos h14] at hf
        refine g_aload_n C 1 rfl rfl dX5_give_151 ?_
        refine g_iload C 4 rfl dX5_give_152 ?_
        refine g_aload_n C 1 rfl rfl dX5_give_154 ?_
        refine rF_X5_13 C dX5_give_155 ?_
        refine g_iload C 4 rfl dX5_give_158 ?_
        obtain ⟨h15, hf⟩ := gd_some hf
        refine rL_2 C h15 dX5_give_160 ?_
        refine g_iload C 0 rfl dX5_give_161 ?_
        refine jn1_elim (fun (t16 : Int32) => GG κ x (cM x S) 185 [(0, .ref (ax x 30)), (1, .int a1), (4, .int (S.1 4 ((5 * a1) + a2).toNatClampNeg)), (5, .int (S.1 4 (((5 * a1) + a2) + 1).toNatClampNeg)), (6, .int (((5 * a1) + a2) + 1)), (7, .int t4)] [.int t16, .int (S.1 2 (S.1 4 ((5 * a1) + a2).toNatClampNeg).toNatClampNeg), .int (S.1 4 ((5 * a1) + a2).toNatClampNeg), .ref (ax x 30)]) hf (fun t16 hf => ?_) (fun j17 hj17 hf => ?_)
        · show GG κ x (cM x S) 185 [(0, .ref (ax x 30)), (1, .int a1), (4, .int (S.1 4 ((5 * a1) + a2).toNatClampNeg)), (5, .int (S.1 4 (((5 * a1) + a2) + 1).toNatClampNeg)), (6, .int (((5 * a1) + a2) + 1)), (7, .int t4)] [.int t16, .int (S.1 2 (S.1 4 ((5 * a1) + a2).toNatClampNeg).toNatClampNeg), .int (S.1 4 ((5 * a1) + a2).toNatClampNeg), .ref (ax x 30)]
          refine g_aload_n C 0 rfl rfl dX5_give_185 ?_
          refine rF_X5_19 C dX5_give_186 ?_
          refine g_iconst C (v := 5) (by decide) dX5_give_189 ?_
          refine g_iload C 3 rfl dX5_give_190 ?_
          refine g_imul C dX5_give_192 ?_
          obtain ⟨h18, hf⟩ := gd_some hf
          refine rL_4 C h18 dX5_give_193 ?_
          obtain ⟨S20, h19, hf⟩ := bd_some hf
          refine g_callVV C (n := 4) (st := []) (c_X5_insert g S (S.1 4 ((5 * a1) + a2).toNatClampNeg) (S.1 2 (S.1 4 ((5 * a1) + a2).toNatClampNeg).toNatClampNeg) t16 (S.1 4 (5 * (S.1 4 (((5 * a1) + a2) + 1).toNatClampNeg)).toNatClampNeg) h19) (tb_wsV _ mM_X5_84 mI_X5_insert mS_X5_insert mN_X5 mK_X5_insert) (by decide +kernel) rfl rfl ⟨by decide, by decide⟩ 0 5 rfl rfl rfl (Nat.le_of_ble_eq_true rfl) dX5_give_194 rfl ?_
          refine g_aload_n C 0 rfl rfl dX5_give_197 ?_
          refine g_iload C 3 rfl dX5_give_198 ?_
          refine g_iconst C (v := 0) (by decide) dX5_give_200 ?_
          obtain ⟨S22, h21, hf⟩ := bd_some hf
          refine g_callVV C (n := 2) (st := []) (c_X5_removeAt g S20 (S.1 4 (((5 * a1) + a2) + 1).toNatClampNeg) 0 h21) (tb_wsV _ mM_X5_124 mI_X5_removeAt mS_X5_removeAt mN_X5 mK_X5_removeAt) (by decide +kernel) rfl rfl ⟨by decide, by decide⟩ 0 5 rfl rfl rfl (Nat.le_of_ble_eq_true rfl) dX5_give_201 rfl ?_
          refine g_aload_n C 0 rfl rfl dX5_give_204 ?_
          refine rF_X5_16 C dX5_give_205 ?_
          refine g_iload C 4 rfl dX5_give_208 ?_
          refine g_aload_n C 0 rfl rfl dX5_give_210 ?_
          refine rF_X5_16 C dX5_give_211 ?_
          refine g_iconst C (v := 5) (by decide) dX5_give_214 ?_
          refine g_iload C 3 rfl dX5_give_215 ?_
          refine g_imul C dX5_give_217 ?_
          obtain ⟨h23, hf⟩ := gd_some hf
          refine rL_3 C h23 dX5_give_218 ?_
          obtain ⟨h24, hf⟩ := gd_some hf
          refine rS_3 C h24 dX5_give_219 ?_
          refine g_iload C 5 rfl dX5_give_220 ?_
          refine g_if_eq C 235 (by decide) dX5_give_222 (fun h25 => ?_) (fun h25 => ?_)
          · rw [if_pos h25] at hf
            refine g_sub [0, 1, 2, 3] rfl ?_
            exact hj7 (up S22 3 (((5 * a1) + a2) + 1).toNatClampNeg (S22.1 3 (5 * (S.1 4 (((5 * a1) + a2) + 1).toNatClampNeg)).toNatClampNeg)) hf
          · rw [if_neg h25] at hf
            refine g_aload_n C 0 rfl rfl dX5_give_225 ?_
            refine rF_X5_16 C dX5_give_226 ?_
            refine g_iconst C (v := 5) (by decide) dX5_give_229 ?_
            refine g_iload C 3 rfl dX5_give_230 ?_
            refine g_imul C dX5_give_232 ?_
            refine g_iconst C (v := 0) (by decide) dX5_give_233 ?_
            obtain ⟨h26, hf⟩ := gd_some hf
            refine rS_3 C h26 dX5_give_234 ?_
            refine g_sub [0, 1, 2, 3] rfl ?_
            exact hj7 (up (up S22 3 (((5 * a1) + a2) + 1).toNatClampNeg (S22.1 3 (5 * (S.1 4 (((5 * a1) + a2) + 1).toNatClampNeg)).toNatClampNeg)) 3 (5 * (S.1 4 (((5 * a1) + a2) + 1).toNatClampNeg)).toNatClampNeg 0) hf
        · skip
          refine g_if_eq C 176 (by decide) dX5_give_163 (fun h27 => ?_) (fun h27 => ?_)
          · rw [if_pos h27] at hf
            refine g_aload_n C 1 rfl rfl dX5_give_176 ?_
            refine rF_X5_16 C dX5_give_177 ?_
            refine g_iconst C (v := 5) (by decide) dX5_give_180 ?_
            refine g_iload C 5 rfl dX5_give_181 ?_
            refine g_imul C dX5_give_183 ?_
            obtain ⟨h28, hf⟩ := gd_some hf
            refine rL_3 C h28 dX5_give_184 ?_
            refine g_sub [1, 2, 4, 5, 6, 0] rfl ?_
            exact hj17 (S.1 3 (5 * (S.1 4 (((5 * a1) + a2) + 1).toNatClampNeg)).toNatClampNeg) hf
          · rw [if_neg h27] at hf
            refine g_aload_n C 1 rfl rfl dX5_give_166 ?_
            refine rF_X5_16 C dX5_give_167 ?_
            refine g_iload C 6 rfl dX5_give_170 ?_
            obtain ⟨h29, hf⟩ := gd_some hf
            refine rL_3 C h29 dX5_give_172 ?_
            refine g_goto C 185 (by decide) dX5_give_173 ?_
            refine g_sub [1, 2, 4, 5, 6, 0] rfl ?_
            exact hj17 (S.1 3 (((5 * a1) + a2) + 1).toNatClampNeg) hf
      · rw [if_neg h14] at hf
        refine g_iconst C (v := 5) (by decide) dX5_give_57 ?_
        refine g_iload C 4 rfl dX5_give_58 ?_
        refine g_imul C dX5_give_60 ?_
        refine g_aload_n C 1 rfl rfl dX5_give_61 ?_
        refine rF_X5_13 C dX5_give_62 ?_
        refine g_iload C 4 rfl dX5_give_65 ?_
        obtain ⟨h30, hf⟩ := gd_some hf
        refine rL_2 C h30 dX5_give_67 ?_
        refine g_iadd C dX5_give_68 ?_
        refine g_iconst C (v := 1) (by decide) dX5_give_69 ?_
        refine g_isub C dX5_give_70 ?_
        refine g_istore C (lv2 := [(8, .int (((5 * (S.1 4 ((5 * a1) + a2).toNatClampNeg)) + (S.1 2 (S.1 4 ((5 * a1) + a2).toNatClampNeg).toNatClampNeg)) - 1)), (7, .int t4), (0, .ref (ax x 30)), (1, .int a1), (3, .int a3), (4, .int (S.1 4 ((5 * a1) + a2).toNatClampNeg)), (5, .int (S.1 4 (((5 * a1) + a2) + 1).toNatClampNeg)), (6, .int (((5 * a1) + a2) + 1))]) (by decide) rfl dX5_give_71 ?_
        refine g_iload C 1 rfl dX5_give_73 ?_
        refine jn1_elim (fun (S31 : Mem) => GG κ x (cM x S31) 94 [(0, .ref (ax x 30)), (1, .int a1), (4, .int (S.1 4 ((5 * a1) + a2).toNatClampNeg)), (5, .int (S.1 4 (((5 * a1) + a2) + 1).toNatClampNeg)), (6, .int (((5 * a1) + a2) + 1)), (7, .int t4), (8, .int (((5 * (S.1 4 ((5 * a1) + a2).toNatClampNeg)) + (S.1 2 (S.1 4 ((5 * a1) + a2).toNatClampNeg).toNatClampNeg)) - 1))] []) hf (fun S31 hf => ?_) (fun j32 hj32 hf => ?_)
        · show GG κ x (cM x S31) 94 [(0, .ref (ax x 30)), (1, .int a1), (4, .int (S.1 4 ((5 * a1) + a2).toNatClampNeg)), (5, .int (S.1 4 (((5 * a1) + a2) + 1).toNatClampNeg)), (6, .int (((5 * a1) + a2) + 1)), (7, .int t4), (8, .int (((5 * (S.1 4 ((5 * a1) + a2).toNatClampNeg)) + (S.1 2 (S.1 4 ((5 * a1) + a2).toNatClampNeg).toNatClampNeg)) - 1))] []
          refine g_aload_n C 0 rfl rfl dX5_give_94 ?_
          refine rF_X5_16 C dX5_give_95 ?_
          refine g_iload C 6 rfl dX5_give_98 ?_
          obtain ⟨h33, hf⟩ := gd_some hf
          refine rL_3 C h33 dX5_give_100 ?_
          refine g_istore C (lv2 := [(9, .int (S31.1 3 (((5 * (S.1 4 ((5 * a1) + a2).toNatClampNeg)) + (S.1 2 (S.1 4 ((5 * a1) + a2).toNatClampNeg).toNatClampNeg)) - 1).toNatClampNeg)), (0, .ref (ax x 30)), (1, .int a1), (4, .int (S.1 4 ((5 * a1) + a2).toNatClampNeg)), (5, .int (S.1 4 (((5 * a1) + a2) + 1).toNatClampNeg)), (6, .int (((5 * a1) + a2) + 1)), (7, .int t4), (8, .int (((5 * (S.1 4 ((5 * a1) + a2).toNatClampNeg)) + (S.1 2 (S.1 4 ((5 * a1) + a2).toNatClampNeg).toNatClampNeg)) - 1))]) (by decide) rfl dX5_give_101 ?_
          refine g_aload_n C 1 rfl rfl dX5_give_103 ?_
          refine g_iload C 4 rfl dX5_give_104 ?_
          refine g_iconst C (v := 0) (by decide) dX5_give_106 ?_
          refine g_iload C 6 rfl dX5_give_107 ?_
          refine jn1_elim (fun (t34 : Int32) => GG κ x (cM x S31) 118 [(0, .ref (ax x 30)), (1, .int a1), (4, .int (S.1 4 ((5 * a1) + a2).toNatClampNeg)), (5, .int (S.1 4 (((5 * a1) + a2) + 1).toNatClampNeg)), (6, .int (((5 * a1) + a2) + 1)), (8, .int (((5 * (S.1 4 ((5 * a1) + a2).toNatClampNeg)) + (S.1 2 (S.1 4 ((5 * a1) + a2).toNatClampNeg).toNatClampNeg)) - 1)), (9, .int (S31.1 3 (((5 * (S.1 4 ((5 * a1) + a2).toNatClampNeg)) + (S.1 2 (S.1 4 ((5 * a1) + a2).toNatClampNeg).toNatClampNeg)) - 1).toNatClampNeg))] [.int t34, .int 0, .int (S.1 4 (((5 * a1) + a2) + 1).toNatClampNeg), .ref (ax x 30)]) hf (fun t34 hf => ?_) (fun j35 hj35 hf => ?_)
          · show GG κ x (cM x S31) 118 [(0, .ref (ax x 30)), (1, .int a1), (4, .int (S.1 4 ((5 * a1) + a2).toNatClampNeg)), (5, .int (S.1 4 (((5 * a1) + a2) + 1).toNatClampNeg)), (6, .int (((5 * a1) + a2) + 1)), (8, .int (((5 * (S.1 4 ((5 * a1) + a2).toNatClampNeg)) + (S.1 2 (S.1 4 ((5 * a1) + a2).toNatClampNeg).toNatClampNeg)) - 1)), (9, .int (S31.1 3 (((5 * (S.1 4 ((5 * a1) + a2).toNatClampNeg)) + (S.1 2 (S.1 4 ((5 * a1) + a2).toNatClampNeg).toNatClampNeg)) - 1).toNatClampNeg))] [.int t34, .int 0, .int (S.1 4 (((5 * a1) + a2) + 1).toNatClampNeg), .ref (ax x 30)]
            refine g_aload_n C 0 rfl rfl dX5_give_118 ?_
            refine rF_X5_19 C dX5_give_119 ?_
            refine g_iload C 5 rfl dX5_give_122 ?_
            obtain ⟨h36, hf⟩ := gd_some hf
            refine rL_4 C h36 dX5_give_124 ?_
            obtain ⟨S38, h37, hf⟩ := bd_some hf
            refine g_callVV C (n := 4) (st := []) (c_X5_insert g S31 (S.1 4 (((5 * a1) + a2) + 1).toNatClampNeg) 0 t34 (S31.1 4 (((5 * (S.1 4 ((5 * a1) + a2).toNatClampNeg)) + (S.1 2 (S.1 4 ((5 * a1) + a2).toNatClampNeg).toNatClampNeg)) - 1).toNatClampNeg) h37) (tb_wsV _ mM_X5_84 mI_X5_insert mS_X5_insert mN_X5 mK_X5_insert) (by decide +kernel) rfl rfl ⟨by decide, by decide⟩ 0 5 rfl rfl rfl (Nat.le_of_ble_eq_true rfl) dX5_give_125 rfl ?_
            refine g_aload_n C 0 rfl rfl dX5_give_128 ?_
            refine rF_X5_13 C dX5_give_129 ?_
            refine g_iload C 2 rfl dX5_give_132 ?_
            refine g_dup2 C rfl rfl dX5_give_134 ?_
            obtain ⟨h39, hf⟩ := gd_some hf
            refine rL_2 C h39 dX5_give_135 ?_
            refine g_iconst C (v := 1) (by decide) dX5_give_136 ?_
            refine g_isub C dX5_give_137 ?_
            obtain ⟨h40, hf⟩ := gd_some hf
            refine rS_2 C h40 dX5_give_138 ?_
            refine g_aload_n C 0 rfl rfl dX5_give_139 ?_
            refine rF_X5_16 C dX5_give_140 ?_
            refine g_iload C 4 rfl dX5_give_143 ?_
            refine g_iload C 6 rfl dX5_give_145 ?_
            obtain ⟨h41, hf⟩ := gd_some hf
            refine rS_3 C h41 dX5_give_147 ?_
            refine g_goto C 235 (by decide) dX5_give_148 ?_
            refine g_sub [0, 1, 2, 3] rfl ?_
            exact hj7 (up (up S38 2 (S.1 4 ((5 * a1) + a2).toNatClampNeg).toNatClampNeg ((S38.1 2 (S.1 4 ((5 * a1) + a2).toNatClampNeg).toNatClampNeg) - 1)) 3 (((5 * a1) + a2) + 1).toNatClampNeg (S31.1 3 (((5 * (S.1 4 ((5 * a1) + a2).toNatClampNeg)) + (S.1 2 (S.1 4 ((5 * a1) + a2).toNatClampNeg).toNatClampNeg)) - 1).toNatClampNeg)) hf
          · skip
            refine g_if_eq C 116 (by decide) dX5_give_109 (fun h42 => ?_) (fun h42 => ?_)
            · rw [if_pos h42] at hf
              refine g_iload C 0 rfl dX5_give_116 ?_
              refine g_sub [1, 2, 3, 4, 5, 7, 0] rfl ?_
              exact hj35 (S31.1 3 (((5 * (S.1 4 ((5 * a1) + a2).toNatClampNeg)) + (S.1 2 (S.1 4 ((5 * a1) + a2).toNatClampNeg).toNatClampNeg)) - 1).toNatClampNeg) hf
            · rw [if_neg h42] at hf
              refine g_iconst C (v := 0) (by decide) dX5_give_112 ?_
              refine g_goto C 118 (by decide) dX5_give_113 ?_
              refine g_sub [1, 2, 3, 4, 5, 7, 0] rfl ?_
              exact hj35 0 hf
        · skip
          refine g_if_eq C 94 (by decide) dX5_give_75 (fun h43 => ?_) (fun h43 => ?_)
          · rw [if_pos h43] at hf
            refine g_sub [2, 3, 5, 6, 7, 1, 0] rfl ?_
            exact hj32 S hf
          · rw [if_neg h43] at hf
            refine g_aload_n C 2 rfl rfl dX5_give_78 ?_
            refine rF_X5_16 C dX5_give_79 ?_
            refine g_iconst C (v := 5) (by decide) dX5_give_82 ?_
            refine g_iload C 6 rfl dX5_give_83 ?_
            refine g_imul C dX5_give_85 ?_
            refine g_aload_n C 2 rfl rfl dX5_give_86 ?_
            refine rF_X5_16 C dX5_give_87 ?_
            refine g_iload C 7 rfl dX5_give_90 ?_
            obtain ⟨h44, hf⟩ := gd_some hf
            refine rL_3 C h44 dX5_give_92 ?_
            obtain ⟨h45, hf⟩ := gd_some hf
            refine rS_3 C h45 dX5_give_93 ?_
            refine g_sub [2, 3, 5, 6, 7, 1, 0] rfl ?_
            exact hj32 (up S 3 (5 * (S.1 4 (((5 * a1) + a2) + 1).toNatClampNeg)).toNatClampNeg (S.1 3 (((5 * a1) + a2) + 1).toNatClampNeg)) hf
  · skip
    refine g_icmp_ne C 50 (by decide) dX5_give_43 (fun h46 => ?_) (fun h46 => ?_)
    · rw [if_neg h46] at hf
      refine g_iconst C (v := 0) (by decide) dX5_give_50 ?_
      refine g_sub [3, 4, 6, 2, 1, 0] rfl ?_
      exact hj5 0 hf
    · rw [if_pos h46] at hf
      refine g_iconst C (v := 1) (by decide) dX5_give_46 ?_
      refine g_goto C 51 (by decide) dX5_give_47 ?_
      refine g_sub [3, 4, 6, 2, 1, 0] rfl ?_
      exact hj5 1 hf
def f_X5_join_59 (g : Nat) (w1 : Int32) (w2 : Int32) (w3 : Int32) (w4 : Int32) (kx : Mem → Option (Mem)) : Nat → Mem → Int32 → Option (Mem)
  | 0, _, _ => none
  | n + 1, S, w5 => gd (ix_in w4 40) (if (S.1 2 w4.toNatClampNeg) ≤ w5 then (kx S) else (gd (ix_in w3 40) (gd (ix_in ((5 * w4) + w5) 200) (gd (ix_in ((5 * w4) + w5) 200) (bd (f_X5_insert g S w3 (S.1 2 w3.toNatClampNeg) (S.1 3 ((5 * w4) + w5).toNatClampNeg) (S.1 4 ((5 * w4) + w5).toNatClampNeg)) (fun S12 => f_X5_join_59 g w1 w2 w3 w4 kx n S12 (w5 + 1)))))))
def f_X5_join (g : Nat) (S : Mem) (a1 : Int32) (a2 : Int32) : Option (Mem) := gd (ix_in ((5 * a1) + a2) 200) (gd (ix_in (((5 * a1) + a2) + 1) 200) (gd (ix_in (S.1 4 ((5 * a1) + a2).toNatClampNeg) 40) (jn1 (fun (S4 : Mem) => f_X5_join_59 g a1 a2 (S.1 4 ((5 * a1) + a2).toNatClampNeg) (S.1 4 (((5 * a1) + a2) + 1).toNatClampNeg) (fun (S13 : Mem) => gd (ix_in (S.1 4 (((5 * a1) + a2) + 1).toNatClampNeg) 40) (gd (ix_in (S.1 4 ((5 * a1) + a2).toNatClampNeg) 40) (bd (f_X5_removeAt g (up S13 5 (S.1 4 ((5 * a1) + a2).toNatClampNeg).toNatClampNeg (S13.1 5 (S.1 4 (((5 * a1) + a2) + 1).toNatClampNeg).toNatClampNeg)) a1 (a2 + 1)) (fun S17 => bd (f_X5_release g S17 (S.1 4 (((5 * a1) + a2) + 1).toNatClampNeg)) (fun S19 => bd (f_X5_change g S19 (S.1 4 ((5 * a1) + a2).toNatClampNeg)) (fun S21 => bd (f_X5_change g S21 a1) (fun S23 => some S23))))))) g S4 0) (fun j5 => if (S.1 1 (S.1 4 ((5 * a1) + a2).toNatClampNeg).toNatClampNeg) = 2 then (gd (ix_in (((5 * a1) + a2) + 1) 200) (gd (ix_in (5 * (S.1 4 (((5 * a1) + a2) + 1).toNatClampNeg)) 200) (j5 (up S 3 (5 * (S.1 4 (((5 * a1) + a2) + 1).toNatClampNeg)).toNatClampNeg (S.1 3 (((5 * a1) + a2) + 1).toNatClampNeg))))) else (j5 S)))))
abbrev rmX5_join : Room := { frames := 2, cells := 0, slots := 0, locals := 45 }
set_option maxHeartbeats 4000000 in
set_option maxRecDepth 100000 in
theorem lp_X5_join_59 {κ : Kx} {x : Ad} (C : Cx κ x cX5_join RX5 kX5_join rmX5_join 6) {z : Mem} (hr : RV κ x cX5_join (cM x z)) (g : Nat) (w1 : Int32) (w2 : Int32) (w3 : Int32) (w4 : Int32) (kx : Mem → Option (Mem)) (hk : ∀ (S1 : Mem), kx S1 = some z → GG κ x (cM x S1) 112 [(0, .ref (ax x 30)), (1, .int w1), (2, .int w2), (3, .int w3), (4, .int w4)] []) : ∀ (n : Nat) (S : Mem) (w5 : Int32), f_X5_join_59 g w1 w2 w3 w4 kx n S w5 = some z → GG κ x (cM x S) 59 [(0, .ref (ax x 30)), (1, .int w1), (2, .int w2), (3, .int w3), (4, .int w4), (5, .int w5)] [] := by
  intro n
  induction n with
  | zero => intro S w5 hf; cases hf
  | succ n ih =>
    intro S w5 hf
    rw [f_X5_join_59] at hf
    refine g_iload C 5 rfl dX5_join_59 ?_
    refine g_aload_n C 0 rfl rfl dX5_join_61 ?_
    refine rF_X5_13 C dX5_join_62 ?_
    refine g_iload C 4 rfl dX5_join_65 ?_
    obtain ⟨h6, hf⟩ := gd_some hf
    refine rL_2 C h6 dX5_join_67 ?_
    refine g_icmp_ge C 112 (by decide) dX5_join_68 (fun h7 => ?_) (fun h7 => ?_)
    · rw [if_pos h7] at hf
      refine g_sub [0, 1, 2, 3, 4] rfl ?_
      exact hk S hf
    · rw [if_neg h7] at hf
      refine g_aload_n C 0 rfl rfl dX5_join_71 ?_
      refine g_iload_n C 3 rfl rfl dX5_join_72 ?_
      refine g_aload_n C 0 rfl rfl dX5_join_73 ?_
      refine rF_X5_13 C dX5_join_74 ?_
      refine g_iload_n C 3 rfl rfl dX5_join_77 ?_
      obtain ⟨h8, hf⟩ := gd_some hf
      refine rL_2 C h8 dX5_join_78 ?_
      refine g_aload_n C 0 rfl rfl dX5_join_79 ?_
      refine rF_X5_16 C dX5_join_80 ?_
      refine g_iconst C (v := 5) (by decide) dX5_join_83 ?_
      refine g_iload C 4 rfl dX5_join_84 ?_
      refine g_imul C dX5_join_86 ?_
      refine g_iload C 5 rfl dX5_join_87 ?_
      refine g_iadd C dX5_join_89 ?_
      obtain ⟨h9, hf⟩ := gd_some hf
      refine rL_3 C h9 dX5_join_90 ?_
      refine g_aload_n C 0 rfl rfl dX5_join_91 ?_
      refine rF_X5_19 C dX5_join_92 ?_
      refine g_iconst C (v := 5) (by decide) dX5_join_95 ?_
      refine g_iload C 4 rfl dX5_join_96 ?_
      refine g_imul C dX5_join_98 ?_
      refine g_iload C 5 rfl dX5_join_99 ?_
      refine g_iadd C dX5_join_101 ?_
      obtain ⟨h10, hf⟩ := gd_some hf
      refine rL_4 C h10 dX5_join_102 ?_
      obtain ⟨S12, h11, hf⟩ := bd_some hf
      refine g_callVV C (n := 4) (st := []) (c_X5_insert g S w3 (S.1 2 w3.toNatClampNeg) (S.1 3 ((5 * w4) + w5).toNatClampNeg) (S.1 4 ((5 * w4) + w5).toNatClampNeg) h11) (tb_wsV _ mM_X5_84 mI_X5_insert mS_X5_insert mN_X5 mK_X5_insert) (by decide +kernel) rfl rfl ⟨by decide, by decide⟩ 0 5 rfl rfl rfl (Nat.le_of_ble_eq_true rfl) dX5_join_103 rfl ?_
      refine g_iinc C (v := w5 + 1) (lv2 := [(5, .int (w5 + 1)), (0, .ref (ax x 30)), (1, .int w1), (2, .int w2), (3, .int w3), (4, .int w4)]) 5 rfl (by rw [(by decide : Int32.ofInt 1 = 1)]) (by decide) rfl dX5_join_106 ?_
      refine g_goto C 59 (by decide) dX5_join_109 ?_
      refine g_sub [1, 2, 3, 4, 5, 0] rfl ?_
      exact ih S12 (w5 + 1) hf
set_option maxHeartbeats 4000000 in
set_option maxRecDepth 100000 in
theorem c_X5_join {l : Launch} {x : Ad} (g : Nat) (S : Mem) (a1 : Int32) (a2 : Int32) {z : Mem} (hf : f_X5_join g S a1 a2 = some z) : MV l x yX5_join kX5_join rmX5_join [.ref (ax x 30), .int a1, .int a2] (cM x S) (cM x z) := by
  refine met_V RX5 (by decide +kernel) rfl (Nat.le_of_ble_eq_true rfl) [(0, .ref (ax x 30)), (1, .int a1), (2, .int a2)] rfl ?_
  intro κ hl C hr
  subst hl
  rw [f_X5_join] at hf
  refine g_aload_n C 0 rfl rfl dX5_join_0 ?_
  refine rF_X5_19 C dX5_join_1 ?_
  refine g_iconst C (v := 5) (by decide) dX5_join_4 ?_
  refine g_iload_n C 1 rfl rfl dX5_join_5 ?_
  refine g_imul C dX5_join_6 ?_
  refine g_iload_n C 2 rfl rfl dX5_join_7 ?_
  refine g_iadd C dX5_join_8 ?_
  obtain ⟨h1, hf⟩ := gd_some hf
  refine rL_4 C h1 dX5_join_9 ?_
  refine g_istore_n C (lv2 := [(3, .int (S.1 4 ((5 * a1) + a2).toNatClampNeg)), (0, .ref (ax x 30)), (1, .int a1), (2, .int a2)]) rfl (by decide) rfl dX5_join_10 ?_
  refine g_aload_n C 1 rfl rfl dX5_join_11 ?_
  refine rF_X5_19 C dX5_join_12 ?_
  refine g_iconst C (v := 5) (by decide) dX5_join_15 ?_
  refine g_iload_n C 2 rfl rfl dX5_join_16 ?_
  refine g_imul C dX5_join_17 ?_
  refine g_iload_n C 3 rfl rfl dX5_join_18 ?_
  refine g_iadd C dX5_join_19 ?_
  refine g_iconst C (v := 1) (by decide) dX5_join_20 ?_
  refine g_iadd C dX5_join_21 ?_
  obtain ⟨h2, hf⟩ := gd_some hf
  refine rL_4 C h2 dX5_join_22 ?_
  refine g_istore C (lv2 := [(4, .int (S.1 4 (((5 * a1) + a2) + 1).toNatClampNeg)), (3, .int (S.1 4 ((5 * a1) + a2).toNatClampNeg)), (0, .ref (ax x 30)), (1, .int a1), (2, .int a2)]) (by decide) rfl dX5_join_23 ?_
  refine g_aload_n C 2 rfl rfl dX5_join_25 ?_
  refine rF_X5_7 C dX5_join_26 ?_
  refine g_iload_n C 1 rfl rfl dX5_join_29 ?_
  obtain ⟨h3, hf⟩ := gd_some hf
  refine rL_1 C h3 dX5_join_30 ?_
  refine g_iconst C (v := 2) (by decide) dX5_join_31 ?_
  refine jn1_elim (fun (S4 : Mem) => GG κ x (cM x S4) 56 [(0, .ref (ax x 30)), (1, .int a1), (2, .int a2), (3, .int (S.1 4 ((5 * a1) + a2).toNatClampNeg)), (4, .int (S.1 4 (((5 * a1) + a2) + 1).toNatClampNeg))] []) hf (fun S4 hf => ?_) (fun j5 hj5 hf => ?_)
  · show GG κ x (cM x S4) 56 [(0, .ref (ax x 30)), (1, .int a1), (2, .int a2), (3, .int (S.1 4 ((5 * a1) + a2).toNatClampNeg)), (4, .int (S.1 4 (((5 * a1) + a2) + 1).toNatClampNeg))] []
    refine g_iconst C (v := 0) (by decide) dX5_join_56 ?_
    refine g_istore C (lv2 := [(5, .int 0), (0, .ref (ax x 30)), (1, .int a1), (2, .int a2), (3, .int (S.1 4 ((5 * a1) + a2).toNatClampNeg)), (4, .int (S.1 4 (((5 * a1) + a2) + 1).toNatClampNeg))]) (by decide) rfl dX5_join_57 ?_
    refine g_sub [1, 2, 3, 4, 5, 0] rfl ?_
    refine lp_X5_join_59 C hr g a1 a2 (S.1 4 ((5 * a1) + a2).toNatClampNeg) (S.1 4 (((5 * a1) + a2) + 1).toNatClampNeg) _ (fun S13 hf => ?_) g S4 0 hf
    refine g_aload_n C 0 rfl rfl dX5_join_112 ?_
    refine rF_X5_22 C dX5_join_113 ?_
    refine g_iload_n C 3 rfl rfl dX5_join_116 ?_
    refine g_aload_n C 0 rfl rfl dX5_join_117 ?_
    refine rF_X5_22 C dX5_join_118 ?_
    refine g_iload C 4 rfl dX5_join_121 ?_
    obtain ⟨h14, hf⟩ := gd_some hf
    refine rL_5 C h14 dX5_join_123 ?_
    obtain ⟨h15, hf⟩ := gd_some hf
    refine rS_5 C h15 dX5_join_124 ?_
    refine g_aload_n C 0 rfl rfl dX5_join_125 ?_
    refine g_iload_n C 1 rfl rfl dX5_join_126 ?_
    refine g_iload_n C 2 rfl rfl dX5_join_127 ?_
    refine g_iconst C (v := 1) (by decide) dX5_join_128 ?_
    refine g_iadd C dX5_join_129 ?_
    obtain ⟨S17, h16, hf⟩ := bd_some hf
    refine g_callVV C (n := 2) (st := []) (c_X5_removeAt g (up S13 5 (S.1 4 ((5 * a1) + a2).toNatClampNeg).toNatClampNeg (S13.1 5 (S.1 4 (((5 * a1) + a2) + 1).toNatClampNeg).toNatClampNeg)) a1 (a2 + 1) h16) (tb_wsV _ mM_X5_124 mI_X5_removeAt mS_X5_removeAt mN_X5 mK_X5_removeAt) (by decide +kernel) rfl rfl ⟨by decide, by decide⟩ 0 5 rfl rfl rfl (Nat.le_of_ble_eq_true rfl) dX5_join_130 rfl ?_
    refine g_aload_n C 0 rfl rfl dX5_join_133 ?_
    refine g_iload C 4 rfl dX5_join_134 ?_
    obtain ⟨S19, h18, hf⟩ := bd_some hf
    refine g_callVV C (n := 1) (st := []) (c_X5_release g S17 (S.1 4 (((5 * a1) + a2) + 1).toNatClampNeg) h18) (tb_wsV _ mM_X5_128 mI_X5_release mS_X5_release mN_X5 mK_X5_release) (by decide +kernel) rfl rfl ⟨by decide, by decide⟩ 0 5 rfl rfl rfl (Nat.le_of_ble_eq_true rfl) dX5_join_136 rfl ?_
    refine g_aload_n C 0 rfl rfl dX5_join_139 ?_
    refine g_iload_n C 3 rfl rfl dX5_join_140 ?_
    obtain ⟨S21, h20, hf⟩ := bd_some hf
    refine g_callVV C (n := 1) (st := []) (c_X5_change g S19 (S.1 4 ((5 * a1) + a2).toNatClampNeg) h20) (tb_wsV _ mM_X5_88 mI_X5_change mS_X5_change mN_X5 mK_X5_change) (by decide +kernel) rfl rfl ⟨by decide, by decide⟩ 0 5 rfl rfl rfl (Nat.le_of_ble_eq_true rfl) dX5_join_141 rfl ?_
    refine g_aload_n C 0 rfl rfl dX5_join_144 ?_
    refine g_iload_n C 1 rfl rfl dX5_join_145 ?_
    obtain ⟨S23, h22, hf⟩ := bd_some hf
    refine g_callVV C (n := 1) (st := []) (c_X5_change g S21 a1 h22) (tb_wsV _ mM_X5_88 mI_X5_change mS_X5_change mN_X5 mK_X5_change) (by decide +kernel) rfl rfl ⟨by decide, by decide⟩ 0 5 rfl rfl rfl (Nat.le_of_ble_eq_true rfl) dX5_join_146 rfl ?_
    obtain rfl := Option.some.inj hf
    exact g_vret hr dX5_join_149
  · skip
    refine g_icmp_ne C 56 (by decide) dX5_join_32 (fun h24 => ?_) (fun h24 => ?_)
    · rw [if_neg h24] at hf
      refine g_sub [2, 3, 4, 1, 0] rfl ?_
      exact hj5 S hf
    · rw [if_pos h24] at hf
      refine g_aload_n C 2 rfl rfl dX5_join_35 ?_
      refine rF_X5_16 C dX5_join_36 ?_
      refine g_iconst C (v := 5) (by decide) dX5_join_39 ?_
      refine g_iload C 0 rfl dX5_join_40 ?_
      refine g_imul C dX5_join_42 ?_
      refine g_aload_n C 2 rfl rfl dX5_join_43 ?_
      refine rF_X5_16 C dX5_join_44 ?_
      refine g_iconst C (v := 5) (by decide) dX5_join_47 ?_
      refine g_iload_n C 3 rfl rfl dX5_join_48 ?_
      refine g_imul C dX5_join_49 ?_
      refine g_iload_n C 4 rfl rfl dX5_join_50 ?_
      refine g_iadd C dX5_join_51 ?_
      refine g_iconst C (v := 1) (by decide) dX5_join_52 ?_
      refine g_iadd C dX5_join_53 ?_
      obtain ⟨h25, hf⟩ := gd_some hf
      refine rL_3 C h25 dX5_join_54 ?_
      obtain ⟨h26, hf⟩ := gd_some hf
      refine rS_3 C h26 dX5_join_55 ?_
      refine g_sub [2, 3, 4, 1, 0] rfl ?_
      exact hj5 (up S 3 (5 * (S.1 4 (((5 * a1) + a2) + 1).toNatClampNeg)).toNatClampNeg (S.1 3 (((5 * a1) + a2) + 1).toNatClampNeg)) hf
