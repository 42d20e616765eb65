def f_X2_isAstray (g : Nat) (S : Mem) (a3 : Int32) (a4 : Int32) : Option (Int32) := if a4 < 0 then (some 0) else (if a4 < 40 then (bd (f_X0_kindOf g S a4) (fun r4 => if r4 = 0 then (gd (ix_in a4 40) (if (S.1 17 a4.toNatClampNeg) = 0 then (bd (f_X1_countHolding g S a4) (fun r43 => if r43 = 0 then (some 0) else (some 1))) else (some 1))) else (gd (ix_in a4 40) (bd (f_X0_countLevels g S a3) (fun r8 => jn1 (fun (t9 : Int32) => gd (ix_in a4 40) (if (S.1 17 a4.toNatClampNeg) = 1 then (bd (f_X1_countHolding g S a4) (fun r14 => if 1 < r14 then (some 1) else (bd (f_X0_kindOf g S a4) (fun r17 => jn1 (fun (t18 : Int32) => if t18 = t9 then (bd (f_X0_leafAfter g S a4) (fun r22 => bd (f_X2_leafDueAfter g S a4) (fun r24 => if r22 = r24 then (jn1 (fun (t26 : Int32) => bd (f_X2_countIsRight g S a4 t26) (fun r29 => if r29 = 0 then (some 1) else (bd (f_X2_childrenArePages g S a4) (fun r32 => if r32 = 0 then (some 1) else (bd (f_X2_keysAreInPlace g S a4) (fun r35 => if r35 = 0 then (some 1) else (some 0))))))) (fun j27 => if a4 = a3 then (j27 1) else (j27 0))) else (some 1)))) else (some 1)) (fun j19 => if r17 = 1 then (j19 1) else (j19 0)))))) else (some 1))) (fun j10 => if (S.1 18 a4.toNatClampNeg) = r8 then (j10 1) else (j10 0))))))) else (some 0))
abbrev rmX2_isAstray : Room := { frames := 3, cells := 0, slots := 0, locals := 74 }
set_option maxHeartbeats 4000000 in
set_option maxRecDepth 100000 in
theorem c_X2_isAstray {l : Launch} {x : Ad} (g : Nat) (S : Mem) (a3 : Int32) (a4 : Int32) {z : Int32} (hf : f_X2_isAstray g S a3 a4 = some z) : MI l x yX2_isAstray kX2_isAstray rmX2_isAstray [.ref (ax x 15), .ref (ax x 1), .ref (ax x 7), .int a3, .int a4] (cT x S) z (cT x S) := by
  refine met_Z RX2 (by decide +kernel) rfl (Nat.le_of_ble_eq_true rfl) [(0, .ref (ax x 15)), (1, .ref (ax x 1)), (2, .ref (ax x 7)), (3, .int a3), (4, .int a4)] rfl ?_
  intro κ hl C hr
  subst hl
  rw [f_X2_isAstray] at hf
  refine g_iload C 4 rfl dX2_isAstray_0 ?_
  refine g_if_lt C 12 (by decide) dX2_isAstray_2 (fun h1 => ?_) (fun h1 => ?_)
  · rw [if_pos h1] at hf
    refine g_iconst C (v := 0) (by decide) dX2_isAstray_12 ?_
    obtain rfl := Option.some.inj hf
    exact g_iret (hr (Or.inl rfl)) dX2_isAstray_13
  · rw [if_neg h1] at hf
    refine g_iload C 4 rfl dX2_isAstray_5 ?_
    refine g_bipush C (v := 40) (by decide) dX2_isAstray_7 ?_
    refine g_icmp_lt C 14 (by decide) dX2_isAstray_9 (fun h2 => ?_) (fun h2 => ?_)
    · rw [if_pos h2] at hf
      refine g_aload_n C 1 rfl rfl dX2_isAstray_14 ?_
      refine g_iload C 4 rfl dX2_isAstray_15 ?_
      obtain ⟨r4, h3, hf⟩ := bd_some hf
      refine g_callVI C (n := 1) (st := []) (c_X0_kindOf g S a4 h3) (tb_wsV _ mM_X2_54 mI_X0_kindOf mS_X0_kindOf mN_X0 mK_X0_kindOf) (by decide +kernel) rfl rfl ⟨by decide, by decide⟩ 1 0 rfl rfl rfl (Nat.le_of_ble_eq_true rfl) dX2_isAstray_17 rfl ?_
      refine g_if_ne C 48 (by decide) dX2_isAstray_20 (fun h5 => ?_) (fun h5 => ?_)
      · rw [if_neg h5] at hf
        refine g_aload_n C 0 rfl rfl dX2_isAstray_48 ?_
        refine tF_X2_18 C dX2_isAstray_49 ?_
        refine g_iload C 4 rfl dX2_isAstray_52 ?_
        obtain ⟨h6, hf⟩ := gd_some hf
        refine tL_18 C h6 dX2_isAstray_54 ?_
        refine g_aload_n C 1 rfl rfl dX2_isAstray_55 ?_
        refine g_iload_n C 3 rfl rfl dX2_isAstray_56 ?_
        obtain ⟨r8, h7, hf⟩ := bd_some hf
        refine g_callVI C (n := 1) (st := [.int (S.1 18 a4.toNatClampNeg)]) (c_X0_countLevels g S a3 h7) (tb_wsV _ mM_X2_75 mI_X0_countLevels mS_X0_countLevels mN_X0 mK_X0_countLevels) (by decide +kernel) rfl rfl ⟨by decide, by decide⟩ 1 0 rfl rfl rfl (Nat.le_of_ble_eq_true rfl) dX2_isAstray_57 rfl ?_
        refine jn1_elim (fun (t9 : Int32) => GG κ x (cT x S) 68 [(0, .ref (ax x 15)), (1, .ref (ax x 1)), (2, .ref (ax x 7)), (3, .int a3), (4, .int a4)] [.int t9]) hf (fun t9 hf => ?_) (fun j10 hj10 hf => ?_)
        · show GG κ x (cT x S) 68 [(0, .ref (ax x 15)), (1, .ref (ax x 1)), (2, .ref (ax x 7)), (3, .int a3), (4, .int a4)] [.int t9]
          refine g_istore C (lv2 := [(5, .int t9), (0, .ref (ax x 15)), (1, .ref (ax x 1)), (2, .ref (ax x 7)), (3, .int a3), (4, .int a4)]) (by decide) rfl dX2_isAstray_68 ?_
          refine g_aload_n C 1 rfl rfl dX2_isAstray_70 ?_
          refine tF_X2_15 C dX2_isAstray_71 ?_
          refine g_iload C 5 rfl dX2_isAstray_74 ?_
          obtain ⟨h11, hf⟩ := gd_some hf
          refine tL_17 C h11 dX2_isAstray_76 ?_
          refine g_iconst C (v := 1) (by decide) dX2_isAstray_77 ?_
          refine g_icmp_ne C 168 (by decide) dX2_isAstray_78 (fun h12 => ?_) (fun h12 => ?_)
          · rw [if_neg h12] at hf
            refine g_iconst C (v := 1) (by decide) dX2_isAstray_168 ?_
            refine g_goto C 173 (by decide) dX2_isAstray_169 ?_
            obtain rfl := Option.some.inj hf
            exact g_iret (hr (Or.inr rfl)) dX2_isAstray_173
          · rw [if_pos h12] at hf
            refine g_aload_n C 3 rfl rfl dX2_isAstray_81 ?_
            refine g_iload C 5 rfl dX2_isAstray_82 ?_
            obtain ⟨r14, h13, hf⟩ := bd_some hf
            refine g_callVI C (n := 1) (st := []) (c_X1_countHolding g S a4 h13) (tb_wsV _ mM_X2_70 mI_X1_countHolding mS_X1_countHolding mN_X1 mK_X1_countHolding) (by decide +kernel) rfl rfl ⟨by decide, by decide⟩ 7 1 rfl rfl rfl (Nat.le_of_ble_eq_true rfl) dX2_isAstray_84 rfl ?_
            refine g_iconst C (v := 1) (by decide) dX2_isAstray_87 ?_
            refine g_icmp_gt C 168 (by decide) dX2_isAstray_88 (fun h15 => ?_) (fun h15 => ?_)
            · rw [if_pos h15] at hf
              refine g_iconst C (v := 1) (by decide) dX2_isAstray_168 ?_
              refine g_goto C 173 (by decide) dX2_isAstray_169 ?_
              obtain rfl := Option.some.inj hf
              exact g_iret (hr (Or.inr rfl)) dX2_isAstray_173
            · rw [if_neg h15] at hf
              refine g_aload_n C 2 rfl rfl dX2_isAstray_91 ?_
              refine g_iload C 5 rfl dX2_isAstray_92 ?_
              obtain ⟨r17, h16, hf⟩ := bd_some hf
              refine g_callVI C (n := 1) (st := []) (c_X0_kindOf g S a4 h16) (tb_wsV _ mM_X2_54 mI_X0_kindOf mS_X0_kindOf mN_X0 mK_X0_kindOf) (by decide +kernel) rfl rfl ⟨by decide, by decide⟩ 1 0 rfl rfl rfl (Nat.le_of_ble_eq_true rfl) dX2_isAstray_94 rfl ?_
              refine g_iconst C (v := 1) (by decide) dX2_isAstray_97 ?_
              refine jn1_elim (fun (t18 : Int32) => GG κ x (cT x S) 106 [(0, .ref (ax x 15)), (1, .ref (ax x 1)), (3, .int a3), (4, .int a4), (5, .int t9)] [.int t18]) hf (fun t18 hf => ?_) (fun j19 hj19 hf => ?_)
              · show GG κ x (cT x S) 106 [(0, .ref (ax x 15)), (1, .ref (ax x 1)), (3, .int a3), (4, .int a4), (5, .int t9)] [.int t18]
                refine g_iload C 4 rfl dX2_isAstray_106 ?_
                refine g_icmp_ne C 168 (by decide) dX2_isAstray_108 (fun h20 => ?_) (fun h20 => ?_)
                · rw [if_neg h20] at hf
                  refine g_iconst C (v := 1) (by decide) dX2_isAstray_168 ?_
                  refine g_goto C 173 (by decide) dX2_isAstray_169 ?_
                  obtain rfl := Option.some.inj hf
                  exact g_iret (hr (Or.inr rfl)) dX2_isAstray_173
                · rw [if_pos h20] at hf
                  refine g_aload_n C 1 rfl rfl dX2_isAstray_111 ?_
                  refine g_iload C 3 rfl dX2_isAstray_112 ?_
                  obtain ⟨r22, h21, hf⟩ := bd_some hf
                  refine g_callVI C (n := 1) (st := []) (c_X0_leafAfter g S a4 h21) (tb_wsV _ mM_X2_78 mI_X0_leafAfter mS_X0_leafAfter mN_X0 mK_X0_leafAfter) (by decide +kernel) rfl rfl ⟨by decide, by decide⟩ 1 0 rfl rfl rfl (Nat.le_of_ble_eq_true rfl) dX2_isAstray_114 rfl ?_
                  refine g_aload_n C 0 rfl rfl dX2_isAstray_117 ?_
                  refine g_aload_n C 1 rfl rfl dX2_isAstray_118 ?_
                  refine g_iload C 3 rfl dX2_isAstray_119 ?_
                  obtain ⟨r24, h23, hf⟩ := bd_some hf
                  refine g_callVI C (n := 2) (st := [.int r22]) (c_X2_leafDueAfter g S a4 h23) (tb_wsV _ mM_X2_81 mI_X2_leafDueAfter mS_X2_leafDueAfter mN_X2 mK_X2_leafDueAfter) (by decide +kernel) rfl rfl ⟨by decide, by decide⟩ 15 2 rfl rfl rfl (Nat.le_of_ble_eq_true rfl) dX2_isAstray_121 rfl ?_
                  refine g_icmp_ne C 168 (by decide) dX2_isAstray_124 (fun h25 => ?_) (fun h25 => ?_)
                  · rw [if_neg h25] at hf
                    refine g_iconst C (v := 1) (by decide) dX2_isAstray_168 ?_
                    refine g_goto C 173 (by decide) dX2_isAstray_169 ?_
                    obtain rfl := Option.some.inj hf
                    exact g_iret (hr (Or.inr rfl)) dX2_isAstray_173
                  · rw [if_pos h25] at hf
                    refine g_aload_n C 0 rfl rfl dX2_isAstray_127 ?_
                    refine g_aload_n C 1 rfl rfl dX2_isAstray_128 ?_
                    refine g_iload C 3 rfl dX2_isAstray_129 ?_
                    refine g_iload C 3 rfl dX2_isAstray_131 ?_
                    refine g_iload_n C 2 rfl rfl dX2_isAstray_133 ?_
                    refine jn1_elim (fun (t26 : Int32) => GG κ x (cT x S) 142 [(0, .ref (ax x 15)), (1, .ref (ax x 1)), (4, .int a4)] [.int t26, .int a4, .ref (ax x 1), .ref (ax x 15)]) hf (fun t26 hf => ?_) (fun j27 hj27 hf => ?_)
                    · show GG κ x (cT x S) 142 [(0, .ref (ax x 15)), (1, .ref (ax x 1)), (4, .int a4)] [.int t26, .int a4, .ref (ax x 1), .ref (ax x 15)]
                      obtain ⟨r29, h28, hf⟩ := bd_some hf
                      refine g_callVI C (n := 3) (st := []) (c_X2_countIsRight g S a4 t26 h28) (tb_wsV _ mM_X2_85 mI_X2_countIsRight mS_X2_countIsRight mN_X2 mK_X2_countIsRight) (by decide +kernel) rfl rfl ⟨by decide, by decide⟩ 15 2 rfl rfl rfl (Nat.le_of_ble_eq_true rfl) dX2_isAstray_142 rfl ?_
                      refine g_if_eq C 168 (by decide) dX2_isAstray_145 (fun h30 => ?_) (fun h30 => ?_)
                      · rw [if_pos h30] at hf
                        refine g_iconst C (v := 1) (by decide) dX2_isAstray_168 ?_
                        refine g_goto C 173 (by decide) dX2_isAstray_169 ?_
                        obtain rfl := Option.some.inj hf
                        exact g_iret (hr (Or.inr rfl)) dX2_isAstray_173
                      · rw [if_neg h30] at hf
                        refine g_aload_n C 0 rfl rfl dX2_isAstray_148 ?_
                        refine g_aload_n C 1 rfl rfl dX2_isAstray_149 ?_
                        refine g_iload C 2 rfl dX2_isAstray_150 ?_
                        obtain ⟨r32, h31, hf⟩ := bd_some hf
                        refine g_callVI C (n := 2) (st := []) (c_X2_childrenArePages g S a4 h31) (tb_wsV _ mM_X2_89 mI_X2_childrenArePages mS_X2_childrenArePages mN_X2 mK_X2_childrenArePages) (by decide +kernel) rfl rfl ⟨by decide, by decide⟩ 15 2 rfl rfl rfl (Nat.le_of_ble_eq_true rfl) dX2_isAstray_152 rfl ?_
                        refine g_if_eq C 168 (by decide) dX2_isAstray_155 (fun h33 => ?_) (fun h33 => ?_)
                        · rw [if_pos h33] at hf
                          refine g_iconst C (v := 1) (by decide) dX2_isAstray_168 ?_
                          refine g_goto C 173 (by decide) dX2_isAstray_169 ?_
                          obtain rfl := Option.some.inj hf
                          exact g_iret (hr (Or.inr rfl)) dX2_isAstray_173
                        · rw [if_neg h33] at hf
                          refine g_aload_n C 0 rfl rfl dX2_isAstray_158 ?_
                          refine g_aload_n C 1 rfl rfl dX2_isAstray_159 ?_
                          refine g_iload C 2 rfl dX2_isAstray_160 ?_
                          obtain ⟨r35, h34, hf⟩ := bd_some hf
                          refine g_callVI C (n := 2) (st := []) (c_X2_keysAreInPlace g S a4 h34) (tb_wsV _ mM_X2_93 mI_X2_keysAreInPlace mS_X2_keysAreInPlace mN_X2 mK_X2_keysAreInPlace) (by decide +kernel) rfl rfl ⟨by decide, by decide⟩ 15 2 rfl rfl rfl (Nat.le_of_ble_eq_true rfl) dX2_isAstray_162 rfl ?_
                          refine g_if_ne C 172 (by decide) dX2_isAstray_165 (fun h36 => ?_) (fun h36 => ?_)
                          · rw [if_neg h36] at hf
                            refine g_iconst C (v := 0) (by decide) dX2_isAstray_172 ?_
                            obtain rfl := Option.some.inj hf
                            exact g_iret (hr (Or.inl rfl)) dX2_isAstray_173
                          · rw [if_pos h36] at hf
                            refine g_iconst C (v := 1) (by decide) dX2_isAstray_168 ?_
                            refine g_goto C 173 (by decide) dX2_isAstray_169 ?_
                            obtain rfl := Option.some.inj hf
                            exact g_iret (hr (Or.inr rfl)) dX2_isAstray_173
                    · skip
                      refine g_icmp_ne C 141 (by decide) dX2_isAstray_134 (fun h37 => ?_) (fun h37 => ?_)
                      · rw [if_neg h37] at hf
                        refine g_iconst C (v := 0) (by decide) dX2_isAstray_141 ?_
                        refine g_sub [0, 1, 3] rfl ?_
                        exact hj27 0 hf
                      · rw [if_pos h37] at hf
                        refine g_iconst C (v := 1) (by decide) dX2_isAstray_137 ?_
                        refine g_goto C 142 (by decide) dX2_isAstray_138 ?_
                        refine g_sub [0, 1, 3] rfl ?_
                        exact hj27 1 hf
              · skip
                refine g_icmp_ne C 105 (by decide) dX2_isAstray_98 (fun h38 => ?_) (fun h38 => ?_)
                · rw [if_neg h38] at hf
                  refine g_iconst C (v := 0) (by decide) dX2_isAstray_105 ?_
                  refine g_sub [1, 2, 4, 5, 0] rfl ?_
                  exact hj19 0 hf
                · rw [if_pos h38] at hf
                  refine g_iconst C (v := 1) (by decide) dX2_isAstray_101 ?_
                  refine g_goto C 106 (by decide) dX2_isAstray_102 ?_
                  refine g_sub [1, 2, 4, 5, 0] rfl ?_
                  exact hj19 1 hf
        · skip
          refine g_icmp_ne C 67 (by decide) dX2_isAstray_60 (fun h39 => ?_) (fun h39 => ?_)
          · rw [if_neg h39] at hf
            refine g_iconst C (v := 0) (by decide) dX2_isAstray_67 ?_
            refine g_sub [0, 1, 2, 3, 4] rfl ?_
            exact hj10 0 hf
          · rw [if_pos h39] at hf
            refine g_iconst C (v := 1) (by decide) dX2_isAstray_63 ?_
            refine g_goto C 68 (by decide) dX2_isAstray_64 ?_
            refine g_sub [0, 1, 2, 3, 4] rfl ?_
            exact hj10 1 hf
      · rw [if_pos h5] at hf
        refine g_aload_n C 0 rfl rfl dX2_isAstray_23 ?_
        refine tF_X2_15 C dX2_isAstray_24 ?_
        refine g_iload C 4 rfl dX2_isAstray_27 ?_
        obtain ⟨h40, hf⟩ := gd_some hf
        refine tL_17 C h40 dX2_isAstray_29 ?_
        refine g_if_ne C 42 (by decide) dX2_isAstray_30 (fun h41 => ?_) (fun h41 => ?_)
        · rw [if_neg h41] at hf
          refine g_iconst C (v := 1) (by decide) dX2_isAstray_42 ?_
          refine g_goto C 47 (by decide) dX2_isAstray_43 ?_
          obtain rfl := Option.some.inj hf
          exact g_iret (hr (Or.inr rfl)) dX2_isAstray_47
        · rw [if_pos h41] at hf
          refine g_aload_n C 2 rfl rfl dX2_isAstray_33 ?_
          refine g_iload C 4 rfl dX2_isAstray_34 ?_
          obtain ⟨r43, h42, hf⟩ := bd_some hf
          refine g_callVI C (n := 1) (st := []) (c_X1_countHolding g S a4 h42) (tb_wsV _ mM_X2_70 mI_X1_countHolding mS_X1_countHolding mN_X1 mK_X1_countHolding) (by decide +kernel) rfl rfl ⟨by decide, by decide⟩ 7 1 rfl rfl rfl (Nat.le_of_ble_eq_true rfl) dX2_isAstray_36 rfl ?_
          refine g_if_eq C 46 (by decide) dX2_isAstray_39 (fun h44 => ?_) (fun h44 => ?_)
          · rw [if_pos h44] at hf
            refine g_iconst C (v := 0) (by decide) dX2_isAstray_46 ?_
            obtain rfl := Option.some.inj hf
            exact g_iret (hr (Or.inl rfl)) dX2_isAstray_47
          · rw [if_neg h44] at hf
            refine g_iconst C (v := 1) (by decide) dX2_isAstray_42 ?_
            refine g_goto C 47 (by decide) dX2_isAstray_43 ?_
            obtain rfl := Option.some.inj hf
            exact g_iret (hr (Or.inr rfl)) dX2_isAstray_47
    · rw [if_neg h2] at hf
      refine g_iconst C (v := 0) (by decide) dX2_isAstray_12 ?_
      obtain rfl := Option.some.inj hf
      exact g_iret (hr (Or.inl rfl)) dX2_isAstray_13
def f_X2_countAstray_28 (g : Nat) (w3 : Int32) (kx : Mem → Option (Int32 × Mem)) : Nat → Mem → Int32 → Option (Int32 × Mem)
  | 0, _, _ => none
  | n + 1, S, w4 => if 40 ≤ w4 then (kx S) else (if (S.1 15 1) ≤ w4 then (kx S) else (gd (ix_in w4 40) (bd (f_X2_meetChildren g S (S.1 16 w4.toNatClampNeg)) (fun S7 => f_X2_countAstray_28 g w3 kx n S7 (w4 + 1)))))
def f_X2_countAstray_68 (g : Nat) (S : Mem) (w3 : Int32) : Nat → Int32 → Int32 → Option (Int32 × Mem)
  | 0, _, _ => none
  | n + 1, w4, w5 => if 40 ≤ w5 then (some (w4, S)) else (bd (f_X2_isAstray g S w3 w5) (fun r11 => if r11 = 0 then (f_X2_countAstray_68 g S w3 n w4 (w5 + 1)) else (f_X2_countAstray_68 g S w3 n (w4 + 1) (w5 + 1))))
def f_X2_countAstray (g : Nat) (S : Mem) (a3 : Int32) : Option (Int32 × Mem) := bd (f_X2_meet g (up (upF S 17 40 0) 15 1 0) a3 1 ((-2147483648)) 2147483648) (fun S2 => f_X2_countAstray_28 g a3 (fun (S8 : Mem) => f_X2_countAstray_68 g S8 a3 g 0 0) g S2 0)
abbrev rmX2_countAstray : Room := { frames := 4, cells := 0, slots := 0, locals := 99 }
set_option maxHeartbeats 4000000 in
set_option maxRecDepth 100000 in
theorem lp_X2_countAstray_28 {κ : Kx} {x : Ad} (C : Cx κ x cX2_countAstray RX2 kX2_countAstray rmX2_countAstray 6) {z : Int32 × Mem} (hr : RI κ x cX2_countAstray (cT x z.2) z.1) (g : Nat) (w3 : Int32) (kx : Mem → Option (Int32 × Mem)) (hk : ∀ (S1 : Mem), kx S1 = some z → GG κ x (cT x S1) 62 [(0, .ref (ax x 15)), (1, .ref (ax x 1)), (2, .ref (ax x 7)), (3, .int w3)] []) : ∀ (n : Nat) (S : Mem) (w4 : Int32), f_X2_countAstray_28 g w3 kx n S w4 = some z → GG κ x (cT x S) 28 [(0, .ref (ax x 15)), (1, .ref (ax x 1)), (2, .ref (ax x 7)), (3, .int w3), (4, .int w4)] [] := by
  intro n
  induction n with
  | zero => intro S w4 hf; cases hf
  | succ n ih =>
    intro S w4 hf
    rw [f_X2_countAstray_28] at hf
    refine g_iload C 4 rfl dX2_countAstray_28 ?_
    refine g_bipush C (v := 40) (by decide) dX2_countAstray_30 ?_
    refine g_icmp_ge C 62 (by decide) dX2_countAstray_32 (fun h3 => ?_) (fun h3 => ?_)
    · rw [if_pos h3] at hf
      refine g_sub [0, 1, 2, 3] rfl ?_
      exact hk S hf
    · rw [if_neg h3] at hf
      refine g_iload C 4 rfl dX2_countAstray_35 ?_
      refine g_aload_n C 0 rfl rfl dX2_countAstray_37 ?_
      refine tF_X2_34 C dX2_countAstray_38 ?_
      refine g_icmp_ge C 62 (by decide) dX2_countAstray_41 (fun h4 => ?_) (fun h4 => ?_)
      · rw [if_pos h4] at hf
        refine g_sub [0, 1, 2, 3] rfl ?_
        exact hk S hf
      · rw [if_neg h4] at hf
        refine g_aload_n C 0 rfl rfl dX2_countAstray_44 ?_
        refine g_aload_n C 1 rfl rfl dX2_countAstray_45 ?_
        refine g_aload_n C 0 rfl rfl dX2_countAstray_46 ?_
        refine tF_X2_9 C dX2_countAstray_47 ?_
        refine g_iload C 4 rfl dX2_countAstray_50 ?_
        obtain ⟨h5, hf⟩ := gd_some hf
        refine tL_16 C h5 dX2_countAstray_52 ?_
        obtain ⟨S7, h6, hf⟩ := bd_some hf
        refine g_callVV C (n := 2) (st := []) (c_X2_meetChildren g S (S.1 16 w4.toNatClampNeg) h6) (tb_wsV _ mM_X2_46 mI_X2_meetChildren mS_X2_meetChildren mN_X2 mK_X2_meetChildren) (by decide +kernel) rfl rfl ⟨by decide, by decide⟩ 15 2 rfl rfl rfl (Nat.le_of_ble_eq_true rfl) dX2_countAstray_53 rfl ?_
        refine g_iinc C (v := w4 + 1) (lv2 := [(4, .int (w4 + 1)), (0, .ref (ax x 15)), (1, .ref (ax x 1)), (2, .ref (ax x 7)), (3, .int w3)]) 4 rfl (by rw [(by decide : Int32.ofInt 1 = 1)]) (by decide) rfl dX2_countAstray_56 ?_
        refine g_goto C 28 (by decide) dX2_countAstray_59 ?_
        refine g_sub [1, 2, 3, 4, 0] rfl ?_
        exact ih S7 (w4 + 1) hf
set_option maxHeartbeats 4000000 in
set_option maxRecDepth 100000 in
theorem lp_X2_countAstray_68 {κ : Kx} {x : Ad} (C : Cx κ x cX2_countAstray RX2 kX2_countAstray rmX2_countAstray 6) (S : Mem) {z : Int32 × Mem} (hr : RI κ x cX2_countAstray (cT x z.2) z.1) (g : Nat) (w3 : Int32) : ∀ (n : Nat) (w4 : Int32) (w5 : Int32), f_X2_countAstray_68 g S w3 n w4 w5 = some z → GG κ x (cT x S) 68 [(0, .ref (ax x 15)), (1, .ref (ax x 1)), (2, .ref (ax x 7)), (3, .int w3), (4, .int w4), (5, .int w5)] [] := by
  intro n
  induction n with
  | zero => intro w4 w5 hf; cases hf
  | succ n ih =>
    intro w4 w5 hf
    rw [f_X2_countAstray_68] at hf
    refine g_iload C 5 rfl dX2_countAstray_68 ?_
    refine g_bipush C (v := 40) (by decide) dX2_countAstray_70 ?_
    refine g_icmp_ge C 96 (by decide) dX2_countAstray_72 (fun h9 => ?_) (fun h9 => ?_)
    · rw [if_pos h9] at hf
      refine g_iload C 4 rfl dX2_countAstray_96 ?_
      obtain rfl := Option.some.inj hf
      exact g_iret hr dX2_countAstray_98
    · rw [if_neg h9] at hf
      refine g_aload_n C 0 rfl rfl dX2_countAstray_75 ?_
      refine g_aload_n C 1 rfl rfl dX2_countAstray_76 ?_
      refine g_aload_n C 2 rfl rfl dX2_countAstray_77 ?_
      refine g_iload_n C 3 rfl rfl dX2_countAstray_78 ?_
      refine g_iload C 5 rfl dX2_countAstray_79 ?_
      obtain ⟨r11, h10, hf⟩ := bd_some hf
      refine g_callVI C (n := 4) (st := []) (c_X2_isAstray g S w3 w5 h10) (tb_wsV _ mM_X2_50 mI_X2_isAstray mS_X2_isAstray mN_X2 mK_X2_isAstray) (by decide +kernel) rfl rfl ⟨by decide, by decide⟩ 15 2 rfl rfl rfl (Nat.le_of_ble_eq_true rfl) dX2_countAstray_81 rfl ?_
      refine g_if_eq C 90 (by decide) dX2_countAstray_84 (fun h12 => ?_) (fun h12 => ?_)
      · rw [if_pos h12] at hf
        refine g_iinc C (v := w5 + 1) (lv2 := [(5, .int (w5 + 1)), (0, .ref (ax x 15)), (1, .ref (ax x 1)), (2, .ref (ax x 7)), (3, .int w3), (4, .int w4)]) 5 rfl (by rw [(by decide : Int32.ofInt 1 = 1)]) (by decide) rfl dX2_countAstray_90 ?_
        refine g_goto C 68 (by decide) dX2_countAstray_93 ?_
        refine g_sub [1, 2, 3, 4, 5, 0] rfl ?_
        exact ih w4 (w5 + 1) hf
      · rw [if_neg h12] at hf
        refine g_iinc C (v := w4 + 1) (lv2 := [(4, .int (w4 + 1)), (0, .ref (ax x 15)), (1, .ref (ax x 1)), (2, .ref (ax x 7)), (3, .int w3), (5, .int w5)]) 4 rfl (by rw [(by decide : Int32.ofInt 1 = 1)]) (by decide) rfl dX2_countAstray_87 ?_
        refine g_iinc C (v := w5 + 1) (lv2 := [(5, .int (w5 + 1)), (4, .int (w4 + 1)), (0, .ref (ax x 15)), (1, .ref (ax x 1)), (2, .ref (ax x 7)), (3, .int w3)]) 5 rfl (by rw [(by decide : Int32.ofInt 1 = 1)]) (by decide) rfl dX2_countAstray_90 ?_
        refine g_goto C 68 (by decide) dX2_countAstray_93 ?_
        refine g_sub [2, 3, 4, 5, 1, 0] rfl ?_
        exact ih (w4 + 1) (w5 + 1) hf
set_option maxHeartbeats 4000000 in
set_option maxRecDepth 100000 in
theorem c_X2_countAstray {l : Launch} {x : Ad} (g : Nat) (S : Mem) (a3 : Int32) {z : Int32 × Mem} (hf : f_X2_countAstray g S a3 = some z) : MI l x yX2_countAstray kX2_countAstray rmX2_countAstray [.ref (ax x 15), .ref (ax x 1), .ref (ax x 7), .int a3] (cT x S) z.1 (cT x z.2) := by
  refine met_I RX2 (by decide +kernel) rfl (Nat.le_of_ble_eq_true rfl) [(0, .ref (ax x 15)), (1, .ref (ax x 1)), (2, .ref (ax x 7)), (3, .int a3)] rfl ?_
  intro κ hl C hr
  subst hl
  rw [f_X2_countAstray] at hf
  refine g_aload_n C 0 rfl rfl dX2_countAstray_0 ?_
  refine tF_X2_15 C dX2_countAstray_1 ?_
  refine g_iconst C (v := 0) (by decide) dX2_countAstray_4 ?_
  refine g_callSV C (n := 2) (st := []) (c_fill (l := κ.2.1) (x := x) (w := cT x S) 17 rfl (by decide)) (tb_wsX _ mM_X2_28 mT_J7_fill_53178 mN_J7 mK_J7_fill_53178) (by decide +kernel) rfl rfl ⟨by decide, by decide⟩ rfl (Nat.le_of_ble_eq_true rfl) dX2_countAstray_5 rfl ?_
  show GG κ x (cT x (upF S 17 40 0)) 8 [(0, .ref (ax x 15)), (1, .ref (ax x 1)), (2, .ref (ax x 7)), (3, .int a3)] []
  refine g_aload_n C 0 rfl rfl dX2_countAstray_8 ?_
  refine g_iconst C (v := 0) (by decide) dX2_countAstray_9 ?_
  refine tP_X2_34 C dX2_countAstray_10 ?_
  refine g_aload_n C 0 rfl rfl dX2_countAstray_13 ?_
  refine g_iload_n C 3 rfl rfl dX2_countAstray_14 ?_
  refine g_iconst C (v := 1) (by decide) dX2_countAstray_15 ?_
  refine g_ldc2 C mL_X2_38 dX2_countAstray_16 ?_
  refine g_ldc2 C mL_X2_40 dX2_countAstray_19 ?_
  obtain ⟨S2, h1, hf⟩ := bd_some hf
  refine g_callVV C (n := 4) (st := []) (c_X2_meet g (up (upF S 17 40 0) 15 1 0) a3 1 ((-2147483648)) 2147483648 h1) (tb_wsV _ mM_X2_42 mI_X2_meet mS_X2_meet mN_X2 mK_X2_meet) (by decide +kernel) rfl rfl ⟨by decide, by decide⟩ 15 2 rfl rfl rfl (Nat.le_of_ble_eq_true rfl) dX2_countAstray_22 rfl ?_
  refine g_iconst C (v := 0) (by decide) dX2_countAstray_25 ?_
  refine g_istore C (lv2 := [(4, .int 0), (0, .ref (ax x 15)), (1, .ref (ax x 1)), (2, .ref (ax x 7)), (3, .int a3)]) (by decide) rfl dX2_countAstray_26 ?_
  refine g_sub [1, 2, 3, 4, 0] rfl ?_
  refine lp_X2_countAstray_28 C hr g a3 _ (fun S8 hf => ?_) g S2 0 hf
  refine g_iconst C (v := 0) (by decide) dX2_countAstray_62 ?_
  refine g_istore C (lv2 := [(4, .int 0), (0, .ref (ax x 15)), (1, .ref (ax x 1)), (2, .ref (ax x 7)), (3, .int a3)]) (by decide) rfl dX2_countAstray_63 ?_
  refine g_iconst C (v := 0) (by decide) dX2_countAstray_65 ?_
  refine g_istore C (lv2 := [(5, .int 0), (4, .int 0), (0, .ref (ax x 15)), (1, .ref (ax x 1)), (2, .ref (ax x 7)), (3, .int a3)]) (by decide) rfl dX2_countAstray_66 ?_
  refine g_sub [2, 3, 4, 5, 1, 0] rfl ?_
  exact lp_X2_countAstray_68 C S8 hr g a3 g 0 0 hf
