def f_X4_told (g : Nat) (S : Mem) (a1 : Int32) : Option (Int32) := if a1 = 0 then (some (S.1 0 5)) else (if a1 = 1 then (some (S.1 0 4)) else (if a1 = 2 then (bd (f_X0_countLevels g S (S.1 0 4)) (fun r5 => some r5)) else (if a1 = 3 then (bd (f_X0_countFree g S) (fun r8 => some (40 - r8))) else (if a1 = 4 then (bd (f_X1_hits g S) (fun r11 => some r11)) else (if a1 = 5 then (bd (f_X1_pagesRead g S) (fun r14 => some r14)) else (if a1 = 6 then (bd (f_X1_pagesWritten g S) (fun r17 => some r17)) else (if a1 = 7 then (bd (f_X1_handPlace g S) (fun r20 => some r20)) else (some ((-1))))))))))
abbrev rmX4_told : Room := { frames := 3, cells := 0, slots := 0, locals := 69 }
set_option maxHeartbeats 4000000 in
set_option maxRecDepth 100000 in
theorem c_X4_told {l : Launch} {x : Ad} (g : Nat) (S : Mem) (a1 : Int32) {z : Int32} (hf : f_X4_told g S a1 = some z) : MI l x yX4_told kX4_told rmX4_told [.ref (ax x 0), .int a1] (cT x S) z (cT x S) := by
  refine met_I RX4 (by decide +kernel) rfl (Nat.le_of_ble_eq_true rfl) [(0, .ref (ax x 0)), (1, .int a1)] rfl ?_
  intro κ hl C hr
  subst hl
  rw [f_X4_told] at hf
  refine g_iload_n C 1 rfl rfl dX4_told_0 ?_
  by_cases h1 : a1 = 0
  · rw [if_pos h1] at hf
    refine g_top h1 ?_
    refine g_tin C 48 (by decide) (by decide) (by rfl) (by decide) dX4_told_1 ?_
    refine g_aload_n C 0 rfl rfl dX4_told_48 ?_
    refine tF_X4_41 C dX4_told_49 ?_
    obtain rfl := Option.some.inj hf
    exact g_iret hr dX4_told_52
  rw [if_neg h1] at hf
  by_cases h2 : a1 = 1
  · rw [if_pos h2] at hf
    refine g_top h2 ?_
    refine g_tin C 53 (by decide) (by decide) (by rfl) (by decide) dX4_told_1 ?_
    refine g_aload_n C 0 rfl rfl dX4_told_53 ?_
    refine tF_X4_37 C dX4_told_54 ?_
    obtain rfl := Option.some.inj hf
    exact g_iret hr dX4_told_57
  rw [if_neg h2] at hf
  by_cases h3 : a1 = 2
  · rw [if_pos h3] at hf
    refine g_top h3 ?_
    refine g_tin C 58 (by decide) (by decide) (by rfl) (by decide) dX4_told_1 ?_
    refine g_aload_n C 0 rfl rfl dX4_told_58 ?_
    refine tF_X4_12 C dX4_told_59 ?_
    refine g_aload_n C 0 rfl rfl dX4_told_62 ?_
    refine tF_X4_37 C dX4_told_63 ?_
    obtain ⟨r5, h4, hf⟩ := bd_some hf
    refine g_callVI C (n := 1) (st := []) (c_X0_countLevels g S (S.1 0 4) h4) (tb_wsV _ mM_X4_195 mI_X0_countLevels mS_X0_countLevels mN_X0 mK_X0_countLevels) (by decide +kernel) rfl rfl ⟨by decide, by decide⟩ 1 0 rfl rfl rfl (Nat.le_of_ble_eq_true rfl) dX4_told_66 rfl ?_
    obtain rfl := Option.some.inj hf
    exact g_iret hr dX4_told_69
  rw [if_neg h3] at hf
  by_cases h6 : a1 = 3
  · rw [if_pos h6] at hf
    refine g_top h6 ?_
    refine g_tin C 70 (by decide) (by decide) (by rfl) (by decide) dX4_told_1 ?_
    refine g_bipush C (v := 40) (by decide) dX4_told_70 ?_
    refine g_aload_n C 0 rfl rfl dX4_told_72 ?_
    refine tF_X4_12 C dX4_told_73 ?_
    obtain ⟨r8, h7, hf⟩ := bd_some hf
    refine g_callVI C (n := 0) (st := [.int 40]) (c_X0_countFree g S h7) (tb_wsV _ mM_X4_70 mI_X0_countFree mS_X0_countFree mN_X0 mK_X0_countFree) (by decide +kernel) rfl rfl ⟨by decide, by decide⟩ 1 0 rfl rfl rfl (Nat.le_of_ble_eq_true rfl) dX4_told_76 rfl ?_
    refine g_isub C dX4_told_79 ?_
    obtain rfl := Option.some.inj hf
    exact g_iret hr dX4_told_80
  rw [if_neg h6] at hf
  by_cases h9 : a1 = 4
  · rw [if_pos h9] at hf
    refine g_top h9 ?_
    refine g_tin C 81 (by decide) (by decide) (by rfl) (by decide) dX4_told_1 ?_
    refine g_aload_n C 0 rfl rfl dX4_told_81 ?_
    refine tF_X4_19 C dX4_told_82 ?_
    obtain ⟨r11, h10, hf⟩ := bd_some hf
    refine g_callVI C (n := 0) (st := []) (c_X1_hits g S h10) (tb_wsV _ mM_X4_198 mI_X1_hits mS_X1_hits mN_X1 mK_X1_hits) (by decide +kernel) rfl rfl ⟨by decide, by decide⟩ 7 1 rfl rfl rfl (Nat.le_of_ble_eq_true rfl) dX4_told_85 rfl ?_
    obtain rfl := Option.some.inj hf
    exact g_iret hr dX4_told_88
  rw [if_neg h9] at hf
  by_cases h12 : a1 = 5
  · rw [if_pos h12] at hf
    refine g_top h12 ?_
    refine g_tin C 89 (by decide) (by decide) (by rfl) (by decide) dX4_told_1 ?_
    refine g_aload_n C 0 rfl rfl dX4_told_89 ?_
    refine tF_X4_19 C dX4_told_90 ?_
    obtain ⟨r14, h13, hf⟩ := bd_some hf
    refine g_callVI C (n := 0) (st := []) (c_X1_pagesRead g S h13) (tb_wsV _ mM_X4_201 mI_X1_pagesRead mS_X1_pagesRead mN_X1 mK_X1_pagesRead) (by decide +kernel) rfl rfl ⟨by decide, by decide⟩ 7 1 rfl rfl rfl (Nat.le_of_ble_eq_true rfl) dX4_told_93 rfl ?_
    obtain rfl := Option.some.inj hf
    exact g_iret hr dX4_told_96
  rw [if_neg h12] at hf
  by_cases h15 : a1 = 6
  · rw [if_pos h15] at hf
    refine g_top h15 ?_
    refine g_tin C 97 (by decide) (by decide) (by rfl) (by decide) dX4_told_1 ?_
    refine g_aload_n C 0 rfl rfl dX4_told_97 ?_
    refine tF_X4_19 C dX4_told_98 ?_
    obtain ⟨r17, h16, hf⟩ := bd_some hf
    refine g_callVI C (n := 0) (st := []) (c_X1_pagesWritten g S h16) (tb_wsV _ mM_X4_204 mI_X1_pagesWritten mS_X1_pagesWritten mN_X1 mK_X1_pagesWritten) (by decide +kernel) rfl rfl ⟨by decide, by decide⟩ 7 1 rfl rfl rfl (Nat.le_of_ble_eq_true rfl) dX4_told_101 rfl ?_
    obtain rfl := Option.some.inj hf
    exact g_iret hr dX4_told_104
  rw [if_neg h15] at hf
  by_cases h18 : a1 = 7
  · rw [if_pos h18] at hf
    refine g_top h18 ?_
    refine g_tin C 105 (by decide) (by decide) (by rfl) (by decide) dX4_told_1 ?_
    refine g_aload_n C 0 rfl rfl dX4_told_105 ?_
    refine tF_X4_19 C dX4_told_106 ?_
    obtain ⟨r20, h19, hf⟩ := bd_some hf
    refine g_callVI C (n := 0) (st := []) (c_X1_handPlace g S h19) (tb_wsV _ mM_X4_207 mI_X1_handPlace mS_X1_handPlace mN_X1 mK_X1_handPlace) (by decide +kernel) rfl rfl ⟨by decide, by decide⟩ 7 1 rfl rfl rfl (Nat.le_of_ble_eq_true rfl) dX4_told_109 rfl ?_
    obtain rfl := Option.some.inj hf
    exact g_iret hr dX4_told_112
  rw [if_neg h18] at hf
  refine g_tout C 113 (tsw_out 7 (by decide) (fun j hj => by rcases (by omega : j = 0 ∨ j = 1 ∨ j = 2 ∨ j = 3 ∨ j = 4 ∨ j = 5 ∨ j = 6 ∨ j = 7) with rfl | rfl | rfl | rfl | rfl | rfl | rfl | rfl <;> first | exact h1 | exact h2 | exact h3 | exact h6 | exact h9 | exact h12 | exact h15 | exact h18)) (by decide) dX4_told_1 ?_
  refine g_iconst C (v := (-1)) (by decide) dX4_told_113 ?_
  obtain rfl := Option.some.inj hf
  exact g_iret hr dX4_told_114
def f_X4_astray (g : Nat) (S : Mem) : Option (Int32 × Mem) := bd2 (f_X2_countAstray g S (S.1 0 4)) (fun r2 S3 => some (r2, S3))
abbrev rmX4_astray : Room := { frames := 5, cells := 0, slots := 0, locals := 124 }
set_option maxHeartbeats 4000000 in
set_option maxRecDepth 100000 in
theorem c_X4_astray {l : Launch} {x : Ad} (g : Nat) (S : Mem) {z : Int32 × Mem} (hf : f_X4_astray g S = some z) : MI l x yX4_astray kX4_astray rmX4_astray [.ref (ax x 0)] (cT x S) z.1 (cT x z.2) := by
  refine met_I RX4 (by decide +kernel) rfl (Nat.le_of_ble_eq_true rfl) [(0, .ref (ax x 0))] rfl ?_
  intro κ hl C hr
  subst hl
  rw [f_X4_astray] at hf
  refine g_aload_n C 0 rfl rfl dX4_astray_0 ?_
  refine tF_X4_33 C dX4_astray_1 ?_
  refine g_aload_n C 0 rfl rfl dX4_astray_4 ?_
  refine tF_X4_12 C dX4_astray_5 ?_
  refine g_aload_n C 0 rfl rfl dX4_astray_8 ?_
  refine tF_X4_19 C dX4_astray_9 ?_
  refine g_aload_n C 0 rfl rfl dX4_astray_12 ?_
  refine tF_X4_37 C dX4_astray_13 ?_
  obtain ⟨r2, S3, h1, hf⟩ := bd2_some hf
  refine g_callVI C (n := 3) (st := []) (c_X2_countAstray g S (S.1 0 4) h1) (tb_wsV _ mM_X4_210 mI_X2_countAstray mS_X2_countAstray mN_X2 mK_X2_countAstray) (by decide +kernel) rfl rfl ⟨by decide, by decide⟩ 15 2 rfl rfl rfl (Nat.le_of_ble_eq_true rfl) dX4_astray_16 rfl ?_
  obtain rfl := Option.some.inj hf
  exact g_iret hr dX4_astray_19
def f_X4_newPagesForEntry_12 (g : Nat) (S : Mem)  (kx : Int32 → Option (Int32)) : Nat → Int32 → Int32 → Option (Int32)
  | 0, _, _ => none
  | n + 1, w1, w2 => if w2 < 0 then (kx w1) else (bd (f_X3_pageAt g S w2) (fun r5 => bd (f_X0_countOf g S r5) (fun r7 => if 4 ≤ r7 then (f_X4_newPagesForEntry_12 g S kx n (w1 + 1) (w2 + (-1))) else (some w1))))
def f_X4_newPagesForEntry (g : Nat) (S : Mem) : Option (Int32) := bd (f_X3_length g S) (fun r2 => f_X4_newPagesForEntry_12 g S (fun (v9 : Int32) => some (v9 + 1)) g 0 (r2 - 1))
abbrev rmX4_newPagesForEntry : Room := { frames := 2, cells := 0, slots := 0, locals := 42 }
set_option maxHeartbeats 4000000 in
set_option maxRecDepth 100000 in
theorem lp_X4_newPagesForEntry_12 {κ : Kx} {x : Ad} (C : Cx κ x cX4_newPagesForEntry RX4 kX4_newPagesForEntry rmX4_newPagesForEntry 3) (S : Mem) {z : Int32} (hr : RI κ x cX4_newPagesForEntry (cT x S) z) (g : Nat)  (kx : Int32 → Option (Int32)) (hk : ∀ (u1 : Int32), kx u1 = some z → GG κ x (cT x S) 46 [(1, .int u1)] []) : ∀ (n : Nat) (w1 : Int32) (w2 : Int32), f_X4_newPagesForEntry_12 g S kx n w1 w2 = some z → GG κ x (cT x S) 12 [(0, .ref (ax x 0)), (1, .int w1), (2, .int w2)] [] := by
  intro n
  induction n with
  | zero => intro w1 w2 hf; cases hf
  | succ n ih =>
    intro w1 w2 hf
    rw [f_X4_newPagesForEntry_12] at hf
    refine g_iload_n C 2 rfl rfl dX4_newPagesForEntry_12 ?_
    refine g_if_lt C 46 (by decide) dX4_newPagesForEntry_13 (fun h3 => ?_) (fun h3 => ?_)
    · rw [if_pos h3] at hf
      refine g_sub [1] rfl ?_
      exact hk w1 hf
    · rw [if_neg h3] at hf
      refine g_aload_n C 0 rfl rfl dX4_newPagesForEntry_16 ?_
      refine tF_X4_12 C dX4_newPagesForEntry_17 ?_
      refine g_aload_n C 0 rfl rfl dX4_newPagesForEntry_20 ?_
      refine tF_X4_26 C dX4_newPagesForEntry_21 ?_
      refine g_iload_n C 2 rfl rfl dX4_newPagesForEntry_24 ?_
      obtain ⟨r5, h4, hf⟩ := bd_some hf
      refine g_callVI C (n := 1) (st := [.ref (ax x 1)]) (c_X3_pageAt g S w2 h4) (tb_wsV _ mM_X4_217 mI_X3_pageAt mS_X3_pageAt mN_X3 mK_X3_pageAt) (by decide +kernel) rfl rfl ⟨by decide, by decide⟩ 12 3 rfl rfl rfl (Nat.le_of_ble_eq_true rfl) dX4_newPagesForEntry_25 rfl ?_
      obtain ⟨r7, h6, hf⟩ := bd_some hf
      refine g_callVI C (n := 1) (st := []) (c_X0_countOf g S r5 h6) (tb_wsV _ mM_X4_163 mI_X0_countOf mS_X0_countOf mN_X0 mK_X0_countOf) (by decide +kernel) rfl rfl ⟨by decide, by decide⟩ 1 0 rfl rfl rfl (Nat.le_of_ble_eq_true rfl) dX4_newPagesForEntry_28 rfl ?_
      refine g_iconst C (v := 4) (by decide) dX4_newPagesForEntry_31 ?_
      refine g_icmp_ge C 37 (by decide) dX4_newPagesForEntry_32 (fun h8 => ?_) (fun h8 => ?_)
      · rw [if_pos h8] at hf
        refine g_iinc C (v := w1 + 1) (lv2 := [(1, .int (w1 + 1)), (0, .ref (ax x 0)), (2, .int w2)]) 1 rfl (by rw [(by decide : Int32.ofInt 1 = 1)]) (by decide) rfl dX4_newPagesForEntry_37 ?_
        refine g_iinc C (v := w2 + (-1)) (lv2 := [(2, .int (w2 + (-1))), (1, .int (w1 + 1)), (0, .ref (ax x 0))]) 2 rfl (by rw [(by decide : Int32.ofInt (-1) = (-1))]) (by decide) rfl dX4_newPagesForEntry_40 ?_
        refine g_goto C 12 (by decide) dX4_newPagesForEntry_43 ?_
        refine g_sub [2, 1, 0] rfl ?_
        exact ih (w1 + 1) (w2 + (-1)) hf
      · rw [if_neg h8] at hf
        refine g_iload_n C 1 rfl rfl dX4_newPagesForEntry_35 ?_
        obtain rfl := Option.some.inj hf
        exact g_iret hr dX4_newPagesForEntry_36
set_option maxHeartbeats 4000000 in
set_option maxRecDepth 100000 in
theorem c_X4_newPagesForEntry {l : Launch} {x : Ad} (g : Nat) (S : Mem) {z : Int32} (hf : f_X4_newPagesForEntry g S = some z) : MI l x yX4_newPagesForEntry kX4_newPagesForEntry rmX4_newPagesForEntry [.ref (ax x 0)] (cT x S) z (cT x S) := by
  refine met_I RX4 (by decide +kernel) rfl (Nat.le_of_ble_eq_true rfl) [(0, .ref (ax x 0))] rfl ?_
  intro κ hl C hr
  subst hl
  rw [f_X4_newPagesForEntry] at hf
  refine g_iconst C (v := 0) (by decide) dX4_newPagesForEntry_0 ?_
  refine g_istore_n C (lv2 := [(1, .int 0), (0, .ref (ax x 0))]) rfl (by decide) rfl dX4_newPagesForEntry_1 ?_
  refine g_aload_n C 1 rfl rfl dX4_newPagesForEntry_2 ?_
  refine tF_X4_26 C dX4_newPagesForEntry_3 ?_
  obtain ⟨r2, h1, hf⟩ := bd_some hf
  refine g_callVI C (n := 0) (st := []) (c_X3_length g S h1) (tb_wsV _ mM_X4_214 mI_X3_length mS_X3_length mN_X3 mK_X3_length) (by decide +kernel) rfl rfl ⟨by decide, by decide⟩ 12 3 rfl rfl rfl (Nat.le_of_ble_eq_true rfl) dX4_newPagesForEntry_6 rfl ?_
  refine g_iconst C (v := 1) (by decide) dX4_newPagesForEntry_9 ?_
  refine g_isub C dX4_newPagesForEntry_10 ?_
  refine g_istore_n C (lv2 := [(2, .int (r2 - 1)), (1, .int 0), (0, .ref (ax x 0))]) rfl (by decide) rfl dX4_newPagesForEntry_11 ?_
  refine g_sub [2, 1, 0] rfl ?_
  refine lp_X4_newPagesForEntry_12 C S hr g _ (fun v9 hf => ?_) g 0 (r2 - 1) hf
  refine g_iload_n C 0 rfl rfl dX4_newPagesForEntry_46 ?_
  refine g_iconst C (v := 1) (by decide) dX4_newPagesForEntry_47 ?_
  refine g_iadd C dX4_newPagesForEntry_48 ?_
  obtain rfl := Option.some.inj hf
  exact g_iret hr dX4_newPagesForEntry_49
def f_X4_takePage (g : Nat) (S : Mem) (a1 : Int32) : Option (Int32 × Mem) := bd (f_X0_leastFree g S) (fun r2 => bd (f_X0_allot g S r2 a1) (fun S4 => bd (f_X1_touch g S4 r2 1) (fun S6 => some (r2, S6))))
abbrev rmX4_takePage : Room := { frames := 3, cells := 0, slots := 0, locals := 68 }
set_option maxHeartbeats 4000000 in
set_option maxRecDepth 100000 in
theorem c_X4_takePage {l : Launch} {x : Ad} (g : Nat) (S : Mem) (a1 : Int32) {z : Int32 × Mem} (hf : f_X4_takePage g S a1 = some z) : MI l x yX4_takePage kX4_takePage rmX4_takePage [.ref (ax x 0), .int a1] (cT x S) z.1 (cT x z.2) := by
  refine met_I RX4 (by decide +kernel) rfl (Nat.le_of_ble_eq_true rfl) [(0, .ref (ax x 0)), (1, .int a1)] rfl ?_
  intro κ hl C hr
  subst hl
  rw [f_X4_takePage] at hf
  refine g_aload_n C 0 rfl rfl dX4_takePage_0 ?_
  refine tF_X4_12 C dX4_takePage_1 ?_
  obtain ⟨r2, h1, hf⟩ := bd_some hf
  refine g_callVI C (n := 0) (st := []) (c_X0_leastFree g S h1) (tb_wsV _ mM_X4_245 mI_X0_leastFree mS_X0_leastFree mN_X0 mK_X0_leastFree) (by decide +kernel) rfl rfl ⟨by decide, by decide⟩ 1 0 rfl rfl rfl (Nat.le_of_ble_eq_true rfl) dX4_takePage_4 rfl ?_
  refine g_istore_n C (lv2 := [(2, .int r2), (0, .ref (ax x 0)), (1, .int a1)]) rfl (by decide) rfl dX4_takePage_7 ?_
  refine g_aload_n C 1 rfl rfl dX4_takePage_8 ?_
  refine tF_X4_12 C dX4_takePage_9 ?_
  refine g_iload_n C 0 rfl rfl dX4_takePage_12 ?_
  refine g_iload_n C 2 rfl rfl dX4_takePage_13 ?_
  obtain ⟨S4, h3, hf⟩ := bd_some hf
  refine g_callVV C (n := 2) (st := []) (c_X0_allot g S r2 a1 h3) (tb_wsV _ mM_X4_47 mI_X0_allot mS_X0_allot mN_X0 mK_X0_allot) (by decide +kernel) rfl rfl ⟨by decide, by decide⟩ 1 0 rfl rfl rfl (Nat.le_of_ble_eq_true rfl) dX4_takePage_14 rfl ?_
  refine g_aload_n C 1 rfl rfl dX4_takePage_17 ?_
  refine tF_X4_19 C dX4_takePage_18 ?_
  refine g_iload_n C 0 rfl rfl dX4_takePage_21 ?_
  refine g_iconst C (v := 1) (by decide) dX4_takePage_22 ?_
  obtain ⟨S6, h5, hf⟩ := bd_some hf
  refine g_callVV C (n := 2) (st := []) (c_X1_touch g S4 r2 1 h5) (tb_wsV _ mM_X4_123 mI_X1_touch mS_X1_touch mN_X1 mK_X1_touch) (by decide +kernel) rfl rfl ⟨by decide, by decide⟩ 7 1 rfl rfl rfl (Nat.le_of_ble_eq_true rfl) dX4_takePage_23 rfl ?_
  refine g_iload_n C 0 rfl rfl dX4_takePage_26 ?_
  obtain rfl := Option.some.inj hf
  exact g_iret hr dX4_takePage_27
def f_X4_raiseRoot (g : Nat) (S : Mem) (a1 : Int32) : Option (Mem) := bd (f_X0_insert g S a1 0 0 (S.1 0 4)) (fun S2 => some (up S2 0 4 a1))
abbrev rmX4_raiseRoot : Room := { frames := 3, cells := 0, slots := 0, locals := 74 }
set_option maxHeartbeats 4000000 in
set_option maxRecDepth 100000 in
theorem c_X4_raiseRoot {l : Launch} {x : Ad} (g : Nat) (S : Mem) (a1 : Int32) {z : Mem} (hf : f_X4_raiseRoot g S a1 = some z) : MV l x yX4_raiseRoot kX4_raiseRoot rmX4_raiseRoot [.ref (ax x 0), .int a1] (cT x S) (cT x z) := by
  refine met_V RX4 (by decide +kernel) rfl (Nat.le_of_ble_eq_true rfl) [(0, .ref (ax x 0)), (1, .int a1)] rfl ?_
  intro κ hl C hr
  subst hl
  rw [f_X4_raiseRoot] at hf
  refine g_aload_n C 0 rfl rfl dX4_raiseRoot_0 ?_
  refine tF_X4_12 C dX4_raiseRoot_1 ?_
  refine g_iload_n C 1 rfl rfl dX4_raiseRoot_4 ?_
  refine g_iconst C (v := 0) (by decide) dX4_raiseRoot_5 ?_
  refine g_iconst C (v := 0) (by decide) dX4_raiseRoot_6 ?_
  refine g_aload_n C 0 rfl rfl dX4_raiseRoot_7 ?_
  refine tF_X4_37 C dX4_raiseRoot_8 ?_
  obtain ⟨S2, h1, hf⟩ := bd_some hf
  refine g_callVV C (n := 4) (st := []) (c_X0_insert g S a1 0 0 (S.1 0 4) h1) (tb_wsV _ mM_X4_94 mI_X0_insert mS_X0_insert mN_X0 mK_X0_insert) (by decide +kernel) rfl rfl ⟨by decide, by decide⟩ 1 0 rfl rfl rfl (Nat.le_of_ble_eq_true rfl) dX4_raiseRoot_11 rfl ?_
  refine g_aload_n C 0 rfl rfl dX4_raiseRoot_14 ?_
  refine g_iload_n C 1 rfl rfl dX4_raiseRoot_15 ?_
  refine tP_X4_37 C dX4_raiseRoot_16 ?_
  obtain rfl := Option.some.inj hf
  exact g_vret hr dX4_raiseRoot_19
def f_X4_split (g : Nat) (S : Mem) (a1 : Int32) : Option (Mem) := bd (f_X3_pageAt g S a1) (fun r2 => bd (f_X0_kindOf g S r2) (fun r4 => bd2 (f_X4_takePage g S r4) (fun r6 S7 => bd (f_X0_keyAt g S7 r2 2) (fun r9 => bd (f_X0_moveItems g S7 r2 2 r6) (fun S11 => bd (f_X0_kindOf g S11 r2) (fun r13 => jn1 (fun (S14 : Mem) => bd (f_X3_pageAt g S14 (a1 - 1)) (fun r17 => jn2 (fun (S18 : Mem) (v19 : Int32) => bd (f_X3_slotAt g S18 a1) (fun r22 => bd (f_X0_insert g S18 v19 (r22 + 1) r9 r6) (fun S24 => bd (f_X4_soilThree g S24 r2 r6 v19) (fun S26 => some S26)))) (fun j20 => if a1 = 0 then (bd2 (f_X4_takePage g S14 2) (fun r29 S30 => bd (f_X4_raiseRoot g S30 r29) (fun S32 => j20 S32 r29))) else (j20 S14 r17)))) (fun j15 => if r13 = 1 then (bd (f_X0_leafAfter g S11 r2) (fun r37 => bd (f_X0_setLeafAfter g S11 r6 r37) (fun S39 => bd (f_X0_setLeafAfter g S39 r2 r6) (fun S41 => j15 S41)))) else (bd (f_X0_setKey g S11 r6 0 0) (fun S35 => j15 S35)))))))))
abbrev rmX4_split : Room := { frames := 4, cells := 0, slots := 0, locals := 95 }
set_option maxHeartbeats 4000000 in
set_option maxRecDepth 100000 in
theorem c_X4_split {l : Launch} {x : Ad} (g : Nat) (S : Mem) (a1 : Int32) {z : Mem} (hf : f_X4_split g S a1 = some z) : MV l x yX4_split kX4_split rmX4_split [.ref (ax x 0), .int a1] (cT x S) (cT x z) := by
  refine met_V RX4 (by decide +kernel) rfl (Nat.le_of_ble_eq_true rfl) [(0, .ref (ax x 0)), (1, .int a1)] rfl ?_
  intro κ hl C hr
  subst hl
  rw [f_X4_split] at hf
  refine g_aload_n C 0 rfl rfl dX4_split_0 ?_
  refine tF_X4_26 C dX4_split_1 ?_
  refine g_iload_n C 1 rfl rfl dX4_split_4 ?_
  obtain ⟨r2, h1, hf⟩ := bd_some hf
  refine g_callVI C (n := 1) (st := []) (c_X3_pageAt g S a1 h1) (tb_wsV _ mM_X4_217 mI_X3_pageAt mS_X3_pageAt mN_X3 mK_X3_pageAt) (by decide +kernel) rfl rfl ⟨by decide, by decide⟩ 12 3 rfl rfl rfl (Nat.le_of_ble_eq_true rfl) dX4_split_5 rfl ?_
  refine g_istore_n C (lv2 := [(2, .int r2), (0, .ref (ax x 0)), (1, .int a1)]) rfl (by decide) rfl dX4_split_8 ?_
  refine g_aload_n C 1 rfl rfl dX4_split_9 ?_
  refine g_aload_n C 1 rfl rfl dX4_split_10 ?_
  refine tF_X4_12 C dX4_split_11 ?_
  refine g_iload_n C 0 rfl rfl dX4_split_14 ?_
  obtain ⟨r4, h3, hf⟩ := bd_some hf
  refine g_callVI C (n := 1) (st := [.ref (ax x 0)]) (c_X0_kindOf g S r2 h3) (tb_wsV _ mM_X4_159 mI_X0_kindOf mS_X0_kindOf mN_X0 mK_X0_kindOf) (by decide +kernel) rfl rfl ⟨by decide, by decide⟩ 1 0 rfl rfl rfl (Nat.le_of_ble_eq_true rfl) dX4_split_15 rfl ?_
  obtain ⟨r6, S7, h5, hf⟩ := bd2_some hf
  refine g_callVI C (n := 1) (st := []) (c_X4_takePage g S r4 h5) (tb_wsV _ mM_X4_223 mI_X4_takePage mS_X4_takePage mN_X4 mK_X4_takePage) (by decide +kernel) rfl rfl ⟨by decide, by decide⟩ 0 4 rfl rfl rfl (Nat.le_of_ble_eq_true rfl) dX4_split_18 rfl ?_
  refine g_istore_n C (lv2 := [(3, .int r6), (2, .int r2), (0, .ref (ax x 0)), (1, .int a1)]) rfl (by decide) rfl dX4_split_21 ?_
  refine g_aload_n C 2 rfl rfl dX4_split_22 ?_
  refine tF_X4_12 C dX4_split_23 ?_
  refine g_iload_n C 1 rfl rfl dX4_split_26 ?_
  refine g_iconst C (v := 2) (by decide) dX4_split_27 ?_
  obtain ⟨r9, h8, hf⟩ := bd_some hf
  refine g_callVI C (n := 2) (st := []) (c_X0_keyAt g S7 r2 2 h8) (tb_wsV _ mM_X4_176 mI_X0_keyAt mS_X0_keyAt mN_X0 mK_X0_keyAt) (by decide +kernel) rfl rfl ⟨by decide, by decide⟩ 1 0 rfl rfl rfl (Nat.le_of_ble_eq_true rfl) dX4_split_28 rfl ?_
  refine g_istore C (lv2 := [(4, .int r9), (3, .int r6), (2, .int r2), (0, .ref (ax x 0)), (1, .int a1)]) (by decide) rfl dX4_split_31 ?_
  refine g_aload_n C 3 rfl rfl dX4_split_33 ?_
  refine tF_X4_12 C dX4_split_34 ?_
  refine g_iload_n C 2 rfl rfl dX4_split_37 ?_
  refine g_iconst C (v := 2) (by decide) dX4_split_38 ?_
  refine g_iload_n C 1 rfl rfl dX4_split_39 ?_
  obtain ⟨S11, h10, hf⟩ := bd_some hf
  refine g_callVV C (n := 3) (st := []) (c_X0_moveItems g S7 r2 2 r6 h10) (tb_wsV _ mM_X4_226 mI_X0_moveItems mS_X0_moveItems mN_X0 mK_X0_moveItems) (by decide +kernel) rfl rfl ⟨by decide, by decide⟩ 1 0 rfl rfl rfl (Nat.le_of_ble_eq_true rfl) dX4_split_40 rfl ?_
  refine g_aload_n C 3 rfl rfl dX4_split_43 ?_
  refine tF_X4_12 C dX4_split_44 ?_
  refine g_iload_n C 2 rfl rfl dX4_split_47 ?_
  obtain ⟨r13, h12, hf⟩ := bd_some hf
  refine g_callVI C (n := 1) (st := []) (c_X0_kindOf g S11 r2 h12) (tb_wsV _ mM_X4_159 mI_X0_kindOf mS_X0_kindOf mN_X0 mK_X0_kindOf) (by decide +kernel) rfl rfl ⟨by decide, by decide⟩ 1 0 rfl rfl rfl (Nat.le_of_ble_eq_true rfl) dX4_split_48 rfl ?_
  refine g_iconst C (v := 1) (by decide) dX4_split_51 ?_
  refine jn1_elim (fun (S14 : Mem) => GG κ x (cT x S14) 93 [(0, .ref (ax x 0)), (1, .int a1), (2, .int r2), (3, .int r6), (4, .int r9)] []) hf (fun S14 hf => ?_) (fun j15 hj15 hf => ?_)
  · show GG κ x (cT x S14) 93 [(0, .ref (ax x 0)), (1, .int a1), (2, .int r2), (3, .int r6), (4, .int r9)] []
    refine g_aload_n C 0 rfl rfl dX4_split_93 ?_
    refine tF_X4_26 C dX4_split_94 ?_
    refine g_iload_n C 1 rfl rfl dX4_split_97 ?_
    refine g_iconst C (v := 1) (by decide) dX4_split_98 ?_
    refine g_isub C dX4_split_99 ?_
    obtain ⟨r17, h16, hf⟩ := bd_some hf
    refine g_callVI C (n := 1) (st := []) (c_X3_pageAt g S14 (a1 - 1) h16) (tb_wsV _ mM_X4_217 mI_X3_pageAt mS_X3_pageAt mN_X3 mK_X3_pageAt) (by decide +kernel) rfl rfl ⟨by decide, by decide⟩ 12 3 rfl rfl rfl (Nat.le_of_ble_eq_true rfl) dX4_split_100 rfl ?_
    refine g_istore C (lv2 := [(5, .int r17), (0, .ref (ax x 0)), (1, .int a1), (2, .int r2), (3, .int r6), (4, .int r9)]) (by decide) rfl dX4_split_103 ?_
    refine g_iload_n C 2 rfl rfl dX4_split_105 ?_
    refine jn2_elim (fun (S18 : Mem) (v19 : Int32) => GG κ x (cT x S18) 122 [(0, .ref (ax x 0)), (1, .int a1), (2, .int r2), (3, .int r6), (4, .int r9), (5, .int v19)] []) hf (fun S18 v19 hf => ?_) (fun j20 hj20 hf => ?_)
    · show GG κ x (cT x S18) 122 [(0, .ref (ax x 0)), (1, .int a1), (2, .int r2), (3, .int r6), (4, .int r9), (5, .int v19)] []
      refine g_aload_n C 0 rfl rfl dX4_split_122 ?_
      refine tF_X4_12 C dX4_split_123 ?_
      refine g_iload C 5 rfl dX4_split_126 ?_
      refine g_aload_n C 0 rfl rfl dX4_split_128 ?_
      refine tF_X4_26 C dX4_split_129 ?_
      refine g_iload_n C 1 rfl rfl dX4_split_132 ?_
      obtain ⟨r22, h21, hf⟩ := bd_some hf
      refine g_callVI C (n := 1) (st := [.int v19, .ref (ax x 1)]) (c_X3_slotAt g S18 a1 h21) (tb_wsV _ mM_X4_239 mI_X3_slotAt mS_X3_slotAt mN_X3 mK_X3_slotAt) (by decide +kernel) rfl rfl ⟨by decide, by decide⟩ 12 3 rfl rfl rfl (Nat.le_of_ble_eq_true rfl) dX4_split_133 rfl ?_
      refine g_iconst C (v := 1) (by decide) dX4_split_136 ?_
      refine g_iadd C dX4_split_137 ?_
      refine g_iload C 4 rfl dX4_split_138 ?_
      refine g_iload_n C 3 rfl rfl dX4_split_140 ?_
      obtain ⟨S24, h23, hf⟩ := bd_some hf
      refine g_callVV C (n := 4) (st := []) (c_X0_insert g S18 v19 (r22 + 1) r9 r6 h23) (tb_wsV _ mM_X4_94 mI_X0_insert mS_X0_insert mN_X0 mK_X0_insert) (by decide +kernel) rfl rfl ⟨by decide, by decide⟩ 1 0 rfl rfl rfl (Nat.le_of_ble_eq_true rfl) dX4_split_141 rfl ?_
      refine g_aload_n C 0 rfl rfl dX4_split_144 ?_
      refine g_iload_n C 2 rfl rfl dX4_split_145 ?_
      refine g_iload_n C 3 rfl rfl dX4_split_146 ?_
      refine g_iload C 5 rfl dX4_split_147 ?_
      obtain ⟨S26, h25, hf⟩ := bd_some hf
      refine g_callVV C (n := 3) (st := []) (c_X4_soilThree g S24 r2 r6 v19 h25) (tb_wsV _ mM_X4_242 mI_X4_soilThree mS_X4_soilThree mN_X4 mK_X4_soilThree) (by decide +kernel) rfl rfl ⟨by decide, by decide⟩ 0 4 rfl rfl rfl (Nat.le_of_ble_eq_true rfl) dX4_split_149 rfl ?_
      obtain rfl := Option.some.inj hf
      exact g_vret hr dX4_split_152
    · skip
      refine g_if_ne C 122 (by decide) dX4_split_106 (fun h27 => ?_) (fun h27 => ?_)
      · rw [if_neg h27] at hf
        refine g_sub [1, 2, 3, 4, 5, 0] rfl ?_
        exact hj20 S14 r17 hf
      · rw [if_pos h27] at hf
        refine g_aload_n C 1 rfl rfl dX4_split_109 ?_
        refine g_iconst C (v := 2) (by decide) dX4_split_110 ?_
        obtain ⟨r29, S30, h28, hf⟩ := bd2_some hf
        refine g_callVI C (n := 1) (st := []) (c_X4_takePage g S14 2 h28) (tb_wsV _ mM_X4_223 mI_X4_takePage mS_X4_takePage mN_X4 mK_X4_takePage) (by decide +kernel) rfl rfl ⟨by decide, by decide⟩ 0 4 rfl rfl rfl (Nat.le_of_ble_eq_true rfl) dX4_split_111 rfl ?_
        refine g_istore C (lv2 := [(5, .int r29), (0, .ref (ax x 0)), (1, .int a1), (2, .int r2), (3, .int r6), (4, .int r9)]) (by decide) rfl dX4_split_114 ?_
        refine g_aload_n C 1 rfl rfl dX4_split_116 ?_
        refine g_iload C 0 rfl dX4_split_117 ?_
        obtain ⟨S32, h31, hf⟩ := bd_some hf
        refine g_callVV C (n := 1) (st := []) (c_X4_raiseRoot g S30 r29 h31) (tb_wsV _ mM_X4_236 mI_X4_raiseRoot mS_X4_raiseRoot mN_X4 mK_X4_raiseRoot) (by decide +kernel) rfl rfl ⟨by decide, by decide⟩ 0 4 rfl rfl rfl (Nat.le_of_ble_eq_true rfl) dX4_split_119 rfl ?_
        refine g_sub [1, 2, 3, 4, 5, 0] rfl ?_
        exact hj20 S32 r29 hf
  · skip
    refine g_icmp_ne C 83 (by decide) dX4_split_52 (fun h33 => ?_) (fun h33 => ?_)
    · rw [if_neg h33] at hf
      refine g_aload_n C 3 rfl rfl dX4_split_83 ?_
      refine tF_X4_12 C dX4_split_84 ?_
      refine g_iload_n C 1 rfl rfl dX4_split_87 ?_
      refine g_iconst C (v := 0) (by decide) dX4_split_88 ?_
      refine g_iconst C (v := 0) (by decide) dX4_split_89 ?_
      obtain ⟨S35, h34, hf⟩ := bd_some hf
      refine g_callVV C (n := 3) (st := []) (c_X0_setKey g S11 r6 0 0 h34) (tb_wsV _ mM_X4_233 mI_X0_setKey mS_X0_setKey mN_X0 mK_X0_setKey) (by decide +kernel) rfl rfl ⟨by decide, by decide⟩ 1 0 rfl rfl rfl (Nat.le_of_ble_eq_true rfl) dX4_split_90 rfl ?_
      refine g_sub [3, 4, 2, 1, 0] rfl ?_
      exact hj15 S35 hf
    · rw [if_pos h33] at hf
      refine g_aload_n C 3 rfl rfl dX4_split_55 ?_
      refine tF_X4_12 C dX4_split_56 ?_
      refine g_iload_n C 1 rfl rfl dX4_split_59 ?_
      refine g_aload_n C 3 rfl rfl dX4_split_60 ?_
      refine tF_X4_12 C dX4_split_61 ?_
      refine g_iload_n C 2 rfl rfl dX4_split_64 ?_
      obtain ⟨r37, h36, hf⟩ := bd_some hf
      refine g_callVI C (n := 1) (st := [.int r6, .ref (ax x 1)]) (c_X0_leafAfter g S11 r2 h36) (tb_wsV _ mM_X4_166 mI_X0_leafAfter mS_X0_leafAfter mN_X0 mK_X0_leafAfter) (by decide +kernel) rfl rfl ⟨by decide, by decide⟩ 1 0 rfl rfl rfl (Nat.le_of_ble_eq_true rfl) dX4_split_65 rfl ?_
      obtain ⟨S39, h38, hf⟩ := bd_some hf
      refine g_callVV C (n := 2) (st := []) (c_X0_setLeafAfter g S11 r6 r37 h38) (tb_wsV _ mM_X4_230 mI_X0_setLeafAfter mS_X0_setLeafAfter mN_X0 mK_X0_setLeafAfter) (by decide +kernel) rfl rfl ⟨by decide, by decide⟩ 1 0 rfl rfl rfl (Nat.le_of_ble_eq_true rfl) dX4_split_68 rfl ?_
      refine g_aload_n C 3 rfl rfl dX4_split_71 ?_
      refine tF_X4_12 C dX4_split_72 ?_
      refine g_iload_n C 2 rfl rfl dX4_split_75 ?_
      refine g_iload_n C 1 rfl rfl dX4_split_76 ?_
      obtain ⟨S41, h40, hf⟩ := bd_some hf
      refine g_callVV C (n := 2) (st := []) (c_X0_setLeafAfter g S39 r2 r6 h40) (tb_wsV _ mM_X4_230 mI_X0_setLeafAfter mS_X0_setLeafAfter mN_X0 mK_X0_setLeafAfter) (by decide +kernel) rfl rfl ⟨by decide, by decide⟩ 1 0 rfl rfl rfl (Nat.le_of_ble_eq_true rfl) dX4_split_77 rfl ?_
      refine g_goto C 93 (by decide) dX4_split_80 ?_
      refine g_sub [3, 4, 2, 1, 0] rfl ?_
      exact hj15 S41 hf
def f_X4_splitUpwards_10 (g : Nat)  : Nat → Mem → Int32 → Option (Mem)
  | 0, _, _ => none
  | n + 1, S, w1 => if w1 < 0 then (some S) else (bd (f_X3_pageAt g S w1) (fun r5 => bd (f_X0_countOf g S r5) (fun r7 => if 4 < r7 then (bd (f_X4_split g S w1) (fun S10 => f_X4_splitUpwards_10 g n S10 (w1 + (-1)))) else (some S))))
def f_X4_splitUpwards (g : Nat) (S : Mem) : Option (Mem) := bd (f_X3_length g S) (fun r2 => f_X4_splitUpwards_10 g g S (r2 - 1))
abbrev rmX4_splitUpwards : Room := { frames := 5, cells := 0, slots := 0, locals := 120 }
set_option maxHeartbeats 4000000 in
set_option maxRecDepth 100000 in
theorem lp_X4_splitUpwards_10 {κ : Kx} {x : Ad} (C : Cx κ x cX4_splitUpwards RX4 kX4_splitUpwards rmX4_splitUpwards 2) {z : Mem} (hr : RV κ x cX4_splitUpwards (cT x z)) (g : Nat)  : ∀ (n : Nat) (S : Mem) (w1 : Int32), f_X4_splitUpwards_10 g n S w1 = some z → GG κ x (cT x S) 10 [(0, .ref (ax x 0)), (1, .int w1)] [] := by
  intro n
  induction n with
  | zero => intro S w1 hf; cases hf
  | succ n ih =>
    intro S w1 hf
    rw [f_X4_splitUpwards_10] at hf
    refine g_iload_n C 1 rfl rfl dX4_splitUpwards_10 ?_
    refine g_if_lt C 45 (by decide) dX4_splitUpwards_11 (fun h3 => ?_) (fun h3 => ?_)
    · rw [if_pos h3] at hf
      obtain rfl := Option.some.inj hf
      exact g_vret hr dX4_splitUpwards_45
    · rw [if_neg h3] at hf
      refine g_aload_n C 0 rfl rfl dX4_splitUpwards_14 ?_
      refine tF_X4_12 C dX4_splitUpwards_15 ?_
      refine g_aload_n C 0 rfl rfl dX4_splitUpwards_18 ?_
      refine tF_X4_26 C dX4_splitUpwards_19 ?_
      refine g_iload_n C 1 rfl rfl dX4_splitUpwards_22 ?_
      obtain ⟨r5, h4, hf⟩ := bd_some hf
      refine g_callVI C (n := 1) (st := [.ref (ax x 1)]) (c_X3_pageAt g S w1 h4) (tb_wsV _ mM_X4_217 mI_X3_pageAt mS_X3_pageAt mN_X3 mK_X3_pageAt) (by decide +kernel) rfl rfl ⟨by decide, by decide⟩ 12 3 rfl rfl rfl (Nat.le_of_ble_eq_true rfl) dX4_splitUpwards_23 rfl ?_
      obtain ⟨r7, h6, hf⟩ := bd_some hf
      refine g_callVI C (n := 1) (st := []) (c_X0_countOf g S r5 h6) (tb_wsV _ mM_X4_163 mI_X0_countOf mS_X0_countOf mN_X0 mK_X0_countOf) (by decide +kernel) rfl rfl ⟨by decide, by decide⟩ 1 0 rfl rfl rfl (Nat.le_of_ble_eq_true rfl) dX4_splitUpwards_26 rfl ?_
      refine g_iconst C (v := 4) (by decide) dX4_splitUpwards_29 ?_
      refine g_icmp_gt C 34 (by decide) dX4_splitUpwards_30 (fun h8 => ?_) (fun h8 => ?_)
      · rw [if_pos h8] at hf
        refine g_aload_n C 0 rfl rfl dX4_splitUpwards_34 ?_
        refine g_iload_n C 1 rfl rfl dX4_splitUpwards_35 ?_
        obtain ⟨S10, h9, hf⟩ := bd_some hf
        refine g_callVV C (n := 1) (st := []) (c_X4_split g S w1 h9) (tb_wsV _ mM_X4_220 mI_X4_split mS_X4_split mN_X4 mK_X4_split) (by decide +kernel) rfl rfl ⟨by decide, by decide⟩ 0 4 rfl rfl rfl (Nat.le_of_ble_eq_true rfl) dX4_splitUpwards_36 rfl ?_
        refine g_iinc C (v := w1 + (-1)) (lv2 := [(1, .int (w1 + (-1))), (0, .ref (ax x 0))]) 1 rfl (by rw [(by decide : Int32.ofInt (-1) = (-1))]) (by decide) rfl dX4_splitUpwards_39 ?_
        refine g_goto C 10 (by decide) dX4_splitUpwards_42 ?_
        refine g_sub [1, 0] rfl ?_
        exact ih S10 (w1 + (-1)) hf
      · rw [if_neg h8] at hf
        obtain rfl := Option.some.inj hf
        exact g_vret hr dX4_splitUpwards_33
set_option maxHeartbeats 4000000 in
set_option maxRecDepth 100000 in
theorem c_X4_splitUpwards {l : Launch} {x : Ad} (g : Nat) (S : Mem) {z : Mem} (hf : f_X4_splitUpwards g S = some z) : MV l x yX4_splitUpwards kX4_splitUpwards rmX4_splitUpwards [.ref (ax x 0)] (cT x S) (cT x z) := by
  refine met_V RX4 (by decide +kernel) rfl (Nat.le_of_ble_eq_true rfl) [(0, .ref (ax x 0))] rfl ?_
  intro κ hl C hr
  subst hl
  rw [f_X4_splitUpwards] at hf
  refine g_aload_n C 0 rfl rfl dX4_splitUpwards_0 ?_
  refine tF_X4_26 C dX4_splitUpwards_1 ?_
  obtain ⟨r2, h1, hf⟩ := bd_some hf
  refine g_callVI C (n := 0) (st := []) (c_X3_length g S h1) (tb_wsV _ mM_X4_214 mI_X3_length mS_X3_length mN_X3 mK_X3_length) (by decide +kernel) rfl rfl ⟨by decide, by decide⟩ 12 3 rfl rfl rfl (Nat.le_of_ble_eq_true rfl) dX4_splitUpwards_4 rfl ?_
  refine g_iconst C (v := 1) (by decide) dX4_splitUpwards_7 ?_
  refine g_isub C dX4_splitUpwards_8 ?_
  refine g_istore_n C (lv2 := [(1, .int (r2 - 1)), (0, .ref (ax x 0))]) rfl (by decide) rfl dX4_splitUpwards_9 ?_
  refine g_sub [1, 0] rfl ?_
  exact lp_X4_splitUpwards_10 C hr g g S (r2 - 1) hf
