def f_X4_put (g : Nat) (S : Mem) (a1 : Int32) (a2 : Int32) : Option ((Nat × Int32) × Mem) := bd (f_X3_lead g S (S.1 0 4) a1) (fun S2 => bd (f_X3_leaf g S2) (fun r4 => bd (f_X0_placeOf g S2 r4 a1) (fun r6 => bd (f_X0_hasKey g S2 r4 r6 a1) (fun r8 => jn0 (bd (f_X4_endCursor g S2) (fun S11 => bd (f_X4_touchWay g S11) (fun S13 => bd (f_X1_soil g S13 r4) (fun S15 => jn1 (fun (S16 : Mem) => bd (f_X1_unpinAll g S16) (fun S19 => if r8 = 0 then (some ((0, 1), S19)) else (some ((0, 0), S19)))) (fun j17 => if r8 = 0 then (bd (f_X0_insert g S15 r4 r6 a1 a2) (fun S23 => bd (f_X4_splitUpwards g (up S23 0 5 ((S23.1 0 5) + 1))) (fun S25 => j17 S25))) else (bd (f_X0_setItem g S15 r4 r6 a1 a2) (fun S27 => j17 S27))))))) (fun j9 => if r8 = 0 then (bd (f_X4_newPagesForEntry g S2) (fun r30 => bd (f_X0_countFree g S2) (fun r32 => if r30 ≤ r32 then (j9) else (some ((1, 0), S2))))) else (j9))))))
abbrev rmX4_put : Room := { frames := 6, cells := 1, slots := 6, locals := 141 }
set_option maxHeartbeats 4000000 in
set_option maxRecDepth 100000 in
theorem c_X4_put {l : Launch} {x : Ad} (hl0 : l.stackTraces = false) (g : Nat) (S : Mem) (a1 : Int32) (a2 : Int32) {z : (Nat × Int32) × Mem} (hf : f_X4_put g S a1 a2 = some z) : MX l x yX4_put kX4_put rmX4_put [.ref (ax x 0), .int a1, .int a2] (cT x S) z.1.1 z.1.2 (cT x z.2) := by
  refine met_XZ hl0 (by decide +kernel) rfl (Nat.le_of_ble_eq_true rfl) [(0, .ref (ax x 0)), (1, .int a1), (2, .int a2)] rfl (by decide) ?_
  intro κ hl C hr ht hn
  subst hl
  rw [f_X4_put] at hf
  refine g_aload_n C 0 rfl rfl dX4_put_0 ?_
  refine tF_X4_26 C dX4_put_1 ?_
  refine g_aload_n C 0 rfl rfl dX4_put_4 ?_
  refine tF_X4_12 C dX4_put_5 ?_
  refine g_aload_n C 0 rfl rfl dX4_put_8 ?_
  refine tF_X4_37 C dX4_put_9 ?_
  refine g_iload_n C 1 rfl rfl dX4_put_12 ?_
  obtain ⟨S2, h1, hf⟩ := bd_some hf
  refine g_callVV C (n := 3) (st := []) (c_X3_lead g S (S.1 0 4) a1 h1) (tb_wsV _ mM_X4_51 mI_X3_lead mS_X3_lead mN_X3 mK_X3_lead) (by decide +kernel) rfl rfl ⟨by decide, by decide⟩ 12 3 rfl rfl rfl (Nat.le_of_ble_eq_true rfl) dX4_put_13 rfl ?_
  refine g_aload_n C 0 rfl rfl dX4_put_16 ?_
  refine tF_X4_26 C dX4_put_17 ?_
  obtain ⟨r4, h3, hf⟩ := bd_some hf
  refine g_callVI C (n := 0) (st := []) (c_X3_leaf g S2 h3) (tb_wsV _ mM_X4_55 mI_X3_leaf mS_X3_leaf mN_X3 mK_X3_leaf) (by decide +kernel) rfl rfl ⟨by decide, by decide⟩ 12 3 rfl rfl rfl (Nat.le_of_ble_eq_true rfl) dX4_put_20 rfl ?_
  refine g_istore_n C (lv2 := [(3, .int r4), (0, .ref (ax x 0)), (1, .int a1), (2, .int a2)]) rfl (by decide) rfl dX4_put_23 ?_
  refine g_aload_n C 1 rfl rfl dX4_put_24 ?_
  refine tF_X4_12 C dX4_put_25 ?_
  refine g_iload_n C 0 rfl rfl dX4_put_28 ?_
  refine g_iload_n C 2 rfl rfl dX4_put_29 ?_
  obtain ⟨r6, h5, hf⟩ := bd_some hf
  refine g_callVI C (n := 2) (st := []) (c_X0_placeOf g S2 r4 a1 h5) (tb_wsV _ mM_X4_59 mI_X0_placeOf mS_X0_placeOf mN_X0 mK_X0_placeOf) (by decide +kernel) rfl rfl ⟨by decide, by decide⟩ 1 0 rfl rfl rfl (Nat.le_of_ble_eq_true rfl) dX4_put_30 rfl ?_
  refine g_istore C (lv2 := [(4, .int r6), (3, .int r4), (0, .ref (ax x 0)), (1, .int a1), (2, .int a2)]) (by decide) rfl dX4_put_33 ?_
  refine g_aload_n C 2 rfl rfl dX4_put_35 ?_
  refine tF_X4_12 C dX4_put_36 ?_
  refine g_iload_n C 1 rfl rfl dX4_put_39 ?_
  refine g_iload C 0 rfl dX4_put_40 ?_
  refine g_iload_n C 3 rfl rfl dX4_put_42 ?_
  obtain ⟨r8, h7, hf⟩ := bd_some hf
  refine g_callVI C (n := 3) (st := []) (c_X0_hasKey g S2 r4 r6 a1 h7) (tb_wsV _ mM_X4_63 mI_X0_hasKey mS_X0_hasKey mN_X0 mK_X0_hasKey) (by decide +kernel) rfl rfl ⟨by decide, by decide⟩ 1 0 rfl rfl rfl (Nat.le_of_ble_eq_true rfl) dX4_put_43 rfl ?_
  refine g_istore C (lv2 := [(5, .int r8), (4, .int r6), (3, .int r4), (0, .ref (ax x 0)), (1, .int a1), (2, .int a2)]) (by decide) rfl dX4_put_46 ?_
  refine g_iload C 0 rfl dX4_put_48 ?_
  refine jn0_elim (GG κ x (cT x S2) 77 [(0, .ref (ax x 0)), (1, .int a1), (2, .int a2), (3, .int r4), (4, .int r6), (5, .int r8)] []) hf (fun hf => ?_) (fun j9 hj9 hf => ?_)
  · show GG κ x (cT x S2) 77 [(0, .ref (ax x 0)), (1, .int a1), (2, .int a2), (3, .int r4), (4, .int r6), (5, .int r8)] []
    refine g_aload_n C 0 rfl rfl dX4_put_77 ?_
    obtain ⟨S11, h10, hf⟩ := bd_some hf
    refine g_callVV C (n := 0) (st := []) (c_X4_endCursor g S2 h10) (tb_wsV _ mM_X4_80 mI_X4_endCursor mS_X4_endCursor mN_X4 mK_X4_endCursor) (by decide +kernel) rfl rfl ⟨by decide, by decide⟩ 0 4 rfl rfl rfl (Nat.le_of_ble_eq_true rfl) dX4_put_78 rfl ?_
    refine g_aload_n C 0 rfl rfl dX4_put_81 ?_
    obtain ⟨S13, h12, hf⟩ := bd_some hf
    refine g_callVV C (n := 0) (st := []) (c_X4_touchWay g S11 h12) (tb_wsV _ mM_X4_83 mI_X4_touchWay mS_X4_touchWay mN_X4 mK_X4_touchWay) (by decide +kernel) rfl rfl ⟨by decide, by decide⟩ 0 4 rfl rfl rfl (Nat.le_of_ble_eq_true rfl) dX4_put_82 rfl ?_
    refine g_aload_n C 0 rfl rfl dX4_put_85 ?_
    refine tF_X4_19 C dX4_put_86 ?_
    refine g_iload_n C 3 rfl rfl dX4_put_89 ?_
    obtain ⟨S15, h14, hf⟩ := bd_some hf
    refine g_callVV C (n := 1) (st := []) (c_X1_soil g S13 r4 h14) (tb_wsV _ mM_X4_86 mI_X1_soil mS_X1_soil mN_X1 mK_X1_soil) (by decide +kernel) rfl rfl ⟨by decide, by decide⟩ 7 1 rfl rfl rfl (Nat.le_of_ble_eq_true rfl) dX4_put_90 rfl ?_
    refine g_iload C 5 rfl dX4_put_93 ?_
    refine jn1_elim (fun (S16 : Mem) => GG κ x (cT x S16) 139 [(0, .ref (ax x 0)), (5, .int r8)] []) hf (fun S16 hf => ?_) (fun j17 hj17 hf => ?_)
    · show GG κ x (cT x S16) 139 [(0, .ref (ax x 0)), (5, .int r8)] []
      refine g_aload_n C 0 rfl rfl dX4_put_139 ?_
      refine tF_X4_19 C dX4_put_140 ?_
      obtain ⟨S19, h18, hf⟩ := bd_some hf
      refine g_callVV C (n := 0) (st := []) (c_X1_unpinAll g S16 h18) (tb_wsV _ mM_X4_100 mI_X1_unpinAll mS_X1_unpinAll mN_X1 mK_X1_unpinAll) (by decide +kernel) rfl rfl ⟨by decide, by decide⟩ 7 1 rfl rfl rfl (Nat.le_of_ble_eq_true rfl) dX4_put_143 rfl ?_
      refine g_iload C 1 rfl dX4_put_146 ?_
      refine g_if_ne C 155 (by decide) dX4_put_148 (fun h20 => ?_) (fun h20 => ?_)
      · rw [if_neg h20] at hf
        refine g_iconst C (v := 0) (by decide) dX4_put_155 ?_
        obtain rfl := Option.some.inj hf
        exact g_iret (hr rfl (Or.inl rfl)) dX4_put_156
      · rw [if_pos h20] at hf
        refine g_iconst C (v := 1) (by decide) dX4_put_151 ?_
        refine g_goto C 156 (by decide) dX4_put_152 ?_
        obtain rfl := Option.some.inj hf
        exact g_iret (hr rfl (Or.inr rfl)) dX4_put_156
    · skip
      refine g_if_eq C 113 (by decide) dX4_put_95 (fun h21 => ?_) (fun h21 => ?_)
      · rw [if_pos h21] at hf
        refine g_aload_n C 0 rfl rfl dX4_put_113 ?_
        refine tF_X4_12 C dX4_put_114 ?_
        refine g_iload_n C 3 rfl rfl dX4_put_117 ?_
        refine g_iload C 4 rfl dX4_put_118 ?_
        refine g_iload_n C 1 rfl rfl dX4_put_120 ?_
        refine g_iload_n C 2 rfl rfl dX4_put_121 ?_
        obtain ⟨S23, h22, hf⟩ := bd_some hf
        refine g_callVV C (n := 4) (st := []) (c_X0_insert g S15 r4 r6 a1 a2 h22) (tb_wsV _ mM_X4_94 mI_X0_insert mS_X0_insert mN_X0 mK_X0_insert) (by decide +kernel) rfl rfl ⟨by decide, by decide⟩ 1 0 rfl rfl rfl (Nat.le_of_ble_eq_true rfl) dX4_put_122 rfl ?_
        refine g_aload_n C 0 rfl rfl dX4_put_125 ?_
        refine g_dup C rfl dX4_put_126 ?_
        refine tF_X4_41 C dX4_put_127 ?_
        refine g_iconst C (v := 1) (by decide) dX4_put_130 ?_
        refine g_iadd C dX4_put_131 ?_
        refine tP_X4_41 C dX4_put_132 ?_
        refine g_aload_n C 0 rfl rfl dX4_put_135 ?_
        obtain ⟨S25, h24, hf⟩ := bd_some hf
        refine g_callVV C (n := 0) (st := []) (c_X4_splitUpwards g (up S23 0 5 ((S23.1 0 5) + 1)) h24) (tb_wsV _ mM_X4_97 mI_X4_splitUpwards mS_X4_splitUpwards mN_X4 mK_X4_splitUpwards) (by decide +kernel) rfl rfl ⟨by decide, by decide⟩ 0 4 rfl rfl rfl (Nat.le_of_ble_eq_true rfl) dX4_put_136 rfl ?_
        refine g_sub [0, 5] rfl ?_
        exact hj17 S25 hf
      · rw [if_neg h21] at hf
        refine g_aload_n C 0 rfl rfl dX4_put_98 ?_
        refine tF_X4_12 C dX4_put_99 ?_
        refine g_iload_n C 3 rfl rfl dX4_put_102 ?_
        refine g_iload C 4 rfl dX4_put_103 ?_
        refine g_iload_n C 1 rfl rfl dX4_put_105 ?_
        refine g_iload_n C 2 rfl rfl dX4_put_106 ?_
        obtain ⟨S27, h26, hf⟩ := bd_some hf
        refine g_callVV C (n := 4) (st := []) (c_X0_setItem g S15 r4 r6 a1 a2 h26) (tb_wsV _ mM_X4_90 mI_X0_setItem mS_X0_setItem mN_X0 mK_X0_setItem) (by decide +kernel) rfl rfl ⟨by decide, by decide⟩ 1 0 rfl rfl rfl (Nat.le_of_ble_eq_true rfl) dX4_put_107 rfl ?_
        refine g_goto C 139 (by decide) dX4_put_110 ?_
        refine g_sub [0, 5] rfl ?_
        exact hj17 S27 hf
  · skip
    refine g_if_ne C 77 (by decide) dX4_put_50 (fun h28 => ?_) (fun h28 => ?_)
    · rw [if_neg h28] at hf
      refine g_sub [3, 4, 5, 2, 1, 0] rfl ?_
      exact hj9 hf
    · rw [if_pos h28] at hf
      refine g_aload_n C 3 rfl rfl dX4_put_53 ?_
      obtain ⟨r30, h29, hf⟩ := bd_some hf
      refine g_callVI C (n := 0) (st := []) (c_X4_newPagesForEntry g S2 h29) (tb_wsV _ mM_X4_67 mI_X4_newPagesForEntry mS_X4_newPagesForEntry mN_X4 mK_X4_newPagesForEntry) (by decide +kernel) rfl rfl ⟨by decide, by decide⟩ 0 4 rfl rfl rfl (Nat.le_of_ble_eq_true rfl) dX4_put_54 rfl ?_
      refine g_aload_n C 3 rfl rfl dX4_put_57 ?_
      refine tF_X4_12 C dX4_put_58 ?_
      obtain ⟨r32, h31, hf⟩ := bd_some hf
      refine g_callVI C (n := 0) (st := [.int r30]) (c_X0_countFree g S2 h31) (tb_wsV _ mM_X4_70 mI_X0_countFree mS_X0_countFree mN_X0 mK_X0_countFree) (by decide +kernel) rfl rfl ⟨by decide, by decide⟩ 1 0 rfl rfl rfl (Nat.le_of_ble_eq_true rfl) dX4_put_61 rfl ?_
      refine g_icmp_le C 77 (by decide) dX4_put_64 (fun h33 => ?_) (fun h33 => ?_)
      · rw [if_pos h33] at hf
        refine g_sub [3, 4, 5, 2, 1, 0] rfl ?_
        exact hj9 hf
      · rw [if_neg h33] at hf
        obtain rfl := Option.some.inj hf
        exact g_throw C (ht _ _ _ _ _ tw_77_75 (by show (1 : Nat) ≠ 0; decide) rfl) dX4_put_67 dX4_put_70 dX4_put_71 dX4_put_73 dX4_put_76
def f_X4_get (g : Nat) (S : Mem) (a1 : Int32) : Option ((Nat × Int32) × Mem) := bd (f_X3_lead g S (S.1 0 4) a1) (fun S2 => bd (f_X3_leaf g S2) (fun r4 => bd (f_X0_placeOf g S2 r4 a1) (fun r6 => bd (f_X0_hasKey g S2 r4 r6 a1) (fun r8 => if r8 = 0 then (some ((2, 0), S2)) else (bd (f_X4_touchWay g S2) (fun S11 => bd (f_X1_unpinAll g S11) (fun S13 => bd (f_X0_secondAt g S13 r4 r6) (fun r15 => some ((0, r15), S13)))))))))
abbrev rmX4_get : Room := { frames := 6, cells := 1, slots := 6, locals := 94 }
set_option maxHeartbeats 4000000 in
set_option maxRecDepth 100000 in
theorem c_X4_get {l : Launch} {x : Ad} (hl0 : l.stackTraces = false) (g : Nat) (S : Mem) (a1 : Int32) {z : (Nat × Int32) × Mem} (hf : f_X4_get g S a1 = some z) : MX l x yX4_get kX4_get rmX4_get [.ref (ax x 0), .int a1] (cT x S) z.1.1 z.1.2 (cT x z.2) := by
  refine met_XI hl0 (by decide +kernel) rfl (Nat.le_of_ble_eq_true rfl) [(0, .ref (ax x 0)), (1, .int a1)] rfl (by decide) ?_
  intro κ hl C hr ht hn
  subst hl
  rw [f_X4_get] at hf
  refine g_aload_n C 0 rfl rfl dX4_get_0 ?_
  refine tF_X4_26 C dX4_get_1 ?_
  refine g_aload_n C 0 rfl rfl dX4_get_4 ?_
  refine tF_X4_12 C dX4_get_5 ?_
  refine g_aload_n C 0 rfl rfl dX4_get_8 ?_
  refine tF_X4_37 C dX4_get_9 ?_
  refine g_iload_n C 1 rfl rfl dX4_get_12 ?_
  obtain ⟨S2, h1, hf⟩ := bd_some hf
  refine g_callVV C (n := 3) (st := []) (c_X3_lead g S (S.1 0 4) a1 h1) (tb_wsV _ mM_X4_51 mI_X3_lead mS_X3_lead mN_X3 mK_X3_lead) (by decide +kernel) rfl rfl ⟨by decide, by decide⟩ 12 3 rfl rfl rfl (Nat.le_of_ble_eq_true rfl) dX4_get_13 rfl ?_
  refine g_aload_n C 0 rfl rfl dX4_get_16 ?_
  refine tF_X4_26 C dX4_get_17 ?_
  obtain ⟨r4, h3, hf⟩ := bd_some hf
  refine g_callVI C (n := 0) (st := []) (c_X3_leaf g S2 h3) (tb_wsV _ mM_X4_55 mI_X3_leaf mS_X3_leaf mN_X3 mK_X3_leaf) (by decide +kernel) rfl rfl ⟨by decide, by decide⟩ 12 3 rfl rfl rfl (Nat.le_of_ble_eq_true rfl) dX4_get_20 rfl ?_
  refine g_istore_n C (lv2 := [(2, .int r4), (0, .ref (ax x 0)), (1, .int a1)]) rfl (by decide) rfl dX4_get_23 ?_
  refine g_aload_n C 1 rfl rfl dX4_get_24 ?_
  refine tF_X4_12 C dX4_get_25 ?_
  refine g_iload_n C 0 rfl rfl dX4_get_28 ?_
  refine g_iload_n C 2 rfl rfl dX4_get_29 ?_
  obtain ⟨r6, h5, hf⟩ := bd_some hf
  refine g_callVI C (n := 2) (st := []) (c_X0_placeOf g S2 r4 a1 h5) (tb_wsV _ mM_X4_59 mI_X0_placeOf mS_X0_placeOf mN_X0 mK_X0_placeOf) (by decide +kernel) rfl rfl ⟨by decide, by decide⟩ 1 0 rfl rfl rfl (Nat.le_of_ble_eq_true rfl) dX4_get_30 rfl ?_
  refine g_istore_n C (lv2 := [(3, .int r6), (2, .int r4), (0, .ref (ax x 0)), (1, .int a1)]) rfl (by decide) rfl dX4_get_33 ?_
  refine g_aload_n C 2 rfl rfl dX4_get_34 ?_
  refine tF_X4_12 C dX4_get_35 ?_
  refine g_iload_n C 1 rfl rfl dX4_get_38 ?_
  refine g_iload_n C 0 rfl rfl dX4_get_39 ?_
  refine g_iload_n C 3 rfl rfl dX4_get_40 ?_
  obtain ⟨r8, h7, hf⟩ := bd_some hf
  refine g_callVI C (n := 3) (st := []) (c_X0_hasKey g S2 r4 r6 a1 h7) (tb_wsV _ mM_X4_63 mI_X0_hasKey mS_X0_hasKey mN_X0 mK_X0_hasKey) (by decide +kernel) rfl rfl ⟨by decide, by decide⟩ 1 0 rfl rfl rfl (Nat.le_of_ble_eq_true rfl) dX4_get_41 rfl ?_
  refine g_if_ne C 57 (by decide) dX4_get_44 (fun h9 => ?_) (fun h9 => ?_)
  · rw [if_neg h9] at hf
    refine g_aload_n C 2 rfl rfl dX4_get_57 ?_
    obtain ⟨S11, h10, hf⟩ := bd_some hf
    refine g_callVV C (n := 0) (st := []) (c_X4_touchWay g S2 h10) (tb_wsV _ mM_X4_83 mI_X4_touchWay mS_X4_touchWay mN_X4 mK_X4_touchWay) (by decide +kernel) rfl rfl ⟨by decide, by decide⟩ 0 4 rfl rfl rfl (Nat.le_of_ble_eq_true rfl) dX4_get_58 rfl ?_
    refine g_aload_n C 2 rfl rfl dX4_get_61 ?_
    refine tF_X4_19 C dX4_get_62 ?_
    obtain ⟨S13, h12, hf⟩ := bd_some hf
    refine g_callVV C (n := 0) (st := []) (c_X1_unpinAll g S11 h12) (tb_wsV _ mM_X4_100 mI_X1_unpinAll mS_X1_unpinAll mN_X1 mK_X1_unpinAll) (by decide +kernel) rfl rfl ⟨by decide, by decide⟩ 7 1 rfl rfl rfl (Nat.le_of_ble_eq_true rfl) dX4_get_65 rfl ?_
    refine g_aload_n C 2 rfl rfl dX4_get_68 ?_
    refine tF_X4_12 C dX4_get_69 ?_
    refine g_iload_n C 1 rfl rfl dX4_get_72 ?_
    refine g_iload_n C 0 rfl rfl dX4_get_73 ?_
    obtain ⟨r15, h14, hf⟩ := bd_some hf
    refine g_callVI C (n := 2) (st := []) (c_X0_secondAt g S13 r4 r6 h14) (tb_wsV _ mM_X4_108 mI_X0_secondAt mS_X0_secondAt mN_X0 mK_X0_secondAt) (by decide +kernel) rfl rfl ⟨by decide, by decide⟩ 1 0 rfl rfl rfl (Nat.le_of_ble_eq_true rfl) dX4_get_74 rfl ?_
    obtain rfl := Option.some.inj hf
    exact g_iret (hr rfl) dX4_get_77
  · rw [if_pos h9] at hf
    obtain rfl := Option.some.inj hf
    exact g_throw C (hn _ _ _ _ tw_107_105 rfl) dX4_get_47 dX4_get_50 dX4_get_51 dX4_get_53 dX4_get_56
def f_X4_next (g : Nat) (S : Mem) : Option ((Nat × Int32) × Mem) := if (S.1 0 6) = ((-1)) then (some ((2, 0), S)) else (bd (f_X1_touch g S (S.1 0 6) 0) (fun S3 => bd2 (f_X4_moveCursor g S3 (S3.1 0 6) ((S3.1 0 7) + 1)) (fun r5 S6 => bd (f_X1_unpinAll g S6) (fun S8 => gd (iz r5) (some ((0, r5), S8))))))
abbrev rmX4_next : Room := { frames := 6, cells := 1, slots := 6, locals := 92 }
set_option maxHeartbeats 4000000 in
set_option maxRecDepth 100000 in
theorem c_X4_next {l : Launch} {x : Ad} (hl0 : l.stackTraces = false) (g : Nat) (S : Mem) {z : (Nat × Int32) × Mem} (hf : f_X4_next g S = some z) : MX l x yX4_next kX4_next rmX4_next [.ref (ax x 0)] (cT x S) z.1.1 z.1.2 (cT x z.2) := by
  refine met_XZ hl0 (by decide +kernel) rfl (Nat.le_of_ble_eq_true rfl) [(0, .ref (ax x 0))] rfl (by decide) ?_
  intro κ hl C hr ht hn
  subst hl
  rw [f_X4_next] at hf
  refine g_aload_n C 0 rfl rfl dX4_next_0 ?_
  refine tF_X4_44 C dX4_next_1 ?_
  refine g_iconst C (v := (-1)) (by decide) dX4_next_4 ?_
  refine g_icmp_ne C 18 (by decide) dX4_next_5 (fun h1 => ?_) (fun h1 => ?_)
  · rw [if_neg h1] at hf
    refine g_aload_n C 0 rfl rfl dX4_next_18 ?_
    refine tF_X4_19 C dX4_next_19 ?_
    refine g_aload_n C 0 rfl rfl dX4_next_22 ?_
    refine tF_X4_44 C dX4_next_23 ?_
    refine g_iconst C (v := 0) (by decide) dX4_next_26 ?_
    obtain ⟨S3, h2, hf⟩ := bd_some hf
    refine g_callVV C (n := 2) (st := []) (c_X1_touch g S (S.1 0 6) 0 h2) (tb_wsV _ mM_X4_123 mI_X1_touch mS_X1_touch mN_X1 mK_X1_touch) (by decide +kernel) rfl rfl ⟨by decide, by decide⟩ 7 1 rfl rfl rfl (Nat.le_of_ble_eq_true rfl) dX4_next_27 rfl ?_
    refine g_aload_n C 0 rfl rfl dX4_next_30 ?_
    refine g_aload_n C 0 rfl rfl dX4_next_31 ?_
    refine tF_X4_44 C dX4_next_32 ?_
    refine g_aload_n C 0 rfl rfl dX4_next_35 ?_
    refine tF_X4_127 C dX4_next_36 ?_
    refine g_iconst C (v := 1) (by decide) dX4_next_39 ?_
    refine g_iadd C dX4_next_40 ?_
    obtain ⟨r5, S6, h4, hf⟩ := bd2_some hf
    refine g_callVI C (n := 2) (st := []) (c_X4_moveCursor g S3 (S3.1 0 6) ((S3.1 0 7) + 1) h4) (tb_wsV _ mM_X4_117 mI_X4_moveCursor mS_X4_moveCursor mN_X4 mK_X4_moveCursor) (by decide +kernel) rfl rfl ⟨by decide, by decide⟩ 0 4 rfl rfl rfl (Nat.le_of_ble_eq_true rfl) dX4_next_41 rfl ?_
    refine g_istore_n C (lv2 := [(1, .int r5), (0, .ref (ax x 0))]) rfl (by decide) rfl dX4_next_44 ?_
    refine g_aload_n C 1 rfl rfl dX4_next_45 ?_
    refine tF_X4_19 C dX4_next_46 ?_
    obtain ⟨S8, h7, hf⟩ := bd_some hf
    refine g_callVV C (n := 0) (st := []) (c_X1_unpinAll g S6 h7) (tb_wsV _ mM_X4_100 mI_X1_unpinAll mS_X1_unpinAll mN_X1 mK_X1_unpinAll) (by decide +kernel) rfl rfl ⟨by decide, by decide⟩ 7 1 rfl rfl rfl (Nat.le_of_ble_eq_true rfl) dX4_next_49 rfl ?_
    refine g_iload_n C 0 rfl rfl dX4_next_52 ?_
    obtain ⟨h9, hf⟩ := gd_some hf
    obtain rfl := Option.some.inj hf
    exact g_iret (hr rfl h9) dX4_next_53
  · rw [if_pos h1] at hf
    obtain rfl := Option.some.inj hf
    exact g_throw C (hn _ _ _ _ tw_107_121 rfl) dX4_next_8 dX4_next_11 dX4_next_12 dX4_next_14 dX4_next_17
def f_X4_cursor (g : Nat) (S : Mem) (a1 : Int32) : Option ((Nat × Int32) × Mem) := if (S.1 0 6) = ((-1)) then (some ((2, 0), S)) else (if a1 = 0 then (some ((0, S.1 0 8), S)) else (some ((0, S.1 0 9), S)))
abbrev rmX4_cursor : Room := { frames := 6, cells := 1, slots := 6, locals := 82 }
set_option maxHeartbeats 4000000 in
set_option maxRecDepth 100000 in
theorem c_X4_cursor {l : Launch} {x : Ad} (hl0 : l.stackTraces = false) (g : Nat) (S : Mem) (a1 : Int32) {z : (Nat × Int32) × Mem} (hf : f_X4_cursor g S a1 = some z) : MX l x yX4_cursor kX4_cursor rmX4_cursor [.ref (ax x 0), .int a1] (cT x S) z.1.1 z.1.2 (cT x z.2) := by
  refine met_XI hl0 (by decide +kernel) rfl (Nat.le_of_ble_eq_true rfl) [(0, .ref (ax x 0)), (1, .int a1)] rfl (by decide) ?_
  intro κ hl C hr ht hn
  subst hl
  rw [f_X4_cursor] at hf
  refine g_aload_n C 0 rfl rfl dX4_cursor_0 ?_
  refine tF_X4_44 C dX4_cursor_1 ?_
  refine g_iconst C (v := (-1)) (by decide) dX4_cursor_4 ?_
  refine g_icmp_ne C 18 (by decide) dX4_cursor_5 (fun h1 => ?_) (fun h1 => ?_)
  · rw [if_neg h1] at hf
    refine g_iload_n C 1 rfl rfl dX4_cursor_18 ?_
    refine g_if_eq C 29 (by decide) dX4_cursor_19 (fun h2 => ?_) (fun h2 => ?_)
    · rw [if_pos h2] at hf
      refine g_aload_n C 0 rfl rfl dX4_cursor_29 ?_
      refine tF_X4_133 C dX4_cursor_30 ?_
      obtain rfl := Option.some.inj hf
      exact g_iret (hr rfl) dX4_cursor_33
    · rw [if_neg h2] at hf
      refine g_aload_n C 0 rfl rfl dX4_cursor_22 ?_
      refine tF_X4_130 C dX4_cursor_23 ?_
      refine g_goto C 33 (by decide) dX4_cursor_26 ?_
      obtain rfl := Option.some.inj hf
      exact g_iret (hr rfl) dX4_cursor_33
  · rw [if_pos h1] at hf
    obtain rfl := Option.some.inj hf
    exact g_throw C (hn _ _ _ _ tw_107_121 rfl) dX4_cursor_8 dX4_cursor_11 dX4_cursor_12 dX4_cursor_14 dX4_cursor_17
def f_X4_drop (g : Nat) (S : Mem) : Option ((Nat × Int32) × Mem) := bd (f_X1_countDirty g S) (fun r2 => if r2 ≤ 0 then (bd (f_X4_endCursor g S) (fun S5 => bd2 (f_X1_emptyAll g S5) (fun r7 S8 => some ((0, r7), S8)))) else (some ((3, 0), S)))
abbrev rmX4_drop : Room := { frames := 6, cells := 1, slots := 6, locals := 82 }
set_option maxHeartbeats 4000000 in
set_option maxRecDepth 100000 in
theorem c_X4_drop {l : Launch} {x : Ad} (hl0 : l.stackTraces = false) (g : Nat) (S : Mem) {z : (Nat × Int32) × Mem} (hf : f_X4_drop g S = some z) : MX l x yX4_drop kX4_drop rmX4_drop [.ref (ax x 0)] (cT x S) z.1.1 z.1.2 (cT x z.2) := by
  refine met_XI hl0 (by decide +kernel) rfl (Nat.le_of_ble_eq_true rfl) [(0, .ref (ax x 0))] rfl (by decide) ?_
  intro κ hl C hr ht hn
  subst hl
  rw [f_X4_drop] at hf
  refine g_aload_n C 0 rfl rfl dX4_drop_0 ?_
  refine tF_X4_19 C dX4_drop_1 ?_
  obtain ⟨r2, h1, hf⟩ := bd_some hf
  refine g_callVI C (n := 0) (st := []) (c_X1_countDirty g S h1) (tb_wsV _ mM_X4_139 mI_X1_countDirty mS_X1_countDirty mN_X1 mK_X1_countDirty) (by decide +kernel) rfl rfl ⟨by decide, by decide⟩ 7 1 rfl rfl rfl (Nat.le_of_ble_eq_true rfl) dX4_drop_4 rfl ?_
  refine g_if_le C 20 (by decide) dX4_drop_7 (fun h3 => ?_) (fun h3 => ?_)
  · rw [if_pos h3] at hf
    refine g_aload_n C 0 rfl rfl dX4_drop_20 ?_
    obtain ⟨S5, h4, hf⟩ := bd_some hf
    refine g_callVV C (n := 0) (st := []) (c_X4_endCursor g S h4) (tb_wsV _ mM_X4_80 mI_X4_endCursor mS_X4_endCursor mN_X4 mK_X4_endCursor) (by decide +kernel) rfl rfl ⟨by decide, by decide⟩ 0 4 rfl rfl rfl (Nat.le_of_ble_eq_true rfl) dX4_drop_21 rfl ?_
    refine g_aload_n C 0 rfl rfl dX4_drop_24 ?_
    refine tF_X4_19 C dX4_drop_25 ?_
    obtain ⟨r7, S8, h6, hf⟩ := bd2_some hf
    refine g_callVI C (n := 0) (st := []) (c_X1_emptyAll g S5 h6) (tb_wsV _ mM_X4_147 mI_X1_emptyAll mS_X1_emptyAll mN_X1 mK_X1_emptyAll) (by decide +kernel) rfl rfl ⟨by decide, by decide⟩ 7 1 rfl rfl rfl (Nat.le_of_ble_eq_true rfl) dX4_drop_28 rfl ?_
    obtain rfl := Option.some.inj hf
    exact g_iret (hr rfl) dX4_drop_31
  · rw [if_neg h3] at hf
    obtain rfl := Option.some.inj hf
    exact g_throw C (ht _ _ _ _ _ tw_146_144 (by show (3 : Nat) ≠ 0; decide) rfl) dX4_drop_10 dX4_drop_13 dX4_drop_14 dX4_drop_16 dX4_drop_19
def f_X4_page (g : Nat) (S : Mem) (a1 : Int32) (a2 : Int32) : Option ((Nat × Int32) × Mem) := bd (f_X0_isPage g S a1) (fun r2 => if r2 = 0 then (some ((4, 0), S)) else (if a2 = 0 then (bd (f_X0_kindOf g S a1) (fun r6 => some ((0, r6), S))) else (if a2 = 1 then (bd (f_X0_countOf g S a1) (fun r9 => some ((0, r9), S))) else (if a2 = 2 then (bd (f_X0_leafAfter g S a1) (fun r12 => some ((0, r12), S))) else (some ((5, 0), S))))))
abbrev rmX4_page : Room := { frames := 6, cells := 1, slots := 6, locals := 82 }
set_option maxHeartbeats 4000000 in
set_option maxRecDepth 100000 in
theorem c_X4_page {l : Launch} {x : Ad} (hl0 : l.stackTraces = false) (g : Nat) (S : Mem) (a1 : Int32) (a2 : Int32) {z : (Nat × Int32) × Mem} (hf : f_X4_page g S a1 a2 = some z) : MX l x yX4_page kX4_page rmX4_page [.ref (ax x 0), .int a1, .int a2] (cT x S) z.1.1 z.1.2 (cT x z.2) := by
  refine met_XI hl0 (by decide +kernel) rfl (Nat.le_of_ble_eq_true rfl) [(0, .ref (ax x 0)), (1, .int a1), (2, .int a2)] rfl (by decide) ?_
  intro κ hl C hr ht hn
  subst hl
  rw [f_X4_page] at hf
  refine g_aload_n C 0 rfl rfl dX4_page_0 ?_
  refine tF_X4_12 C dX4_page_1 ?_
  refine g_iload_n C 1 rfl rfl dX4_page_4 ?_
  obtain ⟨r2, h1, hf⟩ := bd_some hf
  refine g_callVI C (n := 1) (st := []) (c_X0_isPage g S a1 h1) (tb_wsV _ mM_X4_150 mI_X0_isPage mS_X0_isPage mN_X0 mK_X0_isPage) (by decide +kernel) rfl rfl ⟨by decide, by decide⟩ 1 0 rfl rfl rfl (Nat.le_of_ble_eq_true rfl) dX4_page_5 rfl ?_
  refine g_if_ne C 21 (by decide) dX4_page_8 (fun h3 => ?_) (fun h3 => ?_)
  · rw [if_neg h3] at hf
    refine g_iload_n C 2 rfl rfl dX4_page_21 ?_
    by_cases h4 : a2 = 0
    · rw [if_pos h4] at hf
      refine g_top h4 ?_
      refine g_tin C 48 (by decide) (by decide) (by rfl) (by decide) dX4_page_22 ?_
      refine g_aload_n C 0 rfl rfl dX4_page_48 ?_
      refine tF_X4_12 C dX4_page_49 ?_
      refine g_iload_n C 1 rfl rfl dX4_page_52 ?_
      obtain ⟨r6, h5, hf⟩ := bd_some hf
      refine g_callVI C (n := 1) (st := []) (c_X0_kindOf g S a1 h5) (tb_wsV _ mM_X4_159 mI_X0_kindOf mS_X0_kindOf mN_X0 mK_X0_kindOf) (by decide +kernel) rfl rfl ⟨by decide, by decide⟩ 1 0 rfl rfl rfl (Nat.le_of_ble_eq_true rfl) dX4_page_53 rfl ?_
      obtain rfl := Option.some.inj hf
      exact g_iret (hr rfl) dX4_page_56
    rw [if_neg h4] at hf
    by_cases h7 : a2 = 1
    · rw [if_pos h7] at hf
      refine g_top h7 ?_
      refine g_tin C 57 (by decide) (by decide) (by rfl) (by decide) dX4_page_22 ?_
      refine g_aload_n C 0 rfl rfl dX4_page_57 ?_
      refine tF_X4_12 C dX4_page_58 ?_
      refine g_iload_n C 1 rfl rfl dX4_page_61 ?_
      obtain ⟨r9, h8, hf⟩ := bd_some hf
      refine g_callVI C (n := 1) (st := []) (c_X0_countOf g S a1 h8) (tb_wsV _ mM_X4_163 mI_X0_countOf mS_X0_countOf mN_X0 mK_X0_countOf) (by decide +kernel) rfl rfl ⟨by decide, by decide⟩ 1 0 rfl rfl rfl (Nat.le_of_ble_eq_true rfl) dX4_page_62 rfl ?_
      obtain rfl := Option.some.inj hf
      exact g_iret (hr rfl) dX4_page_65
    rw [if_neg h7] at hf
    by_cases h10 : a2 = 2
    · rw [if_pos h10] at hf
      refine g_top h10 ?_
      refine g_tin C 66 (by decide) (by decide) (by rfl) (by decide) dX4_page_22 ?_
      refine g_aload_n C 0 rfl rfl dX4_page_66 ?_
      refine tF_X4_12 C dX4_page_67 ?_
      refine g_iload_n C 1 rfl rfl dX4_page_70 ?_
      obtain ⟨r12, h11, hf⟩ := bd_some hf
      refine g_callVI C (n := 1) (st := []) (c_X0_leafAfter g S a1 h11) (tb_wsV _ mM_X4_166 mI_X0_leafAfter mS_X0_leafAfter mN_X0 mK_X0_leafAfter) (by decide +kernel) rfl rfl ⟨by decide, by decide⟩ 1 0 rfl rfl rfl (Nat.le_of_ble_eq_true rfl) dX4_page_71 rfl ?_
      obtain rfl := Option.some.inj hf
      exact g_iret (hr rfl) dX4_page_74
    rw [if_neg h10] at hf
    refine g_tout C 75 (tsw_out 2 (by decide) (fun j hj => by rcases (by omega : j = 0 ∨ j = 1 ∨ j = 2) with rfl | rfl | rfl <;> first | exact h4 | exact h7 | exact h10)) (by decide) dX4_page_22 ?_
    obtain rfl := Option.some.inj hf
    exact g_throw C (ht _ _ _ _ _ tw_173_171 (by show (5 : Nat) ≠ 0; decide) rfl) dX4_page_75 dX4_page_78 dX4_page_79 dX4_page_81 dX4_page_84
  · rw [if_pos h3] at hf
    obtain rfl := Option.some.inj hf
    exact g_throw C (ht _ _ _ _ _ tw_158_156 (by show (4 : Nat) ≠ 0; decide) rfl) dX4_page_11 dX4_page_14 dX4_page_15 dX4_page_17 dX4_page_20
def f_X4_item (g : Nat) (S : Mem) (a1 : Int32) (a2 : Int32) (a3 : Int32) : Option ((Nat × Int32) × Mem) := bd (f_X0_isPage g S a1) (fun r2 => if r2 = 0 then (some ((4, 0), S)) else (if a2 < 0 then (some ((4, 0), S)) else (bd (f_X0_countOf g S a1) (fun r6 => if a2 < r6 then (if a3 = 0 then (bd (f_X0_keyAt g S a1 a2) (fun r10 => some ((0, r10), S))) else (bd (f_X0_secondAt g S a1 a2) (fun r12 => some ((0, r12), S)))) else (some ((4, 0), S))))))
abbrev rmX4_item : Room := { frames := 6, cells := 1, slots := 6, locals := 82 }
set_option maxHeartbeats 4000000 in
set_option maxRecDepth 100000 in
theorem c_X4_item {l : Launch} {x : Ad} (hl0 : l.stackTraces = false) (g : Nat) (S : Mem) (a1 : Int32) (a2 : Int32) (a3 : Int32) {z : (Nat × Int32) × Mem} (hf : f_X4_item g S a1 a2 a3 = some z) : MX l x yX4_item kX4_item rmX4_item [.ref (ax x 0), .int a1, .int a2, .int a3] (cT x S) z.1.1 z.1.2 (cT x z.2) := by
  refine met_XI hl0 (by decide +kernel) rfl (Nat.le_of_ble_eq_true rfl) [(0, .ref (ax x 0)), (1, .int a1), (2, .int a2), (3, .int a3)] rfl (by decide) ?_
  intro κ hl C hr ht hn
  subst hl
  rw [f_X4_item] at hf
  refine g_aload_n C 0 rfl rfl dX4_item_0 ?_
  refine tF_X4_12 C dX4_item_1 ?_
  refine g_iload_n C 1 rfl rfl dX4_item_4 ?_
  obtain ⟨r2, h1, hf⟩ := bd_some hf
  refine g_callVI C (n := 1) (st := []) (c_X0_isPage g S a1 h1) (tb_wsV _ mM_X4_150 mI_X0_isPage mS_X0_isPage mN_X0 mK_X0_isPage) (by decide +kernel) rfl rfl ⟨by decide, by decide⟩ 1 0 rfl rfl rfl (Nat.le_of_ble_eq_true rfl) dX4_item_5 rfl ?_
  refine g_if_ne C 21 (by decide) dX4_item_8 (fun h3 => ?_) (fun h3 => ?_)
  · rw [if_neg h3] at hf
    refine g_iload_n C 2 rfl rfl dX4_item_21 ?_
    refine g_if_lt C 37 (by decide) dX4_item_22 (fun h4 => ?_) (fun h4 => ?_)
    · rw [if_pos h4] at hf
      obtain rfl := Option.some.inj hf
      exact g_throw C (ht _ _ _ _ _ tw_158_174 (by show (4 : Nat) ≠ 0; decide) rfl) dX4_item_37 dX4_item_40 dX4_item_41 dX4_item_43 dX4_item_46
    · rw [if_neg h4] at hf
      refine g_iload_n C 2 rfl rfl dX4_item_25 ?_
      refine g_aload_n C 0 rfl rfl dX4_item_26 ?_
      refine tF_X4_12 C dX4_item_27 ?_
      refine g_iload_n C 1 rfl rfl dX4_item_30 ?_
      obtain ⟨r6, h5, hf⟩ := bd_some hf
      refine g_callVI C (n := 1) (st := [.int a2]) (c_X0_countOf g S a1 h5) (tb_wsV _ mM_X4_163 mI_X0_countOf mS_X0_countOf mN_X0 mK_X0_countOf) (by decide +kernel) rfl rfl ⟨by decide, by decide⟩ 1 0 rfl rfl rfl (Nat.le_of_ble_eq_true rfl) dX4_item_31 rfl ?_
      refine g_icmp_lt C 47 (by decide) dX4_item_34 (fun h7 => ?_) (fun h7 => ?_)
      · rw [if_pos h7] at hf
        refine g_iload_n C 3 rfl rfl dX4_item_47 ?_
        refine g_if_eq C 63 (by decide) dX4_item_48 (fun h8 => ?_) (fun h8 => ?_)
        · rw [if_pos h8] at hf
          refine g_aload_n C 0 rfl rfl dX4_item_63 ?_
          refine tF_X4_12 C dX4_item_64 ?_
          refine g_iload_n C 1 rfl rfl dX4_item_67 ?_
          refine g_iload_n C 2 rfl rfl dX4_item_68 ?_
          obtain ⟨r10, h9, hf⟩ := bd_some hf
          refine g_callVI C (n := 2) (st := []) (c_X0_keyAt g S a1 a2 h9) (tb_wsV _ mM_X4_176 mI_X0_keyAt mS_X0_keyAt mN_X0 mK_X0_keyAt) (by decide +kernel) rfl rfl ⟨by decide, by decide⟩ 1 0 rfl rfl rfl (Nat.le_of_ble_eq_true rfl) dX4_item_69 rfl ?_
          obtain rfl := Option.some.inj hf
          exact g_iret (hr rfl) dX4_item_72
        · rw [if_neg h8] at hf
          refine g_aload_n C 0 rfl rfl dX4_item_51 ?_
          refine tF_X4_12 C dX4_item_52 ?_
          refine g_iload_n C 1 rfl rfl dX4_item_55 ?_
          refine g_iload_n C 2 rfl rfl dX4_item_56 ?_
          obtain ⟨r12, h11, hf⟩ := bd_some hf
          refine g_callVI C (n := 2) (st := []) (c_X0_secondAt g S a1 a2 h11) (tb_wsV _ mM_X4_108 mI_X0_secondAt mS_X0_secondAt mN_X0 mK_X0_secondAt) (by decide +kernel) rfl rfl ⟨by decide, by decide⟩ 1 0 rfl rfl rfl (Nat.le_of_ble_eq_true rfl) dX4_item_57 rfl ?_
          refine g_goto C 72 (by decide) dX4_item_60 ?_
          obtain rfl := Option.some.inj hf
          exact g_iret (hr rfl) dX4_item_72
      · rw [if_neg h7] at hf
        obtain rfl := Option.some.inj hf
        exact g_throw C (ht _ _ _ _ _ tw_158_174 (by show (4 : Nat) ≠ 0; decide) rfl) dX4_item_37 dX4_item_40 dX4_item_41 dX4_item_43 dX4_item_46
  · rw [if_pos h3] at hf
    obtain rfl := Option.some.inj hf
    exact g_throw C (ht _ _ _ _ _ tw_158_156 (by show (4 : Nat) ≠ 0; decide) rfl) dX4_item_11 dX4_item_14 dX4_item_15 dX4_item_17 dX4_item_20
def f_X4_frame (g : Nat) (S : Mem) (a1 : Int32) (a2 : Int32) : Option ((Nat × Int32) × Mem) := bd (f_X1_isFrame g S a1) (fun r2 => if r2 = 0 then (some ((4, 0), S)) else (if a2 = 0 then (bd (f_X1_pageIn g S a1) (fun r6 => some ((0, r6), S))) else (if a2 = 1 then (bd (f_X1_isUsed g S a1) (fun r9 => if r9 = 0 then (some ((0, 0), S)) else (some ((0, 1), S)))) else (if a2 = 2 then (bd (f_X1_isDirty g S a1) (fun r13 => if r13 = 0 then (some ((0, 0), S)) else (some ((0, 1), S)))) else (some ((5, 0), S))))))
abbrev rmX4_frame : Room := { frames := 6, cells := 1, slots := 6, locals := 82 }
set_option maxHeartbeats 4000000 in
set_option maxRecDepth 100000 in
theorem c_X4_frame {l : Launch} {x : Ad} (hl0 : l.stackTraces = false) (g : Nat) (S : Mem) (a1 : Int32) (a2 : Int32) {z : (Nat × Int32) × Mem} (hf : f_X4_frame g S a1 a2 = some z) : MX l x yX4_frame kX4_frame rmX4_frame [.ref (ax x 0), .int a1, .int a2] (cT x S) z.1.1 z.1.2 (cT x z.2) := by
  refine met_XI hl0 (by decide +kernel) rfl (Nat.le_of_ble_eq_true rfl) [(0, .ref (ax x 0)), (1, .int a1), (2, .int a2)] rfl (by decide) ?_
  intro κ hl C hr ht hn
  subst hl
  rw [f_X4_frame] at hf
  refine g_aload_n C 0 rfl rfl dX4_frame_0 ?_
  refine tF_X4_19 C dX4_frame_1 ?_
  refine g_iload_n C 1 rfl rfl dX4_frame_4 ?_
  obtain ⟨r2, h1, hf⟩ := bd_some hf
  refine g_callVI C (n := 1) (st := []) (c_X1_isFrame g S a1 h1) (tb_wsV _ mM_X4_179 mI_X1_isFrame mS_X1_isFrame mN_X1 mK_X1_isFrame) (by decide +kernel) rfl rfl ⟨by decide, by decide⟩ 7 1 rfl rfl rfl (Nat.le_of_ble_eq_true rfl) dX4_frame_5 rfl ?_
  refine g_if_ne C 21 (by decide) dX4_frame_8 (fun h3 => ?_) (fun h3 => ?_)
  · rw [if_neg h3] at hf
    refine g_iload_n C 2 rfl rfl dX4_frame_21 ?_
    by_cases h4 : a2 = 0
    · rw [if_pos h4] at hf
      refine g_top h4 ?_
      refine g_tin C 48 (by decide) (by decide) (by rfl) (by decide) dX4_frame_22 ?_
      refine g_aload_n C 0 rfl rfl dX4_frame_48 ?_
      refine tF_X4_19 C dX4_frame_49 ?_
      refine g_iload_n C 1 rfl rfl dX4_frame_52 ?_
      obtain ⟨r6, h5, hf⟩ := bd_some hf
      refine g_callVI C (n := 1) (st := []) (c_X1_pageIn g S a1 h5) (tb_wsV _ mM_X4_184 mI_X1_pageIn mS_X1_pageIn mN_X1 mK_X1_pageIn) (by decide +kernel) rfl rfl ⟨by decide, by decide⟩ 7 1 rfl rfl rfl (Nat.le_of_ble_eq_true rfl) dX4_frame_53 rfl ?_
      obtain rfl := Option.some.inj hf
      exact g_iret (hr rfl) dX4_frame_56
    rw [if_neg h4] at hf
    by_cases h7 : a2 = 1
    · rw [if_pos h7] at hf
      refine g_top h7 ?_
      refine g_tin C 57 (by decide) (by decide) (by rfl) (by decide) dX4_frame_22 ?_
      refine g_aload_n C 0 rfl rfl dX4_frame_57 ?_
      refine tF_X4_19 C dX4_frame_58 ?_
      refine g_iload_n C 1 rfl rfl dX4_frame_61 ?_
      obtain ⟨r9, h8, hf⟩ := bd_some hf
      refine g_callVI C (n := 1) (st := []) (c_X1_isUsed g S a1 h8) (tb_wsV _ mM_X4_187 mI_X1_isUsed mS_X1_isUsed mN_X1 mK_X1_isUsed) (by decide +kernel) rfl rfl ⟨by decide, by decide⟩ 7 1 rfl rfl rfl (Nat.le_of_ble_eq_true rfl) dX4_frame_62 rfl ?_
      refine g_if_eq C 72 (by decide) dX4_frame_65 (fun h10 => ?_) (fun h10 => ?_)
      · rw [if_pos h10] at hf
        refine g_iconst C (v := 0) (by decide) dX4_frame_72 ?_
        obtain rfl := Option.some.inj hf
        exact g_iret (hr rfl) dX4_frame_73
      · rw [if_neg h10] at hf
        refine g_iconst C (v := 1) (by decide) dX4_frame_68 ?_
        refine g_goto C 73 (by decide) dX4_frame_69 ?_
        obtain rfl := Option.some.inj hf
        exact g_iret (hr rfl) dX4_frame_73
    rw [if_neg h7] at hf
    by_cases h11 : a2 = 2
    · rw [if_pos h11] at hf
      refine g_top h11 ?_
      refine g_tin C 74 (by decide) (by decide) (by rfl) (by decide) dX4_frame_22 ?_
      refine g_aload_n C 0 rfl rfl dX4_frame_74 ?_
      refine tF_X4_19 C dX4_frame_75 ?_
      refine g_iload_n C 1 rfl rfl dX4_frame_78 ?_
      obtain ⟨r13, h12, hf⟩ := bd_some hf
      refine g_callVI C (n := 1) (st := []) (c_X1_isDirty g S a1 h12) (tb_wsV _ mM_X4_190 mI_X1_isDirty mS_X1_isDirty mN_X1 mK_X1_isDirty) (by decide +kernel) rfl rfl ⟨by decide, by decide⟩ 7 1 rfl rfl rfl (Nat.le_of_ble_eq_true rfl) dX4_frame_79 rfl ?_
      refine g_if_eq C 89 (by decide) dX4_frame_82 (fun h14 => ?_) (fun h14 => ?_)
      · rw [if_pos h14] at hf
        refine g_iconst C (v := 0) (by decide) dX4_frame_89 ?_
        obtain rfl := Option.some.inj hf
        exact g_iret (hr rfl) dX4_frame_90
      · rw [if_neg h14] at hf
        refine g_iconst C (v := 1) (by decide) dX4_frame_85 ?_
        refine g_goto C 90 (by decide) dX4_frame_86 ?_
        obtain rfl := Option.some.inj hf
        exact g_iret (hr rfl) dX4_frame_90
    rw [if_neg h11] at hf
    refine g_tout C 91 (tsw_out 2 (by decide) (fun j hj => by rcases (by omega : j = 0 ∨ j = 1 ∨ j = 2) with rfl | rfl | rfl <;> first | exact h4 | exact h7 | exact h11)) (by decide) dX4_frame_22 ?_
    obtain rfl := Option.some.inj hf
    exact g_throw C (ht _ _ _ _ _ tw_173_193 (by show (5 : Nat) ≠ 0; decide) rfl) dX4_frame_91 dX4_frame_94 dX4_frame_95 dX4_frame_97 dX4_frame_100
  · rw [if_pos h3] at hf
    obtain rfl := Option.some.inj hf
    exact g_throw C (ht _ _ _ _ _ tw_158_182 (by show (4 : Nat) ≠ 0; decide) rfl) dX4_frame_11 dX4_frame_14 dX4_frame_15 dX4_frame_17 dX4_frame_20
