def f_X2_meet (g : Nat) (S : Mem) (a1 : Int32) (a2 : Int32) (a3 : Int64) (a5 : Int64) : Option (Mem) := if a1 < 0 then (some S) else (if a1 < 40 then (gd (ix_in a1 40) (gd (ix_in a1 40) (gd (ix_in a1 40) (if ((up S 17 a1.toNatClampNeg ((S.1 17 a1.toNatClampNeg) + 1)).1 17 a1.toNatClampNeg) = 1 then (if ((up S 17 a1.toNatClampNeg ((S.1 17 a1.toNatClampNeg) + 1)).1 15 1) < 0 then (some (up S 17 a1.toNatClampNeg ((S.1 17 a1.toNatClampNeg) + 1))) else (if 40 ≤ ((up S 17 a1.toNatClampNeg ((S.1 17 a1.toNatClampNeg) + 1)).1 15 1) then (some (up S 17 a1.toNatClampNeg ((S.1 17 a1.toNatClampNeg) + 1))) else (gd (ix_in ((up S 17 a1.toNatClampNeg ((S.1 17 a1.toNatClampNeg) + 1)).1 15 1) 40) (gd (ix_in a1 40) (gd (ix_in a1 40) (gd (ix_in a1 40) (some (upL (upL (up (up (up (up S 17 a1.toNatClampNeg ((S.1 17 a1.toNatClampNeg) + 1)) 16 ((up S 17 a1.toNatClampNeg ((S.1 17 a1.toNatClampNeg) + 1)).1 15 1).toNatClampNeg a1) 15 1 (((up (up S 17 a1.toNatClampNeg ((S.1 17 a1.toNatClampNeg) + 1)) 16 ((up S 17 a1.toNatClampNeg ((S.1 17 a1.toNatClampNeg) + 1)).1 15 1).toNatClampNeg a1).1 15 1) + 1)) 18 a1.toNatClampNeg a2) 19 a1.toNatClampNeg a3) 20 a1.toNatClampNeg a5)))))))) else (some (up S 17 a1.toNatClampNeg ((S.1 17 a1.toNatClampNeg) + 1))))))) else (some S))
abbrev rmX2_meet : Room := { frames := 0, cells := 0, slots := 0, locals := 0 }
set_option maxHeartbeats 4000000 in
set_option maxRecDepth 100000 in
theorem c_X2_meet {l : Launch} {x : Ad} (g : Nat) (S : Mem) (a1 : Int32) (a2 : Int32) (a3 : Int64) (a5 : Int64) {z : Mem} (hf : f_X2_meet g S a1 a2 a3 a5 = some z) : MV l x yX2_meet kX2_meet rmX2_meet [.ref (ax x 15), .int a1, .int a2, .long a3, .long a5] (cT x S) (cT x z) := by
  refine met_V RX2 (by decide +kernel) rfl (Nat.le_of_ble_eq_true rfl) [(0, .ref (ax x 15)), (1, .int a1), (2, .int a2), (3, .long a3), (5, .long a5)] rfl ?_
  intro κ hl C hr
  subst hl
  rw [f_X2_meet] at hf
  refine g_iload_n C 1 rfl rfl dX2_meet_0 ?_
  refine g_if_lt C 10 (by decide) dX2_meet_1 (fun h1 => ?_) (fun h1 => ?_)
  · rw [if_pos h1] at hf
    obtain rfl := Option.some.inj hf
    exact g_vret hr dX2_meet_10
  · rw [if_neg h1] at hf
    refine g_iload_n C 1 rfl rfl dX2_meet_4 ?_
    refine g_bipush C (v := 40) (by decide) dX2_meet_5 ?_
    refine g_icmp_lt C 11 (by decide) dX2_meet_7 (fun h2 => ?_) (fun h2 => ?_)
    · rw [if_pos h2] at hf
      refine g_aload_n C 0 rfl rfl dX2_meet_11 ?_
      refine tF_X2_15 C dX2_meet_12 ?_
      refine g_iload_n C 1 rfl rfl dX2_meet_15 ?_
      refine g_dup2 C rfl rfl dX2_meet_16 ?_
      obtain ⟨h3, hf⟩ := gd_some hf
      refine tL_17 C h3 dX2_meet_17 ?_
      refine g_iconst C (v := 1) (by decide) dX2_meet_18 ?_
      refine g_iadd C dX2_meet_19 ?_
      obtain ⟨h4, hf⟩ := gd_some hf
      refine tS_17 C h4 dX2_meet_20 ?_
      refine g_aload_n C 0 rfl rfl dX2_meet_21 ?_
      refine tF_X2_15 C dX2_meet_22 ?_
      refine g_iload_n C 1 rfl rfl dX2_meet_25 ?_
      obtain ⟨h5, hf⟩ := gd_some hf
      refine tL_17 C h5 dX2_meet_26 ?_
      refine g_iconst C (v := 1) (by decide) dX2_meet_27 ?_
      refine g_icmp_ne C 89 (by decide) dX2_meet_28 (fun h6 => ?_) (fun h6 => ?_)
      · rw [if_neg h6] at hf
        obtain rfl := Option.some.inj hf
        exact g_vret hr dX2_meet_89
      · rw [if_pos h6] at hf
        refine g_aload_n C 0 rfl rfl dX2_meet_31 ?_
        refine tF_X2_34 C dX2_meet_32 ?_
        refine g_if_lt C 89 (by decide) dX2_meet_35 (fun h7 => ?_) (fun h7 => ?_)
        · rw [if_pos h7] at hf
          obtain rfl := Option.some.inj hf
          exact g_vret hr dX2_meet_89
        · rw [if_neg h7] at hf
          refine g_aload_n C 0 rfl rfl dX2_meet_38 ?_
          refine tF_X2_34 C dX2_meet_39 ?_
          refine g_bipush C (v := 40) (by decide) dX2_meet_42 ?_
          refine g_icmp_ge C 89 (by decide) dX2_meet_44 (fun h8 => ?_) (fun h8 => ?_)
          · rw [if_pos h8] at hf
            obtain rfl := Option.some.inj hf
            exact g_vret hr dX2_meet_89
          · rw [if_neg h8] at hf
            refine g_aload_n C 0 rfl rfl dX2_meet_47 ?_
            refine tF_X2_9 C dX2_meet_48 ?_
            refine g_aload_n C 0 rfl rfl dX2_meet_51 ?_
            refine tF_X2_34 C dX2_meet_52 ?_
            refine g_iload_n C 1 rfl rfl dX2_meet_55 ?_
            obtain ⟨h9, hf⟩ := gd_some hf
            refine tS_16 C h9 dX2_meet_56 ?_
            refine g_aload_n C 0 rfl rfl dX2_meet_57 ?_
            refine g_dup C rfl dX2_meet_58 ?_
            refine tF_X2_34 C dX2_meet_59 ?_
            refine g_iconst C (v := 1) (by decide) dX2_meet_62 ?_
            refine g_iadd C dX2_meet_63 ?_
            refine tP_X2_34 C dX2_meet_64 ?_
            refine g_aload_n C 0 rfl rfl dX2_meet_67 ?_
            refine tF_X2_18 C dX2_meet_68 ?_
            refine g_iload_n C 1 rfl rfl dX2_meet_71 ?_
            refine g_iload_n C 2 rfl rfl dX2_meet_72 ?_
            obtain ⟨h10, hf⟩ := gd_some hf
            refine tS_18 C h10 dX2_meet_73 ?_
            refine g_aload_n C 0 rfl rfl dX2_meet_74 ?_
            refine tF_X2_21 C dX2_meet_75 ?_
            refine g_iload_n C 1 rfl rfl dX2_meet_78 ?_
            refine g_lload_n C 3 rfl rfl dX2_meet_79 ?_
            obtain ⟨h11, hf⟩ := gd_some hf
            refine tS_19 C h11 dX2_meet_80 ?_
            refine g_aload_n C 0 rfl rfl dX2_meet_81 ?_
            refine tF_X2_25 C dX2_meet_82 ?_
            refine g_iload_n C 1 rfl rfl dX2_meet_85 ?_
            refine g_lload C 4 rfl dX2_meet_86 ?_
            obtain ⟨h12, hf⟩ := gd_some hf
            refine tS_20 C h12 dX2_meet_88 ?_
            obtain rfl := Option.some.inj hf
            exact g_vret hr dX2_meet_89
    · rw [if_neg h2] at hf
      obtain rfl := Option.some.inj hf
      exact g_vret hr dX2_meet_10
def f_X2_meetChildren_29 (g : Nat) (w2 : Int32) (w3 : Int32) : Nat → Mem → Int32 → Option (Mem)
  | 0, _, _ => none
  | n + 1, S, w4 => if w3 ≤ w4 then (some S) else (jn1 (fun (t9 : Int64) => jn1 (fun (t11 : Int64) => bd (f_X0_secondAt g S w2 w4) (fun r14 => gd (ix_in w2 40) (bd (f_X2_meet g S r14 ((S.1 18 w2.toNatClampNeg) + 1) t9 t11) (fun S17 => f_X2_meetChildren_29 g w2 w3 n S17 (w4 + 1))))) (fun j12 => if w3 ≤ (w4 + 1) then (gd (ix_in w2 40) (j12 (S.2 20 w2.toNatClampNeg))) else (bd (f_X0_keyAt g S w2 (w4 + 1)) (fun r21 => j12 r21.toInt64)))) (fun j10 => if w4 = 0 then (gd (ix_in w2 40) (j10 (S.2 19 w2.toNatClampNeg))) else (bd (f_X0_keyAt g S w2 w4) (fun r24 => j10 r24.toInt64))))
def f_X2_meetChildren (g : Nat) (S : Mem) (a2 : Int32) : Option (Mem) := if a2 < 0 then (some S) else (if 40 ≤ a2 then (some S) else (bd (f_X0_kindOf g S a2) (fun r4 => if r4 = 2 then (bd (f_X0_countOf g S a2) (fun r7 => f_X2_meetChildren_29 g a2 r7 g S 0)) else (some S))))
abbrev rmX2_meetChildren : Room := { frames := 2, cells := 0, slots := 0, locals := 46 }
set_option maxHeartbeats 4000000 in
set_option maxRecDepth 100000 in
theorem lp_X2_meetChildren_29 {κ : Kx} {x : Ad} (C : Cx κ x cX2_meetChildren RX2 kX2_meetChildren rmX2_meetChildren 9) {z : Mem} (hr : RV κ x cX2_meetChildren (cT x z)) (g : Nat) (w2 : Int32) (w3 : Int32) : ∀ (n : Nat) (S : Mem) (w4 : Int32), f_X2_meetChildren_29 g w2 w3 n S w4 = some z → GG κ x (cT x S) 29 [(0, .ref (ax x 15)), (1, .ref (ax x 1)), (2, .int w2), (3, .int w3), (4, .int w4)] [] := by
  intro n
  induction n with
  | zero => intro S w4 hf; cases hf
  | succ n ih =>
    intro S w4 hf
    rw [f_X2_meetChildren_29] at hf
    refine g_iload C 4 rfl dX2_meetChildren_29 ?_
    refine g_iload_n C 3 rfl rfl dX2_meetChildren_31 ?_
    refine g_icmp_ge C 117 (by decide) dX2_meetChildren_32 (fun h8 => ?_) (fun h8 => ?_)
    · rw [if_pos h8] at hf
      obtain rfl := Option.some.inj hf
      exact g_vret hr dX2_meetChildren_117
    · rw [if_neg h8] at hf
      refine g_iload C 4 rfl dX2_meetChildren_35 ?_
      refine jn1_elim (fun (t9 : Int64) => GG κ x (cT x S) 57 [(0, .ref (ax x 15)), (1, .ref (ax x 1)), (2, .int w2), (3, .int w3), (4, .int w4)] [.long t9]) hf (fun t9 hf => ?_) (fun j10 hj10 hf => ?_)
      · show GG κ x (cT x S) 57 [(0, .ref (ax x 15)), (1, .ref (ax x 1)), (2, .int w2), (3, .int w3), (4, .int w4)] [.long t9]
        refine g_lstore C (lv2 := [(5, .long t9), (0, .ref (ax x 15)), (1, .ref (ax x 1)), (2, .int w2), (3, .int w3), (4, .int w4)]) (by decide) rfl dX2_meetChildren_57 ?_
        refine g_iload C 5 rfl dX2_meetChildren_59 ?_
        refine g_iconst C (v := 1) (by decide) dX2_meetChildren_61 ?_
        refine g_iadd C dX2_meetChildren_62 ?_
        refine g_iload_n C 4 rfl rfl dX2_meetChildren_63 ?_
        refine jn1_elim (fun (t11 : Int64) => GG κ x (cT x S) 86 [(0, .ref (ax x 15)), (1, .ref (ax x 1)), (2, .int w2), (3, .int w3), (4, .int w4), (5, .long t9)] [.long t11]) hf (fun t11 hf => ?_) (fun j12 hj12 hf => ?_)
        · show GG κ x (cT x S) 86 [(0, .ref (ax x 15)), (1, .ref (ax x 1)), (2, .int w2), (3, .int w3), (4, .int w4), (5, .long t9)] [.long t11]
          refine g_lstore C (lv2 := [(7, .long t11), (0, .ref (ax x 15)), (1, .ref (ax x 1)), (2, .int w2), (3, .int w3), (4, .int w4), (5, .long t9)]) (by decide) rfl dX2_meetChildren_86 ?_
          refine g_aload_n C 1 rfl rfl dX2_meetChildren_88 ?_
          refine g_aload_n C 2 rfl rfl dX2_meetChildren_89 ?_
          refine g_iload_n C 3 rfl rfl dX2_meetChildren_90 ?_
          refine g_iload C 5 rfl dX2_meetChildren_91 ?_
          obtain ⟨r14, h13, hf⟩ := bd_some hf
          refine g_callVI C (n := 2) (st := [.ref (ax x 15)]) (c_X0_secondAt g S w2 w4 h13) (tb_wsV _ mM_X2_67 mI_X0_secondAt mS_X0_secondAt mN_X0 mK_X0_secondAt) (by decide +kernel) rfl rfl ⟨by decide, by decide⟩ 1 0 rfl rfl rfl (Nat.le_of_ble_eq_true rfl) dX2_meetChildren_93 rfl ?_
          refine g_aload_n C 1 rfl rfl dX2_meetChildren_96 ?_
          refine tF_X2_18 C dX2_meetChildren_97 ?_
          refine g_iload_n C 3 rfl rfl dX2_meetChildren_100 ?_
          obtain ⟨h15, hf⟩ := gd_some hf
          refine tL_18 C h15 dX2_meetChildren_101 ?_
          refine g_iconst C (v := 1) (by decide) dX2_meetChildren_102 ?_
          refine g_iadd C dX2_meetChildren_103 ?_
          refine g_lload C 6 rfl dX2_meetChildren_104 ?_
          refine g_lload C 0 rfl dX2_meetChildren_106 ?_
          obtain ⟨S17, h16, hf⟩ := bd_some hf
          refine g_callVV C (n := 4) (st := []) (c_X2_meet g S r14 ((S.1 18 w2.toNatClampNeg) + 1) t9 t11 h16) (tb_wsV _ mM_X2_42 mI_X2_meet mS_X2_meet mN_X2 mK_X2_meet) (by decide +kernel) rfl rfl ⟨by decide, by decide⟩ 15 2 rfl rfl rfl (Nat.le_of_ble_eq_true rfl) dX2_meetChildren_108 rfl ?_
          refine g_iinc C (v := w4 + 1) (lv2 := [(4, .int (w4 + 1)), (7, .long t11), (0, .ref (ax x 15)), (1, .ref (ax x 1)), (2, .int w2), (3, .int w3), (5, .long t9)]) 5 rfl (by rw [(by decide : Int32.ofInt 1 = 1)]) (by decide) rfl dX2_meetChildren_111 ?_
          refine g_goto C 29 (by decide) dX2_meetChildren_114 ?_
          refine g_sub [2, 3, 4, 5, 0] rfl ?_
          exact ih S17 (w4 + 1) hf
        · skip
          refine g_icmp_ge C 80 (by decide) dX2_meetChildren_64 (fun h18 => ?_) (fun h18 => ?_)
          · rw [if_pos h18] at hf
            refine g_aload_n C 1 rfl rfl dX2_meetChildren_80 ?_
            refine tF_X2_25 C dX2_meetChildren_81 ?_
            refine g_iload_n C 3 rfl rfl dX2_meetChildren_84 ?_
            obtain ⟨h19, hf⟩ := gd_some hf
            refine tL_20 C h19 dX2_meetChildren_85 ?_
            refine g_sub [1, 2, 3, 4, 5, 0] rfl ?_
            exact hj12 (S.2 20 w2.toNatClampNeg) hf
          · rw [if_neg h18] at hf
            refine g_aload_n C 2 rfl rfl dX2_meetChildren_67 ?_
            refine g_iload_n C 3 rfl rfl dX2_meetChildren_68 ?_
            refine g_iload C 5 rfl dX2_meetChildren_69 ?_
            refine g_iconst C (v := 1) (by decide) dX2_meetChildren_71 ?_
            refine g_iadd C dX2_meetChildren_72 ?_
            obtain ⟨r21, h20, hf⟩ := bd_some hf
            refine g_callVI C (n := 2) (st := []) (c_X0_keyAt g S w2 (w4 + 1) h20) (tb_wsV _ mM_X2_63 mI_X0_keyAt mS_X0_keyAt mN_X0 mK_X0_keyAt) (by decide +kernel) rfl rfl ⟨by decide, by decide⟩ 1 0 rfl rfl rfl (Nat.le_of_ble_eq_true rfl) dX2_meetChildren_73 rfl ?_
            refine g_i2l C dX2_meetChildren_76 ?_
            refine g_goto C 86 (by decide) dX2_meetChildren_77 ?_
            refine g_sub [1, 2, 3, 4, 5, 0] rfl ?_
            exact hj12 r21.toInt64 hf
      · skip
        refine g_if_ne C 49 (by decide) dX2_meetChildren_37 (fun h22 => ?_) (fun h22 => ?_)
        · rw [if_neg h22] at hf
          refine g_aload_n C 1 rfl rfl dX2_meetChildren_49 ?_
          refine g_iload_n C 2 rfl rfl dX2_meetChildren_50 ?_
          refine g_iload C 4 rfl dX2_meetChildren_51 ?_
          obtain ⟨r24, h23, hf⟩ := bd_some hf
          refine g_callVI C (n := 2) (st := []) (c_X0_keyAt g S w2 w4 h23) (tb_wsV _ mM_X2_63 mI_X0_keyAt mS_X0_keyAt mN_X0 mK_X0_keyAt) (by decide +kernel) rfl rfl ⟨by decide, by decide⟩ 1 0 rfl rfl rfl (Nat.le_of_ble_eq_true rfl) dX2_meetChildren_53 rfl ?_
          refine g_i2l C dX2_meetChildren_56 ?_
          refine g_sub [0, 1, 2, 3, 4] rfl ?_
          exact hj10 r24.toInt64 hf
        · rw [if_pos h22] at hf
          refine g_aload_n C 0 rfl rfl dX2_meetChildren_40 ?_
          refine tF_X2_21 C dX2_meetChildren_41 ?_
          refine g_iload_n C 2 rfl rfl dX2_meetChildren_44 ?_
          obtain ⟨h25, hf⟩ := gd_some hf
          refine tL_19 C h25 dX2_meetChildren_45 ?_
          refine g_goto C 57 (by decide) dX2_meetChildren_46 ?_
          refine g_sub [0, 1, 2, 3, 4] rfl ?_
          exact hj10 (S.2 19 w2.toNatClampNeg) hf
set_option maxHeartbeats 4000000 in
set_option maxRecDepth 100000 in
theorem c_X2_meetChildren {l : Launch} {x : Ad} (g : Nat) (S : Mem) (a2 : Int32) {z : Mem} (hf : f_X2_meetChildren g S a2 = some z) : MV l x yX2_meetChildren kX2_meetChildren rmX2_meetChildren [.ref (ax x 15), .ref (ax x 1), .int a2] (cT x S) (cT x z) := by
  refine met_V RX2 (by decide +kernel) rfl (Nat.le_of_ble_eq_true rfl) [(0, .ref (ax x 15)), (1, .ref (ax x 1)), (2, .int a2)] rfl ?_
  intro κ hl C hr
  subst hl
  rw [f_X2_meetChildren] at hf
  refine g_iload_n C 2 rfl rfl dX2_meetChildren_0 ?_
  refine g_if_lt C 19 (by decide) dX2_meetChildren_1 (fun h1 => ?_) (fun h1 => ?_)
  · rw [if_pos h1] at hf
    obtain rfl := Option.some.inj hf
    exact g_vret hr dX2_meetChildren_19
  · rw [if_neg h1] at hf
    refine g_iload_n C 2 rfl rfl dX2_meetChildren_4 ?_
    refine g_bipush C (v := 40) (by decide) dX2_meetChildren_5 ?_
    refine g_icmp_ge C 19 (by decide) dX2_meetChildren_7 (fun h2 => ?_) (fun h2 => ?_)
    · rw [if_pos h2] at hf
      obtain rfl := Option.some.inj hf
      exact g_vret hr dX2_meetChildren_19
    · rw [if_neg h2] at hf
      refine g_aload_n C 1 rfl rfl dX2_meetChildren_10 ?_
      refine g_iload_n C 2 rfl rfl dX2_meetChildren_11 ?_
      obtain ⟨r4, h3, hf⟩ := bd_some hf
      refine g_callVI C (n := 1) (st := []) (c_X0_kindOf g S a2 h3) (tb_wsV _ mM_X2_54 mI_X0_kindOf mS_X0_kindOf mN_X0 mK_X0_kindOf) (by decide +kernel) rfl rfl ⟨by decide, by decide⟩ 1 0 rfl rfl rfl (Nat.le_of_ble_eq_true rfl) dX2_meetChildren_12 rfl ?_
      refine g_iconst C (v := 2) (by decide) dX2_meetChildren_15 ?_
      refine g_icmp_eq C 20 (by decide) dX2_meetChildren_16 (fun h5 => ?_) (fun h5 => ?_)
      · rw [if_pos h5] at hf
        refine g_aload_n C 1 rfl rfl dX2_meetChildren_20 ?_
        refine g_iload_n C 2 rfl rfl dX2_meetChildren_21 ?_
        obtain ⟨r7, h6, hf⟩ := bd_some hf
        refine g_callVI C (n := 1) (st := []) (c_X0_countOf g S a2 h6) (tb_wsV _ mM_X2_60 mI_X0_countOf mS_X0_countOf mN_X0 mK_X0_countOf) (by decide +kernel) rfl rfl ⟨by decide, by decide⟩ 1 0 rfl rfl rfl (Nat.le_of_ble_eq_true rfl) dX2_meetChildren_22 rfl ?_
        refine g_istore_n C (lv2 := [(3, .int r7), (0, .ref (ax x 15)), (1, .ref (ax x 1)), (2, .int a2)]) rfl (by decide) rfl dX2_meetChildren_25 ?_
        refine g_iconst C (v := 0) (by decide) dX2_meetChildren_26 ?_
        refine g_istore C (lv2 := [(4, .int 0), (3, .int r7), (0, .ref (ax x 15)), (1, .ref (ax x 1)), (2, .int a2)]) (by decide) rfl dX2_meetChildren_27 ?_
        refine g_sub [2, 3, 4, 1, 0] rfl ?_
        exact lp_X2_meetChildren_29 C hr g a2 r7 g S 0 hf
      · rw [if_neg h5] at hf
        obtain rfl := Option.some.inj hf
        exact g_vret hr dX2_meetChildren_19
def f_X2_leafDueAfter_11 (g : Nat) (S : Mem) (w2 : Int32) (kx : Int32 → Option (Int32)) : Nat → Int32 → Option (Int32)
  | 0, _ => none
  | n + 1, w3 => if 40 ≤ (w3 + 1) then (some ((-1))) else (if (S.1 15 1) ≤ (w3 + 1) then (some ((-1))) else (gd (ix_in w3 40) (if (S.1 16 w3.toNatClampNeg) = w2 then (kx w3) else (f_X2_leafDueAfter_11 g S w2 kx n (w3 + 1)))))
def f_X2_leafDueAfter (g : Nat) (S : Mem) (a2 : Int32) : Option (Int32) := bd (f_X0_kindOf g S a2) (fun r2 => if r2 = 1 then (f_X2_leafDueAfter_11 g S a2 (fun (v8 : Int32) => gd (ix_in (v8 + 1) 40) (some (S.1 16 (v8 + 1).toNatClampNeg))) g 0) else (some ((-1))))
abbrev rmX2_leafDueAfter : Room := { frames := 2, cells := 0, slots := 0, locals := 42 }
set_option maxHeartbeats 4000000 in
set_option maxRecDepth 100000 in
theorem lp_X2_leafDueAfter_11 {κ : Kx} {x : Ad} (C : Cx κ x cX2_leafDueAfter RX2 kX2_leafDueAfter rmX2_leafDueAfter 4) (S : Mem) {z : Int32} (hr : RI κ x cX2_leafDueAfter (cT x S) z) (g : Nat) (w2 : Int32) (kx : Int32 → Option (Int32)) (hk : ∀ (u3 : Int32), kx u3 = some z → GG κ x (cT x S) 39 [(0, .ref (ax x 15)), (3, .int u3)] []) : ∀ (n : Nat) (w3 : Int32), f_X2_leafDueAfter_11 g S w2 kx n w3 = some z → GG κ x (cT x S) 11 [(0, .ref (ax x 15)), (2, .int w2), (3, .int w3)] [] := by
  intro n
  induction n with
  | zero => intro w3 hf; cases hf
  | succ n ih =>
    intro w3 hf
    rw [f_X2_leafDueAfter_11] at hf
    refine g_iload_n C 2 rfl rfl dX2_leafDueAfter_11 ?_
    refine g_iconst C (v := 1) (by decide) dX2_leafDueAfter_12 ?_
    refine g_iadd C dX2_leafDueAfter_13 ?_
    refine g_bipush C (v := 40) (by decide) dX2_leafDueAfter_14 ?_
    refine g_icmp_ge C 54 (by decide) dX2_leafDueAfter_16 (fun h4 => ?_) (fun h4 => ?_)
    · rw [if_pos h4] at hf
      refine g_iconst C (v := (-1)) (by decide) dX2_leafDueAfter_54 ?_
      obtain rfl := Option.some.inj hf
      exact g_iret hr dX2_leafDueAfter_55
    · rw [if_neg h4] at hf
      refine g_iload_n C 2 rfl rfl dX2_leafDueAfter_19 ?_
      refine g_iconst C (v := 1) (by decide) dX2_leafDueAfter_20 ?_
      refine g_iadd C dX2_leafDueAfter_21 ?_
      refine g_aload_n C 0 rfl rfl dX2_leafDueAfter_22 ?_
      refine tF_X2_34 C dX2_leafDueAfter_23 ?_
      refine g_icmp_ge C 54 (by decide) dX2_leafDueAfter_26 (fun h5 => ?_) (fun h5 => ?_)
      · rw [if_pos h5] at hf
        refine g_iconst C (v := (-1)) (by decide) dX2_leafDueAfter_54 ?_
        obtain rfl := Option.some.inj hf
        exact g_iret hr dX2_leafDueAfter_55
      · rw [if_neg h5] at hf
        refine g_aload_n C 0 rfl rfl dX2_leafDueAfter_29 ?_
        refine tF_X2_9 C dX2_leafDueAfter_30 ?_
        refine g_iload_n C 2 rfl rfl dX2_leafDueAfter_33 ?_
        obtain ⟨h6, hf⟩ := gd_some hf
        refine tL_16 C h6 dX2_leafDueAfter_34 ?_
        refine g_iload_n C 1 rfl rfl dX2_leafDueAfter_35 ?_
        refine g_icmp_ne C 48 (by decide) dX2_leafDueAfter_36 (fun h7 => ?_) (fun h7 => ?_)
        · rw [if_neg h7] at hf
          refine g_iinc C (v := w3 + 1) (lv2 := [(3, .int (w3 + 1)), (0, .ref (ax x 15)), (2, .int w2)]) 2 rfl (by rw [(by decide : Int32.ofInt 1 = 1)]) (by decide) rfl dX2_leafDueAfter_48 ?_
          refine g_goto C 11 (by decide) dX2_leafDueAfter_51 ?_
          refine g_sub [1, 2, 0] rfl ?_
          exact ih (w3 + 1) hf
        · rw [if_pos h7] at hf
          refine g_sub [0, 2] rfl ?_
          exact hk w3 hf
set_option maxHeartbeats 4000000 in
set_option maxRecDepth 100000 in
theorem c_X2_leafDueAfter {l : Launch} {x : Ad} (g : Nat) (S : Mem) (a2 : Int32) {z : Int32} (hf : f_X2_leafDueAfter g S a2 = some z) : MI l x yX2_leafDueAfter kX2_leafDueAfter rmX2_leafDueAfter [.ref (ax x 15), .ref (ax x 1), .int a2] (cT x S) z (cT x S) := by
  refine met_I RX2 (by decide +kernel) rfl (Nat.le_of_ble_eq_true rfl) [(0, .ref (ax x 15)), (1, .ref (ax x 1)), (2, .int a2)] rfl ?_
  intro κ hl C hr
  subst hl
  rw [f_X2_leafDueAfter] at hf
  refine g_aload_n C 1 rfl rfl dX2_leafDueAfter_0 ?_
  refine g_iload_n C 2 rfl rfl dX2_leafDueAfter_1 ?_
  obtain ⟨r2, h1, hf⟩ := bd_some hf
  refine g_callVI C (n := 1) (st := []) (c_X0_kindOf g S a2 h1) (tb_wsV _ mM_X2_54 mI_X0_kindOf mS_X0_kindOf mN_X0 mK_X0_kindOf) (by decide +kernel) rfl rfl ⟨by decide, by decide⟩ 1 0 rfl rfl rfl (Nat.le_of_ble_eq_true rfl) dX2_leafDueAfter_2 rfl ?_
  refine g_iconst C (v := 1) (by decide) dX2_leafDueAfter_5 ?_
  refine g_icmp_ne C 54 (by decide) dX2_leafDueAfter_6 (fun h3 => ?_) (fun h3 => ?_)
  · rw [if_neg h3] at hf
    refine g_iconst C (v := (-1)) (by decide) dX2_leafDueAfter_54 ?_
    obtain rfl := Option.some.inj hf
    exact g_iret hr dX2_leafDueAfter_55
  · rw [if_pos h3] at hf
    refine g_iconst C (v := 0) (by decide) dX2_leafDueAfter_9 ?_
    refine g_istore_n C (lv2 := [(3, .int 0), (0, .ref (ax x 15)), (1, .ref (ax x 1)), (2, .int a2)]) rfl (by decide) rfl dX2_leafDueAfter_10 ?_
    refine g_sub [1, 3, 0] rfl ?_
    refine lp_X2_leafDueAfter_11 C S hr g a2 _ (fun v8 hf => ?_) g 0 hf
    refine g_aload_n C 0 rfl rfl dX2_leafDueAfter_39 ?_
    refine tF_X2_9 C dX2_leafDueAfter_40 ?_
    refine g_iload_n C 1 rfl rfl dX2_leafDueAfter_43 ?_
    refine g_iconst C (v := 1) (by decide) dX2_leafDueAfter_44 ?_
    refine g_iadd C dX2_leafDueAfter_45 ?_
    obtain ⟨h9, hf⟩ := gd_some hf
    refine tL_16 C h9 dX2_leafDueAfter_46 ?_
    obtain rfl := Option.some.inj hf
    exact g_iret hr dX2_leafDueAfter_47
def f_X2_countIsRight (g : Nat) (S : Mem) (a2 : Int32) (a3 : Int32) : Option (Int32) := bd (f_X0_countOf g S a2) (fun r2 => jn1 (fun (t3 : Int32) => if 4 < r2 then (some 0) else (if 2 ≤ r2 then (some 1) else (if t3 = 0 then (some 0) else (some 1)))) (fun j4 => jn0 (j4 0) (fun j8 => if a3 = 0 then (j8) else (bd (f_X0_kindOf g S a2) (fun r11 => if r11 = 1 then (j4 1) else (j8))))))
abbrev rmX2_countIsRight : Room := { frames := 2, cells := 0, slots := 0, locals := 42 }
set_option maxHeartbeats 4000000 in
set_option maxRecDepth 100000 in
theorem c_X2_countIsRight {l : Launch} {x : Ad} (g : Nat) (S : Mem) (a2 : Int32) (a3 : Int32) {z : Int32} (hf : f_X2_countIsRight g S a2 a3 = some z) : MI l x yX2_countIsRight kX2_countIsRight rmX2_countIsRight [.ref (ax x 15), .ref (ax x 1), .int a2, .int a3] (cT x S) z (cT x S) := by
  refine met_Z RX2 (by decide +kernel) rfl (Nat.le_of_ble_eq_true rfl) [(0, .ref (ax x 15)), (1, .ref (ax x 1)), (2, .int a2), (3, .int a3)] rfl ?_
  intro κ hl C hr
  subst hl
  rw [f_X2_countIsRight] at hf
  refine g_aload_n C 1 rfl rfl dX2_countIsRight_0 ?_
  refine g_iload_n C 2 rfl rfl dX2_countIsRight_1 ?_
  obtain ⟨r2, h1, hf⟩ := bd_some hf
  refine g_callVI C (n := 1) (st := []) (c_X0_countOf g S a2 h1) (tb_wsV _ mM_X2_60 mI_X0_countOf mS_X0_countOf mN_X0 mK_X0_countOf) (by decide +kernel) rfl rfl ⟨by decide, by decide⟩ 1 0 rfl rfl rfl (Nat.le_of_ble_eq_true rfl) dX2_countIsRight_2 rfl ?_
  refine g_istore C (lv2 := [(4, .int r2), (0, .ref (ax x 15)), (1, .ref (ax x 1)), (2, .int a2), (3, .int a3)]) (by decide) rfl dX2_countIsRight_5 ?_
  refine g_iload_n C 4 rfl rfl dX2_countIsRight_7 ?_
  refine jn1_elim (fun (t3 : Int32) => GG κ x (cT x S) 25 [(4, .int r2)] [.int t3]) hf (fun t3 hf => ?_) (fun j4 hj4 hf => ?_)
  · show GG κ x (cT x S) 25 [(4, .int r2)] [.int t3]
    refine g_istore C (lv2 := [(5, .int t3), (4, .int r2)]) (by decide) rfl dX2_countIsRight_25 ?_
    refine g_iload C 1 rfl dX2_countIsRight_27 ?_
    refine g_iconst C (v := 4) (by decide) dX2_countIsRight_29 ?_
    refine g_icmp_gt C 48 (by decide) dX2_countIsRight_30 (fun h5 => ?_) (fun h5 => ?_)
    · rw [if_pos h5] at hf
      refine g_iconst C (v := 0) (by decide) dX2_countIsRight_48 ?_
      obtain rfl := Option.some.inj hf
      exact g_iret (hr (Or.inl rfl)) dX2_countIsRight_49
    · rw [if_neg h5] at hf
      refine g_iload C 1 rfl dX2_countIsRight_33 ?_
      refine g_iconst C (v := 2) (by decide) dX2_countIsRight_35 ?_
      refine g_icmp_ge C 44 (by decide) dX2_countIsRight_36 (fun h6 => ?_) (fun h6 => ?_)
      · rw [if_pos h6] at hf
        refine g_iconst C (v := 1) (by decide) dX2_countIsRight_44 ?_
        refine g_goto C 49 (by decide) dX2_countIsRight_45 ?_
        obtain rfl := Option.some.inj hf
        exact g_iret (hr (Or.inr rfl)) dX2_countIsRight_49
      · rw [if_neg h6] at hf
        refine g_iload C 0 rfl dX2_countIsRight_39 ?_
        refine g_if_eq C 48 (by decide) dX2_countIsRight_41 (fun h7 => ?_) (fun h7 => ?_)
        · rw [if_pos h7] at hf
          refine g_iconst C (v := 0) (by decide) dX2_countIsRight_48 ?_
          obtain rfl := Option.some.inj hf
          exact g_iret (hr (Or.inl rfl)) dX2_countIsRight_49
        · rw [if_neg h7] at hf
          refine g_iconst C (v := 1) (by decide) dX2_countIsRight_44 ?_
          refine g_goto C 49 (by decide) dX2_countIsRight_45 ?_
          obtain rfl := Option.some.inj hf
          exact g_iret (hr (Or.inr rfl)) dX2_countIsRight_49
  · skip
    refine jn0_elim (GG κ x (cT x S) 24 [(4, .int r2)] []) hf (fun hf => ?_) (fun j8 hj8 hf => ?_)
    · show GG κ x (cT x S) 24 [(4, .int r2)] []
      refine g_iconst C (v := 0) (by decide) dX2_countIsRight_24 ?_
      refine g_sub [0] rfl ?_
      exact hj4 0 hf
    · skip
      refine g_if_eq C 24 (by decide) dX2_countIsRight_8 (fun h9 => ?_) (fun h9 => ?_)
      · rw [if_pos h9] at hf
        refine g_sub [0] rfl ?_
        exact hj8 hf
      · rw [if_neg h9] at hf
        refine g_aload_n C 2 rfl rfl dX2_countIsRight_11 ?_
        refine g_iload_n C 3 rfl rfl dX2_countIsRight_12 ?_
        obtain ⟨r11, h10, hf⟩ := bd_some hf
        refine g_callVI C (n := 1) (st := []) (c_X0_kindOf g S a2 h10) (tb_wsV _ mM_X2_54 mI_X0_kindOf mS_X0_kindOf mN_X0 mK_X0_kindOf) (by decide +kernel) rfl rfl ⟨by decide, by decide⟩ 1 0 rfl rfl rfl (Nat.le_of_ble_eq_true rfl) dX2_countIsRight_13 rfl ?_
        refine g_iconst C (v := 1) (by decide) dX2_countIsRight_16 ?_
        refine g_icmp_ne C 24 (by decide) dX2_countIsRight_17 (fun h12 => ?_) (fun h12 => ?_)
        · rw [if_neg h12] at hf
          refine g_sub [0] rfl ?_
          exact hj8 hf
        · rw [if_pos h12] at hf
          refine g_iconst C (v := 1) (by decide) dX2_countIsRight_20 ?_
          refine g_goto C 25 (by decide) dX2_countIsRight_21 ?_
          refine g_sub [0] rfl ?_
          exact hj4 1 hf
def f_X2_childrenArePages_11 (g : Nat) (S : Mem) (w2 : Int32) : Nat → Int32 → Option (Int32)
  | 0, _ => none
  | n + 1, w3 => bd (f_X0_countOf g S w2) (fun r5 => if r5 ≤ w3 then (some 1) else (bd (f_X0_secondAt g S w2 w3) (fun r8 => bd (f_X0_kindOf g S r8) (fun r10 => if r10 = 0 then (some 0) else (f_X2_childrenArePages_11 g S w2 n (w3 + 1))))))
def f_X2_childrenArePages (g : Nat) (S : Mem) (a2 : Int32) : Option (Int32) := bd (f_X0_kindOf g S a2) (fun r2 => if r2 = 2 then (f_X2_childrenArePages_11 g S a2 g 0) else (some 1))
abbrev rmX2_childrenArePages : Room := { frames := 2, cells := 0, slots := 0, locals := 46 }
set_option maxHeartbeats 4000000 in
set_option maxRecDepth 100000 in
theorem lp_X2_childrenArePages_11 {κ : Kx} {x : Ad} (C : Cx κ x cX2_childrenArePages RX2 kX2_childrenArePages rmX2_childrenArePages 4) (S : Mem) {z : Int32} (hr : iz z → RI κ x cX2_childrenArePages (cT x S) z) (g : Nat) (w2 : Int32) : ∀ (n : Nat) (w3 : Int32), f_X2_childrenArePages_11 g S w2 n w3 = some z → GG κ x (cT x S) 11 [(1, .ref (ax x 1)), (2, .int w2), (3, .int w3)] [] := by
  intro n
  induction n with
  | zero => intro w3 hf; cases hf
  | succ n ih =>
    intro w3 hf
    rw [f_X2_childrenArePages_11] at hf
    refine g_iload_n C 2 rfl rfl dX2_childrenArePages_11 ?_
    refine g_aload_n C 0 rfl rfl dX2_childrenArePages_12 ?_
    refine g_iload_n C 1 rfl rfl dX2_childrenArePages_13 ?_
    obtain ⟨r5, h4, hf⟩ := bd_some hf
    refine g_callVI C (n := 1) (st := [.int w3]) (c_X0_countOf g S w2 h4) (tb_wsV _ mM_X2_60 mI_X0_countOf mS_X0_countOf mN_X0 mK_X0_countOf) (by decide +kernel) rfl rfl ⟨by decide, by decide⟩ 1 0 rfl rfl rfl (Nat.le_of_ble_eq_true rfl) dX2_childrenArePages_14 rfl ?_
    refine g_icmp_ge C 41 (by decide) dX2_childrenArePages_17 (fun h6 => ?_) (fun h6 => ?_)
    · rw [if_pos h6] at hf
      refine g_iconst C (v := 1) (by decide) dX2_childrenArePages_41 ?_
      obtain rfl := Option.some.inj hf
      exact g_iret (hr (Or.inr rfl)) dX2_childrenArePages_42
    · rw [if_neg h6] at hf
      refine g_aload_n C 0 rfl rfl dX2_childrenArePages_20 ?_
      refine g_aload_n C 0 rfl rfl dX2_childrenArePages_21 ?_
      refine g_iload_n C 1 rfl rfl dX2_childrenArePages_22 ?_
      refine g_iload_n C 2 rfl rfl dX2_childrenArePages_23 ?_
      obtain ⟨r8, h7, hf⟩ := bd_some hf
      refine g_callVI C (n := 2) (st := [.ref (ax x 1)]) (c_X0_secondAt g S w2 w3 h7) (tb_wsV _ mM_X2_67 mI_X0_secondAt mS_X0_secondAt mN_X0 mK_X0_secondAt) (by decide +kernel) rfl rfl ⟨by decide, by decide⟩ 1 0 rfl rfl rfl (Nat.le_of_ble_eq_true rfl) dX2_childrenArePages_24 rfl ?_
      obtain ⟨r10, h9, hf⟩ := bd_some hf
      refine g_callVI C (n := 1) (st := []) (c_X0_kindOf g S r8 h9) (tb_wsV _ mM_X2_54 mI_X0_kindOf mS_X0_kindOf mN_X0 mK_X0_kindOf) (by decide +kernel) rfl rfl ⟨by decide, by decide⟩ 1 0 rfl rfl rfl (Nat.le_of_ble_eq_true rfl) dX2_childrenArePages_27 rfl ?_
      refine g_if_ne C 35 (by decide) dX2_childrenArePages_30 (fun h11 => ?_) (fun h11 => ?_)
      · rw [if_neg h11] at hf
        refine g_iinc C (v := w3 + 1) (lv2 := [(3, .int (w3 + 1)), (1, .ref (ax x 1)), (2, .int w2)]) 2 rfl (by rw [(by decide : Int32.ofInt 1 = 1)]) (by decide) rfl dX2_childrenArePages_35 ?_
        refine g_goto C 11 (by decide) dX2_childrenArePages_38 ?_
        refine g_sub [1, 2, 0] rfl ?_
        exact ih (w3 + 1) hf
      · rw [if_pos h11] at hf
        refine g_iconst C (v := 0) (by decide) dX2_childrenArePages_33 ?_
        obtain rfl := Option.some.inj hf
        exact g_iret (hr (Or.inl rfl)) dX2_childrenArePages_34
set_option maxHeartbeats 4000000 in
set_option maxRecDepth 100000 in
theorem c_X2_childrenArePages {l : Launch} {x : Ad} (g : Nat) (S : Mem) (a2 : Int32) {z : Int32} (hf : f_X2_childrenArePages g S a2 = some z) : MI l x yX2_childrenArePages kX2_childrenArePages rmX2_childrenArePages [.ref (ax x 15), .ref (ax x 1), .int a2] (cT x S) z (cT x S) := by
  refine met_Z RX2 (by decide +kernel) rfl (Nat.le_of_ble_eq_true rfl) [(0, .ref (ax x 15)), (1, .ref (ax x 1)), (2, .int a2)] rfl ?_
  intro κ hl C hr
  subst hl
  rw [f_X2_childrenArePages] at hf
  refine g_aload_n C 1 rfl rfl dX2_childrenArePages_0 ?_
  refine g_iload_n C 2 rfl rfl dX2_childrenArePages_1 ?_
  obtain ⟨r2, h1, hf⟩ := bd_some hf
  refine g_callVI C (n := 1) (st := []) (c_X0_kindOf g S a2 h1) (tb_wsV _ mM_X2_54 mI_X0_kindOf mS_X0_kindOf mN_X0 mK_X0_kindOf) (by decide +kernel) rfl rfl ⟨by decide, by decide⟩ 1 0 rfl rfl rfl (Nat.le_of_ble_eq_true rfl) dX2_childrenArePages_2 rfl ?_
  refine g_iconst C (v := 2) (by decide) dX2_childrenArePages_5 ?_
  refine g_icmp_ne C 41 (by decide) dX2_childrenArePages_6 (fun h3 => ?_) (fun h3 => ?_)
  · rw [if_neg h3] at hf
    refine g_iconst C (v := 1) (by decide) dX2_childrenArePages_41 ?_
    obtain rfl := Option.some.inj hf
    exact g_iret (hr (Or.inr rfl)) dX2_childrenArePages_42
  · rw [if_pos h3] at hf
    refine g_iconst C (v := 0) (by decide) dX2_childrenArePages_9 ?_
    refine g_istore_n C (lv2 := [(3, .int 0), (0, .ref (ax x 15)), (1, .ref (ax x 1)), (2, .int a2)]) rfl (by decide) rfl dX2_childrenArePages_10 ?_
    refine g_sub [2, 3, 0] rfl ?_
    exact lp_X2_childrenArePages_11 C S hr g a2 g 0 hf
def f_X2_keysAreInPlace_38 (g : Nat) (S : Mem) (w2 : Int32) : Nat → Int64 → Int32 → Option (Int32)
  | 0, _, _ => none
  | n + 1, w4, w6 => bd (f_X0_countOf g S w2) (fun r9 => if r9 ≤ w6 then (some 1) else (bd (f_X0_keyAt g S w2 w6) (fun r12 => if (lg_cmp r12.toInt64 w4) < 0 then (some 0) else (gd (ix_in w2 40) (if (lg_cmp r12.toInt64 (S.2 20 w2.toNatClampNeg)) < 0 then (f_X2_keysAreInPlace_38 g S w2 n (r12.toInt64 + 1) (w6 + 1)) else (some 0))))))
def f_X2_keysAreInPlace (g : Nat) (S : Mem) (a2 : Int32) : Option (Int32) := if a2 < 0 then (some 0) else (if a2 < 40 then (bd (f_X0_kindOf g S a2) (fun r4 => jn1 (fun (t5 : Int32) => gd (ix_in a2 40) (f_X2_keysAreInPlace_38 g S a2 g (S.2 19 a2.toNatClampNeg) t5)) (fun j6 => if r4 = 1 then (j6 0) else (j6 1)))) else (some 0))
abbrev rmX2_keysAreInPlace : Room := { frames := 2, cells := 0, slots := 0, locals := 46 }
set_option maxHeartbeats 4000000 in
set_option maxRecDepth 100000 in
theorem lp_X2_keysAreInPlace_38 {κ : Kx} {x : Ad} (C : Cx κ x cX2_keysAreInPlace RX2 kX2_keysAreInPlace rmX2_keysAreInPlace 9) (S : Mem) {z : Int32} (hr : iz z → RI κ x cX2_keysAreInPlace (cT x S) z) (g : Nat) (w2 : Int32) : ∀ (n : Nat) (w4 : Int64) (w6 : Int32), f_X2_keysAreInPlace_38 g S w2 n w4 w6 = some z → GG κ x (cT x S) 38 [(0, .ref (ax x 15)), (1, .ref (ax x 1)), (2, .int w2), (4, .long w4), (6, .int w6)] [] := by
  intro n
  induction n with
  | zero => intro w4 w6 hf; cases hf
  | succ n ih =>
    intro w4 w6 hf
    rw [f_X2_keysAreInPlace_38] at hf
    refine g_iload C 4 rfl dX2_keysAreInPlace_38 ?_
    refine g_aload_n C 1 rfl rfl dX2_keysAreInPlace_40 ?_
    refine g_iload_n C 2 rfl rfl dX2_keysAreInPlace_41 ?_
    obtain ⟨r9, h8, hf⟩ := bd_some hf
    refine g_callVI C (n := 1) (st := [.int w6]) (c_X0_countOf g S w2 h8) (tb_wsV _ mM_X2_60 mI_X0_countOf mS_X0_countOf mN_X0 mK_X0_countOf) (by decide +kernel) rfl rfl ⟨by decide, by decide⟩ 1 0 rfl rfl rfl (Nat.le_of_ble_eq_true rfl) dX2_keysAreInPlace_42 rfl ?_
    refine g_icmp_ge C 92 (by decide) dX2_keysAreInPlace_45 (fun h10 => ?_) (fun h10 => ?_)
    · rw [if_pos h10] at hf
      refine g_iconst C (v := 1) (by decide) dX2_keysAreInPlace_92 ?_
      obtain rfl := Option.some.inj hf
      exact g_iret (hr (Or.inr rfl)) dX2_keysAreInPlace_93
    · rw [if_neg h10] at hf
      refine g_aload_n C 1 rfl rfl dX2_keysAreInPlace_48 ?_
      refine g_iload_n C 2 rfl rfl dX2_keysAreInPlace_49 ?_
      refine g_iload C 4 rfl dX2_keysAreInPlace_50 ?_
      obtain ⟨r12, h11, hf⟩ := bd_some hf
      refine g_callVI C (n := 2) (st := []) (c_X0_keyAt g S w2 w6 h11) (tb_wsV _ mM_X2_63 mI_X0_keyAt mS_X0_keyAt mN_X0 mK_X0_keyAt) (by decide +kernel) rfl rfl ⟨by decide, by decide⟩ 1 0 rfl rfl rfl (Nat.le_of_ble_eq_true rfl) dX2_keysAreInPlace_52 rfl ?_
      refine g_i2l C dX2_keysAreInPlace_55 ?_
      refine g_lstore C (lv2 := [(7, .long r12.toInt64), (0, .ref (ax x 15)), (1, .ref (ax x 1)), (2, .int w2), (4, .long w4), (6, .int w6)]) (by decide) rfl dX2_keysAreInPlace_56 ?_
      refine g_lload C 0 rfl dX2_keysAreInPlace_58 ?_
      refine g_lload C 4 rfl dX2_keysAreInPlace_60 ?_
      refine g_lcmp C dX2_keysAreInPlace_62 ?_
      refine g_if_lt C 78 (by decide) dX2_keysAreInPlace_63 (fun h13 => ?_) (fun h13 => ?_)
      · rw [if_pos h13] at hf
        refine g_iconst C (v := 0) (by decide) dX2_keysAreInPlace_78 ?_
        obtain rfl := Option.some.inj hf
        exact g_iret (hr (Or.inl rfl)) dX2_keysAreInPlace_79
      · rw [if_neg h13] at hf
        refine g_lload C 0 rfl dX2_keysAreInPlace_66 ?_
        refine g_aload_n C 1 rfl rfl dX2_keysAreInPlace_68 ?_
        refine tF_X2_25 C dX2_keysAreInPlace_69 ?_
        refine g_iload_n C 3 rfl rfl dX2_keysAreInPlace_72 ?_
        obtain ⟨h14, hf⟩ := gd_some hf
        refine tL_20 C h14 dX2_keysAreInPlace_73 ?_
        refine g_lcmp C dX2_keysAreInPlace_74 ?_
        refine g_if_lt C 80 (by decide) dX2_keysAreInPlace_75 (fun h15 => ?_) (fun h15 => ?_)
        · rw [if_pos h15] at hf
          refine g_lload C 0 rfl dX2_keysAreInPlace_80 ?_
          refine g_lconst C (v := 1) (by decide) dX2_keysAreInPlace_82 ?_
          refine g_ladd C dX2_keysAreInPlace_83 ?_
          refine g_lstore C (lv2 := [(4, .long (r12.toInt64 + 1)), (7, .long r12.toInt64), (0, .ref (ax x 15)), (1, .ref (ax x 1)), (2, .int w2), (6, .int w6)]) (by decide) rfl dX2_keysAreInPlace_84 ?_
          refine g_iinc C (v := w6 + 1) (lv2 := [(6, .int (w6 + 1)), (4, .long (r12.toInt64 + 1)), (7, .long r12.toInt64), (0, .ref (ax x 15)), (1, .ref (ax x 1)), (2, .int w2)]) 5 rfl (by rw [(by decide : Int32.ofInt 1 = 1)]) (by decide) rfl dX2_keysAreInPlace_86 ?_
          refine g_goto C 38 (by decide) dX2_keysAreInPlace_89 ?_
          refine g_sub [3, 4, 5, 1, 0] rfl ?_
          exact ih (r12.toInt64 + 1) (w6 + 1) hf
        · rw [if_neg h15] at hf
          refine g_iconst C (v := 0) (by decide) dX2_keysAreInPlace_78 ?_
          obtain rfl := Option.some.inj hf
          exact g_iret (hr (Or.inl rfl)) dX2_keysAreInPlace_79
set_option maxHeartbeats 4000000 in
set_option maxRecDepth 100000 in
theorem c_X2_keysAreInPlace {l : Launch} {x : Ad} (g : Nat) (S : Mem) (a2 : Int32) {z : Int32} (hf : f_X2_keysAreInPlace g S a2 = some z) : MI l x yX2_keysAreInPlace kX2_keysAreInPlace rmX2_keysAreInPlace [.ref (ax x 15), .ref (ax x 1), .int a2] (cT x S) z (cT x S) := by
  refine met_Z RX2 (by decide +kernel) rfl (Nat.le_of_ble_eq_true rfl) [(0, .ref (ax x 15)), (1, .ref (ax x 1)), (2, .int a2)] rfl ?_
  intro κ hl C hr
  subst hl
  rw [f_X2_keysAreInPlace] at hf
  refine g_iload_n C 2 rfl rfl dX2_keysAreInPlace_0 ?_
  refine g_if_lt C 10 (by decide) dX2_keysAreInPlace_1 (fun h1 => ?_) (fun h1 => ?_)
  · rw [if_pos h1] at hf
    refine g_iconst C (v := 0) (by decide) dX2_keysAreInPlace_10 ?_
    obtain rfl := Option.some.inj hf
    exact g_iret (hr (Or.inl rfl)) dX2_keysAreInPlace_11
  · rw [if_neg h1] at hf
    refine g_iload_n C 2 rfl rfl dX2_keysAreInPlace_4 ?_
    refine g_bipush C (v := 40) (by decide) dX2_keysAreInPlace_5 ?_
    refine g_icmp_lt C 12 (by decide) dX2_keysAreInPlace_7 (fun h2 => ?_) (fun h2 => ?_)
    · rw [if_pos h2] at hf
      refine g_aload_n C 1 rfl rfl dX2_keysAreInPlace_12 ?_
      refine g_iload_n C 2 rfl rfl dX2_keysAreInPlace_13 ?_
      obtain ⟨r4, h3, hf⟩ := bd_some hf
      refine g_callVI C (n := 1) (st := []) (c_X0_kindOf g S a2 h3) (tb_wsV _ mM_X2_54 mI_X0_kindOf mS_X0_kindOf mN_X0 mK_X0_kindOf) (by decide +kernel) rfl rfl ⟨by decide, by decide⟩ 1 0 rfl rfl rfl (Nat.le_of_ble_eq_true rfl) dX2_keysAreInPlace_14 rfl ?_
      refine g_iconst C (v := 1) (by decide) dX2_keysAreInPlace_17 ?_
      refine jn1_elim (fun (t5 : Int32) => GG κ x (cT x S) 26 [(0, .ref (ax x 15)), (1, .ref (ax x 1)), (2, .int a2)] [.int t5]) hf (fun t5 hf => ?_) (fun j6 hj6 hf => ?_)
      · show GG κ x (cT x S) 26 [(0, .ref (ax x 15)), (1, .ref (ax x 1)), (2, .int a2)] [.int t5]
        refine g_istore_n C (lv2 := [(3, .int t5), (0, .ref (ax x 15)), (1, .ref (ax x 1)), (2, .int a2)]) rfl (by decide) rfl dX2_keysAreInPlace_26 ?_
        refine g_aload_n C 1 rfl rfl dX2_keysAreInPlace_27 ?_
        refine tF_X2_21 C dX2_keysAreInPlace_28 ?_
        refine g_iload_n C 3 rfl rfl dX2_keysAreInPlace_31 ?_
        obtain ⟨h7, hf⟩ := gd_some hf
        refine tL_19 C h7 dX2_keysAreInPlace_32 ?_
        refine g_lstore C (lv2 := [(4, .long (S.2 19 a2.toNatClampNeg)), (3, .int t5), (0, .ref (ax x 15)), (1, .ref (ax x 1)), (2, .int a2)]) (by decide) rfl dX2_keysAreInPlace_33 ?_
        refine g_iload_n C 1 rfl rfl dX2_keysAreInPlace_35 ?_
        refine g_istore C (lv2 := [(6, .int t5), (4, .long (S.2 19 a2.toNatClampNeg)), (3, .int t5), (0, .ref (ax x 15)), (1, .ref (ax x 1)), (2, .int a2)]) (by decide) rfl dX2_keysAreInPlace_36 ?_
        refine g_sub [3, 4, 5, 1, 0] rfl ?_
        exact lp_X2_keysAreInPlace_38 C S hr g a2 g (S.2 19 a2.toNatClampNeg) t5 hf
      · skip
        refine g_icmp_ne C 25 (by decide) dX2_keysAreInPlace_18 (fun h16 => ?_) (fun h16 => ?_)
        · rw [if_neg h16] at hf
          refine g_iconst C (v := 1) (by decide) dX2_keysAreInPlace_25 ?_
          refine g_sub [0, 1, 2] rfl ?_
          exact hj6 1 hf
        · rw [if_pos h16] at hf
          refine g_iconst C (v := 0) (by decide) dX2_keysAreInPlace_21 ?_
          refine g_goto C 26 (by decide) dX2_keysAreInPlace_22 ?_
          refine g_sub [0, 1, 2] rfl ?_
          exact hj6 0 hf
    · rw [if_neg h2] at hf
      refine g_iconst C (v := 0) (by decide) dX2_keysAreInPlace_10 ?_
      obtain rfl := Option.some.inj hf
      exact g_iret (hr (Or.inl rfl)) dX2_keysAreInPlace_11
