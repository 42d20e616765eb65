def f_X5_astray_34 (g : Nat) (S : Mem) (w1 : Int32) (w2 : Int32) (kx : Int32 → Option (Int32 × Mem)) : Nat → Int32 → Int32 → Option (Int32 × Mem)
  | 0, _, _ => none
  | n + 1, w3, w4 => gd (ix_in w2 40) (if (S.1 2 w2.toNatClampNeg) ≤ w4 then (kx w3) else (if w3 = 0 then (f_X5_astray_34 g S w1 w2 kx n 0 (w4 + 1)) else (gd (ix_in (((5 * w2) + w4) - 1) 200) (gd (ix_in ((5 * w2) + w4) 200) (if (S.1 3 ((5 * w2) + w4).toNatClampNeg) ≤ (S.1 3 (((5 * w2) + w4) - 1).toNatClampNeg) then (f_X5_astray_34 g S w1 w2 kx n 0 (w4 + 1)) else (f_X5_astray_34 g S w1 w2 kx n 1 (w4 + 1)))))))
def f_X5_astray_91 (g : Nat) (S : Mem) (w1 : Int32) (w2 : Int32) (kx : Int32 → Option (Int32 × Mem)) : Nat → Int32 → Int32 → Option (Int32 × Mem)
  | 0, _, _ => none
  | n + 1, w3, w4 => gd (ix_in w2 40) (if (S.1 2 w2.toNatClampNeg) ≤ w4 then (kx w3) else (gd (ix_in w2 40) (if (S.1 1 w2.toNatClampNeg) = 2 then (if w3 = 0 then (f_X5_astray_91 g S w1 w2 kx n 0 (w4 + 1)) else (gd (ix_in ((5 * w2) + w4) 200) (gd (ix_in (S.1 4 ((5 * w2) + w4).toNatClampNeg) 40) (if (S.1 1 (S.1 4 ((5 * w2) + w4).toNatClampNeg).toNatClampNeg) = 0 then (f_X5_astray_91 g S w1 w2 kx n 0 (w4 + 1)) else (f_X5_astray_91 g S w1 w2 kx n 1 (w4 + 1)))))) else (kx w3))))
def f_X5_astray_153 (g : Nat) (S : Mem) (w1 : Int32) (w2 : Int32) (w3 : Int32) (kx : Int32 → Option (Int32 × Mem)) : Nat → Int32 → Int32 → Option (Int32 × Mem)
  | 0, _, _ => none
  | n + 1, w4, w5 => if 12 ≤ w5 then (kx w4) else (gd (ix_in w5 12) (if (S.1 8 w5.toNatClampNeg) = w2 then (f_X5_astray_153 g S w1 w2 w3 kx n (w4 + 1) (w5 + 1)) else (f_X5_astray_153 g S w1 w2 w3 kx n w4 (w5 + 1))))
def f_X5_astray_9 (g : Nat) (S : Mem)  : Nat → Int32 → Int32 → Option (Int32 × Mem)
  | 0, _, _ => none
  | n + 1, w1, w2 => if 40 ≤ w2 then (some (w1, S)) else (gd (ix_in w2 40) (jn1 (fun (t3 : Int32) => f_X5_astray_34 g S w1 w2 (fun (v11 : Int32) => f_X5_astray_91 g S w1 w2 (fun (v20 : Int32) => f_X5_astray_153 g S w1 w2 v20 (fun (v24 : Int32) => jn0 (f_X5_astray_9 g S n (w1 + 1) (w2 + 1)) (fun j25 => if v20 = 0 then (j25) else (if 2 ≤ v24 then (j25) else (f_X5_astray_9 g S n w1 (w2 + 1))))) g 0 0) g v11 0) g 1 t3) (fun j4 => if (S.1 1 w2.toNatClampNeg) = 1 then (j4 1) else (j4 2))))
def f_X5_astray (g : Nat) (S : Mem) : Option (Int32 × Mem) := f_X5_astray_9 g (up S 0 0 0) g 0 0
abbrev rmX5_astray : Room := { frames := 0, cells := 0, slots := 0, locals := 0 }
set_option maxHeartbeats 4000000 in
set_option maxRecDepth 100000 in
theorem lp_X5_astray_34 {κ : Kx} {x : Ad} (C : Cx κ x cX5_astray RX5 kX5_astray rmX5_astray 6) (S : Mem) {z : Int32 × Mem} (hr : RI κ x cX5_astray (cM x z.2) z.1) (g : Nat) (w1 : Int32) (w2 : Int32) (kx : Int32 → Option (Int32 × Mem)) (hk : ∀ (u3 : Int32), kx u3 = some z → GG κ x (cM x S) 88 [(0, .ref (ax x 30)), (1, .int w1), (2, .int w2), (3, .int u3)] []) : ∀ (n : Nat) (w3 : Int32) (w4 : Int32), f_X5_astray_34 g S w1 w2 kx n w3 w4 = some z → GG κ x (cM x S) 34 [(0, .ref (ax x 30)), (1, .int w1), (2, .int w2), (3, .int w3), (4, .int w4)] [] := by
  intro n
  induction n with
  | zero => intro w3 w4 hf; cases hf
  | succ n ih =>
    intro w3 w4 hf
    rw [f_X5_astray_34] at hf
    refine g_iload C 4 rfl dX5_astray_34 ?_
    refine g_aload_n C 0 rfl rfl dX5_astray_36 ?_
    refine rF_X5_13 C dX5_astray_37 ?_
    refine g_iload_n C 2 rfl rfl dX5_astray_40 ?_
    obtain ⟨h5, hf⟩ := gd_some hf
    refine rL_2 C h5 dX5_astray_41 ?_
    refine g_icmp_ge C 88 (by decide) dX5_astray_42 (fun h6 => ?_) (fun h6 => ?_)
    · rw [if_pos h6] at hf
      refine g_sub [0, 1, 2, 3] rfl ?_
      exact hk w3 hf
    · rw [if_neg h6] at hf
      refine g_iload_n C 3 rfl rfl dX5_astray_45 ?_
      refine g_if_eq C 80 (by decide) dX5_astray_46 (fun h7 => ?_) (fun h7 => ?_)
      · rw [if_pos h7] at hf
        refine g_iconst C (v := 0) (by decide) dX5_astray_80 ?_
        refine g_istore_n C (lv2 := [(3, .int 0), (0, .ref (ax x 30)), (1, .int w1), (2, .int w2), (4, .int w4)]) rfl (by decide) rfl dX5_astray_81 ?_
        refine g_iinc C (v := w4 + 1) (lv2 := [(4, .int (w4 + 1)), (3, .int 0), (0, .ref (ax x 30)), (1, .int w1), (2, .int w2)]) 4 rfl (by rw [(by decide : Int32.ofInt 1 = 1)]) (by decide) rfl dX5_astray_82 ?_
        refine g_goto C 34 (by decide) dX5_astray_85 ?_
        refine g_sub [2, 3, 4, 1, 0] rfl ?_
        exact ih 0 (w4 + 1) hf
      · rw [if_neg h7] at hf
        refine g_aload_n C 0 rfl rfl dX5_astray_49 ?_
        refine rF_X5_16 C dX5_astray_50 ?_
        refine g_iconst C (v := 5) (by decide) dX5_astray_53 ?_
        refine g_iload_n C 2 rfl rfl dX5_astray_54 ?_
        refine g_imul C dX5_astray_55 ?_
        refine g_iload C 4 rfl dX5_astray_56 ?_
        refine g_iadd C dX5_astray_58 ?_
        refine g_iconst C (v := 1) (by decide) dX5_astray_59 ?_
        refine g_isub C dX5_astray_60 ?_
        obtain ⟨h8, hf⟩ := gd_some hf
        refine rL_3 C h8 dX5_astray_61 ?_
        refine g_aload_n C 0 rfl rfl dX5_astray_62 ?_
        refine rF_X5_16 C dX5_astray_63 ?_
        refine g_iconst C (v := 5) (by decide) dX5_astray_66 ?_
        refine g_iload_n C 2 rfl rfl dX5_astray_67 ?_
        refine g_imul C dX5_astray_68 ?_
        refine g_iload C 4 rfl dX5_astray_69 ?_
        refine g_iadd C dX5_astray_71 ?_
        obtain ⟨h9, hf⟩ := gd_some hf
        refine rL_3 C h9 dX5_astray_72 ?_
        refine g_icmp_ge C 80 (by decide) dX5_astray_73 (fun h10 => ?_) (fun h10 => ?_)
        · rw [if_pos h10] at hf
          refine g_iconst C (v := 0) (by decide) dX5_astray_80 ?_
          refine g_istore_n C (lv2 := [(3, .int 0), (0, .ref (ax x 30)), (1, .int w1), (2, .int w2), (4, .int w4)]) rfl (by decide) rfl dX5_astray_81 ?_
          refine g_iinc C (v := w4 + 1) (lv2 := [(4, .int (w4 + 1)), (3, .int 0), (0, .ref (ax x 30)), (1, .int w1), (2, .int w2)]) 4 rfl (by rw [(by decide : Int32.ofInt 1 = 1)]) (by decide) rfl dX5_astray_82 ?_
          refine g_goto C 34 (by decide) dX5_astray_85 ?_
          refine g_sub [2, 3, 4, 1, 0] rfl ?_
          exact ih 0 (w4 + 1) hf
        · rw [if_neg h10] at hf
          refine g_iconst C (v := 1) (by decide) dX5_astray_76 ?_
          refine g_goto C 81 (by decide) dX5_astray_77 ?_
          refine g_istore_n C (lv2 := [(3, .int 1), (0, .ref (ax x 30)), (1, .int w1), (2, .int w2), (4, .int w4)]) rfl (by decide) rfl dX5_astray_81 ?_
          refine g_iinc C (v := w4 + 1) (lv2 := [(4, .int (w4 + 1)), (3, .int 1), (0, .ref (ax x 30)), (1, .int w1), (2, .int w2)]) 4 rfl (by rw [(by decide : Int32.ofInt 1 = 1)]) (by decide) rfl dX5_astray_82 ?_
          refine g_goto C 34 (by decide) dX5_astray_85 ?_
          refine g_sub [2, 3, 4, 1, 0] rfl ?_
          exact ih 1 (w4 + 1) hf
set_option maxHeartbeats 4000000 in
set_option maxRecDepth 100000 in
theorem lp_X5_astray_91 {κ : Kx} {x : Ad} (C : Cx κ x cX5_astray RX5 kX5_astray rmX5_astray 6) (S : Mem) {z : Int32 × Mem} (hr : RI κ x cX5_astray (cM x z.2) z.1) (g : Nat) (w1 : Int32) (w2 : Int32) (kx : Int32 → Option (Int32 × Mem)) (hk : ∀ (u3 : Int32), kx u3 = some z → GG κ x (cM x S) 147 [(0, .ref (ax x 30)), (1, .int w1), (2, .int w2), (3, .int u3)] []) : ∀ (n : Nat) (w3 : Int32) (w4 : Int32), f_X5_astray_91 g S w1 w2 kx n w3 w4 = some z → GG κ x (cM x S) 91 [(0, .ref (ax x 30)), (1, .int w1), (2, .int w2), (3, .int w3), (4, .int w4)] [] := by
  intro n
  induction n with
  | zero => intro w3 w4 hf; cases hf
  | succ n ih =>
    intro w3 w4 hf
    rw [f_X5_astray_91] at hf
    refine g_iload C 4 rfl dX5_astray_91 ?_
    refine g_aload_n C 0 rfl rfl dX5_astray_93 ?_
    refine rF_X5_13 C dX5_astray_94 ?_
    refine g_iload_n C 2 rfl rfl dX5_astray_97 ?_
    obtain ⟨h12, hf⟩ := gd_some hf
    refine rL_2 C h12 dX5_astray_98 ?_
    refine g_icmp_ge C 147 (by decide) dX5_astray_99 (fun h13 => ?_) (fun h13 => ?_)
    · rw [if_pos h13] at hf
      refine g_sub [0, 1, 2, 3] rfl ?_
      exact hk w3 hf
    · rw [if_neg h13] at hf
      refine g_aload_n C 0 rfl rfl dX5_astray_102 ?_
      refine rF_X5_7 C dX5_astray_103 ?_
      refine g_iload_n C 2 rfl rfl dX5_astray_106 ?_
      obtain ⟨h14, hf⟩ := gd_some hf
      refine rL_1 C h14 dX5_astray_107 ?_
      refine g_iconst C (v := 2) (by decide) dX5_astray_108 ?_
      refine g_icmp_ne C 147 (by decide) dX5_astray_109 (fun h15 => ?_) (fun h15 => ?_)
      · rw [if_neg h15] at hf
        refine g_sub [0, 1, 2, 3] rfl ?_
        exact hk w3 hf
      · rw [if_pos h15] at hf
        refine g_iload_n C 3 rfl rfl dX5_astray_112 ?_
        refine g_if_eq C 139 (by decide) dX5_astray_113 (fun h16 => ?_) (fun h16 => ?_)
        · rw [if_pos h16] at hf
          refine g_iconst C (v := 0) (by decide) dX5_astray_139 ?_
          refine g_istore_n C (lv2 := [(3, .int 0), (0, .ref (ax x 30)), (1, .int w1), (2, .int w2), (4, .int w4)]) rfl (by decide) rfl dX5_astray_140 ?_
          refine g_iinc C (v := w4 + 1) (lv2 := [(4, .int (w4 + 1)), (3, .int 0), (0, .ref (ax x 30)), (1, .int w1), (2, .int w2)]) 4 rfl (by rw [(by decide : Int32.ofInt 1 = 1)]) (by decide) rfl dX5_astray_141 ?_
          refine g_goto C 91 (by decide) dX5_astray_144 ?_
          refine g_sub [2, 3, 4, 1, 0] rfl ?_
          exact ih 0 (w4 + 1) hf
        · rw [if_neg h16] at hf
          refine g_aload_n C 0 rfl rfl dX5_astray_116 ?_
          refine rF_X5_7 C dX5_astray_117 ?_
          refine g_aload_n C 0 rfl rfl dX5_astray_120 ?_
          refine rF_X5_19 C dX5_astray_121 ?_
          refine g_iconst C (v := 5) (by decide) dX5_astray_124 ?_
          refine g_iload_n C 2 rfl rfl dX5_astray_125 ?_
          refine g_imul C dX5_astray_126 ?_
          refine g_iload C 4 rfl dX5_astray_127 ?_
          refine g_iadd C dX5_astray_129 ?_
          obtain ⟨h17, hf⟩ := gd_some hf
          refine rL_4 C h17 dX5_astray_130 ?_
          obtain ⟨h18, hf⟩ := gd_some hf
          refine rL_1 C h18 dX5_astray_131 ?_
          refine g_if_eq C 139 (by decide) dX5_astray_132 (fun h19 => ?_) (fun h19 => ?_)
          · rw [if_pos h19] at hf
            refine g_iconst C (v := 0) (by decide) dX5_astray_139 ?_
            refine g_istore_n C (lv2 := [(3, .int 0), (0, .ref (ax x 30)), (1, .int w1), (2, .int w2), (4, .int w4)]) rfl (by decide) rfl dX5_astray_140 ?_
            refine g_iinc C (v := w4 + 1) (lv2 := [(4, .int (w4 + 1)), (3, .int 0), (0, .ref (ax x 30)), (1, .int w1), (2, .int w2)]) 4 rfl (by rw [(by decide : Int32.ofInt 1 = 1)]) (by decide) rfl dX5_astray_141 ?_
            refine g_goto C 91 (by decide) dX5_astray_144 ?_
            refine g_sub [2, 3, 4, 1, 0] rfl ?_
            exact ih 0 (w4 + 1) hf
          · rw [if_neg h19] at hf
            refine g_iconst C (v := 1) (by decide) dX5_astray_135 ?_
            refine g_goto C 140 (by decide) dX5_astray_136 ?_
            refine g_istore_n C (lv2 := [(3, .int 1), (0, .ref (ax x 30)), (1, .int w1), (2, .int w2), (4, .int w4)]) rfl (by decide) rfl dX5_astray_140 ?_
            refine g_iinc C (v := w4 + 1) (lv2 := [(4, .int (w4 + 1)), (3, .int 1), (0, .ref (ax x 30)), (1, .int w1), (2, .int w2)]) 4 rfl (by rw [(by decide : Int32.ofInt 1 = 1)]) (by decide) rfl dX5_astray_141 ?_
            refine g_goto C 91 (by decide) dX5_astray_144 ?_
            refine g_sub [2, 3, 4, 1, 0] rfl ?_
            exact ih 1 (w4 + 1) hf
set_option maxHeartbeats 4000000 in
set_option maxRecDepth 100000 in
theorem lp_X5_astray_153 {κ : Kx} {x : Ad} (C : Cx κ x cX5_astray RX5 kX5_astray rmX5_astray 6) (S : Mem) {z : Int32 × Mem} (hr : RI κ x cX5_astray (cM x z.2) z.1) (g : Nat) (w1 : Int32) (w2 : Int32) (w3 : Int32) (kx : Int32 → Option (Int32 × Mem)) (hk : ∀ (u4 : Int32), kx u4 = some z → GG κ x (cM x S) 188 [(0, .ref (ax x 30)), (1, .int w1), (2, .int w2), (3, .int w3), (4, .int u4)] []) : ∀ (n : Nat) (w4 : Int32) (w5 : Int32), f_X5_astray_153 g S w1 w2 w3 kx n w4 w5 = some z → GG κ x (cM x S) 153 [(0, .ref (ax x 30)), (1, .int w1), (2, .int w2), (3, .int w3), (4, .int w4), (5, .int w5)] [] := by
  intro n
  induction n with
  | zero => intro w4 w5 hf; cases hf
  | succ n ih =>
    intro w4 w5 hf
    rw [f_X5_astray_153] at hf
    refine g_iload C 5 rfl dX5_astray_153 ?_
    refine g_bipush C (v := 12) (by decide) dX5_astray_155 ?_
    refine g_icmp_ge C 188 (by decide) dX5_astray_157 (fun h21 => ?_) (fun h21 => ?_)
    · rw [if_pos h21] at hf
      refine g_sub [0, 1, 2, 3, 4] rfl ?_
      exact hk w4 hf
    · rw [if_neg h21] at hf
      refine g_aload_n C 0 rfl rfl dX5_astray_160 ?_
      refine rF_X5_31 C dX5_astray_161 ?_
      refine g_iload C 5 rfl dX5_astray_164 ?_
      obtain ⟨h22, hf⟩ := gd_some hf
      refine rL_8 C h22 dX5_astray_166 ?_
      refine g_iload_n C 2 rfl rfl dX5_astray_167 ?_
      refine g_icmp_ne C 178 (by decide) dX5_astray_168 (fun h23 => ?_) (fun h23 => ?_)
      · rw [if_neg h23] at hf
        refine g_iload C 4 rfl dX5_astray_178 ?_
        refine g_istore C (lv2 := [(4, .int w4), (0, .ref (ax x 30)), (1, .int w1), (2, .int w2), (3, .int w3), (5, .int w5)]) (by decide) rfl dX5_astray_180 ?_
        refine g_iinc C (v := w5 + 1) (lv2 := [(5, .int (w5 + 1)), (4, .int w4), (0, .ref (ax x 30)), (1, .int w1), (2, .int w2), (3, .int w3)]) 5 rfl (by rw [(by decide : Int32.ofInt 1 = 1)]) (by decide) rfl dX5_astray_182 ?_
        refine g_goto C 153 (by decide) dX5_astray_185 ?_
        refine g_sub [2, 3, 4, 5, 1, 0] rfl ?_
        exact ih w4 (w5 + 1) hf
      · rw [if_pos h23] at hf
        refine g_iload C 4 rfl dX5_astray_171 ?_
        refine g_iconst C (v := 1) (by decide) dX5_astray_173 ?_
        refine g_iadd C dX5_astray_174 ?_
        refine g_goto C 180 (by decide) dX5_astray_175 ?_
        refine g_istore C (lv2 := [(4, .int (w4 + 1)), (0, .ref (ax x 30)), (1, .int w1), (2, .int w2), (3, .int w3), (5, .int w5)]) (by decide) rfl dX5_astray_180 ?_
        refine g_iinc C (v := w5 + 1) (lv2 := [(5, .int (w5 + 1)), (4, .int (w4 + 1)), (0, .ref (ax x 30)), (1, .int w1), (2, .int w2), (3, .int w3)]) 5 rfl (by rw [(by decide : Int32.ofInt 1 = 1)]) (by decide) rfl dX5_astray_182 ?_
        refine g_goto C 153 (by decide) dX5_astray_185 ?_
        refine g_sub [2, 3, 4, 5, 1, 0] rfl ?_
        exact ih (w4 + 1) (w5 + 1) hf
set_option maxHeartbeats 4000000 in
set_option maxRecDepth 100000 in
theorem lp_X5_astray_9 {κ : Kx} {x : Ad} (C : Cx κ x cX5_astray RX5 kX5_astray rmX5_astray 6) (S : Mem) {z : Int32 × Mem} (hr : RI κ x cX5_astray (cM x z.2) z.1) (g : Nat)  : ∀ (n : Nat) (w1 : Int32) (w2 : Int32), f_X5_astray_9 g S n w1 w2 = some z → GG κ x (cM x S) 9 [(0, .ref (ax x 30)), (1, .int w1), (2, .int w2)] [] := by
  intro n
  induction n with
  | zero => intro w1 w2 hf; cases hf
  | succ n ih =>
    intro w1 w2 hf
    rw [f_X5_astray_9] at hf
    refine g_iload_n C 2 rfl rfl dX5_astray_9 ?_
    refine g_bipush C (v := 40) (by decide) dX5_astray_10 ?_
    refine g_icmp_ge C 212 (by decide) dX5_astray_12 (fun h1 => ?_) (fun h1 => ?_)
    · rw [if_pos h1] at hf
      refine g_iload_n C 1 rfl rfl dX5_astray_212 ?_
      obtain rfl := Option.some.inj hf
      exact g_iret hr dX5_astray_213
    · rw [if_neg h1] at hf
      refine g_iconst C (v := 1) (by decide) dX5_astray_15 ?_
      refine g_istore_n C (lv2 := [(3, .int 1), (0, .ref (ax x 30)), (1, .int w1), (2, .int w2)]) rfl (by decide) rfl dX5_astray_16 ?_
      refine g_aload_n C 1 rfl rfl dX5_astray_17 ?_
      refine rF_X5_7 C dX5_astray_18 ?_
      refine g_iload_n C 3 rfl rfl dX5_astray_21 ?_
      obtain ⟨h2, hf⟩ := gd_some hf
      refine rL_1 C h2 dX5_astray_22 ?_
      refine g_iconst C (v := 1) (by decide) dX5_astray_23 ?_
      refine jn1_elim (fun (t3 : Int32) => GG κ x (cM x S) 32 [(0, .ref (ax x 30)), (1, .int w1), (2, .int w2), (3, .int 1)] [.int t3]) hf (fun t3 hf => ?_) (fun j4 hj4 hf => ?_)
      · show GG κ x (cM x S) 32 [(0, .ref (ax x 30)), (1, .int w1), (2, .int w2), (3, .int 1)] [.int t3]
        refine g_istore C (lv2 := [(4, .int t3), (0, .ref (ax x 30)), (1, .int w1), (2, .int w2), (3, .int 1)]) (by decide) rfl dX5_astray_32 ?_
        refine g_sub [1, 2, 3, 4, 0] rfl ?_
        refine lp_X5_astray_34 C S hr g w1 w2 _ (fun v11 hf => ?_) g 1 t3 hf
        refine g_iconst C (v := 0) (by decide) dX5_astray_88 ?_
        refine g_istore C (lv2 := [(4, .int 0), (0, .ref (ax x 30)), (1, .int w1), (2, .int w2), (3, .int v11)]) (by decide) rfl dX5_astray_89 ?_
        refine g_sub [1, 2, 3, 4, 0] rfl ?_
        refine lp_X5_astray_91 C S hr g w1 w2 _ (fun v20 hf => ?_) g v11 0 hf
        refine g_iconst C (v := 0) (by decide) dX5_astray_147 ?_
        refine g_istore C (lv2 := [(4, .int 0), (0, .ref (ax x 30)), (1, .int w1), (2, .int w2), (3, .int v20)]) (by decide) rfl dX5_astray_148 ?_
        refine g_iconst C (v := 0) (by decide) dX5_astray_150 ?_
        refine g_istore C (lv2 := [(5, .int 0), (4, .int 0), (0, .ref (ax x 30)), (1, .int w1), (2, .int w2), (3, .int v20)]) (by decide) rfl dX5_astray_151 ?_
        refine g_sub [2, 3, 4, 5, 1, 0] rfl ?_
        refine lp_X5_astray_153 C S hr g w1 w2 v20 _ (fun v24 hf => ?_) g 0 0 hf
        refine g_iload_n C 3 rfl rfl dX5_astray_188 ?_
        refine jn0_elim (GG κ x (cM x S) 202 [(0, .ref (ax x 30)), (1, .int w1), (2, .int w2)] []) hf (fun hf => ?_) (fun j25 hj25 hf => ?_)
        · show GG κ x (cM x S) 202 [(0, .ref (ax x 30)), (1, .int w1), (2, .int w2)] []
          refine g_iload_n C 1 rfl rfl dX5_astray_202 ?_
          refine g_iconst C (v := 1) (by decide) dX5_astray_203 ?_
          refine g_iadd C dX5_astray_204 ?_
          refine g_istore_n C (lv2 := [(1, .int (w1 + 1)), (0, .ref (ax x 30)), (2, .int w2)]) rfl (by decide) rfl dX5_astray_205 ?_
          refine g_iinc C (v := w2 + 1) (lv2 := [(2, .int (w2 + 1)), (1, .int (w1 + 1)), (0, .ref (ax x 30))]) 2 rfl (by rw [(by decide : Int32.ofInt 1 = 1)]) (by decide) rfl dX5_astray_206 ?_
          refine g_goto C 9 (by decide) dX5_astray_209 ?_
          refine g_sub [2, 1, 0] rfl ?_
          exact ih (w1 + 1) (w2 + 1) hf
        · skip
          refine g_if_eq C 202 (by decide) dX5_astray_189 (fun h26 => ?_) (fun h26 => ?_)
          · rw [if_pos h26] at hf
            refine g_sub [0, 1, 2] rfl ?_
            exact hj25 hf
          · rw [if_neg h26] at hf
            refine g_iload C 4 rfl dX5_astray_192 ?_
            refine g_iconst C (v := 2) (by decide) dX5_astray_194 ?_
            refine g_icmp_ge C 202 (by decide) dX5_astray_195 (fun h27 => ?_) (fun h27 => ?_)
            · rw [if_pos h27] at hf
              refine g_sub [0, 1, 2] rfl ?_
              exact hj25 hf
            · rw [if_neg h27] at hf
              refine g_iload_n C 1 rfl rfl dX5_astray_198 ?_
              refine g_goto C 205 (by decide) dX5_astray_199 ?_
              refine g_istore_n C (lv2 := [(1, .int w1), (0, .ref (ax x 30)), (2, .int w2), (3, .int v20), (4, .int v24)]) rfl (by decide) rfl dX5_astray_205 ?_
              refine g_iinc C (v := w2 + 1) (lv2 := [(2, .int (w2 + 1)), (1, .int w1), (0, .ref (ax x 30)), (3, .int v20), (4, .int v24)]) 2 rfl (by rw [(by decide : Int32.ofInt 1 = 1)]) (by decide) rfl dX5_astray_206 ?_
              refine g_goto C 9 (by decide) dX5_astray_209 ?_
              refine g_sub [2, 1, 0] rfl ?_
              exact ih w1 (w2 + 1) hf
      · skip
        refine g_icmp_ne C 31 (by decide) dX5_astray_24 (fun h28 => ?_) (fun h28 => ?_)
        · rw [if_neg h28] at hf
          refine g_iconst C (v := 2) (by decide) dX5_astray_31 ?_
          refine g_sub [1, 2, 3, 0] rfl ?_
          exact hj4 2 hf
        · rw [if_pos h28] at hf
          refine g_iconst C (v := 1) (by decide) dX5_astray_27 ?_
          refine g_goto C 32 (by decide) dX5_astray_28 ?_
          refine g_sub [1, 2, 3, 0] rfl ?_
          exact hj4 1 hf
set_option maxHeartbeats 4000000 in
set_option maxRecDepth 100000 in
theorem c_X5_astray {l : Launch} {x : Ad} (g : Nat) (S : Mem) {z : Int32 × Mem} (hf : f_X5_astray g S = some z) : MI l x yX5_astray kX5_astray rmX5_astray [.ref (ax x 30)] (cM x S) z.1 (cM x z.2) := by
  refine met_I RX5 (by decide +kernel) rfl (Nat.le_of_ble_eq_true rfl) [(0, .ref (ax x 30))] rfl ?_
  intro κ hl C hr
  subst hl
  rw [f_X5_astray] at hf
  refine g_aload_n C 0 rfl rfl dX5_astray_0 ?_
  refine g_iconst C (v := 0) (by decide) dX5_astray_1 ?_
  refine rP_X5_44 C dX5_astray_2 ?_
  refine g_iconst C (v := 0) (by decide) dX5_astray_5 ?_
  refine g_istore_n C (lv2 := [(1, .int 0), (0, .ref (ax x 30))]) rfl (by decide) rfl dX5_astray_6 ?_
  refine g_iconst C (v := 0) (by decide) dX5_astray_7 ?_
  refine g_istore_n C (lv2 := [(2, .int 0), (1, .int 0), (0, .ref (ax x 30))]) rfl (by decide) rfl dX5_astray_8 ?_
  refine g_sub [2, 1, 0] rfl ?_
  exact lp_X5_astray_9 C (up S 0 0 0) hr g g 0 0 hf
