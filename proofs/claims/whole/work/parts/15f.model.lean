def f_X5_flush_9 (g : Nat)  (kx : Mem → Int32 → Option (Int32 × Mem)) : Nat → Mem → Int32 → Int32 → Option (Int32 × Mem)
  | 0, _, _, _ => none
  | n + 1, S, w1, w2 => if 12 ≤ w2 then (kx S w1) else (gd (ix_in w2 12) (jn1 (fun (t3 : Int32) => gd (ix_in w2 12) (f_X5_flush_9 g kx n (up S 10 w2.toNatClampNeg 0) t3 (w2 + 1))) (fun j4 => if (S.1 10 w2.toNatClampNeg) = 0 then (j4 w1) else (j4 (w1 + 1)))))
def f_X5_flush (g : Nat) (S : Mem) : Option (Int32 × Mem) := f_X5_flush_9 g (fun (S7 : Mem) (v8 : Int32) => some (v8, (up S7 0 18 ((S7.1 0 18) + v8)))) g (up S 0 0 0) 0 0
abbrev rmX5_flush : Room := { frames := 0, cells := 0, slots := 0, locals := 0 }
set_option maxHeartbeats 4000000 in
set_option maxRecDepth 100000 in
theorem lp_X5_flush_9 {κ : Kx} {x : Ad} (C : Cx κ x cX5_flush RX5 kX5_flush rmX5_flush 3) {z : Int32 × Mem} (hr : RI κ x cX5_flush (cM x z.2) z.1) (g : Nat)  (kx : Mem → Int32 → Option (Int32 × Mem)) (hk : ∀ (S1 : Mem) (u1 : Int32), kx S1 u1 = some z → GG κ x (cM x S1) 45 [(0, .ref (ax x 30)), (1, .int u1)] []) : ∀ (n : Nat) (S : Mem) (w1 : Int32) (w2 : Int32), f_X5_flush_9 g kx n S w1 w2 = some z → GG κ x (cM x S) 9 [(0, .ref (ax x 30)), (1, .int w1), (2, .int w2)] [] := by
  intro n
  induction n with
  | zero => intro S w1 w2 hf; cases hf
  | succ n ih =>
    intro S w1 w2 hf
    rw [f_X5_flush_9] at hf
    refine g_iload_n C 2 rfl rfl dX5_flush_9 ?_
    refine g_bipush C (v := 12) (by decide) dX5_flush_10 ?_
    refine g_icmp_ge C 45 (by decide) dX5_flush_12 (fun h1 => ?_) (fun h1 => ?_)
    · rw [if_pos h1] at hf
      refine g_sub [0, 1] rfl ?_
      exact hk S w1 hf
    · rw [if_neg h1] at hf
      refine g_aload_n C 0 rfl rfl dX5_flush_15 ?_
      refine rF_X5_38 C dX5_flush_16 ?_
      refine g_iload_n C 2 rfl rfl dX5_flush_19 ?_
      obtain ⟨h2, hf⟩ := gd_some hf
      refine rL_10 C h2 dX5_flush_20 ?_
      refine jn1_elim (fun (t3 : Int32) => GG κ x (cM x S) 31 [(0, .ref (ax x 30)), (2, .int w2)] [.int t3]) hf (fun t3 hf => ?_) (fun j4 hj4 hf => ?_)
      · show GG κ x (cM x S) 31 [(0, .ref (ax x 30)), (2, .int w2)] [.int t3]
        refine g_istore_n C (lv2 := [(1, .int t3), (0, .ref (ax x 30)), (2, .int w2)]) rfl (by decide) rfl dX5_flush_31 ?_
        refine g_aload_n C 1 rfl rfl dX5_flush_32 ?_
        refine rF_X5_38 C dX5_flush_33 ?_
        refine g_iload_n C 2 rfl rfl dX5_flush_36 ?_
        refine g_iconst C (v := 0) (by decide) dX5_flush_37 ?_
        obtain ⟨h5, hf⟩ := gd_some hf
        refine rS_10 C h5 (by decide) dX5_flush_38 ?_
        refine g_iinc C (v := w2 + 1) (lv2 := [(2, .int (w2 + 1)), (1, .int t3), (0, .ref (ax x 30))]) 2 rfl (by rw [(by decide : Int32.ofInt 1 = 1)]) (by decide) rfl dX5_flush_39 ?_
        refine g_goto C 9 (by decide) dX5_flush_42 ?_
        refine g_sub [2, 1, 0] rfl ?_
        exact ih (up S 10 w2.toNatClampNeg 0) t3 (w2 + 1) hf
      · skip
        refine g_if_eq C 30 (by decide) dX5_flush_21 (fun h6 => ?_) (fun h6 => ?_)
        · rw [if_pos h6] at hf
          refine g_iload_n C 1 rfl rfl dX5_flush_30 ?_
          refine g_sub [0, 2] rfl ?_
          exact hj4 w1 hf
        · rw [if_neg h6] at hf
          refine g_iload_n C 1 rfl rfl dX5_flush_24 ?_
          refine g_iconst C (v := 1) (by decide) dX5_flush_25 ?_
          refine g_iadd C dX5_flush_26 ?_
          refine g_goto C 31 (by decide) dX5_flush_27 ?_
          refine g_sub [0, 2] rfl ?_
          exact hj4 (w1 + 1) hf
set_option maxHeartbeats 4000000 in
set_option maxRecDepth 100000 in
theorem c_X5_flush {l : Launch} {x : Ad} (g : Nat) (S : Mem) {z : Int32 × Mem} (hf : f_X5_flush g S = some z) : MI l x yX5_flush kX5_flush rmX5_flush [.ref (ax x 30)] (cM x S) z.1 (cM x z.2) := by
  refine met_I RX5 (by decide +kernel) rfl (Nat.le_of_ble_eq_true rfl) [(0, .ref (ax x 30))] rfl ?_
  intro κ hl C hr
  subst hl
  rw [f_X5_flush] at hf
  refine g_aload_n C 0 rfl rfl dX5_flush_0 ?_
  refine g_iconst C (v := 0) (by decide) dX5_flush_1 ?_
  refine rP_X5_44 C dX5_flush_2 ?_
  refine g_iconst C (v := 0) (by decide) dX5_flush_5 ?_
  refine g_istore_n C (lv2 := [(1, .int 0), (0, .ref (ax x 30))]) rfl (by decide) rfl dX5_flush_6 ?_
  refine g_iconst C (v := 0) (by decide) dX5_flush_7 ?_
  refine g_istore_n C (lv2 := [(2, .int 0), (1, .int 0), (0, .ref (ax x 30))]) rfl (by decide) rfl dX5_flush_8 ?_
  refine g_sub [2, 1, 0] rfl ?_
  refine lp_X5_flush_9 C hr g _ (fun S7 v8 hf => ?_) g (up S 0 0 0) 0 0 hf
  refine g_aload_n C 0 rfl rfl dX5_flush_45 ?_
  refine g_dup C rfl dX5_flush_46 ?_
  refine rF_X5_54 C dX5_flush_47 ?_
  refine g_iload_n C 1 rfl rfl dX5_flush_50 ?_
  refine g_iadd C dX5_flush_51 ?_
  refine rP_X5_54 C dX5_flush_52 ?_
  refine g_iload_n C 1 rfl rfl dX5_flush_55 ?_
  obtain rfl := Option.some.inj hf
  exact g_iret hr dX5_flush_56
def f_X5_drop_9 (g : Nat)  (kx : Mem → Int32 → Option (Int32 × Mem)) : Nat → Mem → Int32 → Int32 → Option (Int32 × Mem)
  | 0, _, _, _ => none
  | n + 1, S, w1, w2 => if 12 ≤ w2 then (kx S w1) else (gd (ix_in w2 12) (jn1 (fun (t3 : Int32) => gd (ix_in w2 12) (if ((up S 0 0 t3).1 8 w2.toNatClampNeg) = ((-1)) then (f_X5_drop_9 g kx n (up S 0 0 t3) w1 (w2 + 1)) else (f_X5_drop_9 g kx n (up S 0 0 t3) (w1 + 1) (w2 + 1)))) (fun j4 => if (S.1 10 w2.toNatClampNeg) = 0 then (j4 (S.1 0 0)) else (j4 1))))
def f_X5_drop_71 (g : Nat) (w1 : Int32) (kx : Mem → Option (Int32 × Mem)) : Nat → Mem → Int32 → Option (Int32 × Mem)
  | 0, _, _ => none
  | n + 1, S, w2 => if 12 ≤ w2 then (kx S) else (gd (ix_in w2 12) (gd (ix_in w2 12) (f_X5_drop_71 g w1 kx n (up (up S 8 w2.toNatClampNeg ((-1))) 9 w2.toNatClampNeg 0) (w2 + 1))))
def f_X5_drop (g : Nat) (S : Mem) : Option (Int32 × Mem) := f_X5_drop_9 g (fun (S8 : Mem) (v9 : Int32) => if (S8.1 0 0) ≤ 0 then (f_X5_drop_71 g v9 (fun (S14 : Mem) => some (v9, (up (up S14 0 15 0) 0 19 0))) g S8 0) else (some (0, S8))) g (up S 0 0 0) 0 0
abbrev rmX5_drop : Room := { frames := 0, cells := 0, slots := 0, locals := 0 }
set_option maxHeartbeats 4000000 in
set_option maxRecDepth 100000 in
theorem lp_X5_drop_9 {κ : Kx} {x : Ad} (C : Cx κ x cX5_drop RX5 kX5_drop rmX5_drop 3) {z : Int32 × Mem} (hr : RI κ x cX5_drop (cM x z.2) z.1) (g : Nat)  (kx : Mem → Int32 → Option (Int32 × Mem)) (hk : ∀ (S1 : Mem) (u1 : Int32), kx S1 u1 = some z → GG κ x (cM x S1) 60 [(0, .ref (ax x 30)), (1, .int u1)] []) : ∀ (n : Nat) (S : Mem) (w1 : Int32) (w2 : Int32), f_X5_drop_9 g kx n S w1 w2 = some z → GG κ x (cM x S) 9 [(0, .ref (ax x 30)), (1, .int w1), (2, .int w2)] [] := by
  intro n
  induction n with
  | zero => intro S w1 w2 hf; cases hf
  | succ n ih =>
    intro S w1 w2 hf
    rw [f_X5_drop_9] at hf
    refine g_iload_n C 2 rfl rfl dX5_drop_9 ?_
    refine g_bipush C (v := 12) (by decide) dX5_drop_10 ?_
    refine g_icmp_ge C 60 (by decide) dX5_drop_12 (fun h1 => ?_) (fun h1 => ?_)
    · rw [if_pos h1] at hf
      refine g_sub [0, 1] rfl ?_
      exact hk S w1 hf
    · rw [if_neg h1] at hf
      refine g_aload_n C 0 rfl rfl dX5_drop_15 ?_
      refine g_aload_n C 0 rfl rfl dX5_drop_16 ?_
      refine rF_X5_38 C dX5_drop_17 ?_
      refine g_iload_n C 2 rfl rfl dX5_drop_20 ?_
      obtain ⟨h2, hf⟩ := gd_some hf
      refine rL_10 C h2 dX5_drop_21 ?_
      refine jn1_elim (fun (t3 : Int32) => GG κ x (cM x S) 33 [(0, .ref (ax x 30)), (1, .int w1), (2, .int w2)] [.int t3, .ref (ax x 30)]) hf (fun t3 hf => ?_) (fun j4 hj4 hf => ?_)
      · show GG κ x (cM x S) 33 [(0, .ref (ax x 30)), (1, .int w1), (2, .int w2)] [.int t3, .ref (ax x 30)]
        refine rP_X5_44 C dX5_drop_33 ?_
        refine g_aload_n C 0 rfl rfl dX5_drop_36 ?_
        refine rF_X5_31 C dX5_drop_37 ?_
        refine g_iload_n C 2 rfl rfl dX5_drop_40 ?_
        obtain ⟨h5, hf⟩ := gd_some hf
        refine rL_8 C h5 dX5_drop_41 ?_
        refine g_iconst C (v := (-1)) (by decide) dX5_drop_42 ?_
        refine g_icmp_eq C 52 (by decide) dX5_drop_43 (fun h6 => ?_) (fun h6 => ?_)
        · rw [if_pos h6] at hf
          refine g_iload_n C 1 rfl rfl dX5_drop_52 ?_
          refine g_istore_n C (lv2 := [(1, .int w1), (0, .ref (ax x 30)), (2, .int w2)]) rfl (by decide) rfl dX5_drop_53 ?_
          refine g_iinc C (v := w2 + 1) (lv2 := [(2, .int (w2 + 1)), (1, .int w1), (0, .ref (ax x 30))]) 2 rfl (by rw [(by decide : Int32.ofInt 1 = 1)]) (by decide) rfl dX5_drop_54 ?_
          refine g_goto C 9 (by decide) dX5_drop_57 ?_
          refine g_sub [2, 1, 0] rfl ?_
          exact ih (up S 0 0 t3) w1 (w2 + 1) hf
        · rw [if_neg h6] at hf
          refine g_iload_n C 1 rfl rfl dX5_drop_46 ?_
          refine g_iconst C (v := 1) (by decide) dX5_drop_47 ?_
          refine g_iadd C dX5_drop_48 ?_
          refine g_goto C 53 (by decide) dX5_drop_49 ?_
          refine g_istore_n C (lv2 := [(1, .int (w1 + 1)), (0, .ref (ax x 30)), (2, .int w2)]) rfl (by decide) rfl dX5_drop_53 ?_
          refine g_iinc C (v := w2 + 1) (lv2 := [(2, .int (w2 + 1)), (1, .int (w1 + 1)), (0, .ref (ax x 30))]) 2 rfl (by rw [(by decide : Int32.ofInt 1 = 1)]) (by decide) rfl dX5_drop_54 ?_
          refine g_goto C 9 (by decide) dX5_drop_57 ?_
          refine g_sub [2, 1, 0] rfl ?_
          exact ih (up S 0 0 t3) (w1 + 1) (w2 + 1) hf
      · skip
        refine g_if_eq C 29 (by decide) dX5_drop_22 (fun h7 => ?_) (fun h7 => ?_)
        · rw [if_pos h7] at hf
          refine g_aload_n C 0 rfl rfl dX5_drop_29 ?_
          refine rF_X5_44 C dX5_drop_30 ?_
          refine g_sub [0, 1, 2] rfl ?_
          exact hj4 (S.1 0 0) hf
        · rw [if_neg h7] at hf
          refine g_iconst C (v := 1) (by decide) dX5_drop_25 ?_
          refine g_goto C 33 (by decide) dX5_drop_26 ?_
          refine g_sub [0, 1, 2] rfl ?_
          exact hj4 1 hf
set_option maxHeartbeats 4000000 in
set_option maxRecDepth 100000 in
theorem lp_X5_drop_71 {κ : Kx} {x : Ad} (C : Cx κ x cX5_drop RX5 kX5_drop rmX5_drop 3) {z : Int32 × Mem} (hr : RI κ x cX5_drop (cM x z.2) z.1) (g : Nat) (w1 : Int32) (kx : Mem → Option (Int32 × Mem)) (hk : ∀ (S1 : Mem), kx S1 = some z → GG κ x (cM x S1) 97 [(0, .ref (ax x 30)), (1, .int w1)] []) : ∀ (n : Nat) (S : Mem) (w2 : Int32), f_X5_drop_71 g w1 kx n S w2 = some z → GG κ x (cM x S) 71 [(0, .ref (ax x 30)), (1, .int w1), (2, .int w2)] [] := by
  intro n
  induction n with
  | zero => intro S w2 hf; cases hf
  | succ n ih =>
    intro S w2 hf
    rw [f_X5_drop_71] at hf
    refine g_iload_n C 2 rfl rfl dX5_drop_71 ?_
    refine g_bipush C (v := 12) (by decide) dX5_drop_72 ?_
    refine g_icmp_ge C 97 (by decide) dX5_drop_74 (fun h11 => ?_) (fun h11 => ?_)
    · rw [if_pos h11] at hf
      refine g_sub [0, 1] rfl ?_
      exact hk S hf
    · rw [if_neg h11] at hf
      refine g_aload_n C 0 rfl rfl dX5_drop_77 ?_
      refine rF_X5_31 C dX5_drop_78 ?_
      refine g_iload_n C 2 rfl rfl dX5_drop_81 ?_
      refine g_iconst C (v := (-1)) (by decide) dX5_drop_82 ?_
      obtain ⟨h12, hf⟩ := gd_some hf
      refine rS_8 C h12 dX5_drop_83 ?_
      refine g_aload_n C 0 rfl rfl dX5_drop_84 ?_
      refine rF_X5_34 C dX5_drop_85 ?_
      refine g_iload_n C 2 rfl rfl dX5_drop_88 ?_
      refine g_iconst C (v := 0) (by decide) dX5_drop_89 ?_
      obtain ⟨h13, hf⟩ := gd_some hf
      refine rS_9 C h13 (by decide) dX5_drop_90 ?_
      refine g_iinc C (v := w2 + 1) (lv2 := [(2, .int (w2 + 1)), (0, .ref (ax x 30)), (1, .int w1)]) 2 rfl (by rw [(by decide : Int32.ofInt 1 = 1)]) (by decide) rfl dX5_drop_91 ?_
      refine g_goto C 71 (by decide) dX5_drop_94 ?_
      refine g_sub [1, 2, 0] rfl ?_
      exact ih (up (up S 8 w2.toNatClampNeg ((-1))) 9 w2.toNatClampNeg 0) (w2 + 1) hf
set_option maxHeartbeats 4000000 in
set_option maxRecDepth 100000 in
theorem c_X5_drop {l : Launch} {x : Ad} (g : Nat) (S : Mem) {z : Int32 × Mem} (hf : f_X5_drop g S = some z) : MI l x yX5_drop kX5_drop rmX5_drop [.ref (ax x 30)] (cM x S) z.1 (cM x z.2) := by
  refine met_I RX5 (by decide +kernel) rfl (Nat.le_of_ble_eq_true rfl) [(0, .ref (ax x 30))] rfl ?_
  intro κ hl C hr
  subst hl
  rw [f_X5_drop] at hf
  refine g_aload_n C 0 rfl rfl dX5_drop_0 ?_
  refine g_iconst C (v := 0) (by decide) dX5_drop_1 ?_
  refine rP_X5_44 C dX5_drop_2 ?_
  refine g_iconst C (v := 0) (by decide) dX5_drop_5 ?_
  refine g_istore_n C (lv2 := [(1, .int 0), (0, .ref (ax x 30))]) rfl (by decide) rfl dX5_drop_6 ?_
  refine g_iconst C (v := 0) (by decide) dX5_drop_7 ?_
  refine g_istore_n C (lv2 := [(2, .int 0), (1, .int 0), (0, .ref (ax x 30))]) rfl (by decide) rfl dX5_drop_8 ?_
  refine g_sub [2, 1, 0] rfl ?_
  refine lp_X5_drop_9 C hr g _ (fun S8 v9 hf => ?_) g (up S 0 0 0) 0 0 hf
  refine g_aload_n C 0 rfl rfl dX5_drop_60 ?_
  refine rF_X5_44 C dX5_drop_61 ?_
  refine g_if_le C 69 (by decide) dX5_drop_64 (fun h10 => ?_) (fun h10 => ?_)
  · rw [if_pos h10] at hf
    refine g_iconst C (v := 0) (by decide) dX5_drop_69 ?_
    refine g_istore_n C (lv2 := [(2, .int 0), (0, .ref (ax x 30)), (1, .int v9)]) rfl (by decide) rfl dX5_drop_70 ?_
    refine g_sub [1, 2, 0] rfl ?_
    refine lp_X5_drop_71 C hr g v9 _ (fun S14 hf => ?_) g S8 0 hf
    refine g_aload_n C 0 rfl rfl dX5_drop_97 ?_
    refine g_iconst C (v := 0) (by decide) dX5_drop_98 ?_
    refine rP_X5_48 C dX5_drop_99 ?_
    refine g_aload_n C 0 rfl rfl dX5_drop_102 ?_
    refine g_iconst C (v := 0) (by decide) dX5_drop_103 ?_
    refine rP_X5_108 C (Or.inl rfl) dX5_drop_104 ?_
    refine g_iload_n C 1 rfl rfl dX5_drop_107 ?_
    obtain rfl := Option.some.inj hf
    exact g_iret hr dX5_drop_108
  · rw [if_neg h10] at hf
    refine g_iconst C (v := 0) (by decide) dX5_drop_67 ?_
    obtain rfl := Option.some.inj hf
    exact g_iret hr dX5_drop_68
def f_X5_page (g : Nat) (S : Mem) (a1 : Int32) (a2 : Int32) : Option (Int32 × Mem) := jn1 (fun (t1 : Int32) => if ((up S 0 0 t1).1 0 0) ≤ 0 then (if a2 = 0 then (gd (ix_in a1 40) (some ((up S 0 0 t1).1 1 a1.toNatClampNeg, (up S 0 0 t1)))) else (if a2 = 1 then (gd (ix_in a1 40) (some ((up S 0 0 t1).1 2 a1.toNatClampNeg, (up S 0 0 t1)))) else (gd (ix_in a1 40) (some ((up S 0 0 t1).1 5 a1.toNatClampNeg, (up S 0 0 t1)))))) else (some (0, (up S 0 0 t1)))) (fun j2 => jn0 (j2 1) (fun j9 => if a1 < 0 then (j9) else (if a1 < 40 then (jn0 (j2 2) (fun j12 => if a2 < 0 then (j12) else (if a2 ≤ 2 then (j2 0) else (j12)))) else (j9))))
abbrev rmX5_page : Room := { frames := 0, cells := 0, slots := 0, locals := 0 }
set_option maxHeartbeats 4000000 in
set_option maxRecDepth 100000 in
theorem c_X5_page {l : Launch} {x : Ad} (g : Nat) (S : Mem) (a1 : Int32) (a2 : Int32) {z : Int32 × Mem} (hf : f_X5_page g S a1 a2 = some z) : MI l x yX5_page kX5_page rmX5_page [.ref (ax x 30), .int a1, .int a2] (cM x S) z.1 (cM x z.2) := by
  refine met_I RX5 (by decide +kernel) rfl (Nat.le_of_ble_eq_true rfl) [(0, .ref (ax x 30)), (1, .int a1), (2, .int a2)] rfl ?_
  intro κ hl C hr
  subst hl
  rw [f_X5_page] at hf
  refine g_aload_n C 0 rfl rfl dX5_page_0 ?_
  refine g_iload_n C 1 rfl rfl dX5_page_1 ?_
  refine jn1_elim (fun (t1 : Int32) => GG κ x (cM x S) 29 [(0, .ref (ax x 30)), (1, .int a1), (2, .int a2)] [.int t1, .ref (ax x 30)]) hf (fun t1 hf => ?_) (fun j2 hj2 hf => ?_)
  · show GG κ x (cM x S) 29 [(0, .ref (ax x 30)), (1, .int a1), (2, .int a2)] [.int t1, .ref (ax x 30)]
    refine rP_X5_44 C dX5_page_29 ?_
    refine g_aload_n C 0 rfl rfl dX5_page_32 ?_
    refine rF_X5_44 C dX5_page_33 ?_
    refine g_if_le C 43 (by decide) dX5_page_36 (fun h3 => ?_) (fun h3 => ?_)
    · rw [if_pos h3] at hf
      refine g_iload_n C 2 rfl rfl dX5_page_43 ?_
      refine g_if_ne C 56 (by decide) dX5_page_44 (fun h4 => ?_) (fun h4 => ?_)
      · rw [if_neg h4] at hf
        refine g_iload_n C 2 rfl rfl dX5_page_56 ?_
        refine g_iconst C (v := 1) (by decide) dX5_page_57 ?_
        refine g_icmp_ne C 70 (by decide) dX5_page_58 (fun h5 => ?_) (fun h5 => ?_)
        · rw [if_neg h5] at hf
          refine g_aload_n C 0 rfl rfl dX5_page_70 ?_
          refine rF_X5_22 C dX5_page_71 ?_
          refine g_iload_n C 1 rfl rfl dX5_page_74 ?_
          obtain ⟨h6, hf⟩ := gd_some hf
          refine rL_5 C h6 dX5_page_75 ?_
          obtain rfl := Option.some.inj hf
          exact g_iret hr dX5_page_76
        · rw [if_pos h5] at hf
          refine g_aload_n C 0 rfl rfl dX5_page_61 ?_
          refine rF_X5_13 C dX5_page_62 ?_
          refine g_iload_n C 1 rfl rfl dX5_page_65 ?_
          obtain ⟨h7, hf⟩ := gd_some hf
          refine rL_2 C h7 dX5_page_66 ?_
          refine g_goto C 76 (by decide) dX5_page_67 ?_
          obtain rfl := Option.some.inj hf
          exact g_iret hr dX5_page_76
      · rw [if_pos h4] at hf
        refine g_aload_n C 0 rfl rfl dX5_page_47 ?_
        refine rF_X5_7 C dX5_page_48 ?_
        refine g_iload_n C 1 rfl rfl dX5_page_51 ?_
        obtain ⟨h8, hf⟩ := gd_some hf
        refine rL_1 C h8 dX5_page_52 ?_
        refine g_goto C 76 (by decide) dX5_page_53 ?_
        obtain rfl := Option.some.inj hf
        exact g_iret hr dX5_page_76
    · rw [if_neg h3] at hf
      refine g_iconst C (v := 0) (by decide) dX5_page_39 ?_
      refine g_goto C 76 (by decide) dX5_page_40 ?_
      obtain rfl := Option.some.inj hf
      exact g_iret hr dX5_page_76
  · skip
    refine jn0_elim (GG κ x (cM x S) 11 [(0, .ref (ax x 30)), (1, .int a1), (2, .int a2)] [.ref (ax x 30)]) hf (fun hf => ?_) (fun j9 hj9 hf => ?_)
    · show GG κ x (cM x S) 11 [(0, .ref (ax x 30)), (1, .int a1), (2, .int a2)] [.ref (ax x 30)]
      refine g_iconst C (v := 1) (by decide) dX5_page_11 ?_
      refine g_goto C 29 (by decide) dX5_page_12 ?_
      refine g_sub [0, 1, 2] rfl ?_
      exact hj2 1 hf
    · skip
      refine g_if_lt C 11 (by decide) dX5_page_2 (fun h10 => ?_) (fun h10 => ?_)
      · rw [if_pos h10] at hf
        refine g_sub [0, 1, 2] rfl ?_
        exact hj9 hf
      · rw [if_neg h10] at hf
        refine g_iload_n C 1 rfl rfl dX5_page_5 ?_
        refine g_bipush C (v := 40) (by decide) dX5_page_6 ?_
        refine g_icmp_lt C 15 (by decide) dX5_page_8 (fun h11 => ?_) (fun h11 => ?_)
        · rw [if_pos h11] at hf
          refine g_iload_n C 2 rfl rfl dX5_page_15 ?_
          refine jn0_elim (GG κ x (cM x S) 24 [(0, .ref (ax x 30)), (1, .int a1), (2, .int a2)] [.ref (ax x 30)]) hf (fun hf => ?_) (fun j12 hj12 hf => ?_)
          · show GG κ x (cM x S) 24 [(0, .ref (ax x 30)), (1, .int a1), (2, .int a2)] [.ref (ax x 30)]
            refine g_iconst C (v := 2) (by decide) dX5_page_24 ?_
            refine g_goto C 29 (by decide) dX5_page_25 ?_
            refine g_sub [0, 1, 2] rfl ?_
            exact hj2 2 hf
          · skip
            refine g_if_lt C 24 (by decide) dX5_page_16 (fun h13 => ?_) (fun h13 => ?_)
            · rw [if_pos h13] at hf
              refine g_sub [0, 1, 2] rfl ?_
              exact hj12 hf
            · rw [if_neg h13] at hf
              refine g_iload_n C 2 rfl rfl dX5_page_19 ?_
              refine g_iconst C (v := 2) (by decide) dX5_page_20 ?_
              refine g_icmp_le C 28 (by decide) dX5_page_21 (fun h14 => ?_) (fun h14 => ?_)
              · rw [if_pos h14] at hf
                refine g_iconst C (v := 0) (by decide) dX5_page_28 ?_
                refine g_sub [0, 1, 2] rfl ?_
                exact hj2 0 hf
              · rw [if_neg h14] at hf
                refine g_sub [0, 1, 2] rfl ?_
                exact hj12 hf
        · rw [if_neg h11] at hf
          refine g_sub [0, 1, 2] rfl ?_
          exact hj9 hf
def f_X5_item (g : Nat) (S : Mem) (a1 : Int32) (a2 : Int32) (a3 : Int32) : Option (Int32 × Mem) := jn1 (fun (t1 : Int32) => if ((up S 0 0 t1).1 0 0) ≤ 0 then (if a3 = 0 then (gd (ix_in ((5 * a1) + a2) 200) (some ((up S 0 0 t1).1 3 ((5 * a1) + a2).toNatClampNeg, (up S 0 0 t1)))) else (gd (ix_in ((5 * a1) + a2) 200) (some ((up S 0 0 t1).1 4 ((5 * a1) + a2).toNatClampNeg, (up S 0 0 t1))))) else (some (0, (up S 0 0 t1)))) (fun j2 => jn0 (j2 1) (fun j7 => if a1 < 0 then (j7) else (if 40 ≤ a1 then (j7) else (if a2 < 0 then (j7) else (gd (ix_in a1 40) (if a2 < (S.1 2 a1.toNatClampNeg) then (j2 0) else (j7)))))))
abbrev rmX5_item : Room := { frames := 0, cells := 0, slots := 0, locals := 0 }
set_option maxHeartbeats 4000000 in
set_option maxRecDepth 100000 in
theorem c_X5_item {l : Launch} {x : Ad} (g : Nat) (S : Mem) (a1 : Int32) (a2 : Int32) (a3 : Int32) {z : Int32 × Mem} (hf : f_X5_item g S a1 a2 a3 = some z) : MI l x yX5_item kX5_item rmX5_item [.ref (ax x 30), .int a1, .int a2, .int a3] (cM x S) z.1 (cM x z.2) := by
  refine met_I RX5 (by decide +kernel) rfl (Nat.le_of_ble_eq_true rfl) [(0, .ref (ax x 30)), (1, .int a1), (2, .int a2), (3, .int a3)] rfl ?_
  intro κ hl C hr
  subst hl
  rw [f_X5_item] at hf
  refine g_aload_n C 0 rfl rfl dX5_item_0 ?_
  refine g_iload_n C 1 rfl rfl dX5_item_1 ?_
  refine jn1_elim (fun (t1 : Int32) => GG κ x (cM x S) 30 [(0, .ref (ax x 30)), (1, .int a1), (2, .int a2), (3, .int a3)] [.int t1, .ref (ax x 30)]) hf (fun t1 hf => ?_) (fun j2 hj2 hf => ?_)
  · show GG κ x (cM x S) 30 [(0, .ref (ax x 30)), (1, .int a1), (2, .int a2), (3, .int a3)] [.int t1, .ref (ax x 30)]
    refine rP_X5_44 C dX5_item_30 ?_
    refine g_aload_n C 0 rfl rfl dX5_item_33 ?_
    refine rF_X5_44 C dX5_item_34 ?_
    refine g_if_le C 44 (by decide) dX5_item_37 (fun h3 => ?_) (fun h3 => ?_)
    · rw [if_pos h3] at hf
      refine g_iload_n C 3 rfl rfl dX5_item_44 ?_
      refine g_if_eq C 61 (by decide) dX5_item_45 (fun h4 => ?_) (fun h4 => ?_)
      · rw [if_pos h4] at hf
        refine g_aload_n C 0 rfl rfl dX5_item_61 ?_
        refine rF_X5_16 C dX5_item_62 ?_
        refine g_iconst C (v := 5) (by decide) dX5_item_65 ?_
        refine g_iload_n C 1 rfl rfl dX5_item_66 ?_
        refine g_imul C dX5_item_67 ?_
        refine g_iload_n C 2 rfl rfl dX5_item_68 ?_
        refine g_iadd C dX5_item_69 ?_
        obtain ⟨h5, hf⟩ := gd_some hf
        refine rL_3 C h5 dX5_item_70 ?_
        obtain rfl := Option.some.inj hf
        exact g_iret hr dX5_item_71
      · rw [if_neg h4] at hf
        refine g_aload_n C 0 rfl rfl dX5_item_48 ?_
        refine rF_X5_19 C dX5_item_49 ?_
        refine g_iconst C (v := 5) (by decide) dX5_item_52 ?_
        refine g_iload_n C 1 rfl rfl dX5_item_53 ?_
        refine g_imul C dX5_item_54 ?_
        refine g_iload_n C 2 rfl rfl dX5_item_55 ?_
        refine g_iadd C dX5_item_56 ?_
        obtain ⟨h6, hf⟩ := gd_some hf
        refine rL_4 C h6 dX5_item_57 ?_
        refine g_goto C 71 (by decide) dX5_item_58 ?_
        obtain rfl := Option.some.inj hf
        exact g_iret hr dX5_item_71
    · rw [if_neg h3] at hf
      refine g_iconst C (v := 0) (by decide) dX5_item_40 ?_
      refine g_goto C 71 (by decide) dX5_item_41 ?_
      obtain rfl := Option.some.inj hf
      exact g_iret hr dX5_item_71
  · skip
    refine jn0_elim (GG κ x (cM x S) 25 [(0, .ref (ax x 30)), (1, .int a1), (2, .int a2), (3, .int a3)] [.ref (ax x 30)]) hf (fun hf => ?_) (fun j7 hj7 hf => ?_)
    · show GG κ x (cM x S) 25 [(0, .ref (ax x 30)), (1, .int a1), (2, .int a2), (3, .int a3)] [.ref (ax x 30)]
      refine g_iconst C (v := 1) (by decide) dX5_item_25 ?_
      refine g_goto C 30 (by decide) dX5_item_26 ?_
      refine g_sub [0, 1, 2, 3] rfl ?_
      exact hj2 1 hf
    · skip
      refine g_if_lt C 25 (by decide) dX5_item_2 (fun h8 => ?_) (fun h8 => ?_)
      · rw [if_pos h8] at hf
        refine g_sub [0, 1, 2, 3] rfl ?_
        exact hj7 hf
      · rw [if_neg h8] at hf
        refine g_iload_n C 1 rfl rfl dX5_item_5 ?_
        refine g_bipush C (v := 40) (by decide) dX5_item_6 ?_
        refine g_icmp_ge C 25 (by decide) dX5_item_8 (fun h9 => ?_) (fun h9 => ?_)
        · rw [if_pos h9] at hf
          refine g_sub [0, 1, 2, 3] rfl ?_
          exact hj7 hf
        · rw [if_neg h9] at hf
          refine g_iload_n C 2 rfl rfl dX5_item_11 ?_
          refine g_if_lt C 25 (by decide) dX5_item_12 (fun h10 => ?_) (fun h10 => ?_)
          · rw [if_pos h10] at hf
            refine g_sub [0, 1, 2, 3] rfl ?_
            exact hj7 hf
          · rw [if_neg h10] at hf
            refine g_iload_n C 2 rfl rfl dX5_item_15 ?_
            refine g_aload_n C 0 rfl rfl dX5_item_16 ?_
            refine rF_X5_13 C dX5_item_17 ?_
            refine g_iload_n C 1 rfl rfl dX5_item_20 ?_
            obtain ⟨h11, hf⟩ := gd_some hf
            refine rL_2 C h11 dX5_item_21 ?_
            refine g_icmp_lt C 29 (by decide) dX5_item_22 (fun h12 => ?_) (fun h12 => ?_)
            · rw [if_pos h12] at hf
              refine g_iconst C (v := 0) (by decide) dX5_item_29 ?_
              refine g_sub [0, 1, 2, 3] rfl ?_
              exact hj2 0 hf
            · rw [if_neg h12] at hf
              refine g_sub [0, 1, 2, 3] rfl ?_
              exact hj7 hf
def f_X5_frame (g : Nat) (S : Mem) (a1 : Int32) (a2 : Int32) : Option (Int32 × Mem) := jn1 (fun (t1 : Int32) => if ((up S 0 0 t1).1 0 0) ≤ 0 then (if a2 = 0 then (gd (ix_in a1 12) (some ((up S 0 0 t1).1 8 a1.toNatClampNeg, (up S 0 0 t1)))) else (if a2 = 1 then (gd (ix_in a1 12) (if ((up S 0 0 t1).1 9 a1.toNatClampNeg) = 0 then (some (0, (up S 0 0 t1))) else (some (1, (up S 0 0 t1))))) else (gd (ix_in a1 12) (if ((up S 0 0 t1).1 10 a1.toNatClampNeg) = 0 then (some (0, (up S 0 0 t1))) else (some (1, (up S 0 0 t1))))))) else (some (0, (up S 0 0 t1)))) (fun j2 => jn0 (j2 1) (fun j11 => if a1 < 0 then (j11) else (if a1 < 12 then (jn0 (j2 2) (fun j14 => if a2 < 0 then (j14) else (if a2 ≤ 2 then (j2 0) else (j14)))) else (j11))))
abbrev rmX5_frame : Room := { frames := 0, cells := 0, slots := 0, locals := 0 }
set_option maxHeartbeats 4000000 in
set_option maxRecDepth 100000 in
theorem c_X5_frame {l : Launch} {x : Ad} (g : Nat) (S : Mem) (a1 : Int32) (a2 : Int32) {z : Int32 × Mem} (hf : f_X5_frame g S a1 a2 = some z) : MI l x yX5_frame kX5_frame rmX5_frame [.ref (ax x 30), .int a1, .int a2] (cM x S) z.1 (cM x z.2) := by
  refine met_I RX5 (by decide +kernel) rfl (Nat.le_of_ble_eq_true rfl) [(0, .ref (ax x 30)), (1, .int a1), (2, .int a2)] rfl ?_
  intro κ hl C hr
  subst hl
  rw [f_X5_frame] at hf
  refine g_aload_n C 0 rfl rfl dX5_frame_0 ?_
  refine g_iload_n C 1 rfl rfl dX5_frame_1 ?_
  refine jn1_elim (fun (t1 : Int32) => GG κ x (cM x S) 29 [(0, .ref (ax x 30)), (1, .int a1), (2, .int a2)] [.int t1, .ref (ax x 30)]) hf (fun t1 hf => ?_) (fun j2 hj2 hf => ?_)
  · show GG κ x (cM x S) 29 [(0, .ref (ax x 30)), (1, .int a1), (2, .int a2)] [.int t1, .ref (ax x 30)]
    refine rP_X5_44 C dX5_frame_29 ?_
    refine g_aload_n C 0 rfl rfl dX5_frame_32 ?_
    refine rF_X5_44 C dX5_frame_33 ?_
    refine g_if_le C 43 (by decide) dX5_frame_36 (fun h3 => ?_) (fun h3 => ?_)
    · rw [if_pos h3] at hf
      refine g_iload_n C 2 rfl rfl dX5_frame_43 ?_
      refine g_if_ne C 56 (by decide) dX5_frame_44 (fun h4 => ?_) (fun h4 => ?_)
      · rw [if_neg h4] at hf
        refine g_iload_n C 2 rfl rfl dX5_frame_56 ?_
        refine g_iconst C (v := 1) (by decide) dX5_frame_57 ?_
        refine g_icmp_ne C 78 (by decide) dX5_frame_58 (fun h5 => ?_) (fun h5 => ?_)
        · rw [if_neg h5] at hf
          refine g_aload_n C 0 rfl rfl dX5_frame_78 ?_
          refine rF_X5_38 C dX5_frame_79 ?_
          refine g_iload_n C 1 rfl rfl dX5_frame_82 ?_
          obtain ⟨h6, hf⟩ := gd_some hf
          refine rL_10 C h6 dX5_frame_83 ?_
          refine g_if_eq C 91 (by decide) dX5_frame_84 (fun h7 => ?_) (fun h7 => ?_)
          · rw [if_pos h7] at hf
            refine g_iconst C (v := 0) (by decide) dX5_frame_91 ?_
            obtain rfl := Option.some.inj hf
            exact g_iret hr dX5_frame_92
          · rw [if_neg h7] at hf
            refine g_iconst C (v := 1) (by decide) dX5_frame_87 ?_
            refine g_goto C 92 (by decide) dX5_frame_88 ?_
            obtain rfl := Option.some.inj hf
            exact g_iret hr dX5_frame_92
        · rw [if_pos h5] at hf
          refine g_aload_n C 0 rfl rfl dX5_frame_61 ?_
          refine rF_X5_34 C dX5_frame_62 ?_
          refine g_iload_n C 1 rfl rfl dX5_frame_65 ?_
          obtain ⟨h8, hf⟩ := gd_some hf
          refine rL_9 C h8 dX5_frame_66 ?_
          refine g_if_eq C 74 (by decide) dX5_frame_67 (fun h9 => ?_) (fun h9 => ?_)
          · rw [if_pos h9] at hf
            refine g_iconst C (v := 0) (by decide) dX5_frame_74 ?_
            refine g_goto C 92 (by decide) dX5_frame_75 ?_
            obtain rfl := Option.some.inj hf
            exact g_iret hr dX5_frame_92
          · rw [if_neg h9] at hf
            refine g_iconst C (v := 1) (by decide) dX5_frame_70 ?_
            refine g_goto C 92 (by decide) dX5_frame_71 ?_
            obtain rfl := Option.some.inj hf
            exact g_iret hr dX5_frame_92
      · rw [if_pos h4] at hf
        refine g_aload_n C 0 rfl rfl dX5_frame_47 ?_
        refine rF_X5_31 C dX5_frame_48 ?_
        refine g_iload_n C 1 rfl rfl dX5_frame_51 ?_
        obtain ⟨h10, hf⟩ := gd_some hf
        refine rL_8 C h10 dX5_frame_52 ?_
        refine g_goto C 92 (by decide) dX5_frame_53 ?_
        obtain rfl := Option.some.inj hf
        exact g_iret hr dX5_frame_92
    · rw [if_neg h3] at hf
      refine g_iconst C (v := 0) (by decide) dX5_frame_39 ?_
      refine g_goto C 92 (by decide) dX5_frame_40 ?_
      obtain rfl := Option.some.inj hf
      exact g_iret hr dX5_frame_92
  · skip
    refine jn0_elim (GG κ x (cM x S) 11 [(0, .ref (ax x 30)), (1, .int a1), (2, .int a2)] [.ref (ax x 30)]) hf (fun hf => ?_) (fun j11 hj11 hf => ?_)
    · show GG κ x (cM x S) 11 [(0, .ref (ax x 30)), (1, .int a1), (2, .int a2)] [.ref (ax x 30)]
      refine g_iconst C (v := 1) (by decide) dX5_frame_11 ?_
      refine g_goto C 29 (by decide) dX5_frame_12 ?_
      refine g_sub [0, 1, 2] rfl ?_
      exact hj2 1 hf
    · skip
      refine g_if_lt C 11 (by decide) dX5_frame_2 (fun h12 => ?_) (fun h12 => ?_)
      · rw [if_pos h12] at hf
        refine g_sub [0, 1, 2] rfl ?_
        exact hj11 hf
      · rw [if_neg h12] at hf
        refine g_iload_n C 1 rfl rfl dX5_frame_5 ?_
        refine g_bipush C (v := 12) (by decide) dX5_frame_6 ?_
        refine g_icmp_lt C 15 (by decide) dX5_frame_8 (fun h13 => ?_) (fun h13 => ?_)
        · rw [if_pos h13] at hf
          refine g_iload_n C 2 rfl rfl dX5_frame_15 ?_
          refine jn0_elim (GG κ x (cM x S) 24 [(0, .ref (ax x 30)), (1, .int a1), (2, .int a2)] [.ref (ax x 30)]) hf (fun hf => ?_) (fun j14 hj14 hf => ?_)
          · show GG κ x (cM x S) 24 [(0, .ref (ax x 30)), (1, .int a1), (2, .int a2)] [.ref (ax x 30)]
            refine g_iconst C (v := 2) (by decide) dX5_frame_24 ?_
            refine g_goto C 29 (by decide) dX5_frame_25 ?_
            refine g_sub [0, 1, 2] rfl ?_
            exact hj2 2 hf
          · skip
            refine g_if_lt C 24 (by decide) dX5_frame_16 (fun h15 => ?_) (fun h15 => ?_)
            · rw [if_pos h15] at hf
              refine g_sub [0, 1, 2] rfl ?_
              exact hj14 hf
            · rw [if_neg h15] at hf
              refine g_iload_n C 2 rfl rfl dX5_frame_19 ?_
              refine g_iconst C (v := 2) (by decide) dX5_frame_20 ?_
              refine g_icmp_le C 28 (by decide) dX5_frame_21 (fun h16 => ?_) (fun h16 => ?_)
              · rw [if_pos h16] at hf
                refine g_iconst C (v := 0) (by decide) dX5_frame_28 ?_
                refine g_sub [0, 1, 2] rfl ?_
                exact hj2 0 hf
              · rw [if_neg h16] at hf
                refine g_sub [0, 1, 2] rfl ?_
                exact hj14 hf
        · rw [if_neg h13] at hf
          refine g_sub [0, 1, 2] rfl ?_
          exact hj11 hf
def f_X5_levels_7 (g : Nat) (S : Mem)  : Nat → Int32 → Int32 → Option (Int32)
  | 0, _, _ => none
  | n + 1, w1, w2 => gd (ix_in w2 40) (if (S.1 1 w2.toNatClampNeg) = 2 then (gd (ix_in (5 * w2) 200) (f_X5_levels_7 g S n (w1 + 1) (S.1 4 (5 * w2).toNatClampNeg))) else (some w1))
def f_X5_levels (g : Nat) (S : Mem) : Option (Int32) := f_X5_levels_7 g S g 1 (S.1 0 6)
abbrev rmX5_levels : Room := { frames := 0, cells := 0, slots := 0, locals := 0 }
set_option maxHeartbeats 4000000 in
set_option maxRecDepth 100000 in
theorem lp_X5_levels_7 {κ : Kx} {x : Ad} (C : Cx κ x cX5_levels RX5 kX5_levels rmX5_levels 3) (S : Mem) {z : Int32} (hr : RI κ x cX5_levels (cM x S) z) (g : Nat)  : ∀ (n : Nat) (w1 : Int32) (w2 : Int32), f_X5_levels_7 g S n w1 w2 = some z → GG κ x (cM x S) 7 [(0, .ref (ax x 30)), (1, .int w1), (2, .int w2)] [] := by
  intro n
  induction n with
  | zero => intro w1 w2 hf; cases hf
  | succ n ih =>
    intro w1 w2 hf
    rw [f_X5_levels_7] at hf
    refine g_aload_n C 0 rfl rfl dX5_levels_7 ?_
    refine rF_X5_7 C dX5_levels_8 ?_
    refine g_iload_n C 2 rfl rfl dX5_levels_11 ?_
    obtain ⟨h1, hf⟩ := gd_some hf
    refine rL_1 C h1 dX5_levels_12 ?_
    refine g_iconst C (v := 2) (by decide) dX5_levels_13 ?_
    refine g_icmp_ne C 32 (by decide) dX5_levels_14 (fun h2 => ?_) (fun h2 => ?_)
    · rw [if_neg h2] at hf
      refine g_iload_n C 1 rfl rfl dX5_levels_32 ?_
      obtain rfl := Option.some.inj hf
      exact g_iret hr dX5_levels_33
    · rw [if_pos h2] at hf
      refine g_aload_n C 0 rfl rfl dX5_levels_17 ?_
      refine rF_X5_19 C dX5_levels_18 ?_
      refine g_iconst C (v := 5) (by decide) dX5_levels_21 ?_
      refine g_iload_n C 2 rfl rfl dX5_levels_22 ?_
      refine g_imul C dX5_levels_23 ?_
      obtain ⟨h3, hf⟩ := gd_some hf
      refine rL_4 C h3 dX5_levels_24 ?_
      refine g_istore_n C (lv2 := [(2, .int (S.1 4 (5 * w2).toNatClampNeg)), (0, .ref (ax x 30)), (1, .int w1)]) rfl (by decide) rfl dX5_levels_25 ?_
      refine g_iinc C (v := w1 + 1) (lv2 := [(1, .int (w1 + 1)), (2, .int (S.1 4 (5 * w2).toNatClampNeg)), (0, .ref (ax x 30))]) 2 rfl (by rw [(by decide : Int32.ofInt 1 = 1)]) (by decide) rfl dX5_levels_26 ?_
      refine g_goto C 7 (by decide) dX5_levels_29 ?_
      refine g_sub [2, 0, 1] rfl ?_
      exact ih (w1 + 1) (S.1 4 (5 * w2).toNatClampNeg) hf
set_option maxHeartbeats 4000000 in
set_option maxRecDepth 100000 in
theorem c_X5_levels {l : Launch} {x : Ad} (g : Nat) (S : Mem) {z : Int32} (hf : f_X5_levels g S = some z) : MI l x yX5_levels kX5_levels rmX5_levels [.ref (ax x 30)] (cM x S) z (cM x S) := by
  refine met_I RX5 (by decide +kernel) rfl (Nat.le_of_ble_eq_true rfl) [(0, .ref (ax x 30))] rfl ?_
  intro κ hl C hr
  subst hl
  rw [f_X5_levels] at hf
  refine g_iconst C (v := 1) (by decide) dX5_levels_0 ?_
  refine g_istore_n C (lv2 := [(1, .int 1), (0, .ref (ax x 30))]) rfl (by decide) rfl dX5_levels_1 ?_
  refine g_aload_n C 1 rfl rfl dX5_levels_2 ?_
  refine rF_X5_71 C dX5_levels_3 ?_
  refine g_istore_n C (lv2 := [(2, .int (S.1 0 6)), (1, .int 1), (0, .ref (ax x 30))]) rfl (by decide) rfl dX5_levels_6 ?_
  refine g_sub [2, 1, 0] rfl ?_
  exact lp_X5_levels_7 C S hr g g 1 (S.1 0 6) hf
def f_X5_told (g : Nat) (S : Mem) (a1 : Int32) : Option (Int32 × Mem) := if a1 = 0 then (some ((up S 0 0 0).1 0 7, (up S 0 0 0))) else (if a1 = 1 then (some ((up S 0 0 0).1 0 6, (up S 0 0 0))) else (if a1 = 2 then (bd (f_X5_levels g (up S 0 0 0)) (fun r5 => some (r5, (up S 0 0 0)))) else (if a1 = 3 then (bd (f_X5_pagesInUse g (up S 0 0 0)) (fun r8 => some (r8, (up S 0 0 0)))) else (if a1 = 4 then (some ((up S 0 0 0).1 0 16, (up S 0 0 0))) else (if a1 = 5 then (some ((up S 0 0 0).1 0 17, (up S 0 0 0))) else (if a1 = 6 then (some ((up S 0 0 0).1 0 18, (up S 0 0 0))) else (if a1 = 7 then (some ((up S 0 0 0).1 0 15, (up S 0 0 0))) else (some ((-1), (up S 0 0 0))))))))))
abbrev rmX5_told : Room := { frames := 1, cells := 0, slots := 0, locals := 22 }
set_option maxHeartbeats 4000000 in
set_option maxRecDepth 100000 in
theorem c_X5_told {l : Launch} {x : Ad} (g : Nat) (S : Mem) (a1 : Int32) {z : Int32 × Mem} (hf : f_X5_told g S a1 = some z) : MI l x yX5_told kX5_told rmX5_told [.ref (ax x 30), .int a1] (cM x S) z.1 (cM x z.2) := by
  refine met_I RX5 (by decide +kernel) rfl (Nat.le_of_ble_eq_true rfl) [(0, .ref (ax x 30)), (1, .int a1)] rfl ?_
  intro κ hl C hr
  subst hl
  rw [f_X5_told] at hf
  refine g_aload_n C 0 rfl rfl dX5_told_0 ?_
  refine g_iconst C (v := 0) (by decide) dX5_told_1 ?_
  refine rP_X5_44 C dX5_told_2 ?_
  refine g_iload_n C 1 rfl rfl dX5_told_5 ?_
  by_cases h1 : a1 = 0
  · rw [if_pos h1] at hf
    refine g_top h1 ?_
    refine g_tin C 52 (by decide) (by decide) (by rfl) (by decide) dX5_told_6 ?_
    refine g_aload_n C 0 rfl rfl dX5_told_52 ?_
    refine rF_X5_115 C dX5_told_53 ?_
    obtain rfl := Option.some.inj hf
    exact g_iret hr dX5_told_56
  rw [if_neg h1] at hf
  by_cases h2 : a1 = 1
  · rw [if_pos h2] at hf
    refine g_top h2 ?_
    refine g_tin C 57 (by decide) (by decide) (by rfl) (by decide) dX5_told_6 ?_
    refine g_aload_n C 0 rfl rfl dX5_told_57 ?_
    refine rF_X5_71 C dX5_told_58 ?_
    obtain rfl := Option.some.inj hf
    exact g_iret hr dX5_told_61
  rw [if_neg h2] at hf
  by_cases h3 : a1 = 2
  · rw [if_pos h3] at hf
    refine g_top h3 ?_
    refine g_tin C 62 (by decide) (by decide) (by rfl) (by decide) dX5_told_6 ?_
    refine g_aload_n C 0 rfl rfl dX5_told_62 ?_
    obtain ⟨r5, h4, hf⟩ := bd_some hf
    refine g_callVI C (n := 0) (st := []) (c_X5_levels g (up S 0 0 0) h4) (tb_wsV _ mM_X5_156 mI_X5_levels mS_X5_levels mN_X5 mK_X5_levels) (by decide +kernel) rfl rfl ⟨by decide, by decide⟩ 0 5 rfl rfl rfl (Nat.le_of_ble_eq_true rfl) dX5_told_63 rfl ?_
    obtain rfl := Option.some.inj hf
    exact g_iret hr dX5_told_66
  rw [if_neg h3] at hf
  by_cases h6 : a1 = 3
  · rw [if_pos h6] at hf
    refine g_top h6 ?_
    refine g_tin C 67 (by decide) (by decide) (by rfl) (by decide) dX5_told_6 ?_
    refine g_aload_n C 0 rfl rfl dX5_told_67 ?_
    obtain ⟨r8, h7, hf⟩ := bd_some hf
    refine g_callVI C (n := 0) (st := []) (c_X5_pagesInUse g (up S 0 0 0) h7) (tb_wsV _ mM_X5_102 mI_X5_pagesInUse mS_X5_pagesInUse mN_X5 mK_X5_pagesInUse) (by decide +kernel) rfl rfl ⟨by decide, by decide⟩ 0 5 rfl rfl rfl (Nat.le_of_ble_eq_true rfl) dX5_told_68 rfl ?_
    obtain rfl := Option.some.inj hf
    exact g_iret hr dX5_told_71
  rw [if_neg h6] at hf
  by_cases h9 : a1 = 4
  · rw [if_pos h9] at hf
    refine g_top h9 ?_
    refine g_tin C 72 (by decide) (by decide) (by rfl) (by decide) dX5_told_6 ?_
    refine g_aload_n C 0 rfl rfl dX5_told_72 ?_
    refine rF_X5_61 C dX5_told_73 ?_
    obtain rfl := Option.some.inj hf
    exact g_iret hr dX5_told_76
  rw [if_neg h9] at hf
  by_cases h10 : a1 = 5
  · rw [if_pos h10] at hf
    refine g_top h10 ?_
    refine g_tin C 77 (by decide) (by decide) (by rfl) (by decide) dX5_told_6 ?_
    refine g_aload_n C 0 rfl rfl dX5_told_77 ?_
    refine rF_X5_68 C dX5_told_78 ?_
    obtain rfl := Option.some.inj hf
    exact g_iret hr dX5_told_81
  rw [if_neg h10] at hf
  by_cases h11 : a1 = 6
  · rw [if_pos h11] at hf
    refine g_top h11 ?_
    refine g_tin C 82 (by decide) (by decide) (by rfl) (by decide) dX5_told_6 ?_
    refine g_aload_n C 0 rfl rfl dX5_told_82 ?_
    refine rF_X5_54 C dX5_told_83 ?_
    obtain rfl := Option.some.inj hf
    exact g_iret hr dX5_told_86
  rw [if_neg h11] at hf
  by_cases h12 : a1 = 7
  · rw [if_pos h12] at hf
    refine g_top h12 ?_
    refine g_tin C 87 (by decide) (by decide) (by rfl) (by decide) dX5_told_6 ?_
    refine g_aload_n C 0 rfl rfl dX5_told_87 ?_
    refine rF_X5_48 C dX5_told_88 ?_
    obtain rfl := Option.some.inj hf
    exact g_iret hr dX5_told_91
  rw [if_neg h12] at hf
  refine g_tout C 92 (tsw_out 7 (by decide) (fun j hj => by rcases (by omega : j = 0 ∨ j = 1 ∨ j = 2 ∨ j = 3 ∨ j = 4 ∨ j = 5 ∨ j = 6 ∨ j = 7) with rfl | rfl | rfl | rfl | rfl | rfl | rfl | rfl <;> first | exact h1 | exact h2 | exact h3 | exact h6 | exact h9 | exact h10 | exact h11 | exact h12)) (by decide) dX5_told_6 ?_
  refine g_iconst C (v := (-1)) (by decide) dX5_told_92 ?_
  obtain rfl := Option.some.inj hf
  exact g_iret hr dX5_told_93
