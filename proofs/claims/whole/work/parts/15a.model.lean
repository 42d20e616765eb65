def f_X5_thrown (g : Nat) (S : Mem) : Option (Int32) := some (S.1 0 0)
abbrev rmX5_thrown : Room := { frames := 0, cells := 0, slots := 0, locals := 0 }
set_option maxHeartbeats 4000000 in
set_option maxRecDepth 100000 in
theorem c_X5_thrown {l : Launch} {x : Ad} (g : Nat) (S : Mem) {z : Int32} (hf : f_X5_thrown g S = some z) : MI l x yX5_thrown kX5_thrown rmX5_thrown [.ref (ax x 30)] (cM x S) z (cM x S) := by
  refine met_I RX5 (by decide +kernel) rfl (Nat.le_of_ble_eq_true rfl) [(0, .ref (ax x 30))] rfl ?_
  intro κ hl C hr
  subst hl
  rw [f_X5_thrown] at hf
  refine g_aload_n C 0 rfl rfl dX5_thrown_0 ?_
  refine rF_X5_44 C dX5_thrown_1 ?_
  obtain rfl := Option.some.inj hf
  exact g_iret hr dX5_thrown_4
def f_X5_unpin_2 (g : Nat)  : Nat → Mem → Int32 → Option (Mem)
  | 0, _, _ => none
  | n + 1, S, w1 => if 12 ≤ w1 then (some S) else (gd (ix_in w1 12) (f_X5_unpin_2 g n (up S 11 w1.toNatClampNeg 0) (w1 + 1)))
def f_X5_unpin (g : Nat) (S : Mem) : Option (Mem) := f_X5_unpin_2 g g S 0
abbrev rmX5_unpin : Room := { frames := 0, cells := 0, slots := 0, locals := 0 }
set_option maxHeartbeats 4000000 in
set_option maxRecDepth 100000 in
theorem lp_X5_unpin_2 {κ : Kx} {x : Ad} (C : Cx κ x cX5_unpin RX5 kX5_unpin rmX5_unpin 2) {z : Mem} (hr : RV κ x cX5_unpin (cM x z)) (g : Nat)  : ∀ (n : Nat) (S : Mem) (w1 : Int32), f_X5_unpin_2 g n S w1 = some z → GG κ x (cM x S) 2 [(0, .ref (ax x 30)), (1, .int w1)] [] := by
  intro n
  induction n with
  | zero => intro S w1 hf; cases hf
  | succ n ih =>
    intro S w1 hf
    rw [f_X5_unpin_2] at hf
    refine g_iload_n C 1 rfl rfl dX5_unpin_2 ?_
    refine g_bipush C (v := 12) (by decide) dX5_unpin_3 ?_
    refine g_icmp_ge C 21 (by decide) dX5_unpin_5 (fun h1 => ?_) (fun h1 => ?_)
    · rw [if_pos h1] at hf
      obtain rfl := Option.some.inj hf
      exact g_vret hr dX5_unpin_21
    · rw [if_neg h1] at hf
      refine g_aload_n C 0 rfl rfl dX5_unpin_8 ?_
      refine rF_X5_41 C dX5_unpin_9 ?_
      refine g_iload_n C 1 rfl rfl dX5_unpin_12 ?_
      refine g_iconst C (v := 0) (by decide) dX5_unpin_13 ?_
      obtain ⟨h2, hf⟩ := gd_some hf
      refine rS_11 C h2 (by decide) dX5_unpin_14 ?_
      refine g_iinc C (v := w1 + 1) (lv2 := [(1, .int (w1 + 1)), (0, .ref (ax x 30))]) 1 rfl (by rw [(by decide : Int32.ofInt 1 = 1)]) (by decide) rfl dX5_unpin_15 ?_
      refine g_goto C 2 (by decide) dX5_unpin_18 ?_
      refine g_sub [1, 0] rfl ?_
      exact ih (up S 11 w1.toNatClampNeg 0) (w1 + 1) hf
set_option maxHeartbeats 4000000 in
set_option maxRecDepth 100000 in
theorem c_X5_unpin {l : Launch} {x : Ad} (g : Nat) (S : Mem) {z : Mem} (hf : f_X5_unpin g S = some z) : MV l x yX5_unpin kX5_unpin rmX5_unpin [.ref (ax x 30)] (cM x S) (cM x z) := by
  refine met_V RX5 (by decide +kernel) rfl (Nat.le_of_ble_eq_true rfl) [(0, .ref (ax x 30))] rfl ?_
  intro κ hl C hr
  subst hl
  rw [f_X5_unpin] at hf
  refine g_iconst C (v := 0) (by decide) dX5_unpin_0 ?_
  refine g_istore_n C (lv2 := [(1, .int 0), (0, .ref (ax x 30))]) rfl (by decide) rfl dX5_unpin_1 ?_
  refine g_sub [1, 0] rfl ?_
  exact lp_X5_unpin_2 C hr g g S 0 hf
def f_X5_frameOf_4 (g : Nat) (S : Mem) (w1 : Int32) : Nat → Int32 → Int32 → Option (Int32)
  | 0, _, _ => none
  | n + 1, w2, w3 => if 12 ≤ w3 then (some w2) else (gd (ix_in w3 12) (if (S.1 8 w3.toNatClampNeg) = w1 then (f_X5_frameOf_4 g S w1 n w3 (w3 + 1)) else (f_X5_frameOf_4 g S w1 n w2 (w3 + 1))))
def f_X5_frameOf (g : Nat) (S : Mem) (a1 : Int32) : Option (Int32) := f_X5_frameOf_4 g S a1 g ((-1)) 0
abbrev rmX5_frameOf : Room := { frames := 0, cells := 0, slots := 0, locals := 0 }
set_option maxHeartbeats 4000000 in
set_option maxRecDepth 100000 in
theorem lp_X5_frameOf_4 {κ : Kx} {x : Ad} (C : Cx κ x cX5_frameOf RX5 kX5_frameOf rmX5_frameOf 4) (S : Mem) {z : Int32} (hr : RI κ x cX5_frameOf (cM x S) z) (g : Nat) (w1 : Int32) : ∀ (n : Nat) (w2 : Int32) (w3 : Int32), f_X5_frameOf_4 g S w1 n w2 w3 = some z → GG κ x (cM x S) 4 [(0, .ref (ax x 30)), (1, .int w1), (2, .int w2), (3, .int w3)] [] := by
  intro n
  induction n with
  | zero => intro w2 w3 hf; cases hf
  | succ n ih =>
    intro w2 w3 hf
    rw [f_X5_frameOf_4] at hf
    refine g_iload_n C 3 rfl rfl dX5_frameOf_4 ?_
    refine g_bipush C (v := 12) (by decide) dX5_frameOf_5 ?_
    refine g_icmp_ge C 32 (by decide) dX5_frameOf_7 (fun h1 => ?_) (fun h1 => ?_)
    · rw [if_pos h1] at hf
      refine g_iload_n C 2 rfl rfl dX5_frameOf_32 ?_
      obtain rfl := Option.some.inj hf
      exact g_iret hr dX5_frameOf_33
    · rw [if_neg h1] at hf
      refine g_aload_n C 0 rfl rfl dX5_frameOf_10 ?_
      refine rF_X5_31 C dX5_frameOf_11 ?_
      refine g_iload_n C 3 rfl rfl dX5_frameOf_14 ?_
      obtain ⟨h2, hf⟩ := gd_some hf
      refine rL_8 C h2 dX5_frameOf_15 ?_
      refine g_iload_n C 1 rfl rfl dX5_frameOf_16 ?_
      refine g_icmp_ne C 24 (by decide) dX5_frameOf_17 (fun h3 => ?_) (fun h3 => ?_)
      · rw [if_neg h3] at hf
        refine g_iload_n C 2 rfl rfl dX5_frameOf_24 ?_
        refine g_istore_n C (lv2 := [(2, .int w2), (0, .ref (ax x 30)), (1, .int w1), (3, .int w3)]) rfl (by decide) rfl dX5_frameOf_25 ?_
        refine g_iinc C (v := w3 + 1) (lv2 := [(3, .int (w3 + 1)), (2, .int w2), (0, .ref (ax x 30)), (1, .int w1)]) 3 rfl (by rw [(by decide : Int32.ofInt 1 = 1)]) (by decide) rfl dX5_frameOf_26 ?_
        refine g_goto C 4 (by decide) dX5_frameOf_29 ?_
        refine g_sub [2, 3, 1, 0] rfl ?_
        exact ih w2 (w3 + 1) hf
      · rw [if_pos h3] at hf
        refine g_iload_n C 3 rfl rfl dX5_frameOf_20 ?_
        refine g_goto C 25 (by decide) dX5_frameOf_21 ?_
        refine g_istore_n C (lv2 := [(2, .int w3), (0, .ref (ax x 30)), (1, .int w1), (3, .int w3)]) rfl (by decide) rfl dX5_frameOf_25 ?_
        refine g_iinc C (v := w3 + 1) (lv2 := [(3, .int (w3 + 1)), (2, .int w3), (0, .ref (ax x 30)), (1, .int w1)]) 3 rfl (by rw [(by decide : Int32.ofInt 1 = 1)]) (by decide) rfl dX5_frameOf_26 ?_
        refine g_goto C 4 (by decide) dX5_frameOf_29 ?_
        refine g_sub [2, 3, 1, 0] rfl ?_
        exact ih w3 (w3 + 1) hf
set_option maxHeartbeats 4000000 in
set_option maxRecDepth 100000 in
theorem c_X5_frameOf {l : Launch} {x : Ad} (g : Nat) (S : Mem) (a1 : Int32) {z : Int32} (hf : f_X5_frameOf g S a1 = some z) : MI l x yX5_frameOf kX5_frameOf rmX5_frameOf [.ref (ax x 30), .int a1] (cM x S) z (cM x S) := by
  refine met_I RX5 (by decide +kernel) rfl (Nat.le_of_ble_eq_true rfl) [(0, .ref (ax x 30)), (1, .int a1)] rfl ?_
  intro κ hl C hr
  subst hl
  rw [f_X5_frameOf] at hf
  refine g_iconst C (v := (-1)) (by decide) dX5_frameOf_0 ?_
  refine g_istore_n C (lv2 := [(2, .int ((-1))), (0, .ref (ax x 30)), (1, .int a1)]) rfl (by decide) rfl dX5_frameOf_1 ?_
  refine g_iconst C (v := 0) (by decide) dX5_frameOf_2 ?_
  refine g_istore_n C (lv2 := [(3, .int 0), (2, .int ((-1))), (0, .ref (ax x 30)), (1, .int a1)]) rfl (by decide) rfl dX5_frameOf_3 ?_
  refine g_sub [2, 3, 1, 0] rfl ?_
  exact lp_X5_frameOf_4 C S hr g a1 g ((-1)) 0 hf
def f_X5_goOn (g : Nat) (S : Mem) : Option (Mem) := some (up S 0 15 (((S.1 0 15) + 1) - ((S.1 0 15) + 1) / 12 * 12))
abbrev rmX5_goOn : Room := { frames := 0, cells := 0, slots := 0, locals := 0 }
set_option maxHeartbeats 4000000 in
set_option maxRecDepth 100000 in
theorem c_X5_goOn {l : Launch} {x : Ad} (g : Nat) (S : Mem) {z : Mem} (hf : f_X5_goOn g S = some z) : MV l x yX5_goOn kX5_goOn rmX5_goOn [.ref (ax x 30)] (cM x S) (cM x z) := by
  refine met_V RX5 (by decide +kernel) rfl (Nat.le_of_ble_eq_true rfl) [(0, .ref (ax x 30))] rfl ?_
  intro κ hl C hr
  subst hl
  rw [f_X5_goOn] at hf
  refine g_aload_n C 0 rfl rfl dX5_goOn_0 ?_
  refine g_aload_n C 0 rfl rfl dX5_goOn_1 ?_
  refine rF_X5_48 C dX5_goOn_2 ?_
  refine g_iconst C (v := 1) (by decide) dX5_goOn_5 ?_
  refine g_iadd C dX5_goOn_6 ?_
  refine g_bipush C (v := 12) (by decide) dX5_goOn_7 ?_
  refine g_irem C (by decide) dX5_goOn_9 ?_
  refine rP_X5_48 C dX5_goOn_10 ?_
  obtain rfl := Option.some.inj hf
  exact g_vret hr dX5_goOn_13
def f_X5_freeFrame_0 (g : Nat)  (kx : Mem → Option (Int32 × Mem)) : Nat → Mem → Option (Int32 × Mem)
  | 0, _ => none
  | n + 1, S => gd (ix_in (S.1 0 15) 12) (if (S.1 8 (S.1 0 15).toNatClampNeg) = ((-1)) then (kx S) else (gd (ix_in (S.1 0 15) 12) (jn0 (gd (ix_in (S.1 0 15) 12) (jn1 (fun (S6 : Mem) => bd (f_X5_goOn g S6) (fun S9 => f_X5_freeFrame_0 g kx n S9)) (fun j7 => if (S.1 11 (S.1 0 15).toNatClampNeg) = 0 then (gd (ix_in (S.1 0 15) 12) (j7 (up S 9 (S.1 0 15).toNatClampNeg 0))) else (j7 S)))) (fun j4 => if (S.1 11 (S.1 0 15).toNatClampNeg) = 0 then (gd (ix_in (S.1 0 15) 12) (if (S.1 9 (S.1 0 15).toNatClampNeg) = 0 then (kx S) else (j4))) else (j4)))))
def f_X5_freeFrame (g : Nat) (S : Mem) : Option (Int32 × Mem) := f_X5_freeFrame_0 g (fun (S15 : Mem) => gd (ix_in (S15.1 0 15) 12) (jn1 (fun (t17 : Int32) => bd (f_X5_goOn g (up S15 0 18 t17)) (fun S20 => some (S15.1 0 15, S20))) (fun j18 => jn0 (j18 (S15.1 0 18)) (fun j21 => if (S15.1 8 (S15.1 0 15).toNatClampNeg) = ((-1)) then (j21) else (gd (ix_in (S15.1 0 15) 12) (if (S15.1 10 (S15.1 0 15).toNatClampNeg) = 0 then (j21) else (j18 ((S15.1 0 18) + 1)))))))) g S
abbrev rmX5_freeFrame : Room := { frames := 1, cells := 0, slots := 0, locals := 20 }
set_option maxHeartbeats 4000000 in
set_option maxRecDepth 100000 in
theorem lp_X5_freeFrame_0 {κ : Kx} {x : Ad} (C : Cx κ x cX5_freeFrame RX5 kX5_freeFrame rmX5_freeFrame 2) {z : Int32 × Mem} (hr : RI κ x cX5_freeFrame (cM x z.2) z.1) (g : Nat)  (kx : Mem → Option (Int32 × Mem)) (hk : ∀ (S1 : Mem), kx S1 = some z → GG κ x (cM x S1) 66 [(0, .ref (ax x 30))] []) : ∀ (n : Nat) (S : Mem), f_X5_freeFrame_0 g kx n S = some z → GG κ x (cM x S) 0 [(0, .ref (ax x 30))] [] := by
  intro n
  induction n with
  | zero => intro S hf; cases hf
  | succ n ih =>
    intro S hf
    rw [f_X5_freeFrame_0] at hf
    refine g_aload_n C 0 rfl rfl dX5_freeFrame_0 ?_
    refine rF_X5_31 C dX5_freeFrame_1 ?_
    refine g_aload_n C 0 rfl rfl dX5_freeFrame_4 ?_
    refine rF_X5_48 C dX5_freeFrame_5 ?_
    obtain ⟨h1, hf⟩ := gd_some hf
    refine rL_8 C h1 dX5_freeFrame_8 ?_
    refine g_iconst C (v := (-1)) (by decide) dX5_freeFrame_9 ?_
    refine g_icmp_eq C 66 (by decide) dX5_freeFrame_10 (fun h2 => ?_) (fun h2 => ?_)
    · rw [if_pos h2] at hf
      refine g_sub [0] rfl ?_
      exact hk S hf
    · rw [if_neg h2] at hf
      refine g_aload_n C 0 rfl rfl dX5_freeFrame_13 ?_
      refine rF_X5_41 C dX5_freeFrame_14 ?_
      refine g_aload_n C 0 rfl rfl dX5_freeFrame_17 ?_
      refine rF_X5_48 C dX5_freeFrame_18 ?_
      obtain ⟨h3, hf⟩ := gd_some hf
      refine rL_11 C h3 dX5_freeFrame_21 ?_
      refine jn0_elim (GG κ x (cM x S) 37 [(0, .ref (ax x 30))] []) hf (fun hf => ?_) (fun j4 hj4 hf => ?_)
      · show GG κ x (cM x S) 37 [(0, .ref (ax x 30))] []
        refine g_aload_n C 0 rfl rfl dX5_freeFrame_37 ?_
        refine rF_X5_41 C dX5_freeFrame_38 ?_
        refine g_aload_n C 0 rfl rfl dX5_freeFrame_41 ?_
        refine rF_X5_48 C dX5_freeFrame_42 ?_
        obtain ⟨h5, hf⟩ := gd_some hf
        refine rL_11 C h5 dX5_freeFrame_45 ?_
        refine jn1_elim (fun (S6 : Mem) => GG κ x (cM x S6) 59 [(0, .ref (ax x 30))] []) hf (fun S6 hf => ?_) (fun j7 hj7 hf => ?_)
        · show GG κ x (cM x S6) 59 [(0, .ref (ax x 30))] []
          refine g_aload_n C 0 rfl rfl dX5_freeFrame_59 ?_
          obtain ⟨S9, h8, hf⟩ := bd_some hf
          refine g_callVV C (n := 0) (st := []) (c_X5_goOn g S6 h8) (tb_wsV _ mM_X5_51 mI_X5_goOn mS_X5_goOn mN_X5 mK_X5_goOn) (by decide +kernel) rfl rfl ⟨by decide, by decide⟩ 0 5 rfl rfl rfl (Nat.le_of_ble_eq_true rfl) dX5_freeFrame_60 rfl ?_
          refine g_goto C 0 (by decide) dX5_freeFrame_63 ?_
          refine g_sub [0] rfl ?_
          exact ih S9 hf
        · skip
          refine g_if_ne C 59 (by decide) dX5_freeFrame_46 (fun h10 => ?_) (fun h10 => ?_)
          · rw [if_neg h10] at hf
            refine g_sub [0] rfl ?_
            exact hj7 S hf
          · rw [if_pos h10] at hf
            refine g_aload_n C 0 rfl rfl dX5_freeFrame_49 ?_
            refine rF_X5_34 C dX5_freeFrame_50 ?_
            refine g_aload_n C 0 rfl rfl dX5_freeFrame_53 ?_
            refine rF_X5_48 C dX5_freeFrame_54 ?_
            refine g_iconst C (v := 0) (by decide) dX5_freeFrame_57 ?_
            obtain ⟨h11, hf⟩ := gd_some hf
            refine rS_9 C h11 (by decide) dX5_freeFrame_58 ?_
            refine g_sub [0] rfl ?_
            exact hj7 (up S 9 (S.1 0 15).toNatClampNeg 0) hf
      · skip
        refine g_if_ne C 37 (by decide) dX5_freeFrame_22 (fun h12 => ?_) (fun h12 => ?_)
        · rw [if_neg h12] at hf
          refine g_sub [0] rfl ?_
          exact hj4 hf
        · rw [if_pos h12] at hf
          refine g_aload_n C 0 rfl rfl dX5_freeFrame_25 ?_
          refine rF_X5_34 C dX5_freeFrame_26 ?_
          refine g_aload_n C 0 rfl rfl dX5_freeFrame_29 ?_
          refine rF_X5_48 C dX5_freeFrame_30 ?_
          obtain ⟨h13, hf⟩ := gd_some hf
          refine rL_9 C h13 dX5_freeFrame_33 ?_
          refine g_if_eq C 66 (by decide) dX5_freeFrame_34 (fun h14 => ?_) (fun h14 => ?_)
          · rw [if_pos h14] at hf
            refine g_sub [0] rfl ?_
            exact hk S hf
          · rw [if_neg h14] at hf
            refine g_sub [0] rfl ?_
            exact hj4 hf
set_option maxHeartbeats 4000000 in
set_option maxRecDepth 100000 in
theorem c_X5_freeFrame {l : Launch} {x : Ad} (g : Nat) (S : Mem) {z : Int32 × Mem} (hf : f_X5_freeFrame g S = some z) : MI l x yX5_freeFrame kX5_freeFrame rmX5_freeFrame [.ref (ax x 30)] (cM x S) z.1 (cM x z.2) := by
  refine met_I RX5 (by decide +kernel) rfl (Nat.le_of_ble_eq_true rfl) [(0, .ref (ax x 30))] rfl ?_
  intro κ hl C hr
  subst hl
  rw [f_X5_freeFrame] at hf
  refine g_sub [0] rfl ?_
  refine lp_X5_freeFrame_0 C hr g _ (fun S15 hf => ?_) g S hf
  refine g_aload_n C 0 rfl rfl dX5_freeFrame_66 ?_
  refine rF_X5_48 C dX5_freeFrame_67 ?_
  refine g_istore_n C (lv2 := [(1, .int (S15.1 0 15)), (0, .ref (ax x 30))]) rfl (by decide) rfl dX5_freeFrame_70 ?_
  refine g_aload_n C 1 rfl rfl dX5_freeFrame_71 ?_
  refine g_aload_n C 1 rfl rfl dX5_freeFrame_72 ?_
  refine rF_X5_31 C dX5_freeFrame_73 ?_
  refine g_iload_n C 0 rfl rfl dX5_freeFrame_76 ?_
  obtain ⟨h16, hf⟩ := gd_some hf
  refine rL_8 C h16 dX5_freeFrame_77 ?_
  refine g_iconst C (v := (-1)) (by decide) dX5_freeFrame_78 ?_
  refine jn1_elim (fun (t17 : Int32) => GG κ x (cM x S15) 104 [(0, .ref (ax x 30)), (1, .int (S15.1 0 15))] [.int t17, .ref (ax x 30)]) hf (fun t17 hf => ?_) (fun j18 hj18 hf => ?_)
  · show GG κ x (cM x S15) 104 [(0, .ref (ax x 30)), (1, .int (S15.1 0 15))] [.int t17, .ref (ax x 30)]
    refine rP_X5_54 C dX5_freeFrame_104 ?_
    refine g_aload_n C 0 rfl rfl dX5_freeFrame_107 ?_
    obtain ⟨S20, h19, hf⟩ := bd_some hf
    refine g_callVV C (n := 0) (st := []) (c_X5_goOn g (up S15 0 18 t17) h19) (tb_wsV _ mM_X5_51 mI_X5_goOn mS_X5_goOn mN_X5 mK_X5_goOn) (by decide +kernel) rfl rfl ⟨by decide, by decide⟩ 0 5 rfl rfl rfl (Nat.le_of_ble_eq_true rfl) dX5_freeFrame_108 rfl ?_
    refine g_iload_n C 1 rfl rfl dX5_freeFrame_111 ?_
    obtain rfl := Option.some.inj hf
    exact g_iret hr dX5_freeFrame_112
  · skip
    refine jn0_elim (GG κ x (cM x S15) 100 [(0, .ref (ax x 30)), (1, .int (S15.1 0 15))] [.ref (ax x 30)]) hf (fun hf => ?_) (fun j21 hj21 hf => ?_)
    · show GG κ x (cM x S15) 100 [(0, .ref (ax x 30)), (1, .int (S15.1 0 15))] [.ref (ax x 30)]
      refine g_aload_n C 0 rfl rfl dX5_freeFrame_100 ?_
      refine rF_X5_54 C dX5_freeFrame_101 ?_
      refine g_sub [0, 1] rfl ?_
      exact hj18 (S15.1 0 18) hf
    · skip
      refine g_icmp_eq C 100 (by decide) dX5_freeFrame_79 (fun h22 => ?_) (fun h22 => ?_)
      · rw [if_pos h22] at hf
        refine g_sub [1, 0] rfl ?_
        exact hj21 hf
      · rw [if_neg h22] at hf
        refine g_aload_n C 1 rfl rfl dX5_freeFrame_82 ?_
        refine rF_X5_38 C dX5_freeFrame_83 ?_
        refine g_iload_n C 0 rfl rfl dX5_freeFrame_86 ?_
        obtain ⟨h23, hf⟩ := gd_some hf
        refine rL_10 C h23 dX5_freeFrame_87 ?_
        refine g_if_eq C 100 (by decide) dX5_freeFrame_88 (fun h24 => ?_) (fun h24 => ?_)
        · rw [if_pos h24] at hf
          refine g_sub [1, 0] rfl ?_
          exact hj21 hf
        · rw [if_neg h24] at hf
          refine g_aload_n C 1 rfl rfl dX5_freeFrame_91 ?_
          refine rF_X5_54 C dX5_freeFrame_92 ?_
          refine g_iconst C (v := 1) (by decide) dX5_freeFrame_95 ?_
          refine g_iadd C dX5_freeFrame_96 ?_
          refine g_goto C 104 (by decide) dX5_freeFrame_97 ?_
          refine g_sub [1, 0] rfl ?_
          exact hj18 ((S15.1 0 18) + 1) hf
def f_X5_touch (g : Nat) (S : Mem) (a1 : Int32) (a2 : Int32) : Option (Mem) := bd (f_X5_frameOf g S a1) (fun r2 => jn0 (jn2 (fun (S4 : Mem) (v5 : Int32) => gd (ix_in v5 12) (gd (ix_in v5 12) (some (up (up S4 9 v5.toNatClampNeg 1) 11 v5.toNatClampNeg 1)))) (fun j6 => if r2 < 0 then (bd2 (f_X5_freeFrame g S) (fun r11 S12 => gd (ix_in r11 12) (gd (ix_in r11 12) (jn1 (fun (t15 : Int32) => j6 (up (up (up S12 8 r11.toNatClampNeg a1) 10 r11.toNatClampNeg 0) 0 17 t15) r11) (fun j16 => if a2 = 0 then (j16 (((up (up S12 8 r11.toNatClampNeg a1) 10 r11.toNatClampNeg 0).1 0 17) + 1)) else (j16 ((up (up S12 8 r11.toNatClampNeg a1) 10 r11.toNatClampNeg 0).1 0 17))))))) else (j6 (up S 0 16 ((S.1 0 16) + 1)) r2))) (fun j3 => if r2 < 0 then (j3) else (gd (ix_in r2 12) (if (S.1 11 r2.toNatClampNeg) = 0 then (j3) else (some S)))))
abbrev rmX5_touch : Room := { frames := 2, cells := 0, slots := 0, locals := 41 }
set_option maxHeartbeats 4000000 in
set_option maxRecDepth 100000 in
theorem c_X5_touch {l : Launch} {x : Ad} (g : Nat) (S : Mem) (a1 : Int32) (a2 : Int32) {z : Mem} (hf : f_X5_touch g S a1 a2 = some z) : MV l x yX5_touch kX5_touch rmX5_touch [.ref (ax x 30), .int a1, .int a2] (cM x S) (cM x z) := by
  refine met_V RX5 (by decide +kernel) rfl (Nat.le_of_ble_eq_true rfl) [(0, .ref (ax x 30)), (1, .int a1), (2, .int a2)] rfl ?_
  intro κ hl C hr
  subst hl
  rw [f_X5_touch] at hf
  refine g_aload_n C 0 rfl rfl dX5_touch_0 ?_
  refine g_iload_n C 1 rfl rfl dX5_touch_1 ?_
  obtain ⟨r2, h1, hf⟩ := bd_some hf
  refine g_callVI C (n := 1) (st := []) (c_X5_frameOf g S a1 h1) (tb_wsV _ mM_X5_57 mI_X5_frameOf mS_X5_frameOf mN_X5 mK_X5_frameOf) (by decide +kernel) rfl rfl ⟨by decide, by decide⟩ 0 5 rfl rfl rfl (Nat.le_of_ble_eq_true rfl) dX5_touch_2 rfl ?_
  refine g_istore_n C (lv2 := [(3, .int r2), (0, .ref (ax x 30)), (1, .int a1), (2, .int a2)]) rfl (by decide) rfl dX5_touch_5 ?_
  refine g_iload_n C 0 rfl rfl dX5_touch_6 ?_
  refine jn0_elim (GG κ x (cM x S) 20 [(0, .ref (ax x 30)), (1, .int a1), (2, .int a2), (3, .int r2)] []) hf (fun hf => ?_) (fun j3 hj3 hf => ?_)
  · show GG κ x (cM x S) 20 [(0, .ref (ax x 30)), (1, .int a1), (2, .int a2), (3, .int r2)] []
    refine g_iload_n C 3 rfl rfl dX5_touch_20 ?_
    refine jn2_elim (fun (S4 : Mem) (v5 : Int32) => GG κ x (cM x S4) 77 [(0, .ref (ax x 30)), (3, .int v5)] []) hf (fun S4 v5 hf => ?_) (fun j6 hj6 hf => ?_)
    · show GG κ x (cM x S4) 77 [(0, .ref (ax x 30)), (3, .int v5)] []
      refine g_aload_n C 0 rfl rfl dX5_touch_77 ?_
      refine rF_X5_34 C dX5_touch_78 ?_
      refine g_iload_n C 1 rfl rfl dX5_touch_81 ?_
      refine g_iconst C (v := 1) (by decide) dX5_touch_82 ?_
      obtain ⟨h7, hf⟩ := gd_some hf
      refine rS_9 C h7 (by decide) dX5_touch_83 ?_
      refine g_aload_n C 0 rfl rfl dX5_touch_84 ?_
      refine rF_X5_41 C dX5_touch_85 ?_
      refine g_iload_n C 1 rfl rfl dX5_touch_88 ?_
      refine g_iconst C (v := 1) (by decide) dX5_touch_89 ?_
      obtain ⟨h8, hf⟩ := gd_some hf
      refine rS_11 C h8 (by decide) dX5_touch_90 ?_
      obtain rfl := Option.some.inj hf
      exact g_vret hr dX5_touch_91
    · skip
      refine g_if_lt C 37 (by decide) dX5_touch_21 (fun h9 => ?_) (fun h9 => ?_)
      · rw [if_pos h9] at hf
        refine g_aload_n C 0 rfl rfl dX5_touch_37 ?_
        obtain ⟨r11, S12, h10, hf⟩ := bd2_some hf
        refine g_callVI C (n := 0) (st := []) (c_X5_freeFrame g S h10) (tb_wsV _ mM_X5_64 mI_X5_freeFrame mS_X5_freeFrame mN_X5 mK_X5_freeFrame) (by decide +kernel) rfl rfl ⟨by decide, by decide⟩ 0 5 rfl rfl rfl (Nat.le_of_ble_eq_true rfl) dX5_touch_38 rfl ?_
        refine g_istore_n C (lv2 := [(3, .int r11), (0, .ref (ax x 30)), (1, .int a1), (2, .int a2)]) rfl (by decide) rfl dX5_touch_41 ?_
        refine g_aload_n C 1 rfl rfl dX5_touch_42 ?_
        refine rF_X5_31 C dX5_touch_43 ?_
        refine g_iload_n C 0 rfl rfl dX5_touch_46 ?_
        refine g_iload_n C 2 rfl rfl dX5_touch_47 ?_
        obtain ⟨h13, hf⟩ := gd_some hf
        refine rS_8 C h13 dX5_touch_48 ?_
        refine g_aload_n C 1 rfl rfl dX5_touch_49 ?_
        refine rF_X5_38 C dX5_touch_50 ?_
        refine g_iload_n C 0 rfl rfl dX5_touch_53 ?_
        refine g_iconst C (v := 0) (by decide) dX5_touch_54 ?_
        obtain ⟨h14, hf⟩ := gd_some hf
        refine rS_10 C h14 (by decide) dX5_touch_55 ?_
        refine g_aload_n C 1 rfl rfl dX5_touch_56 ?_
        refine g_iload_n C 3 rfl rfl dX5_touch_57 ?_
        refine jn1_elim (fun (t15 : Int32) => GG κ x (cM x (up (up S12 8 r11.toNatClampNeg a1) 10 r11.toNatClampNeg 0)) 74 [(0, .ref (ax x 30)), (3, .int r11)] [.int t15, .ref (ax x 30)]) hf (fun t15 hf => ?_) (fun j16 hj16 hf => ?_)
        · show GG κ x (cM x (up (up S12 8 r11.toNatClampNeg a1) 10 r11.toNatClampNeg 0)) 74 [(0, .ref (ax x 30)), (3, .int r11)] [.int t15, .ref (ax x 30)]
          refine rP_X5_68 C dX5_touch_74 ?_
          refine g_sub [0, 1] rfl ?_
          exact hj6 (up (up (up S12 8 r11.toNatClampNeg a1) 10 r11.toNatClampNeg 0) 0 17 t15) r11 hf
        · skip
          refine g_if_eq C 68 (by decide) dX5_touch_58 (fun h17 => ?_) (fun h17 => ?_)
          · rw [if_pos h17] at hf
            refine g_aload_n C 1 rfl rfl dX5_touch_68 ?_
            refine rF_X5_68 C dX5_touch_69 ?_
            refine g_iconst C (v := 1) (by decide) dX5_touch_72 ?_
            refine g_iadd C dX5_touch_73 ?_
            refine g_sub [1, 0] rfl ?_
            exact hj16 (((up (up S12 8 r11.toNatClampNeg a1) 10 r11.toNatClampNeg 0).1 0 17) + 1) hf
          · rw [if_neg h17] at hf
            refine g_aload_n C 1 rfl rfl dX5_touch_61 ?_
            refine rF_X5_68 C dX5_touch_62 ?_
            refine g_goto C 74 (by decide) dX5_touch_65 ?_
            refine g_sub [1, 0] rfl ?_
            exact hj16 ((up (up S12 8 r11.toNatClampNeg a1) 10 r11.toNatClampNeg 0).1 0 17) hf
      · rw [if_neg h9] at hf
        refine g_aload_n C 0 rfl rfl dX5_touch_24 ?_
        refine g_dup C rfl dX5_touch_25 ?_
        refine rF_X5_61 C dX5_touch_26 ?_
        refine g_iconst C (v := 1) (by decide) dX5_touch_29 ?_
        refine g_iadd C dX5_touch_30 ?_
        refine rP_X5_61 C dX5_touch_31 ?_
        refine g_goto C 77 (by decide) dX5_touch_34 ?_
        refine g_sub [0, 3] rfl ?_
        exact hj6 (up S 0 16 ((S.1 0 16) + 1)) r2 hf
  · skip
    refine g_if_lt C 20 (by decide) dX5_touch_7 (fun h18 => ?_) (fun h18 => ?_)
    · rw [if_pos h18] at hf
      refine g_sub [1, 2, 3, 0] rfl ?_
      exact hj3 hf
    · rw [if_neg h18] at hf
      refine g_aload_n C 1 rfl rfl dX5_touch_10 ?_
      refine rF_X5_41 C dX5_touch_11 ?_
      refine g_iload_n C 0 rfl rfl dX5_touch_14 ?_
      obtain ⟨h19, hf⟩ := gd_some hf
      refine rL_11 C h19 dX5_touch_15 ?_
      refine g_if_eq C 20 (by decide) dX5_touch_16 (fun h20 => ?_) (fun h20 => ?_)
      · rw [if_pos h20] at hf
        refine g_sub [1, 2, 3, 0] rfl ?_
        exact hj3 hf
      · rw [if_neg h20] at hf
        obtain rfl := Option.some.inj hf
        exact g_vret hr dX5_touch_19
def f_X5_change (g : Nat) (S : Mem) (a1 : Int32) : Option (Mem) := bd (f_X5_frameOf g S a1) (fun r2 => gd (ix_in r2 12) (some (up S 10 r2.toNatClampNeg 1)))
abbrev rmX5_change : Room := { frames := 1, cells := 0, slots := 0, locals := 23 }
set_option maxHeartbeats 4000000 in
set_option maxRecDepth 100000 in
theorem c_X5_change {l : Launch} {x : Ad} (g : Nat) (S : Mem) (a1 : Int32) {z : Mem} (hf : f_X5_change g S a1 = some z) : MV l x yX5_change kX5_change rmX5_change [.ref (ax x 30), .int a1] (cM x S) (cM x z) := by
  refine met_V RX5 (by decide +kernel) rfl (Nat.le_of_ble_eq_true rfl) [(0, .ref (ax x 30)), (1, .int a1)] rfl ?_
  intro κ hl C hr
  subst hl
  rw [f_X5_change] at hf
  refine g_aload_n C 0 rfl rfl dX5_change_0 ?_
  refine rF_X5_38 C dX5_change_1 ?_
  refine g_aload_n C 0 rfl rfl dX5_change_4 ?_
  refine g_iload_n C 1 rfl rfl dX5_change_5 ?_
  obtain ⟨r2, h1, hf⟩ := bd_some hf
  refine g_callVI C (n := 1) (st := [.ref (ax x 40)]) (c_X5_frameOf g S a1 h1) (tb_wsV _ mM_X5_57 mI_X5_frameOf mS_X5_frameOf mN_X5 mK_X5_frameOf) (by decide +kernel) rfl rfl ⟨by decide, by decide⟩ 0 5 rfl rfl rfl (Nat.le_of_ble_eq_true rfl) dX5_change_6 rfl ?_
  refine g_iconst C (v := 1) (by decide) dX5_change_9 ?_
  obtain ⟨h3, hf⟩ := gd_some hf
  refine rS_10 C h3 (by decide) dX5_change_10 ?_
  obtain rfl := Option.some.inj hf
  exact g_vret hr dX5_change_11
def f_X5_release (g : Nat) (S : Mem) (a1 : Int32) : Option (Mem) := bd (f_X5_frameOf g S a1) (fun r2 => jn1 (fun (S3 : Mem) => gd (ix_in a1 40) (gd (ix_in a1 40) (gd (ix_in a1 40) (some (up (up (up S3 1 a1.toNatClampNeg 0) 2 a1.toNatClampNeg 0) 5 a1.toNatClampNeg ((-1))))))) (fun j4 => if r2 < 0 then (j4 S) else (gd (ix_in r2 12) (gd (ix_in r2 12) (gd (ix_in r2 12) (gd (ix_in r2 12) (j4 (up (up (up (up S 8 r2.toNatClampNeg ((-1))) 9 r2.toNatClampNeg 0) 10 r2.toNatClampNeg 0) 11 r2.toNatClampNeg 0))))))))
abbrev rmX5_release : Room := { frames := 1, cells := 0, slots := 0, locals := 23 }
set_option maxHeartbeats 4000000 in
set_option maxRecDepth 100000 in
theorem c_X5_release {l : Launch} {x : Ad} (g : Nat) (S : Mem) (a1 : Int32) {z : Mem} (hf : f_X5_release g S a1 = some z) : MV l x yX5_release kX5_release rmX5_release [.ref (ax x 30), .int a1] (cM x S) (cM x z) := by
  refine met_V RX5 (by decide +kernel) rfl (Nat.le_of_ble_eq_true rfl) [(0, .ref (ax x 30)), (1, .int a1)] rfl ?_
  intro κ hl C hr
  subst hl
  rw [f_X5_release] at hf
  refine g_aload_n C 0 rfl rfl dX5_release_0 ?_
  refine g_iload_n C 1 rfl rfl dX5_release_1 ?_
  obtain ⟨r2, h1, hf⟩ := bd_some hf
  refine g_callVI C (n := 1) (st := []) (c_X5_frameOf g S a1 h1) (tb_wsV _ mM_X5_57 mI_X5_frameOf mS_X5_frameOf mN_X5 mK_X5_frameOf) (by decide +kernel) rfl rfl ⟨by decide, by decide⟩ 0 5 rfl rfl rfl (Nat.le_of_ble_eq_true rfl) dX5_release_2 rfl ?_
  refine g_istore_n C (lv2 := [(2, .int r2), (0, .ref (ax x 30)), (1, .int a1)]) rfl (by decide) rfl dX5_release_5 ?_
  refine g_iload_n C 0 rfl rfl dX5_release_6 ?_
  refine jn1_elim (fun (S3 : Mem) => GG κ x (cM x S3) 38 [(0, .ref (ax x 30)), (1, .int a1)] []) hf (fun S3 hf => ?_) (fun j4 hj4 hf => ?_)
  · show GG κ x (cM x S3) 38 [(0, .ref (ax x 30)), (1, .int a1)] []
    refine g_aload_n C 0 rfl rfl dX5_release_38 ?_
    refine rF_X5_7 C dX5_release_39 ?_
    refine g_iload_n C 1 rfl rfl dX5_release_42 ?_
    refine g_iconst C (v := 0) (by decide) dX5_release_43 ?_
    obtain ⟨h5, hf⟩ := gd_some hf
    refine rS_1 C h5 dX5_release_44 ?_
    refine g_aload_n C 0 rfl rfl dX5_release_45 ?_
    refine rF_X5_13 C dX5_release_46 ?_
    refine g_iload_n C 1 rfl rfl dX5_release_49 ?_
    refine g_iconst C (v := 0) (by decide) dX5_release_50 ?_
    obtain ⟨h6, hf⟩ := gd_some hf
    refine rS_2 C h6 dX5_release_51 ?_
    refine g_aload_n C 0 rfl rfl dX5_release_52 ?_
    refine rF_X5_22 C dX5_release_53 ?_
    refine g_iload_n C 1 rfl rfl dX5_release_56 ?_
    refine g_iconst C (v := (-1)) (by decide) dX5_release_57 ?_
    obtain ⟨h7, hf⟩ := gd_some hf
    refine rS_5 C h7 dX5_release_58 ?_
    obtain rfl := Option.some.inj hf
    exact g_vret hr dX5_release_59
  · skip
    refine g_if_lt C 38 (by decide) dX5_release_7 (fun h8 => ?_) (fun h8 => ?_)
    · rw [if_pos h8] at hf
      refine g_sub [1, 2] rfl ?_
      exact hj4 S hf
    · rw [if_neg h8] at hf
      refine g_aload_n C 1 rfl rfl dX5_release_10 ?_
      refine rF_X5_31 C dX5_release_11 ?_
      refine g_iload_n C 0 rfl rfl dX5_release_14 ?_
      refine g_iconst C (v := (-1)) (by decide) dX5_release_15 ?_
      obtain ⟨h9, hf⟩ := gd_some hf
      refine rS_8 C h9 dX5_release_16 ?_
      refine g_aload_n C 1 rfl rfl dX5_release_17 ?_
      refine rF_X5_34 C dX5_release_18 ?_
      refine g_iload_n C 0 rfl rfl dX5_release_21 ?_
      refine g_iconst C (v := 0) (by decide) dX5_release_22 ?_
      obtain ⟨h10, hf⟩ := gd_some hf
      refine rS_9 C h10 (by decide) dX5_release_23 ?_
      refine g_aload_n C 1 rfl rfl dX5_release_24 ?_
      refine rF_X5_38 C dX5_release_25 ?_
      refine g_iload_n C 0 rfl rfl dX5_release_28 ?_
      refine g_iconst C (v := 0) (by decide) dX5_release_29 ?_
      obtain ⟨h11, hf⟩ := gd_some hf
      refine rS_10 C h11 (by decide) dX5_release_30 ?_
      refine g_aload_n C 1 rfl rfl dX5_release_31 ?_
      refine rF_X5_41 C dX5_release_32 ?_
      refine g_iload_n C 0 rfl rfl dX5_release_35 ?_
      refine g_iconst C (v := 0) (by decide) dX5_release_36 ?_
      obtain ⟨h12, hf⟩ := gd_some hf
      refine rS_11 C h12 (by decide) dX5_release_37 ?_
      refine g_sub [1, 2] rfl ?_
      exact hj4 (up (up (up (up S 8 r2.toNatClampNeg ((-1))) 9 r2.toNatClampNeg 0) 10 r2.toNatClampNeg 0) 11 r2.toNatClampNeg 0) hf
def f_X5_find_39 (g : Nat) (S : Mem) (w1 : Int32) (w2 : Int32) (kx : Int32 → Option (Mem)) : Nat → Int32 → Int32 → Option (Mem)
  | 0, _, _ => none
  | n + 1, w3, w4 => gd (ix_in w2 40) (if (S.1 2 w2.toNatClampNeg) ≤ w4 then (kx w3) else (gd (ix_in ((5 * w2) + w4) 200) (if w1 < (S.1 3 ((5 * w2) + w4).toNatClampNeg) then (f_X5_find_39 g S w1 w2 kx n w3 (w4 + 1)) else (f_X5_find_39 g S w1 w2 kx n w4 (w4 + 1)))))
def f_X5_find_24 (g : Nat) (w1 : Int32) : Nat → Mem → Int32 → Option (Mem)
  | 0, _, _ => none
  | n + 1, S, w2 => gd (ix_in w2 40) (if (S.1 1 w2.toNatClampNeg) = 2 then (f_X5_find_39 g S w1 w2 (fun (v9 : Int32) => gd (ix_in ((5 * w2) + v9) 200) (gd (ix_in ((up S 0 8 ((S.1 0 8) + 1)).1 0 8) 50) (gd (ix_in ((up (up S 0 8 ((S.1 0 8) + 1)) 6 ((up S 0 8 ((S.1 0 8) + 1)).1 0 8).toNatClampNeg (S.1 4 ((5 * w2) + v9).toNatClampNeg)).1 0 8) 50) (f_X5_find_24 g w1 n (up (up (up S 0 8 ((S.1 0 8) + 1)) 6 ((up S 0 8 ((S.1 0 8) + 1)).1 0 8).toNatClampNeg (S.1 4 ((5 * w2) + v9).toNatClampNeg)) 7 ((up (up S 0 8 ((S.1 0 8) + 1)) 6 ((up S 0 8 ((S.1 0 8) + 1)).1 0 8).toNatClampNeg (S.1 4 ((5 * w2) + v9).toNatClampNeg)).1 0 8).toNatClampNeg v9) (S.1 4 ((5 * w2) + v9).toNatClampNeg))))) g 0 1) else (some S))
def f_X5_find (g : Nat) (S : Mem) (a1 : Int32) : Option (Mem) := gd (ix_in 0 50) (gd (ix_in 0 50) (f_X5_find_24 g a1 g (up (up (up S 0 8 0) 6 (0 : Int32).toNatClampNeg (S.1 0 6)) 7 (0 : Int32).toNatClampNeg 0) (S.1 0 6)))
abbrev rmX5_find : Room := { frames := 0, cells := 0, slots := 0, locals := 0 }
set_option maxHeartbeats 4000000 in
set_option maxRecDepth 100000 in
theorem lp_X5_find_39 {κ : Kx} {x : Ad} (C : Cx κ x cX5_find RX5 kX5_find rmX5_find 5) (S : Mem) {z : Mem} (hr : RV κ x cX5_find (cM x z)) (g : Nat) (w1 : Int32) (w2 : Int32) (kx : Int32 → Option (Mem)) (hk : ∀ (u3 : Int32), kx u3 = some z → GG κ x (cM x S) 78 [(0, .ref (ax x 30)), (1, .int w1), (2, .int w2), (3, .int u3)] []) : ∀ (n : Nat) (w3 : Int32) (w4 : Int32), f_X5_find_39 g S w1 w2 kx n w3 w4 = some z → GG κ x (cM x S) 39 [(0, .ref (ax x 30)), (1, .int w1), (2, .int w2), (3, .int w3), (4, .int w4)] [] := by
  intro n
  induction n with
  | zero => intro w3 w4 hf; cases hf
  | succ n ih =>
    intro w3 w4 hf
    rw [f_X5_find_39] at hf
    refine g_iload C 4 rfl dX5_find_39 ?_
    refine g_aload_n C 0 rfl rfl dX5_find_41 ?_
    refine rF_X5_13 C dX5_find_42 ?_
    refine g_iload_n C 2 rfl rfl dX5_find_45 ?_
    obtain ⟨h5, hf⟩ := gd_some hf
    refine rL_2 C h5 dX5_find_46 ?_
    refine g_icmp_ge C 78 (by decide) dX5_find_47 (fun h6 => ?_) (fun h6 => ?_)
    · rw [if_pos h6] at hf
      refine g_sub [0, 1, 2, 3] rfl ?_
      exact hk w3 hf
    · rw [if_neg h6] at hf
      refine g_aload_n C 0 rfl rfl dX5_find_50 ?_
      refine rF_X5_16 C dX5_find_51 ?_
      refine g_iconst C (v := 5) (by decide) dX5_find_54 ?_
      refine g_iload_n C 2 rfl rfl dX5_find_55 ?_
      refine g_imul C dX5_find_56 ?_
      refine g_iload C 4 rfl dX5_find_57 ?_
      refine g_iadd C dX5_find_59 ?_
      obtain ⟨h7, hf⟩ := gd_some hf
      refine rL_3 C h7 dX5_find_60 ?_
      refine g_iload_n C 1 rfl rfl dX5_find_61 ?_
      refine g_icmp_gt C 70 (by decide) dX5_find_62 (fun h8 => ?_) (fun h8 => ?_)
      · rw [if_pos h8] at hf
        refine g_iload_n C 3 rfl rfl dX5_find_70 ?_
        refine g_istore_n C (lv2 := [(3, .int w3), (0, .ref (ax x 30)), (1, .int w1), (2, .int w2), (4, .int w4)]) rfl (by decide) rfl dX5_find_71 ?_
        refine g_iinc C (v := w4 + 1) (lv2 := [(4, .int (w4 + 1)), (3, .int w3), (0, .ref (ax x 30)), (1, .int w1), (2, .int w2)]) 4 rfl (by rw [(by decide : Int32.ofInt 1 = 1)]) (by decide) rfl dX5_find_72 ?_
        refine g_goto C 39 (by decide) dX5_find_75 ?_
        refine g_sub [2, 3, 4, 1, 0] rfl ?_
        exact ih w3 (w4 + 1) hf
      · rw [if_neg h8] at hf
        refine g_iload C 4 rfl dX5_find_65 ?_
        refine g_goto C 71 (by decide) dX5_find_67 ?_
        refine g_istore_n C (lv2 := [(3, .int w4), (0, .ref (ax x 30)), (1, .int w1), (2, .int w2), (4, .int w4)]) rfl (by decide) rfl dX5_find_71 ?_
        refine g_iinc C (v := w4 + 1) (lv2 := [(4, .int (w4 + 1)), (3, .int w4), (0, .ref (ax x 30)), (1, .int w1), (2, .int w2)]) 4 rfl (by rw [(by decide : Int32.ofInt 1 = 1)]) (by decide) rfl dX5_find_72 ?_
        refine g_goto C 39 (by decide) dX5_find_75 ?_
        refine g_sub [2, 3, 4, 1, 0] rfl ?_
        exact ih w4 (w4 + 1) hf
set_option maxHeartbeats 4000000 in
set_option maxRecDepth 100000 in
theorem lp_X5_find_24 {κ : Kx} {x : Ad} (C : Cx κ x cX5_find RX5 kX5_find rmX5_find 5) {z : Mem} (hr : RV κ x cX5_find (cM x z)) (g : Nat) (w1 : Int32) : ∀ (n : Nat) (S : Mem) (w2 : Int32), f_X5_find_24 g w1 n S w2 = some z → GG κ x (cM x S) 24 [(0, .ref (ax x 30)), (1, .int w1), (2, .int w2)] [] := by
  intro n
  induction n with
  | zero => intro S w2 hf; cases hf
  | succ n ih =>
    intro S w2 hf
    rw [f_X5_find_24] at hf
    refine g_aload_n C 0 rfl rfl dX5_find_24 ?_
    refine rF_X5_7 C dX5_find_25 ?_
    refine g_iload_n C 2 rfl rfl dX5_find_28 ?_
    obtain ⟨h3, hf⟩ := gd_some hf
    refine rL_1 C h3 dX5_find_29 ?_
    refine g_iconst C (v := 2) (by decide) dX5_find_30 ?_
    refine g_icmp_ne C 122 (by decide) dX5_find_31 (fun h4 => ?_) (fun h4 => ?_)
    · rw [if_neg h4] at hf
      obtain rfl := Option.some.inj hf
      exact g_vret hr dX5_find_122
    · rw [if_pos h4] at hf
      refine g_iconst C (v := 0) (by decide) dX5_find_34 ?_
      refine g_istore_n C (lv2 := [(3, .int 0), (0, .ref (ax x 30)), (1, .int w1), (2, .int w2)]) rfl (by decide) rfl dX5_find_35 ?_
      refine g_iconst C (v := 1) (by decide) dX5_find_36 ?_
      refine g_istore C (lv2 := [(4, .int 1), (3, .int 0), (0, .ref (ax x 30)), (1, .int w1), (2, .int w2)]) (by decide) rfl dX5_find_37 ?_
      refine g_sub [2, 3, 4, 1, 0] rfl ?_
      refine lp_X5_find_39 C S hr g w1 w2 _ (fun v9 hf => ?_) g 0 1 hf
      refine g_aload_n C 0 rfl rfl dX5_find_78 ?_
      refine rF_X5_19 C dX5_find_79 ?_
      refine g_iconst C (v := 5) (by decide) dX5_find_82 ?_
      refine g_iload_n C 2 rfl rfl dX5_find_83 ?_
      refine g_imul C dX5_find_84 ?_
      refine g_iload_n C 3 rfl rfl dX5_find_85 ?_
      refine g_iadd C dX5_find_86 ?_
      obtain ⟨h10, hf⟩ := gd_some hf
      refine rL_4 C h10 dX5_find_87 ?_
      refine g_istore_n C (lv2 := [(2, .int (S.1 4 ((5 * w2) + v9).toNatClampNeg)), (0, .ref (ax x 30)), (1, .int w1), (3, .int v9)]) rfl (by decide) rfl dX5_find_88 ?_
      refine g_aload_n C 1 rfl rfl dX5_find_89 ?_
      refine g_dup C rfl dX5_find_90 ?_
      refine rF_X5_74 C dX5_find_91 ?_
      refine g_iconst C (v := 1) (by decide) dX5_find_94 ?_
      refine g_iadd C dX5_find_95 ?_
      refine rP_X5_74 C dX5_find_96 ?_
      refine g_aload_n C 1 rfl rfl dX5_find_99 ?_
      refine rF_X5_25 C dX5_find_100 ?_
      refine g_aload_n C 1 rfl rfl dX5_find_103 ?_
      refine rF_X5_74 C dX5_find_104 ?_
      refine g_iload_n C 0 rfl rfl dX5_find_107 ?_
      obtain ⟨h11, hf⟩ := gd_some hf
      refine rS_6 C h11 dX5_find_108 ?_
      refine g_aload_n C 1 rfl rfl dX5_find_109 ?_
      refine rF_X5_28 C dX5_find_110 ?_
      refine g_aload_n C 1 rfl rfl dX5_find_113 ?_
      refine rF_X5_74 C dX5_find_114 ?_
      refine g_iload_n C 3 rfl rfl dX5_find_117 ?_
      obtain ⟨h12, hf⟩ := gd_some hf
      refine rS_7 C h12 dX5_find_118 ?_
      refine g_goto C 24 (by decide) dX5_find_119 ?_
      refine g_sub [1, 2, 0] rfl ?_
      exact ih (up (up (up S 0 8 ((S.1 0 8) + 1)) 6 ((up S 0 8 ((S.1 0 8) + 1)).1 0 8).toNatClampNeg (S.1 4 ((5 * w2) + v9).toNatClampNeg)) 7 ((up (up S 0 8 ((S.1 0 8) + 1)) 6 ((up S 0 8 ((S.1 0 8) + 1)).1 0 8).toNatClampNeg (S.1 4 ((5 * w2) + v9).toNatClampNeg)).1 0 8).toNatClampNeg v9) (S.1 4 ((5 * w2) + v9).toNatClampNeg) hf
set_option maxHeartbeats 4000000 in
set_option maxRecDepth 100000 in
theorem c_X5_find {l : Launch} {x : Ad} (g : Nat) (S : Mem) (a1 : Int32) {z : Mem} (hf : f_X5_find g S a1 = some z) : MV l x yX5_find kX5_find rmX5_find [.ref (ax x 30), .int a1] (cM x S) (cM x z) := by
  refine met_V RX5 (by decide +kernel) rfl (Nat.le_of_ble_eq_true rfl) [(0, .ref (ax x 30)), (1, .int a1)] rfl ?_
  intro κ hl C hr
  subst hl
  rw [f_X5_find] at hf
  refine g_aload_n C 0 rfl rfl dX5_find_0 ?_
  refine rF_X5_71 C dX5_find_1 ?_
  refine g_istore_n C (lv2 := [(2, .int (S.1 0 6)), (0, .ref (ax x 30)), (1, .int a1)]) rfl (by decide) rfl dX5_find_4 ?_
  refine g_aload_n C 1 rfl rfl dX5_find_5 ?_
  refine g_iconst C (v := 0) (by decide) dX5_find_6 ?_
  refine rP_X5_74 C dX5_find_7 ?_
  refine g_aload_n C 1 rfl rfl dX5_find_10 ?_
  refine rF_X5_25 C dX5_find_11 ?_
  refine g_iconst C (v := 0) (by decide) dX5_find_14 ?_
  refine g_iload_n C 0 rfl rfl dX5_find_15 ?_
  obtain ⟨h1, hf⟩ := gd_some hf
  refine rS_6 C h1 dX5_find_16 ?_
  refine g_aload_n C 1 rfl rfl dX5_find_17 ?_
  refine rF_X5_28 C dX5_find_18 ?_
  refine g_iconst C (v := 0) (by decide) dX5_find_21 ?_
  refine g_iconst C (v := 0) (by decide) dX5_find_22 ?_
  obtain ⟨h2, hf⟩ := gd_some hf
  refine rS_7 C h2 dX5_find_23 ?_
  refine g_sub [1, 2, 0] rfl ?_
  exact lp_X5_find_24 C hr g a1 g (up (up (up S 0 8 0) 6 (0 : Int32).toNatClampNeg (S.1 0 6)) 7 (0 : Int32).toNatClampNeg 0) (S.1 0 6) hf
def f_X5_touchWay_2 (g : Nat)  : Nat → Mem → Int32 → Option (Mem)
  | 0, _, _ => none
  | n + 1, S, w1 => if (S.1 0 8) < w1 then (some S) else (gd (ix_in w1 50) (bd (f_X5_touch g S (S.1 6 w1.toNatClampNeg) 0) (fun S4 => f_X5_touchWay_2 g n S4 (w1 + 1))))
def f_X5_touchWay (g : Nat) (S : Mem) : Option (Mem) := f_X5_touchWay_2 g g S 0
abbrev rmX5_touchWay : Room := { frames := 3, cells := 0, slots := 0, locals := 64 }
set_option maxHeartbeats 4000000 in
set_option maxRecDepth 100000 in
theorem lp_X5_touchWay_2 {κ : Kx} {x : Ad} (C : Cx κ x cX5_touchWay RX5 kX5_touchWay rmX5_touchWay 2) {z : Mem} (hr : RV κ x cX5_touchWay (cM x z)) (g : Nat)  : ∀ (n : Nat) (S : Mem) (w1 : Int32), f_X5_touchWay_2 g n S w1 = some z → GG κ x (cM x S) 2 [(0, .ref (ax x 30)), (1, .int w1)] [] := by
  intro n
  induction n with
  | zero => intro S w1 hf; cases hf
  | succ n ih =>
    intro S w1 hf
    rw [f_X5_touchWay_2] at hf
    refine g_iload_n C 1 rfl rfl dX5_touchWay_2 ?_
    refine g_aload_n C 0 rfl rfl dX5_touchWay_3 ?_
    refine rF_X5_74 C dX5_touchWay_4 ?_
    refine g_icmp_gt C 27 (by decide) dX5_touchWay_7 (fun h1 => ?_) (fun h1 => ?_)
    · rw [if_pos h1] at hf
      obtain rfl := Option.some.inj hf
      exact g_vret hr dX5_touchWay_27
    · rw [if_neg h1] at hf
      refine g_aload_n C 0 rfl rfl dX5_touchWay_10 ?_
      refine g_aload_n C 0 rfl rfl dX5_touchWay_11 ?_
      refine rF_X5_25 C dX5_touchWay_12 ?_
      refine g_iload_n C 1 rfl rfl dX5_touchWay_15 ?_
      obtain ⟨h2, hf⟩ := gd_some hf
      refine rL_6 C h2 dX5_touchWay_16 ?_
      refine g_iconst C (v := 0) (by decide) dX5_touchWay_17 ?_
      obtain ⟨S4, h3, hf⟩ := bd_some hf
      refine g_callVV C (n := 2) (st := []) (c_X5_touch g S (S.1 6 w1.toNatClampNeg) 0 h3) (tb_wsV _ mM_X5_77 mI_X5_touch mS_X5_touch mN_X5 mK_X5_touch) (by decide +kernel) rfl rfl ⟨by decide, by decide⟩ 0 5 rfl rfl rfl (Nat.le_of_ble_eq_true rfl) dX5_touchWay_18 rfl ?_
      refine g_iinc C (v := w1 + 1) (lv2 := [(1, .int (w1 + 1)), (0, .ref (ax x 30))]) 1 rfl (by rw [(by decide : Int32.ofInt 1 = 1)]) (by decide) rfl dX5_touchWay_21 ?_
      refine g_goto C 2 (by decide) dX5_touchWay_24 ?_
      refine g_sub [1, 0] rfl ?_
      exact ih S4 (w1 + 1) hf
set_option maxHeartbeats 4000000 in
set_option maxRecDepth 100000 in
theorem c_X5_touchWay {l : Launch} {x : Ad} (g : Nat) (S : Mem) {z : Mem} (hf : f_X5_touchWay g S = some z) : MV l x yX5_touchWay kX5_touchWay rmX5_touchWay [.ref (ax x 30)] (cM x S) (cM x z) := by
  refine met_V RX5 (by decide +kernel) rfl (Nat.le_of_ble_eq_true rfl) [(0, .ref (ax x 30))] rfl ?_
  intro κ hl C hr
  subst hl
  rw [f_X5_touchWay] at hf
  refine g_iconst C (v := 0) (by decide) dX5_touchWay_0 ?_
  refine g_istore_n C (lv2 := [(1, .int 0), (0, .ref (ax x 30))]) rfl (by decide) rfl dX5_touchWay_1 ?_
  refine g_sub [1, 0] rfl ?_
  exact lp_X5_touchWay_2 C hr g g S 0 hf
