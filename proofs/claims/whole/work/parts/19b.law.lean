def f_law (g L : Nat) (xs : Nat → Int32) : Nat → Mem → Mem → (Nat → Int64) → Int32 → Option Int32
  | 0, _, _, _, _ => none
  | n + 1, S, R9, o, i => if ((Int32.ofNat L) - 4) < i then (some 1) else (gd (ix_in i L) (if ((xs i.toNatClampNeg) &&& 15) = 0 then (gd (ix_in (i + 1) L) (gd (ix_in (i + 2) L) (bd (f_L_put g S o (xs (i + 1).toNatClampNeg) (xs (i + 2).toNatClampNeg)) (fun z10 => gd (ix_in (i + 1) L) (gd (ix_in (i + 2) L) (bd2 (f_X5_put g R9 (xs (i + 1).toNatClampNeg) (xs (i + 2).toNatClampNeg)) (fun r15 S16 => bd (f_X5_thrown g S16) (fun r18 => if r18 = z10.1 then (if z10.1 = 0 then (jn1 (fun (t21 : Int64) => if (lg_cmp (z10.2.2 (0 : Int32).toNatClampNeg) t21) = 0 then (f_law g L xs n z10.2.1 S16 z10.2.2 (i + 4)) else (some 0)) (fun j22 => if r15 = 0 then (j22 0) else (j22 1))) else (f_law g L xs n z10.2.1 S16 z10.2.2 (i + 4))) else (some 0))))))))) else (if ((xs i.toNatClampNeg) &&& 15) = 1 then (gd (ix_in (i + 1) L) (bd (f_L_get g S o (xs (i + 1).toNatClampNeg)) (fun z31 => gd (ix_in (i + 1) L) (bd2 (f_X5_get g R9 (xs (i + 1).toNatClampNeg)) (fun r35 S36 => bd (f_X5_thrown g S36) (fun r38 => if r38 = z31.1 then (if z31.1 = 0 then (if (lg_cmp (z31.2.2 (0 : Int32).toNatClampNeg) r35.toInt64) = 0 then (f_law g L xs n z31.2.1 S36 z31.2.2 (i + 4)) else (some 0)) else (f_law g L xs n z31.2.1 S36 z31.2.2 (i + 4))) else (some 0))))))) else (if ((xs i.toNatClampNeg) &&& 15) = 2 then (gd (ix_in (i + 1) L) (bd2 (f_X4_remove g S (xs (i + 1).toNatClampNeg)) (fun r45 S46 => gd (ix_in (i + 1) L) (bd2 (f_X5_remove g R9 (xs (i + 1).toNatClampNeg)) (fun r49 S50 => if r45 = r49 then (f_law g L xs n S46 S50 o (i + 4)) else (some 0)))))) else (if ((xs i.toNatClampNeg) &&& 15) = 3 then (gd (ix_in (i + 1) L) (bd2 (f_X4_seek g S (xs (i + 1).toNatClampNeg)) (fun r55 S56 => gd (ix_in (i + 1) L) (bd2 (f_X5_seek g R9 (xs (i + 1).toNatClampNeg)) (fun r59 S60 => if r55 = r59 then (f_law g L xs n S56 S60 o (i + 4)) else (some 0)))))) else (if ((xs i.toNatClampNeg) &&& 15) = 4 then (bd (f_L_next g S o ) (fun z67 => bd2 (f_X5_next g R9) (fun r70 S71 => bd (f_X5_thrown g S71) (fun r73 => if r73 = z67.1 then (if z67.1 = 0 then (jn1 (fun (t76 : Int64) => if (lg_cmp (z67.2.2 (0 : Int32).toNatClampNeg) t76) = 0 then (f_law g L xs n z67.2.1 S71 z67.2.2 (i + 4)) else (some 0)) (fun j77 => if r70 = 0 then (j77 0) else (j77 1))) else (f_law g L xs n z67.2.1 S71 z67.2.2 (i + 4))) else (some 0))))) else (if ((xs i.toNatClampNeg) &&& 15) = 5 then (gd (ix_in (i + 1) L) (jn1 (fun (t82 : Int32) => bd (f_L_cursor g S o t82) (fun z88 => gd (ix_in (i + 1) L) (jn1 (fun (t91 : Int32) => bd2 (f_X5_cursor g R9 t91) (fun r94 S95 => bd (f_X5_thrown g S95) (fun r97 => if r97 = z88.1 then (if z88.1 = 0 then (if (lg_cmp (z88.2.2 (0 : Int32).toNatClampNeg) r94.toInt64) = 0 then (f_law g L xs n z88.2.1 S95 z88.2.2 (i + 4)) else (some 0)) else (f_law g L xs n z88.2.1 S95 z88.2.2 (i + 4))) else (some 0)))) (fun j92 => if (xs (i + 1).toNatClampNeg) = 0 then (j92 0) else (j92 1))))) (fun j83 => if (xs (i + 1).toNatClampNeg) = 0 then (j83 0) else (j83 1)))) else (if ((xs i.toNatClampNeg) &&& 15) = 6 then (bd2 (f_X4_flush g S) (fun r105 S106 => bd2 (f_X5_flush g R9) (fun r108 S109 => if r105 = r108 then (f_law g L xs n S106 S109 o (i + 4)) else (some 0)))) else (if ((xs i.toNatClampNeg) &&& 15) = 7 then (bd (f_L_drop g S o ) (fun z116 => bd2 (f_X5_drop g R9) (fun r119 S120 => bd (f_X5_thrown g S120) (fun r122 => if r122 = z116.1 then (if z116.1 = 0 then (if (lg_cmp (z116.2.2 (0 : Int32).toNatClampNeg) r119.toInt64) = 0 then (f_law g L xs n z116.2.1 S120 z116.2.2 (i + 4)) else (some 0)) else (f_law g L xs n z116.2.1 S120 z116.2.2 (i + 4))) else (some 0))))) else (if ((xs i.toNatClampNeg) &&& 15) = 8 then (gd (ix_in (i + 1) L) (gd (ix_in (i + 2) L) (bd (f_L_page g S o (xs (i + 1).toNatClampNeg) (xs (i + 2).toNatClampNeg)) (fun z133 => gd (ix_in (i + 1) L) (gd (ix_in (i + 2) L) (bd2 (f_X5_page g R9 (xs (i + 1).toNatClampNeg) (xs (i + 2).toNatClampNeg)) (fun r138 S139 => bd (f_X5_thrown g S139) (fun r141 => if r141 = z133.1 then (if z133.1 = 0 then (if (lg_cmp (z133.2.2 (0 : Int32).toNatClampNeg) r138.toInt64) = 0 then (f_law g L xs n z133.2.1 S139 z133.2.2 (i + 4)) else (some 0)) else (f_law g L xs n z133.2.1 S139 z133.2.2 (i + 4))) else (some 0))))))))) else (if ((xs i.toNatClampNeg) &&& 15) = 9 then (gd (ix_in (i + 1) L) (gd (ix_in (i + 2) L) (gd (ix_in (i + 3) L) (jn1 (fun (t149 : Int32) => bd (f_L_item g S o (xs (i + 1).toNatClampNeg) (xs (i + 2).toNatClampNeg) t149) (fun z155 => gd (ix_in (i + 1) L) (gd (ix_in (i + 2) L) (gd (ix_in (i + 3) L) (jn1 (fun (t160 : Int32) => bd2 (f_X5_item g R9 (xs (i + 1).toNatClampNeg) (xs (i + 2).toNatClampNeg) t160) (fun r163 S164 => bd (f_X5_thrown g S164) (fun r166 => if r166 = z155.1 then (if z155.1 = 0 then (if (lg_cmp (z155.2.2 (0 : Int32).toNatClampNeg) r163.toInt64) = 0 then (f_law g L xs n z155.2.1 S164 z155.2.2 (i + 4)) else (some 0)) else (f_law g L xs n z155.2.1 S164 z155.2.2 (i + 4))) else (some 0)))) (fun j161 => if (xs (i + 3).toNatClampNeg) = 0 then (j161 0) else (j161 1))))))) (fun j150 => if (xs (i + 3).toNatClampNeg) = 0 then (j150 0) else (j150 1)))))) else (if ((xs i.toNatClampNeg) &&& 15) = 10 then (gd (ix_in (i + 1) L) (gd (ix_in (i + 2) L) (bd (f_L_frame g S o (xs (i + 1).toNatClampNeg) (xs (i + 2).toNatClampNeg)) (fun z179 => gd (ix_in (i + 1) L) (gd (ix_in (i + 2) L) (bd2 (f_X5_frame g R9 (xs (i + 1).toNatClampNeg) (xs (i + 2).toNatClampNeg)) (fun r184 S185 => bd (f_X5_thrown g S185) (fun r187 => if r187 = z179.1 then (if z179.1 = 0 then (if (lg_cmp (z179.2.2 (0 : Int32).toNatClampNeg) r184.toInt64) = 0 then (f_law g L xs n z179.2.1 S185 z179.2.2 (i + 4)) else (some 0)) else (f_law g L xs n z179.2.1 S185 z179.2.2 (i + 4))) else (some 0))))))))) else (if ((xs i.toNatClampNeg) &&& 15) = 11 then (gd (ix_in (i + 1) L) (bd (f_X4_told g S (xs (i + 1).toNatClampNeg)) (fun r194 => gd (ix_in (i + 1) L) (bd2 (f_X5_told g R9 (xs (i + 1).toNatClampNeg)) (fun r197 S198 => if r194 = r197 then (f_law g L xs n S S198 o (i + 4)) else (some 0)))))) else (if ((xs i.toNatClampNeg) &&& 15) = 12 then (bd2 (f_X4_astray g S) (fun r202 S203 => bd2 (f_X5_astray g R9) (fun r205 S206 => if r202 = r205 then (f_law g L xs n S203 S206 o (i + 4)) else (some 0)))) else (f_law g L xs n S R9 o (i + 4))))))))))))))))
set_option maxHeartbeats 40000000 in
set_option maxRecDepth 100000 in
theorem law_loop {p : Program} {l : Launch} {e : Env} {R : Room} {s : State} {m : MethodId} {args : Array Value} {below : List Frame} {meth : Method} {c : Code} {A : Nat → Prop} {Q : State → Prop} {x : Ad} {c1 : Cond} {b L : Nat} {xs : Nat → Int32} (hl0 : l.stackTraces = false) (hX : va_X b L xs s s.heap) (hbl : b < s.heap.size) (hbA : ¬ A b) (hXS : XS A s s.heap) (g : Nat)
    (C0 : ∀ a d : Nat, a ≤ 173 → d ≤ 2595 → Cx (p, l, e, R, s, m, args, below, meth, c, A, 7, a, d, Q) x code R_law c1 room_1 7)
    (hret : ∀ a d : Nat, a ≤ 173 → d ≤ 2595 → ∀ (x : Ad) (w : va_W) (pc : Nat) (lv : List (Nat × Value)) (_ _ : Unit), decode code pc = .ok (.ireturn, 1) → GG (p, l, e, R, s, m, args, below, meth, c, A, 7, a, d, Q) x w pc lv [.int 1]) : ∀ (n j : Nat) (S R9 : Mem) (o : Nat → Int64) (i : Int32), j + n ≤ 130 → f_law g L xs n S R9 o i = some 1 → GG (p, l, e, R, s, m, args, below, meth, c, A, 7, 34 + j, 1505 + 6 * j, Q) x (wL x S R9 o) 23 [(0, .ref b), (1, .ref (ax x 0)), (2, .ref (ax x 30)), (3, .ref (ax x 50)), (4, .int i)] [] := by
  intro n
  induction n with
  | zero => intro j S R9 o i hj hf; cases hf
  | succ n ih =>
    intro j S R9 o i hj hf
    rw [f_law] at hf
    have C := C0 (34 + j) (1505 + 6 * j) (by omega) (by omega)
    refine g_iload C 4 rfl dL_law_23 ?_
    refine g_aload_n C 0 rfl rfl dL_law_25 ?_
    refine g_slen C hX hbl hbA dL_law_26 ?_
    refine g_iconst C (v := 4) (by decide) dL_law_27 ?_
    refine g_isub C dL_law_28 ?_
    refine g_icmp_gt C 741 (by decide) dL_law_29 (fun h1 => ?_) (fun h1 => ?_)
    · rw [if_pos h1] at hf
      refine g_iconst C (v := 1) (by decide) dL_law_741 ?_
      exact hret _ _ (by omega) (by omega) _ _ _ _ () () dL_law_742
    · rw [if_neg h1] at hf
      refine g_aload_n C 0 rfl rfl dL_law_32 ?_
      refine g_iload C 4 rfl dL_law_33 ?_
      obtain ⟨h2, hf⟩ := gd_some hf
      refine g_sld C hX hbl hbA h2 dL_law_35 ?_
      refine g_bipush C (v := 15) (by decide) dL_law_36 ?_
      refine g_iand C dL_law_38 ?_
      by_cases h3 : ((xs i.toNatClampNeg) &&& 15) = 0
      · rw [if_pos h3] at hf
        refine g_top h3 ?_
        refine g_tin C 104 (by decide) (by decide) (by rfl) (by decide) dL_law_39 ?_
        refine g_aload_n C 1 rfl rfl dL_law_104 ?_
        refine g_aload_n C 0 rfl rfl dL_law_105 ?_
        refine g_iload C 4 rfl dL_law_106 ?_
        refine g_iconst C (v := 1) (by decide) dL_law_108 ?_
        refine g_iadd C dL_law_109 ?_
        obtain ⟨h4, hf⟩ := gd_some hf
        refine g_sld C hX hbl hbA h4 dL_law_110 ?_
        refine g_aload_n C 0 rfl rfl dL_law_111 ?_
        refine g_iload C 4 rfl dL_law_112 ?_
        refine g_iconst C (v := 2) (by decide) dL_law_114 ?_
        refine g_iadd C dL_law_115 ?_
        obtain ⟨h5, hf⟩ := gd_some hf
        refine g_sld C hX hbl hbA h5 dL_law_116 ?_
        refine g_aload_n C 3 rfl rfl dL_law_117 ?_
        obtain ⟨z10, h6, hf⟩ := bd_some hf
        refine g_rot ?_
        refine g_callH C hXS (n := 4) (st := []) (c_L_put hl0 g S o (xs (i + 1).toNatClampNeg) (xs (i + 2).toNatClampNeg) h6) (tb_wsX _ mM_L_54 mT_L_put mN_L mK_L_put) (by decide +kernel) rfl rfl ⟨by decide, by decide⟩ rfl (by show _ ≤ 173; omega) (by show _ ≤ 2595; omega) (Nat.le_of_ble_eq_true rfl) dL_law_118 rfl ?_
        refine g_rot ?_
        have C := n_add C (a := 1) (b := 6) (by show _ ≤ 173; omega) (by show _ ≤ 2595; omega)
        show GG _ x (wL x z10.2.1 R9 z10.2.2) _ _ _
        refine g_istore C (lv2 := [(5, .int z10.1), (0, .ref b), (1, .ref (ax x 0)), (2, .ref (ax x 30)), (3, .ref (ax x 50)), (4, .int i)]) (by decide) rfl dL_law_121 ?_
        refine g_aload_n C 3 rfl rfl dL_law_123 ?_
        refine g_aload_n C 1 rfl rfl dL_law_124 ?_
        refine g_iload C 5 rfl dL_law_125 ?_
        refine g_iconst C (v := 1) (by decide) dL_law_127 ?_
        refine g_iadd C dL_law_128 ?_
        obtain ⟨h12, hf⟩ := gd_some hf
        refine g_sld C hX hbl hbA h12 dL_law_129 ?_
        refine g_aload_n C 1 rfl rfl dL_law_130 ?_
        refine g_iload C 5 rfl dL_law_131 ?_
        refine g_iconst C (v := 2) (by decide) dL_law_133 ?_
        refine g_iadd C dL_law_134 ?_
        obtain ⟨h13, hf⟩ := gd_some hf
        refine g_sld C hX hbl hbA h13 dL_law_135 ?_
        obtain ⟨r15, S16, h14, hf⟩ := bd2_some hf
        refine g_rot ?_
        refine g_callPI C (n := 2) (ci := 5) (st := []) (c_X5_put g R9 (xs (i + 1).toNatClampNeg) (xs (i + 2).toNatClampNeg) h14) (tb_wsV _ mM_L_59 mI_X5_put mS_X5_put mN_X5 mK_X5_put) (by decide +kernel) rfl rfl ⟨by decide, by decide⟩ 0 rfl rfl rfl (Nat.le_of_ble_eq_true rfl) dL_law_136 rfl ?_
        refine g_rot ?_
        show GG _ x (wL x z10.2.1 S16 z10.2.2) _ _ _
        refine g_istore C (lv2 := [(6, .int r15), (5, .int z10.1), (0, .ref b), (1, .ref (ax x 0)), (2, .ref (ax x 30)), (3, .ref (ax x 50)), (4, .int i)]) (by decide) rfl dL_law_139 ?_
        refine g_aload_n C 4 rfl rfl dL_law_141 ?_
        obtain ⟨r18, h17, hf⟩ := bd_some hf
        refine g_rot ?_
        refine g_callPI C (n := 0) (ci := 5) (st := []) (c_X5_thrown g S16 h17) (tb_wsV _ mM_L_60 mI_X5_thrown mS_X5_thrown mN_X5 mK_X5_thrown) (by decide +kernel) rfl rfl ⟨by decide, by decide⟩ 0 rfl rfl rfl (Nat.le_of_ble_eq_true rfl) dL_law_142 rfl ?_
        refine g_rot ?_
        show GG _ x (wL x z10.2.1 S16 z10.2.2) _ _ _
        refine g_iload C 1 rfl dL_law_145 ?_
        refine g_icmp_eq C 152 (by decide) dL_law_147 (fun h19 => ?_) (fun h19 => ?_)
        · rw [if_pos h19] at hf
          refine g_iload C 1 rfl dL_law_152 ?_
          refine g_if_ne C 176 (by decide) dL_law_154 (fun h20 => ?_) (fun h20 => ?_)
          · rw [if_neg h20] at hf
            refine g_goto C 735 (by decide) dL_law_176 ?_
            refine g_iinc C (v := i + 4) (lv2 := [(4, .int (i + 4)), (6, .int r15), (5, .int z10.1), (0, .ref b), (1, .ref (ax x 0)), (2, .ref (ax x 30)), (3, .ref (ax x 50))]) 6 rfl (by rw [(by decide : Int32.ofInt 4 = 4)]) (by decide) rfl dL_law_735 ?_
            refine g_goto C 23 (by decide) dL_law_738 ?_
            refine g_sub [3, 4, 5, 6, 0] rfl ?_
            refine g_wide (a := 34 + (j + 1)) (b := 1505 + 6 * (j + 1)) (by omega) (by omega) ?_
            exact ih (j + 1) z10.2.1 S16 z10.2.2 (i + 4) (by omega) hf
          · rw [if_pos h20] at hf
            refine g_aload_n C 5 rfl rfl dL_law_157 ?_
            refine g_iconst C (v := 0) (by decide) dL_law_158 ?_
            refine g_lald C 33 rfl (by show ix_in 0 1; decide) dL_law_159 ?_
            refine g_iload C 0 rfl dL_law_160 ?_
            refine jn1_elim (fun (t21 : Int64) => GG (p, l, e, R, s, m, args, below, meth, c, A, 7, 34 + j + 1, 1505 + 6 * j + 6, Q) x (wL x z10.2.1 S16 z10.2.2) 170 [(0, .ref b), (1, .ref (ax x 0)), (2, .ref (ax x 30)), (3, .ref (ax x 50)), (4, .int i)] [.long t21, .long (z10.2.2 (0 : Int32).toNatClampNeg)]) hf (fun t21 hf => ?_) (fun j22 hj22 hf => ?_)
            · show GG (p, l, e, R, s, m, args, below, meth, c, A, 7, 34 + j + 1, 1505 + 6 * j + 6, Q) x (wL x z10.2.1 S16 z10.2.2) 170 [(0, .ref b), (1, .ref (ax x 0)), (2, .ref (ax x 30)), (3, .ref (ax x 50)), (4, .int i)] [.long t21, .long (z10.2.2 (0 : Int32).toNatClampNeg)]
              refine g_lcmp C dL_law_170 ?_
              refine g_if_eq C 176 (by decide) dL_law_171 (fun h23 => ?_) (fun h23 => ?_)
              · rw [if_pos h23] at hf
                refine g_goto C 735 (by decide) dL_law_176 ?_
                refine g_iinc C (v := i + 4) (lv2 := [(4, .int (i + 4)), (0, .ref b), (1, .ref (ax x 0)), (2, .ref (ax x 30)), (3, .ref (ax x 50))]) 4 rfl (by rw [(by decide : Int32.ofInt 4 = 4)]) (by decide) rfl dL_law_735 ?_
                refine g_goto C 23 (by decide) dL_law_738 ?_
                refine g_sub [1, 2, 3, 4, 0] rfl ?_
                refine g_wide (a := 34 + (j + 1)) (b := 1505 + 6 * (j + 1)) (by omega) (by omega) ?_
                exact ih (j + 1) z10.2.1 S16 z10.2.2 (i + 4) (by omega) hf
              · rw [if_neg h23] at hf
                refine g_iconst C (v := 0) (by decide) dL_law_174 ?_
                exact absurd (Option.some.inj hf) (by decide)
            · skip
              refine g_if_eq C 169 (by decide) dL_law_162 (fun h24 => ?_) (fun h24 => ?_)
              · rw [if_pos h24] at hf
                refine g_lconst C (v := 0) (by decide) dL_law_169 ?_
                refine g_sub [2, 3, 4, 5, 6] rfl ?_
                exact hj22 0 hf
              · rw [if_neg h24] at hf
                refine g_lconst C (v := 1) (by decide) dL_law_165 ?_
                refine g_goto C 170 (by decide) dL_law_166 ?_
                refine g_sub [2, 3, 4, 5, 6] rfl ?_
                exact hj22 1 hf
        · rw [if_neg h19] at hf
          refine g_iconst C (v := 0) (by decide) dL_law_150 ?_
          exact absurd (Option.some.inj hf) (by decide)
      rw [if_neg h3] at hf
      by_cases h25 : ((xs i.toNatClampNeg) &&& 15) = 1
      · rw [if_pos h25] at hf
        refine g_top h25 ?_
        refine g_tin C 179 (by decide) (by decide) (by rfl) (by decide) dL_law_39 ?_
        refine g_aload_n C 1 rfl rfl dL_law_179 ?_
        refine g_aload_n C 0 rfl rfl dL_law_180 ?_
        refine g_iload C 4 rfl dL_law_181 ?_
        refine g_iconst C (v := 1) (by decide) dL_law_183 ?_
        refine g_iadd C dL_law_184 ?_
        obtain ⟨h26, hf⟩ := gd_some hf
        refine g_sld C hX hbl hbA h26 dL_law_185 ?_
        refine g_aload_n C 3 rfl rfl dL_law_186 ?_
        obtain ⟨z31, h27, hf⟩ := bd_some hf
        refine g_rot ?_
        refine g_callH C hXS (n := 3) (st := []) (c_L_get hl0 g S o (xs (i + 1).toNatClampNeg) h27) (tb_wsX _ mM_L_63 mT_L_get mN_L mK_L_get) (by decide +kernel) rfl rfl ⟨by decide, by decide⟩ rfl (by show _ ≤ 173; omega) (by show _ ≤ 2595; omega) (Nat.le_of_ble_eq_true rfl) dL_law_187 rfl ?_
        refine g_rot ?_
        have C := n_add C (a := 1) (b := 6) (by show _ ≤ 173; omega) (by show _ ≤ 2595; omega)
        show GG _ x (wL x z31.2.1 R9 z31.2.2) _ _ _
        refine g_istore C (lv2 := [(5, .int z31.1), (0, .ref b), (1, .ref (ax x 0)), (2, .ref (ax x 30)), (3, .ref (ax x 50)), (4, .int i)]) (by decide) rfl dL_law_190 ?_
        refine g_aload_n C 3 rfl rfl dL_law_192 ?_
        refine g_aload_n C 1 rfl rfl dL_law_193 ?_
        refine g_iload C 5 rfl dL_law_194 ?_
        refine g_iconst C (v := 1) (by decide) dL_law_196 ?_
        refine g_iadd C dL_law_197 ?_
        obtain ⟨h33, hf⟩ := gd_some hf
        refine g_sld C hX hbl hbA h33 dL_law_198 ?_
        obtain ⟨r35, S36, h34, hf⟩ := bd2_some hf
        refine g_rot ?_
        refine g_callPI C (n := 1) (ci := 5) (st := []) (c_X5_get g R9 (xs (i + 1).toNatClampNeg) h34) (tb_wsV _ mM_L_66 mI_X5_get mS_X5_get mN_X5 mK_X5_get) (by decide +kernel) rfl rfl ⟨by decide, by decide⟩ 0 rfl rfl rfl (Nat.le_of_ble_eq_true rfl) dL_law_199 rfl ?_
        refine g_rot ?_
        show GG _ x (wL x z31.2.1 S36 z31.2.2) _ _ _
        refine g_istore C (lv2 := [(6, .int r35), (5, .int z31.1), (0, .ref b), (1, .ref (ax x 0)), (2, .ref (ax x 30)), (3, .ref (ax x 50)), (4, .int i)]) (by decide) rfl dL_law_202 ?_
        refine g_aload_n C 4 rfl rfl dL_law_204 ?_
        obtain ⟨r38, h37, hf⟩ := bd_some hf
        refine g_rot ?_
        refine g_callPI C (n := 0) (ci := 5) (st := []) (c_X5_thrown g S36 h37) (tb_wsV _ mM_L_60 mI_X5_thrown mS_X5_thrown mN_X5 mK_X5_thrown) (by decide +kernel) rfl rfl ⟨by decide, by decide⟩ 0 rfl rfl rfl (Nat.le_of_ble_eq_true rfl) dL_law_205 rfl ?_
        refine g_rot ?_
        show GG _ x (wL x z31.2.1 S36 z31.2.2) _ _ _
        refine g_iload C 1 rfl dL_law_208 ?_
        refine g_icmp_eq C 215 (by decide) dL_law_210 (fun h39 => ?_) (fun h39 => ?_)
        · rw [if_pos h39] at hf
          refine g_iload C 1 rfl dL_law_215 ?_
          refine g_if_ne C 232 (by decide) dL_law_217 (fun h40 => ?_) (fun h40 => ?_)
          · rw [if_neg h40] at hf
            refine g_goto C 735 (by decide) dL_law_232 ?_
            refine g_iinc C (v := i + 4) (lv2 := [(4, .int (i + 4)), (6, .int r35), (5, .int z31.1), (0, .ref b), (1, .ref (ax x 0)), (2, .ref (ax x 30)), (3, .ref (ax x 50))]) 6 rfl (by rw [(by decide : Int32.ofInt 4 = 4)]) (by decide) rfl dL_law_735 ?_
            refine g_goto C 23 (by decide) dL_law_738 ?_
            refine g_sub [3, 4, 5, 6, 0] rfl ?_
            refine g_wide (a := 34 + (j + 1)) (b := 1505 + 6 * (j + 1)) (by omega) (by omega) ?_
            exact ih (j + 1) z31.2.1 S36 z31.2.2 (i + 4) (by omega) hf
          · rw [if_pos h40] at hf
            refine g_aload_n C 5 rfl rfl dL_law_220 ?_
            refine g_iconst C (v := 0) (by decide) dL_law_221 ?_
            refine g_lald C 33 rfl (by show ix_in 0 1; decide) dL_law_222 ?_
            refine g_iload C 0 rfl dL_law_223 ?_
            refine g_i2l C dL_law_225 ?_
            refine g_lcmp C dL_law_226 ?_
            refine g_if_eq C 232 (by decide) dL_law_227 (fun h41 => ?_) (fun h41 => ?_)
            · rw [if_pos h41] at hf
              refine g_goto C 735 (by decide) dL_law_232 ?_
              refine g_iinc C (v := i + 4) (lv2 := [(4, .int (i + 4)), (6, .int r35), (5, .int z31.1), (0, .ref b), (1, .ref (ax x 0)), (2, .ref (ax x 30)), (3, .ref (ax x 50))]) 6 rfl (by rw [(by decide : Int32.ofInt 4 = 4)]) (by decide) rfl dL_law_735 ?_
              refine g_goto C 23 (by decide) dL_law_738 ?_
              refine g_sub [3, 4, 5, 6, 0] rfl ?_
              refine g_wide (a := 34 + (j + 1)) (b := 1505 + 6 * (j + 1)) (by omega) (by omega) ?_
              exact ih (j + 1) z31.2.1 S36 z31.2.2 (i + 4) (by omega) hf
            · rw [if_neg h41] at hf
              refine g_iconst C (v := 0) (by decide) dL_law_230 ?_
              exact absurd (Option.some.inj hf) (by decide)
        · rw [if_neg h39] at hf
          refine g_iconst C (v := 0) (by decide) dL_law_213 ?_
          exact absurd (Option.some.inj hf) (by decide)
      rw [if_neg h25] at hf
      by_cases h42 : ((xs i.toNatClampNeg) &&& 15) = 2
      · rw [if_pos h42] at hf
        refine g_top h42 ?_
        refine g_tin C 235 (by decide) (by decide) (by rfl) (by decide) dL_law_39 ?_
        refine g_aload_n C 1 rfl rfl dL_law_235 ?_
        refine g_aload_n C 0 rfl rfl dL_law_236 ?_
        refine g_iload C 4 rfl dL_law_237 ?_
        refine g_iconst C (v := 1) (by decide) dL_law_239 ?_
        refine g_iadd C dL_law_240 ?_
        obtain ⟨h43, hf⟩ := gd_some hf
        refine g_sld C hX hbl hbA h43 dL_law_241 ?_
        obtain ⟨r45, S46, h44, hf⟩ := bd2_some hf
        refine g_callPI C (n := 1) (ci := 4) (st := []) (c_X4_remove g S (xs (i + 1).toNatClampNeg) h44) (tb_wsV _ mM_L_67 mI_X4_remove mS_X4_remove mN_X4 mK_X4_remove) (by decide +kernel) rfl rfl ⟨by decide, by decide⟩ 0 rfl rfl rfl (Nat.le_of_ble_eq_true rfl) dL_law_242 rfl ?_
        show GG _ x (wL x S46 R9 o) _ _ _
        refine g_aload_n C 2 rfl rfl dL_law_245 ?_
        refine g_aload_n C 0 rfl rfl dL_law_246 ?_
        refine g_iload C 4 rfl dL_law_247 ?_
        refine g_iconst C (v := 1) (by decide) dL_law_249 ?_
        refine g_iadd C dL_law_250 ?_
        obtain ⟨h47, hf⟩ := gd_some hf
        refine g_sld C hX hbl hbA h47 dL_law_251 ?_
        obtain ⟨r49, S50, h48, hf⟩ := bd2_some hf
        refine g_rot ?_
        refine g_callPI C (n := 1) (ci := 5) (st := [.int r45]) (c_X5_remove g R9 (xs (i + 1).toNatClampNeg) h48) (tb_wsV _ mM_L_71 mI_X5_remove mS_X5_remove mN_X5 mK_X5_remove) (by decide +kernel) rfl rfl ⟨by decide, by decide⟩ 0 rfl rfl rfl (Nat.le_of_ble_eq_true rfl) dL_law_252 rfl ?_
        refine g_rot ?_
        show GG _ x (wL x S46 S50 o) _ _ _
        refine g_icmp_eq C 735 (by decide) dL_law_255 (fun h51 => ?_) (fun h51 => ?_)
        · rw [if_pos h51] at hf
          refine g_iinc C (v := i + 4) (lv2 := [(4, .int (i + 4)), (0, .ref b), (1, .ref (ax x 0)), (2, .ref (ax x 30)), (3, .ref (ax x 50))]) 4 rfl (by rw [(by decide : Int32.ofInt 4 = 4)]) (by decide) rfl dL_law_735 ?_
          refine g_goto C 23 (by decide) dL_law_738 ?_
          refine g_sub [1, 2, 3, 4, 0] rfl ?_
          refine g_wide (a := 34 + (j + 1)) (b := 1505 + 6 * (j + 1)) (by omega) (by omega) ?_
          exact ih (j + 1) S46 S50 o (i + 4) (by omega) hf
        · rw [if_neg h51] at hf
          refine g_iconst C (v := 0) (by decide) dL_law_258 ?_
          exact absurd (Option.some.inj hf) (by decide)
      rw [if_neg h42] at hf
      by_cases h52 : ((xs i.toNatClampNeg) &&& 15) = 3
      · rw [if_pos h52] at hf
        refine g_top h52 ?_
        refine g_tin C 260 (by decide) (by decide) (by rfl) (by decide) dL_law_39 ?_
        refine g_aload_n C 1 rfl rfl dL_law_260 ?_
        refine g_aload_n C 0 rfl rfl dL_law_261 ?_
        refine g_iload C 4 rfl dL_law_262 ?_
        refine g_iconst C (v := 1) (by decide) dL_law_264 ?_
        refine g_iadd C dL_law_265 ?_
        obtain ⟨h53, hf⟩ := gd_some hf
        refine g_sld C hX hbl hbA h53 dL_law_266 ?_
        obtain ⟨r55, S56, h54, hf⟩ := bd2_some hf
        refine g_callPI C (n := 1) (ci := 4) (st := []) (c_X4_seek g S (xs (i + 1).toNatClampNeg) h54) (tb_wsV _ mM_L_72 mI_X4_seek mS_X4_seek mN_X4 mK_X4_seek) (by decide +kernel) rfl rfl ⟨by decide, by decide⟩ 0 rfl rfl rfl (Nat.le_of_ble_eq_true rfl) dL_law_267 rfl ?_
        show GG _ x (wL x S56 R9 o) _ _ _
        refine g_aload_n C 2 rfl rfl dL_law_270 ?_
        refine g_aload_n C 0 rfl rfl dL_law_271 ?_
        refine g_iload C 4 rfl dL_law_272 ?_
        refine g_iconst C (v := 1) (by decide) dL_law_274 ?_
        refine g_iadd C dL_law_275 ?_
        obtain ⟨h57, hf⟩ := gd_some hf
        refine g_sld C hX hbl hbA h57 dL_law_276 ?_
        obtain ⟨r59, S60, h58, hf⟩ := bd2_some hf
        refine g_rot ?_
        refine g_callPI C (n := 1) (ci := 5) (st := [.int r55]) (c_X5_seek g R9 (xs (i + 1).toNatClampNeg) h58) (tb_wsV _ mM_L_75 mI_X5_seek mS_X5_seek mN_X5 mK_X5_seek) (by decide +kernel) rfl rfl ⟨by decide, by decide⟩ 0 rfl rfl rfl (Nat.le_of_ble_eq_true rfl) dL_law_277 rfl ?_
        refine g_rot ?_
        show GG _ x (wL x S56 S60 o) _ _ _
        refine g_icmp_eq C 735 (by decide) dL_law_280 (fun h61 => ?_) (fun h61 => ?_)
        · rw [if_pos h61] at hf
          refine g_iinc C (v := i + 4) (lv2 := [(4, .int (i + 4)), (0, .ref b), (1, .ref (ax x 0)), (2, .ref (ax x 30)), (3, .ref (ax x 50))]) 4 rfl (by rw [(by decide : Int32.ofInt 4 = 4)]) (by decide) rfl dL_law_735 ?_
          refine g_goto C 23 (by decide) dL_law_738 ?_
          refine g_sub [1, 2, 3, 4, 0] rfl ?_
          refine g_wide (a := 34 + (j + 1)) (b := 1505 + 6 * (j + 1)) (by omega) (by omega) ?_
          exact ih (j + 1) S56 S60 o (i + 4) (by omega) hf
        · rw [if_neg h61] at hf
          refine g_iconst C (v := 0) (by decide) dL_law_283 ?_
          exact absurd (Option.some.inj hf) (by decide)
      rw [if_neg h52] at hf
      by_cases h62 : ((xs i.toNatClampNeg) &&& 15) = 4
      · rw [if_pos h62] at hf
        refine g_top h62 ?_
        refine g_tin C 285 (by decide) (by decide) (by rfl) (by decide) dL_law_39 ?_
        refine g_aload_n C 1 rfl rfl dL_law_285 ?_
        refine g_aload_n C 3 rfl rfl dL_law_286 ?_
        obtain ⟨z67, h63, hf⟩ := bd_some hf
        refine g_rot ?_
        refine g_callH C hXS (n := 2) (st := []) (c_L_next hl0 g S o  h63) (tb_wsX _ mM_L_76 mT_L_next mN_L mK_L_next) (by decide +kernel) rfl rfl ⟨by decide, by decide⟩ rfl (by show _ ≤ 173; omega) (by show _ ≤ 2595; omega) (Nat.le_of_ble_eq_true rfl) dL_law_287 rfl ?_
        refine g_rot ?_
        have C := n_add C (a := 1) (b := 6) (by show _ ≤ 173; omega) (by show _ ≤ 2595; omega)
        show GG _ x (wL x z67.2.1 R9 z67.2.2) _ _ _
        refine g_istore C (lv2 := [(5, .int z67.1), (0, .ref b), (1, .ref (ax x 0)), (2, .ref (ax x 30)), (3, .ref (ax x 50)), (4, .int i)]) (by decide) rfl dL_law_290 ?_
        refine g_aload_n C 3 rfl rfl dL_law_292 ?_
        obtain ⟨r70, S71, h69, hf⟩ := bd2_some hf
        refine g_rot ?_
        refine g_callPI C (n := 0) (ci := 5) (st := []) (c_X5_next g R9 h69) (tb_wsV _ mM_L_79 mI_X5_next mS_X5_next mN_X5 mK_X5_next) (by decide +kernel) rfl rfl ⟨by decide, by decide⟩ 0 rfl rfl rfl (Nat.le_of_ble_eq_true rfl) dL_law_293 rfl ?_
        refine g_rot ?_
        show GG _ x (wL x z67.2.1 S71 z67.2.2) _ _ _
        refine g_istore C (lv2 := [(6, .int r70), (5, .int z67.1), (0, .ref b), (1, .ref (ax x 0)), (2, .ref (ax x 30)), (3, .ref (ax x 50)), (4, .int i)]) (by decide) rfl dL_law_296 ?_
        refine g_aload_n C 4 rfl rfl dL_law_298 ?_
        obtain ⟨r73, h72, hf⟩ := bd_some hf
        refine g_rot ?_
        refine g_callPI C (n := 0) (ci := 5) (st := []) (c_X5_thrown g S71 h72) (tb_wsV _ mM_L_60 mI_X5_thrown mS_X5_thrown mN_X5 mK_X5_thrown) (by decide +kernel) rfl rfl ⟨by decide, by decide⟩ 0 rfl rfl rfl (Nat.le_of_ble_eq_true rfl) dL_law_299 rfl ?_
        refine g_rot ?_
        show GG _ x (wL x z67.2.1 S71 z67.2.2) _ _ _
        refine g_iload C 1 rfl dL_law_302 ?_
        refine g_icmp_eq C 309 (by decide) dL_law_304 (fun h74 => ?_) (fun h74 => ?_)
        · rw [if_pos h74] at hf
          refine g_iload C 1 rfl dL_law_309 ?_
          refine g_if_ne C 333 (by decide) dL_law_311 (fun h75 => ?_) (fun h75 => ?_)
          · rw [if_neg h75] at hf
            refine g_goto C 735 (by decide) dL_law_333 ?_
            refine g_iinc C (v := i + 4) (lv2 := [(4, .int (i + 4)), (6, .int r70), (5, .int z67.1), (0, .ref b), (1, .ref (ax x 0)), (2, .ref (ax x 30)), (3, .ref (ax x 50))]) 6 rfl (by rw [(by decide : Int32.ofInt 4 = 4)]) (by decide) rfl dL_law_735 ?_
            refine g_goto C 23 (by decide) dL_law_738 ?_
            refine g_sub [3, 4, 5, 6, 0] rfl ?_
            refine g_wide (a := 34 + (j + 1)) (b := 1505 + 6 * (j + 1)) (by omega) (by omega) ?_
            exact ih (j + 1) z67.2.1 S71 z67.2.2 (i + 4) (by omega) hf
          · rw [if_pos h75] at hf
            refine g_aload_n C 5 rfl rfl dL_law_314 ?_
            refine g_iconst C (v := 0) (by decide) dL_law_315 ?_
            refine g_lald C 33 rfl (by show ix_in 0 1; decide) dL_law_316 ?_
            refine g_iload C 0 rfl dL_law_317 ?_
            refine jn1_elim (fun (t76 : Int64) => GG (p, l, e, R, s, m, args, below, meth, c, A, 7, 34 + j + 1, 1505 + 6 * j + 6, Q) x (wL x z67.2.1 S71 z67.2.2) 327 [(0, .ref b), (1, .ref (ax x 0)), (2, .ref (ax x 30)), (3, .ref (ax x 50)), (4, .int i)] [.long t76, .long (z67.2.2 (0 : Int32).toNatClampNeg)]) hf (fun t76 hf => ?_) (fun j77 hj77 hf => ?_)
            · show GG (p, l, e, R, s, m, args, below, meth, c, A, 7, 34 + j + 1, 1505 + 6 * j + 6, Q) x (wL x z67.2.1 S71 z67.2.2) 327 [(0, .ref b), (1, .ref (ax x 0)), (2, .ref (ax x 30)), (3, .ref (ax x 50)), (4, .int i)] [.long t76, .long (z67.2.2 (0 : Int32).toNatClampNeg)]
              refine g_lcmp C dL_law_327 ?_
              refine g_if_eq C 333 (by decide) dL_law_328 (fun h78 => ?_) (fun h78 => ?_)
              · rw [if_pos h78] at hf
                refine g_goto C 735 (by decide) dL_law_333 ?_
                refine g_iinc C (v := i + 4) (lv2 := [(4, .int (i + 4)), (0, .ref b), (1, .ref (ax x 0)), (2, .ref (ax x 30)), (3, .ref (ax x 50))]) 4 rfl (by rw [(by decide : Int32.ofInt 4 = 4)]) (by decide) rfl dL_law_735 ?_
                refine g_goto C 23 (by decide) dL_law_738 ?_
                refine g_sub [1, 2, 3, 4, 0] rfl ?_
                refine g_wide (a := 34 + (j + 1)) (b := 1505 + 6 * (j + 1)) (by omega) (by omega) ?_
                exact ih (j + 1) z67.2.1 S71 z67.2.2 (i + 4) (by omega) hf
              · rw [if_neg h78] at hf
                refine g_iconst C (v := 0) (by decide) dL_law_331 ?_
                exact absurd (Option.some.inj hf) (by decide)
            · skip
              refine g_if_eq C 326 (by decide) dL_law_319 (fun h79 => ?_) (fun h79 => ?_)
              · rw [if_pos h79] at hf
                refine g_lconst C (v := 0) (by decide) dL_law_326 ?_
                refine g_sub [2, 3, 4, 5, 6] rfl ?_
                exact hj77 0 hf
              · rw [if_neg h79] at hf
                refine g_lconst C (v := 1) (by decide) dL_law_322 ?_
                refine g_goto C 327 (by decide) dL_law_323 ?_
                refine g_sub [2, 3, 4, 5, 6] rfl ?_
                exact hj77 1 hf
        · rw [if_neg h74] at hf
          refine g_iconst C (v := 0) (by decide) dL_law_307 ?_
          exact absurd (Option.some.inj hf) (by decide)
      rw [if_neg h62] at hf
      by_cases h80 : ((xs i.toNatClampNeg) &&& 15) = 5
      · rw [if_pos h80] at hf
        refine g_top h80 ?_
        refine g_tin C 336 (by decide) (by decide) (by rfl) (by decide) dL_law_39 ?_
        refine g_aload_n C 1 rfl rfl dL_law_336 ?_
        refine g_aload_n C 0 rfl rfl dL_law_337 ?_
        refine g_iload C 4 rfl dL_law_338 ?_
        refine g_iconst C (v := 1) (by decide) dL_law_340 ?_
        refine g_iadd C dL_law_341 ?_
        obtain ⟨h81, hf⟩ := gd_some hf
        refine g_sld C hX hbl hbA h81 dL_law_342 ?_
        refine jn1_elim (fun (t82 : Int32) => GG (p, l, e, R, s, m, args, below, meth, c, A, 7, 34 + j, 1505 + 6 * j, Q) x (wL x S R9 o) 351 [(0, .ref b), (1, .ref (ax x 0)), (2, .ref (ax x 30)), (3, .ref (ax x 50)), (4, .int i)] [.int t82, .ref (ax x 0)]) hf (fun t82 hf => ?_) (fun j83 hj83 hf => ?_)
        · show GG (p, l, e, R, s, m, args, below, meth, c, A, 7, 34 + j, 1505 + 6 * j, Q) x (wL x S R9 o) 351 [(0, .ref b), (1, .ref (ax x 0)), (2, .ref (ax x 30)), (3, .ref (ax x 50)), (4, .int i)] [.int t82, .ref (ax x 0)]
          refine g_aload_n C 3 rfl rfl dL_law_351 ?_
          obtain ⟨z88, h84, hf⟩ := bd_some hf
          refine g_rot ?_
          refine g_callH C hXS (n := 3) (st := []) (c_L_cursor hl0 g S o t82 h84) (tb_wsX _ mM_L_80 mT_L_cursor mN_L mK_L_cursor) (by decide +kernel) rfl rfl ⟨by decide, by decide⟩ rfl (by show _ ≤ 173; omega) (by show _ ≤ 2595; omega) (Nat.le_of_ble_eq_true rfl) dL_law_352 rfl ?_
          refine g_rot ?_
          have C := n_add C (a := 1) (b := 6) (by show _ ≤ 173; omega) (by show _ ≤ 2595; omega)
          show GG _ x (wL x z88.2.1 R9 z88.2.2) _ _ _
          refine g_istore C (lv2 := [(5, .int z88.1), (0, .ref b), (1, .ref (ax x 0)), (2, .ref (ax x 30)), (3, .ref (ax x 50)), (4, .int i)]) (by decide) rfl dL_law_355 ?_
          refine g_aload_n C 3 rfl rfl dL_law_357 ?_
          refine g_aload_n C 1 rfl rfl dL_law_358 ?_
          refine g_iload C 5 rfl dL_law_359 ?_
          refine g_iconst C (v := 1) (by decide) dL_law_361 ?_
          refine g_iadd C dL_law_362 ?_
          obtain ⟨h90, hf⟩ := gd_some hf
          refine g_sld C hX hbl hbA h90 dL_law_363 ?_
          refine jn1_elim (fun (t91 : Int32) => GG (p, l, e, R, s, m, args, below, meth, c, A, 7, 34 + j + 1, 1505 + 6 * j + 6, Q) x (wL x z88.2.1 R9 z88.2.2) 372 [(0, .ref b), (1, .ref (ax x 0)), (2, .ref (ax x 30)), (3, .ref (ax x 50)), (4, .int i), (5, .int z88.1)] [.int t91, .ref (ax x 30)]) hf (fun t91 hf => ?_) (fun j92 hj92 hf => ?_)
          · show GG (p, l, e, R, s, m, args, below, meth, c, A, 7, 34 + j + 1, 1505 + 6 * j + 6, Q) x (wL x z88.2.1 R9 z88.2.2) 372 [(0, .ref b), (1, .ref (ax x 0)), (2, .ref (ax x 30)), (3, .ref (ax x 50)), (4, .int i), (5, .int z88.1)] [.int t91, .ref (ax x 30)]
            obtain ⟨r94, S95, h93, hf⟩ := bd2_some hf
            refine g_rot ?_
            refine g_callPI C (n := 1) (ci := 5) (st := []) (c_X5_cursor g R9 t91 h93) (tb_wsV _ mM_L_83 mI_X5_cursor mS_X5_cursor mN_X5 mK_X5_cursor) (by decide +kernel) rfl rfl ⟨by decide, by decide⟩ 0 rfl rfl rfl (Nat.le_of_ble_eq_true rfl) dL_law_372 rfl ?_
            refine g_rot ?_
            show GG _ x (wL x z88.2.1 S95 z88.2.2) _ _ _
            refine g_istore C (lv2 := [(6, .int r94), (0, .ref b), (1, .ref (ax x 0)), (2, .ref (ax x 30)), (3, .ref (ax x 50)), (4, .int i), (5, .int z88.1)]) (by decide) rfl dL_law_375 ?_
            refine g_aload_n C 3 rfl rfl dL_law_377 ?_
            obtain ⟨r97, h96, hf⟩ := bd_some hf
            refine g_rot ?_
            refine g_callPI C (n := 0) (ci := 5) (st := []) (c_X5_thrown g S95 h96) (tb_wsV _ mM_L_60 mI_X5_thrown mS_X5_thrown mN_X5 mK_X5_thrown) (by decide +kernel) rfl rfl ⟨by decide, by decide⟩ 0 rfl rfl rfl (Nat.le_of_ble_eq_true rfl) dL_law_378 rfl ?_
            refine g_rot ?_
            show GG _ x (wL x z88.2.1 S95 z88.2.2) _ _ _
            refine g_iload C 6 rfl dL_law_381 ?_
            refine g_icmp_eq C 388 (by decide) dL_law_383 (fun h98 => ?_) (fun h98 => ?_)
            · rw [if_pos h98] at hf
              refine g_iload C 6 rfl dL_law_388 ?_
              refine g_if_ne C 405 (by decide) dL_law_390 (fun h99 => ?_) (fun h99 => ?_)
              · rw [if_neg h99] at hf
                refine g_goto C 735 (by decide) dL_law_405 ?_
                refine g_iinc C (v := i + 4) (lv2 := [(4, .int (i + 4)), (6, .int r94), (0, .ref b), (1, .ref (ax x 0)), (2, .ref (ax x 30)), (3, .ref (ax x 50)), (5, .int z88.1)]) 5 rfl (by rw [(by decide : Int32.ofInt 4 = 4)]) (by decide) rfl dL_law_735 ?_
                refine g_goto C 23 (by decide) dL_law_738 ?_
                refine g_sub [2, 3, 4, 5, 0] rfl ?_
                refine g_wide (a := 34 + (j + 1)) (b := 1505 + 6 * (j + 1)) (by omega) (by omega) ?_
                exact ih (j + 1) z88.2.1 S95 z88.2.2 (i + 4) (by omega) hf
              · rw [if_pos h99] at hf
                refine g_aload_n C 4 rfl rfl dL_law_393 ?_
                refine g_iconst C (v := 0) (by decide) dL_law_394 ?_
                refine g_lald C 33 rfl (by show ix_in 0 1; decide) dL_law_395 ?_
                refine g_iload C 0 rfl dL_law_396 ?_
                refine g_i2l C dL_law_398 ?_
                refine g_lcmp C dL_law_399 ?_
                refine g_if_eq C 405 (by decide) dL_law_400 (fun h100 => ?_) (fun h100 => ?_)
                · rw [if_pos h100] at hf
                  refine g_goto C 735 (by decide) dL_law_405 ?_
                  refine g_iinc C (v := i + 4) (lv2 := [(4, .int (i + 4)), (6, .int r94), (0, .ref b), (1, .ref (ax x 0)), (2, .ref (ax x 30)), (3, .ref (ax x 50)), (5, .int z88.1)]) 5 rfl (by rw [(by decide : Int32.ofInt 4 = 4)]) (by decide) rfl dL_law_735 ?_
                  refine g_goto C 23 (by decide) dL_law_738 ?_
                  refine g_sub [2, 3, 4, 5, 0] rfl ?_
                  refine g_wide (a := 34 + (j + 1)) (b := 1505 + 6 * (j + 1)) (by omega) (by omega) ?_
                  exact ih (j + 1) z88.2.1 S95 z88.2.2 (i + 4) (by omega) hf
                · rw [if_neg h100] at hf
                  refine g_iconst C (v := 0) (by decide) dL_law_403 ?_
                  exact absurd (Option.some.inj hf) (by decide)
            · rw [if_neg h98] at hf
              refine g_iconst C (v := 0) (by decide) dL_law_386 ?_
              exact absurd (Option.some.inj hf) (by decide)
          · skip
            refine g_if_eq C 371 (by decide) dL_law_364 (fun h101 => ?_) (fun h101 => ?_)
            · rw [if_pos h101] at hf
              refine g_iconst C (v := 0) (by decide) dL_law_371 ?_
              refine g_sub [1, 2, 3, 4, 5, 0] rfl ?_
              exact hj92 0 hf
            · rw [if_neg h101] at hf
              refine g_iconst C (v := 1) (by decide) dL_law_367 ?_
              refine g_goto C 372 (by decide) dL_law_368 ?_
              refine g_sub [1, 2, 3, 4, 5, 0] rfl ?_
              exact hj92 1 hf
        · skip
          refine g_if_eq C 350 (by decide) dL_law_343 (fun h102 => ?_) (fun h102 => ?_)
          · rw [if_pos h102] at hf
            refine g_iconst C (v := 0) (by decide) dL_law_350 ?_
            refine g_sub [0, 1, 2, 3, 4] rfl ?_
            exact hj83 0 hf
          · rw [if_neg h102] at hf
            refine g_iconst C (v := 1) (by decide) dL_law_346 ?_
            refine g_goto C 351 (by decide) dL_law_347 ?_
            refine g_sub [0, 1, 2, 3, 4] rfl ?_
            exact hj83 1 hf
      rw [if_neg h80] at hf
      by_cases h103 : ((xs i.toNatClampNeg) &&& 15) = 6
      · rw [if_pos h103] at hf
        refine g_top h103 ?_
        refine g_tin C 408 (by decide) (by decide) (by rfl) (by decide) dL_law_39 ?_
        refine g_aload_n C 1 rfl rfl dL_law_408 ?_
        obtain ⟨r105, S106, h104, hf⟩ := bd2_some hf
        refine g_callPI C (n := 0) (ci := 4) (st := []) (c_X4_flush g S h104) (tb_wsV _ mM_L_84 mI_X4_flush mS_X4_flush mN_X4 mK_X4_flush) (by decide +kernel) rfl rfl ⟨by decide, by decide⟩ 0 rfl rfl rfl (Nat.le_of_ble_eq_true rfl) dL_law_409 rfl ?_
        show GG _ x (wL x S106 R9 o) _ _ _
        refine g_aload_n C 2 rfl rfl dL_law_412 ?_
        obtain ⟨r108, S109, h107, hf⟩ := bd2_some hf
        refine g_rot ?_
        refine g_callPI C (n := 0) (ci := 5) (st := [.int r105]) (c_X5_flush g R9 h107) (tb_wsV _ mM_L_87 mI_X5_flush mS_X5_flush mN_X5 mK_X5_flush) (by decide +kernel) rfl rfl ⟨by decide, by decide⟩ 0 rfl rfl rfl (Nat.le_of_ble_eq_true rfl) dL_law_413 rfl ?_
        refine g_rot ?_
        show GG _ x (wL x S106 S109 o) _ _ _
        refine g_icmp_eq C 735 (by decide) dL_law_416 (fun h110 => ?_) (fun h110 => ?_)
        · rw [if_pos h110] at hf
          refine g_iinc C (v := i + 4) (lv2 := [(4, .int (i + 4)), (0, .ref b), (1, .ref (ax x 0)), (2, .ref (ax x 30)), (3, .ref (ax x 50))]) 4 rfl (by rw [(by decide : Int32.ofInt 4 = 4)]) (by decide) rfl dL_law_735 ?_
          refine g_goto C 23 (by decide) dL_law_738 ?_
          refine g_sub [1, 2, 3, 4, 0] rfl ?_
          refine g_wide (a := 34 + (j + 1)) (b := 1505 + 6 * (j + 1)) (by omega) (by omega) ?_
          exact ih (j + 1) S106 S109 o (i + 4) (by omega) hf
        · rw [if_neg h110] at hf
          refine g_iconst C (v := 0) (by decide) dL_law_419 ?_
          exact absurd (Option.some.inj hf) (by decide)
      rw [if_neg h103] at hf
      by_cases h111 : ((xs i.toNatClampNeg) &&& 15) = 7
      · rw [if_pos h111] at hf
        refine g_top h111 ?_
        refine g_tin C 421 (by decide) (by decide) (by rfl) (by decide) dL_law_39 ?_
        refine g_aload_n C 1 rfl rfl dL_law_421 ?_
        refine g_aload_n C 3 rfl rfl dL_law_422 ?_
        obtain ⟨z116, h112, hf⟩ := bd_some hf
        refine g_rot ?_
        refine g_callH C hXS (n := 2) (st := []) (c_L_drop hl0 g S o  h112) (tb_wsX _ mM_L_88 mT_L_drop mN_L mK_L_drop) (by decide +kernel) rfl rfl ⟨by decide, by decide⟩ rfl (by show _ ≤ 173; omega) (by show _ ≤ 2595; omega) (Nat.le_of_ble_eq_true rfl) dL_law_423 rfl ?_
        refine g_rot ?_
        have C := n_add C (a := 1) (b := 6) (by show _ ≤ 173; omega) (by show _ ≤ 2595; omega)
        show GG _ x (wL x z116.2.1 R9 z116.2.2) _ _ _
        refine g_istore C (lv2 := [(5, .int z116.1), (0, .ref b), (1, .ref (ax x 0)), (2, .ref (ax x 30)), (3, .ref (ax x 50)), (4, .int i)]) (by decide) rfl dL_law_426 ?_
        refine g_aload_n C 3 rfl rfl dL_law_428 ?_
        obtain ⟨r119, S120, h118, hf⟩ := bd2_some hf
        refine g_rot ?_
        refine g_callPI C (n := 0) (ci := 5) (st := []) (c_X5_drop g R9 h118) (tb_wsV _ mM_L_90 mI_X5_drop mS_X5_drop mN_X5 mK_X5_drop) (by decide +kernel) rfl rfl ⟨by decide, by decide⟩ 0 rfl rfl rfl (Nat.le_of_ble_eq_true rfl) dL_law_429 rfl ?_
        refine g_rot ?_
        show GG _ x (wL x z116.2.1 S120 z116.2.2) _ _ _
        refine g_istore C (lv2 := [(6, .int r119), (5, .int z116.1), (0, .ref b), (1, .ref (ax x 0)), (2, .ref (ax x 30)), (3, .ref (ax x 50)), (4, .int i)]) (by decide) rfl dL_law_432 ?_
        refine g_aload_n C 4 rfl rfl dL_law_434 ?_
        obtain ⟨r122, h121, hf⟩ := bd_some hf
        refine g_rot ?_
        refine g_callPI C (n := 0) (ci := 5) (st := []) (c_X5_thrown g S120 h121) (tb_wsV _ mM_L_60 mI_X5_thrown mS_X5_thrown mN_X5 mK_X5_thrown) (by decide +kernel) rfl rfl ⟨by decide, by decide⟩ 0 rfl rfl rfl (Nat.le_of_ble_eq_true rfl) dL_law_435 rfl ?_
        refine g_rot ?_
        show GG _ x (wL x z116.2.1 S120 z116.2.2) _ _ _
        refine g_iload C 1 rfl dL_law_438 ?_
        refine g_icmp_eq C 445 (by decide) dL_law_440 (fun h123 => ?_) (fun h123 => ?_)
        · rw [if_pos h123] at hf
          refine g_iload C 1 rfl dL_law_445 ?_
          refine g_if_ne C 462 (by decide) dL_law_447 (fun h124 => ?_) (fun h124 => ?_)
          · rw [if_neg h124] at hf
            refine g_goto C 735 (by decide) dL_law_462 ?_
            refine g_iinc C (v := i + 4) (lv2 := [(4, .int (i + 4)), (6, .int r119), (5, .int z116.1), (0, .ref b), (1, .ref (ax x 0)), (2, .ref (ax x 30)), (3, .ref (ax x 50))]) 6 rfl (by rw [(by decide : Int32.ofInt 4 = 4)]) (by decide) rfl dL_law_735 ?_
            refine g_goto C 23 (by decide) dL_law_738 ?_
            refine g_sub [3, 4, 5, 6, 0] rfl ?_
            refine g_wide (a := 34 + (j + 1)) (b := 1505 + 6 * (j + 1)) (by omega) (by omega) ?_
            exact ih (j + 1) z116.2.1 S120 z116.2.2 (i + 4) (by omega) hf
          · rw [if_pos h124] at hf
            refine g_aload_n C 5 rfl rfl dL_law_450 ?_
            refine g_iconst C (v := 0) (by decide) dL_law_451 ?_
            refine g_lald C 33 rfl (by show ix_in 0 1; decide) dL_law_452 ?_
            refine g_iload C 0 rfl dL_law_453 ?_
            refine g_i2l C dL_law_455 ?_
            refine g_lcmp C dL_law_456 ?_
            refine g_if_eq C 462 (by decide) dL_law_457 (fun h125 => ?_) (fun h125 => ?_)
            · rw [if_pos h125] at hf
              refine g_goto C 735 (by decide) dL_law_462 ?_
              refine g_iinc C (v := i + 4) (lv2 := [(4, .int (i + 4)), (6, .int r119), (5, .int z116.1), (0, .ref b), (1, .ref (ax x 0)), (2, .ref (ax x 30)), (3, .ref (ax x 50))]) 6 rfl (by rw [(by decide : Int32.ofInt 4 = 4)]) (by decide) rfl dL_law_735 ?_
              refine g_goto C 23 (by decide) dL_law_738 ?_
              refine g_sub [3, 4, 5, 6, 0] rfl ?_
              refine g_wide (a := 34 + (j + 1)) (b := 1505 + 6 * (j + 1)) (by omega) (by omega) ?_
              exact ih (j + 1) z116.2.1 S120 z116.2.2 (i + 4) (by omega) hf
            · rw [if_neg h125] at hf
              refine g_iconst C (v := 0) (by decide) dL_law_460 ?_
              exact absurd (Option.some.inj hf) (by decide)
        · rw [if_neg h123] at hf
          refine g_iconst C (v := 0) (by decide) dL_law_443 ?_
          exact absurd (Option.some.inj hf) (by decide)
      rw [if_neg h111] at hf
      by_cases h126 : ((xs i.toNatClampNeg) &&& 15) = 8
      · rw [if_pos h126] at hf
        refine g_top h126 ?_
        refine g_tin C 465 (by decide) (by decide) (by rfl) (by decide) dL_law_39 ?_
        refine g_aload_n C 1 rfl rfl dL_law_465 ?_
        refine g_aload_n C 0 rfl rfl dL_law_466 ?_
        refine g_iload C 4 rfl dL_law_467 ?_
        refine g_iconst C (v := 1) (by decide) dL_law_469 ?_
        refine g_iadd C dL_law_470 ?_
        obtain ⟨h127, hf⟩ := gd_some hf
        refine g_sld C hX hbl hbA h127 dL_law_471 ?_
        refine g_aload_n C 0 rfl rfl dL_law_472 ?_
        refine g_iload C 4 rfl dL_law_473 ?_
        refine g_iconst C (v := 2) (by decide) dL_law_475 ?_
        refine g_iadd C dL_law_476 ?_
        obtain ⟨h128, hf⟩ := gd_some hf
        refine g_sld C hX hbl hbA h128 dL_law_477 ?_
        refine g_aload_n C 3 rfl rfl dL_law_478 ?_
        obtain ⟨z133, h129, hf⟩ := bd_some hf
        refine g_rot ?_
        refine g_callH C hXS (n := 4) (st := []) (c_L_page hl0 g S o (xs (i + 1).toNatClampNeg) (xs (i + 2).toNatClampNeg) h129) (tb_wsX _ mM_L_91 mT_L_page mN_L mK_L_page) (by decide +kernel) rfl rfl ⟨by decide, by decide⟩ rfl (by show _ ≤ 173; omega) (by show _ ≤ 2595; omega) (Nat.le_of_ble_eq_true rfl) dL_law_479 rfl ?_
        refine g_rot ?_
        have C := n_add C (a := 1) (b := 6) (by show _ ≤ 173; omega) (by show _ ≤ 2595; omega)
        show GG _ x (wL x z133.2.1 R9 z133.2.2) _ _ _
        refine g_istore C (lv2 := [(5, .int z133.1), (0, .ref b), (1, .ref (ax x 0)), (2, .ref (ax x 30)), (3, .ref (ax x 50)), (4, .int i)]) (by decide) rfl dL_law_482 ?_
        refine g_aload_n C 3 rfl rfl dL_law_484 ?_
        refine g_aload_n C 1 rfl rfl dL_law_485 ?_
        refine g_iload C 5 rfl dL_law_486 ?_
        refine g_iconst C (v := 1) (by decide) dL_law_488 ?_
        refine g_iadd C dL_law_489 ?_
        obtain ⟨h135, hf⟩ := gd_some hf
        refine g_sld C hX hbl hbA h135 dL_law_490 ?_
        refine g_aload_n C 1 rfl rfl dL_law_491 ?_
        refine g_iload C 5 rfl dL_law_492 ?_
        refine g_iconst C (v := 2) (by decide) dL_law_494 ?_
        refine g_iadd C dL_law_495 ?_
        obtain ⟨h136, hf⟩ := gd_some hf
        refine g_sld C hX hbl hbA h136 dL_law_496 ?_
        obtain ⟨r138, S139, h137, hf⟩ := bd2_some hf
        refine g_rot ?_
        refine g_callPI C (n := 2) (ci := 5) (st := []) (c_X5_page g R9 (xs (i + 1).toNatClampNeg) (xs (i + 2).toNatClampNeg) h137) (tb_wsV _ mM_L_93 mI_X5_page mS_X5_page mN_X5 mK_X5_page) (by decide +kernel) rfl rfl ⟨by decide, by decide⟩ 0 rfl rfl rfl (Nat.le_of_ble_eq_true rfl) dL_law_497 rfl ?_
        refine g_rot ?_
        show GG _ x (wL x z133.2.1 S139 z133.2.2) _ _ _
        refine g_istore C (lv2 := [(6, .int r138), (5, .int z133.1), (0, .ref b), (1, .ref (ax x 0)), (2, .ref (ax x 30)), (3, .ref (ax x 50)), (4, .int i)]) (by decide) rfl dL_law_500 ?_
        refine g_aload_n C 4 rfl rfl dL_law_502 ?_
        obtain ⟨r141, h140, hf⟩ := bd_some hf
        refine g_rot ?_
        refine g_callPI C (n := 0) (ci := 5) (st := []) (c_X5_thrown g S139 h140) (tb_wsV _ mM_L_60 mI_X5_thrown mS_X5_thrown mN_X5 mK_X5_thrown) (by decide +kernel) rfl rfl ⟨by decide, by decide⟩ 0 rfl rfl rfl (Nat.le_of_ble_eq_true rfl) dL_law_503 rfl ?_
        refine g_rot ?_
        show GG _ x (wL x z133.2.1 S139 z133.2.2) _ _ _
        refine g_iload C 1 rfl dL_law_506 ?_
        refine g_icmp_eq C 513 (by decide) dL_law_508 (fun h142 => ?_) (fun h142 => ?_)
        · rw [if_pos h142] at hf
          refine g_iload C 1 rfl dL_law_513 ?_
          refine g_if_ne C 530 (by decide) dL_law_515 (fun h143 => ?_) (fun h143 => ?_)
          · rw [if_neg h143] at hf
            refine g_goto C 735 (by decide) dL_law_530 ?_
            refine g_iinc C (v := i + 4) (lv2 := [(4, .int (i + 4)), (6, .int r138), (5, .int z133.1), (0, .ref b), (1, .ref (ax x 0)), (2, .ref (ax x 30)), (3, .ref (ax x 50))]) 6 rfl (by rw [(by decide : Int32.ofInt 4 = 4)]) (by decide) rfl dL_law_735 ?_
            refine g_goto C 23 (by decide) dL_law_738 ?_
            refine g_sub [3, 4, 5, 6, 0] rfl ?_
            refine g_wide (a := 34 + (j + 1)) (b := 1505 + 6 * (j + 1)) (by omega) (by omega) ?_
            exact ih (j + 1) z133.2.1 S139 z133.2.2 (i + 4) (by omega) hf
          · rw [if_pos h143] at hf
            refine g_aload_n C 5 rfl rfl dL_law_518 ?_
            refine g_iconst C (v := 0) (by decide) dL_law_519 ?_
            refine g_lald C 33 rfl (by show ix_in 0 1; decide) dL_law_520 ?_
            refine g_iload C 0 rfl dL_law_521 ?_
            refine g_i2l C dL_law_523 ?_
            refine g_lcmp C dL_law_524 ?_
            refine g_if_eq C 530 (by decide) dL_law_525 (fun h144 => ?_) (fun h144 => ?_)
            · rw [if_pos h144] at hf
              refine g_goto C 735 (by decide) dL_law_530 ?_
              refine g_iinc C (v := i + 4) (lv2 := [(4, .int (i + 4)), (6, .int r138), (5, .int z133.1), (0, .ref b), (1, .ref (ax x 0)), (2, .ref (ax x 30)), (3, .ref (ax x 50))]) 6 rfl (by rw [(by decide : Int32.ofInt 4 = 4)]) (by decide) rfl dL_law_735 ?_
              refine g_goto C 23 (by decide) dL_law_738 ?_
              refine g_sub [3, 4, 5, 6, 0] rfl ?_
              refine g_wide (a := 34 + (j + 1)) (b := 1505 + 6 * (j + 1)) (by omega) (by omega) ?_
              exact ih (j + 1) z133.2.1 S139 z133.2.2 (i + 4) (by omega) hf
            · rw [if_neg h144] at hf
              refine g_iconst C (v := 0) (by decide) dL_law_528 ?_
              exact absurd (Option.some.inj hf) (by decide)
        · rw [if_neg h142] at hf
          refine g_iconst C (v := 0) (by decide) dL_law_511 ?_
          exact absurd (Option.some.inj hf) (by decide)
      rw [if_neg h126] at hf
      by_cases h145 : ((xs i.toNatClampNeg) &&& 15) = 9
      · rw [if_pos h145] at hf
        refine g_top h145 ?_
        refine g_tin C 533 (by decide) (by decide) (by rfl) (by decide) dL_law_39 ?_
        refine g_aload_n C 1 rfl rfl dL_law_533 ?_
        refine g_aload_n C 0 rfl rfl dL_law_534 ?_
        refine g_iload C 4 rfl dL_law_535 ?_
        refine g_iconst C (v := 1) (by decide) dL_law_537 ?_
        refine g_iadd C dL_law_538 ?_
        obtain ⟨h146, hf⟩ := gd_some hf
        refine g_sld C hX hbl hbA h146 dL_law_539 ?_
        refine g_aload_n C 0 rfl rfl dL_law_540 ?_
        refine g_iload C 4 rfl dL_law_541 ?_
        refine g_iconst C (v := 2) (by decide) dL_law_543 ?_
        refine g_iadd C dL_law_544 ?_
        obtain ⟨h147, hf⟩ := gd_some hf
        refine g_sld C hX hbl hbA h147 dL_law_545 ?_
        refine g_aload_n C 0 rfl rfl dL_law_546 ?_
        refine g_iload C 4 rfl dL_law_547 ?_
        refine g_iconst C (v := 3) (by decide) dL_law_549 ?_
        refine g_iadd C dL_law_550 ?_
        obtain ⟨h148, hf⟩ := gd_some hf
        refine g_sld C hX hbl hbA h148 dL_law_551 ?_
        refine jn1_elim (fun (t149 : Int32) => GG (p, l, e, R, s, m, args, below, meth, c, A, 7, 34 + j, 1505 + 6 * j, Q) x (wL x S R9 o) 560 [(0, .ref b), (1, .ref (ax x 0)), (2, .ref (ax x 30)), (3, .ref (ax x 50)), (4, .int i)] [.int t149, .int (xs (i + 2).toNatClampNeg), .int (xs (i + 1).toNatClampNeg), .ref (ax x 0)]) hf (fun t149 hf => ?_) (fun j150 hj150 hf => ?_)
        · show GG (p, l, e, R, s, m, args, below, meth, c, A, 7, 34 + j, 1505 + 6 * j, Q) x (wL x S R9 o) 560 [(0, .ref b), (1, .ref (ax x 0)), (2, .ref (ax x 30)), (3, .ref (ax x 50)), (4, .int i)] [.int t149, .int (xs (i + 2).toNatClampNeg), .int (xs (i + 1).toNatClampNeg), .ref (ax x 0)]
          refine g_aload_n C 3 rfl rfl dL_law_560 ?_
          obtain ⟨z155, h151, hf⟩ := bd_some hf
          refine g_rot ?_
          refine g_callH C hXS (n := 5) (st := []) (c_L_item hl0 g S o (xs (i + 1).toNatClampNeg) (xs (i + 2).toNatClampNeg) t149 h151) (tb_wsX _ mM_L_94 mT_L_item mN_L mK_L_item) (by decide +kernel) rfl rfl ⟨by decide, by decide⟩ rfl (by show _ ≤ 173; omega) (by show _ ≤ 2595; omega) (Nat.le_of_ble_eq_true rfl) dL_law_561 rfl ?_
          refine g_rot ?_
          have C := n_add C (a := 1) (b := 6) (by show _ ≤ 173; omega) (by show _ ≤ 2595; omega)
          show GG _ x (wL x z155.2.1 R9 z155.2.2) _ _ _
          refine g_istore C (lv2 := [(5, .int z155.1), (0, .ref b), (1, .ref (ax x 0)), (2, .ref (ax x 30)), (3, .ref (ax x 50)), (4, .int i)]) (by decide) rfl dL_law_564 ?_
          refine g_aload_n C 3 rfl rfl dL_law_566 ?_
          refine g_aload_n C 1 rfl rfl dL_law_567 ?_
          refine g_iload C 5 rfl dL_law_568 ?_
          refine g_iconst C (v := 1) (by decide) dL_law_570 ?_
          refine g_iadd C dL_law_571 ?_
          obtain ⟨h157, hf⟩ := gd_some hf
          refine g_sld C hX hbl hbA h157 dL_law_572 ?_
          refine g_aload_n C 1 rfl rfl dL_law_573 ?_
          refine g_iload C 5 rfl dL_law_574 ?_
          refine g_iconst C (v := 2) (by decide) dL_law_576 ?_
          refine g_iadd C dL_law_577 ?_
          obtain ⟨h158, hf⟩ := gd_some hf
          refine g_sld C hX hbl hbA h158 dL_law_578 ?_
          refine g_aload_n C 1 rfl rfl dL_law_579 ?_
          refine g_iload C 5 rfl dL_law_580 ?_
          refine g_iconst C (v := 3) (by decide) dL_law_582 ?_
          refine g_iadd C dL_law_583 ?_
          obtain ⟨h159, hf⟩ := gd_some hf
          refine g_sld C hX hbl hbA h159 dL_law_584 ?_
          refine jn1_elim (fun (t160 : Int32) => GG (p, l, e, R, s, m, args, below, meth, c, A, 7, 34 + j + 1, 1505 + 6 * j + 6, Q) x (wL x z155.2.1 R9 z155.2.2) 593 [(0, .ref b), (1, .ref (ax x 0)), (2, .ref (ax x 30)), (3, .ref (ax x 50)), (4, .int i), (5, .int z155.1)] [.int t160, .int (xs (i + 2).toNatClampNeg), .int (xs (i + 1).toNatClampNeg), .ref (ax x 30)]) hf (fun t160 hf => ?_) (fun j161 hj161 hf => ?_)
          · show GG (p, l, e, R, s, m, args, below, meth, c, A, 7, 34 + j + 1, 1505 + 6 * j + 6, Q) x (wL x z155.2.1 R9 z155.2.2) 593 [(0, .ref b), (1, .ref (ax x 0)), (2, .ref (ax x 30)), (3, .ref (ax x 50)), (4, .int i), (5, .int z155.1)] [.int t160, .int (xs (i + 2).toNatClampNeg), .int (xs (i + 1).toNatClampNeg), .ref (ax x 30)]
            obtain ⟨r163, S164, h162, hf⟩ := bd2_some hf
            refine g_rot ?_
            refine g_callPI C (n := 3) (ci := 5) (st := []) (c_X5_item g R9 (xs (i + 1).toNatClampNeg) (xs (i + 2).toNatClampNeg) t160 h162) (tb_wsV _ mM_L_97 mI_X5_item mS_X5_item mN_X5 mK_X5_item) (by decide +kernel) rfl rfl ⟨by decide, by decide⟩ 0 rfl rfl rfl (Nat.le_of_ble_eq_true rfl) dL_law_593 rfl ?_
            refine g_rot ?_
            show GG _ x (wL x z155.2.1 S164 z155.2.2) _ _ _
            refine g_istore C (lv2 := [(6, .int r163), (0, .ref b), (1, .ref (ax x 0)), (2, .ref (ax x 30)), (3, .ref (ax x 50)), (4, .int i), (5, .int z155.1)]) (by decide) rfl dL_law_596 ?_
            refine g_aload_n C 3 rfl rfl dL_law_598 ?_
            obtain ⟨r166, h165, hf⟩ := bd_some hf
            refine g_rot ?_
            refine g_callPI C (n := 0) (ci := 5) (st := []) (c_X5_thrown g S164 h165) (tb_wsV _ mM_L_60 mI_X5_thrown mS_X5_thrown mN_X5 mK_X5_thrown) (by decide +kernel) rfl rfl ⟨by decide, by decide⟩ 0 rfl rfl rfl (Nat.le_of_ble_eq_true rfl) dL_law_599 rfl ?_
            refine g_rot ?_
            show GG _ x (wL x z155.2.1 S164 z155.2.2) _ _ _
            refine g_iload C 6 rfl dL_law_602 ?_
            refine g_icmp_eq C 609 (by decide) dL_law_604 (fun h167 => ?_) (fun h167 => ?_)
            · rw [if_pos h167] at hf
              refine g_iload C 6 rfl dL_law_609 ?_
              refine g_if_ne C 626 (by decide) dL_law_611 (fun h168 => ?_) (fun h168 => ?_)
              · rw [if_neg h168] at hf
                refine g_goto C 735 (by decide) dL_law_626 ?_
                refine g_iinc C (v := i + 4) (lv2 := [(4, .int (i + 4)), (6, .int r163), (0, .ref b), (1, .ref (ax x 0)), (2, .ref (ax x 30)), (3, .ref (ax x 50)), (5, .int z155.1)]) 5 rfl (by rw [(by decide : Int32.ofInt 4 = 4)]) (by decide) rfl dL_law_735 ?_
                refine g_goto C 23 (by decide) dL_law_738 ?_
                refine g_sub [2, 3, 4, 5, 0] rfl ?_
                refine g_wide (a := 34 + (j + 1)) (b := 1505 + 6 * (j + 1)) (by omega) (by omega) ?_
                exact ih (j + 1) z155.2.1 S164 z155.2.2 (i + 4) (by omega) hf
              · rw [if_pos h168] at hf
                refine g_aload_n C 4 rfl rfl dL_law_614 ?_
                refine g_iconst C (v := 0) (by decide) dL_law_615 ?_
                refine g_lald C 33 rfl (by show ix_in 0 1; decide) dL_law_616 ?_
                refine g_iload C 0 rfl dL_law_617 ?_
                refine g_i2l C dL_law_619 ?_
                refine g_lcmp C dL_law_620 ?_
                refine g_if_eq C 626 (by decide) dL_law_621 (fun h169 => ?_) (fun h169 => ?_)
                · rw [if_pos h169] at hf
                  refine g_goto C 735 (by decide) dL_law_626 ?_
                  refine g_iinc C (v := i + 4) (lv2 := [(4, .int (i + 4)), (6, .int r163), (0, .ref b), (1, .ref (ax x 0)), (2, .ref (ax x 30)), (3, .ref (ax x 50)), (5, .int z155.1)]) 5 rfl (by rw [(by decide : Int32.ofInt 4 = 4)]) (by decide) rfl dL_law_735 ?_
                  refine g_goto C 23 (by decide) dL_law_738 ?_
                  refine g_sub [2, 3, 4, 5, 0] rfl ?_
                  refine g_wide (a := 34 + (j + 1)) (b := 1505 + 6 * (j + 1)) (by omega) (by omega) ?_
                  exact ih (j + 1) z155.2.1 S164 z155.2.2 (i + 4) (by omega) hf
                · rw [if_neg h169] at hf
                  refine g_iconst C (v := 0) (by decide) dL_law_624 ?_
                  exact absurd (Option.some.inj hf) (by decide)
            · rw [if_neg h167] at hf
              refine g_iconst C (v := 0) (by decide) dL_law_607 ?_
              exact absurd (Option.some.inj hf) (by decide)
          · skip
            refine g_if_eq C 592 (by decide) dL_law_585 (fun h170 => ?_) (fun h170 => ?_)
            · rw [if_pos h170] at hf
              refine g_iconst C (v := 0) (by decide) dL_law_592 ?_
              refine g_sub [1, 2, 3, 4, 5, 0] rfl ?_
              exact hj161 0 hf
            · rw [if_neg h170] at hf
              refine g_iconst C (v := 1) (by decide) dL_law_588 ?_
              refine g_goto C 593 (by decide) dL_law_589 ?_
              refine g_sub [1, 2, 3, 4, 5, 0] rfl ?_
              exact hj161 1 hf
        · skip
          refine g_if_eq C 559 (by decide) dL_law_552 (fun h171 => ?_) (fun h171 => ?_)
          · rw [if_pos h171] at hf
            refine g_iconst C (v := 0) (by decide) dL_law_559 ?_
            refine g_sub [0, 1, 2, 3, 4] rfl ?_
            exact hj150 0 hf
          · rw [if_neg h171] at hf
            refine g_iconst C (v := 1) (by decide) dL_law_555 ?_
            refine g_goto C 560 (by decide) dL_law_556 ?_
            refine g_sub [0, 1, 2, 3, 4] rfl ?_
            exact hj150 1 hf
      rw [if_neg h145] at hf
      by_cases h172 : ((xs i.toNatClampNeg) &&& 15) = 10
      · rw [if_pos h172] at hf
        refine g_top h172 ?_
        refine g_tin C 629 (by decide) (by decide) (by rfl) (by decide) dL_law_39 ?_
        refine g_aload_n C 1 rfl rfl dL_law_629 ?_
        refine g_aload_n C 0 rfl rfl dL_law_630 ?_
        refine g_iload C 4 rfl dL_law_631 ?_
        refine g_iconst C (v := 1) (by decide) dL_law_633 ?_
        refine g_iadd C dL_law_634 ?_
        obtain ⟨h173, hf⟩ := gd_some hf
        refine g_sld C hX hbl hbA h173 dL_law_635 ?_
        refine g_aload_n C 0 rfl rfl dL_law_636 ?_
        refine g_iload C 4 rfl dL_law_637 ?_
        refine g_iconst C (v := 2) (by decide) dL_law_639 ?_
        refine g_iadd C dL_law_640 ?_
        obtain ⟨h174, hf⟩ := gd_some hf
        refine g_sld C hX hbl hbA h174 dL_law_641 ?_
        refine g_aload_n C 3 rfl rfl dL_law_642 ?_
        obtain ⟨z179, h175, hf⟩ := bd_some hf
        refine g_rot ?_
        refine g_callH C hXS (n := 4) (st := []) (c_L_frame hl0 g S o (xs (i + 1).toNatClampNeg) (xs (i + 2).toNatClampNeg) h175) (tb_wsX _ mM_L_98 mT_L_frame mN_L mK_L_frame) (by decide +kernel) rfl rfl ⟨by decide, by decide⟩ rfl (by show _ ≤ 173; omega) (by show _ ≤ 2595; omega) (Nat.le_of_ble_eq_true rfl) dL_law_643 rfl ?_
        refine g_rot ?_
        have C := n_add C (a := 1) (b := 6) (by show _ ≤ 173; omega) (by show _ ≤ 2595; omega)
        show GG _ x (wL x z179.2.1 R9 z179.2.2) _ _ _
        refine g_istore C (lv2 := [(5, .int z179.1), (0, .ref b), (1, .ref (ax x 0)), (2, .ref (ax x 30)), (3, .ref (ax x 50)), (4, .int i)]) (by decide) rfl dL_law_646 ?_
        refine g_aload_n C 3 rfl rfl dL_law_648 ?_
        refine g_aload_n C 1 rfl rfl dL_law_649 ?_
        refine g_iload C 5 rfl dL_law_650 ?_
        refine g_iconst C (v := 1) (by decide) dL_law_652 ?_
        refine g_iadd C dL_law_653 ?_
        obtain ⟨h181, hf⟩ := gd_some hf
        refine g_sld C hX hbl hbA h181 dL_law_654 ?_
        refine g_aload_n C 1 rfl rfl dL_law_655 ?_
        refine g_iload C 5 rfl dL_law_656 ?_
        refine g_iconst C (v := 2) (by decide) dL_law_658 ?_
        refine g_iadd C dL_law_659 ?_
        obtain ⟨h182, hf⟩ := gd_some hf
        refine g_sld C hX hbl hbA h182 dL_law_660 ?_
        obtain ⟨r184, S185, h183, hf⟩ := bd2_some hf
        refine g_rot ?_
        refine g_callPI C (n := 2) (ci := 5) (st := []) (c_X5_frame g R9 (xs (i + 1).toNatClampNeg) (xs (i + 2).toNatClampNeg) h183) (tb_wsV _ mM_L_100 mI_X5_frame mS_X5_frame mN_X5 mK_X5_frame) (by decide +kernel) rfl rfl ⟨by decide, by decide⟩ 0 rfl rfl rfl (Nat.le_of_ble_eq_true rfl) dL_law_661 rfl ?_
        refine g_rot ?_
        show GG _ x (wL x z179.2.1 S185 z179.2.2) _ _ _
        refine g_istore C (lv2 := [(6, .int r184), (5, .int z179.1), (0, .ref b), (1, .ref (ax x 0)), (2, .ref (ax x 30)), (3, .ref (ax x 50)), (4, .int i)]) (by decide) rfl dL_law_664 ?_
        refine g_aload_n C 4 rfl rfl dL_law_666 ?_
        obtain ⟨r187, h186, hf⟩ := bd_some hf
        refine g_rot ?_
        refine g_callPI C (n := 0) (ci := 5) (st := []) (c_X5_thrown g S185 h186) (tb_wsV _ mM_L_60 mI_X5_thrown mS_X5_thrown mN_X5 mK_X5_thrown) (by decide +kernel) rfl rfl ⟨by decide, by decide⟩ 0 rfl rfl rfl (Nat.le_of_ble_eq_true rfl) dL_law_667 rfl ?_
        refine g_rot ?_
        show GG _ x (wL x z179.2.1 S185 z179.2.2) _ _ _
        refine g_iload C 1 rfl dL_law_670 ?_
        refine g_icmp_eq C 677 (by decide) dL_law_672 (fun h188 => ?_) (fun h188 => ?_)
        · rw [if_pos h188] at hf
          refine g_iload C 1 rfl dL_law_677 ?_
          refine g_if_ne C 694 (by decide) dL_law_679 (fun h189 => ?_) (fun h189 => ?_)
          · rw [if_neg h189] at hf
            refine g_goto C 735 (by decide) dL_law_694 ?_
            refine g_iinc C (v := i + 4) (lv2 := [(4, .int (i + 4)), (6, .int r184), (5, .int z179.1), (0, .ref b), (1, .ref (ax x 0)), (2, .ref (ax x 30)), (3, .ref (ax x 50))]) 6 rfl (by rw [(by decide : Int32.ofInt 4 = 4)]) (by decide) rfl dL_law_735 ?_
            refine g_goto C 23 (by decide) dL_law_738 ?_
            refine g_sub [3, 4, 5, 6, 0] rfl ?_
            refine g_wide (a := 34 + (j + 1)) (b := 1505 + 6 * (j + 1)) (by omega) (by omega) ?_
            exact ih (j + 1) z179.2.1 S185 z179.2.2 (i + 4) (by omega) hf
          · rw [if_pos h189] at hf
            refine g_aload_n C 5 rfl rfl dL_law_682 ?_
            refine g_iconst C (v := 0) (by decide) dL_law_683 ?_
            refine g_lald C 33 rfl (by show ix_in 0 1; decide) dL_law_684 ?_
            refine g_iload C 0 rfl dL_law_685 ?_
            refine g_i2l C dL_law_687 ?_
            refine g_lcmp C dL_law_688 ?_
            refine g_if_eq C 694 (by decide) dL_law_689 (fun h190 => ?_) (fun h190 => ?_)
            · rw [if_pos h190] at hf
              refine g_goto C 735 (by decide) dL_law_694 ?_
              refine g_iinc C (v := i + 4) (lv2 := [(4, .int (i + 4)), (6, .int r184), (5, .int z179.1), (0, .ref b), (1, .ref (ax x 0)), (2, .ref (ax x 30)), (3, .ref (ax x 50))]) 6 rfl (by rw [(by decide : Int32.ofInt 4 = 4)]) (by decide) rfl dL_law_735 ?_
              refine g_goto C 23 (by decide) dL_law_738 ?_
              refine g_sub [3, 4, 5, 6, 0] rfl ?_
              refine g_wide (a := 34 + (j + 1)) (b := 1505 + 6 * (j + 1)) (by omega) (by omega) ?_
              exact ih (j + 1) z179.2.1 S185 z179.2.2 (i + 4) (by omega) hf
            · rw [if_neg h190] at hf
              refine g_iconst C (v := 0) (by decide) dL_law_692 ?_
              exact absurd (Option.some.inj hf) (by decide)
        · rw [if_neg h188] at hf
          refine g_iconst C (v := 0) (by decide) dL_law_675 ?_
          exact absurd (Option.some.inj hf) (by decide)
      rw [if_neg h172] at hf
      by_cases h191 : ((xs i.toNatClampNeg) &&& 15) = 11
      · rw [if_pos h191] at hf
        refine g_top h191 ?_
        refine g_tin C 697 (by decide) (by decide) (by rfl) (by decide) dL_law_39 ?_
        refine g_aload_n C 1 rfl rfl dL_law_697 ?_
        refine g_aload_n C 0 rfl rfl dL_law_698 ?_
        refine g_iload C 4 rfl dL_law_699 ?_
        refine g_iconst C (v := 1) (by decide) dL_law_701 ?_
        refine g_iadd C dL_law_702 ?_
        obtain ⟨h192, hf⟩ := gd_some hf
        refine g_sld C hX hbl hbA h192 dL_law_703 ?_
        obtain ⟨r194, h193, hf⟩ := bd_some hf
        refine g_callPI C (n := 1) (ci := 4) (st := []) (c_X4_told g S (xs (i + 1).toNatClampNeg) h193) (tb_wsV _ mM_L_101 mI_X4_told mS_X4_told mN_X4 mK_X4_told) (by decide +kernel) rfl rfl ⟨by decide, by decide⟩ 0 rfl rfl rfl (Nat.le_of_ble_eq_true rfl) dL_law_704 rfl ?_
        show GG _ x (wL x S R9 o) _ _ _
        refine g_aload_n C 2 rfl rfl dL_law_707 ?_
        refine g_aload_n C 0 rfl rfl dL_law_708 ?_
        refine g_iload C 4 rfl dL_law_709 ?_
        refine g_iconst C (v := 1) (by decide) dL_law_711 ?_
        refine g_iadd C dL_law_712 ?_
        obtain ⟨h195, hf⟩ := gd_some hf
        refine g_sld C hX hbl hbA h195 dL_law_713 ?_
        obtain ⟨r197, S198, h196, hf⟩ := bd2_some hf
        refine g_rot ?_
        refine g_callPI C (n := 1) (ci := 5) (st := [.int r194]) (c_X5_told g R9 (xs (i + 1).toNatClampNeg) h196) (tb_wsV _ mM_L_104 mI_X5_told mS_X5_told mN_X5 mK_X5_told) (by decide +kernel) rfl rfl ⟨by decide, by decide⟩ 0 rfl rfl rfl (Nat.le_of_ble_eq_true rfl) dL_law_714 rfl ?_
        refine g_rot ?_
        show GG _ x (wL x S S198 o) _ _ _
        refine g_icmp_eq C 735 (by decide) dL_law_717 (fun h199 => ?_) (fun h199 => ?_)
        · rw [if_pos h199] at hf
          refine g_iinc C (v := i + 4) (lv2 := [(4, .int (i + 4)), (0, .ref b), (1, .ref (ax x 0)), (2, .ref (ax x 30)), (3, .ref (ax x 50))]) 4 rfl (by rw [(by decide : Int32.ofInt 4 = 4)]) (by decide) rfl dL_law_735 ?_
          refine g_goto C 23 (by decide) dL_law_738 ?_
          refine g_sub [1, 2, 3, 4, 0] rfl ?_
          refine g_wide (a := 34 + (j + 1)) (b := 1505 + 6 * (j + 1)) (by omega) (by omega) ?_
          exact ih (j + 1) S S198 o (i + 4) (by omega) hf
        · rw [if_neg h199] at hf
          refine g_iconst C (v := 0) (by decide) dL_law_720 ?_
          exact absurd (Option.some.inj hf) (by decide)
      rw [if_neg h191] at hf
      by_cases h200 : ((xs i.toNatClampNeg) &&& 15) = 12
      · rw [if_pos h200] at hf
        refine g_top h200 ?_
        refine g_tin C 722 (by decide) (by decide) (by rfl) (by decide) dL_law_39 ?_
        refine g_aload_n C 1 rfl rfl dL_law_722 ?_
        obtain ⟨r202, S203, h201, hf⟩ := bd2_some hf
        refine g_callPI C (n := 0) (ci := 4) (st := []) (c_X4_astray g S h201) (tb_wsV _ mM_L_105 mI_X4_astray mS_X4_astray mN_X4 mK_X4_astray) (by decide +kernel) rfl rfl ⟨by decide, by decide⟩ 0 rfl rfl rfl (Nat.le_of_ble_eq_true rfl) dL_law_723 rfl ?_
        show GG _ x (wL x S203 R9 o) _ _ _
        refine g_aload_n C 2 rfl rfl dL_law_726 ?_
        obtain ⟨r205, S206, h204, hf⟩ := bd2_some hf
        refine g_rot ?_
        refine g_callPI C (n := 0) (ci := 5) (st := [.int r202]) (c_X5_astray g R9 h204) (tb_wsV _ mM_L_108 mI_X5_astray mS_X5_astray mN_X5 mK_X5_astray) (by decide +kernel) rfl rfl ⟨by decide, by decide⟩ 0 rfl rfl rfl (Nat.le_of_ble_eq_true rfl) dL_law_727 rfl ?_
        refine g_rot ?_
        show GG _ x (wL x S203 S206 o) _ _ _
        refine g_icmp_eq C 735 (by decide) dL_law_730 (fun h207 => ?_) (fun h207 => ?_)
        · rw [if_pos h207] at hf
          refine g_iinc C (v := i + 4) (lv2 := [(4, .int (i + 4)), (0, .ref b), (1, .ref (ax x 0)), (2, .ref (ax x 30)), (3, .ref (ax x 50))]) 4 rfl (by rw [(by decide : Int32.ofInt 4 = 4)]) (by decide) rfl dL_law_735 ?_
          refine g_goto C 23 (by decide) dL_law_738 ?_
          refine g_sub [1, 2, 3, 4, 0] rfl ?_
          refine g_wide (a := 34 + (j + 1)) (b := 1505 + 6 * (j + 1)) (by omega) (by omega) ?_
          exact ih (j + 1) S203 S206 o (i + 4) (by omega) hf
        · rw [if_neg h207] at hf
          refine g_iconst C (v := 0) (by decide) dL_law_733 ?_
          exact absurd (Option.some.inj hf) (by decide)
      rw [if_neg h200] at hf
      refine g_tout C 735 (tsw_out 12 (by decide) (fun j hj => by rcases (by omega : j = 0 ∨ j = 1 ∨ j = 2 ∨ j = 3 ∨ j = 4 ∨ j = 5 ∨ j = 6 ∨ j = 7 ∨ j = 8 ∨ j = 9 ∨ j = 10 ∨ j = 11 ∨ j = 12) with rfl | rfl | rfl | rfl | rfl | rfl | rfl | rfl | rfl | rfl | rfl | rfl | rfl <;> first | exact h3 | exact h25 | exact h42 | exact h52 | exact h62 | exact h80 | exact h103 | exact h111 | exact h126 | exact h145 | exact h172 | exact h191 | exact h200)) (by decide) dL_law_39 ?_
      refine g_iinc C (v := i + 4) (lv2 := [(4, .int (i + 4)), (0, .ref b), (1, .ref (ax x 0)), (2, .ref (ax x 30)), (3, .ref (ax x 50))]) 4 rfl (by rw [(by decide : Int32.ofInt 4 = 4)]) (by decide) rfl dL_law_735 ?_
      refine g_goto C 23 (by decide) dL_law_738 ?_
      refine g_sub [1, 2, 3, 4, 0] rfl ?_
      refine g_wide (a := 34 + (j + 1)) (b := 1505 + 6 * (j + 1)) (by omega) (by omega) ?_
      exact ih (j + 1) S R9 o (i + 4) (by omega) hf
