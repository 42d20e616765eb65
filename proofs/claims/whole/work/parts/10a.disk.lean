def f_X0_isPage (g : Nat) (S : Mem) (a1 : Int32) : Option (Int32) := if a1 < 0 then (some 0) else (if 40 ≤ a1 then (some 0) else (some 1))
abbrev rmX0_isPage : Room := { frames := 0, cells := 0, slots := 0, locals := 0 }
set_option maxHeartbeats 4000000 in
set_option maxRecDepth 100000 in
theorem c_X0_isPage {l : Launch} {x : Ad} (g : Nat) (S : Mem) (a1 : Int32) {z : Int32} (hf : f_X0_isPage g S a1 = some z) : MI l x yX0_isPage kX0_isPage rmX0_isPage [.ref (ax x 1), .int a1] (cT x S) z (cT x S) := by
  refine met_Z RX0 (by decide +kernel) rfl (Nat.le_of_ble_eq_true rfl) [(0, .ref (ax x 1)), (1, .int a1)] rfl ?_
  intro κ hl C hr
  subst hl
  rw [f_X0_isPage] at hf
  refine g_iload_n C 1 rfl rfl dX0_isPage_0 ?_
  refine g_if_lt C 14 (by decide) dX0_isPage_1 (fun h1 => ?_) (fun h1 => ?_)
  · rw [if_pos h1] at hf
    refine g_iconst C (v := 0) (by decide) dX0_isPage_14 ?_
    obtain rfl := Option.some.inj hf
    exact g_iret (hr (Or.inl rfl)) dX0_isPage_15
  · rw [if_neg h1] at hf
    refine g_iload_n C 1 rfl rfl dX0_isPage_4 ?_
    refine g_bipush C (v := 40) (by decide) dX0_isPage_5 ?_
    refine g_icmp_ge C 14 (by decide) dX0_isPage_7 (fun h2 => ?_) (fun h2 => ?_)
    · rw [if_pos h2] at hf
      refine g_iconst C (v := 0) (by decide) dX0_isPage_14 ?_
      obtain rfl := Option.some.inj hf
      exact g_iret (hr (Or.inl rfl)) dX0_isPage_15
    · rw [if_neg h2] at hf
      refine g_iconst C (v := 1) (by decide) dX0_isPage_10 ?_
      refine g_goto C 15 (by decide) dX0_isPage_11 ?_
      obtain rfl := Option.some.inj hf
      exact g_iret (hr (Or.inr rfl)) dX0_isPage_15
def f_X0_kindOf (g : Nat) (S : Mem) (a1 : Int32) : Option (Int32) := bd (f_X0_isPage g S a1) (fun r2 => if r2 = 0 then (some 0) else (gd (ix_in a1 40) (some (S.1 2 a1.toNatClampNeg))))
abbrev rmX0_kindOf : Room := { frames := 1, cells := 0, slots := 0, locals := 21 }
set_option maxHeartbeats 4000000 in
set_option maxRecDepth 100000 in
theorem c_X0_kindOf {l : Launch} {x : Ad} (g : Nat) (S : Mem) (a1 : Int32) {z : Int32} (hf : f_X0_kindOf g S a1 = some z) : MI l x yX0_kindOf kX0_kindOf rmX0_kindOf [.ref (ax x 1), .int a1] (cT x S) z (cT x S) := by
  refine met_I RX0 (by decide +kernel) rfl (Nat.le_of_ble_eq_true rfl) [(0, .ref (ax x 1)), (1, .int a1)] rfl ?_
  intro κ hl C hr
  subst hl
  rw [f_X0_kindOf] at hf
  refine g_aload_n C 0 rfl rfl dX0_kindOf_0 ?_
  refine g_iload_n C 1 rfl rfl dX0_kindOf_1 ?_
  obtain ⟨r2, h1, hf⟩ := bd_some hf
  refine g_callVI C (n := 1) (st := []) (c_X0_isPage g S a1 h1) (tb_wsV _ mM_X0_33 mI_X0_isPage mS_X0_isPage mN_X0 mK_X0_isPage) (by decide +kernel) rfl rfl ⟨by decide, by decide⟩ 1 0 rfl rfl rfl (Nat.le_of_ble_eq_true rfl) dX0_kindOf_2 rfl ?_
  refine g_if_eq C 17 (by decide) dX0_kindOf_5 (fun h3 => ?_) (fun h3 => ?_)
  · rw [if_pos h3] at hf
    refine g_iconst C (v := 0) (by decide) dX0_kindOf_17 ?_
    obtain rfl := Option.some.inj hf
    exact g_iret hr dX0_kindOf_18
  · rw [if_neg h3] at hf
    refine g_aload_n C 0 rfl rfl dX0_kindOf_8 ?_
    refine tF_X0_9 C dX0_kindOf_9 ?_
    refine g_iload_n C 1 rfl rfl dX0_kindOf_12 ?_
    obtain ⟨h4, hf⟩ := gd_some hf
    refine tL_2 C h4 dX0_kindOf_13 ?_
    refine g_goto C 18 (by decide) dX0_kindOf_14 ?_
    obtain rfl := Option.some.inj hf
    exact g_iret hr dX0_kindOf_18
def f_X0_countOf (g : Nat) (S : Mem) (a1 : Int32) : Option (Int32) := bd (f_X0_isPage g S a1) (fun r2 => if r2 = 0 then (some 0) else (gd (ix_in a1 40) (some (S.1 3 a1.toNatClampNeg))))
abbrev rmX0_countOf : Room := { frames := 1, cells := 0, slots := 0, locals := 21 }
set_option maxHeartbeats 4000000 in
set_option maxRecDepth 100000 in
theorem c_X0_countOf {l : Launch} {x : Ad} (g : Nat) (S : Mem) (a1 : Int32) {z : Int32} (hf : f_X0_countOf g S a1 = some z) : MI l x yX0_countOf kX0_countOf rmX0_countOf [.ref (ax x 1), .int a1] (cT x S) z (cT x S) := by
  refine met_I RX0 (by decide +kernel) rfl (Nat.le_of_ble_eq_true rfl) [(0, .ref (ax x 1)), (1, .int a1)] rfl ?_
  intro κ hl C hr
  subst hl
  rw [f_X0_countOf] at hf
  refine g_aload_n C 0 rfl rfl dX0_countOf_0 ?_
  refine g_iload_n C 1 rfl rfl dX0_countOf_1 ?_
  obtain ⟨r2, h1, hf⟩ := bd_some hf
  refine g_callVI C (n := 1) (st := []) (c_X0_isPage g S a1 h1) (tb_wsV _ mM_X0_33 mI_X0_isPage mS_X0_isPage mN_X0 mK_X0_isPage) (by decide +kernel) rfl rfl ⟨by decide, by decide⟩ 1 0 rfl rfl rfl (Nat.le_of_ble_eq_true rfl) dX0_countOf_2 rfl ?_
  refine g_if_eq C 17 (by decide) dX0_countOf_5 (fun h3 => ?_) (fun h3 => ?_)
  · rw [if_pos h3] at hf
    refine g_iconst C (v := 0) (by decide) dX0_countOf_17 ?_
    obtain rfl := Option.some.inj hf
    exact g_iret hr dX0_countOf_18
  · rw [if_neg h3] at hf
    refine g_aload_n C 0 rfl rfl dX0_countOf_8 ?_
    refine tF_X0_15 C dX0_countOf_9 ?_
    refine g_iload_n C 1 rfl rfl dX0_countOf_12 ?_
    obtain ⟨h4, hf⟩ := gd_some hf
    refine tL_3 C h4 dX0_countOf_13 ?_
    refine g_goto C 18 (by decide) dX0_countOf_14 ?_
    obtain rfl := Option.some.inj hf
    exact g_iret hr dX0_countOf_18
def f_X0_leafAfter (g : Nat) (S : Mem) (a1 : Int32) : Option (Int32) := bd (f_X0_isPage g S a1) (fun r2 => if r2 = 0 then (some ((-1))) else (gd (ix_in a1 40) (some (S.1 4 a1.toNatClampNeg))))
abbrev rmX0_leafAfter : Room := { frames := 1, cells := 0, slots := 0, locals := 21 }
set_option maxHeartbeats 4000000 in
set_option maxRecDepth 100000 in
theorem c_X0_leafAfter {l : Launch} {x : Ad} (g : Nat) (S : Mem) (a1 : Int32) {z : Int32} (hf : f_X0_leafAfter g S a1 = some z) : MI l x yX0_leafAfter kX0_leafAfter rmX0_leafAfter [.ref (ax x 1), .int a1] (cT x S) z (cT x S) := by
  refine met_I RX0 (by decide +kernel) rfl (Nat.le_of_ble_eq_true rfl) [(0, .ref (ax x 1)), (1, .int a1)] rfl ?_
  intro κ hl C hr
  subst hl
  rw [f_X0_leafAfter] at hf
  refine g_aload_n C 0 rfl rfl dX0_leafAfter_0 ?_
  refine g_iload_n C 1 rfl rfl dX0_leafAfter_1 ?_
  obtain ⟨r2, h1, hf⟩ := bd_some hf
  refine g_callVI C (n := 1) (st := []) (c_X0_isPage g S a1 h1) (tb_wsV _ mM_X0_33 mI_X0_isPage mS_X0_isPage mN_X0 mK_X0_isPage) (by decide +kernel) rfl rfl ⟨by decide, by decide⟩ 1 0 rfl rfl rfl (Nat.le_of_ble_eq_true rfl) dX0_leafAfter_2 rfl ?_
  refine g_if_eq C 17 (by decide) dX0_leafAfter_5 (fun h3 => ?_) (fun h3 => ?_)
  · rw [if_pos h3] at hf
    refine g_iconst C (v := (-1)) (by decide) dX0_leafAfter_17 ?_
    obtain rfl := Option.some.inj hf
    exact g_iret hr dX0_leafAfter_18
  · rw [if_neg h3] at hf
    refine g_aload_n C 0 rfl rfl dX0_leafAfter_8 ?_
    refine tF_X0_18 C dX0_leafAfter_9 ?_
    refine g_iload_n C 1 rfl rfl dX0_leafAfter_12 ?_
    obtain ⟨h4, hf⟩ := gd_some hf
    refine tL_4 C h4 dX0_leafAfter_13 ?_
    refine g_goto C 18 (by decide) dX0_leafAfter_14 ?_
    obtain rfl := Option.some.inj hf
    exact g_iret hr dX0_leafAfter_18
def f_X0_setLeafAfter (g : Nat) (S : Mem) (a1 : Int32) (a2 : Int32) : Option (Mem) := bd (f_X0_isPage g S a1) (fun r2 => if r2 = 0 then (some S) else (gd (ix_in a1 40) (some (up S 4 a1.toNatClampNeg a2))))
abbrev rmX0_setLeafAfter : Room := { frames := 1, cells := 0, slots := 0, locals := 21 }
set_option maxHeartbeats 4000000 in
set_option maxRecDepth 100000 in
theorem c_X0_setLeafAfter {l : Launch} {x : Ad} (g : Nat) (S : Mem) (a1 : Int32) (a2 : Int32) {z : Mem} (hf : f_X0_setLeafAfter g S a1 a2 = some z) : MV l x yX0_setLeafAfter kX0_setLeafAfter rmX0_setLeafAfter [.ref (ax x 1), .int a1, .int a2] (cT x S) (cT x z) := by
  refine met_V RX0 (by decide +kernel) rfl (Nat.le_of_ble_eq_true rfl) [(0, .ref (ax x 1)), (1, .int a1), (2, .int a2)] rfl ?_
  intro κ hl C hr
  subst hl
  rw [f_X0_setLeafAfter] at hf
  refine g_aload_n C 0 rfl rfl dX0_setLeafAfter_0 ?_
  refine g_iload_n C 1 rfl rfl dX0_setLeafAfter_1 ?_
  obtain ⟨r2, h1, hf⟩ := bd_some hf
  refine g_callVI C (n := 1) (st := []) (c_X0_isPage g S a1 h1) (tb_wsV _ mM_X0_33 mI_X0_isPage mS_X0_isPage mN_X0 mK_X0_isPage) (by decide +kernel) rfl rfl ⟨by decide, by decide⟩ 1 0 rfl rfl rfl (Nat.le_of_ble_eq_true rfl) dX0_setLeafAfter_2 rfl ?_
  refine g_if_eq C 15 (by decide) dX0_setLeafAfter_5 (fun h3 => ?_) (fun h3 => ?_)
  · rw [if_pos h3] at hf
    obtain rfl := Option.some.inj hf
    exact g_vret hr dX0_setLeafAfter_15
  · rw [if_neg h3] at hf
    refine g_aload_n C 0 rfl rfl dX0_setLeafAfter_8 ?_
    refine tF_X0_18 C dX0_setLeafAfter_9 ?_
    refine g_iload_n C 1 rfl rfl dX0_setLeafAfter_12 ?_
    refine g_iload_n C 2 rfl rfl dX0_setLeafAfter_13 ?_
    obtain ⟨h4, hf⟩ := gd_some hf
    refine tS_4 C h4 dX0_setLeafAfter_14 ?_
    obtain rfl := Option.some.inj hf
    exact g_vret hr dX0_setLeafAfter_15
def f_X0_cellOf (g : Nat) (S : Mem) (a1 : Int32) (a2 : Int32) : Option (Int32) := jn1 (fun (t1 : Int32) => if t1 = 0 then (some ((-1))) else (some ((a1 * 5) + a2))) (fun j2 => jn0 (j2 0) (fun j4 => if a1 < 0 then (j4) else (if 40 ≤ a1 then (j4) else (if a2 < 0 then (j4) else (if 5 ≤ a2 then (j4) else (j2 1))))))
abbrev rmX0_cellOf : Room := { frames := 0, cells := 0, slots := 0, locals := 0 }
set_option maxHeartbeats 4000000 in
set_option maxRecDepth 100000 in
theorem c_X0_cellOf {l : Launch} {x : Ad} (g : Nat) (S : Mem) (a1 : Int32) (a2 : Int32) {z : Int32} (hf : f_X0_cellOf g S a1 a2 = some z) : MI l x yX0_cellOf kX0_cellOf rmX0_cellOf [.ref (ax x 1), .int a1, .int a2] (cT x S) z (cT x S) := by
  refine met_I RX0 (by decide +kernel) rfl (Nat.le_of_ble_eq_true rfl) [(0, .ref (ax x 1)), (1, .int a1), (2, .int a2)] rfl ?_
  intro κ hl C hr
  subst hl
  rw [f_X0_cellOf] at hf
  refine g_iload_n C 1 rfl rfl dX0_cellOf_0 ?_
  refine jn1_elim (fun (t1 : Int32) => GG κ x (cT x S) 24 [(1, .int a1), (2, .int a2)] [.int t1]) hf (fun t1 hf => ?_) (fun j2 hj2 hf => ?_)
  · show GG κ x (cT x S) 24 [(1, .int a1), (2, .int a2)] [.int t1]
    refine g_istore_n C (lv2 := [(3, .int t1), (1, .int a1), (2, .int a2)]) rfl (by decide) rfl dX0_cellOf_24 ?_
    refine g_iload_n C 0 rfl rfl dX0_cellOf_25 ?_
    refine g_if_eq C 37 (by decide) dX0_cellOf_26 (fun h3 => ?_) (fun h3 => ?_)
    · rw [if_pos h3] at hf
      refine g_iconst C (v := (-1)) (by decide) dX0_cellOf_37 ?_
      obtain rfl := Option.some.inj hf
      exact g_iret hr dX0_cellOf_38
    · rw [if_neg h3] at hf
      refine g_iload_n C 1 rfl rfl dX0_cellOf_29 ?_
      refine g_iconst C (v := 5) (by decide) dX0_cellOf_30 ?_
      refine g_imul C dX0_cellOf_31 ?_
      refine g_iload_n C 2 rfl rfl dX0_cellOf_32 ?_
      refine g_iadd C dX0_cellOf_33 ?_
      refine g_goto C 38 (by decide) dX0_cellOf_34 ?_
      obtain rfl := Option.some.inj hf
      exact g_iret hr dX0_cellOf_38
  · skip
    refine jn0_elim (GG κ x (cT x S) 23 [(1, .int a1), (2, .int a2)] []) hf (fun hf => ?_) (fun j4 hj4 hf => ?_)
    · show GG κ x (cT x S) 23 [(1, .int a1), (2, .int a2)] []
      refine g_iconst C (v := 0) (by decide) dX0_cellOf_23 ?_
      refine g_sub [0, 1] rfl ?_
      exact hj2 0 hf
    · skip
      refine g_if_lt C 23 (by decide) dX0_cellOf_1 (fun h5 => ?_) (fun h5 => ?_)
      · rw [if_pos h5] at hf
        refine g_sub [1, 2] rfl ?_
        exact hj4 hf
      · rw [if_neg h5] at hf
        refine g_iload_n C 1 rfl rfl dX0_cellOf_4 ?_
        refine g_bipush C (v := 40) (by decide) dX0_cellOf_5 ?_
        refine g_icmp_ge C 23 (by decide) dX0_cellOf_7 (fun h6 => ?_) (fun h6 => ?_)
        · rw [if_pos h6] at hf
          refine g_sub [1, 2] rfl ?_
          exact hj4 hf
        · rw [if_neg h6] at hf
          refine g_iload_n C 2 rfl rfl dX0_cellOf_10 ?_
          refine g_if_lt C 23 (by decide) dX0_cellOf_11 (fun h7 => ?_) (fun h7 => ?_)
          · rw [if_pos h7] at hf
            refine g_sub [1, 2] rfl ?_
            exact hj4 hf
          · rw [if_neg h7] at hf
            refine g_iload_n C 2 rfl rfl dX0_cellOf_14 ?_
            refine g_iconst C (v := 5) (by decide) dX0_cellOf_15 ?_
            refine g_icmp_ge C 23 (by decide) dX0_cellOf_16 (fun h8 => ?_) (fun h8 => ?_)
            · rw [if_pos h8] at hf
              refine g_sub [1, 2] rfl ?_
              exact hj4 hf
            · rw [if_neg h8] at hf
              refine g_iconst C (v := 1) (by decide) dX0_cellOf_19 ?_
              refine g_goto C 24 (by decide) dX0_cellOf_20 ?_
              refine g_sub [1, 2] rfl ?_
              exact hj2 1 hf
def f_X0_keyAt (g : Nat) (S : Mem) (a1 : Int32) (a2 : Int32) : Option (Int32) := bd (f_X0_cellOf g S a1 a2) (fun r2 => if r2 < 0 then (some 0) else (if 200 ≤ r2 then (some 0) else (gd (ix_in r2 200) (some (S.1 5 r2.toNatClampNeg)))))
abbrev rmX0_keyAt : Room := { frames := 1, cells := 0, slots := 0, locals := 23 }
set_option maxHeartbeats 4000000 in
set_option maxRecDepth 100000 in
theorem c_X0_keyAt {l : Launch} {x : Ad} (g : Nat) (S : Mem) (a1 : Int32) (a2 : Int32) {z : Int32} (hf : f_X0_keyAt g S a1 a2 = some z) : MI l x yX0_keyAt kX0_keyAt rmX0_keyAt [.ref (ax x 1), .int a1, .int a2] (cT x S) z (cT x S) := by
  refine met_I RX0 (by decide +kernel) rfl (Nat.le_of_ble_eq_true rfl) [(0, .ref (ax x 1)), (1, .int a1), (2, .int a2)] rfl ?_
  intro κ hl C hr
  subst hl
  rw [f_X0_keyAt] at hf
  refine g_aload_n C 0 rfl rfl dX0_keyAt_0 ?_
  refine g_iload_n C 1 rfl rfl dX0_keyAt_1 ?_
  refine g_iload_n C 2 rfl rfl dX0_keyAt_2 ?_
  obtain ⟨r2, h1, hf⟩ := bd_some hf
  refine g_callVI C (n := 2) (st := []) (c_X0_cellOf g S a1 a2 h1) (tb_wsV _ mM_X0_37 mI_X0_cellOf mS_X0_cellOf mN_X0 mK_X0_cellOf) (by decide +kernel) rfl rfl ⟨by decide, by decide⟩ 1 0 rfl rfl rfl (Nat.le_of_ble_eq_true rfl) dX0_keyAt_3 rfl ?_
  refine g_istore_n C (lv2 := [(3, .int r2), (0, .ref (ax x 1)), (1, .int a1), (2, .int a2)]) rfl (by decide) rfl dX0_keyAt_6 ?_
  refine g_iload_n C 0 rfl rfl dX0_keyAt_7 ?_
  refine g_if_lt C 29 (by decide) dX0_keyAt_8 (fun h3 => ?_) (fun h3 => ?_)
  · rw [if_pos h3] at hf
    refine g_iconst C (v := 0) (by decide) dX0_keyAt_29 ?_
    obtain rfl := Option.some.inj hf
    exact g_iret hr dX0_keyAt_30
  · rw [if_neg h3] at hf
    refine g_iload_n C 0 rfl rfl dX0_keyAt_11 ?_
    refine g_aload_n C 1 rfl rfl dX0_keyAt_12 ?_
    refine tF_X0_21 C dX0_keyAt_13 ?_
    refine tN_5 C dX0_keyAt_16 ?_
    refine g_icmp_ge C 29 (by decide) dX0_keyAt_17 (fun h4 => ?_) (fun h4 => ?_)
    · rw [if_pos h4] at hf
      refine g_iconst C (v := 0) (by decide) dX0_keyAt_29 ?_
      obtain rfl := Option.some.inj hf
      exact g_iret hr dX0_keyAt_30
    · rw [if_neg h4] at hf
      refine g_aload_n C 1 rfl rfl dX0_keyAt_20 ?_
      refine tF_X0_21 C dX0_keyAt_21 ?_
      refine g_iload_n C 0 rfl rfl dX0_keyAt_24 ?_
      obtain ⟨h5, hf⟩ := gd_some hf
      refine tL_5 C h5 dX0_keyAt_25 ?_
      refine g_goto C 30 (by decide) dX0_keyAt_26 ?_
      obtain rfl := Option.some.inj hf
      exact g_iret hr dX0_keyAt_30
def f_X0_secondAt (g : Nat) (S : Mem) (a1 : Int32) (a2 : Int32) : Option (Int32) := bd (f_X0_cellOf g S a1 a2) (fun r2 => if r2 < 0 then (some 0) else (if 200 ≤ r2 then (some 0) else (gd (ix_in r2 200) (some (S.1 6 r2.toNatClampNeg)))))
abbrev rmX0_secondAt : Room := { frames := 1, cells := 0, slots := 0, locals := 23 }
set_option maxHeartbeats 4000000 in
set_option maxRecDepth 100000 in
theorem c_X0_secondAt {l : Launch} {x : Ad} (g : Nat) (S : Mem) (a1 : Int32) (a2 : Int32) {z : Int32} (hf : f_X0_secondAt g S a1 a2 = some z) : MI l x yX0_secondAt kX0_secondAt rmX0_secondAt [.ref (ax x 1), .int a1, .int a2] (cT x S) z (cT x S) := by
  refine met_I RX0 (by decide +kernel) rfl (Nat.le_of_ble_eq_true rfl) [(0, .ref (ax x 1)), (1, .int a1), (2, .int a2)] rfl ?_
  intro κ hl C hr
  subst hl
  rw [f_X0_secondAt] at hf
  refine g_aload_n C 0 rfl rfl dX0_secondAt_0 ?_
  refine g_iload_n C 1 rfl rfl dX0_secondAt_1 ?_
  refine g_iload_n C 2 rfl rfl dX0_secondAt_2 ?_
  obtain ⟨r2, h1, hf⟩ := bd_some hf
  refine g_callVI C (n := 2) (st := []) (c_X0_cellOf g S a1 a2 h1) (tb_wsV _ mM_X0_37 mI_X0_cellOf mS_X0_cellOf mN_X0 mK_X0_cellOf) (by decide +kernel) rfl rfl ⟨by decide, by decide⟩ 1 0 rfl rfl rfl (Nat.le_of_ble_eq_true rfl) dX0_secondAt_3 rfl ?_
  refine g_istore_n C (lv2 := [(3, .int r2), (0, .ref (ax x 1)), (1, .int a1), (2, .int a2)]) rfl (by decide) rfl dX0_secondAt_6 ?_
  refine g_iload_n C 0 rfl rfl dX0_secondAt_7 ?_
  refine g_if_lt C 29 (by decide) dX0_secondAt_8 (fun h3 => ?_) (fun h3 => ?_)
  · rw [if_pos h3] at hf
    refine g_iconst C (v := 0) (by decide) dX0_secondAt_29 ?_
    obtain rfl := Option.some.inj hf
    exact g_iret hr dX0_secondAt_30
  · rw [if_neg h3] at hf
    refine g_iload_n C 0 rfl rfl dX0_secondAt_11 ?_
    refine g_aload_n C 1 rfl rfl dX0_secondAt_12 ?_
    refine tF_X0_24 C dX0_secondAt_13 ?_
    refine tN_6 C dX0_secondAt_16 ?_
    refine g_icmp_ge C 29 (by decide) dX0_secondAt_17 (fun h4 => ?_) (fun h4 => ?_)
    · rw [if_pos h4] at hf
      refine g_iconst C (v := 0) (by decide) dX0_secondAt_29 ?_
      obtain rfl := Option.some.inj hf
      exact g_iret hr dX0_secondAt_30
    · rw [if_neg h4] at hf
      refine g_aload_n C 1 rfl rfl dX0_secondAt_20 ?_
      refine tF_X0_24 C dX0_secondAt_21 ?_
      refine g_iload_n C 0 rfl rfl dX0_secondAt_24 ?_
      obtain ⟨h5, hf⟩ := gd_some hf
      refine tL_6 C h5 dX0_secondAt_25 ?_
      refine g_goto C 30 (by decide) dX0_secondAt_26 ?_
      obtain rfl := Option.some.inj hf
      exact g_iret hr dX0_secondAt_30
def f_X0_setKey (g : Nat) (S : Mem) (a1 : Int32) (a2 : Int32) (a3 : Int32) : Option (Mem) := bd (f_X0_cellOf g S a1 a2) (fun r2 => if r2 < 0 then (some S) else (if 200 ≤ r2 then (some S) else (gd (ix_in r2 200) (some (up S 5 r2.toNatClampNeg a3)))))
abbrev rmX0_setKey : Room := { frames := 1, cells := 0, slots := 0, locals := 23 }
set_option maxHeartbeats 4000000 in
set_option maxRecDepth 100000 in
theorem c_X0_setKey {l : Launch} {x : Ad} (g : Nat) (S : Mem) (a1 : Int32) (a2 : Int32) (a3 : Int32) {z : Mem} (hf : f_X0_setKey g S a1 a2 a3 = some z) : MV l x yX0_setKey kX0_setKey rmX0_setKey [.ref (ax x 1), .int a1, .int a2, .int a3] (cT x S) (cT x z) := by
  refine met_V RX0 (by decide +kernel) rfl (Nat.le_of_ble_eq_true rfl) [(0, .ref (ax x 1)), (1, .int a1), (2, .int a2), (3, .int a3)] rfl ?_
  intro κ hl C hr
  subst hl
  rw [f_X0_setKey] at hf
  refine g_aload_n C 0 rfl rfl dX0_setKey_0 ?_
  refine g_iload_n C 1 rfl rfl dX0_setKey_1 ?_
  refine g_iload_n C 2 rfl rfl dX0_setKey_2 ?_
  obtain ⟨r2, h1, hf⟩ := bd_some hf
  refine g_callVI C (n := 2) (st := []) (c_X0_cellOf g S a1 a2 h1) (tb_wsV _ mM_X0_37 mI_X0_cellOf mS_X0_cellOf mN_X0 mK_X0_cellOf) (by decide +kernel) rfl rfl ⟨by decide, by decide⟩ 1 0 rfl rfl rfl (Nat.le_of_ble_eq_true rfl) dX0_setKey_3 rfl ?_
  refine g_istore C (lv2 := [(4, .int r2), (0, .ref (ax x 1)), (1, .int a1), (2, .int a2), (3, .int a3)]) (by decide) rfl dX0_setKey_6 ?_
  refine g_iload C 0 rfl dX0_setKey_8 ?_
  refine g_if_lt C 31 (by decide) dX0_setKey_10 (fun h3 => ?_) (fun h3 => ?_)
  · rw [if_pos h3] at hf
    obtain rfl := Option.some.inj hf
    exact g_vret hr dX0_setKey_31
  · rw [if_neg h3] at hf
    refine g_iload C 0 rfl dX0_setKey_13 ?_
    refine g_aload_n C 1 rfl rfl dX0_setKey_15 ?_
    refine tF_X0_21 C dX0_setKey_16 ?_
    refine tN_5 C dX0_setKey_19 ?_
    refine g_icmp_ge C 31 (by decide) dX0_setKey_20 (fun h4 => ?_) (fun h4 => ?_)
    · rw [if_pos h4] at hf
      obtain rfl := Option.some.inj hf
      exact g_vret hr dX0_setKey_31
    · rw [if_neg h4] at hf
      refine g_aload_n C 1 rfl rfl dX0_setKey_23 ?_
      refine tF_X0_21 C dX0_setKey_24 ?_
      refine g_iload C 0 rfl dX0_setKey_27 ?_
      refine g_iload_n C 4 rfl rfl dX0_setKey_29 ?_
      obtain ⟨h5, hf⟩ := gd_some hf
      refine tS_5 C h5 dX0_setKey_30 ?_
      obtain rfl := Option.some.inj hf
      exact g_vret hr dX0_setKey_31
def f_X0_setItem (g : Nat) (S : Mem) (a1 : Int32) (a2 : Int32) (a3 : Int32) (a4 : Int32) : Option (Mem) := bd (f_X0_cellOf g S a1 a2) (fun r2 => if r2 < 0 then (some S) else (if 200 ≤ r2 then (some S) else (if 200 ≤ r2 then (some S) else (gd (ix_in r2 200) (gd (ix_in r2 200) (some (up (up S 5 r2.toNatClampNeg a3) 6 r2.toNatClampNeg a4)))))))
abbrev rmX0_setItem : Room := { frames := 1, cells := 0, slots := 0, locals := 23 }
set_option maxHeartbeats 4000000 in
set_option maxRecDepth 100000 in
theorem c_X0_setItem {l : Launch} {x : Ad} (g : Nat) (S : Mem) (a1 : Int32) (a2 : Int32) (a3 : Int32) (a4 : Int32) {z : Mem} (hf : f_X0_setItem g S a1 a2 a3 a4 = some z) : MV l x yX0_setItem kX0_setItem rmX0_setItem [.ref (ax x 1), .int a1, .int a2, .int a3, .int a4] (cT x S) (cT x z) := by
  refine met_V RX0 (by decide +kernel) rfl (Nat.le_of_ble_eq_true rfl) [(0, .ref (ax x 1)), (1, .int a1), (2, .int a2), (3, .int a3), (4, .int a4)] rfl ?_
  intro κ hl C hr
  subst hl
  rw [f_X0_setItem] at hf
  refine g_aload_n C 0 rfl rfl dX0_setItem_0 ?_
  refine g_iload_n C 1 rfl rfl dX0_setItem_1 ?_
  refine g_iload_n C 2 rfl rfl dX0_setItem_2 ?_
  obtain ⟨r2, h1, hf⟩ := bd_some hf
  refine g_callVI C (n := 2) (st := []) (c_X0_cellOf g S a1 a2 h1) (tb_wsV _ mM_X0_37 mI_X0_cellOf mS_X0_cellOf mN_X0 mK_X0_cellOf) (by decide +kernel) rfl rfl ⟨by decide, by decide⟩ 1 0 rfl rfl rfl (Nat.le_of_ble_eq_true rfl) dX0_setItem_3 rfl ?_
  refine g_istore C (lv2 := [(5, .int r2), (0, .ref (ax x 1)), (1, .int a1), (2, .int a2), (3, .int a3), (4, .int a4)]) (by decide) rfl dX0_setItem_6 ?_
  refine g_iload C 0 rfl dX0_setItem_8 ?_
  refine g_if_lt C 50 (by decide) dX0_setItem_10 (fun h3 => ?_) (fun h3 => ?_)
  · rw [if_pos h3] at hf
    obtain rfl := Option.some.inj hf
    exact g_vret hr dX0_setItem_50
  · rw [if_neg h3] at hf
    refine g_iload C 0 rfl dX0_setItem_13 ?_
    refine g_aload_n C 1 rfl rfl dX0_setItem_15 ?_
    refine tF_X0_21 C dX0_setItem_16 ?_
    refine tN_5 C dX0_setItem_19 ?_
    refine g_icmp_ge C 50 (by decide) dX0_setItem_20 (fun h4 => ?_) (fun h4 => ?_)
    · rw [if_pos h4] at hf
      obtain rfl := Option.some.inj hf
      exact g_vret hr dX0_setItem_50
    · rw [if_neg h4] at hf
      refine g_iload C 0 rfl dX0_setItem_23 ?_
      refine g_aload_n C 1 rfl rfl dX0_setItem_25 ?_
      refine tF_X0_24 C dX0_setItem_26 ?_
      refine tN_6 C dX0_setItem_29 ?_
      refine g_icmp_ge C 50 (by decide) dX0_setItem_30 (fun h5 => ?_) (fun h5 => ?_)
      · rw [if_pos h5] at hf
        obtain rfl := Option.some.inj hf
        exact g_vret hr dX0_setItem_50
      · rw [if_neg h5] at hf
        refine g_aload_n C 1 rfl rfl dX0_setItem_33 ?_
        refine tF_X0_21 C dX0_setItem_34 ?_
        refine g_iload C 0 rfl dX0_setItem_37 ?_
        refine g_iload_n C 4 rfl rfl dX0_setItem_39 ?_
        obtain ⟨h6, hf⟩ := gd_some hf
        refine tS_5 C h6 dX0_setItem_40 ?_
        refine g_aload_n C 1 rfl rfl dX0_setItem_41 ?_
        refine tF_X0_24 C dX0_setItem_42 ?_
        refine g_iload C 0 rfl dX0_setItem_45 ?_
        refine g_iload C 5 rfl dX0_setItem_47 ?_
        obtain ⟨h7, hf⟩ := gd_some hf
        refine tS_6 C h7 dX0_setItem_49 ?_
        obtain rfl := Option.some.inj hf
        exact g_vret hr dX0_setItem_50
def f_X0_insert_36 (g : Nat) (w1 : Int32) (w2 : Int32) (w3 : Int32) (w4 : Int32) (w5 : Int32) (kx : Mem → Option (Mem)) : Nat → Mem → Int32 → Option (Mem)
  | 0, _, _ => none
  | n + 1, S, w6 => if w6 ≤ w2 then (kx S) else (bd (f_X0_keyAt g S w1 (w6 - 1)) (fun r11 => bd (f_X0_secondAt g S w1 (w6 - 1)) (fun r13 => bd (f_X0_setItem g S w1 w6 r11 r13) (fun S15 => f_X0_insert_36 g w1 w2 w3 w4 w5 kx n S15 (w6 + (-1))))))
def f_X0_insert (g : Nat) (S : Mem) (a1 : Int32) (a2 : Int32) (a3 : Int32) (a4 : Int32) : Option (Mem) := bd (f_X0_countOf g S a1) (fun r2 => bd (f_X0_isPage g S a1) (fun r4 => if r4 = 0 then (some S) else (if 5 ≤ r2 then (some S) else (if a2 < 0 then (some S) else (if a2 ≤ r2 then (f_X0_insert_36 g a1 a2 a3 a4 r2 (fun (S16 : Mem) => bd (f_X0_setItem g S16 a1 a2 a3 a4) (fun S18 => gd (ix_in a1 40) (some (up S18 3 a1.toNatClampNeg (r2 + 1))))) g S r2) else (some S))))))
abbrev rmX0_insert : Room := { frames := 2, cells := 0, slots := 0, locals := 48 }
set_option maxHeartbeats 4000000 in
set_option maxRecDepth 100000 in
theorem lp_X0_insert_36 {κ : Kx} {x : Ad} (C : Cx κ x cX0_insert RX0 kX0_insert rmX0_insert 7) {z : Mem} (hr : RV κ x cX0_insert (cT x z)) (g : Nat) (w1 : Int32) (w2 : Int32) (w3 : Int32) (w4 : Int32) (w5 : Int32) (kx : Mem → Option (Mem)) (hk : ∀ (S1 : Mem), kx S1 = some z → GG κ x (cT x S1) 73 [(0, .ref (ax x 1)), (1, .int w1), (2, .int w2), (3, .int w3), (4, .int w4), (5, .int w5)] []) : ∀ (n : Nat) (S : Mem) (w6 : Int32), f_X0_insert_36 g w1 w2 w3 w4 w5 kx n S w6 = some z → GG κ x (cT x S) 36 [(0, .ref (ax x 1)), (1, .int w1), (2, .int w2), (3, .int w3), (4, .int w4), (5, .int w5), (6, .int w6)] [] := by
  intro n
  induction n with
  | zero => intro S w6 hf; cases hf
  | succ n ih =>
    intro S w6 hf
    rw [f_X0_insert_36] at hf
    refine g_iload C 6 rfl dX0_insert_36 ?_
    refine g_iload_n C 2 rfl rfl dX0_insert_38 ?_
    refine g_icmp_le C 73 (by decide) dX0_insert_39 (fun h9 => ?_) (fun h9 => ?_)
    · rw [if_pos h9] at hf
      refine g_sub [0, 1, 2, 3, 4, 5] rfl ?_
      exact hk S hf
    · rw [if_neg h9] at hf
      refine g_aload_n C 0 rfl rfl dX0_insert_42 ?_
      refine g_iload_n C 1 rfl rfl dX0_insert_43 ?_
      refine g_iload C 6 rfl dX0_insert_44 ?_
      refine g_aload_n C 0 rfl rfl dX0_insert_46 ?_
      refine g_iload_n C 1 rfl rfl dX0_insert_47 ?_
      refine g_iload C 6 rfl dX0_insert_48 ?_
      refine g_iconst C (v := 1) (by decide) dX0_insert_50 ?_
      refine g_isub C dX0_insert_51 ?_
      obtain ⟨r11, h10, hf⟩ := bd_some hf
      refine g_callVI C (n := 2) (st := [.int w6, .int w1, .ref (ax x 1)]) (c_X0_keyAt g S w1 (w6 - 1) h10) (tb_wsV _ mM_X0_45 mI_X0_keyAt mS_X0_keyAt mN_X0 mK_X0_keyAt) (by decide +kernel) rfl rfl ⟨by decide, by decide⟩ 1 0 rfl rfl rfl (Nat.le_of_ble_eq_true rfl) dX0_insert_52 rfl ?_
      refine g_aload_n C 0 rfl rfl dX0_insert_55 ?_
      refine g_iload_n C 1 rfl rfl dX0_insert_56 ?_
      refine g_iload C 6 rfl dX0_insert_57 ?_
      refine g_iconst C (v := 1) (by decide) dX0_insert_59 ?_
      refine g_isub C dX0_insert_60 ?_
      obtain ⟨r13, h12, hf⟩ := bd_some hf
      refine g_callVI C (n := 2) (st := [.int r11, .int w6, .int w1, .ref (ax x 1)]) (c_X0_secondAt g S w1 (w6 - 1) h12) (tb_wsV _ mM_X0_48 mI_X0_secondAt mS_X0_secondAt mN_X0 mK_X0_secondAt) (by decide +kernel) rfl rfl ⟨by decide, by decide⟩ 1 0 rfl rfl rfl (Nat.le_of_ble_eq_true rfl) dX0_insert_61 rfl ?_
      obtain ⟨S15, h14, hf⟩ := bd_some hf
      refine g_callVV C (n := 4) (st := []) (c_X0_setItem g S w1 w6 r11 r13 h14) (tb_wsV _ mM_X0_51 mI_X0_setItem mS_X0_setItem mN_X0 mK_X0_setItem) (by decide +kernel) rfl rfl ⟨by decide, by decide⟩ 1 0 rfl rfl rfl (Nat.le_of_ble_eq_true rfl) dX0_insert_64 rfl ?_
      refine g_iinc C (v := w6 + (-1)) (lv2 := [(6, .int (w6 + (-1))), (0, .ref (ax x 1)), (1, .int w1), (2, .int w2), (3, .int w3), (4, .int w4), (5, .int w5)]) 6 rfl (by rw [(by decide : Int32.ofInt (-1) = (-1))]) (by decide) rfl dX0_insert_67 ?_
      refine g_goto C 36 (by decide) dX0_insert_70 ?_
      refine g_sub [1, 2, 3, 4, 5, 6, 0] rfl ?_
      exact ih S15 (w6 + (-1)) hf
set_option maxHeartbeats 4000000 in
set_option maxRecDepth 100000 in
theorem c_X0_insert {l : Launch} {x : Ad} (g : Nat) (S : Mem) (a1 : Int32) (a2 : Int32) (a3 : Int32) (a4 : Int32) {z : Mem} (hf : f_X0_insert g S a1 a2 a3 a4 = some z) : MV l x yX0_insert kX0_insert rmX0_insert [.ref (ax x 1), .int a1, .int a2, .int a3, .int a4] (cT x S) (cT x z) := by
  refine met_V RX0 (by decide +kernel) rfl (Nat.le_of_ble_eq_true rfl) [(0, .ref (ax x 1)), (1, .int a1), (2, .int a2), (3, .int a3), (4, .int a4)] rfl ?_
  intro κ hl C hr
  subst hl
  rw [f_X0_insert] at hf
  refine g_aload_n C 0 rfl rfl dX0_insert_0 ?_
  refine g_iload_n C 1 rfl rfl dX0_insert_1 ?_
  obtain ⟨r2, h1, hf⟩ := bd_some hf
  refine g_callVI C (n := 1) (st := []) (c_X0_countOf g S a1 h1) (tb_wsV _ mM_X0_41 mI_X0_countOf mS_X0_countOf mN_X0 mK_X0_countOf) (by decide +kernel) rfl rfl ⟨by decide, by decide⟩ 1 0 rfl rfl rfl (Nat.le_of_ble_eq_true rfl) dX0_insert_2 rfl ?_
  refine g_istore C (lv2 := [(5, .int r2), (0, .ref (ax x 1)), (1, .int a1), (2, .int a2), (3, .int a3), (4, .int a4)]) (by decide) rfl dX0_insert_5 ?_
  refine g_aload_n C 1 rfl rfl dX0_insert_7 ?_
  refine g_iload_n C 2 rfl rfl dX0_insert_8 ?_
  obtain ⟨r4, h3, hf⟩ := bd_some hf
  refine g_callVI C (n := 1) (st := []) (c_X0_isPage g S a1 h3) (tb_wsV _ mM_X0_33 mI_X0_isPage mS_X0_isPage mN_X0 mK_X0_isPage) (by decide +kernel) rfl rfl ⟨by decide, by decide⟩ 1 0 rfl rfl rfl (Nat.le_of_ble_eq_true rfl) dX0_insert_9 rfl ?_
  refine g_if_eq C 31 (by decide) dX0_insert_12 (fun h5 => ?_) (fun h5 => ?_)
  · rw [if_pos h5] at hf
    obtain rfl := Option.some.inj hf
    exact g_vret hr dX0_insert_31
  · rw [if_neg h5] at hf
    refine g_iload C 0 rfl dX0_insert_15 ?_
    refine g_iconst C (v := 5) (by decide) dX0_insert_17 ?_
    refine g_icmp_ge C 31 (by decide) dX0_insert_18 (fun h6 => ?_) (fun h6 => ?_)
    · rw [if_pos h6] at hf
      obtain rfl := Option.some.inj hf
      exact g_vret hr dX0_insert_31
    · rw [if_neg h6] at hf
      refine g_iload_n C 3 rfl rfl dX0_insert_21 ?_
      refine g_if_lt C 31 (by decide) dX0_insert_22 (fun h7 => ?_) (fun h7 => ?_)
      · rw [if_pos h7] at hf
        obtain rfl := Option.some.inj hf
        exact g_vret hr dX0_insert_31
      · rw [if_neg h7] at hf
        refine g_iload_n C 3 rfl rfl dX0_insert_25 ?_
        refine g_iload C 0 rfl dX0_insert_26 ?_
        refine g_icmp_le C 32 (by decide) dX0_insert_28 (fun h8 => ?_) (fun h8 => ?_)
        · rw [if_pos h8] at hf
          refine g_iload C 0 rfl dX0_insert_32 ?_
          refine g_istore C (lv2 := [(6, .int r2), (5, .int r2), (0, .ref (ax x 1)), (1, .int a1), (2, .int a2), (3, .int a3), (4, .int a4)]) (by decide) rfl dX0_insert_34 ?_
          refine g_sub [2, 3, 4, 5, 6, 1, 0] rfl ?_
          refine lp_X0_insert_36 C hr g a1 a2 a3 a4 r2 _ (fun S16 hf => ?_) g S r2 hf
          refine g_aload_n C 0 rfl rfl dX0_insert_73 ?_
          refine g_iload_n C 1 rfl rfl dX0_insert_74 ?_
          refine g_iload_n C 2 rfl rfl dX0_insert_75 ?_
          refine g_iload_n C 3 rfl rfl dX0_insert_76 ?_
          refine g_iload C 4 rfl dX0_insert_77 ?_
          obtain ⟨S18, h17, hf⟩ := bd_some hf
          refine g_callVV C (n := 4) (st := []) (c_X0_setItem g S16 a1 a2 a3 a4 h17) (tb_wsV _ mM_X0_51 mI_X0_setItem mS_X0_setItem mN_X0 mK_X0_setItem) (by decide +kernel) rfl rfl ⟨by decide, by decide⟩ 1 0 rfl rfl rfl (Nat.le_of_ble_eq_true rfl) dX0_insert_79 rfl ?_
          refine g_aload_n C 0 rfl rfl dX0_insert_82 ?_
          refine tF_X0_15 C dX0_insert_83 ?_
          refine g_iload_n C 1 rfl rfl dX0_insert_86 ?_
          refine g_iload C 5 rfl dX0_insert_87 ?_
          refine g_iconst C (v := 1) (by decide) dX0_insert_89 ?_
          refine g_iadd C dX0_insert_90 ?_
          obtain ⟨h19, hf⟩ := gd_some hf
          refine tS_3 C h19 dX0_insert_91 ?_
          obtain rfl := Option.some.inj hf
          exact g_vret hr dX0_insert_92
        · rw [if_neg h8] at hf
          obtain rfl := Option.some.inj hf
          exact g_vret hr dX0_insert_31
def f_X0_delete_27 (g : Nat) (w1 : Int32) (w3 : Int32) (kx : Mem → Option (Mem)) : Nat → Mem → Int32 → Option (Mem)
  | 0, _, _ => none
  | n + 1, S, w4 => if w3 ≤ (w4 + 1) then (kx S) else (bd (f_X0_keyAt g S w1 (w4 + 1)) (fun r10 => bd (f_X0_secondAt g S w1 (w4 + 1)) (fun r12 => bd (f_X0_setItem g S w1 w4 r10 r12) (fun S14 => f_X0_delete_27 g w1 w3 kx n S14 (w4 + 1)))))
def f_X0_delete (g : Nat) (S : Mem) (a1 : Int32) (a2 : Int32) : Option (Mem) := bd (f_X0_countOf g S a1) (fun r2 => bd (f_X0_isPage g S a1) (fun r4 => if r4 = 0 then (some S) else (if a2 < 0 then (some S) else (if a2 < r2 then (f_X0_delete_27 g a1 r2 (fun (S15 : Mem) => gd (ix_in a1 40) (some (up S15 3 a1.toNatClampNeg (r2 - 1)))) g S a2) else (some S)))))
abbrev rmX0_delete : Room := { frames := 2, cells := 0, slots := 0, locals := 48 }
set_option maxHeartbeats 4000000 in
set_option maxRecDepth 100000 in
theorem lp_X0_delete_27 {κ : Kx} {x : Ad} (C : Cx κ x cX0_delete RX0 kX0_delete rmX0_delete 5) {z : Mem} (hr : RV κ x cX0_delete (cT x z)) (g : Nat) (w1 : Int32) (w3 : Int32) (kx : Mem → Option (Mem)) (hk : ∀ (S1 : Mem), kx S1 = some z → GG κ x (cT x S1) 66 [(0, .ref (ax x 1)), (1, .int w1), (3, .int w3)] []) : ∀ (n : Nat) (S : Mem) (w4 : Int32), f_X0_delete_27 g w1 w3 kx n S w4 = some z → GG κ x (cT x S) 27 [(0, .ref (ax x 1)), (1, .int w1), (3, .int w3), (4, .int w4)] [] := by
  intro n
  induction n with
  | zero => intro S w4 hf; cases hf
  | succ n ih =>
    intro S w4 hf
    rw [f_X0_delete_27] at hf
    refine g_iload C 3 rfl dX0_delete_27 ?_
    refine g_iconst C (v := 1) (by decide) dX0_delete_29 ?_
    refine g_iadd C dX0_delete_30 ?_
    refine g_iload_n C 2 rfl rfl dX0_delete_31 ?_
    refine g_icmp_ge C 66 (by decide) dX0_delete_32 (fun h8 => ?_) (fun h8 => ?_)
    · rw [if_pos h8] at hf
      refine g_sub [0, 1, 2] rfl ?_
      exact hk S hf
    · rw [if_neg h8] at hf
      refine g_aload_n C 0 rfl rfl dX0_delete_35 ?_
      refine g_iload_n C 1 rfl rfl dX0_delete_36 ?_
      refine g_iload C 3 rfl dX0_delete_37 ?_
      refine g_aload_n C 0 rfl rfl dX0_delete_39 ?_
      refine g_iload_n C 1 rfl rfl dX0_delete_40 ?_
      refine g_iload C 3 rfl dX0_delete_41 ?_
      refine g_iconst C (v := 1) (by decide) dX0_delete_43 ?_
      refine g_iadd C dX0_delete_44 ?_
      obtain ⟨r10, h9, hf⟩ := bd_some hf
      refine g_callVI C (n := 2) (st := [.int w4, .int w1, .ref (ax x 1)]) (c_X0_keyAt g S w1 (w4 + 1) h9) (tb_wsV _ mM_X0_45 mI_X0_keyAt mS_X0_keyAt mN_X0 mK_X0_keyAt) (by decide +kernel) rfl rfl ⟨by decide, by decide⟩ 1 0 rfl rfl rfl (Nat.le_of_ble_eq_true rfl) dX0_delete_45 rfl ?_
      refine g_aload_n C 0 rfl rfl dX0_delete_48 ?_
      refine g_iload_n C 1 rfl rfl dX0_delete_49 ?_
      refine g_iload C 3 rfl dX0_delete_50 ?_
      refine g_iconst C (v := 1) (by decide) dX0_delete_52 ?_
      refine g_iadd C dX0_delete_53 ?_
      obtain ⟨r12, h11, hf⟩ := bd_some hf
      refine g_callVI C (n := 2) (st := [.int r10, .int w4, .int w1, .ref (ax x 1)]) (c_X0_secondAt g S w1 (w4 + 1) h11) (tb_wsV _ mM_X0_48 mI_X0_secondAt mS_X0_secondAt mN_X0 mK_X0_secondAt) (by decide +kernel) rfl rfl ⟨by decide, by decide⟩ 1 0 rfl rfl rfl (Nat.le_of_ble_eq_true rfl) dX0_delete_54 rfl ?_
      obtain ⟨S14, h13, hf⟩ := bd_some hf
      refine g_callVV C (n := 4) (st := []) (c_X0_setItem g S w1 w4 r10 r12 h13) (tb_wsV _ mM_X0_51 mI_X0_setItem mS_X0_setItem mN_X0 mK_X0_setItem) (by decide +kernel) rfl rfl ⟨by decide, by decide⟩ 1 0 rfl rfl rfl (Nat.le_of_ble_eq_true rfl) dX0_delete_57 rfl ?_
      refine g_iinc C (v := w4 + 1) (lv2 := [(4, .int (w4 + 1)), (0, .ref (ax x 1)), (1, .int w1), (3, .int w3)]) 3 rfl (by rw [(by decide : Int32.ofInt 1 = 1)]) (by decide) rfl dX0_delete_60 ?_
      refine g_goto C 27 (by decide) dX0_delete_63 ?_
      refine g_sub [1, 2, 3, 0] rfl ?_
      exact ih S14 (w4 + 1) hf
set_option maxHeartbeats 4000000 in
set_option maxRecDepth 100000 in
theorem c_X0_delete {l : Launch} {x : Ad} (g : Nat) (S : Mem) (a1 : Int32) (a2 : Int32) {z : Mem} (hf : f_X0_delete g S a1 a2 = some z) : MV l x yX0_delete kX0_delete rmX0_delete [.ref (ax x 1), .int a1, .int a2] (cT x S) (cT x z) := by
  refine met_V RX0 (by decide +kernel) rfl (Nat.le_of_ble_eq_true rfl) [(0, .ref (ax x 1)), (1, .int a1), (2, .int a2)] rfl ?_
  intro κ hl C hr
  subst hl
  rw [f_X0_delete] at hf
  refine g_aload_n C 0 rfl rfl dX0_delete_0 ?_
  refine g_iload_n C 1 rfl rfl dX0_delete_1 ?_
  obtain ⟨r2, h1, hf⟩ := bd_some hf
  refine g_callVI C (n := 1) (st := []) (c_X0_countOf g S a1 h1) (tb_wsV _ mM_X0_41 mI_X0_countOf mS_X0_countOf mN_X0 mK_X0_countOf) (by decide +kernel) rfl rfl ⟨by decide, by decide⟩ 1 0 rfl rfl rfl (Nat.le_of_ble_eq_true rfl) dX0_delete_2 rfl ?_
  refine g_istore_n C (lv2 := [(3, .int r2), (0, .ref (ax x 1)), (1, .int a1), (2, .int a2)]) rfl (by decide) rfl dX0_delete_5 ?_
  refine g_aload_n C 1 rfl rfl dX0_delete_6 ?_
  refine g_iload_n C 2 rfl rfl dX0_delete_7 ?_
  obtain ⟨r4, h3, hf⟩ := bd_some hf
  refine g_callVI C (n := 1) (st := []) (c_X0_isPage g S a1 h3) (tb_wsV _ mM_X0_33 mI_X0_isPage mS_X0_isPage mN_X0 mK_X0_isPage) (by decide +kernel) rfl rfl ⟨by decide, by decide⟩ 1 0 rfl rfl rfl (Nat.le_of_ble_eq_true rfl) dX0_delete_8 rfl ?_
  refine g_if_eq C 23 (by decide) dX0_delete_11 (fun h5 => ?_) (fun h5 => ?_)
  · rw [if_pos h5] at hf
    obtain rfl := Option.some.inj hf
    exact g_vret hr dX0_delete_23
  · rw [if_neg h5] at hf
    refine g_iload_n C 3 rfl rfl dX0_delete_14 ?_
    refine g_if_lt C 23 (by decide) dX0_delete_15 (fun h6 => ?_) (fun h6 => ?_)
    · rw [if_pos h6] at hf
      obtain rfl := Option.some.inj hf
      exact g_vret hr dX0_delete_23
    · rw [if_neg h6] at hf
      refine g_iload_n C 3 rfl rfl dX0_delete_18 ?_
      refine g_iload_n C 0 rfl rfl dX0_delete_19 ?_
      refine g_icmp_lt C 24 (by decide) dX0_delete_20 (fun h7 => ?_) (fun h7 => ?_)
      · rw [if_pos h7] at hf
        refine g_iload_n C 3 rfl rfl dX0_delete_24 ?_
        refine g_istore C (lv2 := [(4, .int a2), (3, .int r2), (0, .ref (ax x 1)), (1, .int a1), (2, .int a2)]) (by decide) rfl dX0_delete_25 ?_
        refine g_sub [2, 3, 1, 0] rfl ?_
        refine lp_X0_delete_27 C hr g a1 r2 _ (fun S15 hf => ?_) g S a2 hf
        refine g_aload_n C 0 rfl rfl dX0_delete_66 ?_
        refine tF_X0_15 C dX0_delete_67 ?_
        refine g_iload_n C 1 rfl rfl dX0_delete_70 ?_
        refine g_iload_n C 2 rfl rfl dX0_delete_71 ?_
        refine g_iconst C (v := 1) (by decide) dX0_delete_72 ?_
        refine g_isub C dX0_delete_73 ?_
        obtain ⟨h16, hf⟩ := gd_some hf
        refine tS_3 C h16 dX0_delete_74 ?_
        obtain rfl := Option.some.inj hf
        exact g_vret hr dX0_delete_75
      · rw [if_neg h7] at hf
        obtain rfl := Option.some.inj hf
        exact g_vret hr dX0_delete_23
def f_X0_moveItems_55 (g : Nat) (w1 : Int32) (w2 : Int32) (w3 : Int32) (w4 : Int32) (w5 : Int32) (kx : Mem → Option (Mem)) : Nat → Mem → Int32 → Option (Mem)
  | 0, _, _ => none
  | n + 1, S, w6 => if w4 ≤ w6 then (kx S) else (bd (f_X0_keyAt g S w1 w6) (fun r16 => bd (f_X0_secondAt g S w1 w6) (fun r18 => bd (f_X0_setItem g S w3 ((w5 + w6) - w2) r16 r18) (fun S20 => f_X0_moveItems_55 g w1 w2 w3 w4 w5 kx n S20 (w6 + 1)))))
def f_X0_moveItems (g : Nat) (S : Mem) (a1 : Int32) (a2 : Int32) (a3 : Int32) : Option (Mem) := bd (f_X0_countOf g S a1) (fun r2 => bd (f_X0_countOf g S a3) (fun r4 => bd (f_X0_isPage g S a1) (fun r6 => if r6 = 0 then (some S) else (bd (f_X0_isPage g S a3) (fun r9 => if r9 = 0 then (some S) else (if a2 < 0 then (some S) else (if r2 < a2 then (some S) else (if ((r4 + r2) - a2) ≤ 5 then (f_X0_moveItems_55 g a1 a2 a3 r2 r4 (fun (S21 : Mem) => gd (ix_in a1 40) (gd (ix_in a3 40) (some (up (up S21 3 a1.toNatClampNeg a2) 3 a3.toNatClampNeg ((r4 + r2) - a2))))) g S a2) else (some S)))))))))
abbrev rmX0_moveItems : Room := { frames := 2, cells := 0, slots := 0, locals := 48 }
set_option maxHeartbeats 4000000 in
set_option maxRecDepth 100000 in
theorem lp_X0_moveItems_55 {κ : Kx} {x : Ad} (C : Cx κ x cX0_moveItems RX0 kX0_moveItems rmX0_moveItems 7) {z : Mem} (hr : RV κ x cX0_moveItems (cT x z)) (g : Nat) (w1 : Int32) (w2 : Int32) (w3 : Int32) (w4 : Int32) (w5 : Int32) (kx : Mem → Option (Mem)) (hk : ∀ (S1 : Mem), kx S1 = some z → GG κ x (cT x S1) 94 [(0, .ref (ax x 1)), (1, .int w1), (2, .int w2), (3, .int w3), (4, .int w4), (5, .int w5)] []) : ∀ (n : Nat) (S : Mem) (w6 : Int32), f_X0_moveItems_55 g w1 w2 w3 w4 w5 kx n S w6 = some z → GG κ x (cT x S) 55 [(0, .ref (ax x 1)), (1, .int w1), (2, .int w2), (3, .int w3), (4, .int w4), (5, .int w5), (6, .int w6)] [] := by
  intro n
  induction n with
  | zero => intro S w6 hf; cases hf
  | succ n ih =>
    intro S w6 hf
    rw [f_X0_moveItems_55] at hf
    refine g_iload C 6 rfl dX0_moveItems_55 ?_
    refine g_iload C 4 rfl dX0_moveItems_57 ?_
    refine g_icmp_ge C 94 (by decide) dX0_moveItems_59 (fun h14 => ?_) (fun h14 => ?_)
    · rw [if_pos h14] at hf
      refine g_sub [0, 1, 2, 3, 4, 5] rfl ?_
      exact hk S hf
    · rw [if_neg h14] at hf
      refine g_aload_n C 0 rfl rfl dX0_moveItems_62 ?_
      refine g_iload_n C 3 rfl rfl dX0_moveItems_63 ?_
      refine g_iload C 5 rfl dX0_moveItems_64 ?_
      refine g_iload C 6 rfl dX0_moveItems_66 ?_
      refine g_iadd C dX0_moveItems_68 ?_
      refine g_iload_n C 2 rfl rfl dX0_moveItems_69 ?_
      refine g_isub C dX0_moveItems_70 ?_
      refine g_aload_n C 0 rfl rfl dX0_moveItems_71 ?_
      refine g_iload_n C 1 rfl rfl dX0_moveItems_72 ?_
      refine g_iload C 6 rfl dX0_moveItems_73 ?_
      obtain ⟨r16, h15, hf⟩ := bd_some hf
      refine g_callVI C (n := 2) (st := [.int ((w5 + w6) - w2), .int w3, .ref (ax x 1)]) (c_X0_keyAt g S w1 w6 h15) (tb_wsV _ mM_X0_45 mI_X0_keyAt mS_X0_keyAt mN_X0 mK_X0_keyAt) (by decide +kernel) rfl rfl ⟨by decide, by decide⟩ 1 0 rfl rfl rfl (Nat.le_of_ble_eq_true rfl) dX0_moveItems_75 rfl ?_
      refine g_aload_n C 0 rfl rfl dX0_moveItems_78 ?_
      refine g_iload_n C 1 rfl rfl dX0_moveItems_79 ?_
      refine g_iload C 6 rfl dX0_moveItems_80 ?_
      obtain ⟨r18, h17, hf⟩ := bd_some hf
      refine g_callVI C (n := 2) (st := [.int r16, .int ((w5 + w6) - w2), .int w3, .ref (ax x 1)]) (c_X0_secondAt g S w1 w6 h17) (tb_wsV _ mM_X0_48 mI_X0_secondAt mS_X0_secondAt mN_X0 mK_X0_secondAt) (by decide +kernel) rfl rfl ⟨by decide, by decide⟩ 1 0 rfl rfl rfl (Nat.le_of_ble_eq_true rfl) dX0_moveItems_82 rfl ?_
      obtain ⟨S20, h19, hf⟩ := bd_some hf
      refine g_callVV C (n := 4) (st := []) (c_X0_setItem g S w3 ((w5 + w6) - w2) r16 r18 h19) (tb_wsV _ mM_X0_51 mI_X0_setItem mS_X0_setItem mN_X0 mK_X0_setItem) (by decide +kernel) rfl rfl ⟨by decide, by decide⟩ 1 0 rfl rfl rfl (Nat.le_of_ble_eq_true rfl) dX0_moveItems_85 rfl ?_
      refine g_iinc C (v := w6 + 1) (lv2 := [(6, .int (w6 + 1)), (0, .ref (ax x 1)), (1, .int w1), (2, .int w2), (3, .int w3), (4, .int w4), (5, .int w5)]) 6 rfl (by rw [(by decide : Int32.ofInt 1 = 1)]) (by decide) rfl dX0_moveItems_88 ?_
      refine g_goto C 55 (by decide) dX0_moveItems_91 ?_
      refine g_sub [1, 2, 3, 4, 5, 6, 0] rfl ?_
      exact ih S20 (w6 + 1) hf
set_option maxHeartbeats 4000000 in
set_option maxRecDepth 100000 in
theorem c_X0_moveItems {l : Launch} {x : Ad} (g : Nat) (S : Mem) (a1 : Int32) (a2 : Int32) (a3 : Int32) {z : Mem} (hf : f_X0_moveItems g S a1 a2 a3 = some z) : MV l x yX0_moveItems kX0_moveItems rmX0_moveItems [.ref (ax x 1), .int a1, .int a2, .int a3] (cT x S) (cT x z) := by
  refine met_V RX0 (by decide +kernel) rfl (Nat.le_of_ble_eq_true rfl) [(0, .ref (ax x 1)), (1, .int a1), (2, .int a2), (3, .int a3)] rfl ?_
  intro κ hl C hr
  subst hl
  rw [f_X0_moveItems] at hf
  refine g_aload_n C 0 rfl rfl dX0_moveItems_0 ?_
  refine g_iload_n C 1 rfl rfl dX0_moveItems_1 ?_
  obtain ⟨r2, h1, hf⟩ := bd_some hf
  refine g_callVI C (n := 1) (st := []) (c_X0_countOf g S a1 h1) (tb_wsV _ mM_X0_41 mI_X0_countOf mS_X0_countOf mN_X0 mK_X0_countOf) (by decide +kernel) rfl rfl ⟨by decide, by decide⟩ 1 0 rfl rfl rfl (Nat.le_of_ble_eq_true rfl) dX0_moveItems_2 rfl ?_
  refine g_istore C (lv2 := [(4, .int r2), (0, .ref (ax x 1)), (1, .int a1), (2, .int a2), (3, .int a3)]) (by decide) rfl dX0_moveItems_5 ?_
  refine g_aload_n C 1 rfl rfl dX0_moveItems_7 ?_
  refine g_iload_n C 4 rfl rfl dX0_moveItems_8 ?_
  obtain ⟨r4, h3, hf⟩ := bd_some hf
  refine g_callVI C (n := 1) (st := []) (c_X0_countOf g S a3 h3) (tb_wsV _ mM_X0_41 mI_X0_countOf mS_X0_countOf mN_X0 mK_X0_countOf) (by decide +kernel) rfl rfl ⟨by decide, by decide⟩ 1 0 rfl rfl rfl (Nat.le_of_ble_eq_true rfl) dX0_moveItems_9 rfl ?_
  refine g_istore C (lv2 := [(5, .int r4), (4, .int r2), (0, .ref (ax x 1)), (1, .int a1), (2, .int a2), (3, .int a3)]) (by decide) rfl dX0_moveItems_12 ?_
  refine g_aload_n C 2 rfl rfl dX0_moveItems_14 ?_
  refine g_iload_n C 3 rfl rfl dX0_moveItems_15 ?_
  obtain ⟨r6, h5, hf⟩ := bd_some hf
  refine g_callVI C (n := 1) (st := []) (c_X0_isPage g S a1 h5) (tb_wsV _ mM_X0_33 mI_X0_isPage mS_X0_isPage mN_X0 mK_X0_isPage) (by decide +kernel) rfl rfl ⟨by decide, by decide⟩ 1 0 rfl rfl rfl (Nat.le_of_ble_eq_true rfl) dX0_moveItems_16 rfl ?_
  refine g_if_eq C 51 (by decide) dX0_moveItems_19 (fun h7 => ?_) (fun h7 => ?_)
  · rw [if_pos h7] at hf
    obtain rfl := Option.some.inj hf
    exact g_vret hr dX0_moveItems_51
  · rw [if_neg h7] at hf
    refine g_aload_n C 2 rfl rfl dX0_moveItems_22 ?_
    refine g_iload_n C 5 rfl rfl dX0_moveItems_23 ?_
    obtain ⟨r9, h8, hf⟩ := bd_some hf
    refine g_callVI C (n := 1) (st := []) (c_X0_isPage g S a3 h8) (tb_wsV _ mM_X0_33 mI_X0_isPage mS_X0_isPage mN_X0 mK_X0_isPage) (by decide +kernel) rfl rfl ⟨by decide, by decide⟩ 1 0 rfl rfl rfl (Nat.le_of_ble_eq_true rfl) dX0_moveItems_24 rfl ?_
    refine g_if_eq C 51 (by decide) dX0_moveItems_27 (fun h10 => ?_) (fun h10 => ?_)
    · rw [if_pos h10] at hf
      obtain rfl := Option.some.inj hf
      exact g_vret hr dX0_moveItems_51
    · rw [if_neg h10] at hf
      refine g_iload_n C 4 rfl rfl dX0_moveItems_30 ?_
      refine g_if_lt C 51 (by decide) dX0_moveItems_31 (fun h11 => ?_) (fun h11 => ?_)
      · rw [if_pos h11] at hf
        obtain rfl := Option.some.inj hf
        exact g_vret hr dX0_moveItems_51
      · rw [if_neg h11] at hf
        refine g_iload_n C 4 rfl rfl dX0_moveItems_34 ?_
        refine g_iload C 1 rfl dX0_moveItems_35 ?_
        refine g_icmp_gt C 51 (by decide) dX0_moveItems_37 (fun h12 => ?_) (fun h12 => ?_)
        · rw [if_pos h12] at hf
          obtain rfl := Option.some.inj hf
          exact g_vret hr dX0_moveItems_51
        · rw [if_neg h12] at hf
          refine g_iload C 0 rfl dX0_moveItems_40 ?_
          refine g_iload C 1 rfl dX0_moveItems_42 ?_
          refine g_iadd C dX0_moveItems_44 ?_
          refine g_iload_n C 4 rfl rfl dX0_moveItems_45 ?_
          refine g_isub C dX0_moveItems_46 ?_
          refine g_iconst C (v := 5) (by decide) dX0_moveItems_47 ?_
          refine g_icmp_le C 52 (by decide) dX0_moveItems_48 (fun h13 => ?_) (fun h13 => ?_)
          · rw [if_pos h13] at hf
            refine g_iload_n C 4 rfl rfl dX0_moveItems_52 ?_
            refine g_istore C (lv2 := [(6, .int a2), (5, .int r4), (4, .int r2), (0, .ref (ax x 1)), (1, .int a1), (2, .int a2), (3, .int a3)]) (by decide) rfl dX0_moveItems_53 ?_
            refine g_sub [3, 4, 5, 6, 2, 1, 0] rfl ?_
            refine lp_X0_moveItems_55 C hr g a1 a2 a3 r2 r4 _ (fun S21 hf => ?_) g S a2 hf
            refine g_aload_n C 0 rfl rfl dX0_moveItems_94 ?_
            refine tF_X0_15 C dX0_moveItems_95 ?_
            refine g_iload_n C 1 rfl rfl dX0_moveItems_98 ?_
            refine g_iload_n C 2 rfl rfl dX0_moveItems_99 ?_
            obtain ⟨h22, hf⟩ := gd_some hf
            refine tS_3 C h22 dX0_moveItems_100 ?_
            refine g_aload_n C 0 rfl rfl dX0_moveItems_101 ?_
            refine tF_X0_15 C dX0_moveItems_102 ?_
            refine g_iload_n C 3 rfl rfl dX0_moveItems_105 ?_
            refine g_iload C 5 rfl dX0_moveItems_106 ?_
            refine g_iload C 4 rfl dX0_moveItems_108 ?_
            refine g_iadd C dX0_moveItems_110 ?_
            refine g_iload_n C 2 rfl rfl dX0_moveItems_111 ?_
            refine g_isub C dX0_moveItems_112 ?_
            obtain ⟨h23, hf⟩ := gd_some hf
            refine tS_3 C h23 dX0_moveItems_113 ?_
            obtain rfl := Option.some.inj hf
            exact g_vret hr dX0_moveItems_114
          · rw [if_neg h13] at hf
            obtain rfl := Option.some.inj hf
            exact g_vret hr dX0_moveItems_51
def f_X0_allot (g : Nat) (S : Mem) (a1 : Int32) (a2 : Int32) : Option (Mem) := bd (f_X0_isPage g S a1) (fun r2 => if r2 = 0 then (some S) else (gd (ix_in a1 40) (gd (ix_in a1 40) (gd (ix_in a1 40) (some (up (up (up S 2 a1.toNatClampNeg a2) 3 a1.toNatClampNeg 0) 4 a1.toNatClampNeg ((-1))))))))
abbrev rmX0_allot : Room := { frames := 1, cells := 0, slots := 0, locals := 21 }
set_option maxHeartbeats 4000000 in
set_option maxRecDepth 100000 in
theorem c_X0_allot {l : Launch} {x : Ad} (g : Nat) (S : Mem) (a1 : Int32) (a2 : Int32) {z : Mem} (hf : f_X0_allot g S a1 a2 = some z) : MV l x yX0_allot kX0_allot rmX0_allot [.ref (ax x 1), .int a1, .int a2] (cT x S) (cT x z) := by
  refine met_V RX0 (by decide +kernel) rfl (Nat.le_of_ble_eq_true rfl) [(0, .ref (ax x 1)), (1, .int a1), (2, .int a2)] rfl ?_
  intro κ hl C hr
  subst hl
  rw [f_X0_allot] at hf
  refine g_aload_n C 0 rfl rfl dX0_allot_0 ?_
  refine g_iload_n C 1 rfl rfl dX0_allot_1 ?_
  obtain ⟨r2, h1, hf⟩ := bd_some hf
  refine g_callVI C (n := 1) (st := []) (c_X0_isPage g S a1 h1) (tb_wsV _ mM_X0_33 mI_X0_isPage mS_X0_isPage mN_X0 mK_X0_isPage) (by decide +kernel) rfl rfl ⟨by decide, by decide⟩ 1 0 rfl rfl rfl (Nat.le_of_ble_eq_true rfl) dX0_allot_2 rfl ?_
  refine g_if_eq C 29 (by decide) dX0_allot_5 (fun h3 => ?_) (fun h3 => ?_)
  · rw [if_pos h3] at hf
    obtain rfl := Option.some.inj hf
    exact g_vret hr dX0_allot_29
  · rw [if_neg h3] at hf
    refine g_aload_n C 0 rfl rfl dX0_allot_8 ?_
    refine tF_X0_9 C dX0_allot_9 ?_
    refine g_iload_n C 1 rfl rfl dX0_allot_12 ?_
    refine g_iload_n C 2 rfl rfl dX0_allot_13 ?_
    obtain ⟨h4, hf⟩ := gd_some hf
    refine tS_2 C h4 dX0_allot_14 ?_
    refine g_aload_n C 0 rfl rfl dX0_allot_15 ?_
    refine tF_X0_15 C dX0_allot_16 ?_
    refine g_iload_n C 1 rfl rfl dX0_allot_19 ?_
    refine g_iconst C (v := 0) (by decide) dX0_allot_20 ?_
    obtain ⟨h5, hf⟩ := gd_some hf
    refine tS_3 C h5 dX0_allot_21 ?_
    refine g_aload_n C 0 rfl rfl dX0_allot_22 ?_
    refine tF_X0_18 C dX0_allot_23 ?_
    refine g_iload_n C 1 rfl rfl dX0_allot_26 ?_
    refine g_iconst C (v := (-1)) (by decide) dX0_allot_27 ?_
    obtain ⟨h6, hf⟩ := gd_some hf
    refine tS_4 C h6 dX0_allot_28 ?_
    obtain rfl := Option.some.inj hf
    exact g_vret hr dX0_allot_29
def f_X0_leastFree_2 (g : Nat) (S : Mem)  : Nat → Int32 → Option (Int32)
  | 0, _ => none
  | n + 1, w1 => if 40 ≤ w1 then (some ((-1))) else (bd (f_X0_kindOf g S w1) (fun r3 => if r3 = 0 then (some w1) else (f_X0_leastFree_2 g S n (w1 + 1))))
def f_X0_leastFree (g : Nat) (S : Mem) : Option (Int32) := f_X0_leastFree_2 g S g 0
abbrev rmX0_leastFree : Room := { frames := 2, cells := 0, slots := 0, locals := 42 }
set_option maxHeartbeats 4000000 in
set_option maxRecDepth 100000 in
theorem lp_X0_leastFree_2 {κ : Kx} {x : Ad} (C : Cx κ x cX0_leastFree RX0 kX0_leastFree rmX0_leastFree 2) (S : Mem) {z : Int32} (hr : RI κ x cX0_leastFree (cT x S) z) (g : Nat)  : ∀ (n : Nat) (w1 : Int32), f_X0_leastFree_2 g S n w1 = some z → GG κ x (cT x S) 2 [(0, .ref (ax x 1)), (1, .int w1)] [] := by
  intro n
  induction n with
  | zero => intro w1 hf; cases hf
  | succ n ih =>
    intro w1 hf
    rw [f_X0_leastFree_2] at hf
    refine g_iload_n C 1 rfl rfl dX0_leastFree_2 ?_
    refine g_bipush C (v := 40) (by decide) dX0_leastFree_3 ?_
    refine g_icmp_ge C 24 (by decide) dX0_leastFree_5 (fun h1 => ?_) (fun h1 => ?_)
    · rw [if_pos h1] at hf
      refine g_iconst C (v := (-1)) (by decide) dX0_leastFree_24 ?_
      obtain rfl := Option.some.inj hf
      exact g_iret hr dX0_leastFree_25
    · rw [if_neg h1] at hf
      refine g_aload_n C 0 rfl rfl dX0_leastFree_8 ?_
      refine g_iload_n C 1 rfl rfl dX0_leastFree_9 ?_
      obtain ⟨r3, h2, hf⟩ := bd_some hf
      refine g_callVI C (n := 1) (st := []) (c_X0_kindOf g S w1 h2) (tb_wsV _ mM_X0_55 mI_X0_kindOf mS_X0_kindOf mN_X0 mK_X0_kindOf) (by decide +kernel) rfl rfl ⟨by decide, by decide⟩ 1 0 rfl rfl rfl (Nat.le_of_ble_eq_true rfl) dX0_leastFree_10 rfl ?_
      refine g_if_ne C 18 (by decide) dX0_leastFree_13 (fun h4 => ?_) (fun h4 => ?_)
      · rw [if_neg h4] at hf
        refine g_iinc C (v := w1 + 1) (lv2 := [(1, .int (w1 + 1)), (0, .ref (ax x 1))]) 1 rfl (by rw [(by decide : Int32.ofInt 1 = 1)]) (by decide) rfl dX0_leastFree_18 ?_
        refine g_goto C 2 (by decide) dX0_leastFree_21 ?_
        refine g_sub [1, 0] rfl ?_
        exact ih (w1 + 1) hf
      · rw [if_pos h4] at hf
        refine g_iload_n C 1 rfl rfl dX0_leastFree_16 ?_
        obtain rfl := Option.some.inj hf
        exact g_iret hr dX0_leastFree_17
set_option maxHeartbeats 4000000 in
set_option maxRecDepth 100000 in
theorem c_X0_leastFree {l : Launch} {x : Ad} (g : Nat) (S : Mem) {z : Int32} (hf : f_X0_leastFree g S = some z) : MI l x yX0_leastFree kX0_leastFree rmX0_leastFree [.ref (ax x 1)] (cT x S) z (cT x S) := by
  refine met_I RX0 (by decide +kernel) rfl (Nat.le_of_ble_eq_true rfl) [(0, .ref (ax x 1))] rfl ?_
  intro κ hl C hr
  subst hl
  rw [f_X0_leastFree] at hf
  refine g_iconst C (v := 0) (by decide) dX0_leastFree_0 ?_
  refine g_istore_n C (lv2 := [(1, .int 0), (0, .ref (ax x 1))]) rfl (by decide) rfl dX0_leastFree_1 ?_
  refine g_sub [1, 0] rfl ?_
  exact lp_X0_leastFree_2 C S hr g g 0 hf
def f_X0_countFree_4 (g : Nat) (S : Mem)  : Nat → Int32 → Int32 → Option (Int32)
  | 0, _, _ => none
  | n + 1, w1, w2 => if 40 ≤ w2 then (some w1) else (bd (f_X0_kindOf g S w2) (fun r3 => if r3 = 0 then (f_X0_countFree_4 g S n (w1 + 1) (w2 + 1)) else (f_X0_countFree_4 g S n w1 (w2 + 1))))
def f_X0_countFree (g : Nat) (S : Mem) : Option (Int32) := f_X0_countFree_4 g S g 0 0
abbrev rmX0_countFree : Room := { frames := 2, cells := 0, slots := 0, locals := 42 }
set_option maxHeartbeats 4000000 in
set_option maxRecDepth 100000 in
theorem lp_X0_countFree_4 {κ : Kx} {x : Ad} (C : Cx κ x cX0_countFree RX0 kX0_countFree rmX0_countFree 3) (S : Mem) {z : Int32} (hr : RI κ x cX0_countFree (cT x S) z) (g : Nat)  : ∀ (n : Nat) (w1 : Int32) (w2 : Int32), f_X0_countFree_4 g S n w1 w2 = some z → GG κ x (cT x S) 4 [(0, .ref (ax x 1)), (1, .int w1), (2, .int w2)] [] := by
  intro n
  induction n with
  | zero => intro w1 w2 hf; cases hf
  | succ n ih =>
    intro w1 w2 hf
    rw [f_X0_countFree_4] at hf
    refine g_iload_n C 2 rfl rfl dX0_countFree_4 ?_
    refine g_bipush C (v := 40) (by decide) dX0_countFree_5 ?_
    refine g_icmp_ge C 27 (by decide) dX0_countFree_7 (fun h1 => ?_) (fun h1 => ?_)
    · rw [if_pos h1] at hf
      refine g_iload_n C 1 rfl rfl dX0_countFree_27 ?_
      obtain rfl := Option.some.inj hf
      exact g_iret hr dX0_countFree_28
    · rw [if_neg h1] at hf
      refine g_aload_n C 0 rfl rfl dX0_countFree_10 ?_
      refine g_iload_n C 2 rfl rfl dX0_countFree_11 ?_
      obtain ⟨r3, h2, hf⟩ := bd_some hf
      refine g_callVI C (n := 1) (st := []) (c_X0_kindOf g S w2 h2) (tb_wsV _ mM_X0_55 mI_X0_kindOf mS_X0_kindOf mN_X0 mK_X0_kindOf) (by decide +kernel) rfl rfl ⟨by decide, by decide⟩ 1 0 rfl rfl rfl (Nat.le_of_ble_eq_true rfl) dX0_countFree_12 rfl ?_
      refine g_if_ne C 21 (by decide) dX0_countFree_15 (fun h4 => ?_) (fun h4 => ?_)
      · rw [if_neg h4] at hf
        refine g_iinc C (v := w2 + 1) (lv2 := [(2, .int (w2 + 1)), (0, .ref (ax x 1)), (1, .int w1)]) 2 rfl (by rw [(by decide : Int32.ofInt 1 = 1)]) (by decide) rfl dX0_countFree_21 ?_
        refine g_goto C 4 (by decide) dX0_countFree_24 ?_
        refine g_sub [1, 2, 0] rfl ?_
        exact ih w1 (w2 + 1) hf
      · rw [if_pos h4] at hf
        refine g_iinc C (v := w1 + 1) (lv2 := [(1, .int (w1 + 1)), (0, .ref (ax x 1)), (2, .int w2)]) 1 rfl (by rw [(by decide : Int32.ofInt 1 = 1)]) (by decide) rfl dX0_countFree_18 ?_
        refine g_iinc C (v := w2 + 1) (lv2 := [(2, .int (w2 + 1)), (1, .int (w1 + 1)), (0, .ref (ax x 1))]) 2 rfl (by rw [(by decide : Int32.ofInt 1 = 1)]) (by decide) rfl dX0_countFree_21 ?_
        refine g_goto C 4 (by decide) dX0_countFree_24 ?_
        refine g_sub [2, 1, 0] rfl ?_
        exact ih (w1 + 1) (w2 + 1) hf
set_option maxHeartbeats 4000000 in
set_option maxRecDepth 100000 in
theorem c_X0_countFree {l : Launch} {x : Ad} (g : Nat) (S : Mem) {z : Int32} (hf : f_X0_countFree g S = some z) : MI l x yX0_countFree kX0_countFree rmX0_countFree [.ref (ax x 1)] (cT x S) z (cT x S) := by
  refine met_I RX0 (by decide +kernel) rfl (Nat.le_of_ble_eq_true rfl) [(0, .ref (ax x 1))] rfl ?_
  intro κ hl C hr
  subst hl
  rw [f_X0_countFree] at hf
  refine g_iconst C (v := 0) (by decide) dX0_countFree_0 ?_
  refine g_istore_n C (lv2 := [(1, .int 0), (0, .ref (ax x 1))]) rfl (by decide) rfl dX0_countFree_1 ?_
  refine g_iconst C (v := 0) (by decide) dX0_countFree_2 ?_
  refine g_istore_n C (lv2 := [(2, .int 0), (1, .int 0), (0, .ref (ax x 1))]) rfl (by decide) rfl dX0_countFree_3 ?_
  refine g_sub [2, 1, 0] rfl ?_
  exact lp_X0_countFree_4 C S hr g g 0 0 hf
def f_X0_placeOf_9 (g : Nat) (S : Mem) (w1 : Int32) (w2 : Int32) (w3 : Int32) : Nat → Int32 → Option (Int32)
  | 0, _ => none
  | n + 1, w4 => if w3 ≤ w4 then (some w3) else (bd (f_X0_keyAt g S w1 w4) (fun r5 => if r5 < w2 then (f_X0_placeOf_9 g S w1 w2 w3 n (w4 + 1)) else (some w4)))
def f_X0_placeOf (g : Nat) (S : Mem) (a1 : Int32) (a2 : Int32) : Option (Int32) := bd (f_X0_countOf g S a1) (fun r2 => f_X0_placeOf_9 g S a1 a2 r2 g 0)
abbrev rmX0_placeOf : Room := { frames := 2, cells := 0, slots := 0, locals := 46 }
set_option maxHeartbeats 4000000 in
set_option maxRecDepth 100000 in
theorem lp_X0_placeOf_9 {κ : Kx} {x : Ad} (C : Cx κ x cX0_placeOf RX0 kX0_placeOf rmX0_placeOf 5) (S : Mem) {z : Int32} (hr : RI κ x cX0_placeOf (cT x S) z) (g : Nat) (w1 : Int32) (w2 : Int32) (w3 : Int32) : ∀ (n : Nat) (w4 : Int32), f_X0_placeOf_9 g S w1 w2 w3 n w4 = some z → GG κ x (cT x S) 9 [(0, .ref (ax x 1)), (1, .int w1), (2, .int w2), (3, .int w3), (4, .int w4)] [] := by
  intro n
  induction n with
  | zero => intro w4 hf; cases hf
  | succ n ih =>
    intro w4 hf
    rw [f_X0_placeOf_9] at hf
    refine g_iload C 4 rfl dX0_placeOf_9 ?_
    refine g_iload_n C 3 rfl rfl dX0_placeOf_11 ?_
    refine g_icmp_ge C 35 (by decide) dX0_placeOf_12 (fun h3 => ?_) (fun h3 => ?_)
    · rw [if_pos h3] at hf
      refine g_iload_n C 3 rfl rfl dX0_placeOf_35 ?_
      obtain rfl := Option.some.inj hf
      exact g_iret hr dX0_placeOf_36
    · rw [if_neg h3] at hf
      refine g_aload_n C 0 rfl rfl dX0_placeOf_15 ?_
      refine g_iload_n C 1 rfl rfl dX0_placeOf_16 ?_
      refine g_iload C 4 rfl dX0_placeOf_17 ?_
      obtain ⟨r5, h4, hf⟩ := bd_some hf
      refine g_callVI C (n := 2) (st := []) (c_X0_keyAt g S w1 w4 h4) (tb_wsV _ mM_X0_45 mI_X0_keyAt mS_X0_keyAt mN_X0 mK_X0_keyAt) (by decide +kernel) rfl rfl ⟨by decide, by decide⟩ 1 0 rfl rfl rfl (Nat.le_of_ble_eq_true rfl) dX0_placeOf_19 rfl ?_
      refine g_iload_n C 2 rfl rfl dX0_placeOf_22 ?_
      refine g_icmp_lt C 29 (by decide) dX0_placeOf_23 (fun h6 => ?_) (fun h6 => ?_)
      · rw [if_pos h6] at hf
        refine g_iinc C (v := w4 + 1) (lv2 := [(4, .int (w4 + 1)), (0, .ref (ax x 1)), (1, .int w1), (2, .int w2), (3, .int w3)]) 4 rfl (by rw [(by decide : Int32.ofInt 1 = 1)]) (by decide) rfl dX0_placeOf_29 ?_
        refine g_goto C 9 (by decide) dX0_placeOf_32 ?_
        refine g_sub [1, 2, 3, 4, 0] rfl ?_
        exact ih (w4 + 1) hf
      · rw [if_neg h6] at hf
        refine g_iload C 4 rfl dX0_placeOf_26 ?_
        obtain rfl := Option.some.inj hf
        exact g_iret hr dX0_placeOf_28
set_option maxHeartbeats 4000000 in
set_option maxRecDepth 100000 in
theorem c_X0_placeOf {l : Launch} {x : Ad} (g : Nat) (S : Mem) (a1 : Int32) (a2 : Int32) {z : Int32} (hf : f_X0_placeOf g S a1 a2 = some z) : MI l x yX0_placeOf kX0_placeOf rmX0_placeOf [.ref (ax x 1), .int a1, .int a2] (cT x S) z (cT x S) := by
  refine met_I RX0 (by decide +kernel) rfl (Nat.le_of_ble_eq_true rfl) [(0, .ref (ax x 1)), (1, .int a1), (2, .int a2)] rfl ?_
  intro κ hl C hr
  subst hl
  rw [f_X0_placeOf] at hf
  refine g_aload_n C 0 rfl rfl dX0_placeOf_0 ?_
  refine g_iload_n C 1 rfl rfl dX0_placeOf_1 ?_
  obtain ⟨r2, h1, hf⟩ := bd_some hf
  refine g_callVI C (n := 1) (st := []) (c_X0_countOf g S a1 h1) (tb_wsV _ mM_X0_41 mI_X0_countOf mS_X0_countOf mN_X0 mK_X0_countOf) (by decide +kernel) rfl rfl ⟨by decide, by decide⟩ 1 0 rfl rfl rfl (Nat.le_of_ble_eq_true rfl) dX0_placeOf_2 rfl ?_
  refine g_istore_n C (lv2 := [(3, .int r2), (0, .ref (ax x 1)), (1, .int a1), (2, .int a2)]) rfl (by decide) rfl dX0_placeOf_5 ?_
  refine g_iconst C (v := 0) (by decide) dX0_placeOf_6 ?_
  refine g_istore C (lv2 := [(4, .int 0), (3, .int r2), (0, .ref (ax x 1)), (1, .int a1), (2, .int a2)]) (by decide) rfl dX0_placeOf_7 ?_
  refine g_sub [2, 3, 4, 1, 0] rfl ?_
  exact lp_X0_placeOf_9 C S hr g a1 a2 r2 g 0 hf
