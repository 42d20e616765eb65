def pg (e : It) : Nat := e.2.toNatClampNeg
theorem mkc2 (e : It) : (mkc e).2 = pg e := rfl
theorem pg_nI {m : Int32} {c : Nat} (hc : c < 40) : pg (m, nI c) = c := nI_clamp (by omega)
/-- the level below a page of a level, seen from a child -/
theorem TI.site {P : Nat → Pg} {rt h : Nat} {L : Nat → Lev} (T : TI P rt h L) {e : Nat} (he : e < h) {U V : Lev} {lo : Int} {par : Nat} (hL : L e = U ++ (lo, par) :: V) {X Y Z : List It} {z : It} (hpar : (P par).2.1 = X ++ z :: (Z ++ Y)) :
    L (e + 1) = (U.flatMap (kd P) ++ kl lo X) ++ ((lw lo X z, pg z) :: Z.map mkc) ++ (Y.map mkc ++ V.flatMap (kd P)) := by
  rw [T.2.2.1 e he, hL, List.flatMap_append, List.flatMap_cons]
  unfold kd
  simp only [hpar]
  rw [kl_app]
  simp [pg]
theorem TI.loc {P P' : Nat → Pg} {rt h : Nat} {L : Nat → Lev} (T : TI P rt h L) {e : Nat} (he : e < h) {U V : Lev} {lo : Int} {par : Nat} (hL : L e = U ++ (lo, par) :: V) {X Y Z Z' : List It} {z : It} (hpar : (P par).2.1 = X ++ z :: (Z ++ Y))
    (hP : ∀ y, y ≠ par → y ∉ (z :: Z).map pg → y ∉ (z :: Z').map pg → P' y = P y)
    (hpar' : P' par = (2, X ++ z :: (Z' ++ Y), -1))
    (hval : ∀ w, w ∈ Z' → ∃ c, c < 40 ∧ w.2 = nI c)
    (hnew : ∀ w, w ∈ Z' → pg w ∈ (z :: Z).map pg ∨ (P (pg w)).1 = 0)
    (hnd : ((z :: Z').map pg).Nodup)
    (hdw : e + 1 < h → (∀ x, x ∈ (lw lo X z, pg z) :: Z'.map mkc → inn P' x.2) ∧ ((lw lo X z, pg z) :: Z'.map mkc).flatMap (kd P') = ((lw lo X z, pg z) :: Z.map mkc).flatMap (kd P))
    (hlf : e + 1 = h → (∀ x, x ∈ (lw lo X z, pg z) :: Z'.map mkc → (P' x.2).1 = 1) ∧ (∀ pre post : List Int, (pre ++ ((lw lo X z, pg z) :: Z.map mkc).flatMap (lk P) ++ post).Pairwise (· < ·) → (pre ++ ((lw lo X z, pg z) :: Z'.map mkc).flatMap (lk P') ++ post).Pairwise (· < ·)) ∧ ∀ w, chn P ((lw lo X z, pg z) :: Z.map mkc) w → chn P' ((lw lo X z, pg z) :: Z'.map mkc) w)
    (h9 : ∀ w, w ∈ Z → (P' (pg w)).1 ≠ 0 → pg w ∈ (z :: Z').map pg)
    (h10 : ∀ p, p < 40 → (P' p).1 = 0 → P' p = (0, [], -1)) :
    TI P' rt h (fun k => if k = e + 1 then (U.flatMap (kd P) ++ kl lo X) ++ ((lw lo X z, pg z) :: Z'.map mkc) ++ (Y.map mkc ++ V.flatMap (kd P)) else L k) := by
  have hB := T.site he hL hpar
  have T0 := T
  obtain ⟨t1, t2, t3, t4, t5, t6, t7, t8, t9, t10, t11⟩ := T
  obtain ⟨A, hA⟩ : ∃ A, A = U.flatMap (kd P) ++ kl lo X := ⟨_, rfl⟩
  obtain ⟨C, hC⟩ : ∃ C, C = Y.map mkc ++ V.flatMap (kd P) := ⟨_, rfl⟩
  obtain ⟨zz, hzz⟩ : ∃ zz, zz = (lw lo X z, pg z) :: Z.map mkc := ⟨_, rfl⟩
  obtain ⟨zw, hzw⟩ : ∃ zw, zw = (lw lo X z, pg z) :: Z'.map mkc := ⟨_, rfl⟩
  rw [← hzz, ← hzw] at hdw hlf
  rw [← hA, ← hC, ← hzz] at hB
  rw [← hA, ← hC, ← hzw]
  have mz : zz.map Prod.snd = (z :: Z).map pg := by rw [hzz]; simp [mkc2]
  have mw : zw.map Prod.snd = (z :: Z').map pg := by rw [hzw]; simp [mkc2]
  rw [← mz] at hP hnew
  rw [← mw] at hP hnd h9
  have hparm : (lo, par) ∈ L e := by rw [hL]; simp
  have hnew' : ∀ x, x ∈ zw → x.2 ∈ zz.map Prod.snd ∨ (P x.2).1 = 0 := fun x hx => by
    rw [hzw] at hx
    rcases List.mem_cons.mp hx with rfl | hx
    · exact Or.inl (by rw [hzz]; simp)
    · obtain ⟨w, hw, rfl⟩ := List.mem_map.mp hx
      exact hnew w hw
  have hzB : ∀ x, x ∈ zz → x ∈ L (e + 1) := fun x hx => by rw [hB]; simp [hx]
  have hAB : ∀ x, x ∈ A → x ∈ L (e + 1) := fun x hx => by rw [hB]; simp [hx]
  have hCB : ∀ x, x ∈ C → x ∈ L (e + 1) := fun x hx => by rw [hB]; simp [hx]
  -- a page of a level that isn't among zz isn't among zw
  have hnw : ∀ k, k ≤ h → ∀ x, x ∈ L k → x.2 ∉ zz.map Prod.snd → x.2 ∉ zw.map Prod.snd := fun k hk x hx h1 h2 => by
    obtain ⟨y, hy, hyx⟩ := List.mem_map.mp h2
    rcases hnew' y hy with q | q
    · exact h1 (by rw [← hyx]; exact q)
    · rw [hyx] at q; exact T0.nf hk hx q
  have hnl : ∀ k, k ≤ h → k ≠ e + 1 → ∀ x, x ∈ L k → x.2 ∉ zz.map Prod.snd := fun k hk hke x hx h1 => by
    obtain ⟨y, hy, hyx⟩ := List.mem_map.mp h1
    exact hke (t9 k (e + 1) hk (by omega) x hx y (hzB y hy) hyx.symm)
  have hndB := t8 (e + 1) (by omega)
  rw [hB, List.map_append, List.map_append] at hndB
  obtain ⟨n1, n2, n3⟩ := List.nodup_append.mp hndB
  obtain ⟨n4, n5, n6⟩ := List.nodup_append.mp n1
  have hAz : ∀ x, x ∈ A → x.2 ∉ zz.map Prod.snd := fun x hx h1 => n6 x.2 (List.mem_map.mpr ⟨x, hx, rfl⟩) x.2 h1 rfl
  have hCz : ∀ x, x ∈ C → x.2 ∉ zz.map Prod.snd := fun x hx h1 => n3 x.2 (List.mem_append.mpr (Or.inr h1)) x.2 (List.mem_map.mpr ⟨x, hx, rfl⟩) rfl
  have hlp : ∀ k, k ≤ h → k ≠ e → ∀ x, x ∈ L k → x.2 ≠ par := fun k hk hke x hx q => hke (t9 k e hk (by omega) x hx _ hparm q)
  have agA : ∀ x, x ∈ A → P' x.2 = P x.2 := fun x hx => hP _ (hlp (e + 1) (by omega) (by omega) x (hAB x hx)) (hAz x hx) (hnw (e + 1) (by omega) x (hAB x hx) (hAz x hx))
  have agC : ∀ x, x ∈ C → P' x.2 = P x.2 := fun x hx => hP _ (hlp (e + 1) (by omega) (by omega) x (hCB x hx)) (hCz x hx) (hnw (e + 1) (by omega) x (hCB x hx) (hCz x hx))
  have hinp := t2 e he _ hparm
  have hndL := t8 e (by omega)
  rw [hL] at hndL
  simp only [List.map_append, List.map_cons] at hndL
  have hUp : ∀ x, x ∈ U → x.2 ≠ par := fun x hx q => (List.nodup_append.mp hndL).2.2 x.2 (List.mem_map.mpr ⟨x, hx, rfl⟩) par (by simp) q
  have hVp : ∀ x, x ∈ V → x.2 ≠ par := fun x hx q => (List.nodup_cons.mp (List.nodup_append.mp hndL).2.1).1 (by rw [← q]; exact List.mem_map.mpr ⟨x, hx, rfl⟩)
  have agE : ∀ x, x ∈ L e → x.2 ≠ par → P' x.2 = P x.2 := fun x hx hxp => hP _ hxp (hnl e (by omega) (by omega) x hx) (hnw e (by omega) x hx (hnl e (by omega) (by omega) x hx))
  have agU : ∀ x, x ∈ U → P' x.2 = P x.2 := fun x hx => agE x (by rw [hL]; simp [hx]) (hUp x hx)
  have agV : ∀ x, x ∈ V → P' x.2 = P x.2 := fun x hx => agE x (by rw [hL]; simp [hx]) (hVp x hx)
  refine T0.relev (by omega) (fun k hk h1 h2 x hx => ?_) (fun q => absurd q (by omega)) (fun k hk => ?_) (fun hd => ?_) (fun hd => ?_) (fun x hx => ?_) ?_ (fun k hk hke x hx y hy => ?_) (fun p hp hn => ?_) h10
  · exact hP _ (hlp k hk (by omega) x hx) (hnl k hk h1 x hx) (hnw k hk x hx (hnl k hk h1 x hx))
  · have hke : k = e := by omega
    subst hke
    refine ⟨fun x hx => ?_, ?_⟩
    · by_cases q : x.2 = par
      · rw [q]
        unfold inn
        rw [hpar']
        refine ⟨rfl, rfl, by simp, fun w hw => ?_⟩
        have hold := hinp.2.2.2
        simp only at hold
        rw [hpar] at hold
        simp only [List.mem_append, List.mem_cons] at hw hold
        rcases hw with hw | hw | hw | hw
        · exact hold w (Or.inl hw)
        · exact hold w (Or.inr (Or.inl hw))
        · exact hval w hw
        · exact hold w (Or.inr (Or.inr (Or.inr hw)))
      · unfold inn; rw [agE x hx q]; exact t2 k he x hx
    · rw [hL, List.flatMap_append, List.flatMap_cons, kd_cg U agU, kd_cg V agV]
      have : kd P' (lo, par) = kl lo X ++ (zw ++ Y.map mkc) := by
        unfold kd
        simp only [hpar']
        rw [kl_app, hzw]
        simp [pg]
      rw [this, hA, hC]
      simp only [List.append_assoc]
  · obtain ⟨d1, d2⟩ := hdw hd
    refine ⟨fun x hx => ?_, ?_⟩
    · simp only [List.mem_append] at hx
      rcases hx with (hx | hx) | hx
      · unfold inn; rw [agA x hx]; exact t2 (e + 1) hd x (hAB x hx)
      · exact d1 x hx
      · unfold inn; rw [agC x hx]; exact t2 (e + 1) hd x (hCB x hx)
    · rw [List.flatMap_append, List.flatMap_append, kd_cg A agA, kd_cg C agC, d2, t3 (e + 1) hd, hB, List.flatMap_append, List.flatMap_append]
  · obtain ⟨d1, d2, d3⟩ := hlf hd
    refine ⟨fun x hx => ?_, ?_, ?_⟩
    · simp only [List.mem_append] at hx
      rcases hx with (hx | hx) | hx
      · rw [agA x hx]; exact t4 x (hd ▸ hAB x hx)
      · exact d1 x hx
      · rw [agC x hx]; exact t4 x (hd ▸ hCB x hx)
    · rw [List.flatMap_append, List.flatMap_append, lk_cg A agA, lk_cg C agC]
      refine d2 _ _ ?_
      rw [← List.flatMap_append, ← List.flatMap_append, ← hB, hd]
      exact t5
    · rw [← hd, hB, chn_app, chn_app] at t6
      rw [chn_app, chn_app]
      refine ⟨⟨?_, d3 _ t6.1.2⟩, chn_cg C _ agC t6.2⟩
      have hh : hdn zw (hdn C (-1)) = hdn zz (hdn C (-1)) := by rw [hzz, hzw]; rfl
      rw [hh]
      exact chn_cg A _ agA t6.1.1
  · simp only [List.mem_append] at hx
    rcases hx with (hx | hx) | hx
    · exact t7 (e + 1) (by omega) x (hAB x hx)
    · rw [hzw] at hx
      rcases List.mem_cons.mp hx with rfl | hx
      · exact t7 (e + 1) (by omega) _ (hzB _ (by rw [hzz]; simp))
      · obtain ⟨w, hw, rfl⟩ := List.mem_map.mp hx
        obtain ⟨c, hc1, hc2⟩ := hval w hw
        show w.2.toNatClampNeg < 40
        rw [hc2, nI_clamp (by omega)]; exact hc1
    · exact t7 (e + 1) (by omega) x (hCB x hx)
  · rw [List.map_append, List.map_append]
    refine List.nodup_append.mpr ⟨List.nodup_append.mpr ⟨n4, hnd, fun a ha b hb q => ?_⟩, n2, fun a ha b hb q => ?_⟩
    · obtain ⟨x, hx, rfl⟩ := List.mem_map.mp ha
      exact hnw (e + 1) (by omega) x (hAB x hx) (hAz x hx) (by rw [q]; exact hb)
    · obtain ⟨y, hy, rfl⟩ := List.mem_map.mp hb
      rcases List.mem_append.mp ha with ha | ha
      · exact n3 a (List.mem_append.mpr (Or.inl ha)) y.2 (List.mem_map.mpr ⟨y, hy, rfl⟩) q
      · exact hnw (e + 1) (by omega) y (hCB y hy) (hCz y hy) (by rw [← q]; exact ha)
  · simp only [List.mem_append] at hx
    rcases hx with (hx | hx) | hx
    · exact fun q => hke (t9 k (e + 1) hk (by omega) y hy x (hAB x hx) q.symm)
    · exact fun q => hnw k hk y hy (hnl k hk hke y hy) (by rw [← q]; exact List.mem_map.mpr ⟨x, hx, rfl⟩)
    · exact fun q => hke (t9 k (e + 1) hk (by omega) y hy x (hCB x hx) q.symm)
  · by_cases q1 : p = par
    · subst q1; exact Or.inr ⟨e, by omega, by omega, lo, hparm⟩
    · by_cases q2 : p ∈ zw.map Prod.snd
      · obtain ⟨x, hx, hxp⟩ := List.mem_map.mp q2
        refine Or.inl ⟨x.1, ?_⟩
        simp only [List.mem_append]
        refine Or.inl (Or.inr ?_)
        rw [← hxp]; exact hx
      · by_cases q3 : p ∈ zz.map Prod.snd
        · exfalso
          rw [mz] at q3
          rcases List.mem_cons.mp q3 with q3 | q3
          · exact q2 (by rw [mw, q3]; simp)
          · obtain ⟨w, hw, hwp⟩ := List.mem_map.mp q3
            refine q2 ?_
            rw [← hwp]
            exact h9 w hw (by rw [hwp]; exact hn)
        · rw [hP p q1 q3 q2] at hn
          obtain ⟨k, hk, lo2, hl⟩ := t10 p hp hn
          by_cases q4 : k = e + 1
          · subst q4
            rw [hB] at hl
            simp only [List.mem_append] at hl
            refine Or.inl ⟨lo2, ?_⟩
            simp only [List.mem_append]
            rcases hl with (hl | hl) | hl
            · exact Or.inl (Or.inl hl)
            · exact absurd (List.mem_map.mpr ⟨_, hl, rfl⟩) q3
            · exact Or.inr hl
          · exact Or.inr ⟨k, hk, q4, lo2, hl⟩
/-- a new root over the old one -/
theorem TI.raise {P : Nat → Pg} {rt h r : Nat} {L : Nat → Lev} (T : TI P rt h L) (hr : r < 40) (hf : (P r).1 = 0) : TI (sp P r (2, [(0, nI rt)], -1)) r (h + 1) (fun k => if k = 0 then [(-2147483648, r)] else L (k - 1)) := by
  have T0 := T
  obtain ⟨t1, t2, t3, t4, t5, t6, t7, t8, t9, t10, t11⟩ := T
  have hrt : rt < 40 := t7 0 (Nat.zero_le _) (-2147483648, rt) (by rw [t1]; simp)
  have hne : ∀ d, d ≤ h → ∀ x, x ∈ L d → x.2 ≠ r := fun d hd x hx q => T0.nf hd hx (by rw [q]; exact hf)
  have ag : ∀ d, d ≤ h → ∀ x, x ∈ L d → sp P r (2, [(0, nI rt)], -1) x.2 = P x.2 := fun d hd x hx => sp_n P _ (hne d hd x hx)
  refine ⟨rfl, fun k hk x hx => ?_, fun k hk => ?_, fun x hx => ?_, ?_, ?_, fun k hk x hx => ?_, fun k hk => ?_, fun k e hk he x hx y hy exy => ?_, fun p hp hn => ?_, fun p hp hn => ?_⟩
  · have hx' : x ∈ if k = 0 then [(-2147483648, r)] else L (k - 1) := hx
    by_cases q : k = 0
    · rw [if_pos q] at hx'
      simp at hx'
      subst hx'
      unfold inn
      simp only [sp_s]
      exact ⟨trivial, trivial, by simp, fun w hw => ⟨rt, hrt, by simp at hw; rw [hw]⟩⟩
    · rw [if_neg q] at hx'
      unfold inn
      rw [ag (k - 1) (by omega) x hx']
      exact t2 (k - 1) (by omega) x hx'
  · show (if k + 1 = 0 then [(-2147483648, r)] else L (k + 1 - 1)) = (if k = 0 then [(-2147483648, r)] else L (k - 1)).flatMap (kd (sp P r (2, [(0, nI rt)], -1)))
    rw [if_neg (by omega), Nat.add_sub_cancel]
    by_cases q : k = 0
    · rw [if_pos q, q, t1, List.flatMap_cons]
      unfold kd
      simp only [sp_s]
      simp [kl, nI_clamp (show rt < 2 ^ 31 by omega)]
    · rw [if_neg q, kd_cg _ (ag (k - 1) (by omega))]
      have := t3 (k - 1) (by omega)
      rw [show k - 1 + 1 = k by omega] at this
      exact this
  · have hx' : x ∈ L h := hx
    rw [ag h (Nat.le_refl _) x hx']; exact t4 x hx'
  · show ((L h).flatMap (lk _)).Pairwise (· < ·)
    rw [lk_cg _ (ag h (Nat.le_refl _))]; exact t5
  · show chn _ (L h) (-1)
    exact chn_cg _ _ (ag h (Nat.le_refl _)) t6
  · have hx' : x ∈ if k = 0 then [(-2147483648, r)] else L (k - 1) := hx
    by_cases q : k = 0
    · rw [if_pos q] at hx'; simp at hx'; subst hx'; exact hr
    · rw [if_neg q] at hx'; exact t7 (k - 1) (by omega) x hx'
  · show ((if k = 0 then [(-2147483648, r)] else L (k - 1)).map Prod.snd).Nodup
    by_cases q : k = 0
    · rw [if_pos q]; simp
    · rw [if_neg q]; exact t8 (k - 1) (by omega)
  · have hx' : x ∈ if k = 0 then [(-2147483648, r)] else L (k - 1) := hx
    have hy' : y ∈ if e = 0 then [(-2147483648, r)] else L (e - 1) := hy
    by_cases q1 : k = 0
    · rw [if_pos q1] at hx'; simp at hx'
      by_cases q2 : e = 0
      · omega
      · rw [if_neg q2] at hy'
        exact absurd (by rw [← exy, hx']) (hne (e - 1) (by omega) y hy')
    · rw [if_neg q1] at hx'
      by_cases q2 : e = 0
      · rw [if_pos q2] at hy'; simp at hy'
        exact absurd (by rw [exy, hy']) (hne (k - 1) (by omega) x hx')
      · rw [if_neg q2] at hy'
        have := t9 (k - 1) (e - 1) (by omega) (by omega) x hx' y hy' exy
        omega
  · by_cases q : p = r
    · subst q; exact ⟨0, by omega, -2147483648, by simp⟩
    · rw [sp_n P _ q] at hn
      obtain ⟨d, hd, lo, hl⟩ := t10 p hp hn
      exact ⟨d + 1, by omega, lo, by show (lo, p) ∈ if d + 1 = 0 then _ else L (d + 1 - 1); rw [if_neg (by omega)]; exact hl⟩
  · by_cases q : p = r
    · subst q; rw [sp_s] at hn; simp only at hn; exact absurd hn (by decide)
    · rw [sp_n P _ q] at hn ⊢; exact t11 p hp hn
/-- a root with one child goes -/
theorem TI.lower {P : Nat → Pg} {rt h c : Nat} {m : Int32} {L : Nat → Lev} (T : TI P rt (h + 1) L) (hc : c < 40) (hl : (P rt).2.1 = [(m, nI c)]) : TI (sp P rt (0, [], -1)) c h (fun k => L (k + 1)) := by
  have T0 := T
  obtain ⟨t1, t2, t3, t4, t5, t6, t7, t8, t9, t10, t11⟩ := T
  have hrm : ((-2147483648 : Int), rt) ∈ L 0 := by rw [t1]; simp
  have hrt : rt < 40 := t7 0 (Nat.zero_le _) _ hrm
  have h1 : L 1 = [(-2147483648, c)] := by
    rw [t3 0 (by omega), t1, List.flatMap_cons]
    unfold kd
    simp only [hl]
    simp [kl, nI_clamp (show c < 2 ^ 31 by omega)]
  have hne : ∀ d, d ≤ h → ∀ x, x ∈ L (d + 1) → x.2 ≠ rt := fun d hd x hx q => by
    have := t9 (d + 1) 0 (by omega) (by omega) x hx _ hrm q
    omega
  have ag : ∀ d, d ≤ h → ∀ x, x ∈ L (d + 1) → sp P rt (0, [], -1) x.2 = P x.2 := fun d hd x hx => sp_n P _ (hne d hd x hx)
  refine ⟨h1, fun k hk x hx => ?_, fun k hk => ?_, fun x hx => ?_, ?_, ?_, fun k hk x hx => t7 (k + 1) (by omega) x hx, fun k hk => t8 (k + 1) (by omega), fun k e hk he x hx y hy exy => ?_, fun p hp hn => ?_, fun p hp hn => ?_⟩
  · unfold inn; rw [ag k (by omega) x hx]; exact t2 (k + 1) (by omega) x hx
  · show L (k + 1 + 1) = (L (k + 1)).flatMap _
    rw [kd_cg _ (ag k (by omega))]; exact t3 (k + 1) (by omega)
  · rw [ag h (Nat.le_refl _) x hx]; exact t4 x hx
  · show ((L (h + 1)).flatMap (lk _)).Pairwise (· < ·)
    rw [lk_cg _ (ag h (Nat.le_refl _))]; exact t5
  · show chn _ (L (h + 1)) (-1)
    exact chn_cg _ _ (ag h (Nat.le_refl _)) t6
  · have := t9 (k + 1) (e + 1) (by omega) (by omega) x hx y hy exy
    omega
  · by_cases q : p = rt
    · subst q; rw [sp_s] at hn; exact absurd rfl hn
    · rw [sp_n P _ q] at hn
      obtain ⟨d, hd, lo, hl2⟩ := t10 p hp hn
      by_cases q2 : d = 0
      · subst q2; rw [t1] at hl2; simp at hl2; exact absurd hl2.2 q
      · exact ⟨d - 1, by omega, lo, by show (lo, p) ∈ L (d - 1 + 1); rw [show d - 1 + 1 = d by omega]; exact hl2⟩
  · by_cases q : p = rt
    · subst q; rw [sp_s]
    · rw [sp_n P _ q] at hn ⊢; exact t11 p hp hn
