theorem relMD {g : Nat} (hg : 30 < g) {S R : Mem} {P : Nat → Pg} {pl : List Nat} {p : Nat} (h : MD S R P pl []) (hp : p ∈ pl) : ∃ S' R', f_X4_releasePage g S (nI p) = some S' ∧ f_X5_release g R (nI p) = some R' ∧ MD S' R' (sp P p (0, [], -1)) (pl.filter (fun q => decide (q ≠ p))) [] ∧ smX lC S S' ∧ smQ R R' := by
  obtain ⟨hRC, hRM, hF, hM, hN⟩ := h
  obtain ⟨p40, t, ht, h8, h11⟩ := hF.2.2.2.2.2 p hp
  obtain ⟨T2, c1, c2, c3⟩ := c_allot (g := g) hRC (p := p) 0 p40
  have hF2 := hF.sm c3 (by decide)
  have h82 : T2.1 8 t = nI p := by rw [c3.2 8 (by decide)]; exact h8
  have hrel := rel_ok (g := g) hg hF (fun i hi => (hM.1 i hi).1) p40 ht h8
  have sM : smX [1, 2, 5, 8, 9, 10, 11] R (up (up (up (clr R t) 1 p 0) 2 p 0) 5 p (-1)) := ((((clrS R t).wk (by simp)).up _ _ (by decide)).up _ _ (by decide)).up _ _ (by decide)
  refine ⟨clr T2 t, _, ?_, hrel, ⟨c2.sm (clrS T2 t) (by decide), ?_, hF2.clr p40 ht h82, ?_, ?_⟩, (c3.wk (by simp)).tr ((clrS T2 t).wk (by simp)), smQ.of sM (by decide)⟩
  · unfold f_X4_releasePage
    rw [c1, bdS, clr_ok hg hF2 p40 ht h82, bdS]
  · refine Rp.emp hRM (fun y => ?_) (fun y => ?_) (fun y => ?_) ?_ ?_
    · rw [upN _ _ _ (by decide), upN _ _ _ (by decide), upA, (clrS R t).2 1 (by decide)]; simp
    · rw [upA, upN _ _ _ (by decide), upN _ _ _ (by decide), (clrS R t).2 5 (by decide)]; simp
    · rw [upN _ _ _ (by decide), upA, upN _ _ _ (by decide), (clrS R t).2 2 (by decide)]; simp
    · rw [sM.2 3 (by decide)]
    · rw [sM.2 4 (by decide)]
  · refine ((hM.clr (t := t)).smM (T := up (up (up (clr R t) 1 p 0) 2 p 0) 5 p (-1)) (l := [1, 2, 5]) (((smX.rf.up _ _ (by decide)).up _ _ (by decide)).up _ _ (by decide)) (by decide) (fun j _ => by rw [upN _ _ _ (by decide), upN _ _ _ (by decide), upN _ _ _ (by decide)])).smC (T := clr T2 t) (l := [2, 3, 4]) ?_ (by decide)
    refine ⟨?_, fun k hk => ?_⟩
    · rw [(clrS T2 t).1, c3.1, (clrS S t).1]
    · funext i
      by_cases e8 : k = 8
      · subst e8; rw [clr8, clr8, c3.2 8 (by decide)]
      · by_cases e9 : k = 9
        · subst e9; rw [clr9, clr9, c3.2 9 (by decide)]
        · by_cases e10 : k = 10
          · subst e10; rw [clr10, clr10, c3.2 10 (by decide)]
          · by_cases e11 : k = 11
            · subst e11; rw [clr11, clr11, c3.2 11 (by decide)]
            · rw [(clrS T2 t).2 k (by simp [e8, e9, e10, e11]), (clrS S t).2 k (by simp [e8, e9, e10, e11]), c3.2 k hk]
  · intro i hi q hq e
    rw [clr8] at e
    by_cases z : i = t
    · rw [if_pos z] at e; exact absurd e.symm (nI_m1 (by omega))
    · rw [if_neg z, c3.2 8 (by decide)] at e
      have hqr : q ≠ p := fun y => z (hF.un ht h8 p40 hi (by rw [e, y]))
      rw [sp_n _ _ hqr]
      exact hN i hi q hq e
theorem lowerE {g : Nat} (hg : 30 < g) {S R : Mem} {P : Nat → Pg} {pl : List Nat} {rt h : Nat} {L : Nat → Lev} (hMD : MD S R P pl []) (T : TI P rt h L) (hcn : CNx P rt h rt) (hrp : rt ∈ pl) (hrS : S.1 0 4 = nI rt) (hrR : R.1 0 6 = nI rt) (kx : Mem → Option (Int32 × Mem)) :
    ∃ S' R' P' rt' h' L' pl', f_X4_lowerRoot g S = some S' ∧ (gd (ix_in (R.1 0 6) 40) (if (R.1 1 (R.1 0 6).toNatClampNeg) = 2 then (gd (ix_in (R.1 0 6) 40) (if (R.1 2 (R.1 0 6).toNatClampNeg) = 1 then (gd (ix_in (5 * (R.1 0 6)) 200) (bd (f_X5_release g (up R 0 6 (R.1 4 (5 * (R.1 0 6)).toNatClampNeg)) (R.1 0 6)) (fun S34 => kx S34))) else (kx R))) else (kx R))) = kx R' ∧ MD S' R' P' pl' [] ∧ TI P' rt' h' L' ∧ h' ≤ h ∧ CN P' rt' h' ∧ S'.1 0 4 = nI rt' ∧ R'.1 0 6 = nI rt' ∧ smX (0 :: lC) S S' ∧ (∀ j, j ≠ 4 → S'.1 0 j = S.1 0 j) ∧ smX [0, 1, 2, 3, 4, 5, 8, 9, 10, 11] R R' ∧ (∀ j, j ≠ 6 → j ≠ 15 → j ≠ 16 → j ≠ 17 → j ≠ 18 → R'.1 0 j = R.1 0 j) := by
  have hrm : ((-2147483648 : Int), rt) ∈ L 0 := by rw [T.1]; simp
  have r40 : rt < 40 := T.2.2.2.2.2.2.1 0 (Nat.zero_le _) _ hrm
  obtain ⟨hRC, hRM, hF, hM, hN⟩ := id hMD
  have h5 := (hRC rt r40).2.2.2.1
  have hcS : f_X4_lowerRoot g S = if (P rt).1 = 2 then (if (P rt).2.1.length = 1 then (bd (f_X0_secondAt g S (nI rt) 0) (fun r8 => bd (f_X4_releasePage g S (nI rt)) (fun S10 => some (up S10 0 4 r8)))) else some S) else some S := by
    unfold f_X4_lowerRoot
    rw [hrS, c_kind hRC r40, bdS]
    by_cases e : (P rt).1 = 2
    · rw [if_pos e, if_pos e, c_count hRC r40, bdS]
      by_cases e1 : (P rt).2.1.length = 1
      · rw [if_pos e1, if_pos ((eq_l (a := 1) 1 rfl (by decide) (by omega)).mpr e1)]
      · rw [if_neg e1, if_neg (fun z => e1 ((eq_l (a := 1) 1 rfl (by decide) (by omega)).mp z))]
    · rw [if_neg e, if_neg e]
  have hcR : (gd (ix_in (R.1 0 6) 40) (if (R.1 1 (R.1 0 6).toNatClampNeg) = 2 then (gd (ix_in (R.1 0 6) 40) (if (R.1 2 (R.1 0 6).toNatClampNeg) = 1 then (gd (ix_in (5 * (R.1 0 6)) 200) (bd (f_X5_release g (up R 0 6 (R.1 4 (5 * (R.1 0 6)).toNatClampNeg)) (R.1 0 6)) (fun S34 => kx S34))) else (kx R))) else (kx R))) = if (P rt).1 = 2 then (if (P rt).2.1.length = 1 then bd (f_X5_release g (up R 0 6 (R.1 4 (5 * rt))) (nI rt)) (fun S34 => kx S34) else kx R) else kx R := by
    rw [hrR]
    simp only [gdI r40 (show 40 < 2 ^ 31 by decide), nI_clamp (show rt < 2 ^ 31 by omega), (hRM rt r40).1, (hRM rt r40).2.1, nI_m5, gdI (show 5 * rt < 200 by omega) (show 200 < 2 ^ 31 by decide), nI_clamp (show 5 * rt < 2 ^ 31 by omega)]
    by_cases e : (P rt).1 = 2
    · rw [if_pos e, if_pos e]
      by_cases e1 : (P rt).2.1.length = 1
      · rw [if_pos e1, if_pos ((eq_l (a := 1) 1 rfl (by decide) (by omega)).mpr e1)]
      · rw [if_neg e1, if_neg (fun z => e1 ((eq_l (a := 1) 1 rfl (by decide) (by omega)).mp z))]
    · rw [if_neg e, if_neg e]
  rw [hcS, hcR]
  have hkn := T.kn (Nat.zero_le _) hrm
  simp only at hkn
  by_cases hlow : (P rt).1 = 2 ∧ (P rt).2.1.length = 1
  · obtain ⟨e, e1⟩ := hlow
    simp only [if_pos e, if_pos e1]
    have hh : h ≠ 0 := fun z => by
      have := T.2.2.2.1 (-2147483648, rt) (by rw [z]; exact hrm)
      simp only at this
      rw [e] at this; exact absurd this (by decide)
    obtain ⟨h1, rfl⟩ : ∃ h1, h = h1 + 1 := ⟨h - 1, by omega⟩
    obtain ⟨z, hz⟩ : ∃ z, (P rt).2.1 = [z] := List.length_eq_one_iff.mp e1
    have hin := T.2.1 0 (by omega) _ hrm
    unfold inn at hin
    simp only at hin
    obtain ⟨c, c40, hzc⟩ := hin.2.2.2 z (by rw [hz]; simp)
    have hz' : (P rt).2.1 = [(z.1, nI c)] := by rw [hz, ← hzc]
    have hs1 : smX [0] R (up R 0 6 (nI c)) := smX.rf.up _ _ (by decide)
    have hMD2 : MD S (up R 0 6 (nI c)) P pl [] := ⟨hRC, hRM.sm hs1 (by decide), hF, hM.smM hs1 (by decide) (fun j hj => by rw [upA, if_neg (by omega)]), hN⟩
    obtain ⟨S1, R1, a1, a2, a3, a4, a5⟩ := relMD hg hMD2 hrp
    have hs2 : smX [0] S1 (up S1 0 4 (nI c)) := smX.rf.up _ _ (by decide)
    have hsec : f_X0_secondAt g S (nI rt) 0 = some (nI c) := c_sec hRC r40 (i := 0) (e := (z.1, nI c)) (by rw [hz']; rfl)
    have hoth : R.1 4 (5 * rt) = nI c := m_other hRM r40 (i := 0) (e := (z.1, nI c)) (by rw [hz']; rfl)
    obtain ⟨b1, b2, b3, b4, b5⟩ := a3
    refine ⟨up S1 0 4 (nI c), R1, _, c, h1, _, _, ?_, ?_, ⟨b1.sm hs2 (by decide), b2, b3.sm hs2 (by decide), b4.smC hs2 (by decide), b5.sm hs2 (by decide)⟩, T.lower c40 hz', by omega, fun y hy hn => ?_, upS _ _ _ _, ?_, ?_, fun j hj => ?_, ?_, fun j h6 h15 h16 h17 h18 => ?_⟩
    · rw [hsec, bdS, a1, bdS]
    · rw [hoth, a2, bdS]
    · by_cases y1 : y = rt
      · subst y1; rw [sp_s] at hn; exact absurd rfl hn
      · rw [sp_n _ _ y1] at hn ⊢
        obtain ⟨c1, c2⟩ := hcn y hy hn
        refine ⟨c1, Or.inl ?_⟩
        rcases c2 with c2 | ⟨c2, -⟩ | ⟨c2, -⟩
        · exact c2
        · exact absurd c2 y1
        · exact absurd c2 y1
    · rw [a5.2 6 (by decide) (by decide) (by decide) (by decide), upS]
    · exact (a4.wk (fun k hk => List.mem_cons_of_mem _ hk)).up _ _ (by decide)
    · rw [upA, if_neg (by simp [hj]), a4.2 0 (by decide)]
    · exact (hs1.wk (by simp)).tr a5.1
    · rw [a5.2 j h15 h16 h17 h18, upA, if_neg (by simp [h6])]
  · have e1 : (if (P rt).1 = 2 then (if (P rt).2.1.length = 1 then (bd (f_X0_secondAt g S (nI rt) 0) (fun r8 => bd (f_X4_releasePage g S (nI rt)) (fun S10 => some (up S10 0 4 r8)))) else some S) else some S) = some S := by
      by_cases e : (P rt).1 = 2
      · rw [if_pos e, if_neg (fun z => hlow ⟨e, z⟩)]
      · rw [if_neg e]
    have e2 : (if (P rt).1 = 2 then (if (P rt).2.1.length = 1 then bd (f_X5_release g (up R 0 6 (R.1 4 (5 * rt))) (nI rt)) (fun S34 => kx S34) else kx R) else kx R) = kx R := by
      by_cases e : (P rt).1 = 2
      · rw [if_pos e, if_neg (fun z => hlow ⟨e, z⟩)]
      · rw [if_neg e]
    refine ⟨S, R, P, rt, h, L, pl, e1, e2, hMD, T, Nat.le_refl _, fun y hy hn => ?_, hrS, hrR, smX.rf, fun _ _ => rfl, smX.rf, fun _ _ _ _ _ _ => rfl⟩
    obtain ⟨c1, c2⟩ := hcn y hy hn
    refine ⟨c1, ?_⟩
    rcases c2 with c2 | ⟨c2, c3⟩ | c2
    · exact Or.inl c2
    · by_cases hh : h = 0
      · exact Or.inr ⟨c2, hh⟩
      · have hin := T.2.1 0 (by omega) _ hrm
        have hin1 := hin.1
        simp only at hin1
        subst c2
        exact Or.inl (by
          have : ¬ (P y).2.1.length = 1 := fun z => hlow ⟨hin1, z⟩
          omega)
    · exact Or.inr c2
set_option maxHeartbeats 2000000 in
theorem mloop {g : Nat} (hg : 30 < g) {w : Nat → Nat × Nat} {h rt : Nat} (h3 : h ≤ 3) {r8 : Int32} {kx : Mem → Option (Int32 × Mem)} : ∀ (d n1 n2 : Nat) (S R : Mem) (P : Nat → Pg) (L : Nat → Lev) (pl : List Nat), d ≤ h → d < n1 → d < n2 → MD S R P pl [] → TI P rt h L → WC S w h → WM R w h → (w 0) = (rt, 0) → S.1 0 4 = nI rt →
    (∀ k, k ≤ d → ∃ lo, (lo, (w k).1) ∈ L k) → (∀ k, k < d → ∃ X Y m1, (P (w k).1).2.1 = X ++ (m1, nI (w (k + 1)).1) :: Y ∧ X.length = (w (k + 1)).2) → (∀ k, k ≤ d → (w k).1 ∈ pl) → PLI d w h L pl →
    CNx P rt h (w d).1 → pl.length + 2 * d ≤ 10 →
    ∃ S' R' P' L' pl', f_X4_mendUpwards_10 g (fun (S11 : Mem) => bd (f_X4_lowerRoot g S11) (fun S13 => some S13)) n1 S (nI d) = bd (f_X4_lowerRoot g S') (fun S13 => some S13) ∧ f_X5_remove_79 g r8 kx n2 R (nI d) = kx R' ∧ MD S' R' P' pl' [] ∧ TI P' rt h L' ∧ CNx P' rt h rt ∧ rt ∈ pl' ∧ smX lC S S' ∧ smQ R R' := by
  intro d
  induction d with
  | zero =>
    intro n1 n2 S R P L pl hd hn1 hn2 hMD T hC hW hw0 hrS hmem hpar hpl hPLI hcn hlen
    obtain ⟨n1, rfl⟩ : ∃ m, n1 = m + 1 := ⟨n1 - 1, by omega⟩
    obtain ⟨n2, rfl⟩ : ∃ m, n2 = m + 1 := ⟨n2 - 1, by omega⟩
    have hw : (w 0).1 = rt := by rw [hw0]
    refine ⟨S, R, P, L, pl, by rw [f_X4_mendUpwards_10, if_pos (by decide)], by rw [f_X5_remove_79, if_pos (by decide)], hMD, T, by rw [hw] at hcn; exact hcn, by rw [← hw]; exact hpl 0 (Nat.le_refl _), smX.rf, smQ.rf⟩
  | succ e ih =>
    intro n1 n2 S R P L pl hd hn1 hn2 hMD T hC hW hw0 hrS hmem hpar hpl hPLI hcn hlen
    obtain ⟨n1, rfl⟩ : ∃ m, n1 = m + 1 := ⟨n1 - 1, by omega⟩
    obtain ⟨n2, rfl⟩ : ∃ m, n2 = m + 1 := ⟨n2 - 1, by omega⟩
    obtain ⟨lo, hmd⟩ := hmem (e + 1) (Nat.le_refl _)
    obtain ⟨p, hp⟩ : ∃ p, p = (w (e + 1)).1 := ⟨_, rfl⟩
    rw [← hp] at hmd
    have p40 : p < 40 := T.2.2.2.2.2.2.1 (e + 1) (by omega) _ hmd
    have hp0 := T.nf (show e + 1 ≤ h by omega) hmd
    simp only at hp0
    have hp5 := (hMD.1 p p40).2.2.2.1
    have hw : (w 0).1 = rt := by rw [hw0]
    have hrm : ((-2147483648 : Int), rt) ∈ L 0 := by rw [T.1]; simp
    have r40 : rt < 40 := T.2.2.2.2.2.2.1 0 (Nat.zero_le _) _ hrm
    have hrtp : rt ≠ p := fun z => by have := T.2.2.2.2.2.2.2.2.1 0 (e + 1) (by omega) (by omega) _ hrm _ hmd z; omega
    have hcS : f_X4_mendUpwards_10 g (fun (S11 : Mem) => bd (f_X4_lowerRoot g S11) (fun S13 => some S13)) (n1 + 1) S (nI (e + 1)) = if (P p).2.1.length < 2 then bd (f_X4_mend g S (nI (e + 1))) (fun S10 => f_X4_mendUpwards_10 g (fun (S11 : Mem) => bd (f_X4_lowerRoot g S11) (fun S13 => some S13)) n1 S10 (nI e)) else some S := by
      rw [f_X4_mendUpwards_10, if_neg (nI_nle (by omega) (by omega)), c_pageAt hC hd (by omega), bdS, ← hp, c_count hMD.1 p40, bdS, nI_dec]
      by_cases q : (P p).2.1.length < 2
      · rw [if_pos q, if_pos ((lt_r (a := 2) 2 rfl (by decide) (by omega)).mpr q)]
      · rw [if_neg q, if_neg (fun z => q ((lt_r (a := 2) 2 rfl (by decide) (by omega)).mp z))]
    have hcR : f_X5_remove_79 g r8 kx (n2 + 1) R (nI (e + 1)) = if (P p).2.1.length < 2 then bd (f_X5_mend g R (nI (e + 1))) (fun S26 => f_X5_remove_79 g r8 kx n2 S26 (nI e)) else kx R := by
      rw [f_X5_remove_79, if_neg (nI_nle (by omega) (by omega)), gdI (by omega) (by decide)]
      simp only [nI_clamp (show e + 1 < 2 ^ 31 by omega), (hW.2 (e + 1) hd).1, ← hp, gdI p40 (show 40 < 2 ^ 31 by decide), nI_clamp (show p < 2 ^ 31 by omega), (hMD.2.1 p p40).2.1, nI_dec]
      by_cases q : (P p).2.1.length < 2
      · rw [if_pos q, if_neg (fun z => by have := (le_l (a := 2) 2 rfl (by decide) (by omega)).mp z; omega)]
      · rw [if_neg q, if_pos ((le_l (a := 2) 2 rfl (by decide) (by omega)).mpr (by omega))]
    by_cases q : (P p).2.1.length < 2
    · rw [hcS, hcR, if_pos q, if_pos q]
      have hl1 : (P p).2.1.length = 1 := by
        rcases (hcn p p40 hp0).2 with z | ⟨-, z⟩ | ⟨-, z⟩
        · omega
        · omega
        · omega
      obtain ⟨z, hz⟩ := List.length_eq_one_iff.mp hl1
      obtain ⟨X, Y, m1, hX, hXl⟩ := hpar e (by omega)
      have hsh : Shc P rt h L w e (w (e + 1)).1 X Y m1 z.1 z.2 := ⟨T, by omega, fun k hk => hmem k (by omega), by rw [← hp]; exact p40, hX, by rw [← hp]; exact hz, hcn⟩
      obtain ⟨S1, R1, a1, a2, P1, L1, pl1, b1, b2, b3, b4, b5, b6, b7, b8, b9, b10⟩ := mendE hg (by omega) hMD hC hW hsh ⟨lo, by rw [← hp]; exact hmd⟩ hXl hpl hPLI (by omega)
      simp at b8
      obtain ⟨S', R', P', L', pl', c1, c2, c3, c4, c5, c6, c7, c8⟩ := ih n1 n2 S1 R1 P1 L1 pl1 (by omega) (by omega) (by omega) b1 b2 (hC.sm b9 (by decide)) (hW.sm b10.1 (b10.2 8 (by decide) (by decide) (by decide) (by decide)) (by decide)) hw0 (by rw [b9.2 0 (by decide)]; exact hrS) (fun k hk => by rw [b3 k hk]; exact hmem k (by omega)) (fun k hk => by rw [b4 k hk]; exact hpar k (by omega)) b6 b7 b5 (by omega)
      exact ⟨S', R', P', L', pl', by rw [a1, bdS]; exact c1, by rw [a2, bdS]; exact c2, c3, c4, c5, c6, b9.tr c7, b10.tr c8⟩
    · rw [hcS, hcR, if_neg q, if_neg q]
      have hin := T.2.1 0 (by omega) _ hrm
      have hin1 := hin.1
      simp only at hin1
      have hrl : 2 ≤ (P rt).2.1.length := by
        rcases (hcn rt r40 (by rw [hin1]; decide)).2 with z | ⟨z, -⟩ | ⟨-, z⟩
        · exact z
        · rw [← hp] at z; exact absurd z hrtp
        · omega
      have hr5 := (hMD.1 rt r40).2.2.2.1
      refine ⟨S, R, P, L, pl, ?_, rfl, hMD, T, fun y hy hn => ?_, by rw [← hw]; exact hpl 0 (by omega), smX.rf, smQ.rf⟩
      · unfold f_X4_lowerRoot
        rw [hrS, c_kind hMD.1 r40, bdS, hin1, if_pos rfl, c_count hMD.1 r40, bdS, if_neg (fun z => by have := (eq_l (a := 1) 1 rfl (by decide) (by omega)).mp z; omega), bdS]
      · obtain ⟨c1, c2⟩ := hcn y hy hn
        refine ⟨c1, ?_⟩
        rcases c2 with c2 | ⟨c2, -⟩ | c2
        · exact Or.inl c2
        · rw [← hp] at c2; rw [c2]; exact Or.inl (by omega)
        · exact Or.inr (Or.inr c2)
