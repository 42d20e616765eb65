theorem cn_least {b : Nat → Bool} : ∀ k i, 0 < cn b k i → ∃ q, i ≤ q ∧ q < i + k ∧ b q = true ∧ ∀ j, i ≤ j → j < q → b j = false := by
  intro k
  induction k with
  | zero => intro i h; exact absurd h (by simp [cn])
  | succ k ih =>
    intro i h
    cases hb : b i with
    | true => exact ⟨i, Nat.le_refl _, by omega, hb, fun j h1 h2 => by omega⟩
    | false =>
      rw [cn, hb] at h
      obtain ⟨q, h1, h2, h3, h4⟩ := ih (i + 1) (by simpa using h)
      refine ⟨q, by omega, by omega, h3, fun j h5 h6 => ?_⟩
      by_cases e : j = i
      · subst e; exact hb
      · exact h4 j (by omega) h6
theorem Lf.of {P : Nat → Pg} (h : 0 < fre P 40 0) : ∃ q, Lf P q := by
  obtain ⟨q, h1, h2, h3, h4⟩ := cn_least 40 0 h
  refine ⟨q, by omega, by simpa using h3, fun j hj e => ?_⟩
  have := h4 j (Nat.zero_le _) hj
  simp [e] at this
theorem fre_down {P P' : Nat → Pg} {q : Nat} (hq : q < 40) (h1 : (P q).1 = 0) (h2 : (P' q).1 ≠ 0) (h3 : ∀ y, y ≠ q → ((P' y).1 = 0 ↔ (P y).1 = 0)) : fre P 40 0 = fre P' 40 0 + 1 := by
  unfold fre
  refine cn_up (p := q) (by simp [h1]) (by simp [h2]) (fun j hj => ?_) 40 0 (Nat.zero_le _) (by omega)
  simp [h3 j hj]
theorem len5 {l : List It} (h : l.length = 5) : ∃ A m b B, l = A ++ (m, b) :: B ∧ A.length = 2 ∧ B.length = 2 := by
  match l, h with
  | [a, b, c, d, e], _ => exact ⟨[a, b], c.1, c.2, [d, e], rfl, rfl, rfl⟩
/-- how many items pages have -/
def CN (P : Nat → Pg) (rt h : Nat) : Prop := ∀ p, p < 40 → (P p).1 ≠ 0 → (P p).2.1.length ≤ 4 ∧ (2 ≤ (P p).2.1.length ∨ (p = rt ∧ h = 0))
theorem TI.kn {P : Nat → Pg} {rt h : Nat} {L : Nat → Lev} (T : TI P rt h L) {d : Nat} (hd : d ≤ h) {x : Int × Nat} (hx : x ∈ L d) : (P x.2).1 = 1 ∨ ((P x.2).1 = 2 ∧ (P x.2).2.2 = -1) := by
  by_cases e : d = h
  · subst e; exact Or.inl (T.2.2.2.1 x hx)
  · exact Or.inr ⟨(T.2.1 d (by omega) x hx).1, (T.2.1 d (by omega) x hx).2.1⟩
theorem wq_cg {P P' : Nat → Pg} {w : Nat → Nat × Nat} : ∀ m, (∀ k, k < m → P' (w k).1 = P (w k).1) → wq P' w m = wq P w m := by
  intro m
  induction m with
  | zero => intro _; rfl
  | succ m ih =>
    intro h
    rw [wq, wq, h m (by omega), ih (fun k hk => h k (by omega))]
set_option maxHeartbeats 4000000 in
theorem sloop {g : Nat} (hg : 50 < g) {w : Nat → Nat × Nat} {h : Nat} (h3 : h ≤ 3) {r6 : Int32} {kx : Mem → Option (Int32 × Mem)} : ∀ (m n1 n2 : Nat) (S R : Mem) (P : Nat → Pg) (rt : Nat) (L : Nat → Lev) (pl : List Nat), m ≤ h + 1 → m < n1 → m < n2 → MD S R P pl [] → TI P rt h L → WC S w h → WM R w h → (w 0) = (rt, 0) → S.1 0 4 = nI rt → R.1 0 6 = nI rt →
    (∀ k, k < m → ∃ lo, (lo, (w k).1) ∈ L k) → (∀ k, k + 1 < m → ∃ X Y m1, (P (w k).1).2.1 = X ++ (m1, nI (w (k + 1)).1) :: Y ∧ X.length = (w (k + 1)).2) → (∀ k, k < m → (w k).1 ∈ pl) →
    (∀ p, p < 40 → (P p).1 ≠ 0 → ((P p).2.1.length ≤ 4 ∨ (1 ≤ m ∧ p = (w (m - 1)).1 ∧ (P p).2.1.length ≤ 5)) ∧ (2 ≤ (P p).2.1.length ∨ (p = rt ∧ h = 0))) →
    (∀ d, m = d + 1 → (P (w d).1).2.1.length = 5 → 1 + wq P w d ≤ fre P 40 0) →
    (h ≤ 2 ∨ (∃ k, k + 1 < m ∧ (P (w k).1).2.1.length < 4) ∨ (∀ d, m = d + 1 → (P (w d).1).2.1.length ≤ 4)) → pl.length + m ≤ 8 →
    ∃ S' R' P' rt' h' L' pl', f_X4_splitUpwards_10 g n1 S (nI m + -1) = some S' ∧ f_X5_put_121 g r6 kx n2 R (nI m + -1) = kx R' ∧ MD S' R' P' pl' [] ∧ TI P' rt' h' L' ∧ h' ≤ 3 ∧ CN P' rt' h' ∧ S'.1 0 4 = nI rt' ∧ R'.1 0 6 = nI rt' ∧ smX (0 :: lC) S S' ∧ (∀ j, j ≠ 4 → S'.1 0 j = S.1 0 j) ∧ smX [0, 1, 2, 3, 4, 5, 8, 9, 10, 11] R R' ∧ (∀ j, j ≠ 6 → j ≠ 15 → j ≠ 16 → j ≠ 17 → j ≠ 18 → R'.1 0 j = R.1 0 j) := by
  intro m
  induction m with
  | zero =>
    intro n1 n2 S R P rt L pl hm hn1 hn2 hMD T hC hW hw0 hrS hrR hmem hpar hpl hcn hfr hH hlen
    obtain ⟨n1, rfl⟩ : ∃ m, n1 = m + 1 := ⟨n1 - 1, by omega⟩
    obtain ⟨n2, rfl⟩ : ∃ m, n2 = m + 1 := ⟨n2 - 1, by omega⟩
    refine ⟨S, R, P, rt, h, L, pl, by rw [f_X4_splitUpwards_10, if_pos (by decide)], by rw [f_X5_put_121, if_pos (by decide)], hMD, T, h3, fun p hp hn => ?_, hrS, hrR, smX.rf, fun _ _ => rfl, smX.rf, fun _ _ _ _ _ _ => rfl⟩
    obtain ⟨c1, c2⟩ := hcn p hp hn
    exact ⟨by rcases c1 with c1 | ⟨c1, -⟩ <;> omega, c2⟩
  | succ d ih =>
    intro n1 n2 S R P rt L pl hm hn1 hn2 hMD T hC hW hw0 hrS hrR hmem hpar hpl hcn hfr hH hlen
    obtain ⟨n1, rfl⟩ : ∃ m, n1 = m + 1 := ⟨n1 - 1, by omega⟩
    obtain ⟨n2, rfl⟩ : ∃ m, n2 = m + 1 := ⟨n2 - 1, by omega⟩
    obtain ⟨lo, hmd⟩ := hmem d (by omega)
    obtain ⟨p, hp⟩ : ∃ p, p = (w d).1 := ⟨_, rfl⟩
    rw [← hp] at hmd
    have p40 : p < 40 := T.2.2.2.2.2.2.1 d (by omega) _ hmd
    have hMD0 := hMD
    obtain ⟨hRC, hRM, hF, hM, hN⟩ := hMD
    have hp0 := T.nf (show d ≤ h by omega) hmd
    simp only at hp0
    have hp5 := (hRC p p40).2.2.2.1
    have hcS : f_X4_splitUpwards_10 g (n1 + 1) S (nI (d + 1) + -1) = if 4 < (P p).2.1.length then bd (f_X4_split g S (nI d)) (fun S10 => f_X4_splitUpwards_10 g n1 S10 (nI d + -1)) else some S := by
      rw [f_X4_splitUpwards_10, nI_dec, if_neg (nI_nneg (by omega)), c_pageAt hC (show d ≤ h by omega) (by omega), bdS, ← hp, c_count hRC p40, bdS]
      by_cases e : 4 < (P p).2.1.length
      · rw [if_pos e, if_pos ((lt_l (a := 4) 4 rfl (by decide) (by omega)).mpr e)]
      · rw [if_neg e, if_neg (fun q => e ((lt_l (a := 4) 4 rfl (by decide) (by omega)).mp q))]
    have hcR : f_X5_put_121 g r6 kx (n2 + 1) R (nI (d + 1) + -1) = if 4 < (P p).2.1.length then bd (f_X5_split g R (nI d)) (fun S26 => f_X5_put_121 g r6 kx n2 S26 (nI d + -1)) else kx R := by
      rw [f_X5_put_121, nI_dec, if_neg (nI_nneg (by omega)), gdI (by omega) (by decide)]
      simp only [nI_clamp (show d < 2 ^ 31 by omega), (hW.2 d (by omega)).1, ← hp, gdI p40 (show 40 < 2 ^ 31 by decide), nI_clamp (show p < 2 ^ 31 by omega), (hRM p p40).2.1]
      by_cases e : 4 < (P p).2.1.length
      · rw [if_pos e, if_neg (fun q => by have := (le_r (a := 4) 4 rfl (by decide) (by omega)).mp q; omega)]
      · rw [if_neg e, if_pos ((le_r (a := 4) 4 rfl (by decide) (by omega)).mpr (by omega))]
    by_cases e4 : 4 < (P p).2.1.length
    · rw [hcS, hcR, if_pos e4, if_pos e4]
      have e5 : (P p).2.1.length = 5 := by omega
      obtain ⟨A, mm, b, B, hA, hA2, hB2⟩ := len5 e5
      have hA0 : A ≠ [] := fun z => by rw [z] at hA2; simp at hA2
      have hfr' := hfr d rfl (by rw [← hp]; exact e5)
      obtain ⟨q, hq⟩ := Lf.of (P := P) (by omega)
      have hk := T.kn (show d ≤ h by omega) hmd
      simp only at hk
      have hpq : p ≠ q := fun z => hp0 (by rw [z]; exact hq.2.1)
      by_cases hd0 : d = 0
      · -- the root splits
        subst hd0
        have hprt : p = rt := by rw [hp, hw0]
        have hfm : fre P 40 0 = fre (spm P p q A B mm b) 40 0 + 1 := by
          refine fre_down hq.1 hq.2.1 ?_ (fun y hy => ?_)
          · unfold spm; rw [sp_s]; exact hp0
          · unfold spm
            rw [sp_n _ _ hy]
            by_cases e : y = p
            · subst e; rw [sp_s]
            · rw [sp_n _ _ e]
        have hw1 : wq P w 0 = 1 := rfl
        obtain ⟨r, hr⟩ := Lf.of (P := spm P p q A B mm b) (by omega)
        have hrq : r ≠ q := fun z => by
          have := hr.2.1
          rw [z] at this
          unfold spm at this
          rw [sp_s] at this
          exact hp0 this
        have hrp : r ≠ p := fun z => by
          have := hr.2.1
          rw [z] at this
          unfold spm at this
          rw [sp_n _ _ hpq, sp_s] at this
          exact hp0 this
        have hr00 : (P r).1 = 0 := by
          have := hr.2.1
          unfold spm at this
          rw [sp_n _ _ hrq, sp_n _ _ hrp] at this
          exact this
        have hr0 : P r = (0, [], -1) := T.2.2.2.2.2.2.2.2.2.2 r hr.1 hr00
        have h2 : h ≤ 2 := by
          rcases hH with z | ⟨k, k1, -⟩ | z
          · exact z
          · omega
          · have := z 0 rfl; rw [← hp] at this; omega
        obtain ⟨S', R', s1, s2, s3, s4, s5, s6, s7, s8, s9⟩ := splitR hg hMD0 hC hW (by omega) hp.symm (by rw [hw0]) p40 hA hA2 hB2 hk hq hr hr0 (by rw [hp]; exact hpl 0 (by omega)) (by omega) (by rw [hprt]; exact hrS)
        have T1 := T.raise hr.1 hr00
        rw [← hprt] at T1
        obtain ⟨L', T2, -⟩ := T1.split (e := 0) (by omega) (lo := -2147483648) (par := r) (p := p) (q := q) (X := []) (Y := []) (A := A) (B := B) (m1 := 0) (m := mm) (b := b) (by simp) (by rw [sp_s]; rfl) p40 (by rw [sp_n _ _ (Ne.symm hrp)]; exact hA) hA0 hq.1 (by rw [sp_n _ _ (Ne.symm hrq)]; exact hq.2.1)
        obtain ⟨n1, rfl⟩ : ∃ m, n1 = m + 1 := ⟨n1 - 1, by omega⟩
        obtain ⟨n2, rfl⟩ : ∃ m, n2 = m + 1 := ⟨n2 - 1, by omega⟩
        refine ⟨S', R', _, r, h + 1, L', _, ?_, ?_, s3, T2, by omega, fun y hy hn => ?_, s5, s8, s4, s6, s7, s9⟩
        · rw [s1, bdS, f_X4_splitUpwards_10, if_pos (by decide)]
        · rw [s2, bdS, f_X5_put_121, if_pos (by decide)]
        · unfold spl at hn ⊢
          by_cases y1 : y = r
          · subst y1; rw [sp_s]; simp
          · rw [sp_n _ _ y1] at hn ⊢
            by_cases y2 : y = q
            · subst y2; rw [sp_s]; simp [hB2]
            · rw [sp_n _ _ y2] at hn ⊢
              by_cases y3 : y = p
              · subst y3; rw [sp_s]; simp [hA2]
              · rw [sp_n _ _ y3, sp_n _ _ y1] at hn ⊢
                obtain ⟨c1, c2⟩ := hcn y hy hn
                refine ⟨?_, Or.inl ?_⟩
                · rcases c1 with c1 | ⟨-, c1, -⟩
                  · exact c1
                  · exact absurd (c1.trans hp.symm) y3
                · rcases c2 with c2 | ⟨c2, -⟩
                  · exact c2
                  · exact absurd (c2.trans hprt.symm) y3
      · -- a page below the root
        obtain ⟨e, rfl⟩ : ∃ e, d = e + 1 := ⟨d - 1, by omega⟩
        obtain ⟨lo2, hme⟩ := hmem e (by omega)
        obtain ⟨par, hpa⟩ : ∃ par, par = (w e).1 := ⟨_, rfl⟩
        rw [← hpa] at hme
        have par40 : par < 40 := T.2.2.2.2.2.2.1 e (by omega) _ hme
        have hin := T.2.1 e (by omega) _ hme
        unfold inn at hin
        simp only at hin
        obtain ⟨X, Y, m1, hX, hXl⟩ := hpar e (by omega)
        rw [← hpa, ← hp] at hX
        have hpp : p ≠ par := fun z => by
          have := T.2.2.2.2.2.2.2.2.1 (e + 1) e (by omega) (by omega) _ hmd _ hme z
          omega
        have hl4 : (P par).2.1.length ≤ 4 := by
          rcases (hcn par par40 (by rw [hin.1]; decide)).1 with z | ⟨-, z, -⟩
          · exact z
          · rw [Nat.add_sub_cancel, ← hp] at z; exact absurd z.symm hpp
        have hparq : par ≠ q := fun z => by have := hq.2.1; rw [← z, hin.1] at this; exact absurd this (by decide)
        obtain ⟨S1, R1, s1, s2, s3, s4, s5⟩ := splitE hg hMD0 hC hW (by omega) (show e + 1 ≤ h by omega) hp.symm hpa.symm p40 par40 hpp hA hA2 hB2 hk hin.1 hin.2.1 hX hXl hl4 hq (by rw [hp]; exact hpl (e + 1) (by omega)) (by rw [hpa]; exact hpl e (by omega)) (by omega)
        obtain ⟨L', T2, hL'⟩ := T.split (e := e) (by omega) hme hX p40 hA hA0 hq.1 hq.2.1
        have hag : ∀ y, y ≠ par → y ≠ p → y ≠ q → spl P p q par X Y A B m1 mm b y = P y := fun y h1 h2 h3 => by unfold spl; rw [sp_n _ _ h1, sp_n _ _ h3, sp_n _ _ h2]
        have hwk : ∀ k, k < e → (w k).1 ≠ par ∧ (w k).1 ≠ p ∧ (w k).1 ≠ q := fun k hk2 => by
          obtain ⟨lk, hmk⟩ := hmem k (by omega)
          refine ⟨fun z => ?_, fun z => ?_, fun z => ?_⟩
          · have := T.2.2.2.2.2.2.2.2.1 k e (by omega) (by omega) _ hmk _ hme z; omega
          · have := T.2.2.2.2.2.2.2.2.1 k (e + 1) (by omega) (by omega) _ hmk _ hmd z; omega
          · exact T.nf (show k ≤ h by omega) hmk (by simp only; rw [z]; exact hq.2.1)
        have hparX : (spl P p q par X Y A B m1 mm b par).2.1 = X ++ (m1, nI p) :: (mm, nI q) :: Y := by unfold spl; rw [sp_s]
        have hparL : (spl P p q par X Y A B m1 mm b par).2.1.length = (P par).2.1.length + 1 := by rw [hparX, hX]; simp; omega
        have hfm : fre P 40 0 = fre (spl P p q par X Y A B m1 mm b) 40 0 + 1 := by
          refine fre_down hq.1 hq.2.1 ?_ (fun y hy => ?_)
          · unfold spl; rw [sp_n _ _ (Ne.symm hparq), sp_s]; exact hp0
          · by_cases y1 : y = par
            · subst y1
              have : (spl P p q y X Y A B m1 mm b y).1 = 2 := by unfold spl; rw [sp_s]
              rw [this, hin.1]
            · by_cases y2 : y = p
              · subst y2
                have : (spl P y q par X Y A B m1 mm b y).1 = (P y).1 := by unfold spl; rw [sp_n _ _ y1, sp_n _ _ hpq, sp_s]
                rw [this]
              · rw [hag y y1 y2 hy]
        obtain ⟨S', R', P', rt', h', L2, pl', u1, u2, u3, u4, u5, u6, u7, u8, u9, u10, u11, u12⟩ := ih n1 n2 S1 R1 (spl P p q par X Y A B m1 mm b) rt L' (q :: pl) (by omega) (by omega) (by omega) s3 T2 (hC.sm s4 (by decide)) (hW.sm s5.1 (s5.2 8 (by decide) (by decide) (by decide) (by decide)) (by decide)) hw0 (by rw [s4.2 0 (by decide)]; exact hrS) (by rw [s5.2 6 (by decide) (by decide) (by decide) (by decide)]; exact hrR) (fun k hk2 => by
            rw [hL' k (by omega)]; exact hmem k (by omega)) (fun k hk2 => by
            obtain ⟨a1, a2, a3⟩ := hwk k (by omega)
            rw [hag _ a1 a2 a3]; exact hpar k (by omega)) (fun k hk2 => List.mem_cons_of_mem _ (hpl k (by omega))) (fun y hy hn => by
            by_cases y1 : y = par
            · subst y1
              refine ⟨Or.inr ⟨by omega, by rw [Nat.add_sub_cancel]; exact hpa, by omega⟩, Or.inl ?_⟩
              have : 1 ≤ (P y).2.1.length := by rw [hX]; simp; omega
              omega
            · by_cases y2 : y = q
              · subst y2
                have : (spl P p y par X Y A B m1 mm b y).2.1.length = 3 := by unfold spl; rw [sp_n _ _ y1, sp_s]; simp [hB2]
                exact ⟨Or.inl (by omega), Or.inl (by omega)⟩
              · by_cases y3 : y = p
                · subst y3
                  have : (spl P y q par X Y A B m1 mm b y).2.1.length = 2 := by unfold spl; rw [sp_n _ _ y1, sp_n _ _ y2, sp_s]; exact hA2
                  exact ⟨Or.inl (by omega), Or.inl (by omega)⟩
                · rw [hag y y1 y3 y2] at hn ⊢
                  obtain ⟨c1, c2⟩ := hcn y hy hn
                  refine ⟨Or.inl ?_, c2⟩
                  rcases c1 with c1 | ⟨-, c1, -⟩
                  · exact c1
                  · exact absurd (c1.trans hp.symm) y3) (fun d' hd' h5' => by
            have hde : d' = e := by omega
            subst hde
            rw [← hpa, hparL] at h5'
            have hwe : wq P w (d' + 1) = wq P w d' + 1 := by
              rw [wq, ← hpa, if_pos (by omega)]
            have : wq (spl P p q par X Y A B m1 mm b) w d' = wq P w d' := wq_cg d' (fun k hk2 => by
              obtain ⟨a1, a2, a3⟩ := hwk k hk2
              exact hag _ a1 a2 a3)
            rw [this]; omega) (by
            rcases hH with z | ⟨k, k1, k2⟩ | z
            · exact Or.inl z
            · by_cases ke : k = e
              · subst ke
                refine Or.inr (Or.inr (fun d' hd' => ?_))
                have hde : d' = k := by omega
                subst hde
                rw [← hpa, hparL]
                rw [← hpa] at k2
                omega
              · refine Or.inr (Or.inl ⟨k, by omega, ?_⟩)
                obtain ⟨a1, a2, a3⟩ := hwk k (by omega)
                rw [hag _ a1 a2 a3]; exact k2
            · have := z (e + 1) rfl; rw [← hp] at this; omega) (by simp; omega)
        refine ⟨S', R', P', rt', h', L2, pl', ?_, ?_, u3, u4, u5, u6, u7, u8, (s4.wk (fun k hk2 => List.mem_cons_of_mem _ hk2)).tr u9, fun j hj => ?_, s5.1.tr u11, fun j h6 h15 h16 h17 h18 => ?_⟩
        · rw [s1, bdS]; exact u1
        · rw [s2, bdS]; exact u2
        · rw [u10 j hj, s4.2 0 (by decide)]
        · rw [u12 j h6 h15 h16 h17 h18, s5.2 j h15 h16 h17 h18]
    · rw [hcS, hcR, if_neg e4, if_neg e4]
      refine ⟨S, R, P, rt, h, L, pl, rfl, rfl, hMD0, T, h3, fun y hy hn => ?_, hrS, hrR, smX.rf, fun _ _ => rfl, smX.rf, fun _ _ _ _ _ _ => rfl⟩
      obtain ⟨c1, c2⟩ := hcn y hy hn
      refine ⟨?_, c2⟩
      rcases c1 with c1 | ⟨-, c1, -⟩
      · exact c1
      · rw [Nat.add_sub_cancel, ← hp] at c1; rw [c1]; omega
