theorem pw_keys {l : List It} (h : (l.map k2).Pairwise (· < ·)) : (l.map (fun e => e.1.toInt)).Pairwise (· < ·) := by
  rw [List.pairwise_map] at h ⊢
  exact h.imp (fun q => by unfold k2 at q; omega)
theorem TI.keysLeaf {P : Nat → Pg} {rt h : Nat} {L : Nat → Lev} (T : TI P rt h L) {U V : Lev} {lo : Int} {p : Nat} (hL : L h = U ++ (lo, p) :: V) : ((P p).2.1.map (fun e => e.1.toInt)).Pairwise (· < ·) ∧ ∀ e, e ∈ (P p).2.1 → lo ≤ e.1.toInt ∧ e.1.toInt < hdl V 2147483648 := by
  have hpw := T.2.2.2.2.1
  rw [hL, List.flatMap_append, List.flatMap_cons, lk_eq] at hpw
  obtain ⟨-, p2, -⟩ := List.pairwise_append.mp hpw
  obtain ⟨q1, q2, q3⟩ := List.pairwise_append.mp p2
  obtain ⟨r1, r2⟩ := List.pairwise_cons.mp q1
  refine ⟨pw_keys r2, fun e he => ?_⟩
  have hm : k2 e ∈ (P p).2.1.map k2 := List.mem_map.mpr ⟨e, he, rfl⟩
  have h1 := r1 _ hm
  have hlt := Int32.toInt_lt e.1
  unfold k2 at h1
  refine ⟨by omega, ?_⟩
  cases V with
  | nil => show e.1.toInt < 2147483648; omega
  | cons y V =>
    have h2 := q3 (k2 e) (List.mem_cons_of_mem _ hm) (2 * y.1 - 1) (by rw [List.flatMap_cons]; unfold lk; simp)
    unfold k2 at h2
    show e.1.toInt < y.1
    omega
theorem TI.keysInn {P : Nat → Pg} {rt h : Nat} {L : Nat → Lev} (T : TI P rt h L) {d : Nat} (hd : d < h) {U V : Lev} {lo : Int} {p : Nat} (hL : L d = U ++ (lo, p) :: V) {z : It} {Y : List It} (hl : (P p).2.1 = z :: Y) : (Y.map (fun e => e.1.toInt)).Pairwise (· < ·) ∧ ∀ e, e ∈ Y → lo ≤ e.1.toInt ∧ e.1.toInt < hdl V 2147483648 := by
  have hsr := T.srt (h - (d + 1)) (d + 1) (by omega)
  rw [T.2.2.1 d hd, hL, List.flatMap_append, List.flatMap_cons, List.map_append, List.map_append] at hsr
  obtain ⟨-, p2, -⟩ := List.pairwise_append.mp hsr
  obtain ⟨q1, q2, q3⟩ := List.pairwise_append.mp p2
  have hkd : (kd P (lo, p)).map Prod.fst = lo :: Y.map (fun e => e.1.toInt) := by
    unfold kd
    simp only [hl, kl, List.map_cons, List.map_map]
    rfl
  rw [hkd] at q1 q3
  obtain ⟨r1, r2⟩ := List.pairwise_cons.mp q1
  refine ⟨r2, fun e he => ?_⟩
  have hm : e.1.toInt ∈ Y.map (fun e => e.1.toInt) := List.mem_map.mpr ⟨e, he, rfl⟩
  have h1 := r1 _ hm
  have hlt := Int32.toInt_lt e.1
  refine ⟨by omega, ?_⟩
  cases V with
  | nil => show e.1.toInt < 2147483648; omega
  | cons y V =>
    have hy : inn P y.2 := T.2.1 d hd y (by rw [hL]; simp)
    obtain ⟨c, r, hk⟩ := kd_hd hy.2.2.1
    exact q3 _ (List.mem_cons_of_mem _ hm) y.1 (by rw [List.flatMap_cons, hk]; simp)
theorem Ep_sub {L : Nat → Lev} {e : Ent} : ∀ {b a : Nat}, a ≤ b → e ∈ Ep L a → e ∈ Ep L b := by
  intro b
  induction b with
  | zero => intro a h he; rw [show a = 0 by omega] at he; exact he
  | succ b ih =>
    intro a h he
    by_cases q : a = b + 1
    · rw [q] at he; exact he
    · rw [Ep]; exact List.mem_append.mpr (Or.inl (ih (by omega) he))
theorem Ep_in {L : Nat → Lev} {d h : Nat} (hd : d ≤ h) {U V : Lev} {lo : Int} {p : Nat} (hL : L d = U ++ (lo, p) :: V) : (p, d + 1, lo, hdl V 2147483648) ∈ Ep L (h + 1) := by
  refine Ep_sub (show d + 1 ≤ h + 1 by omega) ?_
  rw [Ep, hL, att_app, att]
  simp
set_option maxHeartbeats 1000000 in
theorem astrayP {g : Nat} (hg : 50 < g) {P : Nat → Pg} {rt h : Nat} {L : Nat → Lev} (T : TI P rt h L) (h3 : h ≤ 3) (hcn : CN P rt h) {S : Mem} (hR : RC S P) (hB : BQ S (Ep L (h + 1))) (hF : ∀ i j, i < 12 → j < 12 → S.1 8 i = S.1 8 j → S.1 8 i ≠ -1 → i = j) (hN : HN S P) {p : Nat} (hp : p < 40) : f_X2_isAstray g S (nI rt) (nI p) = some 0 := by
  have hrm : ((-2147483648 : Int), rt) ∈ L 0 := by rw [T.1]; simp
  have r40 : rt < 40 := T.2.2.2.2.2.2.1 0 (Nat.zero_le _) _ hrm
  have hlt : nI p < (40 : Int32) := (lt_r (a := 40) 40 rfl (by decide) (by omega)).mpr hp
  have hho := c_hold (g := g) (S := S) (v := nI p) 12 0 g 0 rfl (by omega)
  rw [Nat.zero_add] at hho
  have hho' : f_X1_countHolding g S (nI p) = some (nI (cn (fun j => decide (S.1 8 j = nI p)) 12 0)) := hho
  unfold f_X2_isAstray
  rw [if_neg (nI_nneg (by omega)), if_pos hlt, c_kind hR hp, bdS]
  simp only [gdI hp (show 40 < 2 ^ 31 by decide), nI_clamp (show p < 2 ^ 31 by omega), hho', bdS]
  by_cases h0 : (P p).1 = 0
  · rw [if_pos h0]
    have h17 : S.1 17 p = 0 := by
      rw [hB.2.2.2.1 p hp, if_neg (fun z => ?_)]
      obtain ⟨e, he, hep⟩ := List.mem_map.mp z
      obtain ⟨k, hk, h1⟩ := Ep_mem he
      obtain ⟨u, hu, u1, -⟩ := att_mem h1
      exact T.nf (show k ≤ h by omega) hu (by rw [← u1, hep]; exact h0)
    have hc0 : cn (fun j => decide (S.1 8 j = nI p)) 12 0 = 0 := cn_z 12 0 (fun j _ hj => by
      simp
      intro z
      exact hN j (by omega) p hp z h0)
    rw [if_pos h17, hc0, if_pos (by decide)]
  · rw [if_neg h0]
    obtain ⟨d, hd, lo, hm⟩ := T.2.2.2.2.2.2.2.2.2.1 p hp h0
    obtain ⟨U, V, hL⟩ := List.append_of_mem hm
    have hent := Ep_in hd hL
    obtain ⟨b18, b19, b20⟩ := hB.2.2.2.2.1 _ hent
    simp only at b18 b19 b20
    have h17 : S.1 17 p = 1 := by
      rw [hB.2.2.2.1 p hp, if_pos (List.mem_map.mpr ⟨_, hent, rfl⟩)]
    have hc1 : cn (fun j => decide (S.1 8 j = nI p)) 12 0 ≤ 1 := cn_le1 12 0 (fun x y _ h2 _ h4 hx hy => by
      simp at hx hy
      exact hF x y (by omega) (by omega) (hx.trans hy.symm) (by rw [hx]; exact nI_m1 (by omega)))
    have hlev : f_X0_countLevels g S (nI rt) = some (nI (h + 1)) := c_lev (g := g) hR T h3 h 0 g rt _ (by omega) (by omega) hrm
    have hdue := dueE hg T hR hB hp h0
    have hkd : (P p).1 = if d = h then 1 else 2 := by
      by_cases e : d = h
      · rw [if_pos e]; subst e; exact T.2.2.2.1 _ hm
      · rw [if_neg e]; exact (T.2.1 d (by omega) _ hm).1
    have h5 := (hR p hp).2.2.2.1
    obtain ⟨c4, c2⟩ := hcn p hp h0
    have hright : ∀ t26 : Int32, (p = rt → t26 = 1) → f_X2_countIsRight g S (nI p) t26 = some 1 := fun t26 ht => by
      unfold f_X2_countIsRight
      rw [c_count hR hp, bdS]
      simp only [jn0, jn1]
      have n4 : ¬ (4 : Int32) < nI (P p).2.1.length := fun z => by have := (lt_l (a := 4) 4 rfl (by decide) (by omega)).mp z; omega
      rw [c_kind hR hp]
      simp only [bdS, if_neg n4]
      rcases c2 with c2 | ⟨c2, hh⟩
      · have g2 : (2 : Int32) ≤ nI (P p).2.1.length := (le_l (a := 2) 2 rfl (by decide) (by omega)).mpr c2
        simp only [if_pos g2]
        by_cases t0 : t26 = 0
        · rw [if_pos t0]
        · rw [if_neg t0]
          by_cases k1 : (P p).1 = 1
          · rw [if_pos k1]
          · rw [if_neg k1]
      · have k1 : (P p).1 = 1 := by rw [hkd, if_pos (by omega)]
        rw [ht c2, if_neg (by decide), if_pos k1]
        by_cases g2 : (2 : Int32) ≤ nI (P p).2.1.length
        · rw [if_pos g2]
        · rw [if_neg g2, if_neg (by decide)]
    have hkids : f_X2_childrenArePages g S (nI p) = some 1 := by
      unfold f_X2_childrenArePages
      rw [c_kind hR hp, bdS]
      by_cases e : (P p).1 = 2
      · rw [if_pos e]
        have hdh : d < h := by
          have : ¬ d = h := fun z => by rw [hkd, if_pos z] at e; exact absurd e (by decide)
          omega
        have hin := T.2.1 d hdh _ hm
        exact kidsL hR hp (fun y hy => by
          obtain ⟨c, hc, hyc⟩ := hin.2.2.2 y hy
          obtain ⟨lo', hlo'⟩ := T.child hdh hm hy
          have hpg : pg y = c := by unfold pg; rw [hyc, nI_clamp (by omega)]
          rw [hpg] at hlo'
          exact ⟨c, hc, hyc, T.nf (show d + 1 ≤ h by omega) hlo'⟩) (P p).2.1 [] g rfl (by omega)
      · rw [if_neg e]
    have hkeys : f_X2_keysAreInPlace g S (nI p) = some 1 := by
      unfold f_X2_keysAreInPlace
      rw [if_neg (nI_nneg (by omega)), if_pos hlt, c_kind hR hp, bdS]
      simp only [jn1, gdI hp (show 40 < 2 ^ 31 by decide), nI_clamp (show p < 2 ^ 31 by omega)]
      by_cases e : d = h
      · have k1 : (P p).1 = 1 := by rw [hkd, if_pos e]
        rw [if_pos k1]
        subst e
        obtain ⟨w1, w2⟩ := T.keysLeaf hL
        exact keysL hR hp b20 (P p).2.1 [] g (S.2 19 p) rfl w1 (fun y hy => by rw [b19]; exact w2 y hy) (by omega)
      · have k2' : ¬ (P p).1 = 1 := by rw [hkd, if_neg e]; decide
        rw [if_neg k2']
        have hin := T.2.1 d (by omega) _ hm
        obtain ⟨z, Y, hl⟩ : ∃ z Y, (P p).2.1 = z :: Y := by
          cases hq : (P p).2.1 with
          | nil => exact absurd hq hin.2.2.1
          | cons a b => exact ⟨a, b, rfl⟩
        obtain ⟨w1, w2⟩ := T.keysInn (show d < h by omega) hL hl
        have hYl : Y.length < g := by rw [hl] at h5; simp at h5; omega
        exact keysL hR hp b20 Y [z] g (S.2 19 p) hl w1 (fun y hy => by rw [b19]; exact w2 y hy) hYl
    rw [hlev, bdS]
    simp only [jn1, h17, if_true]
    rw [b18]
    have h1 : ¬ (1 : Int32) < nI (cn (fun j => decide (S.1 8 j = nI p)) 12 0) := fun z => by
      have := (lt_l (a := 1) 1 rfl (by decide) (by omega)).mp z; omega
    simp only [if_neg h1, c_next hR hp, hdue, bdS, if_true]
    have hfin : ∀ t26 : Int32, (p = rt → t26 = 1) → bd (f_X2_countIsRight g S (nI p) t26) (fun r29 => if r29 = 0 then some (1 : Int32) else bd (f_X2_childrenArePages g S (nI p)) (fun r32 => if r32 = 0 then some 1 else bd (f_X2_keysAreInPlace g S (nI p)) (fun r35 => if r35 = 0 then some 1 else some 0))) = some 0 := fun t26 ht => by
      rw [hright t26 ht, bdS, if_neg (by decide), hkids, bdS, if_neg (by decide), hkeys, bdS, if_neg (by decide)]
    have hlast : (if nI p = nI rt then bd (f_X2_countIsRight g S (nI p) 1) (fun r29 => if r29 = 0 then some (1 : Int32) else bd (f_X2_childrenArePages g S (nI p)) (fun r32 => if r32 = 0 then some 1 else bd (f_X2_keysAreInPlace g S (nI p)) (fun r35 => if r35 = 0 then some 1 else some 0))) else bd (f_X2_countIsRight g S (nI p) 0) (fun r29 => if r29 = 0 then some (1 : Int32) else bd (f_X2_childrenArePages g S (nI p)) (fun r32 => if r32 = 0 then some 1 else bd (f_X2_keysAreInPlace g S (nI p)) (fun r35 => if r35 = 0 then some 1 else some 0)))) = some 0 := by
      by_cases e : nI p = nI rt
      · rw [if_pos e]; exact hfin 1 (fun _ => rfl)
      · rw [if_neg e]; exact hfin 0 (fun z => absurd (by rw [z]) e)
    by_cases e : d = h
    · have k1 : (P p).1 = 1 := by rw [hkd, if_pos e]
      rw [if_pos (by rw [e])]
      simp only [if_pos k1, if_true]
      exact hlast
    · have k2' : ¬ (P p).1 = 1 := by rw [hkd, if_neg e]; decide
      rw [if_neg (fun z => e (by have := nI_inj (by omega) (by omega) z; omega))]
      simp only [if_neg k2', if_true]
      exact hlast
theorem astL {g : Nat} {S : Mem} {w3 : Int32} (h : ∀ p, p < 40 → f_X2_isAstray g S w3 (nI p) = some 0) : ∀ (k i n : Nat), i + k = 40 → k < n → f_X2_countAstray_68 g S w3 n 0 (nI i) = some (0, S) := by
  intro k
  induction k with
  | zero =>
    intro i n hi hn
    obtain ⟨n, rfl⟩ : ∃ m, n = m + 1 := ⟨n - 1, by omega⟩
    rw [f_X2_countAstray_68, if_pos (le40 (by omega) (by omega))]
  | succ k ih =>
    intro i n hi hn
    obtain ⟨n, rfl⟩ : ∃ m, n = m + 1 := ⟨n - 1, by omega⟩
    rw [f_X2_countAstray_68, if_neg (nle40 (by omega)), h i (by omega), bdS, if_pos rfl, nI_1]
    exact ih (i + 1) n (by omega) (by omega)
