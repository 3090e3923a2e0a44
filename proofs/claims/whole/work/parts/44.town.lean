/-! the town that is told -/
def rn (c : Nat → Nat) (n : Nat) : Nat → Nat → Nat → Tw → Int32 × Option Tw
  | 0, _, k, T => (nI k, some T)
  | m + 1, a, k, T => if a < n then (match semA c a T with
      | none => ((-2000 : Int32) - nI a, none)
      | some T' => rn c n m (nx c a) (k + 1) T') else (nI k, some T)
theorem nI_m9 {x : Nat} (h : x < 1000) : ¬ nI x = -9 := by
  intro z
  have := nI_pos (n := x) (by omega)
  rw [z] at this
  exact this (by decide)
theorem bp_le {c : Nat → Nat} {n a : Nat} : bp c n a ≤ a + 6 := by
  have h1 : ff c n a ≤ ln (c a) + 1 := fi_le _ _
  have h2 := ln_le (c a)
  unfold bp
  split <;> omega
theorem rs_gd {c : Nat → Nat} {n m a : Nat} (h96 : n ≤ 96) (h : rs c n (m + 1) a = -9) (ha : a < n) : gd c n a = true ∧ rs c n m (nx c a) = -9 := by
  simp only [rs, if_pos ha] at h
  by_cases q : gd c n a = true
  · rw [if_pos q] at h; exact ⟨q, h⟩
  · rw [if_neg q] at h
    have := bp_le (c := c) (n := n) (a := a)
    exact absurd h (nI_m9 (by omega))
theorem ne59 {c : Nat → Nat} {n a j : Nat} (hg : gd c n a = true) (h1 : a ≤ j) (h2 : j ≤ a + ln (c a)) : c j ≠ 59 := by
  rcases Nat.eq_or_lt_of_le h1 with z | z
  · subst z
    rcases gd_let hg with e | e | e | e | e | e <;> rw [e] <;> decide
  · have ej : j = a + 1 + (j - a - 1) := by omega
    by_cases hk : c a = 112 ∧ j - a - 1 = 0
    · have := (isK_of (gdK hg hk.1).2).2
      rw [show j = a + 1 by omega]
      exact this
    · have := isD_of (gdD hg (j := j - a - 1) (by omega) hk).2
      rw [ej]
      omega
theorem t_skip {L D U : G} {c : Nat → Nat} {n a : Nat} {K : Int32} (hL : rL L c n) (hg : gd c n a = true) : ∀ (t q fuel : Nat), q + t = nx c a → a < q → t < fuel → f_X0_tell_28 fuel L D U K (nI q) = f_X0_tell_28 (fuel - t) L D U K (nI (nx c a)) := by
  have h96 := hL.2.1
  have hn := (gd_nx hg).1
  intro t
  induction t with
  | zero =>
    intro q fuel hq _ _
    rw [show q = nx c a by omega]; rfl
  | succ t ih =>
    intro q fuel hq haq hf
    obtain ⟨f, rfl⟩ : ∃ f, fuel = f + 1 := ⟨fuel - 1, by omega⟩
    have hqn : q < n := by omega
    have hne := ne59 hg (j := q - 1) (by omega) (by unfold nx at hq; omega)
    obtain ⟨e1, e2⟩ := hL.2.2 (q - 1) (by omega)
    have e59 : ¬ nI (c (q - 1)) = (59 : Int32) := fun z => hne ((nI_eq (b := 59) (by omega) (by decide)).mp z)
    show b_X0_tell_28 _ L D U K (nI q) = _
    unfold b_X0_tell_28
    rw [hL.1, if_neg (nI_ge hqn (by omega)), if_neg (nI_ne0 (by omega) (by omega)), show nI q - (1 : Int32) = nI (q - 1) from pk_sub (b := 1) (by omega), ckn (show q - 1 < 96 by omega) (by decide), if_pos rfl, cln (by omega), e1, if_neg e59, show nI q + (1 : Int32) = nI (q + 1) from nI_add q 1, ih (q + 1) f (by omega) (by omega) (by omega), show f + 1 - (t + 1) = f - t by omega]
theorem t_tell2 {L U : G} {c : Nat → Nat} {n : Nat} (hL : rL L c n) (h0 : 0 < n) : ∀ (m a k fuel : Nat) (T : Tw) (D : G), a ≤ n → n - a ≤ m → n - a < fuel → rs c n m a = -9 → (a = 0 ∨ (0 < a ∧ c (a - 1) = 59)) → rT D T → T 8 0 ≤ 999 → ∃ D' U', f_X0_tell_28 fuel L D U (nI k) (nI a) = some ((rn c n m a k T).1, (L, D', U')) ∧ (∀ T', (rn c n m a k T).2 = some T' → rT U' T' ∧ T' 8 0 ≤ 999) ∧ ((rn c n m a k T).2 = none → U' = U) := by
  have h96 := hL.2.1
  have stopN : ∀ (k fuel : Nat) (T : Tw) (D : G), 0 < fuel → rT D T → T 8 0 ≤ 999 → ∃ D' U', f_X0_tell_28 fuel L D U (nI k) (nI n) = some (nI k, (L, D', U')) ∧ rT U' T := by
    intro k fuel T D hf hD hd
    obtain ⟨f, rfl⟩ : ∃ f, fuel = f + 1 := ⟨fuel - 1, by omega⟩
    obtain ⟨u, e, hu⟩ := t_become (S := U) hD
    refine ⟨D, u, ?_, hu⟩
    show b_X0_tell_28 _ L D U _ _ = _
    unfold b_X0_tell_28
    rw [hL.1, if_pos (nI_le (Nat.le_refl _) (by omega)), e, bd_s]
  intro m
  induction m with
  | zero =>
    intro a k fuel T D ha hm hf _ _ hD hd
    have : a = n := by omega
    subst this
    obtain ⟨D', U', e, hU⟩ := stopN k fuel T D (by omega) hD hd
    exact ⟨D', U', e, fun T' hT => by cases hT; exact ⟨hU, hd⟩, fun z => by cases z⟩
  | succ m ih =>
    intro a k fuel T D ha hm hf hrs h59 hD hd
    by_cases han : a < n
    · obtain ⟨hg, hrs2⟩ := rs_gd h96 hrs han
      obtain ⟨n1, n2⟩ := gd_nx hg
      obtain ⟨f, rfl⟩ : ∃ f, fuel = f + 1 := ⟨fuel - 1, by omega⟩
      obtain ⟨D1, e1, r1⟩ := t_state hL hD hd hg
      have go : f_X0_tell_28 (f + 1) L D U (nI k) (nI a) = f_X0_tell_56 (f_X0_tell_28 f) L D U (nI k) (nI a) := by
        show b_X0_tell_28 _ L D U _ _ = _
        unfold b_X0_tell_28
        rw [hL.1, if_neg (nI_ge han (by omega))]
        rcases h59 with z | ⟨z1, z2⟩
        · subst z; rw [if_pos (show nI 0 = 0 from rfl)]
        · rw [if_neg (nI_ne0 (by omega) (by omega)), show nI a - (1 : Int32) = nI (a - 1) from pk_sub (b := 1) (by omega), ckn (show a - 1 < 96 by omega) (by decide), if_pos rfl, cln (by omega), (hL.2.2 (a - 1) (by omega)).1, z2, if_pos (show nI 59 = (59 : Int32) from rfl)]
      rw [go]
      unfold f_X0_tell_56
      rw [e1, bd_s]
      simp only [rn, if_pos han]
      cases q : semA c a T with
      | none =>
        rw [if_pos (show bI (none : Option Tw).isSome = 0 from rfl)]
        exact ⟨D1, U, rfl, (fun T' hT => by cases hT), fun _ => rfl⟩
      | some T1 =>
        have hT1 := r1 T1 q
        have hd1 := semA_8 hg q hd
        rw [if_neg (show ¬ bI (some T1 : Option Tw).isSome = 0 from (show ¬ bI true = 0 by decide)), show nI k + (1 : Int32) = nI (k + 1) from nI_add k 1, show nI a + (1 : Int32) = nI (a + 1) from nI_add a 1, t_skip hL hg (nx c a - (a + 1)) (a + 1) f (by unfold nx; omega) (by omega) (by unfold nx at *; omega)]
        exact ih (nx c a) (k + 1) _ T1 D1 n1 (by unfold nx; omega) (by unfold nx at *; omega) hrs2 (Or.inr ⟨by unfold nx; omega, by rw [show nx c a - 1 = a + 1 + ln (c a) by unfold nx; omega]; exact n2⟩) hT1 hd1
    · have : a = n := by omega
      subst this
      simp only [rn, if_neg han]
      obtain ⟨D', U', e, hU⟩ := stopN k fuel T D (by omega) hD hd
      exact ⟨D', U', e, fun T' hT => by cases hT; exact ⟨hU, hd⟩, fun z => by cases z⟩
/-- what the telling answers -/
def spTown (c : Nat → Nat) (n : Nat) (T : Tw) : Int32 := if rs c n n 0 = -9 then (rn c n n 0 0 T).1 else (-1000 : Int32) - rs c n n 0
def spTownT (c : Nat → Nat) (n : Nat) (T : Tw) : Tw := if rs c n n 0 = -9 then ((rn c n n 0 0 T).2).getD T else T
theorem rs_val {c : Nat → Nat} {n : Nat} (h96 : n ≤ 96) : ∀ (m a : Nat), a ≤ n → rs c n m a = -9 ∨ ∃ f, f < 200 ∧ rs c n m a = nI f
  | 0, a, _ => by
    simp only [rs]
    by_cases q : n = 0
    · rw [if_pos q]; exact Or.inr ⟨0, by decide, rfl⟩
    · rw [if_neg q]; exact Or.inl rfl
  | m + 1, a, ha => by
    simp only [rs]
    by_cases h : a < n
    · rw [if_pos h]
      by_cases g : gd c n a = true
      · rw [if_pos g]; exact rs_val h96 m (nx c a) (gd_nx g).1
      · rw [if_neg g]
        have := bp_le (c := c) (n := n) (a := a)
        exact Or.inr ⟨bp c n a, by omega, rfl⟩
    · rw [if_neg h]
      by_cases q : n = 0
      · rw [if_pos q]; exact Or.inr ⟨0, by decide, rfl⟩
      · rw [if_neg q]; exact Or.inl rfl
theorem rs_n0 {c : Nat → Nat} : rs c 0 0 0 = nI 0 := rfl
theorem t_town {S U L D : G} {c : Nat → Nat} {n : Nat} {T : Tw} (hL : rL L c n) (hU : rT U T) (hd : T 8 0 ≤ 999) : ∃ U' D', f_X6_town S U L D = some (spTown c n T, (S, U', pF L 2 0, D')) ∧ rT U' (spTownT c n T) ∧ spTownT c n T 8 0 ≤ 999 := by
  have h96 := hL.2.1
  unfold f_X6_town f_X0_tell f_X0_forget spTown spTownT
  rw [t_faultOfForm hL, bd_s]
  by_cases q : rs c n n 0 = -9
  · have h0 : 0 < n := by
      rcases Nat.eq_zero_or_pos n with z | z
      · subst z; rw [rs_n0] at q; exact absurd q (by decide)
      · exact z
    obtain ⟨u, e, hu⟩ := t_become (S := D) hU
    obtain ⟨D', U', e2, z1, z2⟩ := t_tell2 (U := U) hL h0 n 0 0 1000 T u (by omega) (by omega) (by omega) q (Or.inl rfl) hu hd
    replace e2 : f_X0_tell_28 1000 L u U 0 0 = _ := e2
    rw [if_pos q, if_pos q, q, if_pos (by decide), e, bd_s, e2, bd_s, lt_s', bd_s]
    refine ⟨U', D', rfl, ?_⟩
    cases w : (rn c n n 0 0 T).2 with
    | none => rw [z2 w]; exact ⟨hU, hd⟩
    | some T' => exact z1 T' w
  · obtain ⟨f, hf, ef⟩ := (rs_val h96 n 0 (by omega)).resolve_left q
    rw [if_neg q, if_neg q, if_neg (by rw [ef]; exact nI_pos (by omega)), bd_s, lt_s', bd_s]
    exact ⟨U, D, rfl, hU, hd⟩
/-! the reference's way -/
def aK (c : Nat → Nat) : Nat → Nat
  | 0 => 0
  | k + 1 => nx c (aK c k)
theorem aK_lt (c : Nat → Nat) (k : Nat) : aK c k < aK c (k + 1) := by
  show aK c k < nx c (aK c k)
  unfold nx
  omega
theorem aK_mono (c : Nat → Nat) : ∀ {j k : Nat}, j < k → aK c j < aK c k
  | j, 0, h => absurd h (Nat.not_lt_zero j)
  | j, k + 1, h => by
    have h1 := aK_lt c k
    rcases Nat.lt_or_ge j k with z | z
    · have := aK_mono c z; omega
    · rw [show j = k by omega]; exact h1
def frT (M N : G) : Prop := (∀ q, q ≠ 13 → q ≠ 14 → q ≠ 15 → N.2 q = M.2 q) ∧ (∀ q, q ≠ 17 → q ≠ 18 → N.1 q = M.1 q)
theorem m_town1 {M : G} {c : Nat → Nat} {n : Nat} : ∀ (m k fuel : Nat) (s : G), aK c k ≤ n → n - aK c k ≤ m → n - aK c k + 3 < fuel → 3 * k ≤ aK c k → s.1 17 = nI (aK c k) → s.1 18 = nI k → rLM s c n → (∀ j, j < k → stored c s j (aK c j)) → frT M s →
    ∃ s', frT M s' ∧ ((rs c n m (aK c k) = -9 ∧ ∃ K, aK c K = n ∧ K ≤ 32 ∧ s'.1 18 = nI K ∧ (∀ j, j < K → stored c s' j (aK c j)) ∧ f_X7_town_12 fuel s 1 = f_X7_town_60 s' 1) ∨ (∃ f, f < 200 ∧ rs c n m (aK c k) = nI f ∧ s'.1 17 = nI f ∧ f_X7_town_12 fuel s 1 = f_X7_town_60 s' 0)) := by
  intro m
  induction m with
  | zero =>
    intro k fuel s ha hm hf h3 h17 h18 hL hst hfr
    have han : aK c k = n := by omega
    have h96 := hL.2.1
    obtain ⟨f, rfl⟩ : ∃ f, fuel = f + 1 := ⟨fuel - 1, by omega⟩
    by_cases hk0 : k = 0
    · subst hk0
      have hn0 : n = 0 := by
        have : aK c 0 = 0 := rfl
        omega
      subst hn0
      obtain ⟨N, e, z1, z2, -, -, -⟩ := m_statement (k := 0) hL (Nat.le_refl _) h17 h18 (by decide)
      have hg : gd c 0 0 = false := by
        cases y : gd c 0 0 with
        | false => rfl
        | true => have := (gd_iff.mp y).1; omega
      have hbp : bp c 0 0 = 0 := rfl
      have e' : f_X7_statement s = some (bI (gd c 0 0), N) := e
      rw [hg] at e'
      have z1' : N.1 17 = nI (if gd c 0 0 = true then nx c 0 else bp c 0 0) := z1
      rw [hg, if_neg (by decide), hbp] at z1'
      refine ⟨pF N 18 (N.1 18 + 0), ⟨fun q h1 h2 h3 => by rw [pF_2, z2.1 q h1 h2 h3]; exact hfr.1 q h1 h2 h3, fun q h1 h2 => by rw [pF_1, if_neg h2, z2.2 q h1]; exact hfr.2 q h1 h2⟩, Or.inr ⟨0, by decide, rfl, z1', ?_⟩⟩
      obtain ⟨f, rfl⟩ : ∃ g, f = g + 1 := ⟨f - 1, by omega⟩
      show b_X7_town_12 _ s 1 = _
      unfold b_X7_town_12
      rw [if_neg (by decide), h17, hL.1, show aK c 0 = 0 from rfl, if_neg (by decide), h18, if_pos (show nI 0 = 0 from rfl)]
      unfold f_X7_town_34
      rw [e', bd_s, if_pos (show bI false = 0 from rfl), lt_s']
      show b_X7_town_12 _ _ _ = _
      unfold b_X7_town_12
      rw [if_pos (show bI false = 0 from rfl)]
      rfl
    · have hn : ¬ n = 0 := by omega
      refine ⟨s, hfr, Or.inl ⟨by simp only [rs, if_neg hn], k, han, by omega, h18, hst, ?_⟩⟩
      show b_X7_town_12 _ s 1 = _
      unfold b_X7_town_12
      rw [if_neg (by decide), h17, hL.1, han, if_neg (nI_nlt (Nat.le_refl _) (by omega)), h18, if_neg (nI_ne0 (by omega) (by omega))]
  | succ m ih =>
    intro k fuel s ha hm hf h3 h17 h18 hL hst hfr
    have h96 := hL.2.1
    by_cases han : aK c k < n
    · obtain ⟨f, rfl⟩ : ∃ f, fuel = f + 1 := ⟨fuel - 1, by omega⟩
      obtain ⟨N, e, z1, z2, z3, z4, z5⟩ := m_statement hL ha h17 h18 (by omega)
      have go : f_X7_town_12 (f + 1) s 1 = f_X7_town_34 (f_X7_town_12 f) s := by
        show b_X7_town_12 _ s 1 = _
        unfold b_X7_town_12
        rw [if_neg (by decide), h17, hL.1, if_pos (nI_lt han (by omega))]
      have n18 : N.1 18 = nI k := by rw [z2.2 18 (by decide)]; exact h18
      simp only [rs, if_pos han]
      rw [go]
      unfold f_X7_town_34
      cases hg : gd c n (aK c k) with
      | true =>
        rw [hg] at e
        rw [hg, if_pos rfl] at z1
        have hl0 := (gd_iff.mp hg).2.1
        rw [e, bd_s, if_neg (show ¬ bI true = 0 by decide), lt_s', n18, show nI k + (1 : Int32) = nI (k + 1) from nI_add k 1]
        have hN : rLM (pF N 18 (nI (k + 1))) c n := ⟨by rw [pF_1, if_neg (by decide), z2.2 16 (by decide)]; exact hL.1, hL.2.1, fun i hi => by rw [pF_2, z2.1 12 (by decide) (by decide) (by decide)]; exact hL.2.2 i hi⟩
        refine ih (k + 1) f (pF N 18 (nI (k + 1))) (gd_nx hg).1 ?_ ?_ ?_ z1 rfl hN (fun j hj => ?_) ⟨fun q h1 h2 h3 => by rw [pF_2, z2.1 q h1 h2 h3]; exact hfr.1 q h1 h2 h3, fun q h1 h2 => by rw [pF_1, if_neg h2, z2.2 q h1]; exact hfr.2 q h1 h2⟩
        · show n - nx c (aK c k) ≤ m
          unfold nx; omega
        · show n - nx c (aK c k) + 3 < f
          unfold nx; omega
        · show 3 * (k + 1) ≤ nx c (aK c k)
          unfold nx; omega
        · rcases Nat.lt_or_ge j k with w | w
          · obtain ⟨y1, y2, y3⟩ := hst j w
            refine ⟨by rw [pF_2, (z3 j w).1]; exact y1, by rw [pF_2, (z3 j w).2]; exact y2, fun i hi => ?_⟩
            have : nv (c (aK c j)) ≤ 3 := by unfold nv; (repeat' split) <;> omega
            rw [pF_2, z4 _ (by omega)]
            exact y3 i hi
          · rw [show j = k by omega]
            exact z5 hg
      | false =>
        rw [hg] at e
        rw [hg, if_neg (by decide)] at z1
        have hbp := bp_le (c := c) (n := n) (a := aK c k)
        rw [e, bd_s, if_pos (show bI false = 0 from rfl), lt_s', if_neg (by decide)]
        refine ⟨pF N 18 (N.1 18 + 0), ⟨fun q h1 h2 h3 => by rw [pF_2, z2.1 q h1 h2 h3]; exact hfr.1 q h1 h2 h3, fun q h1 h2 => by rw [pF_1, if_neg h2, z2.2 q h1]; exact hfr.2 q h1 h2⟩, Or.inr ⟨bp c n (aK c k), by omega, rfl, z1, ?_⟩⟩
        obtain ⟨f, rfl⟩ : ∃ g, f = g + 1 := ⟨f - 1, by omega⟩
        show b_X7_town_12 _ _ _ = _
        unfold b_X7_town_12
        rw [if_pos (show bI false = 0 from rfl)]
        rfl
    · have hkn : aK c k = n := by omega
      have := ih k fuel s ha (by omega) hf h3 h17 h18 hL hst hfr
      obtain ⟨s', w1, w2⟩ := this
      refine ⟨s', w1, ?_⟩
      have er : rs c n (m + 1) (aK c k) = rs c n m (aK c k) := by
        cases m with
        | zero => simp only [rs, if_neg han]
        | succ m => simp only [rs, if_neg han]
      rw [er]
      exact w2
theorem m_town2 {M0 B : G} {c : Nat → Nat} {n K : Nat} (kp : PK M0 48 48 B) (h96 : n ≤ 96) (hKn : aK c K = n) (hK : K ≤ 32) (h18 : M0.1 18 = nI K) (hst : ∀ j, j < K → stored c M0 j (aK c j)) : ∀ (m k fuel : Nat) (T : Tw) (s : G), k ≤ K → n - aK c k ≤ m → K - k < fuel → rs c n m (aK c k) = -9 → rM s T → T 8 0 ≤ 999 → frw 144 B s → ∃ N, f_X7_town_86 fuel s (nI k) = some ((rn c n m (aK c k) k T).1, N) ∧ (∀ T', (rn c n m (aK c k) k T).2 = some T' → rM N T' ∧ frw 144 B N) ∧ ((rn c n m (aK c k) k T).2 = none → eqM 48 M0 N) := by
  have s18 : ∀ s : G, frw 144 B s → s.1 18 = nI K := fun s f => by rw [f.2.2.2.1 18 (by omega) (by decide) (by decide), kp.2.1 18 (by decide) (by decide)]; exact h18
  have stop : ∀ (fuel : Nat) (T : Tw) (s : G), 0 < fuel → frw 144 B s → f_X7_town_86 fuel s (nI K) = some (nI K, s) := by
    intro fuel T s hf hfs
    obtain ⟨f, rfl⟩ : ∃ f, fuel = f + 1 := ⟨fuel - 1, by omega⟩
    show b_X7_town_86 _ s _ = _
    unfold b_X7_town_86
    rw [s18 s hfs, if_pos (nI_le (Nat.le_refl _) (by omega))]
  intro m
  induction m with
  | zero =>
    intro k fuel T s hk hm hf _ hs hd hfs
    have hkK : k = K := by
      rcases Nat.lt_or_ge k K with z | z
      · have := aK_mono c z; omega
      · omega
    subst hkK
    exact ⟨s, stop fuel T s (by omega) hfs, fun T' hT => by cases hT; exact ⟨hs, hfs⟩, fun z => by cases z⟩
  | succ m ih =>
    intro k fuel T s hk hm hf hrs hs hd hfs
    by_cases hkK : k < K
    · have han : aK c k < n := by have := aK_mono c hkK; omega
      obtain ⟨hg, hrs2⟩ := rs_gd h96 hrs han
      obtain ⟨f, rfl⟩ : ∃ f, fuel = f + 1 := ⟨fuel - 1, by omega⟩
      have hsd : stored c s k (aK c k) := by
        obtain ⟨y1, y2, y3⟩ := hst k hkK
        exact ⟨by rw [hfs.1 13 (by omega) (by decide), kp.1 13 (by decide)]; exact y1, by rw [hfs.1 14 (by omega) (by decide), kp.1 14 (by decide)]; exact y2, fun i hi => by rw [hfs.1 15 (by omega) (by decide), kp.1 15 (by decide)]; exact y3 i hi⟩
      obtain ⟨N, e, f1, r1⟩ := m_comes hs hd hg hsd (by omega)
      have hf1 := hfs.tr f1 (lim := 144) (by decide) (by decide)
      simp only [rn, if_pos han]
      show ∃ N, b_X7_town_86 _ s _ = _ ∧ _
      unfold b_X7_town_86
      rw [s18 s hfs, if_neg (nI_ge hkK (by omega)), e, bd_s]
      cases q : semA c (aK c k) T with
      | none =>
        obtain ⟨R, e2, b2⟩ := m_back N (w := 1) (by decide)
        have z := restored (w := 1) kp hf1 (by decide) b2
        replace e2 : f_X7_passesAll N 1 0 = some ((), R) := e2
        rw [if_pos (show bI (none : Option Tw).isSome = 0 from rfl), e2, bd_s, ckn (show k < 48 by omega) (by decide), if_pos rfl, cln (by omega), z.1 14 (by decide), (hst k hkK).2.1]
        exact ⟨R, rfl, (fun T' hT => by cases hT), fun _ => z⟩
      | some T1 =>
        rw [if_neg (show ¬ bI (some T1 : Option Tw).isSome = 0 from (show ¬ bI true = 0 by decide)), show nI k + (1 : Int32) = nI (k + 1) from nI_add k 1]
        have hl := aK_lt c k
        exact ih (k + 1) f T1 N (by omega) (by omega) (by omega) hrs2 (r1 T1 q) (semA_8 hg q hd) hf1
    · have hkk : k = K := by omega
      subst hkk
      simp only [rn, if_neg (show ¬ aK c k < n by omega), hKn]
      rw [if_neg (Nat.lt_irrefl n)]
      exact ⟨s, stop fuel T s (by omega) hfs, fun T' hT => by cases hT; exact ⟨hs, hfs⟩, fun z => by cases z⟩
/-- all but what the telling writes -/
def eqW (M N : G) : Prop := (∀ k, k < 1 ∨ 6 < k → k ≠ 13 → k ≠ 14 → k ≠ 15 → k ≠ 19 → N.2 k = M.2 k) ∧ (∀ k, k < 7 ∨ 10 < k → k ≠ 16 → k ≠ 17 → k ≠ 18 → k ≠ 21 → k ≠ 22 → N.1 k = M.1 k) ∧ (∀ j, j < 48 → N.2 19 j = M.2 19 j)
theorem m_town {M : G} {c : Nat → Nat} {n : Nat} {T : Tw} (hL : rLM M c n) (hM : rM M T) (hd : T 8 0 ≤ 999) : ∃ N, f_X7_town M = some (spTown c n T, N) ∧ rM N (spTownT c n T) ∧ N.1 16 = 0 ∧ eqW M N := by
  have h96 := hL.2.1
  obtain ⟨s', w1, w2⟩ := m_town1 (M := M) (c := c) (n := n) n 0 1000 (pF (pF M 17 0) 18 0) (Nat.zero_le _) (by show n - 0 ≤ n; omega) (by show n - 0 + 3 < 1000; omega) (Nat.le_refl _) rfl rfl hL (fun j hj => absurd hj (Nat.not_lt_zero j)) ⟨fun _ _ _ _ => rfl, fun q h1 h2 => by rw [pF_1, if_neg h2, pF_1, if_neg h1]⟩
  have hM' : rM (pF s' 16 0) T := by
    obtain ⟨a, b, c', d, f, g, ok⟩ := hM
    refine ⟨by rw [pF_1, if_neg (by decide), w1.2 7 (by decide) (by decide)]; exact a, by rw [pF_1, if_neg (by decide), w1.2 8 (by decide) (by decide)]; exact b, by rw [pF_1, if_neg (by decide), w1.2 9 (by decide) (by decide)]; exact c', by rw [pF_1, if_neg (by decide), w1.2 10 (by decide) (by decide)]; exact d, fun q hq => ?_, fun q hq => ?_, ok⟩
    · rw [pF_2, w1.1 1 (by decide) (by decide) (by decide), w1.1 2 (by decide) (by decide) (by decide)]; exact f q hq
    · rw [pF_2, w1.1 3 (by decide) (by decide) (by decide), w1.1 4 (by decide) (by decide) (by decide), w1.1 5 (by decide) (by decide) (by decide), w1.1 6 (by decide) (by decide) (by decide)]; exact g q hq
  have base : eqW M (pF s' 16 0) := ⟨fun k h1 h2 h3 h4 _ => by rw [pF_2, w1.1 k h2 h3 h4], fun k h1 h2 h3 h4 _ _ => by rw [pF_1, if_neg h2, w1.2 k h3 h4], fun j hj => by rw [pF_2, w1.1 19 (by decide) (by decide) (by decide)]⟩
  unfold f_X7_town
  rw [lt_s', lt_s']
  show ∃ N, f_X7_town_12 1000 (pF (pF M 17 0) 18 0) 1 = _ ∧ _
  unfold spTown spTownT
  rcases w2 with ⟨q, K, hK, hK32, h18, hst, e⟩ | ⟨f, hf, q, h17, e⟩
  · replace q : rs c n n 0 = -9 := q
    rw [e, if_pos q, if_pos q]
    unfold f_X7_town_60
    obtain ⟨B, e1, kp⟩ := m_keep (pF s' 16 0) (w := 1) (by decide)
    replace e1 : f_X7_passesAll (pF s' 16 0) 1 1 = some ((), B) := e1
    have kq : eqM 48 (pF s' 16 0) B := PK.eqM (w := 1) kp
    have hst2 : ∀ j, j < K → stored c (pF s' 16 0) j (aK c j) := fun j hj => hst j hj
    obtain ⟨N, e2, z1, z2⟩ := m_town2 (M0 := pF s' 16 0) kp h96 hK hK32 h18 hst2 n 0 1000 T B (Nat.zero_le _) (by show n - 0 ≤ n; omega) (by omega) q (hM'.eq kq) hd (frw.rf _ _)
    replace e2 : f_X7_town_86 1000 B 0 = some ((rn c n n 0 0 T).1, N) := e2
    replace z1 : ∀ T', (rn c n n 0 0 T).2 = some T' → rM N T' ∧ frw 144 B N := z1
    replace z2 : (rn c n n 0 0 T).2 = none → eqM 48 (pF s' 16 0) N := z2
    rw [lt_s', if_neg (by decide), e1, bd_s, e2]
    refine ⟨N, rfl, ?_⟩
    cases w : (rn c n n 0 0 T).2 with
    | none =>
      have zq := z2 w
      refine ⟨hM'.eq zq, by rw [zq.2.1 16 (by decide) (by decide)]; rfl, ⟨fun k h1 h2 h3 h4 h5 => by rw [zq.1 k h5]; exact base.1 k h1 h2 h3 h4 h5, fun k h1 h2 h3 h4 h5 h6 => by rw [zq.2.1 k h5 h6]; exact base.2.1 k h1 h2 h3 h4 h5 h6, fun j hj => by rw [zq.2.2 j hj]; exact base.2.2 j hj⟩⟩
    | some T' =>
      obtain ⟨r, fw⟩ := z1 T' w
      refine ⟨r, by rw [fw.2.2.2.1 16 (by omega) (by decide) (by decide), kq.2.1 16 (by decide) (by decide)]; rfl, ⟨fun k h1 h2 h3 h4 h5 => by rw [fw.1 k h1 h5, kq.1 k h5]; exact base.1 k h1 h2 h3 h4 h5, fun k h1 h2 h3 h4 h5 h6 => by rw [fw.2.2.2.1 k h1 h5 h6, kq.2.1 k h5 h6]; exact base.2.1 k h1 h2 h3 h4 h5 h6, fun j hj => by rw [fw.2.2.2.2 j (by omega), kq.2.2 j hj]; exact base.2.2 j hj⟩⟩
  · replace q : rs c n n 0 = nI f := q
    have hne : ¬ rs c n n 0 = -9 := by rw [q]; exact nI_m9 (by omega)
    rw [e, if_neg hne, if_neg hne]
    unfold f_X7_town_60
    rw [lt_s', if_pos rfl, q, show (pF s' 16 0).1 17 = nI f by rw [pF_1, if_neg (by decide)]; exact h17]
    exact ⟨_, rfl, hM', rfl, base⟩
