/-! on which day all ring -/
def nR (T : Tw) (d : Nat) : Bool := anyB (fun b => !decide (d % T 2 b = 0)) (T 0 0)
theorem t_allRingOn {S : G} {T : Tw} {d : Nat} (h : rT S T) (hd : d < 1000000) : f_X4_allRingOn S (nI d) = some (bI (!nR T d), S) := by
  have ok := h.2.2.2.2.2.2
  have h6 := ok.1
  unfold f_X4_allRingOn nR
  refine loopAny (fun fuel i => f_X4_allRingOn_2 fuel S (nI d) (nI i)) (fun b => !decide (d % T 2 b = 0)) (T 0 0) (fun b => some (bI (!b), S)) (fun f => ?_) (fun f i hi => ?_) 1000 (by omega)
  · show b_X4_allRingOn_2 _ S _ _ = _
    unfold b_X4_allRingOn_2
    rw [h.1, if_pos (nI_le (Nat.le_refl _) (by omega))]; rfl
  · show b_X4_allRingOn_2 _ S _ _ = _
    unfold b_X4_allRingOn_2
    obtain ⟨-, o1, o2⟩ := ok.2.2.2.2.1 i hi
    have hm : d % T 2 i < T 2 i := Nat.mod_lt _ o1
    rw [h.1, if_neg (nI_ge hi (by omega)), ckn (ok_b ok hi) (by decide), cln (by omega), (h.2.2.2.2.1 i hi).2]
    simp only [if_true]
    rw [if_neg (show ¬ nI (T 2 i) < (1 : Int32) from nI_nlt (b := 1) (by omega) (by omega)), if_neg (nI_ne0 (by omega) (by omega)), remN (by omega) (by omega) (by omega), nl1, nI_add, nl0]
    simp only [nI_eq (show d % T 2 i < 2 ^ 31 by omega) (show 0 < 2 ^ 31 by decide)]
    by_cases c : d % T 2 i = 0 <;> simp [c] <;> rfl
def tgF (T : Tw) : Nat := fi (fun i => !nR T (T 8 0 + (i + 1))) 99
def spTog (T : Tw) : Int32 := if T 0 0 = 0 then -9 else if tgF T < 99 then nI (tgF T + 1) else -9
theorem t_daysTillAllRing {S : G} {T : Tw} (h : rT S T) (hd : T 8 0 ≤ 2000) : f_X4_daysTillAllRing S = some (spTog T, S) := by
  have ok := h.2.2.2.2.2.2
  have h6 := ok.1
  have hle : tgF T ≤ 99 := fi_le _ 99
  unfold f_X4_daysTillAllRing spTog
  rw [h.1]
  by_cases c0 : T 0 0 = 0
  · rw [if_pos (by rw [c0]; rfl), if_pos c0]
  · rw [if_neg (nI_ne0 (by omega) (by omega)), if_neg c0]
    refine loopE (fun fuel i => f_X4_daysTillAllRing_12 fuel S (nI (i + 1))) (tgF T) _ (fun f => ?_) (fun f i hi => Or.inr ?_) 1000 0 (by omega) (by omega)
    · show b_X4_daysTillAllRing_12 _ S _ = _
      unfold b_X4_daysTillAllRing_12
      by_cases c : tgF T < 99
      · have y : (!nR T (T 8 0 + (tgF T + 1))) = true := fi_yes (fun i => !nR T (T 8 0 + (i + 1))) 99 c
        rw [if_neg (show ¬ (99 : Int32) < nI (tgF T + 1) from nI_nlt (a := 99) (by omega) (by decide)), h.2.2.1, nI_add, t_allRingOn h (by omega), bd_s, ifb, y, if_pos rfl, if_pos c]
      · rw [if_pos (show (99 : Int32) < nI (tgF T + 1) from nI_lt (a := 99) (by omega) (by omega)), if_neg c]
    · show b_X4_daysTillAllRing_12 _ S _ = _
      unfold b_X4_daysTillAllRing_12
      have y : (!nR T (T 8 0 + (i + 1))) = false := fi_no (fun i => !nR T (T 8 0 + (i + 1))) 99 i hi
      rw [if_neg (show ¬ (99 : Int32) < nI (i + 1) from nI_nlt (a := 99) (by omega) (by decide)), h.2.2.1, nI_add, t_allRingOn h (by omega), bd_s, ifb, y, if_neg (by decide), nl1, nI_add]
theorem ct_full (f : Nat → Bool) : ∀ n, ct f n = n ↔ anyB (fun i => !f i) n = false
  | 0 => by simp [ct, anyB]
  | n + 1 => by
    have ih := ct_full f n
    have hl := ct_le f n
    simp only [ct, anyB, Bool.or_eq_false_iff]
    rw [← ih]
    cases q : f n <;> simp <;> omega
theorem m_together {M : G} {T : Tw} (h : rM M T) (hd : T 8 0 ≤ 2000) : f_X7_together M = some (spTog T, M) := by
  have ok := h.2.2.2.2.2.2
  have h6 := ok.1
  have hle : tgF T ≤ 99 := fi_le _ 99
  unfold f_X7_together spTog
  by_cases c0 : T 0 0 = 0
  · rw [if_pos c0]
    show b_X7_together_2 _ M _ = _
    unfold b_X7_together_2
    rw [if_neg (by decide), h.1, c0, if_pos (by decide)]
  · rw [if_neg c0]
    have inner : ∀ (d : Nat) (k : G → Int32 → Option (Int32 × G)), d ≤ 200 → f_X7_together_19 k 1000 M (nI d) 0 0 = if nR T (T 8 0 + d) = true then k M (nI (d + 1)) else some (nI d, M) := by
      intro d k hd2
      refine loopE (fun fuel i => f_X7_together_19 k fuel M (nI d) (nI (ct (fun b => decide ((T 8 0 + d) % T 2 b = 0)) i)) (nI i)) (T 0 0) _ (fun f => ?_) (fun f i hi => Or.inr ?_) 1000 0 (by omega) (by omega)
      · have hl := ct_le (fun b => decide ((T 8 0 + d) % T 2 b = 0)) (T 0 0)
        show b_X7_together_19 _ _ M _ _ _ = _
        unfold b_X7_together_19
        rw [h.1, if_pos (nI_le (Nat.le_refl _) (by omega)), nl1, nI_add]
        simp only [nI_eq (show ct (fun b => decide ((T 8 0 + d) % T 2 b = 0)) (T 0 0) < 2 ^ 31 by omega) (show T 0 0 < 2 ^ 31 by omega), ct_full]
        have e : nR T (T 8 0 + d) = anyB (fun b => !decide ((T 8 0 + d) % T 2 b = 0)) (T 0 0) := rfl
        rw [e]
        cases q : anyB (fun b => !decide ((T 8 0 + d) % T 2 b = 0)) (T 0 0) <;> simp
      · obtain ⟨-, o1, o2⟩ := ok.2.2.2.2.1 i hi
        have hm : (T 8 0 + d) % T 2 i < T 2 i := Nat.mod_lt _ o1
        show b_X7_together_19 _ _ M _ _ _ = _
        unfold b_X7_together_19
        rw [h.1, if_neg (nI_ge hi (by omega)), ckn (ok_b ok hi) (by decide), if_pos rfl, cln (by omega), (h.2.2.2.2.1 i hi).2, h.2.2.1, nI_add, if_neg (nI_ne0 (by omega) (by omega)), remN (by omega) (by omega) (by omega), nl1, nl0, nI_add, nI_add, nI_add]
        simp only [nI_eq (show (T 8 0 + d) % T 2 i < 2 ^ 31 by omega) (show 0 < 2 ^ 31 by decide), ct]
        by_cases c : (T 8 0 + d) % T 2 i = 0 <;> simp [c]
    refine loopE (fun fuel i => f_X7_together_2 fuel M (nI (i + 1))) (tgF T) _ (fun f => ?_) (fun f i hi => Or.inr ?_) 1000 0 (by omega) (by omega)
    · show b_X7_together_2 _ M _ = _
      unfold b_X7_together_2
      by_cases c : tgF T < 99
      · have y : (!nR T (T 8 0 + (tgF T + 1))) = true := fi_yes (fun i => !nR T (T 8 0 + (i + 1))) 99 c
        simp only [Bool.not_eq_true'] at y
        rw [if_neg (show ¬ (99 : Int32) < nI (tgF T + 1) from nI_nlt (a := 99) (by omega) (by decide)), h.1, if_neg (nI_nle (by omega) (by omega)), inner _ _ (by omega), y, if_neg (by decide), if_pos c]
      · rw [if_pos (show (99 : Int32) < nI (tgF T + 1) from nI_lt (a := 99) (by omega) (by omega)), if_neg c]
    · show b_X7_together_2 _ M _ = _
      unfold b_X7_together_2
      have y : (!nR T (T 8 0 + (i + 1))) = false := fi_no (fun i => !nR T (T 8 0 + (i + 1))) 99 i hi
      simp only [Bool.not_eq_false'] at y
      rw [if_neg (show ¬ (99 : Int32) < nI (i + 1) from nI_nlt (a := 99) (by omega) (by decide)), h.1, if_neg (nI_nle (by omega) (by omega)), inner _ _ (by omega), y, if_pos rfl]
/-! parts of a fraction -/
theorem lN0 : (0 : Int64) = lN 0 := rfl
theorem lN1 : (1 : Int64) = lN 1 := rfl
theorem gcd_s (x y : Nat) : Nat.gcd x y = Nat.gcd y (x % y) := by rw [Nat.gcd_comm x y, Nat.gcd_rec y x, Nat.gcd_comm]
theorem half {y r : Nat} (h0 : 0 < r) (h : r < y) {k : Nat} (hk : y < 2 ^ (k + 1)) : y % r < 2 ^ k := by
  have h1 : y % r < r := Nat.mod_lt _ h0
  have h2 : y % r ≤ y - r := by rw [Nat.mod_eq_sub_mod (by omega)]; exact Nat.mod_le _ _
  rw [Nat.pow_succ] at hk
  omega
theorem gcdC : ∀ (k fuel i x y : Nat), x < 2 ^ 62 → y < 2 ^ k → k ≤ 31 → i + 2 * k + 1 ≤ 100 → 2 * k + 1 < fuel → f_X6_commonDivisor_9 fuel (lN x) (lN y) (nI i) = some (lN (Nat.gcd x y), ()) := by
  have zero : ∀ fuel i x, i < 100 → 0 < fuel → f_X6_commonDivisor_9 fuel (lN x) (lN 0) (nI i) = some (lN (Nat.gcd x 0), ()) := by
    intro fuel i x hi hf
    obtain ⟨f, rfl⟩ : ∃ f, fuel = f + 1 := ⟨fuel - 1, by omega⟩
    show b_X6_commonDivisor_9 _ _ _ _ = _
    unfold b_X6_commonDivisor_9
    rw [if_neg (show ¬ (100 : Int32) ≤ nI i from nI_ge (b := 100) hi (by decide)), if_pos (show lg_cmp (lN 0) 0 = 0 from (lg_cmp_eq _ _).mpr rfl), Nat.gcd_zero_right]
  have step : ∀ fuel i x y, i < 100 → 0 < y → y < 2 ^ 62 → x < 2 ^ 62 → 0 < fuel → f_X6_commonDivisor_9 fuel (lN x) (lN y) (nI i) = f_X6_commonDivisor_9 (fuel - 1) (lN y) (lN (x % y)) (nI (i + 1)) := by
    intro fuel i x y hi h0 hy hx hf
    obtain ⟨f, rfl⟩ : ∃ f, fuel = f + 1 := ⟨fuel - 1, by omega⟩
    have ne : ¬ lN y = 0 := by rw [lN0, pk_lEQ (by omega) (by decide)]; omega
    show b_X6_commonDivisor_9 _ _ _ _ = _
    unfold b_X6_commonDivisor_9
    rw [if_neg (show ¬ (100 : Int32) ≤ nI i from nI_ge (b := 100) hi (by decide)), if_neg (fun z => ne ((lg_cmp_eq _ _).mp z)), if_neg ne, pk_lRem (by omega) h0 (by omega), nl1, nI_add]
    rfl
  intro k
  induction k with
  | zero =>
    intro fuel i x y hx hy _ hi hf
    have : y = 0 := by simp at hy; exact hy
    subst this
    exact zero fuel i x (by omega) (by omega)
  | succ k ih =>
    intro fuel i x y hx hy hk hi hf
    have hpw : 2 ^ (k + 1) ≤ 2 ^ 31 := Nat.pow_le_pow_right (by decide) hk
    rcases Nat.eq_zero_or_pos y with z | z
    · subst z; exact zero fuel i x (by omega) (by omega)
    · have hr : x % y < y := Nat.mod_lt _ z
      rw [step fuel i x y (by omega) z (by omega) hx (by omega), gcd_s x y]
      rcases Nat.eq_zero_or_pos (x % y) with w | w
      · rw [w]; exact zero _ _ _ (by omega) (by omega)
      · rw [step _ _ _ _ (by omega) w (by omega) (by omega) (by omega), gcd_s y (x % y)]
        exact ih _ _ _ _ (by omega) (half w hr hy) (by omega) (by omega) (by omega)
theorem gcdM : ∀ (k fuel x y : Nat), x < 2 ^ 62 → y < 2 ^ k → k ≤ 31 → 2 * k + 1 < fuel → f_X7_divisor_6 fuel (lN x) (lN y) = some (lN (Nat.gcd x y), ()) := by
  have zero : ∀ fuel x, 0 < fuel → f_X7_divisor_6 fuel (lN x) (lN 0) = some (lN (Nat.gcd x 0), ()) := by
    intro fuel x hf
    obtain ⟨f, rfl⟩ : ∃ f, fuel = f + 1 := ⟨fuel - 1, by omega⟩
    show b_X7_divisor_6 _ _ _ = _
    unfold b_X7_divisor_6
    rw [if_pos (show lg_cmp (lN 0) 0 = 0 from (lg_cmp_eq _ _).mpr rfl), Nat.gcd_zero_right]
  have step : ∀ fuel x y, 0 < y → y < 2 ^ 62 → x < 2 ^ 62 → 0 < fuel → f_X7_divisor_6 fuel (lN x) (lN y) = f_X7_divisor_6 (fuel - 1) (lN y) (lN (x % y)) := by
    intro fuel x y h0 hy hx hf
    obtain ⟨f, rfl⟩ : ∃ f, fuel = f + 1 := ⟨fuel - 1, by omega⟩
    have ne : ¬ lN y = 0 := by rw [lN0, pk_lEQ (by omega) (by decide)]; omega
    show b_X7_divisor_6 _ _ _ = _
    unfold b_X7_divisor_6
    rw [if_neg (fun z => ne ((lg_cmp_eq _ _).mp z)), if_neg ne, pk_lRem (by omega) h0 (by omega)]
    rfl
  intro k
  induction k with
  | zero =>
    intro fuel x y hx hy _ hf
    have : y = 0 := by simp at hy; exact hy
    subst this
    exact zero fuel x (by omega)
  | succ k ih =>
    intro fuel x y hx hy hk hf
    have hpw : 2 ^ (k + 1) ≤ 2 ^ 31 := Nat.pow_le_pow_right (by decide) hk
    rcases Nat.eq_zero_or_pos y with z | z
    · subst z; exact zero fuel x (by omega)
    · have hr : x % y < y := Nat.mod_lt _ z
      rw [step fuel x y z (by omega) hx (by omega), gcd_s x y]
      rcases Nat.eq_zero_or_pos (x % y) with w | w
      · rw [w]; exact zero _ _ (by omega)
      · rw [step _ _ _ w (by omega) (by omega) (by omega), gcd_s y (x % y)]
        exact ih _ _ _ (by omega) (half w hr hy) (by omega) (by omega)
def spPart (a b w : Nat) : Int64 := lN ((if w = 0 then a else b) / Nat.gcd a b)
theorem t_partOf {a b w : Nat} (ha : a < 2 ^ 62) (hb : b < 2 ^ 31) (h0 : 0 < b) (hw : w ≤ 1) : f_X6_partOf (lN a) (lN b) (nI w) = some (spPart a b w, ()) := by
  have hg : 0 < Nat.gcd a b := Nat.gcd_pos_of_pos_right a h0
  have hg2 : Nat.gcd a b ≤ b := Nat.gcd_le_right a h0
  have e : f_X6_commonDivisor (lN a) (lN b) = some (lN (Nat.gcd a b), ()) := gcdC 31 1000 0 a b ha hb (by decide) (by decide) (by decide)
  have ne : ¬ lN (Nat.gcd a b) = 0 := by rw [lN0, pk_lEQ (by omega) (by decide)]; omega
  unfold f_X6_partOf spPart
  rw [e, bd_s, if_pos (show (0 : Int32) ≤ lg_cmp (lN (Nat.gcd a b)) 1 from (lg_cmp_ge _ _).mpr ((pk_lLE (a := 1) (by decide) (by omega)).mpr hg)), if_neg ne, if_neg ne, pk_lDiv (by omega) hg (by omega), pk_lDiv (by omega) hg (by omega)]
  rcases (show w = 0 ∨ w = 1 by omega) with rfl | rfl
  · rw [if_pos (show nI 0 = 0 from rfl), if_pos rfl]
  · rw [if_neg (by decide), if_neg (by decide)]
theorem m_partOf {a b w : Nat} (ha : a < 2 ^ 62) (hb : b < 2 ^ 31) (h0 : 0 < b) (hw : w ≤ 1) : f_X7_partOf (lN a) (lN b) (nI w) = some (spPart a b w, ()) := by
  have hg : 0 < Nat.gcd a b := Nat.gcd_pos_of_pos_right a h0
  have hg2 : Nat.gcd a b ≤ b := Nat.gcd_le_right a h0
  have e : f_X7_divisor (lN a) (lN b) = some (lN (Nat.gcd a b), ()) := gcdM 31 1000 a b ha hb (by decide) (by decide)
  have ne : ¬ lN (Nat.gcd a b) = 0 := by rw [lN0, pk_lEQ (by omega) (by decide)]; omega
  unfold f_X7_partOf f_X7_partOf_10 spPart
  rw [e, bd_s, bd_s, if_neg ne, if_neg ne, pk_lDiv (by omega) hg (by omega), pk_lDiv (by omega) hg (by omega)]
  rcases (show w = 0 ∨ w = 1 by omega) with rfl | rfl
  · rw [if_pos (show nI 0 = 0 from rfl), if_pos rfl]
  · rw [if_neg (by decide), if_neg (by decide)]
theorem t_power {t n : Nat} (ht : t < 1000) (hn : n ≤ 50) : f_X6_power (nI t) (nI n) = some (lN (t ^ n), ()) := by
  unfold f_X6_power
  refine loopE (fun fuel i => f_X6_power_5 fuel (nI t) (nI n) (lN (t ^ i)) (nI i)) n _ (fun f => ?_) (fun f i hi => Or.inr ?_) 1000 0 (by omega) (by omega)
  · show b_X6_power_5 _ _ _ _ _ = _
    unfold b_X6_power_5
    rw [if_pos (nI_le (Nat.le_refl _) (by omega))]
  · show b_X6_power_5 _ _ _ _ _ = _
    unfold b_X6_power_5
    rw [if_neg (nI_ge hi (by omega)), nI_l (by omega), lN_mul, nl1, nI_add, Nat.pow_succ]
/-! fogs: what does not hang on the day -/
def eqd (T U : Tw) : Prop := ∀ k, k ≠ 8 → T k = U k
theorem nights_eqd {T U : Tw} (h : eqd T U) (p : Nat) : nights T p = nights U p := by
  unfold nights
  rw [h 4 (by decide), h 5 (by decide)]
theorem hears_eqd {T U : Tw} (h : eqd T U) (p b : Nat) : hears T p b = hears U p b := by
  unfold hears
  rw [nights_eqd h, h 7 (by decide), h 6 (by decide), h 4 (by decide), h 1 (by decide)]
theorem silent_eqd {T U : Tw} (h : eqd T U) (b : Nat) : silent T b = silent U b := by
  unfold silent
  rw [h 3 (by decide), anyB_cong _ (fun p _ => hears_eqd h p b)]
theorem d1_eqd {T U : Tw} (h : eqd T U) : eqd (d1 T) (d1 U) := by
  intro k hk
  have hh : ∀ i, here T i = here U i := fun i => by unfold here; rw [h 7 (by decide)]
  funext i
  unfold d1 alike
  rw [if_neg hk, if_neg hk, h 7 (by decide), h 6 (by decide), h 3 (by decide), h k hk]
  unfold sln
  rw [hh, h 7 (by decide), h 6 (by decide), h 9 (by decide)]
def fogT (T : Tw) : Tw := fun k i => if k = 8 then T 8 i + 1 else T k i
theorem m_foggy {M : G} {T : Tw} (h : rM M T) : ∃ N, f_X7_goesDay M 1 = some ((), N) ∧ rM N (fogT T) ∧ frw 144 M N := by
  refine ⟨pF M 9 (M.1 9 + 1), ?_, ?_, ⟨fun _ _ _ => rfl, fun _ _ => ⟨rfl, rfl⟩, fun _ _ => ⟨rfl, rfl, rfl, rfl⟩, fun k a b c => ?_, fun _ _ => rfl⟩⟩
  · unfold f_X7_goesDay
    rw [lt_s']
    show b_X7_goesDay_14 _ _ _ _ _ = _
    unfold b_X7_goesDay_14
    rw [if_neg (show ¬ (1 : Int32) = 0 by decide)]
    split <;> rfl
  · obtain ⟨a, b, c, d, e, f, ok⟩ := h
    refine ⟨a, b, ?_, d, e, f, ok⟩
    show M.1 9 + 1 = nI (T 8 0 + 1)
    rw [c, nl1, nI_add]
  · rw [pF_1, if_neg (by omega)]
def zc (s k : Nat) : Nat := ct (fun i => !s.testBit i) k
def fg (T : Tw) (b t c : Nat) : Nat := if silent (dN c T) b = true then 0 else (t - 1) ^ c
/-- sums over sets by the number of clear days -/
def Sg : Nat → (Nat → Nat) → Nat
  | 0, g => g 0
  | n + 1, g => Sg n (fun c => g (c + 1)) + Sg n g
theorem sumD_add (f : Nat → Nat) (a : Nat) : ∀ b, sumD f (a + b) = sumD f a + sumD (fun i => f (a + i)) b
  | 0 => rfl
  | b + 1 => by rw [← Nat.add_assoc, sumD, sumD_add f a b, sumD]; omega
theorem zc_lo {n s : Nat} (hs : s < 2 ^ n) : zc s (n + 1) = zc s n + 1 := by
  have e := Nat.testBit_lt_two_pow hs
  unfold zc
  simp only [ct]
  simp [e]
theorem zc_hi {n s : Nat} (hs : s < 2 ^ n) : zc (2 ^ n + s) (n + 1) = zc s n := by
  have e1 : (2 ^ n + s).testBit n = true := by rw [Nat.testBit_two_pow_add_eq, Nat.testBit_lt_two_pow hs]; rfl
  have e2 := ct_cong (f := fun i => !(2 ^ n + s).testBit i) (g := fun i => !s.testBit i) n (fun i hi => by show (!(2 ^ n + s).testBit i) = _; rw [Nat.testBit_two_pow_add_gt hi])
  unfold zc
  simp only [ct]
  rw [e2]
  simp [e1]
theorem sums_Sg : ∀ (n : Nat) (g : Nat → Nat), sumD (fun s => g (zc s n)) (2 ^ n) = Sg n g
  | 0, g => by
    show sumD (fun s => g (zc s 0)) 1 = g 0
    simp [sumD, zc, ct]
  | n + 1, g => by
    rw [Nat.pow_succ, Nat.mul_two, sumD_add, Sg, ← sums_Sg n (fun c => g (c + 1)), ← sums_Sg n g]
    congr 1
    · exact sumD_cong _ (fun s hs => by rw [zc_lo hs])
    · exact sumD_cong _ (fun s hs => by rw [zc_hi hs])
def chs (n : Nat) : Nat → Nat
  | 0 => 1
  | c + 1 => chs n c * (n - c) / (c + 1)
theorem Sg_chs {n : Nat} (hn : n ≤ 7) (g : Nat → Nat) : Sg n g = sumD (fun c => chs n c * g c) (n + 1) := by
  rcases (show n = 0 ∨ n = 1 ∨ n = 2 ∨ n = 3 ∨ n = 4 ∨ n = 5 ∨ n = 6 ∨ n = 7 by omega) with rfl | rfl | rfl | rfl | rfl | rfl | rfl | rfl
  all_goals simp [Sg, sumD, chs] <;> omega
def fogUp (T : Tw) (b t n : Nat) : Nat := sumD (fun c => chs n c * fg T b t c) (n + 1)
theorem chs_le : ∀ n, n ≤ 7 → ∀ c, c ≤ 8 → chs n c ≤ 35 := by decide
theorem t_clearWays {S U : G} {T : Tw} {b n t : Nat} (h : rT U T) (hb : b < T 0 0) (hn : n ≤ 7) (ht1 : 1 ≤ t) (ht : t ≤ 20) : ∃ S', f_X1_clearWays S U (nI b) (nI n) (nI t) = some (lN (fogUp T b t n), (S', U)) := by
  obtain ⟨u, e, hu⟩ := t_become (S := S) h
  unfold f_X1_clearWays
  rw [e, bd_s]
  refine loopR (fun fuel c (s : G) => f_X1_clearWays_17 fuel s U (nI b) (nI n) (nI t) (lN (sumD (fun c => chs n c * fg T b t c) c)) (lN (chs n c)) (nI c)) (fun c s => rT s (dN c T)) (n + 1) (fun r => ∃ S', r = some (lN (fogUp T b t n), (S', U))) (fun f s hs => ?_) (fun f c s hc hs => Or.inr ?_) (n + 1) 0 1000 u (by omega) (by omega) hu
  · show ∃ S', b_X1_clearWays_17 _ s U _ _ _ _ _ _ = _
    unfold b_X1_clearWays_17
    rw [if_pos (nI_lt (by omega) (by omega))]
    exact ⟨s, rfl⟩
  · obtain ⟨v, e2, hv⟩ := t_pass1 hs
    have hv2 : rT v (dN (c + 1) T) := hv
    refine ⟨v, hv2, ?_⟩
    have hb0 : b < dN c T 0 0 := by rw [dN_k T (by decide) (by decide) (by decide)]; exact hb
    have h8 := hs.2.2.2.2.2.2.2.1
    have hcl := chs_le n hn c (by omega)
    have last : ∀ z : Int64, f_X1_clearWays_51 (f_X1_clearWays_17 f) s U (nI b) (nI n) (nI t) z (lN (chs n c)) (nI c) = f_X1_clearWays_17 f v U (nI b) (nI n) (nI t) z (lN (chs n (c + 1))) (nI (c + 1)) := by
      intro z
      have hmul : chs n c * (n - c) ≤ 35 * 7 := Nat.mul_le_mul hcl (by omega)
      unfold f_X1_clearWays_51
      rw [nl1, nI_add, nI_l (by omega), pk_sub (by omega), nI_l (by omega), if_neg (by rw [lN0, pk_lEQ (by omega) (by decide)]; omega), lN_mul, pk_lDiv (by omega) (by omega) (by omega), lt_s', ← nl1, e2, bd_s]
      rfl
    have hsil : silent (dN c T) b = !(anyB (fun p => hears (dN c T) p b) (dN c T 3 0)) := rfl
    have es : sumD (fun c => chs n c * fg T b t c) (c + 1) = sumD (fun c => chs n c * fg T b t c) c + chs n c * fg T b t c := rfl
    show b_X1_clearWays_17 _ s U _ _ _ _ _ _ = _
    unfold b_X1_clearWays_17
    rw [if_neg (nI_nlt (by omega) (by omega)), t_hearersOf hs hb0, bd_s, show nI t - (1 : Int32) = nI (t - 1) from pk_sub (b := 1) ht1, t_power (by omega) (by omega), bd_s, last, last, lN_mul, lN_add, es]
    simp only [mk_nz h8]
    unfold fg
    rw [hsil]
    cases q : anyB (fun p => hears (dN c T) p b) (dN c T 3 0) <;> simp
theorem pow_le_19 {t c : Nat} (ht : t ≤ 20) (hc : c ≤ 7) : (t - 1) ^ c ≤ 893871739 := by
  have h1 : (t - 1) ^ c ≤ 19 ^ c := Nat.pow_le_pow_left (by omega) c
  have h2 : 19 ^ c ≤ 19 ^ 7 := Nat.pow_le_pow_right (by decide) hc
  have h3 : (19 : Nat) ^ 7 = 893871739 := by decide
  omega
theorem fogUp_lt {T : Tw} {b t n : Nat} (hn : n ≤ 7) (ht : t ≤ 20) : fogUp T b t n < 2 ^ 62 := by
  have e := sumD_cong (f := fun c => chs n c * fg T b t c) (g := fun c => if c ≤ 7 then chs n c * fg T b t c else 0) (n + 1) (fun d hd => by rw [if_pos (show d ≤ 7 by omega)])
  have hb := sumD_le (f := fun c => if c ≤ 7 then chs n c * fg T b t c else 0) (c := 35 * 893871739) (fun d => by
    split
    · have h1 := chs_le n hn d (by omega)
      have h2 : fg T b t d ≤ 893871739 := by
        unfold fg
        split
        · omega
        · exact pow_le_19 ht (by omega)
      exact Nat.mul_le_mul h1 h2
    · omega) (n + 1)
  unfold fogUp
  rw [e]
  have : (35 * 893871739) * (n + 1) ≤ (35 * 893871739) * 8 := Nat.mul_le_mul_left _ (by omega)
  omega
theorem m_fogIn {M : G} {T : Tw} {b n t s : Nat} {w : Int32} (k104 : G → Int32 → Int32 → Int32 → Int32 → Int64 → Int64 → Int32 → Option (Int64 × G)) (up : Nat) (dn : Int64) (h : rM M T) (ho : rO M none) (hb : b < T 0 0) (hn : n ≤ 7) (hs : s < 256) (ht1 : 1 ≤ t) (ht : t ≤ 20) : ∃ N, bd (f_X7_thinks M) (fun _ u => f_X7_fog_122 k104 1000 u (nI b) (nI n) (nI t) w (lN up) dn (nI s) 1 0) = k104 N (nI b) (nI n) (nI t) w (lN (up + fg T b t (zc s n))) dn (nI (s + 1)) ∧ eqM 96 M N := by
  obtain ⟨N0, e0, k0, h0, o0⟩ := m_think h ho
  rw [e0, bd_s]
  refine loopR (fun fuel k (q : G) => f_X7_fog_122 k104 fuel q (nI b) (nI n) (nI t) w (lN up) dn (nI s) (lN ((t - 1) ^ zc s k)) (nI k)) (fun k q => (∃ U, rM q U ∧ eqd U (dN (zc s k) T)) ∧ frw 144 N0 q) n (fun r => ∃ N, r = k104 N (nI b) (nI n) (nI t) w (lN (up + fg T b t (zc s n))) dn (nI (s + 1)) ∧ eqM 96 M N) (fun f q hq => ?_) (fun f k q hk hq => Or.inr ?_) n 0 1000 N0 (by omega) (by omega) ⟨⟨T, h0, fun _ _ => rfl⟩, frw.rf _ _⟩
  · obtain ⟨⟨U, hU, hE⟩, hf⟩ := hq
    obtain ⟨R, e, z⟩ := m_forgets k0 hf
    refine ⟨R, ?_, z⟩
    have hb0 : b < U 0 0 := by rw [hE 0 (by decide), dN_k T (by decide) (by decide) (by decide)]; exact hb
    have last : ∀ x : Int64, f_X7_fog_184 k104 q (nI b) (nI n) (nI t) w dn (nI s) (lN up) x = k104 R (nI b) (nI n) (nI t) w (lN up + x) dn (nI (s + 1)) := by
      intro x
      unfold f_X7_fog_184
      rw [e, bd_s, nl1, nI_add]
    show b_X7_fog_122 _ _ q _ _ _ _ _ _ _ _ _ = _
    unfold b_X7_fog_122
    rw [if_pos (nI_le (Nat.le_refl _) (by omega)), m_hearers hU (rO_frw o0 hf) hb0, bd_s, last, last, lN_add, lN0, lN_add]
    simp only [silent_mk hU.2.2.2.2.2.2]
    unfold fg
    rw [silent_eqd hE]
    cases silent (dN (zc s n) T) b <;> simp
  · obtain ⟨⟨U, hU, hE⟩, hf⟩ := hq
    have ez : zc s (k + 1) = zc s k + (if (!s.testBit k) = true then 1 else 0) := rfl
    have hh := m_has (v := s) (i := k) (by omega) (by omega)
    show ∃ s', _ ∧ b_X7_fog_122 _ _ q _ _ _ _ _ _ _ _ _ = _
    unfold b_X7_fog_122 f_X7_fog_148
    rw [if_neg (nI_ge hk (by omega)), hh, bd_s, ifb, bd_s, show nI t - (1 : Int32) = nI (t - 1) from pk_sub (b := 1) ht1, nI_l (by omega), lN_mul, lN1, lN_mul, nl1, nI_add]
    cases y : s.testBit k with
    | true =>
      obtain ⟨N1, e1, h1, f1⟩ := m_foggy hU
      have e1' : f_X7_goesDay q (bI true) = some ((), N1) := e1
      refine ⟨N1, ⟨⟨fogT U, h1, fun j hj => ?_⟩, hf.tr f1 (by decide) (by decide)⟩, ?_⟩
      · rw [ez, y]
        show fogT U j = dN (zc s k) T j
        rw [← hE j hj]
        funext i
        simp [fogT, hj]
      · rw [e1', bd_s, ez, y]
        simp
    | false =>
      obtain ⟨N1, e1, h1, f1⟩ := m_goesDay hU
      have e1' : f_X7_goesDay q (bI false) = some ((), N1) := e1
      refine ⟨N1, ⟨⟨d1 U, h1, ?_⟩, hf.tr f1 (by decide) (by decide)⟩, ?_⟩
      · rw [ez, y]
        exact d1_eqd hE
      · rw [e1', bd_s, ez, y]
        simp [Nat.pow_succ, bd_s, e1']
theorem m_fog {M : G} {T : Tw} {b n t w : Nat} (h : rM M T) (ho : rO M none) (hb : b < T 0 0) (hn : n ≤ 7) (ht1 : 1 ≤ t) (ht : t ≤ 20) (hw : w ≤ 1) : ∃ N, f_X7_fog_59 M (nI b) (nI n) (nI t) (nI w) 0 = some (spPart (fogUp T b t n) (t ^ n) w, N) ∧ eqM 96 M N := by
  have hpw : 2 ^ n ≤ 2 ^ 7 := Nat.pow_le_pow_right (by decide) hn
  have htn : t ^ n ≤ 20 ^ 7 := Nat.le_trans (Nat.pow_le_pow_left ht n) (Nat.pow_le_pow_right (by decide) hn)
  have h20 : (20 : Nat) ^ 7 = 1280000000 := by decide
  have h0 : 0 < t ^ n := Nat.pow_pos ht1
  unfold f_X7_fog_59
  rw [if_pos rfl]
  have e1 : f_X7_fog_82 1000 M (nI b) (nI n) (nI t) (nI w) 0 1 0 = f_X7_fog_104 1000 M (nI b) (nI n) (nI t) (nI w) 0 (lN (t ^ n)) 0 := by
    refine loopE (fun fuel i => f_X7_fog_82 fuel M (nI b) (nI n) (nI t) (nI w) 0 (lN (t ^ i)) (nI i)) n _ (fun f => ?_) (fun f i hi => Or.inr ?_) 1000 0 (by omega) (by omega)
    · show b_X7_fog_82 _ M _ _ _ _ _ _ _ = _
      unfold b_X7_fog_82
      rw [if_pos (nI_le (Nat.le_refl _) (by omega))]
    · show b_X7_fog_82 _ M _ _ _ _ _ _ _ = _
      unfold b_X7_fog_82
      rw [if_neg (nI_ge hi (by omega)), nI_l (by omega), lN_mul, nl1, nI_add, Nat.pow_succ]
  rw [e1]
  have eU : fogUp T b t n = sumD (fun s => fg T b t (zc s n)) (2 ^ n) := by
    rw [sums_Sg n (fg T b t), Sg_chs hn]; rfl
  have hlt := fogUp_lt (T := T) (b := b) hn ht
  refine loopR (fun fuel i (q : G) => f_X7_fog_104 fuel q (nI b) (nI n) (nI t) (nI w) (lN (sumD (fun s => fg T b t (zc s n)) i)) (lN (t ^ n)) (nI i)) (fun _ q => eqM 96 M q) (2 ^ n) (fun r => ∃ N, r = some (spPart (fogUp T b t n) (t ^ n) w, N) ∧ eqM 96 M N) (fun f q hq => ?_) (fun f i q hi hq => Or.inr ?_) (2 ^ n) 0 1000 M (by omega) (by omega) (eqM.rf _ _)
  · refine ⟨q, ?_, hq⟩
    show b_X7_fog_104 _ q _ _ _ _ _ _ _ = _
    unfold b_X7_fog_104
    rw [sh1 n (by omega), if_pos (nI_le (Nat.le_refl _) (by omega)), ← eU, m_partOf hlt (by omega) h0 hw, bd_s]
  · obtain ⟨N, e, z⟩ := m_fogIn (w := nI w) (f_X7_fog_104 f) (sumD (fun s => fg T b t (zc s n)) i) (lN (t ^ n)) (h.eq hq) (rO_eq ho hq) hb hn (s := i) (by omega) ht1 ht
    refine ⟨N, hq.tr z (by decide) (by decide), ?_⟩
    show b_X7_fog_104 _ q _ _ _ _ _ _ _ = _
    unfold b_X7_fog_104
    rw [sh1 n (by omega), if_neg (nI_ge hi (by omega))]
    exact e
