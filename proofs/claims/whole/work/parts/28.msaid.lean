/-! the hour, on both sides -/
theorem m_saysOf {M : G} {T : Tw} {o : Option Nat} {p b : Nat} (h : rM M T) (ho : rO M o) (hp : p < T 3 0) (hb : b < T 0 0) : f_X7_saysOf M (nI p) (nI b) = some (if hO o T p b = true then nI (sayH T p b) else -9, M) := by
  have hh := m_hears h ho hp hb
  obtain ⟨-, -, -, -, hbb, hpp, ok⟩ := h
  obtain ⟨h4, h5, -, -⟩ := hpp p hp
  obtain ⟨o4, o5, -, -⟩ := ok.2.2.2.2.2 p hp
  have hr := (ok.2.2.2.2.1 b hb).1
  unfold f_X7_saysOf
  rw [hh, bd_s, ifb]
  by_cases q : hO o T p b = true
  · rw [if_pos q, if_pos q, ckn (ok_p ok hp) (by decide), ckn (ok_b ok hb) (by decide), cln (by have := ok_p ok hp; omega), cln (by have := ok_b ok hb; omega), h4, h5, (hbb b hb).1]
    unfold sayH later
    rcases six ok hp with e | e | e | e | e | e <;> rw [e] <;> simp (decide := true) only [if_true, if_false]
    · rw [Nat.add_zero, Nat.mod_eq_of_lt hr]
    · rw [Nat.add_zero, Nat.mod_eq_of_lt hr]
    · rw [Nat.add_zero, Nat.mod_eq_of_lt hr]
    · rw [nl1, nl24, nI_add, remN (by omega) (by decide) (by decide)]
    · rw [nl24, nI_add, remN (by omega) (by decide) (by decide)]
    · rw [Nat.add_zero, Nat.mod_eq_of_lt hr]
  · rw [if_neg q, if_neg q]
theorem m_hearers {M : G} {T : Tw} {o : Option Nat} {b : Nat} (h : rM M T) (ho : rO M o) (hb : b < T 0 0) : f_X7_hearers M (nI b) = some (nI (mk (fun p => hO o T p b) (T 3 0)), M) := by
  have ok := h.2.2.2.2.2.2
  have h8 := ok.2.1
  unfold f_X7_hearers
  refine loopE (fun fuel i => f_X7_hearers_4 fuel M (nI b) (nI (mk (fun p => hO o T p b) i)) (nI i)) (T 3 0) _ (fun f => ?_) (fun f i hi => Or.inr ?_) 1000 0 (by omega) (by omega)
  · show b_X7_hearers_4 _ M _ _ _ = _
    unfold b_X7_hearers_4
    rw [h.2.1, if_pos (nI_le (Nat.le_refl _) (by omega))]
  · show b_X7_hearers_4 _ M _ _ _ = _
    unfold b_X7_hearers_4
    rw [h.2.1, if_neg (nI_ge hi (by omega)), m_hears h ho hi hb, bd_s, ifb, sh1 i (by omega), orN, mk_or, nl1, nI_add, nl0, orN, Nat.or_zero]
    simp only [mk, lt_s']
    rcases Bool.eq_false_or_eq_true (hO o T i b) with q | q <;> simp [q]
def hsO (o : Option Nat) (T : Tw) (p : Nat) : Bool := anyB (hO o T p) (T 0 0)
theorem hsO_none (T : Tw) (p : Nat) : hsO none T p = hsome T p := by
  unfold hsO hsome
  exact anyB_cong _ (fun i _ => hO_none T p i)
theorem m_hearsSome {M : G} {T : Tw} {o : Option Nat} {p : Nat} (h : rM M T) (ho : rO M o) (hp : p < T 3 0) : f_X7_hearsSome M (nI p) = some (bI (hsO o T p), M) := by
  have ok := h.2.2.2.2.2.2
  have h6 := ok.1
  have key := loopE (fun fuel i => f_X7_hearsSome_2 fuel M (nI p) (nI i))
  unfold f_X7_hearsSome hsO
  cases q : anyB (hO o T p) (T 0 0) with
  | false =>
    have hno := (anyB_not _ _).mp q
    refine key (T 0 0) _ (fun f => ?_) (fun f i hi => Or.inr ?_) 1000 0 (by omega) (by omega)
    · show b_X7_hearsSome_2 _ M _ _ = _
      unfold b_X7_hearsSome_2
      rw [h.1, if_pos (nI_le (Nat.le_refl _) (by omega))]; rfl
    · show b_X7_hearsSome_2 _ M _ _ = _
      unfold b_X7_hearsSome_2
      rw [h.1, if_neg (nI_ge hi (by omega)), m_hears h ho hp hi, bd_s, hno i hi, ifb, if_neg (by decide), nl1, nI_add]
  | true =>
    obtain ⟨j, hj, hP⟩ := (anyB_iff _ _).mp q
    have hy : fi (hO o T p) (T 0 0) < T 0 0 := by
      rcases Nat.lt_or_ge (fi (hO o T p) (T 0 0)) (T 0 0) with z | z
      · exact z
      · have := fi_no (hO o T p) (T 0 0) j (by omega)
        rw [hP] at this; cases this
    refine key (fi (hO o T p) (T 0 0)) _ (fun f => ?_) (fun f i hi => Or.inr ?_) 1000 0 (by omega) (by omega)
    · show b_X7_hearsSome_2 _ M _ _ = _
      unfold b_X7_hearsSome_2
      rw [h.1, if_neg (nI_ge hy (by omega)), m_hears h ho hp hy, bd_s, fi_yes _ _ hy, ifb, if_pos rfl]; rfl
    · show b_X7_hearsSome_2 _ M _ _ = _
      unfold b_X7_hearsSome_2
      rw [h.1, if_neg (nI_ge (by omega) (by omega)), m_hears h ho hp (by omega), bd_s, fi_no _ _ i hi, ifb, if_neg (by decide), nl1, nI_add]
theorem m_manyHear {M : G} {T : Tw} {o : Option Nat} (h : rM M T) (ho : rO M o) : f_X7_manyHear M = some (nI (ct (hsO o T) (T 3 0)), M) := by
  have ok := h.2.2.2.2.2.2
  have h8 := ok.2.1
  unfold f_X7_manyHear
  refine loopE (fun fuel i => f_X7_manyHear_4 fuel M (nI (ct (hsO o T) i)) (nI i)) (T 3 0) _ (fun f => ?_) (fun f i hi => Or.inr ?_) 1000 0 (by omega) (by omega)
  · show b_X7_manyHear_4 _ M _ _ = _
    unfold b_X7_manyHear_4
    rw [h.2.1, if_pos (nI_le (Nat.le_refl _) (by omega))]
  · show b_X7_manyHear_4 _ M _ _ = _
    unfold b_X7_manyHear_4
    rw [h.2.1, if_neg (nI_ge hi (by omega)), m_hearsSome h ho hi, bd_s, ifb, nl1, nl0, nI_add, nI_add, nI_add]
    simp only [ct]
    rcases Bool.eq_false_or_eq_true (hsO o T i) with q | q <;> simp [q]
def sumS (T : Tw) : Nat → Nat
  | 0 => 0
  | i + 1 => sumS T i + T 6 i
theorem sumS_le {T : Tw} (ok : okT T) : ∀ n, n ≤ T 3 0 → sumS T n ≤ 99 * n
  | 0, _ => Nat.le_refl 0
  | n + 1, h => by
    have := sumS_le ok n (by omega)
    have := (ok.2.2.2.2.2 n (by omega)).2.2.1
    simp only [sumS]
    omega
theorem m_allSlept {M : G} {T : Tw} (h : rM M T) : f_X7_allSlept M = some (nI (sumS T (T 3 0)), M) := by
  have ok := h.2.2.2.2.2.2
  have h8 := ok.2.1
  unfold f_X7_allSlept
  refine loopE (fun fuel i => f_X7_allSlept_4 fuel M (nI (sumS T i)) (nI i)) (T 3 0) _ (fun f => ?_) (fun f i hi => Or.inr ?_) 1000 0 (by omega) (by omega)
  · show b_X7_allSlept_4 _ M _ _ = _
    unfold b_X7_allSlept_4
    rw [h.2.1, if_pos (nI_le (Nat.le_refl _) (by omega))]
  · show b_X7_allSlept_4 _ M _ _ = _
    unfold b_X7_allSlept_4
    rw [h.2.1, if_neg (nI_ge hi (by omega)), ckn (ok_p ok hi) (by decide), cln (by omega), (h.2.2.2.2.2.1 i hi).2.2.1, if_pos rfl, lt_s', nl1, nI_add, nI_add]
    rfl
theorem t_allSlept {S : G} {T : Tw} (h : rT S T) : f_X4_allSlept S = some (nI (sumS T (T 3 0)), S) := by
  have ok := h.2.2.2.2.2.2
  have h8 := ok.2.1
  unfold f_X4_allSlept
  refine loopE (fun fuel i => f_X4_allSlept_4 fuel S (nI (sumS T i)) (nI i)) (T 3 0) _ (fun f => ?_) (fun f i hi => Or.inr ?_) 1000 0 (by omega) (by omega)
  · show b_X4_allSlept_4 _ S _ _ = _
    unfold b_X4_allSlept_4
    rw [h.2.1, if_pos (nI_le (Nat.le_refl _) (by omega))]
  · show b_X4_allSlept_4 _ S _ _ = _
    unfold b_X4_allSlept_4
    rw [h.2.1, if_neg (nI_ge hi (by omega)), ckn (ok_p ok hi) (by decide), cln (by omega), (h.2.2.2.2.2.1 i hi).2.2.1, if_pos rfl, lt_s', nl1, nI_add, nI_add]
    rfl
theorem m_manySay {M : G} {T : Tw} {o : Option Nat} {b hh : Nat} (h : rM M T) (ho : rO M o) (hb : b < T 0 0) (h24 : hh < 24) : f_X7_manySay M (nI b) (nI hh) = some (nI (ch T (fun p => hO o T p b) b hh), M) := by
  have ok := h.2.2.2.2.2.2
  have h8 := ok.2.1
  unfold f_X7_manySay
  refine loopE (fun fuel i => f_X7_manySay_5 fuel M (nI b) (nI hh) (nI (ct (fun p => hO o T p b && decide (sayH T p b = hh)) i)) (nI i)) (T 3 0) _ (fun f => ?_) (fun f i hi => Or.inr ?_) 1000 0 (by omega) (by omega)
  · show b_X7_manySay_5 _ M _ _ _ _ = _
    unfold b_X7_manySay_5
    rw [h.2.1, if_pos (nI_le (Nat.le_refl _) (by omega))]; rfl
  · show b_X7_manySay_5 _ M _ _ _ _ = _
    unfold b_X7_manySay_5
    have hs : sayH T i b < 24 := Nat.mod_lt _ (by decide)
    rw [h.2.1, if_neg (nI_ge hi (by omega)), m_saysOf h ho hi hb, bd_s, nl1, nl0, nI_add, nI_add, nI_add]
    simp only [ct]
    by_cases q : hO o T i b = true
    · rw [if_pos q]
      simp only [nI_eq (show sayH T i b < 2 ^ 31 by omega) (show hh < 2 ^ 31 by omega)]
      by_cases e : sayH T i b = hh <;> simp [q, e]
    · have ne : ∀ k, k < 24 → ¬ (-9 : Int32) = nI k := by decide
      rw [if_neg q, if_neg (ne hh h24)]
      simp [q]
theorem m_saidOf {M : G} {T : Tw} {o : Option Nat} {b : Nat} (h : rM M T) (ho : rO M o) (hb : b < T 0 0) : f_X7_saidOf M (nI b) = some (saidI T (fun p => hO o T p b) b, M) := by
  have ok := h.2.2.2.2.2.2
  have h8 := ok.2.1
  unfold f_X7_saidOf
  refine loopE (fun fuel i => f_X7_saidOf_4 fuel M (nI b) (nI (bestH (ch T (fun p => hO o T p b) b) i)) (nI (i + 1))) 23 _ (fun f => ?_) (fun f i hi => Or.inr ?_) 1000 0 (by omega) (by omega)
  · show b_X7_saidOf_4 _ M _ _ _ = _
    unfold b_X7_saidOf_4
    have hlt := mk_lt (fun p => hO o T p b) (T 3 0)
    have hpw : 2 ^ (T 3 0) ≤ 2 ^ 8 := Nat.pow_le_pow_right (by decide) h8
    rw [if_pos (show (24 : Int32) ≤ nI (23 + 1) by decide), m_hearers h ho hb, bd_s, nl0]
    simp only [nI_eq (show mk (fun p => hO o T p b) (T 3 0) < 2 ^ 31 by omega) (show 0 < 2 ^ 31 by decide), mk_0]
    unfold saidI
    cases q : anyB (fun p => hO o T p b) (T 3 0) <;> simp
  · show b_X7_saidOf_4 _ M _ _ _ = _
    unfold b_X7_saidOf_4
    have hbe := bestH_le (ch T (fun p => hO o T p b) b) i
    have l1 : ch T (fun p => hO o T p b) b (i + 1) ≤ T 3 0 := ct_le _ _
    have l2 : ch T (fun p => hO o T p b) b (bestH (ch T (fun p => hO o T p b) b) i) ≤ T 3 0 := ct_le _ _
    rw [if_neg (show ¬ (24 : Int32) ≤ nI (i + 1) from nI_ge (b := 24) (by omega) (by decide)), m_manySay h ho hb (by omega), bd_s, m_manySay h ho hb (by omega), bd_s, nl1, nI_add]
    simp only [bestH]
    by_cases c : ch T (fun p => hO o T p b) b (i + 1) ≤ ch T (fun p => hO o T p b) b (bestH (ch T (fun p => hO o T p b) b) i)
    · rw [if_pos (nI_le c (by omega)), if_pos c]
    · rw [if_neg (nI_ge (by omega) (by omega)), if_neg c]
/-- the town takes it rightly -/
def tru (T : Tw) (A : Nat → Bool) (b : Nat) : Bool := anyB A (T 3 0) && decide (bestH (ch T A b) 23 = T 1 b)
theorem said_eq {T : Tw} {A : Nat → Bool} {b : Nat} (ok : okT T) (hb : b < T 0 0) : saidI T A b = nI (T 1 b) ↔ tru T A b = true := by
  have hr := (ok.2.2.2.2.1 b hb).1
  have hbe := bestH_le (ch T A b) 23
  unfold saidI tru
  cases q : anyB A (T 3 0) with
  | false =>
    have ne : ∀ k, k < 24 → ¬ (-9 : Int32) = nI k := by decide
    simp [ne _ hr]
  | true =>
    simp [nI_eq (show bestH (ch T A b) 23 < 2 ^ 31 by omega) (show T 1 b < 2 ^ 31 by omega)]
theorem m_isTrue {M : G} {T : Tw} {o : Option Nat} {b : Nat} (h : rM M T) (ho : rO M o) (hb : b < T 0 0) : f_X7_isTrue M (nI b) = some (bI (tru T (fun p => hO o T p b) b), M) := by
  have ok := h.2.2.2.2.2.2
  unfold f_X7_isTrue
  rw [m_saidOf h ho hb, bd_s, ckn (ok_b ok hb) (by decide), cln (by have := ok_b ok hb; omega), (h.2.2.2.2.1 b hb).1, if_pos rfl]
  simp only [said_eq ok hb]
  cases q : tru T (fun p => hO o T p b) b <;> simp <;> rfl
def rg (T : Tw) (b : Nat) : Bool := decide (T 8 0 % T 2 b = 0)
theorem m_ringsNow {M : G} {T : Tw} {b : Nat} (h : rM M T) (hb : b < T 0 0) (hd : T 8 0 < 1000000) : f_X7_ringsNow M (nI b) = some (bI (rg T b), M) := by
  have ok := h.2.2.2.2.2.2
  obtain ⟨-, o1, o2⟩ := ok.2.2.2.2.1 b hb
  have hm : T 8 0 % T 2 b < T 2 b := Nat.mod_lt _ o1
  unfold f_X7_ringsNow rg
  rw [ckn (ok_b ok hb) (by decide), cln (by have := ok_b ok hb; omega), (h.2.2.2.2.1 b hb).2, h.2.2.1, if_pos rfl, if_neg (nI_ne0 (by omega) (by omega)), remN (by omega) (by omega) (by omega), nl0]
  simp only [nI_eq (show T 8 0 % T 2 b < 2 ^ 31 by omega) (show 0 < 2 ^ 31 by decide)]
  by_cases c : T 8 0 % T 2 b = 0 <;> simp [c] <;> rfl
theorem t_isRinging {S : G} {T : Tw} {b : Nat} (h : rT S T) (hb : b < T 0 0) (hd : T 8 0 < 1000000) : f_X4_isRinging S (nI b) = some (bI (rg T b), S) := by
  have ok := h.2.2.2.2.2.2
  obtain ⟨-, o1, o2⟩ := ok.2.2.2.2.1 b hb
  have hm : T 8 0 % T 2 b < T 2 b := Nat.mod_lt _ o1
  unfold f_X4_isRinging rg
  rw [ckn (ok_b ok hb) (by decide), cln (by have := ok_b ok hb; omega), (h.2.2.2.2.1 b hb).2, h.2.2.1, if_pos rfl, if_pos rfl, if_neg (nI_nle (by omega) (by omega)), if_neg (nI_ne0 (by omega) (by omega)), remN (by omega) (by omega) (by omega), nl0]
  simp only [nI_eq (show T 8 0 % T 2 b < 2 ^ 31 by omega) (show 0 < 2 ^ 31 by decide)]
  by_cases c : T 8 0 % T 2 b = 0 <;> simp [c] <;> rfl
/-! the class's way to the hour -/
theorem hr_inj {h l k : Nat} (hh : h < 24) (hl : l ≤ 9) (hk : k ≤ 9) (e : (h + l) % 24 = (h + k) % 24) : l = k := by omega
theorem ch_late {T : Tw} {A : Nat → Bool} {b l : Nat} (ok : okT T) (hb : b < T 0 0) (hl : l ≤ 9) : ch T A b ((T 1 b + l) % 24) = cl T A (T 3 0) l := by
  have hr := (ok.2.2.2.2.1 b hb).1
  unfold ch cl
  refine ct_cong _ (fun p hp => ?_)
  have hlp := later_le ok hp
  unfold sayH
  by_cases c : later T p = l
  · simp [c]
  · have : ¬ (T 1 b + later T p) % 24 = (T 1 b + l) % 24 := fun z => c (hr_inj hr hlp hl z)
    simp [c, this]
theorem ct_pos {f : Nat → Bool} : ∀ n, 0 < ct f n → ∃ i, i < n ∧ f i = true
  | 0, h => absurd h (Nat.lt_irrefl 0)
  | n + 1, h => by
    simp only [ct] at h
    by_cases q : f n = true
    · exact ⟨n, by omega, q⟩
    · rw [if_neg q] at h
      obtain ⟨i, hi, z⟩ := ct_pos n h
      exact ⟨i, by omega, z⟩
theorem ct_yes {f : Nat → Bool} : ∀ n i, i < n → f i = true → 0 < ct f n
  | 0, i, h, _ => absurd h (Nat.not_lt_zero i)
  | n + 1, i, h, q => by
    simp only [ct]
    rcases Nat.lt_or_ge i n with z | z
    · have := ct_yes n i z q
      omega
    · have : i = n := by omega
      subst this
      rw [if_pos q]; omega
def invS (T : Tw) (A : Nat → Bool) (b k : Nat) (q : Int32 × Nat) : Prop := (q.1 = -9 ∧ q.2 = 0 ∧ ∀ l, l < k → cl T A (T 3 0) l = 0) ∨ (∃ l0, l0 < k ∧ q.1 = nI ((T 1 b + l0) % 24) ∧ q.2 = cl T A (T 3 0) l0 ∧ 0 < q.2 ∧ ∀ l, l < k → cl T A (T 3 0) l ≤ q.2 ∧ (cl T A (T 3 0) l = q.2 → (T 1 b + l0) % 24 ≤ (T 1 b + l) % 24))
theorem invS_end {T : Tw} {A : Nat → Bool} {b : Nat} {q : Int32 × Nat} (ok : okT T) (hb : b < T 0 0) (h : invS T A b 10 q) : q.1 = saidI T A b := by
  have hr := (ok.2.2.2.2.1 b hb).1
  unfold saidI
  rcases h with ⟨h1, h2, h3⟩ | ⟨l0, h0, h1, h2, h3, h4⟩
  · have : anyB A (T 3 0) = false := by
      rw [anyB_not]
      intro p hp
      cases z : A p with
      | false => rfl
      | true =>
        have hl := later_le ok hp
        have e := h3 (later T p) (by omega)
        have : 0 < cl T A (T 3 0) (later T p) := ct_yes _ p hp (by simp [z])
        omega
    rw [this, h1]; rfl
  · have hany : anyB A (T 3 0) = true := by
      rw [h2] at h3
      obtain ⟨p, hp, z⟩ := ct_pos _ h3
      simp at z
      exact (anyB_iff _ _).mpr ⟨p, hp, z.1⟩
    rw [if_pos hany, h1]
    congr 1
    symm
    have hc : ch T A b ((T 1 b + l0) % 24) = q.2 := by rw [ch_late ok hb (by omega), h2]
    have back : ∀ k, 0 < ch T A b k → ∃ l, l ≤ 9 ∧ k = (T 1 b + l) % 24 := by
      intro k hk
      obtain ⟨p, hp, z⟩ := ct_pos _ hk
      simp at z
      exact ⟨later T p, later_le ok hp, z.2.symm⟩
    refine bestH_eq (by omega) (fun k hk => ?_) (fun k hk => ?_)
    · rw [hc]
      rcases Nat.eq_zero_or_pos (ch T A b k) with z | z
      · omega
      · obtain ⟨l, hl, e⟩ := back k z
        rw [e, ch_late ok hb hl]
        exact (h4 l (by omega)).1
    · rw [hc]
      rcases Nat.eq_zero_or_pos (ch T A b k) with z | z
      · omega
      · obtain ⟨l, hl, e⟩ := back k z
        rw [e, ch_late ok hb hl]
        obtain ⟨g1, g2⟩ := h4 l (by omega)
        rcases Nat.eq_or_lt_of_le g1 with y | y
        · have := g2 y
          omega
        · exact y
theorem t_saidOf {S : G} {T : Tw} {b m : Nat} (h : rT S T) (hb : b < T 0 0) (hm : m < 256) : f_X4_saidOf S (nI b) (nI m) = some (saidI T (fun p => m.testBit p) b, S) := by
  have ok := h.2.2.2.2.2.2
  have h8 := ok.2.1
  have hr := (ok.2.2.2.2.1 b hb).1
  have hvo := vo_vh (T := T) (A := fun p => m.testBit p) (T 3 0) (fun p hp => later_le ok hp)
  have hd16 : ∀ l, cl T (fun p => m.testBit p) (T 3 0) l < 16 := fun l => by have := cl_le T (fun p => m.testBit p) (T 3 0) l; omega
  have hV : vo T (fun p => m.testBit p) (T 3 0) < 2 ^ 62 := by
    rw [hvo]
    exact Nat.lt_trans (vh_lt 10 _ hd16) (by decide)
  unfold f_X4_saidOf
  refine loopE (fun fuel i => f_X4_saidOf_5 fuel S (nI b) (nI m) (lN (vo T (fun p => m.testBit p) i)) (nI i)) (T 3 0) _ (fun f => ?_) (fun f i hi => Or.inr ?_) 1000 0 (by omega) (by omega)
  · show b_X4_saidOf_5 _ S _ _ _ _ = _
    unfold b_X4_saidOf_5
    rw [h.2.1, if_pos (nI_le (Nat.le_refl _) (by omega))]
    refine loopR (fun fuel i (q : Int32 × Nat) => f_X4_saidOf_52 fuel S (nI b) (lN (vo T (fun p => m.testBit p) (T 3 0))) q.1 (nI q.2) (nI i)) (invS T (fun p => m.testBit p) b) 10 (fun r => r = some (saidI T (fun p => m.testBit p) b, S)) (fun f q hq => ?_) (fun f i q hi hq => Or.inr ?_) 10 0 1000 (-9, 0) (by omega) (by omega) (Or.inl ⟨rfl, rfl, fun l hl => absurd hl (Nat.not_lt_zero l)⟩)
    · show b_X4_saidOf_52 _ S _ _ _ _ _ = _
      unfold b_X4_saidOf_52
      rw [if_pos (show (9 : Int32) < nI 10 by decide), invS_end ok hb hq]
    · have hdi : vo T (fun p => m.testBit p) (T 3 0) / 16 ^ i % 16 = cl T (fun p => m.testBit p) (T 3 0) i := by
        rw [hvo]; exact vh_dig 10 i _ hd16 hi
      have hcl := cl_le T (fun p => m.testBit p) (T 3 0) i
      show ∃ s', _ ∧ b_X4_saidOf_52 _ S _ _ _ _ _ = _
      unfold b_X4_saidOf_52
      have hv83 : (nI (T 1 b) + nI i) - (nI (T 1 b) + nI i) / 24 * 24 = nI ((T 1 b + i) % 24) := by rw [nI_add, nl24, remN (by omega) (by decide) (by decide)]
      have h24 : (T 1 b + i) % 24 < 24 := Nat.mod_lt _ (by decide)
      rw [if_neg (show ¬ (9 : Int32) < nI i from nI_nlt (a := 9) (b := i) (by omega) (by decide)), dig16 hV hi, hdi, ckn (ok_b ok hb) (by decide), cln (by have := ok_b ok hb; omega), (h.2.2.2.2.1 b hb).1]
      simp only [lt_s', if_true]
      rw [if_neg (show ¬ (24 : Int32) = 0 by decide), hv83, nl1, nI_add]
      have m9 : ∀ k, k < 24 → (-9 : Int32) ≤ nI k := by decide
      rcases hq with ⟨h1, h2, h3⟩ | ⟨l0, g0, g1, g2, g3, g4⟩
      · rw [h1, h2]
        rcases Nat.eq_zero_or_pos (cl T (fun p => m.testBit p) (T 3 0) i) with z | z
        · rw [z, if_neg (by decide), if_pos rfl, if_pos (m9 _ h24)]
          refine ⟨(-9, 0), Or.inl ⟨rfl, rfl, fun l hl => ?_⟩, rfl⟩
          rcases Nat.lt_or_ge l i with y | y
          · exact h3 l y
          · rw [show l = i by omega]; exact z
        · rw [if_pos (nI_lt z (by omega))]
          refine ⟨(nI ((T 1 b + i) % 24), cl T (fun p => m.testBit p) (T 3 0) i), Or.inr ⟨i, by omega, rfl, rfl, z, fun l hl => ?_⟩, rfl⟩
          rcases Nat.lt_or_ge l i with y | y
          · rw [h3 l y]
            exact ⟨Nat.zero_le _, fun e => absurd e (by show ¬ 0 = cl T _ (T 3 0) i; omega)⟩
          · rw [show l = i by omega]
            exact ⟨Nat.le_refl _, fun _ => Nat.le_refl _⟩
      · have hq2 : q.2 ≤ T 3 0 := by rw [g2]; exact cl_le _ _ _ _
        have k24 : (T 1 b + l0) % 24 < 24 := Nat.mod_lt _ (by decide)
        rcases Nat.lt_trichotomy (cl T (fun p => m.testBit p) (T 3 0) i) q.2 with z | z | z
        · rw [if_neg (nI_nlt (by omega) (by omega)), if_neg (fun e => by rw [nI_eq (by omega) (by omega)] at e; omega)]
          refine ⟨q, Or.inr ⟨l0, by omega, g1, g2, g3, fun l hl => ?_⟩, rfl⟩
          rcases Nat.lt_or_ge l i with y | y
          · exact g4 l y
          · rw [show l = i by omega]
            exact ⟨by omega, fun e => by omega⟩
        · rw [z, if_neg (nI_nlt (Nat.le_refl _) (by omega)), if_pos rfl, g1]
          by_cases c : (T 1 b + l0) % 24 ≤ (T 1 b + i) % 24
          · rw [if_pos (nI_le c (by omega))]
            refine ⟨q, Or.inr ⟨l0, by omega, g1, g2, g3, fun l hl => ?_⟩, by rw [g1]⟩
            rcases Nat.lt_or_ge l i with y | y
            · exact g4 l y
            · rw [show l = i by omega]
              exact ⟨by omega, fun _ => c⟩
          · rw [if_neg (nI_ge (by omega) (by omega))]
            refine ⟨(nI ((T 1 b + i) % 24), q.2), Or.inr ⟨i, by omega, rfl, z.symm, g3, fun l hl => ?_⟩, rfl⟩
            rcases Nat.lt_or_ge l i with y | y
            · obtain ⟨x1, x2⟩ := g4 l y
              exact ⟨x1, fun e => by have := x2 e; omega⟩
            · rw [show l = i by omega]
              exact ⟨by show _ ≤ q.2; omega, fun _ => Nat.le_refl _⟩
        · rw [if_pos (nI_lt z (by omega))]
          refine ⟨(nI ((T 1 b + i) % 24), cl T (fun p => m.testBit p) (T 3 0) i), Or.inr ⟨i, by omega, rfl, rfl, by show 0 < cl T _ (T 3 0) i; omega, fun l hl => ?_⟩, rfl⟩
          rcases Nat.lt_or_ge l i with y | y
          · obtain ⟨x1, x2⟩ := g4 l y
            exact ⟨by show _ ≤ cl T _ (T 3 0) i; omega, fun e => absurd e (by show ¬ _ = cl T _ (T 3 0) i; omega)⟩
          · rw [show l = i by omega]
            exact ⟨Nat.le_refl _, fun _ => Nat.le_refl _⟩
  · show b_X4_saidOf_5 _ S _ _ _ _ = _
    unfold b_X4_saidOf_5
    have hl := later_le ok hi
    rw [h.2.1, if_neg (nI_ge hi (by omega)), bitN (by omega) (by omega), ifb, t_hoursLater h hi, bd_s, sh16 _ (by omega), lN_add, lt_s', nl1, nI_add]
    simp only [vo]
    rcases Bool.eq_false_or_eq_true (m.testBit i) with q | q <;> simp [q]
