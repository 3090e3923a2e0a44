/-! a town, as numbers: 0 bells, 1 hour, 2 every, 3 people, 4 kind, 5 figure, 6 slept, 7 away, 8 day, 9 beds -/
abbrev Tw : Type := Nat → Nat → Nat
def okT (T : Tw) : Prop := T 0 0 ≤ 6 ∧ T 3 0 ≤ 8 ∧ 1 ≤ T 9 0 ∧ T 9 0 ≤ 8 ∧ (∀ b, b < T 0 0 → T 1 b < 24 ∧ 1 ≤ T 2 b ∧ T 2 b ≤ 9) ∧ (∀ p, p < T 3 0 → T 4 p ≤ 5 ∧ T 5 p ≤ 9 ∧ T 6 p ≤ 99 ∧ T 7 p ≤ 9)
def rT (S : G) (T : Tw) : Prop := S.1 0 = nI (T 0 0) ∧ S.1 3 = nI (T 3 0) ∧ S.1 8 = nI (T 8 0) ∧ S.1 9 = nI (T 9 0) ∧ (∀ b, b < T 0 0 → S.2 1 b = nI (T 1 b) ∧ S.2 2 b = nI (T 2 b)) ∧ (∀ p, p < T 3 0 → S.2 4 p = nI (T 4 p) ∧ S.2 5 p = nI (T 5 p) ∧ S.2 6 p = nI (T 6 p) ∧ S.2 7 p = nI (T 7 p)) ∧ okT T
def nights (T : Tw) (p : Nat) : Nat := if T 4 p = 1 then 0 else if T 4 p = 2 then 9 + T 5 p else if T 4 p = 3 then 2 * (9 + T 5 p) else if T 4 p = 5 then 0 else 9
def later (T : Tw) (p : Nat) : Nat := if T 4 p = 3 then 1 else if T 4 p = 4 then T 5 p else 0
def hears (T : Tw) (p b : Nat) : Bool := decide (T 7 p = 0) && (decide (T 6 p < nights T p) || (decide (T 4 p = 5) && decide (T 1 b = 4)))
def hsome (T : Tw) (p : Nat) : Bool := anyB (hears T p) (T 0 0)
def sayH (T : Tw) (p b : Nat) : Nat := (T 1 b + later T p) % 24
theorem six {T : Tw} (h : okT T) {p : Nat} (hp : p < T 3 0) : T 4 p = 0 ∨ T 4 p = 1 ∨ T 4 p = 2 ∨ T 4 p = 3 ∨ T 4 p = 4 ∨ T 4 p = 5 := by
  have := (h.2.2.2.2.2 p hp).1
  omega
theorem nights_le {T : Tw} (h : okT T) {p : Nat} (hp : p < T 3 0) : nights T p ≤ 36 := by
  have := h.2.2.2.2.2 p hp
  unfold nights
  repeat' split
  all_goals omega
theorem later_le {T : Tw} (h : okT T) {p : Nat} (hp : p < T 3 0) : later T p ≤ 9 := by
  have := h.2.2.2.2.2 p hp
  unfold later
  repeat' split
  all_goals omega
theorem t_nightsOf {S : G} {T : Tw} {p : Nat} (h : rT S T) (hp : p < T 3 0) : f_X4_nightsOf S (nI p) = some (nI (nights T p), S) := by
  obtain ⟨-, -, -, -, -, hpp, ok⟩ := h
  obtain ⟨h4, h5, -, -⟩ := hpp p hp
  have hp8 : p < 8 := Nat.lt_of_lt_of_le hp ok.2.1
  have o5 := (ok.2.2.2.2.2 p hp).2.1
  unfold f_X4_nightsOf nights
  rw [ckn hp8 (by decide), cln (by omega), h4, h5]
  rcases six ok hp with e | e | e | e | e | e <;> rw [e]
  · rfl
  · rfl
  · simp (decide := true) only [if_true, if_false]
    rw [nl9, nI_add]
  · simp (decide := true) only [if_true, if_false]
    rw [nl9, nl2, nI_add, pk_mul]
  · rfl
  · rfl
theorem t_hoursLater {S : G} {T : Tw} {p : Nat} (h : rT S T) (hp : p < T 3 0) : f_X4_hoursLater S (nI p) = some (nI (later T p), S) := by
  obtain ⟨-, -, -, -, -, hpp, ok⟩ := h
  obtain ⟨h4, h5, -, -⟩ := hpp p hp
  have hp8 : p < 8 := Nat.lt_of_lt_of_le hp ok.2.1
  unfold f_X4_hoursLater later
  rw [ckn hp8 (by decide), cln (by omega), h4, h5]
  rcases six ok hp with e | e | e | e | e | e <;> rw [e] <;> rfl
theorem t_hearsIt {S : G} {T : Tw} {p b : Nat} (h : rT S T) (hp : p < T 3 0) (hb : b < T 0 0) : f_X4_hearsIt S (nI p) (nI b) = some (bI (hears T p b), S) := by
  have hn := t_nightsOf h hp
  obtain ⟨-, -, -, -, hbb, hpp, ok⟩ := h
  obtain ⟨h4, h5, h6, h7⟩ := hpp p hp
  obtain ⟨o4, o5, o6, o7⟩ := ok.2.2.2.2.2 p hp
  have hp8 : p < 8 := Nat.lt_of_lt_of_le hp ok.2.1
  have hb6 : b < 6 := Nat.lt_of_lt_of_le hb ok.1
  have hnl := nights_le ok hp
  have hh := (ok.2.2.2.2.1 b hb).1
  unfold f_X4_hearsIt hears
  rw [hn, ckn hp8 (by decide), ckn hb6 (by decide), cln (by omega), cln (by omega)]
  simp only [bd_s, if_true]
  rw [h4, h6, h7, (hbb b hb).1]
  simp only [nl0, nl4, nl5, nI_leI (show T 7 p < 2 ^ 31 by omega) (show 0 < 2 ^ 31 by omega), nI_ltI (show T 6 p < 2 ^ 31 by omega) (show nights T p < 2 ^ 31 by omega), nI_eq (show T 4 p < 2 ^ 31 by omega) (show 5 < 2 ^ 31 by omega), nI_eq (show T 1 b < 2 ^ 31 by omega) (show 4 < 2 ^ 31 by omega)]
  by_cases c7 : T 7 p = 0
  · by_cases c6 : T 6 p < nights T p
    · simp [c7, c6, bI] <;> rfl
    · by_cases c4 : T 4 p = 5
      · by_cases c1 : T 1 b = 4
        · simp [c7, c6, c4, c1, bI] <;> rfl
        · simp [c7, c6, c4, c1, bI] <;> rfl
      · simp [c7, c6, c4, bI] <;> rfl
  · have : ¬ T 7 p ≤ 0 := by omega
    simp [c7, this, bI] <;> rfl
theorem ok_p {T : Tw} (h : okT T) {p : Nat} (hp : p < T 3 0) : p < 8 := Nat.lt_of_lt_of_le hp h.2.1
theorem ok_b {T : Tw} (h : okT T) {b : Nat} (hb : b < T 0 0) : b < 6 := Nat.lt_of_lt_of_le hb h.1
theorem t_hourBy {S : G} {T : Tw} {p b : Nat} (h : rT S T) (hp : p < T 3 0) (hb : b < T 0 0) : f_X4_hourBy S (nI p) (nI b) = some (nI (sayH T p b), S) := by
  have hn := t_hoursLater h hp
  obtain ⟨-, -, -, -, hbb, hpp, ok⟩ := h
  have hb6 := ok_b ok hb
  have hh := (ok.2.2.2.2.1 b hb).1
  have hl := later_le ok hp
  unfold f_X4_hourBy sayH
  rw [ckn hb6 (by decide), hn, bd_s, cln (by omega), (hbb b hb).1, if_pos rfl, if_neg (by decide), nI_add, nl24, remN (by omega) (by decide) (by decide)]
theorem t_hearsSome {S : G} {T : Tw} {p : Nat} (h : rT S T) (hp : p < T 3 0) : f_X4_hearsSome S (nI p) = some (bI (hsome T p), S) := by
  have ok := h.2.2.2.2.2.2
  have key := loopE (fun fuel i => f_X4_hearsSome_2 fuel S (nI p) (nI i))
  unfold f_X4_hearsSome hsome
  cases q : anyB (hears T p) (T 0 0) with
  | false =>
    have hno := (anyB_not _ _).mp q
    refine key (T 0 0) _ (fun f => ?_) (fun f i hi => Or.inr ?_) 1000 0 (by omega) (by have := ok.1; omega)
    · show b_X4_hearsSome_2 _ S _ _ = _
      unfold b_X4_hearsSome_2
      rw [h.1, if_pos (nI_le (Nat.le_refl _) (by have := ok.1; omega))]; rfl
    · show b_X4_hearsSome_2 _ S _ _ = _
      unfold b_X4_hearsSome_2
      rw [h.1, if_neg (nI_ge hi (by have := ok.1; omega)), t_hearsIt h hp hi, bd_s, hno i hi, ifb, if_neg (by decide), nl1, nI_add]
  | true =>
    obtain ⟨j, hj, hP⟩ := (anyB_iff _ _).mp q
    have hy : fi (hears T p) (T 0 0) < T 0 0 := by
      rcases Nat.lt_or_ge (fi (hears T p) (T 0 0)) (T 0 0) with z | z
      · exact z
      · have := fi_no (hears T p) (T 0 0) j (by omega)
        rw [hP] at this; cases this
    refine key (fi (hears T p) (T 0 0)) _ (fun f => ?_) (fun f i hi => Or.inr ?_) 1000 0 (by omega) (by have := ok.1; omega)
    · show b_X4_hearsSome_2 _ S _ _ = _
      unfold b_X4_hearsSome_2
      rw [h.1, if_neg (nI_ge hy (by have := ok.1; omega)), t_hearsIt h hp hy, bd_s, fi_yes _ _ hy, ifb, if_pos rfl]; rfl
    · show b_X4_hearsSome_2 _ S _ _ = _
      unfold b_X4_hearsSome_2
      rw [h.1, if_neg (nI_ge (by omega) (by have := ok.1; omega)), t_hearsIt h hp (by omega), bd_s, fi_no _ _ i hi, ifb, if_neg (by decide), nl1, nI_add]
theorem t_hearersOf {S : G} {T : Tw} {b : Nat} (h : rT S T) (hb : b < T 0 0) : f_X4_hearersOf S (nI b) = some (nI (mk (fun p => hears T p b) (T 3 0)), S) := by
  have ok := h.2.2.2.2.2.2
  have h8 := ok.2.1
  unfold f_X4_hearersOf
  refine loopE (fun fuel i => f_X4_hearersOf_4 fuel S (nI b) (nI (mk (fun p => hears T p b) i)) (nI i)) (T 3 0) _ (fun f => ?_) (fun f i hi => Or.inr ?_) 1000 0 (by omega) (by omega)
  · show b_X4_hearersOf_4 _ S _ _ _ = _
    unfold b_X4_hearersOf_4
    rw [h.2.1, if_pos (nI_le (Nat.le_refl _) (by omega))]
  · show b_X4_hearersOf_4 _ S _ _ _ = _
    unfold b_X4_hearersOf_4
    rw [h.2.1, if_neg (nI_ge hi (by omega)), t_hearsIt h hi hb, bd_s, ifb, sh1 i (by omega), orN, mk_or, nl1, nI_add]
    simp only [mk, lt_s']
    rcases Bool.eq_false_or_eq_true (hears T i b) with q | q <;> simp [q]
theorem t_hearersOfSome {S : G} {T : Tw} (h : rT S T) : f_X4_hearersOfSome S = some (nI (mk (hsome T) (T 3 0)), S) := by
  have ok := h.2.2.2.2.2.2
  have h8 := ok.2.1
  unfold f_X4_hearersOfSome
  refine loopE (fun fuel i => f_X4_hearersOfSome_4 fuel S (nI (mk (hsome T) i)) (nI i)) (T 3 0) _ (fun f => ?_) (fun f i hi => Or.inr ?_) 1000 0 (by omega) (by omega)
  · show b_X4_hearersOfSome_4 _ S _ _ = _
    unfold b_X4_hearersOfSome_4
    rw [h.2.1, if_pos (nI_le (Nat.le_refl _) (by omega))]
  · show b_X4_hearersOfSome_4 _ S _ _ = _
    unfold b_X4_hearersOfSome_4
    rw [h.2.1, if_neg (nI_ge hi (by omega)), t_hearsSome h hi, bd_s, ifb, sh1 i (by omega), orN, mk_or, nl1, nI_add]
    simp only [mk, lt_s']
    rcases Bool.eq_false_or_eq_true (hsome T i) with q | q <;> simp [q]
/-- nobody hears the bell -/
def silent (T : Tw) (b : Nat) : Bool := !(anyB (fun p => hears T p b) (T 3 0))
theorem t_silentBells {S : G} {T : Tw} (h : rT S T) : f_X4_silentBells S = some (nI (mk (silent T) (T 0 0)), S) := by
  have ok := h.2.2.2.2.2.2
  have h6 := ok.1
  have h8 := ok.2.1
  unfold f_X4_silentBells
  refine loopE (fun fuel i => f_X4_silentBells_4 fuel S (nI (mk (silent T) i)) (nI i)) (T 0 0) _ (fun f => ?_) (fun f i hi => Or.inr ?_) 1000 0 (by omega) (by omega)
  · show b_X4_silentBells_4 _ S _ _ = _
    unfold b_X4_silentBells_4
    rw [h.1, if_pos (nI_le (Nat.le_refl _) (by omega))]
  · show b_X4_silentBells_4 _ S _ _ = _
    unfold b_X4_silentBells_4
    have hlt := mk_lt (fun p => hears T p i) (T 3 0)
    have hpw : 2 ^ (T 3 0) ≤ 2 ^ 8 := Nat.pow_le_pow_right (by decide) h8
    rw [h.1, if_neg (nI_ge hi (by omega)), t_hearersOf h hi, bd_s, sh1 i (by omega), orN, mk_or, nl1, nI_add, lt_s', nl0]
    simp only [nI_eq (show mk (fun p => hears T p i) (T 3 0) < 2 ^ 31 by omega) (show 0 < 2 ^ 31 by decide), mk_0, mk]
    unfold silent
    cases q : anyB (fun p => hears T p i) (T 3 0) <;> simp
