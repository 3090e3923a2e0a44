/-! the reference's town -/
def rM (M : G) (T : Tw) : Prop := M.1 7 = nI (T 0 0) ∧ M.1 8 = nI (T 3 0) ∧ M.1 9 = nI (T 8 0) ∧ M.1 10 = nI (T 9 0) ∧ (∀ b, b < T 0 0 → M.2 1 b = nI (T 1 b) ∧ M.2 2 b = nI (T 2 b)) ∧ (∀ p, p < T 3 0 → M.2 3 p = nI (T 4 p) ∧ M.2 4 p = nI (T 5 p) ∧ M.2 5 p = nI (T 6 p) ∧ M.2 6 p = nI (T 7 p)) ∧ okT T
/-- who is left out in thought -/
def outI : Option Nat → Int32
  | none => -9
  | some q => nI q
def rO (M : G) (o : Option Nat) : Prop := M.1 11 = outI o ∧ ∀ q, o = some q → q < 8
def hO (o : Option Nat) (T : Tw) (p b : Nat) : Bool := decide (o ≠ some p) && hears T p b
theorem hO_none (T : Tw) (p b : Nat) : hO none T p b = hears T p b := by simp [hO]
theorem out_eq {M : G} {o : Option Nat} (h : rO M o) {p : Nat} (hp : p < 8) : nI p = M.1 11 ↔ o = some p := by
  rw [h.1]
  cases o with
  | none =>
    have : ∀ p, p < 8 → ¬ nI p = outI none := by decide
    simp [this p hp]
  | some q =>
    have hq := h.2 q rfl
    show nI p = nI q ↔ _
    rw [nI_eq (by omega) (by omega)]
    simp [eq_comm]
theorem m_nightsOf {M : G} {T : Tw} {p : Nat} (h : rM M T) (hp : p < T 3 0) : f_X7_nightsOf M (nI p) = some (nI (nights T p), M) := by
  obtain ⟨-, -, -, -, -, hpp, ok⟩ := h
  obtain ⟨h4, h5, -, -⟩ := hpp p hp
  have hp8 : p < 8 := Nat.lt_of_lt_of_le hp ok.2.1
  have o5 := (ok.2.2.2.2.2 p hp).2.1
  unfold f_X7_nightsOf nights
  rw [ckn hp8 (by decide), cln (by omega), h4, h5]
  rcases six ok hp with e | e | e | e | e | e <;> rw [e]
  · rfl
  · rfl
  · simp (decide := true) only [if_true, if_false]
    rw [nl9, nI_add]
  · simp (decide := true) only [if_true, if_false]
    rw [nl9, nl2, nI_add, pk_mul]
  · rfl
  · rfl
theorem m_hears {M : G} {T : Tw} {o : Option Nat} {p b : Nat} (h : rM M T) (ho : rO M o) (hp : p < T 3 0) (hb : b < T 0 0) : f_X7_hears M (nI p) (nI b) = some (bI (hO o T p b), M) := by
  have hn := m_nightsOf h hp
  obtain ⟨-, -, -, -, hbb, hpp, ok⟩ := h
  obtain ⟨h4, h5, h6, h7⟩ := hpp p hp
  obtain ⟨o4, o5, o6, o7⟩ := ok.2.2.2.2.2 p hp
  have hp8 : p < 8 := Nat.lt_of_lt_of_le hp ok.2.1
  have hb6 : b < 6 := Nat.lt_of_lt_of_le hb ok.1
  have hnl := nights_le ok hp
  have hh := (ok.2.2.2.2.1 b hb).1
  unfold f_X7_hears hO
  simp only [out_eq ho hp8]
  by_cases co : o = some p
  · rw [if_pos co]; simp [co, bI]
  · rw [if_neg co]
    have ht : decide (o ≠ some p) = true := by simp [co]
    rw [ht, Bool.true_and]
    unfold hears
    rw [hn, ckn hp8 (by decide), ckn hb6 (by decide), cln (by omega), cln (by omega)]
    simp only [bd_s, if_true]
    rw [h4, h6, h7, (hbb b hb).1]
    simp only [nl0, nl4, nl5, nI_leI (show T 7 p < 2 ^ 31 by omega) (show 0 < 2 ^ 31 by omega), nI_ltI (show T 6 p < 2 ^ 31 by omega) (show nights T p < 2 ^ 31 by omega), nI_eq (show T 4 p < 2 ^ 31 by omega) (show 5 < 2 ^ 31 by omega), nI_eq (show T 1 b < 2 ^ 31 by omega) (show 4 < 2 ^ 31 by omega)]
    by_cases c7 : T 7 p = 0
    · by_cases c6 : T 6 p < nights T p
      · simp [c7, c6, bI] <;> rfl
      · by_cases c4 : T 4 p = 5
        · by_cases c1 : T 1 b = 4
          · simp [c7, c6, c4, c1, bI] <;> rfl
          · simp [c7, c6, c4, c1, bI] <;> rfl
        · simp [c7, c6, c4, bI] <;> rfl
    · have : ¬ T 7 p ≤ 0 := by omega
      simp [c7, this, bI] <;> rfl
