/-! both sides, call by call: what holds between them -/
def Inv (T : Tw) (S U Ki L N M : G) : Prop := rT U T ∧ rM M T ∧ T 8 0 ≤ 999 ∧ rO M none ∧ (∀ i, i < 7 → S.2 8 i = M.2 0 i) ∧ (∃ D num, rN N D num ∧ rNM M D num) ∧ (∃ c n, rL L c n ∧ rLM M c n) ∧ ((S.1 2 = 0 ∧ M.1 20 = 0) ∨ (S.1 2 = 1 ∧ M.1 20 = 1 ∧ ∃ Ti M', rT Ki Ti ∧ Ti 8 0 ≤ 999 ∧ rM M' Ti ∧ ∀ j, j < 48 → M.2 19 j = snap M' j))
def InvE (S U Ki L N M : G) : Prop := ∃ T, Inv T S U Ki L N M
theorem Inv.refd {T : Tw} {S U Ki L N M : G} (h : Inv T S U Ki L N M) (k : Nat) : InvE (pA S 8 k (S.2 8 k + 1)) U Ki L N (pA M 0 k (M.2 0 k + 1)) := by
  obtain ⟨h1, h2, h3, h4, h5, h6, h7, h8⟩ := h
  refine ⟨T, h1, h2, h3, h4, fun i hi => ?_, h6, h7, h8⟩
  rw [pA_2, if_pos rfl, pA_2, if_pos rfl, updE, updE]
  by_cases e : i = k
  · rw [if_pos e, if_pos e, ← e, h5 i hi]
  · rw [if_neg e, if_neg e, h5 i hi]
theorem Inv.eqX {T : Tw} {S U Ki L N M M' : G} (h : Inv T S U Ki L N M) (e : eqX M M') : InvE S U Ki L N M' := by
  obtain ⟨h1, h2, h3, h4, h5, ⟨D, num, h6, h6'⟩, ⟨c, n, h7, h7'⟩, h8⟩ := h
  refine ⟨T, h1, h2.eqX e, h3, rO_eqX h4 e, fun i hi => by rw [e.1 0 (by decide) (by decide)]; exact h5 i hi, ⟨D, num, h6, by rw [e.2.1 25 (by decide) (by decide)]; exact h6'.1, h6'.2.1, fun d hd => by rw [e.1 24 (by decide) (by decide)]; exact h6'.2.2 d hd⟩, ⟨c, n, h7, by rw [e.2.1 16 (by decide) (by decide)]; exact h7'.1, h7'.2.1, fun i hi => by rw [e.1 12 (by decide) (by decide)]; exact h7'.2.2 i hi⟩, ?_⟩
  rw [e.2.1 20 (by decide) (by decide)]
  rcases h8 with z | ⟨z1, z2, Ti, M1, z3, z4, z5, z6⟩
  · exact Or.inl z
  · exact Or.inr ⟨z1, z2, Ti, M1, z3, z4, z5, fun j hj => by rw [e.2.2 j hj]; exact z6 j hj⟩
theorem Inv.eqM {T : Tw} {S U Ki L N M M' : G} {lim : Nat} (h : Inv T S U Ki L N M) (e : eqM lim M M') (hl : 48 ≤ lim) : InvE S U Ki L N M' := h.eqX (e.x hl)
theorem Inv.self {T : Tw} {S U Ki L N M : G} (h : Inv T S U Ki L N M) : InvE S U Ki L N M := ⟨T, h⟩
theorem Inv.frw {T T' : Tw} {S U U' Ki L N M M' : G} (h : Inv T S U Ki L N M) (f : frw 144 M M') (hM : rM M' T') (hU : rT U' T') (hd : T' 8 0 ≤ 999) : InvE S U' Ki L N M' := by
  obtain ⟨h1, h2, h3, h4, h5, ⟨D, num, h6, h6'⟩, ⟨c, n, h7, h7'⟩, h8⟩ := h
  refine ⟨T', hU, hM, hd, rO_frw h4 f, fun i hi => by rw [f.1 0 (by omega) (by decide)]; exact h5 i hi, ⟨D, num, h6, h6'.frw f⟩, ⟨c, n, h7, by rw [f.2.2.2.1 16 (by omega) (by decide) (by decide)]; exact h7'.1, h7'.2.1, fun i hi => by rw [f.1 12 (by omega) (by decide)]; exact h7'.2.2 i hi⟩, ?_⟩
  rw [f.2.2.2.1 20 (by omega) (by decide) (by decide)]
  rcases h8 with z | ⟨z1, z2, Ti, M1, z3, z4, z5, z6⟩
  · exact Or.inl z
  · exact Or.inr ⟨z1, z2, Ti, M1, z3, z4, z5, fun j hj => by rw [f.2.2.2.2 j (by omega)]; exact z6 j hj⟩
/-! refusals -/
theorem rf1 (S : G) : f_X6_refused S (-1) = some (-1, pA S 8 1 (S.2 8 1 + 1)) := rfl
theorem rf2 (S : G) : f_X6_refused S (-2) = some (-2, pA S 8 2 (S.2 8 2 + 1)) := rfl
theorem rf3 (S : G) : f_X6_refused S (-3) = some (-3, pA S 8 3 (S.2 8 3 + 1)) := rfl
theorem rf4 (S : G) : f_X6_refused S (-4) = some (-4, pA S 8 4 (S.2 8 4 + 1)) := rfl
theorem rf6 (S : G) : f_X6_refused S (-6) = some (-6, pA S 8 6 (S.2 8 6 + 1)) := rfl
theorem no1 (M : G) : f_X7_no M (-1) = some (-1, pA M 0 1 (M.2 0 1 + 1)) := rfl
theorem no2 (M : G) : f_X7_no M (-2) = some (-2, pA M 0 2 (M.2 0 2 + 1)) := rfl
theorem no3 (M : G) : f_X7_no M (-3) = some (-3, pA M 0 3 (M.2 0 3 + 1)) := rfl
theorem no4 (M : G) : f_X7_no M (-4) = some (-4, pA M 0 4 (M.2 0 4 + 1)) := rfl
theorem no6 (M : G) : f_X7_no M (-6) = some (-6, pA M 0 6 (M.2 0 6 + 1)) := rfl
theorem lo1 (M : G) : f_X7_lower M (-1) = some ((1000000000 : Int32) - (-1), pA M 0 1 (M.2 0 1 + 1)) := rfl
theorem lo4 (M : G) : f_X7_lower M (-4) = some ((1000000000 : Int32) - (-4), pA M 0 4 (M.2 0 4 + 1)) := rfl
theorem lo6 (M : G) : f_X7_lower M (-6) = some ((1000000000 : Int32) - (-6), pA M 0 6 (M.2 0 6 + 1)) := rfl
theorem lw1 (M : G) : f_X7_lowest M (-1) = some ((4000000000000000000 : Int64) - (-1 : Int32).toInt64, pA M 0 1 (M.2 0 1 + 1)) := rfl
theorem lw2 (M : G) : f_X7_lowest M (-2) = some ((4000000000000000000 : Int64) - (-2 : Int32).toInt64, pA M 0 2 (M.2 0 2 + 1)) := rfl
theorem lw4 (M : G) : f_X7_lowest M (-4) = some ((4000000000000000000 : Int64) - (-4 : Int32).toInt64, pA M 0 4 (M.2 0 4 + 1)) := rfl
theorem lw6 (M : G) : f_X7_lowest M (-6) = some ((4000000000000000000 : Int64) - (-6 : Int32).toInt64, pA M 0 6 (M.2 0 6 + 1)) := rfl
theorem fs0 (y : Int32) : f_X6_first 0 y = some (y, ()) := rfl
theorem fs1 (y : Int32) : f_X6_first (-1) y = some (-1, ()) := rfl
theorem fs2 (y : Int32) : f_X6_first (-2) y = some (-2, ()) := rfl
theorem fs4 (y : Int32) : f_X6_first (-4) y = some (-4, ()) := rfl
theorem fs6 (y : Int32) : f_X6_first (-6) y = some (-6, ()) := rfl
theorem e00 : ((0 : Int32) = 0) = True := eq_true rfl
theorem e01 : ((1 : Int32) = 0) = False := eq_false (by decide)
theorem e10 : ((-1 : Int32) = 0) = False := eq_false (by decide)
theorem e20 : ((-2 : Int32) = 0) = False := eq_false (by decide)
theorem e40 : ((-4 : Int32) = 0) = False := eq_false (by decide)
theorem e60 : ((-6 : Int32) = 0) = False := eq_false (by decide)
/-! arguments -/
theorem bellC {T : Tw} {S U M : G} (h : rT U T) (hM : rM M T) (x : Int32) : (f_X6_noBell S U x = some (-1, (S, U)) ∧ f_X7_isBell M x = some (0, M)) ∨ ∃ b, b < T 0 0 ∧ x = nI b ∧ f_X6_noBell S U x = some (0, (S, U)) ∧ f_X7_isBell M x = some (1, M) := by
  have h6 := h.2.2.2.2.2.2.1
  unfold f_X6_noBell f_X7_isBell
  rw [h.1, hM.1]
  rcases pk_ix x (n := T 0 0) (by omega) with z | z | ⟨j, hj, rfl⟩
  · rw [if_pos z, if_pos z]; exact Or.inl ⟨rfl, rfl⟩
  · rw [if_pos z, if_pos z]
    left
    constructor <;> split <;> rfl
  · right
    rw [if_neg (nI_pos (by omega)), if_neg (nI_ge hj (by omega)), if_neg (nI_pos (by omega)), if_neg (nI_ge hj (by omega))]
    exact ⟨j, hj, rfl, rfl, rfl⟩
theorem oneC {T : Tw} {S U M : G} (h : rT U T) (hM : rM M T) (x : Int32) : (f_X6_noPerson S U x = some (-1, (S, U)) ∧ f_X7_isOne M x = some (0, M)) ∨ ∃ p, p < T 3 0 ∧ x = nI p ∧ f_X6_noPerson S U x = some (0, (S, U)) ∧ f_X7_isOne M x = some (1, M) := by
  have h8 := h.2.2.2.2.2.2.2.1
  unfold f_X6_noPerson f_X7_isOne
  rw [h.2.1, hM.2.1]
  rcases pk_ix x (n := T 3 0) (by omega) with z | z | ⟨j, hj, rfl⟩
  · rw [if_pos z, if_pos z]; exact Or.inl ⟨rfl, rfl⟩
  · rw [if_pos z, if_pos z]
    left
    constructor <;> split <;> rfl
  · right
    rw [if_neg (nI_pos (by omega)), if_neg (nI_ge hj (by omega)), if_neg (nI_pos (by omega)), if_neg (nI_ge hj (by omega))]
    exact ⟨j, hj, rfl, rfl, rfl⟩
theorem bellT {S U : G} (x : Int32) : ∃ v, f_X6_noBell S U x = some (v, (S, U)) := by
  unfold f_X6_noBell
  split
  · exact ⟨_, rfl⟩
  · split <;> exact ⟨_, rfl⟩
theorem oneT {S U : G} (x : Int32) : ∃ v, f_X6_noPerson S U x = some (v, (S, U)) := by
  unfold f_X6_noPerson
  split
  · exact ⟨_, rfl⟩
  · split <;> exact ⟨_, rfl⟩
theorem rngT (x a b : Int32) : ∃ v, f_X6_range x a b = some (v, ()) := by
  unfold f_X6_range
  split
  · split <;> exact ⟨_, rfl⟩
  · exact ⟨_, rfl⟩
theorem chT (x k : Int32) : ∃ v, f_X6_choice x k = some (v, ()) := by
  unfold f_X6_choice
  split
  · exact ⟨_, rfl⟩
  · split <;> exact ⟨_, rfl⟩
theorem nI_up {x : Int32} {a : Nat} (ha : a < 2 ^ 31) (h : nI a ≤ x) : ∃ v, a ≤ v ∧ v < 2 ^ 31 ∧ x = nI v := by
  have h0 : ¬ x < 0 := fun z => by
    have h1 := Int32.lt_of_le_of_lt h z
    exact nI_pos ha h1
  obtain ⟨j, hj, rfl⟩ := nI_of h0
  exact ⟨j, (nI_leI ha hj).mp h, hj, rfl⟩
theorem rngC (x : Int32) (a b : Nat) {A B : Int32} (eA : A = nI a) (eB : B = nI b) (hb : b < 100000) (hab : a ≤ b) : (f_X6_range x A B = some (-4, ()) ∧ f_X7_bound x A B = some (-4, ())) ∨ (f_X6_range x A B = some (-6, ()) ∧ f_X7_bound x A B = some (-6, ())) ∨ ∃ v, a ≤ v ∧ v ≤ b ∧ x = nI v ∧ f_X6_range x A B = some (0, ()) ∧ f_X7_bound x A B = some (0, ()) := by
  subst eA eB
  unfold f_X6_range f_X7_bound
  by_cases q : nI a ≤ x
  · rw [if_pos q]
    obtain ⟨v, h1, h2, rfl⟩ := nI_up (by omega) q
    by_cases q2 : nI v ≤ nI b
    · rw [if_pos q2]
      exact Or.inr (Or.inr ⟨v, h1, (nI_leI h2 (by omega)).mp q2, rfl, rfl, rfl⟩)
    · rw [if_neg q2]; exact Or.inr (Or.inl ⟨rfl, rfl⟩)
  · rw [if_neg q]; exact Or.inl ⟨rfl, rfl⟩
theorem chC (x : Int32) (k : Nat) {K K1 : Int32} (eK : K = nI (k + 1)) (eK1 : K1 = nI k) (hk : k < 1000) : (f_X6_choice x K = some (-2, ()) ∧ f_X7_isIn x 0 K1 = some (0, ()) ∧ ∀ v, v ≤ k → ¬ x = nI v) ∨ ∃ v, v ≤ k ∧ x = nI v ∧ f_X6_choice x K = some (0, ()) ∧ f_X7_isIn x 0 K1 = some (1, ()) := by
  subst eK eK1
  unfold f_X6_choice f_X7_isIn
  rcases pk_ix x (n := k + 1) (by omega) with z | z | ⟨j, hj, rfl⟩
  · rw [if_pos z, if_pos z]
    exact Or.inl ⟨rfl, rfl, fun v hv e => by rw [e] at z; exact nI_pos (by omega) z⟩
  · obtain ⟨v, h1, h2, rfl⟩ := nI_up (by omega) z
    rw [if_neg (nI_pos h2), if_pos z, if_neg (nI_pos h2), if_pos (nI_lt (by omega) h2)]
    exact Or.inl ⟨rfl, rfl, fun w hw e => by have := (nI_eq h2 (by omega)).mp e; omega⟩
  · rw [if_neg (nI_pos (by omega)), if_neg (nI_ge hj (by omega)), if_neg (nI_pos (by omega)), if_neg (nI_nlt (by omega) (by omega))]
    exact Or.inr ⟨j, by omega, rfl, rfl, rfl⟩
theorem nq00 : (nI 0 = (0 : Int32)) = True := eq_true (by decide)
theorem nq01 : (nI 0 = (1 : Int32)) = False := eq_false (by decide)
theorem nq02 : (nI 0 = (2 : Int32)) = False := eq_false (by decide)
theorem nq03 : (nI 0 = (3 : Int32)) = False := eq_false (by decide)
theorem nq04 : (nI 0 = (4 : Int32)) = False := eq_false (by decide)
theorem nq05 : (nI 0 = (5 : Int32)) = False := eq_false (by decide)
theorem nq06 : (nI 0 = (6 : Int32)) = False := eq_false (by decide)
theorem nq07 : (nI 0 = (7 : Int32)) = False := eq_false (by decide)
theorem nq10 : (nI 1 = (0 : Int32)) = False := eq_false (by decide)
theorem nq11 : (nI 1 = (1 : Int32)) = True := eq_true (by decide)
theorem nq12 : (nI 1 = (2 : Int32)) = False := eq_false (by decide)
theorem nq13 : (nI 1 = (3 : Int32)) = False := eq_false (by decide)
theorem nq14 : (nI 1 = (4 : Int32)) = False := eq_false (by decide)
theorem nq15 : (nI 1 = (5 : Int32)) = False := eq_false (by decide)
theorem nq16 : (nI 1 = (6 : Int32)) = False := eq_false (by decide)
theorem nq17 : (nI 1 = (7 : Int32)) = False := eq_false (by decide)
theorem nq20 : (nI 2 = (0 : Int32)) = False := eq_false (by decide)
theorem nq21 : (nI 2 = (1 : Int32)) = False := eq_false (by decide)
theorem nq22 : (nI 2 = (2 : Int32)) = True := eq_true (by decide)
theorem nq23 : (nI 2 = (3 : Int32)) = False := eq_false (by decide)
theorem nq24 : (nI 2 = (4 : Int32)) = False := eq_false (by decide)
theorem nq25 : (nI 2 = (5 : Int32)) = False := eq_false (by decide)
theorem nq26 : (nI 2 = (6 : Int32)) = False := eq_false (by decide)
theorem nq27 : (nI 2 = (7 : Int32)) = False := eq_false (by decide)
theorem nq30 : (nI 3 = (0 : Int32)) = False := eq_false (by decide)
theorem nq31 : (nI 3 = (1 : Int32)) = False := eq_false (by decide)
theorem nq32 : (nI 3 = (2 : Int32)) = False := eq_false (by decide)
theorem nq33 : (nI 3 = (3 : Int32)) = True := eq_true (by decide)
theorem nq34 : (nI 3 = (4 : Int32)) = False := eq_false (by decide)
theorem nq35 : (nI 3 = (5 : Int32)) = False := eq_false (by decide)
theorem nq36 : (nI 3 = (6 : Int32)) = False := eq_false (by decide)
theorem nq37 : (nI 3 = (7 : Int32)) = False := eq_false (by decide)
theorem nq40 : (nI 4 = (0 : Int32)) = False := eq_false (by decide)
theorem nq41 : (nI 4 = (1 : Int32)) = False := eq_false (by decide)
theorem nq42 : (nI 4 = (2 : Int32)) = False := eq_false (by decide)
theorem nq43 : (nI 4 = (3 : Int32)) = False := eq_false (by decide)
theorem nq44 : (nI 4 = (4 : Int32)) = True := eq_true (by decide)
theorem nq45 : (nI 4 = (5 : Int32)) = False := eq_false (by decide)
theorem nq46 : (nI 4 = (6 : Int32)) = False := eq_false (by decide)
theorem nq47 : (nI 4 = (7 : Int32)) = False := eq_false (by decide)
theorem nq50 : (nI 5 = (0 : Int32)) = False := eq_false (by decide)
theorem nq51 : (nI 5 = (1 : Int32)) = False := eq_false (by decide)
theorem nq52 : (nI 5 = (2 : Int32)) = False := eq_false (by decide)
theorem nq53 : (nI 5 = (3 : Int32)) = False := eq_false (by decide)
theorem nq54 : (nI 5 = (4 : Int32)) = False := eq_false (by decide)
theorem nq55 : (nI 5 = (5 : Int32)) = True := eq_true (by decide)
theorem nq56 : (nI 5 = (6 : Int32)) = False := eq_false (by decide)
theorem nq57 : (nI 5 = (7 : Int32)) = False := eq_false (by decide)
theorem nq60 : (nI 6 = (0 : Int32)) = False := eq_false (by decide)
theorem nq61 : (nI 6 = (1 : Int32)) = False := eq_false (by decide)
theorem nq62 : (nI 6 = (2 : Int32)) = False := eq_false (by decide)
theorem nq63 : (nI 6 = (3 : Int32)) = False := eq_false (by decide)
theorem nq64 : (nI 6 = (4 : Int32)) = False := eq_false (by decide)
theorem nq65 : (nI 6 = (5 : Int32)) = False := eq_false (by decide)
theorem nq66 : (nI 6 = (6 : Int32)) = True := eq_true (by decide)
theorem nq67 : (nI 6 = (7 : Int32)) = False := eq_false (by decide)
theorem nq70 : (nI 7 = (0 : Int32)) = False := eq_false (by decide)
theorem nq71 : (nI 7 = (1 : Int32)) = False := eq_false (by decide)
theorem nq72 : (nI 7 = (2 : Int32)) = False := eq_false (by decide)
theorem nq73 : (nI 7 = (3 : Int32)) = False := eq_false (by decide)
theorem nq74 : (nI 7 = (4 : Int32)) = False := eq_false (by decide)
theorem nq75 : (nI 7 = (5 : Int32)) = False := eq_false (by decide)
theorem nq76 : (nI 7 = (6 : Int32)) = False := eq_false (by decide)
theorem nq77 : (nI 7 = (7 : Int32)) = True := eq_true (by decide)
