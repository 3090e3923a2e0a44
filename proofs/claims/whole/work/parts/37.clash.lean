/-! twos who never say alike -/
def cl2 (T : Tw) (p q : Nat) : Bool := !decide (later T p = later T q) && anyB (fun b => hears T p b && hears T q b) (T 0 0)
theorem cl2_comm (T : Tw) (p q : Nat) : cl2 T p q = cl2 T q p := by
  unfold cl2
  rw [anyB_cong (f := fun b => hears T p b && hears T q b) (g := fun b => hears T q b && hears T p b) _ (fun i _ => Bool.and_comm _ _)]
  congr 2
  exact decide_eq_decide.mpr eq_comm
theorem cl2_self (T : Tw) (p : Nat) : cl2 T p p = false := by simp [cl2]
theorem t_doClash {S : G} {T : Tw} {p q : Nat} (h : rT S T) (hp : p < T 3 0) (hq : q < T 3 0) : f_X5_doClash S (nI p) (nI q) = some (bI (cl2 T p q), S) := by
  have ok := h.2.2.2.2.2.2
  have h6 := ok.1
  have l1 := later_le ok hp
  have l2 := later_le ok hq
  unfold f_X5_doClash cl2
  rw [t_hoursLater h hp, bd_s, t_hoursLater h hq, bd_s]
  by_cases c : later T p = later T q
  · rw [if_pos (by rw [c])]; simp [c, bI]
  · rw [if_neg (fun z => c ((nI_eq (by omega) (by omega)).mp z)), show (!decide (later T p = later T q)) = true by simp [c], Bool.true_and]
    refine loopAny (fun fuel i => f_X5_doClash_17 fuel S (nI p) (nI q) (nI i)) (fun b => hears T p b && hears T q b) (T 0 0) (fun b => some (bI b, S)) (fun f => ?_) (fun f i hi => ?_) 1000 (by omega)
    · show b_X5_doClash_17 _ S _ _ _ = _
      unfold b_X5_doClash_17
      rw [h.1, if_pos (nI_le (Nat.le_refl _) (by omega))]; rfl
    · show b_X5_doClash_17 _ S _ _ _ = _
      unfold b_X5_doClash_17
      rw [h.1, if_neg (nI_ge hi (by omega)), t_hearsIt h hp hi, bd_s, ifb, t_hearsIt h hq hi, bd_s, ifb, nl1, nI_add]
      cases q1 : hears T p i <;> cases q2 : hears T q i <;> simp <;> rfl
theorem m_areClashing {M : G} {T : Tw} {p q : Nat} (h : rM M T) (ho : rO M none) (hp : p < T 3 0) (hq : q < T 3 0) : f_X7_areClashing M (nI p) (nI q) = some (bI (cl2 T p q), M) := by
  have ok := h.2.2.2.2.2.2
  have h6 := ok.1
  have e : cl2 T p q = anyB (fun b => hears T p b && hears T q b && !decide (sayH T p b = sayH T q b)) (T 0 0) := by
    unfold cl2
    have l1 := later_le ok hp
    have l2 := later_le ok hq
    have key : ∀ b, b < T 0 0 → decide (sayH T p b = sayH T q b) = decide (later T p = later T q) := by
      intro b hb
      have hr := (ok.2.2.2.2.1 b hb).1
      apply decide_eq_decide.mpr
      constructor
      · intro z; exact hr_inj hr l1 l2 z
      · intro z; unfold sayH; rw [z]
    rw [anyB_cong (f := fun b => hears T p b && hears T q b && !decide (sayH T p b = sayH T q b)) (g := fun b => hears T p b && hears T q b && !decide (later T p = later T q)) _ (fun b hb => by show (hears T p b && hears T q b && !decide (sayH T p b = sayH T q b)) = _; rw [key b hb])]
    cases c : decide (later T p = later T q) with
    | true =>
      show (false && _) = _
      rw [Bool.false_and]
      exact ((anyB_not _ _).mpr (fun i _ => by simp)).symm
    | false => simp
  rw [e]
  unfold f_X7_areClashing
  refine loopAny (fun fuel i => f_X7_areClashing_2 fuel M (nI p) (nI q) (nI i)) (fun b => hears T p b && hears T q b && !decide (sayH T p b = sayH T q b)) (T 0 0) (fun b => some (bI b, M)) (fun f => ?_) (fun f i hi => ?_) 1000 (by omega)
  · show b_X7_areClashing_2 _ M _ _ _ = _
    unfold b_X7_areClashing_2
    rw [h.1, if_pos (nI_le (Nat.le_refl _) (by omega))]; rfl
  · show b_X7_areClashing_2 _ M _ _ _ = _
    unfold b_X7_areClashing_2
    have s1 := sayH_lt T p i
    have s2 := sayH_lt T q i
    rw [h.1, if_neg (nI_ge hi (by omega)), m_hears h ho hp hi, bd_s, ifb, m_hears h ho hq hi, bd_s, ifb, m_saysOf h ho hp hi, bd_s, m_saysOf h ho hq hi, bd_s, nl1, nI_add, hO_none, hO_none]
    cases q1 : hears T p i <;> cases q2 : hears T q i <;> simp [nI_eq (show sayH T p i < 2 ^ 31 by omega) (show sayH T q i < 2 ^ 31 by omega)]
    by_cases c : sayH T p i = sayH T q i <;> simp [c] <;> rfl
/-! counting them -/
def hj (T : Tw) (p j : Nat) : Bool := cl2 T p (p + 1 + j)
def rowN (T : Tw) (p : Nat) : Nat := T 3 0 - 1 - p
def ccl (T : Tw) : Nat := sumD (fun p => ct (hj T p) (rowN T p)) (T 3 0)
theorem sumB {f : Nat → Nat} {c : Nat} (h : ∀ d, f d ≤ c) (n : Nat) : sumD f n ≤ c * n := sumD_le h n
theorem t_clashes {S U : G} {T : Tw} (h : rT U T) : f_X5_clashes S U = some (nI (ccl T), (S, U)) := by
  have ok := h.2.2.2.2.2.2
  have h8 := ok.2.1
  unfold f_X5_clashes
  refine loopE (fun fuel p => f_X5_clashes_4 fuel S U (nI (sumD (fun p => ct (hj T p) (rowN T p)) p)) (nI p)) (T 3 0) _ (fun f => ?_) (fun f p hp => Or.inr ?_) 1000 0 (by omega) (by omega)
  · show b_X5_clashes_4 _ S U _ _ = _
    unfold b_X5_clashes_4
    rw [h.2.1, if_pos (nI_le (Nat.le_refl _) (by omega))]
    rfl
  · show b_X5_clashes_4 _ S U _ _ = _
    unfold b_X5_clashes_4
    rw [h.2.1, if_neg (nI_ge hp (by omega)), show nI p + (1 : Int32) = nI (p + 1) from nI_add p 1]
    have hn : p + 1 + rowN T p = T 3 0 := by unfold rowN; omega
    refine loopE (fun fuel j => f_X5_clashes_17 (f_X5_clashes_4 f) fuel S U (nI (sumD (fun p => ct (hj T p) (rowN T p)) p + ct (hj T p) j)) (nI p) (nI (p + 1 + j))) (rowN T p) _ (fun g => ?_) (fun g j hj' => Or.inr ?_) 1000 0 (by omega) (by unfold rowN; omega)
    · show b_X5_clashes_17 _ _ S U _ _ _ = _
      unfold b_X5_clashes_17
      rw [h.2.1, hn, if_pos (nI_le (Nat.le_refl _) (by omega)), nl1, nI_add]
      rfl
    · show b_X5_clashes_17 _ _ S U _ _ _ = _
      unfold b_X5_clashes_17
      rw [h.2.1, if_neg (nI_ge (by omega) (by omega)), t_doClash h hp (by omega), bd_s, ifb, nl1, nI_add, nI_add]
      have e : ct (hj T p) (j + 1) = ct (hj T p) j + (if cl2 T p (p + 1 + j) = true then 1 else 0) := rfl
      rw [e]
      by_cases q : cl2 T p (p + 1 + j) = true
      · rw [if_pos q, if_pos q]; rfl
      · rw [if_neg q, if_neg q]; rfl
/-- the first two that clash -/
def fpq (T : Tw) (p : Nat) : Option Int32 := if fi (hj T p) (rowN T p) < rowN T p then some (nI (10 * p + (p + 1 + fi (hj T p) (rowN T p)))) else none
def fcl (T : Tw) : Int32 := if fi (fun p => (fpq T p).isSome) (T 3 0) < T 3 0 then (fpq T (fi (fun p => (fpq T p).isSome) (T 3 0))).getD (-9) else -9
theorem t_firstClash {S U : G} {T : Tw} (h : rT U T) : f_X5_firstClash S U = some (fcl T, (S, U)) := by
  have ok := h.2.2.2.2.2.2
  have h8 := ok.2.1
  have hle := fi_le (fun p => (fpq T p).isSome) (T 3 0)
  have row : ∀ p, p < T 3 0 → ∀ k, f_X5_firstClash_14 k 1000 S U (nI p) (nI (p + 1)) = match fpq T p with
      | some v => some (v, (S, U))
      | none => k S U (nI (p + 1)) := by
    intro p hp k
    have hn : p + 1 + rowN T p = T 3 0 := by unfold rowN; omega
    have hl := fi_le (hj T p) (rowN T p)
    unfold fpq
    refine loopE (fun fuel j => f_X5_firstClash_14 k fuel S U (nI p) (nI (p + 1 + j))) (fi (hj T p) (rowN T p)) _ (fun g => ?_) (fun g j hj' => Or.inr ?_) 1000 0 (by omega) (by omega)
    · show b_X5_firstClash_14 _ _ S U _ _ = _
      unfold b_X5_firstClash_14
      by_cases c : fi (hj T p) (rowN T p) < rowN T p
      · have y : cl2 T p (p + 1 + fi (hj T p) (rowN T p)) = true := fi_yes (hj T p) _ c
        rw [h.2.1, if_neg (nI_ge (by omega) (by omega)), t_doClash h hp (by omega), bd_s, ifb, y, if_pos rfl, if_pos c, nl10, pk_mul, nI_add]
      · rw [h.2.1, show p + 1 + fi (hj T p) (rowN T p) = T 3 0 by omega, if_pos (nI_le (Nat.le_refl _) (by omega)), nl1, nI_add, if_neg c]
    · show b_X5_firstClash_14 _ _ S U _ _ = _
      unfold b_X5_firstClash_14
      have y : cl2 T p (p + 1 + j) = false := fi_no (hj T p) _ j hj'
      rw [h.2.1, if_neg (nI_ge (by omega) (by omega)), t_doClash h hp (by omega), bd_s, ifb, y, if_neg (by decide), nl1, nI_add]
      rfl
  unfold f_X5_firstClash
  refine loopE (fun fuel p => f_X5_firstClash_2 fuel S U (nI p)) (fi (fun p => (fpq T p).isSome) (T 3 0)) _ (fun f => ?_) (fun f p hp => Or.inr ?_) 1000 0 (by omega) (by omega)
  · show b_X5_firstClash_2 _ S U _ = _
    unfold b_X5_firstClash_2 fcl
    by_cases c : fi (fun p => (fpq T p).isSome) (T 3 0) < T 3 0
    · have y : (fpq T (fi (fun p => (fpq T p).isSome) (T 3 0))).isSome = true := fi_yes (fun p => (fpq T p).isSome) _ c
      rw [h.2.1, if_neg (nI_ge c (by omega)), show ∀ x : Nat, nI x + (1 : Int32) = nI (x + 1) from fun x => nI_add x 1, row _ c, if_pos c]
      cases z : fpq T (fi (fun p => (fpq T p).isSome) (T 3 0)) with
      | none => rw [z] at y; cases y
      | some v => rfl
    · rw [h.2.1, show fi (fun p => (fpq T p).isSome) (T 3 0) = T 3 0 by omega, if_pos (nI_le (Nat.le_refl _) (by omega)), if_neg (Nat.lt_irrefl _)]
  · show b_X5_firstClash_2 _ S U _ = _
    unfold b_X5_firstClash_2
    have y : (fpq T p).isSome = false := fi_no (fun p => (fpq T p).isSome) _ p hp
    rw [h.2.1, if_neg (nI_ge (by omega) (by omega)), show nI p + (1 : Int32) = nI (p + 1) from nI_add p 1, row p (by omega)]
    cases z : fpq T p with
    | none => rfl
    | some v => rw [z] at y; cases y
/-! the reference goes down -/
/-- the k uppermost, gone through downward -/
def dsc (c : Nat → Option Int32) (n : Nat) (f : Int32) : Nat → Int32
  | 0 => f
  | k + 1 => (c (n - 1 - k)).getD (dsc c n f k)
theorem fi_shift (F : Nat → Bool) (k : Nat) : fi F (k + 1) = if F 0 = true then 0 else fi (fun j => F (j + 1)) k + 1 := by
  by_cases c : F 0 = true
  · rw [if_pos c]
    exact fi_eq (by omega) c (fun j hj => absurd hj (Nat.not_lt_zero j))
  · rw [if_neg c]
    have c0 : F 0 = false := by cases q : F 0 with
      | false => rfl
      | true => exact absurd q c
    have hle := fi_le (fun j => F (j + 1)) k
    rcases Nat.lt_or_ge (fi (fun j => F (j + 1)) k) k with z | z
    · refine fi_eq (by omega) (fi_yes (fun j => F (j + 1)) k z) (fun j hj => ?_)
      cases j with
      | zero => exact c0
      | succ j => exact fi_no (fun j => F (j + 1)) k j (by omega)
    · have e : fi (fun j => F (j + 1)) k = k := by omega
      rw [e]
      refine fi_none (fun j hj => ?_)
      cases j with
      | zero => exact c0
      | succ j => exact fi_no (fun j => F (j + 1)) k j (by omega)
theorem dsc_first (c : Nat → Option Int32) (n : Nat) (f : Int32) : ∀ k, k ≤ n → dsc c n f k = if fi (fun j => (c (n - k + j)).isSome) k < k then (c (n - k + fi (fun j => (c (n - k + j)).isSome) k)).getD f else f
  | 0, _ => rfl
  | k + 1, hk => by
    have ih := dsc_first c n f k (by omega)
    have e1 : n - 1 - k = n - (k + 1) := by omega
    have e2 : (fun j => (c (n - (k + 1) + (j + 1))).isSome) = fun j => (c (n - k + j)).isSome := by
      funext j
      rw [show n - (k + 1) + (j + 1) = n - k + j by omega]
    rw [fi_shift (fun j => (c (n - (k + 1) + j)).isSome) k, e2]
    show (c (n - 1 - k)).getD (dsc c n f k) = _
    rw [e1]
    cases q : c (n - (k + 1)) with
    | some v =>
      simp [q]
    | none =>
      rw [if_neg (show ¬ (none : Option Int32).isSome = true by decide)]
      show dsc c n f k = _
      rw [ih]
      by_cases z : fi (fun j => (c (n - k + j)).isSome) k < k
      · rw [if_pos z, if_pos (by omega), show n - (k + 1) + (fi (fun j => (c (n - k + j)).isSome) k + 1) = n - k + fi (fun j => (c (n - k + j)).isSome) k by omega]
      · rw [if_neg z, if_neg (by omega)]
theorem dsc_all (c : Nat → Option Int32) (n : Nat) (f : Int32) : dsc c n f n = if fi (fun j => (c j).isSome) n < n then (c (fi (fun j => (c j).isSome) n)).getD f else f := by
  have h := dsc_first c n f n (Nat.le_refl n)
  simp only [Nat.sub_self, Nat.zero_add] at h
  exact h
def dct (f : Nat → Bool) (n : Nat) : Nat → Nat
  | 0 => 0
  | k + 1 => dct f n k + (if f (n - 1 - k) = true then 1 else 0)
theorem dct_all (f : Nat → Bool) (n : Nat) : ∀ k, k ≤ n → ct f (n - k) + dct f n k = ct f n
  | 0, _ => rfl
  | k + 1, hk => by
    have ih := dct_all f n k (by omega)
    have e : n - k = (n - (k + 1)) + 1 := by omega
    rw [e] at ih
    simp only [ct] at ih
    simp only [dct, show n - 1 - k = n - (k + 1) by omega]
    omega
def dsum (f : Nat → Nat) (n : Nat) : Nat → Nat
  | 0 => 0
  | k + 1 => dsum f n k + f (n - 1 - k)
theorem dsum_all (f : Nat → Nat) (n : Nat) : ∀ k, k ≤ n → sumD f (n - k) + dsum f n k = sumD f n
  | 0, _ => rfl
  | k + 1, hk => by
    have ih := dsum_all f n k (by omega)
    have e : n - k = (n - (k + 1)) + 1 := by omega
    rw [e] at ih
    simp only [sumD] at ih
    simp only [dsum, show n - 1 - k = n - (k + 1) by omega]
    omega
def dnI (a : Nat) : Int32 := nI a - 1
theorem dnI_s (a : Nat) : dnI (a + 1) = nI a := by
  unfold dnI
  rw [nl1, pk_sub (by omega)]
  rfl
theorem dnI_d (a : Nat) : nI a + (-1 : Int32) = dnI a := by
  unfold dnI
  rw [Int32.sub_eq_add_neg]
theorem m_clash {M : G} {T : Tw} {w : Nat} (h : rM M T) (ho : rO M none) (hw : w ≤ 1) : f_X7_clash_29 1000 M (nI w) 0 (-9) (M.1 8 - 1) = some (if w = 0 then nI (ccl T) else fcl T, M) := by
  have ok := h.2.2.2.2.2.2
  have h8 := ok.2.1
  have eC : ccl T = dsum (fun p => ct (hj T p) (rowN T p)) (T 3 0) (T 3 0) := by
    have := dsum_all (fun p => ct (hj T p) (rowN T p)) (T 3 0) (T 3 0) (Nat.le_refl _)
    rw [Nat.sub_self] at this
    unfold ccl
    simp only [sumD] at this
    omega
  have eF : fcl T = dsc (fpq T) (T 3 0) (-9) (T 3 0) := by rw [dsc_all]; rfl
  rw [h.2.1, eC, eF]
  refine loopE (fun fuel i => f_X7_clash_29 fuel M (nI w) (nI (dsum (fun p => ct (hj T p) (rowN T p)) (T 3 0) i)) (dsc (fpq T) (T 3 0) (-9) i) (dnI (T 3 0 - i))) (T 3 0) _ (fun f => ?_) (fun f i hi => Or.inr ?_) 1000 0 (by omega) (by omega)
  · show b_X7_clash_29 _ M _ _ _ _ = _
    unfold b_X7_clash_29
    rw [Nat.sub_self, if_pos (show dnI 0 < 0 by decide)]
    rcases (show w = 0 ∨ w = 1 by omega) with rfl | rfl
    · rw [if_pos (show nI 0 = 0 from rfl), if_pos rfl]
    · rw [if_neg (by decide), if_neg (by decide)]
  · show b_X7_clash_29 _ M _ _ _ _ = _
    unfold b_X7_clash_29
    have hp : T 3 0 - 1 - i < T 3 0 := by omega
    have e0 : T 3 0 - i = (T 3 0 - 1 - i) + 1 := by omega
    have hn : (T 3 0 - 1 - i) + 1 + rowN T (T 3 0 - 1 - i) = T 3 0 := by unfold rowN; omega
    have er : rowN T (T 3 0 - 1 - i) = i := by unfold rowN; omega
    rw [e0, dnI_s, if_neg (nI_pos (by omega)), h.2.1]
    have eI : dsc (fpq T) (T 3 0) (-9) (i + 1) = dsc (fun j => if hj T (T 3 0 - 1 - i) j = true then some (nI (10 * (T 3 0 - 1 - i) + ((T 3 0 - 1 - i) + 1 + j))) else none) i (dsc (fpq T) (T 3 0) (-9) i) i := by
      rw [dsc_all]
      show (fpq T (T 3 0 - 1 - i)).getD (dsc (fpq T) (T 3 0) (-9) i) = _
      have ef : (fun j => (if hj T (T 3 0 - 1 - i) j = true then some (nI (10 * (T 3 0 - 1 - i) + ((T 3 0 - 1 - i) + 1 + j))) else none).isSome) = hj T (T 3 0 - 1 - i) := by
        funext j
        cases hj T (T 3 0 - 1 - i) j <;> rfl
      rw [ef]
      unfold fpq
      rw [er]
      by_cases c : fi (hj T (T 3 0 - 1 - i)) i < i
      · rw [if_pos c, if_pos c, fi_yes _ _ c, if_pos rfl]; try rfl
      · rw [if_neg c, if_neg c]; try rfl
    have eS : dsum (fun p => ct (hj T p) (rowN T p)) (T 3 0) (i + 1) = dsum (fun p => ct (hj T p) (rowN T p)) (T 3 0) i + dct (hj T (T 3 0 - 1 - i)) i i := by
      have := dct_all (hj T (T 3 0 - 1 - i)) i i (Nat.le_refl _)
      rw [Nat.sub_self] at this
      simp only [ct] at this
      simp only [dsum]
      rw [er]
      omega
    rw [eI, eS]
    refine loopE (fun fuel k => f_X7_clash_42 (f_X7_clash_29 f) fuel M (nI w) (nI (dsum (fun p => ct (hj T p) (rowN T p)) (T 3 0) i + dct (hj T (T 3 0 - 1 - i)) i k)) (dsc (fun j => if hj T (T 3 0 - 1 - i) j = true then some (nI (10 * (T 3 0 - 1 - i) + ((T 3 0 - 1 - i) + 1 + j))) else none) i (dsc (fpq T) (T 3 0) (-9) i) k) (nI (T 3 0 - 1 - i)) (dnI (T 3 0 - k))) i _ (fun g => ?_) (fun g k hk => Or.inr ?_) 1000 0 (by omega) (by omega)
    · show b_X7_clash_42 _ _ M _ _ _ _ _ = _
      unfold b_X7_clash_42
      rw [e0, dnI_s, if_pos (nI_le (Nat.le_refl _) (by omega)), dnI_d, show T 3 0 - 1 - i = T 3 0 - (i + 1) by omega]
    · show b_X7_clash_42 _ _ M _ _ _ _ _ = _
      unfold b_X7_clash_42
      have ek : T 3 0 - k = (T 3 0 - 1 - i) + 1 + (i - 1 - k) + 1 := by omega
      rw [ek, dnI_s, if_neg (nI_ge (by omega) (by omega)), m_areClashing h ho (by omega) (by omega), bd_s, ifb, dnI_d, nl10, pk_mul, nI_add, nl1, nI_add, show (T 3 0 - 1 - i) + 1 + (i - 1 - k) = T 3 0 - (k + 1) by omega]
      simp only [dct, dsc]
      have e : hj T (T 3 0 - 1 - i) (i - 1 - k) = cl2 T (T 3 0 - 1 - i) (T 3 0 - (k + 1)) := by
        unfold hj
        rw [show T 3 0 - 1 - i + 1 + (i - 1 - k) = T 3 0 - (k + 1) by omega]
      have e3 : T 3 0 - 1 - i + 1 + (i - 1 - k) = T 3 0 - (k + 1) := by omega
      cases q : cl2 T (T 3 0 - 1 - i) (T 3 0 - (k + 1)) <;> simp [e, q, e3, Nat.add_assoc]
/-! the greatest number who agree -/
def agH (T : Tw) (v : Nat) : Bool := allB (fun p => !v.testBit p || (hsome T p && !anyB (fun q => v.testBit q && cl2 T p q) (T 3 0))) (T 3 0)
def bst (H : Nat → Bool) : Nat → Nat
  | 0 => 0
  | i + 1 => if pc8 (bst H i) < pc8 (i + 1) ∧ H (i + 1) = true then i + 1 else bst H i
theorem bst_le (H : Nat → Bool) : ∀ i, bst H i ≤ i
  | 0 => Nat.le_refl 0
  | i + 1 => by
    have := bst_le H i
    simp only [bst]
    split <;> omega
theorem not8 : ∀ b, b < 256 → nI b ^^^ (-1 : Int32) = nI (4294967295 - b) := by decide +kernel
theorem not8b : ∀ b, b < 256 → ∀ i, i < 8 → (4294967295 - b).testBit i = !b.testBit i := by decide +kernel
theorem sub8 {a : Nat} (ha : a < 256) {f : Nat → Bool} {n : Nat} (hn : n ≤ 8) (han : a < 2 ^ n) : (nI a &&& (nI (mk f n) ^^^ (-1 : Int32)) = 0) ↔ ∀ i, i < n → a.testBit i = true → f i = true := by
  have hl := mk_lt f n
  have hpw : 2 ^ n ≤ 2 ^ 8 := Nat.pow_le_pow_right (by decide) hn
  have hle : a &&& (4294967295 - mk f n) ≤ a := Nat.and_le_left
  rw [not8 _ (by omega), andN, nl0, nI_eq (by omega) (by decide)]
  constructor
  · intro z i hi hb
    have t := congrArg (fun x => x.testBit i) z
    simp only [Nat.testBit_and, Nat.zero_testBit] at t
    rw [hb, not8b _ (by omega) i (by omega), mk_bit] at t
    simp [hi] at t
    exact t
  · intro z
    apply Nat.eq_of_testBit_eq
    intro i
    rw [Nat.testBit_and, Nat.zero_testBit]
    cases hb : a.testBit i with
    | false => rfl
    | true =>
      have hi : i < n := by
        rcases Nat.lt_or_ge i n with y | y
        · exact y
        · have : a < 2 ^ i := Nat.lt_of_lt_of_le han (Nat.pow_le_pow_right (by decide) y)
          rw [Nat.testBit_lt_two_pow this] at hb
          cases hb
      rw [not8b _ (by omega) i (by omega), mk_bit, z i hi hb]
      simp [hi]
theorem and8 {v : Nat} {f : Nat → Bool} {n : Nat} (hn : n ≤ 8) : (nI (mk f n) &&& nI v = 0) ↔ anyB (fun q => v.testBit q && f q) n = false := by
  have hl := mk_lt f n
  have hpw : 2 ^ n ≤ 2 ^ 8 := Nat.pow_le_pow_right (by decide) hn
  have hle : mk f n &&& v ≤ mk f n := Nat.and_le_left
  rw [andN, nl0, nI_eq (by omega) (by decide), anyB_not]
  constructor
  · intro z i hi
    have t := congrArg (fun x => x.testBit i) z
    simp only [Nat.testBit_and, Nat.zero_testBit, mk_bit] at t
    simp [hi] at t
    cases y : v.testBit i with
    | false => rfl
    | true =>
      cases x : f i with
      | false => rfl
      | true => rw [t x] at y; cases y
  · intro z
    apply Nat.eq_of_testBit_eq
    intro i
    rw [Nat.testBit_and, Nat.zero_testBit, mk_bit]
    by_cases hi : i < n
    · have := z i hi
      cases y : v.testBit i with
      | false => simp
      | true =>
        rw [y] at this
        simp at this
        simp [this]
    · simp [hi]
/-- foes of those below i are written -/
def foeI (T : Tw) (i : Nat) (S : G) : Prop := ∀ p, p < i → S.2 0 p = nI (mk (cl2 T p) (T 3 0))
theorem t_findFoes {S U : G} {T : Tw} (h : rT U T) : ∃ S', f_X5_findFoes S U = some ((), (S', U)) ∧ foeI T (T 3 0) S' := by
  have ok := h.2.2.2.2.2.2
  have h8 := ok.2.1
  unfold f_X5_findFoes
  refine loopR (fun fuel p (s : G) => f_X5_findFoes_2 fuel s U (nI p)) (fun p s => foeI T p s) (T 3 0) (fun r => ∃ S', r = some ((), (S', U)) ∧ foeI T (T 3 0) S') (fun f s hs => ?_) (fun f p s hp hs => Or.inr ?_) (T 3 0) 0 1000 S (by omega) (by omega) (fun p hp => absurd hp (Nat.not_lt_zero p))
  · refine ⟨s, ?_, hs⟩
    show b_X5_findFoes_2 _ s U _ = _
    unfold b_X5_findFoes_2
    rw [h.2.1, if_pos (nI_le (Nat.le_refl _) (by omega))]
  · have hp8 := ok_p ok hp
    have key := loopR (fun fuel q (t : G) => f_X5_findFoes_19 (f_X5_findFoes_2 f) fuel t U (nI p) (nI q)) (fun q t => foeI T p t ∧ t.2 0 p = nI (mk (cl2 T p) q)) (T 3 0) (fun r => ∃ t, foeI T (p + 1) t ∧ r = f_X5_findFoes_2 f t U (nI (p + 1))) (fun g t ht => ?_) (fun g q t hq ht => Or.inr ?_) (T 3 0) 0 1000 (pA s 0 p 0) (by omega) (by omega) ⟨fun r hr => ?_, ?_⟩
    · obtain ⟨t, ht, e⟩ := key
      refine ⟨t, ht, ?_⟩
      show b_X5_findFoes_2 _ s U _ = _
      unfold b_X5_findFoes_2
      rw [h.2.1, if_neg (nI_ge hp (by omega)), ckn hp8 (by decide), if_pos rfl, lt_s', cln (by omega)]
      exact e
    · refine ⟨t, fun r hr => ?_, ?_⟩
      · rcases Nat.lt_or_ge r p with z | z
        · exact ht.1 r z
        · rw [show r = p by omega]; exact ht.2
      · show b_X5_findFoes_19 _ _ t U _ _ = _
        unfold b_X5_findFoes_19
        rw [h.2.1, if_pos (nI_le (Nat.le_refl _) (by omega)), nl1, nI_add]
    · show ∃ s', _ ∧ b_X5_findFoes_19 _ _ t U _ _ = _
      unfold b_X5_findFoes_19
      rw [h.2.1, if_neg (nI_ge hq (by omega)), t_doClash h hp hq, bd_s, ifb, ckn hp8 (by decide), cln (by omega), ht.2, sh1 q (by omega), orN, mk_or, nl1, nI_add]
      simp only [if_true, lt_s']
      cases y : cl2 T p q with
      | true =>
        refine ⟨pA t 0 p (nI (mk (cl2 T p) q + 2 ^ q)), ⟨fun r hr => ?_, ?_⟩, rfl⟩
        · rw [pA_2, if_pos rfl, updE, if_neg (by omega)]; exact ht.1 r hr
        · rw [pA_2, if_pos rfl, updE, if_pos rfl]
          simp only [mk]
          rw [if_pos y]
      | false =>
        refine ⟨t, ⟨ht.1, ?_⟩, rfl⟩
        rw [ht.2]
        simp only [mk]
        rw [if_neg (by rw [y]; decide), Nat.add_zero]
    · rw [pA_2, if_pos rfl, updE, if_neg (by omega)]; exact hs r hr
    · rw [pA_2, if_pos rfl, updE, if_pos rfl]; rfl
theorem t_isPeaceful {S : G} {T : Tw} {v : Nat} (ok : okT T) (h : foeI T (T 3 0) S) (hv : v < 2 ^ T 3 0) : f_X5_isPeaceful S (nI v) = some (bI (!anyB (fun p => v.testBit p && anyB (fun q => v.testBit q && cl2 T p q) (T 3 0)) 8), S) := by
  have h8 := ok.2.1
  have hpw : 2 ^ (T 3 0) ≤ 2 ^ 8 := Nat.pow_le_pow_right (by decide) h8
  unfold f_X5_isPeaceful
  refine loopAny (fun fuel i => f_X5_isPeaceful_2 fuel S (nI v) (nI i)) (fun p => v.testBit p && anyB (fun q => v.testBit q && cl2 T p q) (T 3 0)) 8 (fun b => some (bI (!b), S)) (fun f => ?_) (fun f i hi => ?_) 1000 (by omega)
  · show b_X5_isPeaceful_2 _ S _ _ = _
    unfold b_X5_isPeaceful_2
    rw [if_pos (by decide)]; rfl
  · show b_X5_isPeaceful_2 _ S _ _ = _
    unfold b_X5_isPeaceful_2
    rw [if_neg (show ¬ (8 : Int32) ≤ nI i from nI_ge (b := 8) hi (by decide)), bitN (by omega) (by omega), ifb, ckn hi (by decide), if_pos rfl, cln (by omega), nl1, nI_add]
    cases hb : v.testBit i with
    | false => simp
    | true =>
      have hiP : i < T 3 0 := by
        rcases Nat.lt_or_ge i (T 3 0) with y | y
        · exact y
        · have : v < 2 ^ i := Nat.lt_of_lt_of_le hv (Nat.pow_le_pow_right (by decide) y)
          rw [Nat.testBit_lt_two_pow this] at hb
          cases hb
      rw [h i hiP]
      simp only [and8 h8, Bool.true_and, if_true]
      cases q : anyB (fun q => v.testBit q && cl2 T i q) (T 3 0) <;> simp <;> rfl
theorem agH_class {T : Tw} {v : Nat} (ok : okT T) (hv : v < 2 ^ T 3 0) : agH T v = true ↔ (nI v &&& (nI (mk (hsome T) (T 3 0)) ^^^ (-1 : Int32)) = 0) ∧ anyB (fun p => v.testBit p && anyB (fun q => v.testBit q && cl2 T p q) (T 3 0)) 8 = false := by
  have h8 := ok.2.1
  have hpw : 2 ^ (T 3 0) ≤ 2 ^ 8 := Nat.pow_le_pow_right (by decide) h8
  unfold agH
  rw [allB_iff, sub8 (by omega) h8 hv, anyB_not]
  constructor
  · intro z
    refine ⟨fun i hi hb => ?_, fun i hi => ?_⟩
    · have := z i hi
      rw [hb] at this
      simp at this
      exact this.1
    · cases hb : v.testBit i with
      | false => rfl
      | true =>
        have hiP : i < T 3 0 := by
          rcases Nat.lt_or_ge i (T 3 0) with y | y
          · exact y
          · have : v < 2 ^ i := Nat.lt_of_lt_of_le hv (Nat.pow_le_pow_right (by decide) y)
            rw [Nat.testBit_lt_two_pow this] at hb
            cases hb
        have := z i hiP
        rw [hb] at this
        simp at this
        simp [this.2]
  · rintro ⟨z1, z2⟩ i hi
    cases hb : v.testBit i with
    | false => rfl
    | true =>
      have a := z1 i hi hb
      have b := z2 i (by omega)
      rw [hb] at b
      simp at b
      simp [a, b]
theorem t_mostAgreed {S U : G} {T : Tw} (h : rT U T) : ∃ S', f_X5_mostAgreed S U = some (nI (bst (agH T) (2 ^ T 3 0 - 1)), (S', U)) := by
  have ok := h.2.2.2.2.2.2
  have h8 := ok.2.1
  have hpw : 2 ^ (T 3 0) ≤ 2 ^ 8 := Nat.pow_le_pow_right (by decide) h8
  have hp0 : 0 < 2 ^ (T 3 0) := Nat.two_pow_pos _
  obtain ⟨s, e, hs⟩ := t_findFoes (S := S) h
  refine ⟨s, ?_⟩
  unfold f_X5_mostAgreed
  rw [e, bd_s, t_hearersOfSome h, bd_s]
  refine loopE (fun fuel i => f_X5_mostAgreed_15 fuel s U (nI (mk (hsome T) (T 3 0))) (nI (bst (agH T) i)) (nI (i + 1))) (2 ^ T 3 0 - 1) _ (fun f => ?_) (fun f i hi => Or.inr ?_) 1000 0 (by omega) (by omega)
  · show b_X5_mostAgreed_15 _ s U _ _ _ = _
    unfold b_X5_mostAgreed_15
    rw [h.2.1, sh1 _ (by omega), if_pos (nI_le (by omega) (by omega))]
  · show b_X5_mostAgreed_15 _ s U _ _ _ = _
    unfold b_X5_mostAgreed_15
    have hb := bst_le (agH T) i
    have p1 := pc8_le (i + 1)
    have p2 := pc8_le (bst (agH T) i)
    have ag := agH_class ok (v := i + 1) (by omega)
    rw [h.2.1, sh1 _ (by omega), if_neg (nI_ge (by omega) (by omega)), jbits _ (by omega), bd_s, jbits _ (by omega), bd_s, t_isPeaceful ok hs (by omega), bd_s, ifb, show nI (i + 1) + (1 : Int32) = nI (i + 1 + 1) from nI_add _ 1]
    simp only [bst]
    by_cases c1 : nI (i + 1) &&& (nI (mk (hsome T) (T 3 0)) ^^^ (-1 : Int32)) = 0
    · rw [if_pos c1]
      by_cases c2 : pc8 (bst (agH T) i) < pc8 (i + 1)
      · rw [if_neg (nI_ge c2 (by omega))]
        cases c3 : anyB (fun p => (i + 1).testBit p && anyB (fun q => (i + 1).testBit q && cl2 T p q) (T 3 0)) 8 with
        | false =>
          rw [if_pos (by decide), if_pos ⟨c2, ag.mpr ⟨c1, c3⟩⟩]
        | true =>
          rw [if_neg (by decide), if_neg (fun z => by have := (ag.mp z.2).2; rw [c3] at this; cases this)]
      · rw [if_pos (nI_le (by omega) (by omega)), if_neg (fun z => c2 z.1)]
    · rw [if_neg c1, if_neg (fun z => c1 (ag.mp z.2).1)]
theorem agH_model (T : Tw) (v : Nat) : agH T v = !anyB (fun p => v.testBit p && (!hsome T p || anyB (fun j => v.testBit (p + 1 + j) && cl2 T p (p + 1 + j)) (rowN T p))) (T 3 0) := by
  have key : agH T v = true ↔ anyB (fun p => v.testBit p && (!hsome T p || anyB (fun j => v.testBit (p + 1 + j) && cl2 T p (p + 1 + j)) (rowN T p))) (T 3 0) = false := by
    unfold agH
    rw [allB_iff, anyB_not]
    constructor
    · intro z p hp
      have := z p hp
      cases hb : v.testBit p with
      | false => rfl
      | true =>
        rw [hb] at this
        simp at this
        obtain ⟨a, b⟩ := this
        rw [a]
        simp
        rw [anyB_not] at b ⊢
        intro j hj
        exact b (p + 1 + j) (by unfold rowN at hj; omega)
    · intro z p hp
      cases hb : v.testBit p with
      | false => rfl
      | true =>
        have zp := z p hp
        rw [hb] at zp
        simp at zp
        obtain ⟨a, b⟩ := zp
        rw [a]
        simp
        rw [anyB_not]
        intro q hq
        cases hc : v.testBit q with
        | false => rfl
        | true =>
          rcases Nat.lt_trichotomy p q with y | y | y
          · have := (anyB_not _ _).mp b (q - p - 1) (by unfold rowN; omega)
            rw [show p + 1 + (q - p - 1) = q by omega, hc] at this
            exact this
          · subst y; rw [cl2_self]; rfl
          · have zq := z q hq
            rw [hc] at zq
            simp at zq
            have := (anyB_not _ _).mp zq.2 (p - q - 1) (by unfold rowN; omega)
            rw [show q + 1 + (p - q - 1) = p by omega, hb] at this
            rw [cl2_comm]
            exact this
  cases q : anyB (fun p => v.testBit p && (!hsome T p || anyB (fun j => v.testBit (p + 1 + j) && cl2 T p (p + 1 + j)) (rowN T p))) (T 3 0) with
  | false => rw [key.mpr q]; rfl
  | true =>
    cases r : agH T v with
    | false => rfl
    | true => rw [key.mp r] at q; cases q
theorem m_areAgreed {M : G} {T : Tw} {v : Nat} (h : rM M T) (ho : rO M none) (hv : v < 256) : f_X7_areAgreed M (nI v) = some (bI (agH T v), M) := by
  have ok := h.2.2.2.2.2.2
  have h8 := ok.2.1
  rw [agH_model]
  unfold f_X7_areAgreed
  refine loopAny (fun fuel i => f_X7_areAgreed_2 fuel M (nI v) (nI i)) (fun p => v.testBit p && (!hsome T p || anyB (fun j => v.testBit (p + 1 + j) && cl2 T p (p + 1 + j)) (rowN T p))) (T 3 0) (fun b => some (bI (!b), M)) (fun f => ?_) (fun f p hp => ?_) 1000 (by omega)
  · show b_X7_areAgreed_2 _ M _ _ = _
    unfold b_X7_areAgreed_2
    rw [h.2.1, if_pos (nI_le (Nat.le_refl _) (by omega))]; rfl
  · show b_X7_areAgreed_2 _ M _ _ = _
    have hn : p + 1 + rowN T p = T 3 0 := by unfold rowN; omega
    have inner : f_X7_areAgreed_35 (f_X7_areAgreed_2 f) 1000 M (nI v) (nI p) (nI (p + 1)) = if anyB (fun j => v.testBit (p + 1 + j) && cl2 T p (p + 1 + j)) (rowN T p) = true then some (0, M) else f_X7_areAgreed_2 f M (nI v) (nI (p + 1)) := by
      refine loopAny (fun fuel j => f_X7_areAgreed_35 (f_X7_areAgreed_2 f) fuel M (nI v) (nI p) (nI (p + 1 + j))) (fun j => v.testBit (p + 1 + j) && cl2 T p (p + 1 + j)) (rowN T p) (fun b => if b = true then some (0, M) else f_X7_areAgreed_2 f M (nI v) (nI (p + 1))) (fun g => ?_) (fun g j hj' => ?_) 1000 (by unfold rowN; omega)
      · show b_X7_areAgreed_35 _ _ M _ _ _ = _
        unfold b_X7_areAgreed_35
        rw [h.2.1, hn, if_pos (nI_le (Nat.le_refl _) (by omega)), nl1, nI_add]; rfl
      · show b_X7_areAgreed_35 _ _ M _ _ _ = _
        unfold b_X7_areAgreed_35
        rw [h.2.1, if_neg (nI_ge (by omega) (by omega)), m_has (by omega) (by omega), bd_s, ifb, m_areClashing h ho hp (by omega), bd_s, ifb, nl1, nI_add]
        cases q1 : v.testBit (p + 1 + j) <;> cases q2 : cl2 T p (p + 1 + j) <;> simp <;> rfl
    unfold b_X7_areAgreed_2
    rw [h.2.1, if_neg (nI_ge hp (by omega)), m_has (by omega) (by omega), bd_s, ifb, m_hearsSome h ho hp, hsO_none, bd_s, ifb, show nI p + (1 : Int32) = nI (p + 1) from nI_add p 1, inner]
    cases q1 : v.testBit p <;> cases q2 : hsome T p <;> cases q3 : anyB (fun j => v.testBit (p + 1 + j) && cl2 T p (p + 1 + j)) (rowN T p) <;> simp <;> rfl
theorem m_agreed {M : G} {T : Tw} {w : Nat} (h : rM M T) (ho : rO M none) (hw : w ≤ 1) : f_X7_agreed_20 1000 M (nI w) 0 1 = some (if w = 0 then nI (pc8 (bst (agH T) (2 ^ T 3 0 - 1))) else nI (bst (agH T) (2 ^ T 3 0 - 1)), M) := by
  have ok := h.2.2.2.2.2.2
  have h8 := ok.2.1
  have hpw : 2 ^ (T 3 0) ≤ 2 ^ 8 := Nat.pow_le_pow_right (by decide) h8
  have hp0 : 0 < 2 ^ (T 3 0) := Nat.two_pow_pos _
  refine loopE (fun fuel i => f_X7_agreed_20 fuel M (nI w) (nI (bst (agH T) i)) (nI (i + 1))) (2 ^ T 3 0 - 1) _ (fun f => ?_) (fun f i hi => Or.inr ?_) 1000 0 (by omega) (by omega)
  · have hb := bst_le (agH T) (2 ^ T 3 0 - 1)
    show b_X7_agreed_20 _ M _ _ _ = _
    unfold b_X7_agreed_20
    rw [h.2.1, sh1 _ (by omega), if_pos (nI_le (by omega) (by omega)), mbits _ (by omega), bd_s]
    rcases (show w = 0 ∨ w = 1 by omega) with rfl | rfl
    · rw [if_pos (show nI 0 = 0 from rfl), if_pos rfl]
    · rw [if_neg (by decide), if_neg (by decide)]
  · have hb := bst_le (agH T) i
    have p1 := pc8_le (i + 1)
    have p2 := pc8_le (bst (agH T) i)
    show b_X7_agreed_20 _ M _ _ _ = _
    unfold b_X7_agreed_20
    rw [h.2.1, sh1 _ (by omega), if_neg (nI_ge (by omega) (by omega)), mbits _ (by omega), bd_s, mbits _ (by omega), bd_s, m_areAgreed h ho (by omega), bd_s, ifb, nl1, nI_add]
    simp only [bst]
    by_cases c2 : pc8 (bst (agH T) i) < pc8 (i + 1)
    · rw [if_neg (nI_ge c2 (by omega))]
      cases c3 : agH T (i + 1) with
      | true => rw [if_pos rfl, if_pos ⟨c2, rfl⟩]
      | false => rw [if_neg (by decide), if_neg (fun z => by cases z.2)]
    · rw [if_pos (nI_le (by omega) (by omega)), if_neg (fun z => c2 z.1)]
