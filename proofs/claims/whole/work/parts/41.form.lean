/-! the letters: their form -/
def sg (c : Nat → Nat) (n i : Nat) : Nat := if i < n then c i else 256
def isD (y : Nat) : Bool := decide (48 ≤ y) && decide (y ≤ 57)
def kdx (y : Nat) : Nat := if y = 112 then 0 else if y = 99 then 1 else if y = 119 then 2 else if y = 100 then 3 else if y = 108 then 4 else if y = 111 then 5 else 9
def isK (y : Nat) : Bool := decide (kdx y < 9)
def ln (x : Nat) : Nat := if x = 98 then 3 else if x = 112 then 4 else if x = 103 then 2 else if x = 115 then 3 else if x = 101 then 1 else if x = 100 then 2 else 0
def isL (x : Nat) : Bool := decide (0 < ln x)
def okc (x j y : Nat) : Bool := if j = ln x then decide (y = 59) else if x = 112 ∧ j = 0 then isK y else isD y
def ff (c : Nat → Nat) (n a : Nat) : Nat := fi (fun j => !okc (c a) j (sg c n (a + 1 + j))) (ln (c a) + 1)
def gd (c : Nat → Nat) (n a : Nat) : Bool := isL (sg c n a) && decide (ff c n a = ln (c a) + 1)
def bp (c : Nat → Nat) (n a : Nat) : Nat := if isL (sg c n a) = true then a + 1 + ff c n a else a
def nx (c : Nat → Nat) (a : Nat) : Nat := a + ln (c a) + 2
theorem okc_256 (x j : Nat) : okc x j 256 = false := by
  unfold okc
  split
  · rfl
  · split <;> rfl
theorem ln_le (x : Nat) : ln x ≤ 4 := by
  unfold ln
  repeat' split
  all_goals omega
theorem sg_lt {c : Nat → Nat} {n i x j : Nat} (h : okc x j (sg c n i) = true) : i < n ∧ sg c n i = c i := by
  by_cases q : i < n
  · exact ⟨q, by unfold sg; rw [if_pos q]⟩
  · unfold sg at h
    rw [if_neg q, okc_256] at h
    cases h
theorem gd_iff {c : Nat → Nat} {n a : Nat} : gd c n a = true ↔ a < n ∧ 0 < ln (c a) ∧ ∀ j, j ≤ ln (c a) → okc (c a) j (sg c n (a + 1 + j)) = true := by
  unfold gd
  rw [Bool.and_eq_true, decide_eq_true_eq]
  constructor
  · rintro ⟨h1, h2⟩
    have ha : a < n := by
      rcases Nat.lt_or_ge a n with z | z
      · exact z
      · unfold sg at h1
        rw [if_neg (by omega)] at h1
        cases h1
    refine ⟨ha, ?_, fun j hj => ?_⟩
    · unfold sg at h1
      rw [if_pos ha] at h1
      unfold isL at h1
      simpa using h1
    · have := fi_no (fun j => !okc (c a) j (sg c n (a + 1 + j))) (ln (c a) + 1) j (by show j < ff c n a; omega)
      simpa using this
  · rintro ⟨ha, h0, h⟩
    refine ⟨?_, fi_none (fun j hj => by rw [h j (by omega)]; rfl)⟩
    unfold sg isL
    rw [if_pos ha]
    simpa using h0
theorem gd_nx {c : Nat → Nat} {n a : Nat} (h : gd c n a = true) : nx c a ≤ n ∧ c (a + 1 + ln (c a)) = 59 := by
  obtain ⟨-, -, h3⟩ := gd_iff.mp h
  have q := h3 (ln (c a)) (Nat.le_refl _)
  obtain ⟨q1, q2⟩ := sg_lt q
  rw [q2] at q
  unfold okc at q
  rw [if_pos rfl] at q
  exact ⟨by unfold nx; omega, by simpa using q⟩
/-- the answer of the look at the form -/
def rs (c : Nat → Nat) (n : Nat) : Nat → Nat → Int32
  | 0, _ => if n = 0 then nI 0 else -9
  | m + 1, a => if a < n then (if gd c n a = true then rs c n m (nx c a) else nI (bp c n a)) else if n = 0 then nI 0 else -9
def rL (L : G) (c : Nat → Nat) (n : Nat) : Prop := L.1 2 = nI n ∧ n ≤ 96 ∧ ∀ i, i < n → L.2 0 i = nI (c i) ∧ c i < 256
def dgb (x : Nat) : Nat := if x = 112 then 3 else ln x
theorem t_digitsBehind : ∀ x, x < 256 → f_X0_digitsBehind (nI x) = some (nI (dgb x), ()) := by decide +kernel
theorem t_kindBy : ∀ y, y < 256 → f_X0_kindBy (nI y) = some (if kdx y < 9 then nI (kdx y) else -1, ()) := by decide +kernel
def ddu (x j : Nat) : Nat := if x = 112 then (if j = 0 then 3 else 4 - j) else ln x - j
theorem k_out {L : G} {c : Nat → Nat} {n a : Nat} (h : rL L c n) (ha : a < n) (k : G → Int32 → Int32 → Int32 → Int32 → Option (Int32 × G)) : b_X0_faultOfForm_9 k L 0 0 0 (nI a) = if isL (c a) = true then k L 1 (bI (decide (c a = 112))) (nI (ddu (c a) 0)) (nI (a + 1)) else some (nI a, L) := by
  obtain ⟨h1, h2, h3⟩ := h
  obtain ⟨e, hc⟩ := h3 a ha
  have e0 : ddu (c a) 0 = dgb (c a) := by
    unfold ddu dgb
    split
    · rfl
    · omega
  have hd : dgb (c a) < 2 ^ 31 := by
    have := ln_le (c a)
    unfold dgb
    split <;> omega
  have hl : (nI (dgb (c a)) = 0) ↔ ¬ isL (c a) = true := by
    rw [nl0, nI_eq hd (by decide)]
    unfold isL dgb
    by_cases q : c a = 112
    · rw [if_pos q, q]; decide
    · rw [if_neg q]; simp
  unfold b_X0_faultOfForm_9
  rw [h1, if_neg (nI_ge ha (by omega)), ckn (show a < 96 by omega) (by decide), if_pos rfl, if_pos rfl, cln (by omega), e, t_digitsBehind _ hc, bd_s, e0, show nI a + (1 : Int32) = nI (a + 1) from nI_add a 1]
  by_cases q : isL (c a) = true
  · rw [if_neg (fun z => hl.mp z q), if_pos q]
    have e112 : (nI (c a) = (112 : Int32)) ↔ c a = 112 := nI_eq (b := 112) (by omega) (by decide)
    by_cases z : c a = 112
    · rw [if_pos (e112.mpr z), show decide (c a = 112) = true by simp [z]]; rfl
    · rw [if_neg (fun y => z (e112.mp y)), show decide (c a = 112) = false by simp [z]]; rfl
  · rw [if_pos (hl.mpr q), if_neg q]
theorem k_kind {L : G} {c : Nat → Nat} {n p : Nat} {x : Int32} (h : rL L c n) (hp : p < n) (k : G → Int32 → Int32 → Int32 → Int32 → Option (Int32 × G)) : b_X0_faultOfForm_9 k L 1 1 x (nI p) = if isK (c p) = true then k L 1 0 x (nI (p + 1)) else some (nI p, L) := by
  obtain ⟨h1, h2, h3⟩ := h
  obtain ⟨e, hc⟩ := h3 p hp
  unfold b_X0_faultOfForm_9
  rw [h1, if_neg (nI_ge hp (by omega)), ckn (show p < 96 by omega) (by decide), if_pos rfl, if_neg (by decide), if_neg (by decide), cln (by omega), e, t_kindBy _ hc, bd_s, show nI p + (1 : Int32) = nI (p + 1) from nI_add p 1]
  unfold isK
  by_cases q : kdx (c p) < 9
  · rw [if_pos q, if_pos (show (0 : Int32) ≤ nI (kdx (c p)) from nI_pos' (by omega)), if_pos (by simp [q])]
  · rw [if_neg q, if_neg (by decide), if_neg (by simp [q])]
theorem k_dig {L : G} {c : Nat → Nat} {n p d : Nat} (h : rL L c n) (hp : p < n) (hd : d ≤ 5) (k : G → Int32 → Int32 → Int32 → Int32 → Option (Int32 × G)) : b_X0_faultOfForm_9 k L 1 0 (nI (d + 1)) (nI p) = if isD (c p) = true then k L 1 0 (nI d) (nI (p + 1)) else some (nI p, L) := by
  obtain ⟨h1, h2, h3⟩ := h
  obtain ⟨e, hc⟩ := h3 p hp
  unfold b_X0_faultOfForm_9
  rw [h1, if_neg (nI_ge hp (by omega)), ckn (show p < 96 by omega) (by decide), if_pos rfl, if_neg (by decide), if_pos rfl, if_neg (nI_nle (by omega) (by omega)), cln (by omega), e, pk_m1, show nI p + (1 : Int32) = nI (p + 1) from nI_add p 1]
  unfold isD
  have e48 : (nI (c p) < (48 : Int32)) ↔ c p < 48 := nI_ltI (b := 48) (by omega) (by decide)
  have e57 : (nI (c p) ≤ (57 : Int32)) ↔ c p ≤ 57 := nI_leI (b := 57) (by omega) (by decide)
  by_cases q1 : c p < 48
  · rw [if_pos (e48.mpr q1), if_neg (by simp; omega)]
  · rw [if_neg (fun z => q1 (e48.mp z))]
    by_cases q2 : c p ≤ 57
    · rw [if_pos (e57.mpr q2), if_pos (by simp; omega)]
    · rw [if_neg (fun z => q2 (e57.mp z)), if_neg (by simp; omega)]
theorem k_end {L : G} {c : Nat → Nat} {n p : Nat} (h : rL L c n) (hp : p < n) (k : G → Int32 → Int32 → Int32 → Int32 → Option (Int32 × G)) : b_X0_faultOfForm_9 k L 1 0 (nI 0) (nI p) = if c p = 59 then k L 0 0 0 (nI (p + 1)) else some (nI p, L) := by
  obtain ⟨h1, h2, h3⟩ := h
  obtain ⟨e, hc⟩ := h3 p hp
  have e59 : (nI (c p) = (59 : Int32)) ↔ c p = 59 := nI_eq (b := 59) (by omega) (by decide)
  unfold b_X0_faultOfForm_9
  rw [h1, if_neg (nI_ge hp (by omega)), ckn (show p < 96 by omega) (by decide), if_pos rfl, if_neg (by decide), if_pos rfl, if_pos (by decide), cln (by omega), e, show nI p + (1 : Int32) = nI (p + 1) from nI_add p 1]
  by_cases q : c p = 59
  · rw [if_pos (e59.mpr q), if_pos q]; rfl
  · rw [if_neg (fun z => q (e59.mp z)), if_neg q]
theorem k_last {L : G} {c : Nat → Nat} {n : Nat} {x y : Int32} (h : rL L c n) (k : G → Int32 → Int32 → Int32 → Int32 → Option (Int32 × G)) : b_X0_faultOfForm_9 k L 1 x y (nI n) = some (nI n, L) := by
  have := h.2.1
  unfold b_X0_faultOfForm_9
  rw [h.1, if_pos (nI_le (Nat.le_refl _) (by omega)), if_neg (by decide)]
theorem isL_cases {x : Nat} (h : isL x = true) : x = 98 ∨ x = 112 ∨ x = 103 ∨ x = 115 ∨ x = 101 ∨ x = 100 := by
  unfold isL ln at h
  simp only [decide_eq_true_eq] at h
  split at h
  · omega
  · split at h
    · omega
    · split at h
      · omega
      · split at h
        · omega
        · split at h
          · omega
          · split at h
            · omega
            · omega
theorem ddu_s {x j : Nat} (h : isL x = true) (hj : j < ln x) (hk : ¬ (x = 112 ∧ j = 0)) : ddu x j = ddu x (j + 1) + 1 := by
  unfold ddu
  by_cases q : x = 112
  · subst q
    have : ln 112 = 4 := rfl
    rw [if_pos rfl, if_pos rfl, if_neg (by omega), if_neg (by omega)]
    omega
  · rw [if_neg q, if_neg q]; omega
theorem ddu_le (x j : Nat) : ddu x j ≤ 4 := by
  have := ln_le x
  unfold ddu
  repeat' split
  all_goals omega
theorem ddu_end {x : Nat} : ddu x (ln x) = 0 := by
  unfold ddu
  by_cases q : x = 112
  · subst q; rfl
  · rw [if_neg q]; omega
theorem t_form {L : G} {c : Nat → Nat} {n : Nat} (h : rL L c n) : ∀ (m a fuel : Nat), a ≤ n → n - a ≤ m → n - a < fuel → f_X0_faultOfForm_9 fuel L 0 0 0 (nI a) = some (rs c n m a, L) := by
  have h96 := h.2.1
  have stopN : ∀ fuel, 0 < fuel → f_X0_faultOfForm_9 fuel L 0 0 0 (nI n) = some (if n = 0 then nI 0 else -9, L) := by
    intro fuel hf
    obtain ⟨f, rfl⟩ : ∃ f, fuel = f + 1 := ⟨fuel - 1, by omega⟩
    show b_X0_faultOfForm_9 _ L _ _ _ _ = _
    unfold b_X0_faultOfForm_9
    rw [h.1, if_pos (nI_le (Nat.le_refl _) (by omega)), if_pos rfl]
    by_cases q : n = 0
    · subst q; rfl
    · rw [if_neg (nI_ne0 (by omega) (by omega)), if_neg q]
  intro m
  induction m with
  | zero =>
    intro a fuel ha hm hf
    have : a = n := by omega
    subst this
    exact stopN fuel (by omega)
  | succ m ih =>
    intro a fuel ha hm hf
    by_cases han : a < n
    · simp only [rs, if_pos han]
      obtain ⟨f, rfl⟩ : ∃ f, fuel = f + 1 := ⟨fuel - 1, by omega⟩
      show b_X0_faultOfForm_9 _ L _ _ _ _ = _
      rw [k_out h han]
      have hsg : sg c n a = c a := by unfold sg; rw [if_pos han]
      by_cases hL : isL (c a) = true
      · rw [if_pos hL]
        have hl0 : 0 < ln (c a) := by unfold isL at hL; simpa using hL
        have hbp : bp c n a = a + 1 + ff c n a := by unfold bp; rw [hsg, if_pos hL]
        have inner : ∀ (t j fuel : Nat), j + t = ln (c a) → a + 1 + j ≤ n → (∀ i, i < j → okc (c a) i (sg c n (a + 1 + i)) = true) → n - (a + 1 + j) < fuel → f_X0_faultOfForm_9 fuel L 1 (bI (decide (c a = 112 ∧ j = 0))) (nI (ddu (c a) j)) (nI (a + 1 + j)) = some (if gd c n a = true then rs c n m (nx c a) else nI (bp c n a), L) := by
          intro t
          induction t with
          | zero =>
            intro j fuel hj hle hok hf
            obtain ⟨f, rfl⟩ : ∃ f, fuel = f + 1 := ⟨fuel - 1, by omega⟩
            have hjl : j = ln (c a) := by omega
            have hk : decide (c a = 112 ∧ j = 0) = false := by simp; omega
            rw [hk]
            show b_X0_faultOfForm_9 _ L 1 0 _ _ = _
            rw [hjl, ddu_end]
            rw [hjl] at hok hle hf
            cases q : okc (c a) (ln (c a)) (sg c n (a + 1 + ln (c a))) with
            | true =>
              have hg : gd c n a = true := gd_iff.mpr ⟨han, hl0, fun i hi => by
                rcases Nat.lt_or_ge i (ln (c a)) with z | z
                · exact hok i z
                · rw [show i = ln (c a) by omega]; exact q⟩
              obtain ⟨q1, q2⟩ := gd_nx hg
              obtain ⟨q3, -⟩ := sg_lt q
              rw [k_end h q3, if_pos q2, if_pos hg]
              have := ih (nx c a) f q1 (by unfold nx; omega) (by unfold nx; omega)
              rw [show a + 1 + ln (c a) + 1 = nx c a by unfold nx; omega]
              exact this
            | false =>
              have hff : ff c n a = ln (c a) := fi_eq (by omega) (by rw [q]; rfl) (fun i hi => by rw [hok i hi]; rfl)
              have hg : ¬ gd c n a = true := fun z => by
                have := (gd_iff.mp z).2.2 (ln (c a)) (Nat.le_refl _)
                rw [q] at this; cases this
              rw [if_neg hg, hbp, hff]
              rcases Nat.lt_or_ge (a + 1 + ln (c a)) n with z | z
              · rw [k_end h z, if_neg (fun w => by
                  unfold okc sg at q
                  rw [if_pos rfl, if_pos z, w] at q
                  simp at q)]
              · rw [show a + 1 + ln (c a) = n by omega, k_last h]
          | succ t iht =>
            intro j fuel hj hle hok hf
            obtain ⟨f, rfl⟩ : ∃ f, fuel = f + 1 := ⟨fuel - 1, by omega⟩
            show b_X0_faultOfForm_9 _ L 1 _ _ _ = _
            cases q : okc (c a) j (sg c n (a + 1 + j)) with
            | true =>
              obtain ⟨q3, q4⟩ := sg_lt q
              have nxt := iht (j + 1) f (by omega) (by omega) (fun i hi => by
                rcases Nat.lt_or_ge i j with z | z
                · exact hok i z
                · rw [show i = j by omega]; exact q) (by omega)
              have hk1 : decide (c a = 112 ∧ j + 1 = 0) = false := by simp
              rw [hk1] at nxt
              rw [q4] at q
              unfold okc at q
              rw [if_neg (by omega)] at q
              by_cases hk : c a = 112 ∧ j = 0
              · rw [if_pos hk] at q
                rw [show decide (c a = 112 ∧ j = 0) = true by simp [hk]]
                show b_X0_faultOfForm_9 _ L 1 1 _ _ = _
                rw [k_kind h q3, if_pos q, show ddu (c a) j = ddu (c a) (j + 1) by rw [hk.1, hk.2]; rfl]
                exact nxt
              · rw [if_neg hk] at q
                rw [show decide (c a = 112 ∧ j = 0) = false by simp only [decide_eq_false_iff_not]; exact hk]
                show b_X0_faultOfForm_9 _ L 1 0 _ _ = _
                rw [ddu_s hL (by omega) hk, k_dig h q3 (by have := ddu_le (c a) (j + 1); omega), if_pos q]
                exact nxt
            | false =>
              have hff : ff c n a = j := fi_eq (by omega) (by rw [q]; rfl) (fun i hi => by rw [hok i hi]; rfl)
              have hg : ¬ gd c n a = true := fun z => by
                have := (gd_iff.mp z).2.2 j (by omega)
                rw [q] at this; cases this
              rw [if_neg hg, hbp, hff]
              rcases Nat.lt_or_ge (a + 1 + j) n with z | z
              · unfold okc sg at q
                rw [if_neg (by omega), if_pos z] at q
                by_cases hk : c a = 112 ∧ j = 0
                · rw [if_pos hk] at q
                  rw [show decide (c a = 112 ∧ j = 0) = true by simp [hk]]
                  show b_X0_faultOfForm_9 _ L 1 1 _ _ = _
                  rw [k_kind h z, if_neg (by rw [q]; decide)]
                · rw [if_neg hk] at q
                  rw [show decide (c a = 112 ∧ j = 0) = false by simp only [decide_eq_false_iff_not]; exact hk]
                  show b_X0_faultOfForm_9 _ L 1 0 _ _ = _
                  rw [ddu_s hL (by omega) hk, k_dig h z (by have := ddu_le (c a) (j + 1); omega), if_neg (by rw [q]; decide)]
              · rw [show a + 1 + j = n by omega, k_last h]
        have := inner (ln (c a)) 0 f (by omega) (by omega) (fun i hi => absurd hi (Nat.not_lt_zero i)) (by omega)
        rw [show decide (c a = 112 ∧ 0 = 0) = decide (c a = 112) by simp] at this
        exact this
      · rw [if_neg hL]
        have hg : ¬ gd c n a = true := fun z => by
          have := (gd_iff.mp z).2.1
          exact hL (by unfold isL; simpa using this)
        have hbp : bp c n a = a := by unfold bp; rw [hsg, if_neg hL]
        rw [if_neg hg, hbp]
    · have : a = n := by omega
      subst this
      simp only [rs, if_neg han]
      exact stopN fuel (by omega)
theorem t_faultOfForm {L : G} {c : Nat → Nat} {n : Nat} (h : rL L c n) : f_X0_faultOfForm L = some (rs c n n 0, L) := t_form h n 0 1000 (by omega) (by omega) (by have := h.2.1; omega)
/-! the numbers told -/
def vd (c : Nat → Nat) (a : Nat) : Nat → Nat
  | 0 => 0
  | d + 1 => 10 * vd c a d + (c (a + d) - 48)
theorem isD_of {y : Nat} (h : isD y = true) : 48 ≤ y ∧ y ≤ 57 := by
  unfold isD at h
  simpa using h
theorem vd_1 {c : Nat → Nat} {a : Nat} (h : isD (c a) = true) : vd c a 1 ≤ 9 := by
  have := isD_of h
  simp only [vd, Nat.add_zero]
  omega
theorem vd_2 {c : Nat → Nat} {a : Nat} (h : isD (c a) = true) (h' : isD (c (a + 1)) = true) : vd c a 2 ≤ 99 := by
  have h1 := isD_of h
  have h2 := isD_of h'
  simp only [vd, Nat.add_zero]
  omega
theorem dig_s {v y : Nat} (hy : 48 ≤ y) : (10 : Int32) * nI v + nI y - 48 = nI (10 * v + (y - 48)) := by
  rw [nl10, pk_mul, nI_add, nl48, pk_sub (by omega)]
  congr 1
  omega
theorem t_signAt {L : G} {c : Nat → Nat} {n p : Nat} (h : rL L c n) (hp : p < n) : f_X0_signAt L (nI p) = some (nI (c p), L) := by
  have := h.2.1
  unfold f_X0_signAt
  rw [if_neg (nI_pos (by omega)), h.1, if_neg (nI_ge hp (by omega)), ckn (show p < 96 by omega) (by decide), if_pos rfl, cln (by omega), (h.2.2 p hp).1]
theorem t_number {L : G} {c : Nat → Nat} {n p d : Nat} (h : rL L c n) (hp : p + d ≤ n) (hd : ∀ i, i < d → isD (c (p + i)) = true) : f_X0_number L (nI p) (nI d) = some (nI (vd c p d), L) := by
  have := h.2.1
  unfold f_X0_number
  refine loopE (fun fuel i => f_X0_number_5 fuel L (nI p) (nI d) (nI (vd c p i)) (nI i)) d _ (fun f => ?_) (fun f i hi => Or.inr ?_) 1000 0 (by omega) (by omega)
  · show b_X0_number_5 _ L _ _ _ _ = _
    unfold b_X0_number_5
    rw [if_pos (nI_le (Nat.le_refl _) (by omega))]
  · show b_X0_number_5 _ L _ _ _ _ = _
    unfold b_X0_number_5
    rw [if_neg (nI_ge hi (by omega)), nI_add, t_signAt h (by omega), bd_s, lt_s', dig_s (isD_of (hd i hi)).1, nl1, nI_add]
    rfl
/-! the reference reads -/
def rLM (M : G) (c : Nat → Nat) (n : Nat) : Prop := M.1 16 = nI n ∧ n ≤ 96 ∧ ∀ i, i < n → M.2 12 i = nI (c i) ∧ c i < 256
def nl (c : Nat → Nat) (n a : Nat) : Int32 := if a < n then nI (c a) else -1
theorem m_nextLetter {M : G} {c : Nat → Nat} {n a : Nat} (h : rLM M c n) (ha : a ≤ n) (h17 : M.1 17 = nI a) : f_X7_nextLetter M = some (nl c n a, M) := by
  have := h.2.1
  unfold f_X7_nextLetter nl
  rw [h.1, h17]
  by_cases q : a < n
  · rw [if_neg (nI_ge q (by omega)), ckn (show a < 96 by omega) (by decide), if_pos rfl, cln (by omega), (h.2.2 a q).1, if_pos q]
  · rw [if_pos (nI_le (by omega) (by omega)), if_neg q]
theorem m_dig {c : Nat → Nat} {n a : Nat} (h : ∀ i, i < n → c i < 256) : f_X7_isIn (nl c n a) 48 57 = some (bI (isD (sg c n a)), ()) := by
  unfold f_X7_isIn nl sg
  by_cases q : a < n
  · have hc := h a q
    rw [if_pos q, if_pos q]
    have e48 : (nI (c a) < (48 : Int32)) ↔ c a < 48 := nI_ltI (b := 48) (by omega) (by decide)
    have e57 : ((57 : Int32) < nI (c a)) ↔ 57 < c a := nI_ltI (a := 57) (by decide) (by omega)
    unfold isD
    by_cases q1 : c a < 48
    · rw [if_pos (e48.mpr q1), show (decide (48 ≤ c a) && decide (c a ≤ 57)) = false by simp; omega]; rfl
    · rw [if_neg (fun z => q1 (e48.mp z))]
      by_cases q2 : 57 < c a
      · rw [if_pos (e57.mpr q2), show (decide (48 ≤ c a) && decide (c a ≤ 57)) = false by simp; omega]; rfl
      · rw [if_neg (fun z => q2 (e57.mp z)), show (decide (48 ≤ c a) && decide (c a ≤ 57)) = true by simp; omega]; rfl
  · rw [if_neg q, if_neg q]
    rfl
theorem pF_pF (M : G) (k : Nat) (x y : Int32) : pF (pF M k x) k y = pF M k y := by
  refine Prod.ext ?_ rfl
  funext j
  by_cases q : j = k
  · rw [pF_1, if_pos q, pF_1, if_pos q]
  · rw [pF_1, if_neg q, pF_1, if_neg q, pF_1, if_neg q]
theorem pF_id {M : G} {k : Nat} {v : Int32} (h : M.1 k = v) : pF M k v = M := by rw [← h]; exact pF_self M k
def nd (c : Nat → Nat) (n a d : Nat) : Nat := fi (fun j => !isD (sg c n (a + j))) d
theorem m_readsDigits {M : G} {c : Nat → Nat} {n a d p : Nat} (h : rLM M c n) (ha : a ≤ n) (h17 : M.1 17 = nI a) (hp : p < 144) (hd : d ≤ 5) : f_X7_readsDigits M (nI p) (nI d) = if nd c n a d = d then some (1, pA (pF M 17 (nI (a + d))) 15 p (nI (vd c a d))) else some (0, pF M 17 (nI (a + nd c n a d))) := by
  have h96 := h.2.1
  have hle : nd c n a d ≤ d := fi_le _ d
  have pos : ∀ i, i ≤ nd c n a d → a + i ≤ n := by
    intro i hi
    rcases Nat.eq_zero_or_pos i with z | z
    · omega
    · have y := fi_no (fun j => !isD (sg c n (a + j))) d (i - 1) (by show i - 1 < nd c n a d; omega)
      simp only [Bool.not_eq_false'] at y
      rcases Nat.lt_or_ge (a + (i - 1)) n with w | w
      · omega
      · unfold sg at y
        rw [if_neg (by omega)] at y
        cases y
  have hst : ∀ i, rLM (pF M 17 (nI (a + i))) c n := fun i => h
  unfold f_X7_readsDigits
  have e0 : pF M 17 (nI (a + 0)) = M := pF_id h17
  have key := loopE (fun fuel i => f_X7_readsDigits_5 fuel (pF M 17 (nI (a + i))) (nI p) (nI d) (nI (vd c a i)) (nI i)) (nd c n a d) (if nd c n a d = d then some (1, pA (pF M 17 (nI (a + d))) 15 p (nI (vd c a d))) else some (0, pF M 17 (nI (a + nd c n a d)))) (fun f => ?_) (fun f i hi => Or.inr ?_) 1000 0 (by omega) (by omega)
  · have key' : f_X7_readsDigits_5 1000 (pF M 17 (nI (a + 0))) (nI p) (nI d) (nI (vd c a 0)) (nI 0) = _ := key
    rw [e0] at key'
    exact key'
  · show b_X7_readsDigits_5 _ _ _ _ _ _ = _
    unfold b_X7_readsDigits_5
    by_cases q : nd c n a d = d
    · rw [if_pos q, q, if_pos (nI_le (Nat.le_refl _) (by omega)), ckn hp (by decide), if_pos rfl, lt_s', cln (by omega)]
    · have y := fi_yes (fun j => !isD (sg c n (a + j))) d (by show nd c n a d < d; omega)
      replace y : (!isD (sg c n (a + nd c n a d))) = true := y
      simp only [Bool.not_eq_true'] at y
      rw [if_neg q, if_neg (nI_ge (by omega) (by omega)), m_nextLetter (hst _) (pos _ (Nat.le_refl _)) rfl, bd_s, m_dig (fun i hi => (h.2.2 i hi).2), bd_s, ifb, y, if_neg (by decide)]
  · show b_X7_readsDigits_5 _ _ _ _ _ _ = _
    unfold b_X7_readsDigits_5
    have y := fi_no (fun j => !isD (sg c n (a + j))) d i hi
    simp only [Bool.not_eq_false'] at y
    have hin : a + i < n := by
      have := pos (i + 1) (by omega)
      omega
    have hsg : sg c n (a + i) = c (a + i) := by unfold sg; rw [if_pos hin]
    have hnl : nl c n (a + i) = nI (c (a + i)) := by unfold nl; rw [if_pos hin]
    rw [if_neg (nI_ge (by omega) (by omega)), m_nextLetter (hst i) (by omega) rfl, bd_s, m_dig (fun i hi => (h.2.2 i hi).2), bd_s, ifb, y, if_pos rfl, m_nextLetter (hst i) (by omega) rfl, bd_s, hnl, lt_s', lt_s']
    rw [hsg] at y
    rw [dig_s (isD_of y).1, pF_pF, show (pF M 17 (nI (a + i))).1 17 = nI (a + i) from rfl, nl1, nI_add, nI_add]
    rfl
