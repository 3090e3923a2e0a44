/-! right bells, whose word to leave out, wrong bells -/
/-- a walk that stops at the first yes -/
theorem loopAny {ρ : Type} (F : Nat → Nat → ρ) (f : Nat → Bool) (N : Nat) (r : Bool → ρ) (stop : ∀ fu, F (fu + 1) N = r false) (step : ∀ fu i, i < N → F (fu + 1) i = if f i = true then r true else F fu (i + 1)) (fuel : Nat) (hf : N < fuel) : F fuel 0 = r (anyB f N) := by
  cases q : anyB f N with
  | false =>
    have hno := (anyB_not _ _).mp q
    refine loopE F N _ stop (fun fu i hi => Or.inr ?_) fuel 0 (by omega) (by omega)
    rw [step fu i hi, hno i hi, if_neg (by decide)]
  | true =>
    obtain ⟨j, hj, hP⟩ := (anyB_iff _ _).mp q
    have hy : fi f N < N := by
      rcases Nat.lt_or_ge (fi f N) N with z | z
      · exact z
      · have := fi_no f N j (by omega)
        rw [hP] at this; cases this
    refine loopE F (fi f N) _ (fun fu => ?_) (fun fu i hi => Or.inr ?_) fuel 0 (by omega) (by omega)
    · rw [step fu _ hy, fi_yes _ _ hy, if_pos rfl]
    · rw [step fu i (by omega), fi_no _ _ i hi, if_neg (by decide)]
def rbl (o : Option Nat) (T : Tw) (b : Nat) : Bool := tru T (fun q => hO o T q b) b
def rbc (o : Option Nat) (T : Tw) : Nat := ct (rbl o T) (T 0 0)
theorem rb_le (o : Option Nat) {T : Tw} (ok : okT T) : rbc o T ≤ 6 := Nat.le_trans (ct_le _ _) ok.1
theorem andm1 : ∀ m, m < 256 → nI m &&& (-1 : Int32) = nI m := by decide +kernel
theorem not1 : ∀ p, p < 8 → nI (2 ^ p) ^^^ (-1 : Int32) = nI (4294967295 - 2 ^ p) := by decide +kernel
theorem not1b : ∀ p, p < 8 → ∀ i, i < 8 → (4294967295 - 2 ^ p).testBit i = decide (i ≠ p) := by decide +kernel
theorem t_rightLoop {S U : G} {T : Tw} {o : Option Nat} {m : Int32} (h : rT U T) (hm : ∀ b, b < T 0 0 → nI (mk (fun p => hears T p b) (T 3 0)) &&& m = nI (mk (fun p => hO o T p b) (T 3 0))) : f_X5_rightBells_20 1000 S U m 0 0 = some (nI (rbc o T), (S, U)) := by
  have ok := h.2.2.2.2.2.2
  have h6 := ok.1
  refine loopE (fun fuel i => f_X5_rightBells_20 fuel S U m (nI (ct (rbl o T) i)) (nI i)) (T 0 0) _ (fun f => ?_) (fun f i hi => Or.inr ?_) 1000 0 (by omega) (by omega)
  · show b_X5_rightBells_20 _ S U _ _ _ = _
    unfold b_X5_rightBells_20
    rw [h.1, if_pos (nI_le (Nat.le_refl _) (by omega))]
    rfl
  · show b_X5_rightBells_20 _ S U _ _ _ = _
    unfold b_X5_rightBells_20
    have hl := mk_lt (fun p => hO o T p i) (T 3 0)
    have hpw : 2 ^ (T 3 0) ≤ 2 ^ 8 := Nat.pow_le_pow_right (by decide) ok.2.1
    rw [h.1, if_neg (nI_ge hi (by omega)), t_hearersOf h hi, bd_s, hm i hi, t_saidOf h hi (by omega), bd_s, tru_bits, ckn (ok_b ok hi) (by decide), if_pos rfl, cln (by omega), (h.2.2.2.2.1 i hi).1, nl1, nI_add, nI_add]
    simp only [said_eq ok hi, ct]
    have e : rbl o T i = tru T (fun q => hO o T q i) i := rfl
    cases q : tru T (fun q => hO o T q i) i <;> simp [e, q]
theorem t_rightBells0 {S U : G} {T : Tw} (h : rT U T) : f_X5_rightBells S U (-9) = some (nI (rbc none T), (S, U)) := by
  unfold f_X5_rightBells
  rw [if_pos (by decide)]
  refine t_rightLoop h (fun b hb => ?_)
  have hl := mk_lt (fun p => hears T p b) (T 3 0)
  have hpw : 2 ^ (T 3 0) ≤ 2 ^ 8 := Nat.pow_le_pow_right (by decide) h.2.2.2.2.2.2.2.1
  rw [andm1 _ (by omega)]
  exact congrArg nI (mk_cong _ (fun i _ => (hO_none T i b).symm))
theorem t_rightBells1 {S U : G} {T : Tw} {p : Nat} (h : rT U T) (hp : p < T 3 0) : f_X5_rightBells S U (nI p) = some (nI (rbc (some p) T), (S, U)) := by
  have ok := h.2.2.2.2.2.2
  have hp8 := ok_p ok hp
  unfold f_X5_rightBells
  rw [if_neg (nI_pos (by omega)), lt_s', sh1 p (by omega), not1 p hp8]
  refine t_rightLoop h (fun b hb => ?_)
  rw [andN]
  congr 1
  apply Nat.eq_of_testBit_eq
  intro i
  rw [Nat.testBit_and, mk_bit, mk_bit]
  by_cases c : i < T 3 0
  · have := ok.2.1
    rw [not1b p hp8 i (by omega)]
    unfold hO
    by_cases y : i = p
    · subst y; simp
    · have y' : ¬ p = i := fun z => y z.symm
      simp [c, y, y']
  · simp [c]
theorem m_manyTrue {M : G} {T : Tw} {o : Option Nat} (h : rM M T) (ho : rO M o) : f_X7_manyTrue M = some (nI (rbc o T), M) := by
  have ok := h.2.2.2.2.2.2
  have h6 := ok.1
  unfold f_X7_manyTrue
  refine loopE (fun fuel i => f_X7_manyTrue_4 fuel M (nI (ct (rbl o T) i)) (nI i)) (T 0 0) _ (fun f => ?_) (fun f i hi => Or.inr ?_) 1000 0 (by omega) (by omega)
  · show b_X7_manyTrue_4 _ M _ _ = _
    unfold b_X7_manyTrue_4
    rw [h.1, if_pos (nI_le (Nat.le_refl _) (by omega))]
    rfl
  · show b_X7_manyTrue_4 _ M _ _ = _
    unfold b_X7_manyTrue_4
    have e : rbl o T i = tru T (fun q => hO o T q i) i := rfl
    rw [h.1, if_neg (nI_ge hi (by omega)), m_isTrue h ho hi, bd_s, ifb, nl1, nl0, nI_add, nI_add, nI_add]
    simp only [ct]
    cases q : tru T (fun q => hO o T q i) i <;> simp [e, q]
def spLeave (T : Tw) : Nat → Int32 × Nat := amx nI (fun p => rbc (some p) T) (rbc none T)
theorem spLeave_le {T : Tw} (ok : okT T) (i : Nat) : (spLeave T i).2 ≤ 6 := amx_le (fun _ => rb_le _ ok) (rb_le _ ok) i
theorem t_whomToLeaveOut {S U : G} {T : Tw} (h : rT U T) : f_X5_whomToLeaveOut S U = some ((spLeave T (T 3 0)).1, (S, U)) := by
  have ok := h.2.2.2.2.2.2
  have h8 := ok.2.1
  unfold f_X5_whomToLeaveOut
  rw [t_rightBells0 h, bd_s]
  refine loopE (fun fuel i => f_X5_whomToLeaveOut_14 fuel S U (spLeave T i).1 (nI (spLeave T i).2) (nI i)) (T 3 0) _ (fun f => ?_) (fun f i hi => Or.inr ?_) 1000 0 (by omega) (by omega)
  · show b_X5_whomToLeaveOut_14 _ S U _ _ _ = _
    unfold b_X5_whomToLeaveOut_14
    rw [h.2.1, if_pos (nI_le (Nat.le_refl _) (by omega))]
  · show b_X5_whomToLeaveOut_14 _ S U _ _ _ = _
    unfold b_X5_whomToLeaveOut_14
    have hle := spLeave_le ok i
    have hle2 := rb_le (some i) ok
    rw [h.2.1, if_neg (nI_ge hi (by omega)), t_rightBells1 h hi, bd_s, nl1, nI_add]
    by_cases c : (spLeave T i).2 < rbc (some i) T
    · rw [if_neg (nI_ge c (by omega)), show spLeave T (i + 1) = (nI i, rbc (some i) T) from if_pos c]
    · rw [if_pos (nI_le (by omega) (by omega)), show spLeave T (i + 1) = spLeave T i from if_neg c]
theorem m_leave {M : G} {T : Tw} (h : rM M T) (ho : rO M none) : f_X7_leave M = some ((spLeave T (T 3 0)).1, M) := by
  have ok := h.2.2.2.2.2.2
  have h8 := ok.2.1
  unfold f_X7_leave
  rw [m_manyTrue h ho, bd_s]
  refine loopE (fun fuel i => f_X7_leave_10 fuel M (spLeave T i).1 (nI (spLeave T i).2) (nI i)) (T 3 0) _ (fun f => ?_) (fun f i hi => Or.inr ?_) 1000 0 (by omega) (by omega)
  · show b_X7_leave_10 _ M _ _ _ = _
    unfold b_X7_leave_10
    rw [h.2.1, if_pos (nI_le (Nat.le_refl _) (by omega))]
  · show b_X7_leave_10 _ M _ _ _ = _
    unfold b_X7_leave_10
    have hle := spLeave_le ok i
    have hle2 := rb_le (some i) ok
    have h1 : rM (pF M 11 (nI i)) T := h
    have o1 : rO (pF M 11 (nI i)) (some i) := ⟨rfl, fun q e => by cases e; omega⟩
    have e9 : pF (pF M 11 (nI i)) 11 (-9) = M := by
      refine Prod.ext ?_ rfl
      funext k
      rw [pF_1]
      split
      · rename_i e; rw [e]; exact ho.1.symm
      · rename_i e; rw [pF_1, if_neg e]
    rw [h.2.1, if_neg (nI_ge hi (by omega)), lt_s', m_manyTrue h1 o1, bd_s, lt_s', e9, nl1, nI_add]
    by_cases c : (spLeave T i).2 < rbc (some i) T
    · rw [if_pos (nI_lt c (by omega)), show spLeave T (i + 1) = (nI i, rbc (some i) T) from if_pos c]
    · rw [if_neg (nI_nlt (by omega) (by omega)), show spLeave T (i + 1) = spLeave T i from if_neg c]
/-! wrong bells -/
def wrg (T : Tw) (b : Nat) : Bool := !silent T b && !rbl none T b
theorem wrg_split (T : Tw) : ∀ n, ct (silent T) n + ct (rbl none T) n + ct (wrg T) n = n
  | 0 => rfl
  | n + 1 => by
    have ih := wrg_split T n
    have e : wrg T n = (!silent T n && !rbl none T n) := rfl
    have hx : silent T n = true → rbl none T n = false := by
      intro hs
      unfold rbl tru
      have : anyB (fun q => hO none T q n) (T 3 0) = false := by
        rw [anyB_cong (g := fun p => hears T p n) _ (fun i _ => hO_none T i n)]
        unfold silent at hs
        simpa using hs
      rw [this]; rfl
    simp only [ct, e]
    cases q1 : silent T n with
    | true => rw [hx q1]; simp; omega
    | false => cases q2 : rbl none T n <;> simp <;> omega
theorem t_wrongBells {S U : G} {T : Tw} (h : rT U T) : f_X5_wrongBells S U = some (nI (ct (wrg T) (T 0 0)), (S, U)) := by
  have ok := h.2.2.2.2.2.2
  have h6 := ok.1
  have hl := mk_lt (silent T) (T 0 0)
  have hpw : 2 ^ (T 0 0) ≤ 2 ^ 6 := Nat.pow_le_pow_right (by decide) h6
  have sp := wrg_split T (T 0 0)
  unfold f_X5_wrongBells
  rw [t_silentBells h, bd_s, jbits _ (by omega), bd_s, t_rightBells0 h, bd_s, h.1, pc8_mk _ (by omega), pk_sub (ct_le _ _)]
  unfold rbc
  rw [pk_sub (by omega)]
  congr 2
  rw [show T 0 0 - ct (silent T) (T 0 0) - ct (rbl none T) (T 0 0) = ct (wrg T) (T 0 0) by omega]
theorem m_manyWrong {M : G} {T : Tw} (h : rM M T) (ho : rO M none) : f_X7_manyWrong M = some (nI (ct (wrg T) (T 0 0)), M) := by
  have ok := h.2.2.2.2.2.2
  have h6 := ok.1
  unfold f_X7_manyWrong
  refine loopE (fun fuel i => f_X7_manyWrong_4 fuel M (nI (ct (wrg T) i)) (nI i)) (T 0 0) _ (fun f => ?_) (fun f i hi => Or.inr ?_) 1000 0 (by omega) (by omega)
  · show b_X7_manyWrong_4 _ M _ _ = _
    unfold b_X7_manyWrong_4
    rw [h.1, if_pos (nI_le (Nat.le_refl _) (by omega))]
  · show b_X7_manyWrong_4 _ M _ _ = _
    unfold b_X7_manyWrong_4
    have e : wrg T i = (!silent T i && !rbl none T i) := rfl
    have e2 : f_X7_isTrue M (nI i) = some (bI (rbl none T i), M) := m_isTrue h ho hi
    rw [h.1, if_neg (nI_ge hi (by omega)), m_hearers h ho hi, bd_s, e2, bd_s, ifb, show nI (ct (wrg T) i) + (0 : Int32) = nI (ct (wrg T) i) from nI_add _ 0, nl1, nI_add, nI_add]
    simp only [silent_mk ok, ct, e]
    cases q1 : silent T i <;> cases q2 : rbl none T i <;> simp
/-! hours said -/
def hoIn (T : Tw) (b acc : Nat) : Nat → Nat
  | 0 => acc
  | i + 1 => if hears T i b = true then hoIn T b acc i ||| 2 ^ sayH T i b else hoIn T b acc i
def hoOut (T : Tw) : Nat → Nat
  | 0 => 0
  | b + 1 => hoIn T b (hoOut T b) (T 3 0)
theorem sayH_lt (T : Tw) (p b : Nat) : sayH T p b < 24 := Nat.mod_lt _ (by decide)
theorem t_hoursSaid {S U : G} {T : Tw} (h : rT U T) : f_X5_hoursSaid S U = some (nI (hoOut T (T 0 0)), (S, U)) := by
  have ok := h.2.2.2.2.2.2
  have h6 := ok.1
  have h8 := ok.2.1
  unfold f_X5_hoursSaid
  refine loopE (fun fuel b => f_X5_hoursSaid_4 fuel S U (nI (hoOut T b)) (nI b)) (T 0 0) _ (fun f => ?_) (fun f b hb => Or.inr ?_) 1000 0 (by omega) (by omega)
  · show b_X5_hoursSaid_4 _ S U _ _ = _
    unfold b_X5_hoursSaid_4
    rw [h.1, if_pos (nI_le (Nat.le_refl _) (by omega))]
  · show b_X5_hoursSaid_4 _ S U _ _ = _
    unfold b_X5_hoursSaid_4
    rw [h.1, if_neg (nI_ge hb (by omega))]
    refine loopE (fun fuel i => f_X5_hoursSaid_15 (f_X5_hoursSaid_4 f) fuel S U (nI (hoIn T b (hoOut T b) i)) (nI b) (nI i)) (T 3 0) _ (fun g => ?_) (fun g i hi => Or.inr ?_) 1000 0 (by omega) (by omega)
    · show b_X5_hoursSaid_15 _ _ S U _ _ _ = _
      unfold b_X5_hoursSaid_15
      rw [h.2.1, if_pos (nI_le (Nat.le_refl _) (by omega)), nl1, nI_add]
      rfl
    · show b_X5_hoursSaid_15 _ _ S U _ _ _ = _
      unfold b_X5_hoursSaid_15
      have := sayH_lt T i b
      rw [h.2.1, if_neg (nI_ge hi (by omega)), t_hearsIt h hi hb, bd_s, ifb, t_hourBy h hi hb, bd_s, lt_s', sh1 _ (by omega), orN, nl1, nI_add]
      simp only [hoIn]
      cases q : hears T i b <;> simp
theorem m_hours {M : G} {T : Tw} {w : Nat} (h : rM M T) (ho : rO M none) (hw : w ≤ 1) : f_X7_hours_23 1000 M (nI w) 0 0 0 = some (if w = 0 then nI (hoOut T (T 0 0)) else nI (mk (silent T) (T 0 0)), M) := by
  have ok := h.2.2.2.2.2.2
  have h6 := ok.1
  have h8 := ok.2.1
  refine loopE (fun fuel b => f_X7_hours_23 fuel M (nI w) (nI (hoOut T b)) (nI (mk (silent T) b)) (nI b)) (T 0 0) _ (fun f => ?_) (fun f b hb => Or.inr ?_) 1000 0 (by omega) (by omega)
  · show b_X7_hours_23 _ M _ _ _ _ = _
    unfold b_X7_hours_23
    rw [h.1, if_pos (nI_le (Nat.le_refl _) (by omega))]
    rcases (show w = 0 ∨ w = 1 by omega) with rfl | rfl
    · rw [if_pos (show nI 0 = 0 from rfl), if_pos rfl]
    · rw [if_neg (by decide), if_neg (by decide)]
  · have inner : ∀ x : Int32, f_X7_hours_55 (f_X7_hours_23 f) 1000 M (nI w) (nI (hoOut T b)) x (nI b) 0 = f_X7_hours_23 f M (nI w) (nI (hoOut T (b + 1))) x (nI (b + 1)) := by
      intro x
      refine loopE (fun fuel i => f_X7_hours_55 (f_X7_hours_23 f) fuel M (nI w) (nI (hoIn T b (hoOut T b) i)) x (nI b) (nI i)) (T 3 0) _ (fun g => ?_) (fun g i hi => Or.inr ?_) 1000 0 (by omega) (by omega)
      · show b_X7_hours_55 _ _ M _ _ _ _ _ = _
        unfold b_X7_hours_55
        rw [h.2.1, if_pos (nI_le (Nat.le_refl _) (by omega)), nl1, nI_add]
        rfl
      · show b_X7_hours_55 _ _ M _ _ _ _ _ = _
        unfold b_X7_hours_55
        have := sayH_lt T i b
        rw [h.2.1, if_neg (nI_ge hi (by omega)), m_hears h ho hi hb, hO_none, bd_s, ifb, m_saysOf h ho hi hb, hO_none, bd_s, lt_s', nl1, nI_add, nl0, orN, Nat.or_zero]
        simp only [hoIn]
        cases q : hears T i b with
        | false => simp
        | true =>
          simp only [if_true]
          rw [← nl1, sh1 _ (by omega), orN]
    show b_X7_hours_23 _ M _ _ _ _ = _
    unfold b_X7_hours_23
    rw [h.1, if_neg (nI_ge hb (by omega)), m_hearers h ho hb, bd_s, lt_s', sh1 b (by omega), orN, mk_or, nl0, orN, Nat.or_zero, ← nl0, inner, inner]
    simp only [silent_mk ok, mk]
    cases q : silent T b <;> simp
/-! when they ring -/
theorem t_daysTillRinging {S : G} {T : Tw} {b : Nat} (h : rT S T) (hb : b < T 0 0) (hd : T 8 0 < 1000000) : f_X4_daysTillRinging S (nI b) = some (nI (T 2 b - T 8 0 % T 2 b), S) := by
  have ok := h.2.2.2.2.2.2
  obtain ⟨-, o1, o2⟩ := ok.2.2.2.2.1 b hb
  have hm : T 8 0 % T 2 b < T 2 b := Nat.mod_lt _ o1
  unfold f_X4_daysTillRinging
  rw [ckn (ok_b ok hb) (by decide), cln (by have := ok_b ok hb; omega), (h.2.2.2.2.1 b hb).2, h.2.2.1]
  simp only [if_true]
  rw [if_neg (nI_nle (by omega) (by omega)), if_neg (nI_ne0 (by omega) (by omega)), remN (by omega) (by omega) (by omega), pk_sub (by omega)]
theorem m_next {M : G} {T : Tw} {b : Nat} (h : rM M T) (hb : b < T 0 0) (hd : T 8 0 < 1000000) : f_X7_next M (nI b) = some (nI (T 2 b - T 8 0 % T 2 b), M) := by
  have ok := h.2.2.2.2.2.2
  obtain ⟨-, o1, o2⟩ := ok.2.2.2.2.1 b hb
  have h6 := ok.1
  have hm : T 8 0 % T 2 b < T 2 b := Nat.mod_lt _ o1
  have e : f_X7_isBell M (nI b) = some (1, M) := by
    unfold f_X7_isBell
    rw [if_neg (nI_pos (by omega)), h.1, if_neg (nI_ge hb (by omega))]
  unfold f_X7_next
  rw [e, bd_s, if_neg (by decide), ckn (ok_b ok hb) (by decide), cln (by have := ok_b ok hb; omega), (h.2.2.2.2.1 b hb).2, h.2.2.1]
  simp only [if_true]
  rw [if_neg (nI_ne0 (by omega) (by omega)), remN (by omega) (by omega) (by omega), pk_sub (by omega)]
