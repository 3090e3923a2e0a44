/-! who stands longest: a p d, p is there on the day d -/
def alv (a : Nat → Nat → Bool) (p : Nat) : Nat → Bool
  | 0 => a p 0
  | d + 1 => alv a p d && a p (d + 1)
def lsK (a : Nat → Nat → Bool) (P : Nat) : Nat := fi (fun d => !anyB (fun p => alv a p (d + 1)) P) 99
def spLast (a : Nat → Nat → Bool) (P : Nat) : Int32 := if fi (fun p => alv a p (lsK a P)) P < P then nI (fi (fun p => alv a p (lsK a P)) P) else -9
/-- how many days more he is there: 0 if not at all -/
def stand (a : Nat → Nat → Bool) (p : Nat) : Nat := if a p 0 = true then (if fi (fun d => !a p (d + 1)) 99 < 99 then fi (fun d => !a p (d + 1)) 99 + 1 else 1000) else 0
theorem alv_iff {a : Nat → Nat → Bool} {p : Nat} : ∀ k, k ≤ 99 → (alv a p k = true ↔ a p 0 = true ∧ k ≤ fi (fun d => !a p (d + 1)) 99)
  | 0, _ => by simp [alv]
  | k + 1, hk => by
    have ih := alv_iff (a := a) (p := p) k (by omega)
    have hle := fi_le (fun d => !a p (d + 1)) 99
    simp only [alv, Bool.and_eq_true, ih]
    constructor
    · rintro ⟨⟨h0, h1⟩, h2⟩
      refine ⟨h0, ?_⟩
      rcases Nat.lt_or_ge k (fi (fun d => !a p (d + 1)) 99) with z | z
      · exact z
      · have e : fi (fun d => !a p (d + 1)) 99 = k := by omega
        have := fi_yes (fun d => !a p (d + 1)) 99 (by omega)
        rw [e, h2] at this
        cases this
    · rintro ⟨h0, h1⟩
      refine ⟨⟨h0, by omega⟩, ?_⟩
      have := fi_no (fun d => !a p (d + 1)) 99 k (by omega)
      simpa using this
/-- the first with most: as a walk finds him -/
def ams (n : Nat → Nat) : Nat → Int32 × Nat
  | 0 => (-9, 0)
  | i + 1 => if (ams n i).2 < n i then (nI i, n i) else ams n i
theorem ams_spec (n : Nat → Nat) : ∀ P, (ams n P = (-9, 0) ∧ ∀ p, p < P → n p = 0) ∨ ∃ b, b < P ∧ ams n P = (nI b, n b) ∧ 0 < n b ∧ (∀ p, p < P → n p ≤ n b) ∧ ∀ p, p < b → n p < n b
  | 0 => Or.inl ⟨rfl, fun p h => absurd h (Nat.not_lt_zero p)⟩
  | P + 1 => by
    simp only [ams]
    rcases ams_spec n P with ⟨h1, h2⟩ | ⟨b, g0, g1, g2, g3, g4⟩
    · rw [h1]
      by_cases c : 0 < n P
      · rw [if_pos (show (((-9 : Int32), 0) : Int32 × Nat).2 < n P from c)]
        refine Or.inr ⟨P, by omega, rfl, c, fun p hp => ?_, fun p hp => ?_⟩
        · rcases Nat.lt_or_ge p P with z | z
          · rw [h2 p z]; exact Nat.zero_le _
          · rw [show p = P by omega]; exact Nat.le_refl _
        · rw [h2 p hp]; exact c
      · rw [if_neg (show ¬ (((-9 : Int32), 0) : Int32 × Nat).2 < n P from c)]
        refine Or.inl ⟨rfl, fun p hp => ?_⟩
        rcases Nat.lt_or_ge p P with z | z
        · exact h2 p z
        · rw [show p = P by omega]; omega
    · rw [g1]
      by_cases c : n b < n P
      · rw [if_pos (show ((nI b, n b) : Int32 × Nat).2 < n P from c)]
        refine Or.inr ⟨P, by omega, rfl, by omega, fun p hp => ?_, fun p hp => ?_⟩
        · rcases Nat.lt_or_ge p P with z | z
          · have := g3 p z; omega
          · rw [show p = P by omega]; exact Nat.le_refl _
        · have := g3 p hp; omega
      · rw [if_neg (show ¬ ((nI b, n b) : Int32 × Nat).2 < n P from c)]
        refine Or.inr ⟨b, by omega, rfl, g2, fun p hp => ?_, g4⟩
        rcases Nat.lt_or_ge p P with z | z
        · exact g3 p z
        · rw [show p = P by omega]; omega
theorem last_eq (a : Nat → Nat → Bool) (P : Nat) : (ams (stand a) P).1 = spLast a P := by
  have hK := fi_le (fun d => !anyB (fun p => alv a p (d + 1)) P) 99
  have hKd : lsK a P ≤ 99 := hK
  -- who is there at K, and nobody later
  have up : ∀ p, p < P → (alv a p (lsK a P) = true ↔ a p 0 = true ∧ lsK a P ≤ fi (fun d => !a p (d + 1)) 99) := fun p _ => alv_iff _ hKd
  have mx : ∀ p, p < P → a p 0 = true → fi (fun d => !a p (d + 1)) 99 ≤ lsK a P := by
    intro p hp h0
    rcases Nat.lt_or_ge (lsK a P) (fi (fun d => !a p (d + 1)) 99) with z | z
    · have hl := fi_le (fun d => !a p (d + 1)) 99
      have y : (!anyB (fun p => alv a p (lsK a P + 1)) P) = true := fi_yes (fun d => !anyB (fun p => alv a p (d + 1)) P) 99 (by show lsK a P < 99; omega)
      simp only [Bool.not_eq_true'] at y
      have := (anyB_not _ _).mp y p hp
      rw [(alv_iff (lsK a P + 1) (by omega)).mpr ⟨h0, by omega⟩] at this
      cases this
    · exact z
  have mono : ∀ p q, p < P → q < P → a p 0 = true → a q 0 = true → (stand a p ≤ stand a q ↔ fi (fun d => !a p (d + 1)) 99 ≤ fi (fun d => !a q (d + 1)) 99) := by
    intro p q _ _ hp hq
    have lp := fi_le (fun d => !a p (d + 1)) 99
    have lq := fi_le (fun d => !a q (d + 1)) 99
    unfold stand
    rw [if_pos hp, if_pos hq]
    by_cases c1 : fi (fun d => !a p (d + 1)) 99 < 99 <;> by_cases c2 : fi (fun d => !a q (d + 1)) 99 < 99
    · rw [if_pos c1, if_pos c2]; omega
    · rw [if_pos c1, if_neg c2]; omega
    · rw [if_neg c1, if_pos c2]; omega
    · rw [if_neg c1, if_neg c2]; omega
  have pos : ∀ p, 0 < stand a p ↔ a p 0 = true := by
    intro p
    unfold stand
    by_cases c : a p 0 = true
    · rw [if_pos c]
      constructor
      · intro _; exact c
      · intro _
        split <;> omega
    · rw [if_neg c]
      exact ⟨fun h => absurd h (Nat.lt_irrefl 0), fun h => absurd h c⟩
  unfold spLast
  rcases ams_spec (stand a) P with ⟨h1, h2⟩ | ⟨b, g0, g1, g2, g3, g4⟩
  · rw [h1]
    have : fi (fun p => alv a p (lsK a P)) P = P := by
      refine fi_none (fun j hj => ?_)
      cases z : alv a j (lsK a P) with
      | false => rfl
      | true =>
        have := (pos j).mpr ((up j hj).mp z).1
        rw [h2 j hj] at this
        exact absurd this (Nat.lt_irrefl 0)
    rw [this, if_neg (Nat.lt_irrefl P)]
  · have hb0 := (pos b).mp g2
    -- b reaches K
    have hbK : fi (fun d => !a b (d + 1)) 99 = lsK a P := by
      have l1 := mx b g0 hb0
      rcases Nat.eq_zero_or_pos (lsK a P) with z | z
      · omega
      · have y := fi_no (fun d => !anyB (fun p => alv a p (d + 1)) P) 99 (lsK a P - 1) (by show _ < lsK a P; omega)
        simp only [Bool.not_eq_false'] at y
        obtain ⟨p, hp, hq⟩ := (anyB_iff _ _).mp y
        rw [show lsK a P - 1 + 1 = lsK a P by omega] at hq
        obtain ⟨q1, q2⟩ := (up p hp).mp hq
        have := (mono p b hp g0 q1 hb0).mp (g3 p hp)
        omega
    have hfi : fi (fun p => alv a p (lsK a P)) P = b := by
      refine fi_eq g0 ((up b g0).mpr ⟨hb0, by omega⟩) (fun j hj => ?_)
      cases z : alv a j (lsK a P) with
      | false => rfl
      | true =>
        obtain ⟨q1, q2⟩ := (up j (by omega)).mp z
        have := (mono b j g0 (by omega) hb0 q1).mpr (by omega)
        have := g4 j hj
        omega
    rw [g1, hfi, if_pos g0]
theorem andmask {f g : Nat → Bool} (n : Nat) : nI (mk f n) &&& nI (mk g n) = nI (mk (fun i => f i && g i) n) := by
  rw [andN]
  congr 1
  apply Nat.eq_of_testBit_eq
  intro i
  rw [Nat.testBit_and, mk_bit, mk_bit, mk_bit]
  by_cases c : i < n <;> simp [c]
/-! whom to ask -/
def askA (T : Tw) (b p d : Nat) : Bool := if d = 0 then hears T p b && decide (later T p = 0) else hears (dN d T) p b
theorem mk_nz {f : Nat → Bool} {n : Nat} (hn : n ≤ 8) : (nI (mk f n) = 0) ↔ anyB f n = false := by
  have hl := mk_lt f n
  have hpw : 2 ^ n ≤ 2 ^ 8 := Nat.pow_le_pow_right (by decide) hn
  rw [nl0, nI_eq (by omega) (by decide), mk_0]
theorem t_longestRight {S U : G} {T : Tw} {b : Nat} (h : rT U T) (hb : b < T 0 0) : ∃ S', f_X1_longestRight S U (nI b) = some (spLast (askA T b) (T 3 0), (S', U)) := by
  obtain ⟨u, e, hu⟩ := t_become (S := S) h
  have ok := h.2.2.2.2.2.2
  have h8 := ok.2.1
  unfold f_X1_longestRight
  rw [e, bd_s]
  have hK : lsK (askA T b) (T 3 0) ≤ 99 := fi_le _ 99
  have fin : ∀ (s : G), ∃ S', f_X1_longestRight_110 s U (nI (mk (fun p => alv (askA T b) p (lsK (askA T b) (T 3 0))) (T 3 0))) = some (spLast (askA T b) (T 3 0), (S', U)) := by
    intro s
    unfold f_X1_longestRight_110
    rw [leastBit_eq h8, bd_s]
    exact ⟨s, rfl⟩
  have hb0 : ∀ i, b < dN i T 0 0 := fun i => by rw [dN_k T (by decide) (by decide) (by decide)]; exact hb
  have hp0 : ∀ i, dN i T 3 0 = T 3 0 := fun i => by rw [dN_k T (by decide) (by decide) (by decide)]
  have em : ∀ k, nI (mk (fun p => alv (askA T b) p k) (T 3 0)) &&& nI (mk (fun p => hears (dN (k + 1) T) p b) (T 3 0)) = nI (mk (fun p => alv (askA T b) p (k + 1)) (T 3 0)) := fun k => andmask (T 3 0)
  have e1 : f_X1_longestRight_13 1000 u U (nI b) 0 0 = f_X1_longestRight_66 1000 u U (nI b) (nI (mk (fun p => askA T b p 0) (T 3 0))) 1 := by
    refine loopE (fun fuel i => f_X1_longestRight_13 fuel u U (nI b) (nI (mk (fun p => askA T b p 0) i)) (nI i)) (T 3 0) _ (fun f => ?_) (fun f i hi => Or.inr ?_) 1000 0 (by omega) (by omega)
    · show b_X1_longestRight_13 _ u U _ _ _ = _
      unfold b_X1_longestRight_13
      rw [hu.2.1, if_pos (nI_le (Nat.le_refl _) (by omega))]
    · show b_X1_longestRight_13 _ u U _ _ _ = _
      unfold b_X1_longestRight_13
      have hl := later_le ok hi
      rw [hu.2.1, if_neg (nI_ge hi (by omega)), t_hearsIt hu hi hb, bd_s, ifb, t_hoursLater hu hi, bd_s, sh1 i (by omega), orN, mk_or, nl1, nI_add, nl0]
      simp only [nI_eq (show later T i < 2 ^ 31 by omega) (show 0 < 2 ^ 31 by decide), mk, lt_s']
      have ea : askA T b i 0 = (hears T i b && decide (later T i = 0)) := rfl
      by_cases c1 : hears T i b = true <;> by_cases c2 : later T i = 0 <;> simp [c1, c2, ea]
  show ∃ S', f_X1_longestRight_13 1000 u U (nI b) 0 0 = _
  rw [e1]
  refine loopR (fun fuel i (s : G) => f_X1_longestRight_66 fuel s U (nI b) (nI (mk (fun p => alv (askA T b) p i) (T 3 0))) (nI (i + 1))) (fun i s => rT s (dN i T)) (lsK (askA T b) (T 3 0)) (fun r => ∃ S', r = some (spLast (askA T b) (T 3 0), (S', U))) (fun f s hs => ?_) (fun f i s hi hs => Or.inr ?_) (lsK (askA T b) (T 3 0)) 0 1000 u (by omega) (by omega) hu
  · show ∃ S', b_X1_longestRight_66 _ s U _ _ _ = _
    unfold b_X1_longestRight_66
    by_cases c : lsK (askA T b) (T 3 0) < 99
    · have y : (!anyB (fun p => alv (askA T b) p (lsK (askA T b) (T 3 0) + 1)) (T 3 0)) = true := fi_yes (fun d => !anyB (fun p => alv (askA T b) p (d + 1)) (T 3 0)) 99 c
      simp only [Bool.not_eq_true'] at y
      obtain ⟨u', e', hu'⟩ := t_pass1 hs
      have hu2 : rT u' (dN (lsK (askA T b) (T 3 0) + 1) T) := hu'
      have hh := t_hearersOf hu2 (hb0 _)
      rw [hp0] at hh
      rw [if_neg (show ¬ (99 : Int32) < nI (lsK (askA T b) (T 3 0) + 1) from nI_nlt (a := 99) (by omega) (by decide)), e', bd_s, hh, bd_s, em, if_pos ((mk_nz h8).mpr y)]
      exact fin u'
    · rw [show lsK (askA T b) (T 3 0) = 99 by omega, if_pos (by decide)]
      have := fin s
      rw [show lsK (askA T b) (T 3 0) = 99 by omega] at this
      exact this
  · have y := fi_no (fun d => !anyB (fun p => alv (askA T b) p (d + 1)) (T 3 0)) 99 i hi
    simp only [Bool.not_eq_false'] at y
    obtain ⟨u', e', hu'⟩ := t_pass1 hs
    have hu2 : rT u' (dN (i + 1) T) := hu'
    have hh := t_hearersOf hu2 (hb0 _)
    rw [hp0] at hh
    refine ⟨u', hu2, ?_⟩
    show b_X1_longestRight_66 _ s U _ _ _ = _
    unfold b_X1_longestRight_66
    rw [if_neg (show ¬ (99 : Int32) < nI (i + 1) from nI_nlt (a := 99) (by omega) (by decide)), e', bd_s, hh, bd_s, em, if_neg (fun z => by rw [(mk_nz h8).mp z] at y; cases y), nl1, nI_add]
/-! who is deaf last -/
def someA (T : Tw) (p d : Nat) : Bool := hsome (dN d T) p
theorem t_lastDeaf {S U : G} {T : Tw} (h : rT U T) : ∃ S', f_X1_lastDeaf S U = some (spLast (someA T) (T 3 0), (S', U)) := by
  obtain ⟨u, e, hu⟩ := t_become (S := S) h
  have ok := h.2.2.2.2.2.2
  have h8 := ok.2.1
  unfold f_X1_lastDeaf
  rw [e, bd_s, t_hearersOfSome hu, bd_s]
  have hK : lsK (someA T) (T 3 0) ≤ 99 := fi_le _ 99
  have fin : ∀ (s : G), ∃ S', f_X1_lastDeaf_60 s U (nI (mk (fun p => alv (someA T) p (lsK (someA T) (T 3 0))) (T 3 0))) = some (spLast (someA T) (T 3 0), (S', U)) := by
    intro s
    unfold f_X1_lastDeaf_60
    rw [leastBit_eq h8, bd_s]
    exact ⟨s, rfl⟩
  have hp0 : ∀ i, dN i T 3 0 = T 3 0 := fun i => by rw [dN_k T (by decide) (by decide) (by decide)]
  have em : ∀ k, nI (mk (fun p => alv (someA T) p k) (T 3 0)) &&& nI (mk (hsome (dN (k + 1) T)) (T 3 0)) = nI (mk (fun p => alv (someA T) p (k + 1)) (T 3 0)) := fun k => andmask (T 3 0)
  show ∃ S', f_X1_lastDeaf_18 1000 u U _ 1 = _
  refine loopR (fun fuel i (s : G) => f_X1_lastDeaf_18 fuel s U (nI (mk (fun p => alv (someA T) p i) (T 3 0))) (nI (i + 1))) (fun i s => rT s (dN i T)) (lsK (someA T) (T 3 0)) (fun r => ∃ S', r = some (spLast (someA T) (T 3 0), (S', U))) (fun f s hs => ?_) (fun f i s hi hs => Or.inr ?_) (lsK (someA T) (T 3 0)) 0 1000 u (by omega) (by omega) hu
  · show ∃ S', b_X1_lastDeaf_18 _ s U _ _ = _
    unfold b_X1_lastDeaf_18
    by_cases c : lsK (someA T) (T 3 0) < 99
    · have y : (!anyB (fun p => alv (someA T) p (lsK (someA T) (T 3 0) + 1)) (T 3 0)) = true := fi_yes (fun d => !anyB (fun p => alv (someA T) p (d + 1)) (T 3 0)) 99 c
      simp only [Bool.not_eq_true'] at y
      obtain ⟨u', e', hu'⟩ := t_pass1 hs
      have hu2 : rT u' (dN (lsK (someA T) (T 3 0) + 1) T) := hu'
      have hh := t_hearersOfSome hu2
      rw [hp0] at hh
      rw [if_neg (show ¬ (99 : Int32) < nI (lsK (someA T) (T 3 0) + 1) from nI_nlt (a := 99) (by omega) (by decide)), e', bd_s, hh, bd_s, em, if_pos ((mk_nz h8).mpr y)]
      exact fin u'
    · rw [show lsK (someA T) (T 3 0) = 99 by omega, if_pos (by decide)]
      have := fin s
      rw [show lsK (someA T) (T 3 0) = 99 by omega] at this
      exact this
  · have y := fi_no (fun d => !anyB (fun p => alv (someA T) p (d + 1)) (T 3 0)) 99 i hi
    simp only [Bool.not_eq_false'] at y
    obtain ⟨u', e', hu'⟩ := t_pass1 hs
    have hu2 : rT u' (dN (i + 1) T) := hu'
    have hh := t_hearersOfSome hu2
    rw [hp0] at hh
    refine ⟨u', hu2, ?_⟩
    show b_X1_lastDeaf_18 _ s U _ _ = _
    unfold b_X1_lastDeaf_18
    rw [if_neg (show ¬ (99 : Int32) < nI (i + 1) from nI_nlt (a := 99) (by omega) (by decide)), e', bd_s, hh, bd_s, em, if_neg (fun z => by rw [(mk_nz h8).mp z] at y; cases y), nl1, nI_add]
/-! the reference's way -/
def tillN (T : Tw) (b p : Nat) : Nat := if fi (fun d => !hears (dN (d + 1) T) p b) 99 < 99 then fi (fun d => !hears (dN (d + 1) T) p b) 99 + 1 else 1000
theorem m_hearsTill {M : G} {T : Tw} {p b : Nat} (h : rM M T) (ho : rO M none) (hp : p < T 3 0) (hb : b < T 0 0) : ∃ N, f_X7_hearsTill M (nI p) (nI b) = some (nI (tillN T b p), N) ∧ eqM 96 M N := by
  obtain ⟨N0, e0, k0, h0, o0⟩ := m_think h ho
  unfold f_X7_hearsTill
  rw [e0, bd_s]
  generalize hQ : fi (fun d => !hears (dN (d + 1) T) p b) 99 = Q
  have hle : Q ≤ 99 := by rw [← hQ]; exact fi_le _ 99
  have hsp : tillN T b p = if Q < 99 then Q + 1 else 1000 := by unfold tillN; rw [hQ]
  rw [hsp]
  have fin : ∀ (O : G) (v : Int32), frw 144 N0 O → ∃ N, f_X7_hearsTill_54 O v = some (v, N) ∧ eqM 96 M N := by
    intro O v hO
    obtain ⟨R, e, q⟩ := m_forgets k0 hO
    refine ⟨R, ?_, q⟩
    unfold f_X7_hearsTill_54
    rw [e, bd_s]
  have hb0 : ∀ i, b < dN i T 0 0 := fun i => by rw [dN_k T (by decide) (by decide) (by decide)]; exact hb
  have hp0 : ∀ i, p < dN i T 3 0 := fun i => by rw [dN_k T (by decide) (by decide) (by decide)]; exact hp
  refine loopR (fun fuel i (s : G) => f_X7_hearsTill_11 (fuel + 1) s (nI p) (nI b) 1000 (nI (i + 1))) (fun i s => rM s (dN i T) ∧ frw 144 N0 s) Q (fun r => ∃ N, r = some (nI (if Q < 99 then Q + 1 else 1000), N) ∧ eqM 96 M N) (fun f s hs => ?_) (fun f i s hi hs => Or.inr ?_) Q 0 999 N0 (by omega) (by omega) ⟨h0, frw.rf _ _⟩
  · obtain ⟨hs, hf⟩ := hs
    show ∃ N, b_X7_hearsTill_11 _ s _ _ _ _ = _ ∧ _
    unfold b_X7_hearsTill_11
    by_cases c : Q < 99
    · have y := fi_yes (fun d => !hears (dN (d + 1) T) p b) 99 (by rw [hQ]; exact c)
      rw [hQ] at y
      simp only [Bool.not_eq_true'] at y
      obtain ⟨N1, g1, g2, g3⟩ := m_goesDay hs
      have g2' : rM N1 (dN (Q + 1) T) := g2
      have hf1 := hf.tr g3 (lim := 144) (by decide) (by decide)
      rw [if_neg (show ¬ (99 : Int32) < nI (Q + 1) from nI_nlt (a := 99) (by omega) (by decide)), if_pos rfl, g1, bd_s, m_hears g2' (rO_frw o0 hf1) (hp0 _) (hb0 _), hO_none, bd_s, ifb, if_neg (by rw [y]; decide), if_pos c]
      obtain ⟨N, z1, z2⟩ := fin N1 (nI (Q + 1)) hf1
      refine ⟨N, ?_, z2⟩
      show b_X7_hearsTill_11 _ N1 _ _ _ _ = _
      unfold b_X7_hearsTill_11
      rw [if_neg (show ¬ nI (Q + 1) = 1000 from fun z => by rw [show (1000 : Int32) = nI 1000 from rfl, nI_eq (by omega) (by decide)] at z; omega), z1]
      simp
    · rw [show Q = 99 by omega, if_pos (by decide), if_neg (by decide)]
      exact fin s 1000 hf
  · obtain ⟨hs, hf⟩ := hs
    have y := fi_no (fun d => !hears (dN (d + 1) T) p b) 99 i (by rw [hQ]; exact hi)
    simp only [Bool.not_eq_false'] at y
    obtain ⟨N1, g1, g2, g3⟩ := m_goesDay hs
    have g2' : rM N1 (dN (i + 1) T) := g2
    have hf1 := hf.tr g3 (lim := 144) (by decide) (by decide)
    refine ⟨N1, ⟨g2', hf1⟩, ?_⟩
    show b_X7_hearsTill_11 _ s _ _ _ _ = _
    unfold b_X7_hearsTill_11
    rw [if_neg (show ¬ (99 : Int32) < nI (i + 1) from nI_nlt (a := 99) (by omega) (by decide)), if_pos rfl, g1, bd_s, m_hears g2' (rO_frw o0 hf1) (hp0 _) (hb0 _), hO_none, bd_s, ifb, if_pos y, nl1, nI_add]
theorem m_ask {M : G} {T : Tw} {b : Nat} (h : rM M T) (ho : rO M none) (hb : b < T 0 0) : ∃ N, f_X7_ask_22 1000 M (nI b) (-9) 0 0 = some (spLast (askA T b) (T 3 0), N) ∧ eqM 96 M N := by
  have ok := h.2.2.2.2.2.2
  have h8 := ok.2.1
  have hr := (ok.2.2.2.2.1 b hb).1
  rw [← last_eq]
  have st : ∀ p, p < T 3 0 → stand (askA T b) p = if hears T p b = true ∧ later T p = 0 then tillN T b p else 0 := by
    intro p hp
    unfold stand tillN
    have e0 : askA T b p 0 = (hears T p b && decide (later T p = 0)) := rfl
    have e1 : (fun d => !askA T b p (d + 1)) = fun d => !hears (dN (d + 1) T) p b := by funext d; rfl
    rw [e0, e1]
    by_cases c1 : hears T p b = true <;> by_cases c2 : later T p = 0 <;> simp [c1, c2]
  have a1000 : ∀ i, i ≤ T 3 0 → (ams (stand (askA T b)) i).2 ≤ 1000 := by
    intro i hi
    have hst : ∀ p, stand (askA T b) p ≤ 1000 := by
      intro p
      unfold stand
      have := fi_le (fun d => !askA T b p (d + 1)) 99
      repeat' split
      all_goals omega
    rcases ams_spec (stand (askA T b)) i with ⟨h1, -⟩ | ⟨c, -, h1, -⟩
    · rw [h1]; decide
    · rw [h1]; exact hst c
  refine loopR (fun fuel i (s : G) => f_X7_ask_22 fuel s (nI b) (ams (stand (askA T b)) i).1 (nI (ams (stand (askA T b)) i).2) (nI i)) (fun i s => rM s T ∧ rO s none ∧ eqM 96 M s) (T 3 0) (fun r => ∃ N, r = some ((ams (stand (askA T b)) (T 3 0)).1, N) ∧ eqM 96 M N) (fun f s hs => ?_) (fun f i s hi hs => Or.inr ?_) (T 3 0) 0 1000 M (by omega) (by omega) ⟨h, ho, eqM.rf _ _⟩
  · obtain ⟨s1, s2, s3⟩ := hs
    refine ⟨s, ?_, s3⟩
    show b_X7_ask_22 _ s _ _ _ _ = _
    unfold b_X7_ask_22
    rw [s1.2.1, if_pos (nI_le (Nat.le_refl _) (by omega))]
  · obtain ⟨s1, s2, s3⟩ := hs
    have hl := later_le ok hi
    have hsay : sayH T i b < 24 := Nat.mod_lt _ (by decide)
    have hk := a1000 i (by omega)
    have htill : tillN T b i ≤ 1000 := by
      unfold tillN
      have := fi_le (fun d => !hears (dN (d + 1) T) i b) 99
      split <;> omega
    have goes : ∀ (s' : G) (v : Nat), v ≤ 1000 → v = stand (askA T b) i → f_X7_ask_58 (f_X7_ask_22 f) s' (nI b) (ams (stand (askA T b)) i).1 (nI (ams (stand (askA T b)) i).2) (nI i) (nI v) = f_X7_ask_22 f s' (nI b) (ams (stand (askA T b)) (i + 1)).1 (nI (ams (stand (askA T b)) (i + 1)).2) (nI (i + 1)) := by
      intro s' v hv ev
      unfold f_X7_ask_58
      rw [nl1, nI_add]
      simp only [ams, ← ev]
      by_cases c : (ams (stand (askA T b)) i).2 < v
      · rw [if_pos (nI_lt c (by omega)), if_pos c]
      · rw [if_neg (nI_nlt (by omega) (by omega)), if_neg c]
    show ∃ s', _ ∧ b_X7_ask_22 _ s _ _ _ _ = _
    unfold b_X7_ask_22
    rw [s1.2.1, if_neg (nI_ge hi (by omega)), m_saysOf s1 s2 hi hb, bd_s, ckn (ok_b ok hb) (by decide), if_pos rfl, cln (by have := ok_b ok hb; omega), (s1.2.2.2.2.1 b hb).1, hO_none]
    have key : ((if hears T i b = true then nI (sayH T i b) else -9) = nI (T 1 b)) ↔ (hears T i b = true ∧ later T i = 0) := by
      by_cases c : hears T i b = true
      · rw [if_pos c, nI_eq (by omega) (by omega)]
        unfold sayH at *
        constructor
        · intro z; exact ⟨c, by omega⟩
        · rintro ⟨-, z⟩; rw [z]; omega
      · have ne : ∀ k, k < 24 → ¬ (-9 : Int32) = nI k := by decide
        rw [if_neg c]
        exact ⟨fun z => absurd z (ne _ hr), fun z => absurd z.1 c⟩
    simp only [key]
    by_cases c : hears T i b = true ∧ later T i = 0
    · rw [if_pos c]
      obtain ⟨N, e, q⟩ := m_hearsTill s1 s2 hi hb
      rw [e, bd_s]
      refine ⟨N, ⟨s1.eq q, rO_eq s2 q, s3.tr q (by decide) (by decide)⟩, goes N _ htill ?_⟩
      rw [st i hi, if_pos c]
    · rw [if_neg c]
      refine ⟨s, ⟨s1, s2, s3⟩, goes s 0 (by decide) ?_⟩
      rw [st i hi, if_neg c]
theorem m_lastOne {M : G} {T : Tw} (h : rM M T) (ho : rO M none) : ∃ N, f_X7_lastOne M = some (spLast (someA T) (T 3 0), N) ∧ eqM 96 M N := by
  have ok := h.2.2.2.2.2.2
  have h8 := ok.2.1
  rw [← last_eq]
  have hst : ∀ p, stand (someA T) p ≤ 1000 := by
    intro p
    unfold stand
    have := fi_le (fun d => !someA T p (d + 1)) 99
    repeat' split
    all_goals omega
  -- the first day on which he hears nothing, counted from today
  have dd : ∀ p, hsome T p = true → spDeaf T p = if stand (someA T) p < 1000 then nI (stand (someA T) p) else -9 := by
    intro p hp
    have hle := fi_le (fun d => !someA T p (d + 1)) 99
    unfold spDeaf stand
    rw [if_pos (show someA T p 0 = true from hp)]
    by_cases c : fi (fun d => !someA T p (d + 1)) 99 < 99
    · have e : fi (fun d => !hsome (dN d T) p) 100 = fi (fun d => !someA T p (d + 1)) 99 + 1 := by
        refine fi_eq (by omega) (fi_yes (fun d => !someA T p (d + 1)) 99 c) (fun j hj => ?_)
        rcases j with _ | j
        · show (!hsome T p) = false
          rw [hp]; rfl
        · exact fi_no (fun d => !someA T p (d + 1)) 99 j (by omega)
      rw [e, if_pos (by omega), if_pos c, if_pos (by omega)]
    · have e : fi (fun d => !hsome (dN d T) p) 100 = 100 := by
        refine fi_none (fun j hj => ?_)
        rcases j with _ | j
        · show (!hsome T p) = false
          rw [hp]; rfl
        · exact fi_no (fun d => !someA T p (d + 1)) 99 j (by omega)
      rw [e, if_neg (by decide), if_neg c, if_neg (by decide)]
  have a1000 : ∀ i, (ams (stand (someA T)) i).2 ≤ 1000 := by
    intro i
    rcases ams_spec (stand (someA T)) i with ⟨h1, -⟩ | ⟨c, -, h1, -⟩
    · rw [h1]; decide
    · rw [h1]; exact hst c
  unfold f_X7_lastOne
  refine loopR (fun fuel i (s : G) => f_X7_lastOne_7 fuel s (ams (stand (someA T)) i).1 (nI (ams (stand (someA T)) i).2) (nI i)) (fun i s => rM s T ∧ rO s none ∧ eqM 96 M s) (T 3 0) (fun r => ∃ N, r = some ((ams (stand (someA T)) (T 3 0)).1, N) ∧ eqM 96 M N) (fun f s hs => ?_) (fun f i s hi hs => Or.inr ?_) (T 3 0) 0 1000 M (by omega) (by omega) ⟨h, ho, eqM.rf _ _⟩
  · obtain ⟨s1, s2, s3⟩ := hs
    refine ⟨s, ?_, s3⟩
    show b_X7_lastOne_7 _ s _ _ _ = _
    unfold b_X7_lastOne_7
    rw [s1.2.1, if_pos (nI_le (Nat.le_refl _) (by omega))]
  · obtain ⟨s1, s2, s3⟩ := hs
    have hk := a1000 i
    have goes : ∀ (s' : G), 0 < stand (someA T) i → f_X7_lastOne_45 (f_X7_lastOne_7 f) s' (ams (stand (someA T)) i).1 (nI (ams (stand (someA T)) i).2) (nI i) (nI (stand (someA T) i)) = f_X7_lastOne_7 f s' (ams (stand (someA T)) (i + 1)).1 (nI (ams (stand (someA T)) (i + 1)).2) (nI (i + 1)) := by
      intro s' hv
      have hv2 := hst i
      unfold f_X7_lastOne_45
      rw [nl1, nI_add]
      simp only [ams]
      rcases ams_spec (stand (someA T)) i with ⟨h1, -⟩ | ⟨b, hb, h1, h2, -⟩
      · rw [h1, if_pos (show ((-9 : Int32), 0).1 < 0 by decide), if_pos (show (((-9 : Int32), 0) : Int32 × Nat).2 < _ from hv)]
      · rw [h1, if_neg (show ¬ ((nI b, stand (someA T) b) : Int32 × Nat).1 < 0 from nI_pos (by omega))]
        have := hst b
        by_cases c : stand (someA T) b < stand (someA T) i
        · rw [if_pos (show nI ((nI b, stand (someA T) b) : Int32 × Nat).2 < _ from nI_lt c (by omega)), if_pos (show ((nI b, stand (someA T) b) : Int32 × Nat).2 < _ from c)]
        · rw [if_neg (show ¬ nI ((nI b, stand (someA T) b) : Int32 × Nat).2 < _ from nI_nlt (by omega) (by omega)), if_neg (show ¬ ((nI b, stand (someA T) b) : Int32 × Nat).2 < _ from c)]
    show ∃ s', _ ∧ b_X7_lastOne_7 _ s _ _ _ = _
    unfold b_X7_lastOne_7
    rw [s1.2.1, if_neg (nI_ge hi (by omega)), m_hearsSome s1 s2 hi, hsO_none, bd_s, ifb]
    by_cases c : hsome T i = true
    · rw [if_pos c]
      have hpos : 0 < stand (someA T) i := by
        unfold stand
        rw [if_pos (show someA T i 0 = true from c)]
        split <;> omega
      obtain ⟨N, e, q⟩ := m_deafAt s1 s2 hi
      have s1' := s1.eq q
      have s2' := rO_eq s2 q
      rw [e, bd_s, dd i c]
      by_cases c2 : stand (someA T) i < 1000
      · rw [if_pos c2, if_pos (show (0 : Int32) ≤ nI (stand (someA T) i) from nI_pos' (by omega))]
        obtain ⟨N2, e2, q2⟩ := m_deafAt s1' s2' hi
        rw [e2, bd_s, dd i c, if_pos c2]
        exact ⟨N2, ⟨s1'.eq q2, rO_eq s2' q2, (s3.tr q (lim := 96) (by decide) (by decide)).tr q2 (by decide) (by decide)⟩, goes N2 hpos⟩
      · rw [if_neg c2, if_neg (by decide)]
        have e1000 : stand (someA T) i = 1000 := by have := hst i; omega
        refine ⟨N, ⟨s1', s2', s3.tr q (by decide) (by decide)⟩, ?_⟩
        have := goes N hpos
        rw [e1000] at this
        exact this
    · rw [if_neg c, nl1, nI_add]
      refine ⟨s, ⟨s1, s2, s3⟩, ?_⟩
      have e0 : stand (someA T) i = 0 := by
        unfold stand
        rw [if_neg (show ¬ someA T i 0 = true from c)]
      simp only [ams]
      rw [e0, if_neg (Nat.not_lt_zero _)]
