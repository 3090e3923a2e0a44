/-! what is thought through: the class on a town of its own, the reference in place -/
theorem cpy_in {f g : Nat → Int32} {n j : Nat} (h : j < n) : va_cpy f g 0 0 n j = f j := by
  unfold va_cpy
  rw [if_pos (by omega)]
  congr 1
  omega
theorem t_become {S U : G} {T : Tw} (h : rT U T) : ∃ u, f_X4_become S U = some ((), (u, U)) ∧ rT u T := by
  obtain ⟨a, b, c, d, e, f, ok⟩ := h
  unfold f_X4_become
  simp only [lt_s']
  refine ⟨_, rfl, a, b, c, d, fun q hq => ?_, fun q hq => ?_, ok⟩
  · have hq6 := ok_b ok hq
    obtain ⟨e1, e2⟩ := e q hq
    refine ⟨?_, ?_⟩
    · show va_cpy (U.2 1) _ 0 0 6 q = _
      rw [cpy_in hq6]; exact e1
    · show va_cpy (U.2 2) _ 0 0 6 q = _
      rw [cpy_in hq6]; exact e2
  · have hq8 := ok_p ok hq
    obtain ⟨e4, e5, e6, e7⟩ := f q hq
    refine ⟨?_, ?_, ?_, ?_⟩
    · show va_cpy (U.2 4) _ 0 0 8 q = _
      rw [cpy_in hq8]; exact e4
    · show va_cpy (U.2 5) _ 0 0 8 q = _
      rw [cpy_in hq8]; exact e5
    · show va_cpy (U.2 6) _ 0 0 8 q = _
      rw [cpy_in hq8]; exact e6
    · show va_cpy (U.2 7) _ 0 0 8 q = _
      rw [cpy_in hq8]; exact e7
theorem rO_frw {M N : G} {lim : Nat} {o : Option Nat} (h : rO M o) (f : frw lim M N) : rO N o := ⟨by rw [f.2.2.2.1 11 (by omega) (by decide) (by decide)]; exact h.1, h.2⟩
theorem rO_eq {M N : G} {lim : Nat} {o : Option Nat} (h : rO M o) (f : eqM lim M N) : rO N o := rO_frw h f.frw
/-- the reference begins to think -/
theorem m_think {M : G} {T : Tw} {o : Option Nat} (h : rM M T) (ho : rO M o) : ∃ N, f_X7_thinks M = some ((), N) ∧ PK M 96 48 N ∧ rM N T ∧ rO N o := by
  obtain ⟨N, e, k⟩ := m_thinks M
  have q := PK.eqM (w := 2) k
  exact ⟨N, e, k, h.eq q, rO_eq ho q⟩
/-! deaf -/
def spDeaf (T : Tw) (p : Nat) : Int32 := if fi (fun d => !hsome (dN d T) p) 100 < 100 then nI (fi (fun d => !hsome (dN d T) p) 100) else -9
theorem t_pass1 {S : G} {T : Tw} (h : rT S T) : ∃ u, f_X4_pass S 1 = some ((), u) ∧ rT u (d1 T) := t_pass (n := 1) h (by decide)
theorem t_deafAfter {S U : G} {T : Tw} {p : Nat} (h : rT U T) (hp : p < T 3 0) : ∃ S', f_X1_deafAfter S U (nI p) = some (spDeaf T p, (S', U)) := by
  obtain ⟨u, e, hu⟩ := t_become (S := S) h
  unfold f_X1_deafAfter
  rw [e, bd_s]
  generalize hP : (fun d => !hsome (dN d T) p) = P
  have hsp : spDeaf T p = if fi P 100 < 100 then nI (fi P 100) else -9 := by unfold spDeaf; rw [hP]
  rw [hsp]
  have hle := fi_le P 100
  refine loopR (fun fuel i (s : G) => f_X1_deafAfter_10 fuel s U (nI p) (nI i)) (fun i s => rT s (dN i T)) (fi P 100) (fun r => ∃ S', r = some (if fi P 100 < 100 then nI (fi P 100) else -9, (S', U))) (fun f s hs => ?_) (fun f i s hi hs => Or.inr ?_) (fi P 100) 0 1000 u (by omega) (by omega) hu
  · show ∃ S', b_X1_deafAfter_10 _ s U _ _ = _
    unfold b_X1_deafAfter_10
    by_cases c : fi P 100 < 100
    · have y := fi_yes P 100 c
      rw [← hP] at y
      simp only [Bool.not_eq_true'] at y
      rw [if_neg (show ¬ (99 : Int32) < nI (fi P 100) from nI_nlt (a := 99) (by omega) (by decide)), t_hearsSome hs (by rw [dN_k T (by decide) (by decide) (by decide)]; exact hp), bd_s, ifb, if_neg (by rw [hP] at *; rw [y]; decide), if_pos c]
      exact ⟨_, rfl⟩
    · rw [show fi P 100 = 100 by omega, if_pos (by decide), if_neg (by decide)]
      exact ⟨_, rfl⟩
  · have y := fi_no P 100 i hi
    rw [← hP] at y
    simp only [Bool.not_eq_false'] at y
    obtain ⟨u', e', hu'⟩ := t_pass1 hs
    refine ⟨u', hu', ?_⟩
    show b_X1_deafAfter_10 _ s U _ _ = _
    unfold b_X1_deafAfter_10
    rw [if_neg (show ¬ (99 : Int32) < nI i from nI_nlt (a := 99) (by omega) (by decide)), t_hearsSome hs (by rw [dN_k T (by decide) (by decide) (by decide)]; exact hp), bd_s, ifb, if_pos y, e', bd_s, nl1, nI_add]
theorem m_deafAt {M : G} {T : Tw} {p : Nat} (h : rM M T) (ho : rO M none) (hp : p < T 3 0) : ∃ N, f_X7_deafAt M (nI p) = some (spDeaf T p, N) ∧ eqM 96 M N := by
  obtain ⟨N0, e0, k0, h0, o0⟩ := m_think h ho
  unfold f_X7_deafAt
  rw [e0, bd_s]
  generalize hP : (fun d => !hsome (dN d T) p) = P
  have hsp : spDeaf T p = if fi P 100 < 100 then nI (fi P 100) else -9 := by unfold spDeaf; rw [hP]
  rw [hsp]
  have hle := fi_le P 100
  have fin : ∀ (O : G) (v : Int32), frw 144 N0 O → ∃ N, f_X7_deafAt_45 O v = some (v, N) ∧ eqM 96 M N := by
    intro O v hO
    obtain ⟨R, e, q⟩ := m_forgets k0 hO
    refine ⟨R, ?_, q⟩
    unfold f_X7_deafAt_45
    rw [e, bd_s]
  refine loopR (fun fuel i (s : G) => f_X7_deafAt_9 (fuel + 1) s (nI p) (-9) (nI i)) (fun i s => rM s (dN i T) ∧ frw 144 N0 s) (fi P 100) (fun r => ∃ N, r = some (if fi P 100 < 100 then nI (fi P 100) else -9, N) ∧ eqM 96 M N) (fun f s hs => ?_) (fun f i s hi hs => Or.inr ?_) (fi P 100) 0 999 N0 (by omega) (by omega) ⟨h0, frw.rf _ _⟩
  · obtain ⟨hs, hf⟩ := hs
    show ∃ N, b_X7_deafAt_9 _ s _ _ _ = _ ∧ _
    unfold b_X7_deafAt_9
    by_cases c : fi P 100 < 100
    · have y := fi_yes P 100 c
      rw [← hP] at y
      simp only [Bool.not_eq_true'] at y
      rw [hP] at y
      obtain ⟨N1, g1, g2, g3⟩ := m_goesDay hs
      rw [if_neg (show ¬ (99 : Int32) < nI (fi P 100) from nI_nlt (a := 99) (by omega) (by decide)), if_neg (by decide), m_hearsSome hs (rO_frw o0 hf) (by rw [dN_k T (by decide) (by decide) (by decide)]; exact hp), hsO_none, bd_s, ifb, if_neg (by rw [y]; decide), if_pos c]
      unfold f_X7_deafAt_33
      rw [g1, bd_s]
      obtain ⟨N, z1, z2⟩ := fin N1 (nI (fi P 100)) (hf.tr g3 (by decide) (by decide))
      refine ⟨N, ?_, z2⟩
      show b_X7_deafAt_9 _ N1 _ _ _ = _
      unfold b_X7_deafAt_9
      rw [if_pos (show (0 : Int32) ≤ nI (fi P 100) from nI_pos' (by omega)), z1]
      simp
    · rw [show fi P 100 = 100 by omega, if_pos (by decide), if_neg (by decide)]
      exact fin s (-9) hf
  · obtain ⟨hs, hf⟩ := hs
    have y := fi_no P 100 i hi
    rw [← hP] at y
    simp only [Bool.not_eq_false'] at y
    obtain ⟨N1, g1, g2, g3⟩ := m_goesDay hs
    refine ⟨N1, ⟨g2, hf.tr g3 (by decide) (by decide)⟩, ?_⟩
    show b_X7_deafAt_9 _ s _ _ _ = _
    unfold b_X7_deafAt_9
    rw [if_neg (show ¬ (99 : Int32) < nI i from nI_nlt (a := 99) (by omega) (by decide)), if_neg (by decide), m_hearsSome hs (rO_frw o0 hf) (by rw [dN_k T (by decide) (by decide) (by decide)]; exact hp), hsO_none, bd_s, ifb, if_pos y]
    unfold f_X7_deafAt_33
    rw [g1, bd_s, nl1, nI_add]
/-! then -/
theorem t_after {S U : G} {T : Tw} {n : Nat} (h : rT U T) (hn : n ≤ 100) : ∃ S', f_X1_after S U (nI n) = some ((), (S', U)) ∧ rT S' (dN n T) := by
  obtain ⟨u, e, hu⟩ := t_become (S := S) h
  obtain ⟨v, e2, hv⟩ := t_pass hu hn
  refine ⟨v, ?_, hv⟩
  unfold f_X1_after
  rw [e, bd_s, e2, bd_s]
/-! lost: of those heard now, the first that nobody hears -/
def lostB (T : Tw) (d b : Nat) : Bool := silent (dN d T) b && !silent T b
def lostD (T : Tw) : Nat := fi (fun d => anyB (lostB T d) (T 0 0)) 100
def spLost (T : Tw) (isWhich : Bool) : Int32 := if lostD T < 100 then (if isWhich = true then nI (fi (lostB T (lostD T)) (T 0 0)) else nI (lostD T)) else -9
theorem leastBit_eq {f : Nat → Bool} {n : Nat} (hn : n ≤ 8) : f_X6_leastBit (nI (mk f n)) = some (if fi f n < n then nI (fi f n) else -9, ()) := by
  have hlt := mk_lt f n
  have hpw : 2 ^ n ≤ 2 ^ 8 := Nat.pow_le_pow_right (by decide) hn
  have hle := fi_le f n
  have hbit : ∀ i, i < fi f n → (mk f n).testBit i = false := fun i hi => by rw [mk_bit, fi_no f n i hi]; simp
  unfold f_X6_leastBit
  by_cases c : fi f n < n
  · rw [if_pos c]
    refine loopE (fun fuel i => f_X6_leastBit_2 fuel (nI (mk f n)) (nI i)) (fi f n) _ (fun g => ?_) (fun g i hi => Or.inr ?_) 1000 0 (by omega) (by omega)
    · show b_X6_leastBit_2 _ _ _ = _
      unfold b_X6_leastBit_2
      rw [if_neg (show ¬ (8 : Int32) ≤ nI (fi f n) from nI_ge (b := 8) (by omega) (by decide)), bitN (by omega) (by omega), mk_bit, fi_yes f n c, ifb]
      simp [c]
    · show b_X6_leastBit_2 _ _ _ = _
      unfold b_X6_leastBit_2
      rw [if_neg (show ¬ (8 : Int32) ≤ nI i from nI_ge (b := 8) (by omega) (by decide)), bitN (by omega) (by omega), hbit i hi, ifb, if_neg (by decide), nl1, nI_add]
  · rw [if_neg c]
    refine loopE (fun fuel i => f_X6_leastBit_2 fuel (nI (mk f n)) (nI i)) 8 _ (fun g => ?_) (fun g i hi => Or.inr ?_) 1000 0 (by omega) (by omega)
    · show b_X6_leastBit_2 _ _ _ = _
      unfold b_X6_leastBit_2
      rw [if_pos (by decide)]
    · show b_X6_leastBit_2 _ _ _ = _
      unfold b_X6_leastBit_2
      have z : (mk f n).testBit i = false := by
        rw [mk_bit]
        by_cases y : i < n
        · rw [fi_no f n i (by omega)]; simp
        · simp [y]
      rw [if_neg (show ¬ (8 : Int32) ≤ nI i from nI_ge (b := 8) (by omega) (by decide)), bitN (by omega) (by omega), z, ifb, if_neg (by decide), nl1, nI_add]
theorem notN : ∀ m, m < 256 → nI m ^^^ (-1 : Int32) = -nI (m + 1) := by decide +kernel
theorem andnot : ∀ a, a < 64 → ∀ b, b < 64 → nI a &&& (nI b ^^^ (-1 : Int32)) = nI (a &&& (63 - b)) := by decide +kernel
theorem sub63 : ∀ b, b < 64 → ∀ i, i < 6 → (63 - b).testBit i = !b.testBit i := by decide +kernel
theorem and_mk {f g : Nat → Bool} {n : Nat} (hn : n ≤ 6) : nI (mk f n) &&& (nI (mk g n) ^^^ (-1 : Int32)) = nI (mk (fun i => f i && !g i) n) := by
  have hf := mk_lt f n
  have hg := mk_lt g n
  have hpw : 2 ^ n ≤ 2 ^ 6 := Nat.pow_le_pow_right (by decide) hn
  rw [andnot _ (by omega) _ (by omega)]
  congr 1
  apply Nat.eq_of_testBit_eq
  intro i
  rw [Nat.testBit_and, mk_bit, mk_bit]
  by_cases c : i < n
  · rw [sub63 _ (by omega) i (by omega), mk_bit]
    simp [c]
  · simp [c]
theorem dN_pred (T : Tw) : ∀ k, 0 < k → d1 (dN (k - 1) T) = dN k T
  | 0, h => absurd h (Nat.lt_irrefl 0)
  | k + 1, _ => rfl
theorem t_firstLost {S U : G} {T : Tw} {w : Bool} (h : rT U T) : ∃ S', f_X1_firstLost S U (bI w) = some (spLost T w, (S', U)) := by
  obtain ⟨u, e, hu⟩ := t_become (S := S) h
  have ok := h.2.2.2.2.2.2
  have h6 := ok.1
  unfold f_X1_firstLost
  rw [e, bd_s, t_silentBells hu, bd_s]
  have hb0 : ∀ i, dN i T 0 0 = T 0 0 := fun i => by rw [dN_k T (by decide) (by decide) (by decide)]
  have hle := fi_le (fun d => anyB (lostB T d) (T 0 0)) 100
  have h0 : 0 < lostD T := by
    unfold lostD
    rcases Nat.eq_zero_or_pos (fi (fun d => anyB (lostB T d) (T 0 0)) 100) with z | z
    · have y := fi_yes (fun d => anyB (lostB T d) (T 0 0)) 100 (by omega)
      rw [z] at y
      obtain ⟨b, -, q⟩ := (anyB_iff _ _).mp y
      unfold lostB at q
      simp [dN] at q
    · exact z
  have hmask : ∀ (s : G) (i : Nat), rT s (dN i T) → f_X4_silentBells s = some (nI (mk (silent (dN i T)) (T 0 0)), s) := fun s i hs => by
    have := t_silentBells hs
    rw [hb0] at this
    exact this
  show ∃ S', f_X1_firstLost_19 1000 u U (bI w) _ 1 = _
  refine loopR (fun fuel i (s : G) => f_X1_firstLost_19 fuel s U (bI w) (nI (mk (silent T) (T 0 0))) (nI (i + 1))) (fun i s => rT s (dN i T)) (lostD T - 1) (fun r => ∃ S', r = some (spLost T w, (S', U))) (fun f s hs => ?_) (fun f i s hi hs => Or.inr ?_) (lostD T - 1) 0 1000 u (by omega) (by unfold lostD at *; omega) hu
  · show ∃ S', b_X1_firstLost_19 _ s U _ _ _ = _
    unfold b_X1_firstLost_19
    rw [show lostD T - 1 + 1 = lostD T by omega]
    by_cases c : lostD T < 100
    · obtain ⟨u', e', hu'⟩ := t_pass1 hs
      have hu2 : rT u' (dN (lostD T) T) := by
        rw [← dN_pred T (lostD T) h0]; exact hu'
      have y : anyB (lostB T (lostD T)) (T 0 0) = true := fi_yes (fun d => anyB (lostB T d) (T 0 0)) 100 c
      have hlost : nI (mk (silent (dN (lostD T) T)) (T 0 0)) &&& (nI (mk (silent T) (T 0 0)) ^^^ (-1 : Int32)) = nI (mk (lostB T (lostD T)) (T 0 0)) := and_mk h6
      have hl := mk_lt (lostB T (lostD T)) (T 0 0)
      have hpw : 2 ^ (T 0 0) ≤ 2 ^ 6 := Nat.pow_le_pow_right (by decide) h6
      have hnz : ¬ nI (mk (lostB T (lostD T)) (T 0 0)) = 0 := by
        rw [nl0, nI_eq (by omega) (by decide), mk_0, y]; decide
      obtain ⟨j, hj, hq⟩ := (anyB_iff _ _).mp y
      have hfi : fi (lostB T (lostD T)) (T 0 0) < T 0 0 := by
        rcases Nat.lt_or_ge (fi (lostB T (lostD T)) (T 0 0)) (T 0 0) with z | z
        · exact z
        · have := fi_no (lostB T (lostD T)) (T 0 0) j (by omega)
          rw [hq] at this; cases this
      rw [if_neg (show ¬ (99 : Int32) < nI (lostD T) from nI_nlt (a := 99) (by omega) (by decide)), e', bd_s, hmask u' _ hu2, bd_s, hlost, if_neg hnz, ifb, leastBit_eq (by omega), bd_s, if_pos hfi]
      unfold spLost
      rw [if_pos c]
      cases w
      · exact ⟨_, rfl⟩
      · exact ⟨_, rfl⟩
    · have hD : lostD T = 100 := by unfold lostD at *; omega
      unfold spLost
      rw [if_neg c, hD, if_pos (by decide)]
      exact ⟨_, rfl⟩
  · have y : anyB (lostB T (i + 1)) (T 0 0) = false := fi_no (fun d => anyB (lostB T d) (T 0 0)) 100 (i + 1) (by unfold lostD at hi; omega)
    obtain ⟨u', e', hu'⟩ := t_pass1 hs
    have hu2 : rT u' (dN (i + 1) T) := hu'
    refine ⟨u', hu2, ?_⟩
    show b_X1_firstLost_19 _ s U _ _ _ = _
    unfold b_X1_firstLost_19
    have hlost : nI (mk (silent (dN (i + 1) T)) (T 0 0)) &&& (nI (mk (silent T) (T 0 0)) ^^^ (-1 : Int32)) = nI (mk (lostB T (i + 1)) (T 0 0)) := and_mk h6
    rw [if_neg (show ¬ (99 : Int32) < nI (i + 1) from nI_nlt (a := 99) (by unfold lostD at hi; omega) (by decide)), e', bd_s, hmask u' _ hu2, bd_s, hlost, (mk_0 _ _).mpr y, if_pos (show nI 0 = 0 from rfl), nl1, nI_add]
