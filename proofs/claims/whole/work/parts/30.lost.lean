theorem silent_mk {T : Tw} {b : Nat} (ok : okT T) : (nI (mk (fun p => hO none T p b) (T 3 0)) = 0) ↔ silent T b = true := by
  have h8 := ok.2.1
  have hlt := mk_lt (fun p => hO none T p b) (T 3 0)
  have hpw : 2 ^ (T 3 0) ≤ 2 ^ 8 := Nat.pow_le_pow_right (by decide) h8
  rw [nl0, nI_eq (by omega) (by decide), mk_0]
  unfold silent
  rw [anyB_cong (g := fun p => hears T p b) _ (fun i _ => hO_none T i b)]
  cases anyB (fun p => hears T p b) (T 3 0) <;> simp
def nbD (T : Tw) (b : Nat) : Nat := fi (fun d => silent (dN d T) b) 100
def spLostAt (T : Tw) (b : Nat) : Int32 := if silent T b = true then -9 else if nbD T b < 100 then nI (nbD T b) else -9
theorem m_lostAt {M : G} {T : Tw} {b : Nat} (h : rM M T) (ho : rO M none) (hb : b < T 0 0) : ∃ N, f_X7_lostAt M (nI b) = some (spLostAt T b, N) ∧ eqM 96 M N := by
  have ok := h.2.2.2.2.2.2
  unfold f_X7_lostAt spLostAt
  rw [m_hearers h ho hb, bd_s]
  by_cases q : silent T b = true
  · rw [if_pos ((silent_mk ok).mpr q), if_pos q]
    exact ⟨M, rfl, eqM.rf _ _⟩
  · rw [if_neg (fun z => q ((silent_mk ok).mp z)), if_neg q]
    obtain ⟨N0, e0, k0, h0, o0⟩ := m_think h ho
    rw [e0, bd_s]
    have hle := fi_le (fun d => silent (dN d T) b) 100
    have fin : ∀ (O : G) (v : Int32), frw 144 N0 O → ∃ N, f_X7_lostAt_56 O v = some (v, N) ∧ eqM 96 M N := by
      intro O v hO
      obtain ⟨R, e, z⟩ := m_forgets k0 hO
      refine ⟨R, ?_, z⟩
      unfold f_X7_lostAt_56
      rw [e, bd_s]
    have hb0 : ∀ i, b < dN i T 0 0 := fun i => by rw [dN_k T (by decide) (by decide) (by decide)]; exact hb
    refine loopR (fun fuel i (s : G) => f_X7_lostAt_20 (fuel + 1) s (nI b) (-9) (nI i)) (fun i s => rM s (dN i T) ∧ frw 144 N0 s) (nbD T b) (fun r => ∃ N, r = some (if nbD T b < 100 then nI (nbD T b) else -9, N) ∧ eqM 96 M N) (fun f s hs => ?_) (fun f i s hi hs => Or.inr ?_) (nbD T b) 0 999 N0 (by omega) (by unfold nbD; omega) ⟨h0, frw.rf _ _⟩
    · obtain ⟨hs, hf⟩ := hs
      show ∃ N, b_X7_lostAt_20 _ s _ _ _ = _ ∧ _
      unfold b_X7_lostAt_20
      by_cases c : nbD T b < 100
      · have y : silent (dN (nbD T b) T) b = true := fi_yes (fun d => silent (dN d T) b) 100 c
        obtain ⟨N1, g1, g2, g3⟩ := m_goesDay hs
        rw [if_neg (show ¬ (99 : Int32) < nI (nbD T b) from nI_nlt (a := 99) (by omega) (by decide)), if_neg (by decide), m_hearers hs (rO_frw o0 hf) (hb0 _), bd_s, if_pos ((silent_mk hs.2.2.2.2.2.2).mpr y), if_pos c]
        unfold f_X7_lostAt_44
        rw [g1, bd_s]
        obtain ⟨N, z1, z2⟩ := fin N1 (nI (nbD T b)) (hf.tr g3 (by decide) (by decide))
        refine ⟨N, ?_, z2⟩
        show b_X7_lostAt_20 _ N1 _ _ _ = _
        unfold b_X7_lostAt_20
        rw [if_pos (show (0 : Int32) ≤ nI (nbD T b) from nI_pos' (by omega)), z1]
        simp
      · have hD : nbD T b = 100 := by unfold nbD at *; omega
        rw [if_neg c, hD, if_pos (by decide)]
        exact fin s (-9) hf
    · obtain ⟨hs, hf⟩ := hs
      have y : silent (dN i T) b = false := fi_no (fun d => silent (dN d T) b) 100 i hi
      obtain ⟨N1, g1, g2, g3⟩ := m_goesDay hs
      refine ⟨N1, ⟨g2, hf.tr g3 (by decide) (by decide)⟩, ?_⟩
      show b_X7_lostAt_20 _ s _ _ _ = _
      unfold b_X7_lostAt_20
      rw [if_neg (show ¬ (99 : Int32) < nI i from nI_nlt (a := 99) (by unfold nbD at hi; omega) (by decide)), if_neg (by decide), m_hearers hs (rO_frw o0 hf) (hb0 _), bd_s, if_neg (fun z => by rw [(silent_mk hs.2.2.2.2.2.2).mp z] at y; cases y)]
      unfold f_X7_lostAt_44
      rw [g1, bd_s, nl1, nI_add]
/-- b may be lost -/
def cand (T : Tw) (b : Nat) : Prop := silent T b = false ∧ nbD T b < 100
def invL (T : Tw) (i : Nat) (q : Int32 × Int32) : Prop := (q = (-9, -9) ∧ ∀ b, b < i → ¬ cand T b) ∨ ∃ b0, b0 < i ∧ cand T b0 ∧ q = (nI b0, nI (nbD T b0)) ∧ ∀ b, b < i → cand T b → nbD T b0 ≤ nbD T b ∧ (b < b0 → nbD T b0 < nbD T b)
theorem invL_end {T : Tw} {q : Int32 × Int32} (h : invL T (T 0 0) q) : q = (spLost T true, spLost T false) := by
  have hD := fi_le (fun d => anyB (lostB T d) (T 0 0)) 100
  have c1 : ∀ b, b < T 0 0 → cand T b → lostD T ≤ nbD T b := by
    intro b hb ⟨s1, s2⟩
    rcases Nat.lt_or_ge (nbD T b) (lostD T) with z | z
    · have y : anyB (lostB T (nbD T b)) (T 0 0) = false := fi_no (fun d => anyB (lostB T d) (T 0 0)) 100 _ z
      have x : silent (dN (nbD T b) T) b = true := fi_yes (fun d => silent (dN d T) b) 100 s2
      have := (anyB_not _ _).mp y b hb
      unfold lostB at this
      rw [x, s1] at this
      simp at this
    · exact z
  have c2 : ∀ b, b < T 0 0 → lostD T < 100 → lostB T (lostD T) b = true → cand T b ∧ nbD T b = lostD T := by
    intro b hb hl hq
    have hq' := hq
    unfold lostB at hq
    simp only [Bool.and_eq_true, Bool.not_eq_true'] at hq
    have hle : nbD T b ≤ lostD T := by
      rcases Nat.lt_or_ge (lostD T) (nbD T b) with z | z
      · have := fi_no (fun d => silent (dN d T) b) 100 _ z
        rw [hq.1] at this; cases this
      · exact z
    have hc : cand T b := ⟨hq.2, by omega⟩
    have := c1 b hb hc
    exact ⟨hc, by omega⟩
  unfold spLost
  rcases h with ⟨h1, h2⟩ | ⟨b0, g0, g1, g2, g3⟩
  · have : ¬ lostD T < 100 := by
      intro z
      have y : anyB (lostB T (lostD T)) (T 0 0) = true := fi_yes (fun d => anyB (lostB T d) (T 0 0)) 100 z
      obtain ⟨b, hb, hq⟩ := (anyB_iff _ _).mp y
      exact h2 b hb (c2 b hb z hq).1
    rw [if_neg this, if_neg this]; exact h1
  · have l1 := c1 b0 g0 g1
    have hl : lostD T < 100 := by have := g1.2; omega
    have y : anyB (lostB T (lostD T)) (T 0 0) = true := fi_yes (fun d => anyB (lostB T d) (T 0 0)) 100 hl
    obtain ⟨b, hb, hq⟩ := (anyB_iff _ _).mp y
    obtain ⟨k1, k2⟩ := c2 b hb hl hq
    have e : nbD T b0 = lostD T := by have := (g3 b hb k1).1; omega
    have hfi : fi (lostB T (lostD T)) (T 0 0) = b0 := by
      refine fi_eq g0 ?_ (fun j hj => ?_)
      · unfold lostB
        have x : silent (dN (nbD T b0) T) b0 = true := fi_yes (fun d => silent (dN d T) b0) 100 g1.2
        rw [e] at x
        rw [x, g1.1]; rfl
      · cases z : lostB T (lostD T) j with
        | false => rfl
        | true =>
          obtain ⟨j1, j2⟩ := c2 j (by omega) hl z
          have := (g3 j (by omega) j1).2 hj
          omega
    rw [if_pos hl, if_pos hl, if_pos rfl, if_neg (by decide), hfi, g2, e]
theorem m_lost {M : G} {T : Tw} {w : Nat} (h : rM M T) (ho : rO M none) (hw : w ≤ 1) : ∃ N, f_X7_lost_25 1000 M (nI w) (-9) (-9) 0 = some (spLost T (decide (w = 0)), N) ∧ eqM 96 M N := by
  have ok := h.2.2.2.2.2.2
  have h6 := ok.1
  refine loopR (fun fuel i (s : G × (Int32 × Int32)) => f_X7_lost_25 fuel s.1 (nI w) s.2.1 s.2.2 (nI i)) (fun i s => rM s.1 T ∧ rO s.1 none ∧ eqM 96 M s.1 ∧ invL T i s.2) (T 0 0) (fun r => ∃ N, r = some (spLost T (decide (w = 0)), N) ∧ eqM 96 M N) (fun f s hs => ?_) (fun f i s hi hs => Or.inr ?_) (T 0 0) 0 1000 (M, (-9, -9)) (by omega) (by omega) ⟨h, ho, eqM.rf _ _, Or.inl ⟨rfl, fun b hb => absurd hb (Nat.not_lt_zero b)⟩⟩
  · obtain ⟨s1, s2, s3, s4⟩ := hs
    show ∃ N, b_X7_lost_25 _ s.1 _ _ _ _ = _ ∧ _
    unfold b_X7_lost_25
    rw [s1.1, if_pos (nI_le (Nat.le_refl _) (by omega)), invL_end s4]
    refine ⟨s.1, ?_, s3⟩
    rcases (show w = 0 ∨ w = 1 by omega) with rfl | rfl
    · rw [if_pos (show nI 0 = 0 from rfl)]; simp
    · rw [if_neg (by decide)]; simp
  · obtain ⟨s1, s2, s3, s4⟩ := hs
    obtain ⟨N, e, q⟩ := m_lostAt s1 s2 hi
    show ∃ s', _ ∧ b_X7_lost_25 _ s.1 _ _ _ _ = _
    unfold b_X7_lost_25
    rw [s1.1, if_neg (nI_ge hi (by omega)), e, bd_s, nl1, nI_add]
    have hN : rM N T ∧ rO N none ∧ eqM 96 M N := ⟨s1.eq q, rO_eq s2 q, s3.tr q (by decide) (by decide)⟩
    have hD := fi_le (fun d => silent (dN d T) i) 100
    by_cases hc : cand T i
    · have ev : spLostAt T i = nI (nbD T i) := by
        unfold spLostAt
        rw [if_neg (by rw [hc.1]; decide), if_pos hc.2]
      have l100 := hc.2
      rw [ev, if_neg (nI_pos (by omega))]
      rcases s4 with ⟨h1, h2⟩ | ⟨b0, g0, g1, g2, g3⟩
      · rw [h1, if_pos (by decide)]
        refine ⟨(N, (nI i, nI (nbD T i))), ⟨hN.1, hN.2.1, hN.2.2, Or.inr ⟨i, by omega, hc, rfl, fun b hb hcb => ?_⟩⟩, rfl⟩
        rcases Nat.lt_or_ge b i with z | z
        · exact absurd hcb (h2 b z)
        · rw [show b = i by omega]
          exact ⟨Nat.le_refl _, fun z => absurd z (Nat.lt_irrefl i)⟩
      · have l0 := g1.2
        rw [g2, if_neg (show ¬ nI b0 < 0 from nI_pos (by omega))]
        by_cases c : nbD T i < nbD T b0
        · rw [if_pos (nI_lt c (by omega))]
          refine ⟨(N, (nI i, nI (nbD T i))), ⟨hN.1, hN.2.1, hN.2.2, Or.inr ⟨i, by omega, hc, rfl, fun b hb hcb => ?_⟩⟩, rfl⟩
          rcases Nat.lt_or_ge b i with z | z
          · have := (g3 b z hcb).1
            exact ⟨by omega, fun _ => by omega⟩
          · rw [show b = i by omega]
            exact ⟨Nat.le_refl _, fun z => absurd z (Nat.lt_irrefl i)⟩
        · rw [if_neg (nI_nlt (by omega) (by omega))]
          refine ⟨(N, (nI b0, nI (nbD T b0))), ⟨hN.1, hN.2.1, hN.2.2, Or.inr ⟨b0, by omega, g1, rfl, fun b hb hcb => ?_⟩⟩, rfl⟩
          rcases Nat.lt_or_ge b i with z | z
          · exact g3 b z hcb
          · rw [show b = i by omega]
            exact ⟨by omega, fun z => by omega⟩
    · have ev : spLostAt T i = -9 := by
        unfold spLostAt
        by_cases z : silent T i = true
        · rw [if_pos z]
        · rw [if_neg z, if_neg (fun y => hc ⟨by cases x : silent T i with
            | false => rfl
            | true => exact absurd x z, y⟩)]
      rw [ev, if_pos (by decide)]
      refine ⟨(N, s.2), ⟨hN.1, hN.2.1, hN.2.2, ?_⟩, rfl⟩
      rcases s4 with ⟨h1, h2⟩ | ⟨b0, g0, g1, g2, g3⟩
      · refine Or.inl ⟨h1, fun b hb => ?_⟩
        rcases Nat.lt_or_ge b i with z | z
        · exact h2 b z
        · rw [show b = i by omega]; exact hc
      · refine Or.inr ⟨b0, by omega, g1, g2, fun b hb hcb => ?_⟩
        rcases Nat.lt_or_ge b i with z | z
        · exact g3 b z hcb
        · rw [show b = i by omega] at hcb
          exact absurd hcb hc
