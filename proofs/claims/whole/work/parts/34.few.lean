/-! the fewest to send, beds, what sending costs -/
def heardAll (T : Tw) : Bool := !anyB (silent T) (T 0 0)
theorem mk6 {f : Nat → Bool} {n : Nat} (hn : n ≤ 6) : (nI (mk f n) = 0) ↔ anyB f n = false := mk_nz (by omega)
theorem m_allHeard {M : G} {T : Tw} (h : rM M T) (ho : rO M none) : f_X7_allHeard M = some (bI (heardAll T), M) := by
  have ok := h.2.2.2.2.2.2
  have h6 := ok.1
  have key := loopE (fun fuel i => f_X7_allHeard_2 fuel M (nI i))
  unfold f_X7_allHeard heardAll
  cases q : anyB (silent T) (T 0 0) with
  | false =>
    have hno := (anyB_not _ _).mp q
    refine key (T 0 0) _ (fun f => ?_) (fun f i hi => Or.inr ?_) 1000 0 (by omega) (by omega)
    · show b_X7_allHeard_2 _ M _ = _
      unfold b_X7_allHeard_2
      rw [h.1, if_pos (nI_le (Nat.le_refl _) (by omega))]; rfl
    · show b_X7_allHeard_2 _ M _ = _
      unfold b_X7_allHeard_2
      rw [h.1, if_neg (nI_ge hi (by omega)), m_hearers h ho hi, bd_s, if_neg (fun z => by have h1 := (silent_mk ok).mp z; rw [hno i hi] at h1; cases h1), nl1, nI_add]
  | true =>
    obtain ⟨j, hj, hP⟩ := (anyB_iff _ _).mp q
    have hy : fi (silent T) (T 0 0) < T 0 0 := by
      rcases Nat.lt_or_ge (fi (silent T) (T 0 0)) (T 0 0) with z | z
      · exact z
      · have := fi_no (silent T) (T 0 0) j (by omega)
        rw [hP] at this; cases this
    refine key (fi (silent T) (T 0 0)) _ (fun f => ?_) (fun f i hi => Or.inr ?_) 1000 0 (by omega) (by omega)
    · show b_X7_allHeard_2 _ M _ = _
      unfold b_X7_allHeard_2
      rw [h.1, if_neg (nI_ge hy (by omega)), m_hearers h ho hy, bd_s, if_pos ((silent_mk ok).mpr (fi_yes _ _ hy))]; rfl
    · show b_X7_allHeard_2 _ M _ = _
      unfold b_X7_allHeard_2
      have hn := fi_no _ _ i hi
      rw [h.1, if_neg (nI_ge (by omega) (by omega)), m_hearers h ho (by omega), bd_s, if_neg (fun z => by rw [(silent_mk ok).mp z] at hn; cases hn), nl1, nI_add]
theorem m_allHeardIn {M : G} {T : Tw} {n : Nat} (h : rM M T) (ho : rO M none) (hn : n ≤ 200) : ∃ N, f_X7_allHeardIn M (nI n) = some (bI (heardAll (dN n T)), N) ∧ eqM 96 M N := by
  obtain ⟨N0, e0, k0, h0, o0⟩ := m_think h ho
  obtain ⟨N1, e1, h1, f1⟩ := m_goesOn h0 hn
  obtain ⟨R, e2, q⟩ := m_forgets k0 f1
  refine ⟨R, ?_, q⟩
  unfold f_X7_allHeardIn
  rw [e0, bd_s, e1, bd_s, m_allHeard h1 (rO_frw o0 f1), bd_s, e2, bd_s, if_pos (bI_zb _)]
/-- those of the set sent for five nights, as far as i -/
def snd (T : Tw) (v i : Nat) : Tw := fun a b => if a = 7 then (if b < i ∧ v.testBit b = true then 5 else T a b) else T a b
theorem snd_0 (T : Tw) (v : Nat) : snd T v 0 = T := by
  funext a b
  unfold snd
  split
  · rw [if_neg (by omega)]
  · rfl
theorem snd_s (T : Tw) (v i : Nat) : snd T v (i + 1) = if v.testBit i = true then st1 (snd T v i) 7 i 5 else snd T v i := by
  split
  · rename_i c
    funext a b
    unfold snd st1
    by_cases e : a = 7
    · simp only [e, if_true]
      by_cases y : b = i
      · subst y
        rw [if_pos ⟨by omega, c⟩, if_pos rfl]
      · rw [if_neg y]
        by_cases x : b < i
        · by_cases w : v.testBit b = true
          · rw [if_pos ⟨by omega, w⟩, if_pos ⟨x, w⟩]
          · rw [if_neg (fun z => w z.2), if_neg (fun z => w z.2)]
        · rw [if_neg (fun z => by omega), if_neg (fun z => by omega)]
    · simp only [e, if_false]
  · rename_i c
    funext a b
    unfold snd
    by_cases e : a = 7
    · simp only [e, if_true]
      by_cases y : b = i
      · subst y
        rw [if_neg (fun z => c z.2), if_neg (fun z => c z.2)]
      · by_cases w : v.testBit b = true
        · by_cases x : b < i
          · rw [if_pos ⟨by omega, w⟩, if_pos ⟨x, w⟩]
          · rw [if_neg (fun z => by omega), if_neg (fun z => by omega)]
        · rw [if_neg (fun z => w z.2), if_neg (fun z => w z.2)]
    · simp only [e, if_false]
def hwo (T : Tw) (n v : Nat) : Bool := heardAll (dN n (snd T v (T 3 0)))
theorem t_isAllHeardWithout {S S0 U : G} {T : Tw} {v n : Nat} (h : rT U T) (hv : v < 256) (hn : n ≤ 100) : ∃ S0', f_X3_isAllHeardWithout S S0 U (nI v) (nI n) = some (bI (hwo T n v), (S, S0', U)) := by
  have ok := h.2.2.2.2.2.2
  have h8 := ok.2.1
  obtain ⟨u, e, hu⟩ := t_become (S := S0) h
  unfold f_X3_isAllHeardWithout
  rw [e, bd_s]
  refine loopR (fun fuel i (s : G) => f_X3_isAllHeardWithout_11 fuel S s U (nI v) (nI n) (nI i)) (fun i s => rT s (snd T v i)) (T 3 0) (fun r => ∃ S0', r = some (bI (hwo T n v), (S, S0', U))) (fun f s hs => ?_) (fun f i s hi hs => Or.inr ?_) (T 3 0) 0 1000 u (by omega) (by omega) (by rw [snd_0]; exact hu)
  · obtain ⟨w, e2, hw⟩ := t_pass hs hn
    have ok2 := hw.2.2.2.2.2.2
    show ∃ S0', b_X3_isAllHeardWithout_11 _ S s U _ _ _ = _
    unfold b_X3_isAllHeardWithout_11
    rw [h.2.1, if_pos (nI_le (Nat.le_refl _) (by omega)), e2, bd_s, t_silentBells hw, bd_s]
    refine ⟨w, ?_⟩
    unfold hwo heardAll
    cases q : anyB (silent (dN n (snd T v (T 3 0)))) (dN n (snd T v (T 3 0)) 0 0) with
    | false => rw [if_pos ((mk6 ok2.1).mpr q)]; rfl
    | true => rw [if_neg (fun z => by rw [(mk6 ok2.1).mp z] at q; cases q)]; rfl
  · show ∃ s', _ ∧ b_X3_isAllHeardWithout_11 _ S s U _ _ _ = _
    unfold b_X3_isAllHeardWithout_11
    rw [h.2.1, if_neg (nI_ge hi (by omega)), bitN (by omega) (by omega), ifb, ckn (ok_p ok hi) (by decide), if_pos rfl, lt_s', cln (by omega), nl1, nI_add, snd_s]
    cases q : v.testBit i with
    | true => exact ⟨_, rT_st hs hi (k := 7) (v := 5) (by omega), rfl⟩
    | false => exact ⟨s, hs, rfl⟩
theorem m_has {v i : Nat} (hv : v < 2147483648) (hi : i < 31) : f_X7_has (nI v) (nI i) = some (bI (v.testBit i), ()) := by
  unfold f_X7_has
  rw [bitN hv hi, ifb1]
  cases v.testBit i <;> rfl
theorem m_allHeardWithout {M : G} {T : Tw} {v n : Nat} (h : rM M T) (ho : rO M none) (hv : v < 256) (hn : n ≤ 100) : ∃ N, f_X7_allHeardWithout M (nI v) (nI n) = some (bI (hwo T n v), N) ∧ eqM 48 M N := by
  have ok := h.2.2.2.2.2.2
  have h8 := ok.2.1
  obtain ⟨N0, e0, k0⟩ := m_changes M
  have q0 : eqM 48 M N0 := PK.eqM (w := 1) k0
  unfold f_X7_allHeardWithout
  rw [e0, bd_s]
  refine loopR (fun fuel i (s : G) => f_X7_allHeardWithout_6 fuel s (nI v) (nI n) (nI i)) (fun i s => rM s (snd T v i) ∧ frw 144 N0 s) (T 3 0) (fun r => ∃ N, r = some (bI (hwo T n v), N) ∧ eqM 48 M N) (fun f s hs => ?_) (fun f i s hi hs => Or.inr ?_) (T 3 0) 0 1000 N0 (by omega) (by omega) ⟨by rw [snd_0]; exact h.eq q0, frw.rf _ _⟩
  · obtain ⟨hs, hf⟩ := hs
    obtain ⟨u, e1, q1⟩ := m_allHeardIn hs (rO_frw (rO_eq ho q0) hf) (n := n) (by omega)
    obtain ⟨R, e2, q2⟩ := m_changesBack k0 (hf.tr q1.frw (lim := 96) (by decide) (by decide))
    refine ⟨R, ?_, q2⟩
    show b_X7_allHeardWithout_6 _ s _ _ _ = _
    unfold b_X7_allHeardWithout_6
    rw [show s.1 8 = nI (T 3 0) from hs.2.1, if_pos (nI_le (Nat.le_refl _) (by omega)), e1, bd_s, e2, bd_s, if_pos (bI_zb _)]
    rfl
  · obtain ⟨hs, hf⟩ := hs
    show ∃ s', _ ∧ b_X7_allHeardWithout_6 _ s _ _ _ = _
    unfold b_X7_allHeardWithout_6
    rw [show s.1 8 = nI (T 3 0) from hs.2.1, if_neg (nI_ge hi (by omega)), m_has (by omega) (by omega), bd_s, ifb, ckn (ok_p ok hi) (by decide), cln (by omega), pA_self, nl1, nI_add, snd_s]
    simp only [if_true, lt_s']
    cases q : v.testBit i with
    | true => exact ⟨_, ⟨rM_st hs hi (k := 7) (j := 6) (v := 5) (by omega), hf.tr (frw_pA (by decide) (ok_p ok hi)) (by decide) (by decide)⟩, rfl⟩
    | false => exact ⟨s, ⟨hs, hf⟩, rfl⟩
/-- the least set, by number and then by place -/
def few (H : Nat → Bool) : Nat → Int32 × Nat
  | 0 => (-9, 9)
  | i + 1 => if pc8 i < (few H i).2 ∧ H i = true then (nI i, pc8 i) else few H i
theorem pc8_le (v : Nat) : pc8 v ≤ 8 := ct_le _ 8
theorem few_spec (H : Nat → Bool) : ∀ i, few H i = (-9, 9) ∨ ∃ b, b < i ∧ few H i = (nI b, pc8 b)
  | 0 => Or.inl rfl
  | i + 1 => by
    simp only [few]
    split
    · exact Or.inr ⟨i, by omega, rfl⟩
    · rcases few_spec H i with z | ⟨b, hb, z⟩
      · exact Or.inl z
      · exact Or.inr ⟨b, by omega, z⟩
theorem few_le (H : Nat → Bool) (i : Nat) : (few H i).2 ≤ 9 := by
  rcases few_spec H i with z | ⟨b, hb, z⟩
  · rw [z]; exact Nat.le_refl _
  · rw [z]
    have := pc8_le b
    show pc8 b ≤ 9
    omega
theorem t_fewestToSend {S S0 U : G} {T : Tw} {n : Nat} (h : rT U T) (hn : n ≤ 100) : ∃ S0', f_X3_fewestToSend S S0 U (nI n) = some ((few (hwo T n) (2 ^ T 3 0)).1, (S, S0', U)) := by
  have ok := h.2.2.2.2.2.2
  have h8 := ok.2.1
  have hpw : 2 ^ (T 3 0) ≤ 2 ^ 8 := Nat.pow_le_pow_right (by decide) h8
  unfold f_X3_fewestToSend
  refine loopR (fun fuel i (s : G) => f_X3_fewestToSend_10 fuel S s U (nI n) (few (hwo T n) i).1 (nI (few (hwo T n) i).2) (nI i)) (fun _ _ => True) (2 ^ T 3 0) (fun r => ∃ S0', r = some ((few (hwo T n) (2 ^ T 3 0)).1, (S, S0', U))) (fun f s _ => ?_) (fun f i s hi _ => Or.inr ?_) (2 ^ T 3 0) 0 1000 S0 (by omega) (by omega) trivial
  · show ∃ S0', b_X3_fewestToSend_10 _ S s U _ _ _ _ = _
    unfold b_X3_fewestToSend_10
    rw [h.2.1, sh1 _ (by omega), if_pos (nI_le (Nat.le_refl _) (by omega))]
    exact ⟨s, rfl⟩
  · obtain ⟨w, e⟩ := t_isAllHeardWithout (S := S) (S0 := s) (v := i) h (by omega) hn
    have hle := few_le (hwo T n) i
    have hp := pc8_le i
    show ∃ s', _ ∧ b_X3_fewestToSend_10 _ S s U _ _ _ _ = _
    unfold b_X3_fewestToSend_10
    rw [h.2.1, sh1 _ (by omega), if_neg (nI_ge hi (by omega)), jbits i (by omega), bd_s, e, bd_s, bd_s, ifb, nl1, nI_add]
    by_cases c : pc8 i < (few (hwo T n) i).2
    · rw [if_neg (nI_ge c (by omega))]
      cases q : hwo T n i with
      | true =>
        refine ⟨w, trivial, ?_⟩
        rw [show few (hwo T n) (i + 1) = (nI i, pc8 i) from if_pos ⟨c, q⟩]; rfl
      | false =>
        refine ⟨w, trivial, ?_⟩
        rw [show few (hwo T n) (i + 1) = few (hwo T n) i from if_neg (fun z => by rw [q] at z; exact absurd z.2 (by decide))]; rfl
    · rw [if_pos (nI_le (by omega) (by omega))]
      refine ⟨s, trivial, ?_⟩
      rw [show few (hwo T n) (i + 1) = few (hwo T n) i from if_neg (fun z => c z.1)]
theorem m_fewest {M : G} {T : Tw} {n : Nat} (h : rM M T) (ho : rO M none) (hn : n ≤ 100) : ∃ N, f_X7_fewest_24 1000 M (nI n) (-9) 0 = some ((few (hwo T n) (2 ^ T 3 0)).1, N) ∧ eqM 48 M N := by
  have ok := h.2.2.2.2.2.2
  have h8 := ok.2.1
  have hpw : 2 ^ (T 3 0) ≤ 2 ^ 8 := Nat.pow_le_pow_right (by decide) h8
  refine loopR (fun fuel i (s : G) => f_X7_fewest_24 fuel s (nI n) (few (hwo T n) i).1 (nI i)) (fun _ s => eqM 48 M s) (2 ^ T 3 0) (fun r => ∃ N, r = some ((few (hwo T n) (2 ^ T 3 0)).1, N) ∧ eqM 48 M N) (fun f s hs => ?_) (fun f i s hi hs => Or.inr ?_) (2 ^ T 3 0) 0 1000 M (by omega) (by omega) (eqM.rf _ _)
  · refine ⟨s, ?_, hs⟩
    show b_X7_fewest_24 _ s _ _ _ = _
    unfold b_X7_fewest_24
    rw [(h.eq hs).2.1, sh1 _ (by omega), if_pos (nI_le (Nat.le_refl _) (by omega))]
  · obtain ⟨w, e, q⟩ := m_allHeardWithout (v := i) (n := n) (h.eq hs) (rO_eq ho hs) (by omega) hn
    have hp := pc8_le i
    have go : pc8 i < (few (hwo T n) i).2 → f_X7_fewest_54 (f_X7_fewest_24 f) s (nI n) (few (hwo T n) i).1 (nI i) = f_X7_fewest_24 f w (nI n) (few (hwo T n) (i + 1)).1 (nI (i + 1)) := by
      intro c
      unfold f_X7_fewest_54
      rw [e, bd_s, ifb, nl1, nI_add]
      cases y : hwo T n i with
      | true => rw [show few (hwo T n) (i + 1) = (nI i, pc8 i) from if_pos ⟨c, y⟩]; rfl
      | false => rw [show few (hwo T n) (i + 1) = few (hwo T n) i from if_neg (fun z => by rw [y] at z; exact absurd z.2 (by decide))]; rfl
    show ∃ s', _ ∧ b_X7_fewest_24 _ s _ _ _ = _
    unfold b_X7_fewest_24
    rw [(h.eq hs).2.1, sh1 _ (by omega), if_neg (nI_ge hi (by omega))]
    rcases few_spec (hwo T n) i with z | ⟨b, hb, z⟩
    · rw [show (few (hwo T n) i).1 = -9 by rw [z], if_pos (by decide)]
      refine ⟨w, hs.tr q (by decide) (by decide), ?_⟩
      have g := go (by rw [z]; show _ < 9; omega)
      rw [show (few (hwo T n) i).1 = -9 by rw [z]] at g
      exact g
    · have e1 : (few (hwo T n) i).1 = nI b := by rw [z]
      have e2 : (few (hwo T n) i).2 = pc8 b := by rw [z]
      have hpb := pc8_le b
      rw [e1, if_neg (nI_pos (by omega)), mbits i (by omega), bd_s, mbits b (by omega), bd_s]
      by_cases c : pc8 i < pc8 b
      · rw [if_pos (nI_lt c (by omega))]
        refine ⟨w, hs.tr q (by decide) (by decide), ?_⟩
        have g := go (by rw [e2]; exact c)
        rw [e1] at g
        exact g
      · rw [if_neg (nI_nlt (by omega) (by omega)), nl1, nI_add]
        refine ⟨s, hs, ?_⟩
        rw [show few (hwo T n) (i + 1) = few (hwo T n) i from if_neg (fun z => by rw [e2] at z; exact c z.1), e1]
/-! beds -/
def bdF (T : Tw) (n : Nat) : Nat := fi (fun i => heardAll (dN n (st1 T 9 0 (i + 1)))) 8
def spBeds (T : Tw) (n : Nat) : Int32 := if bdF T n < 8 then nI (bdF T n + 1) else -9
theorem t_fewestBeds {S S0 U : G} {T : Tw} {n : Nat} (h : rT U T) (hn : n ≤ 100) : ∃ S0', f_X3_fewestBeds S S0 U (nI n) = some (spBeds T n, (S, S0', U)) := by
  have hle : bdF T n ≤ 8 := fi_le _ 8
  have one : ∀ (s : G) (i : Nat), i < 8 → ∃ u w, f_X4_become s U = some ((), (u, U)) ∧ f_X4_pass (pF u 9 (nI (i + 1))) (nI n) = some ((), w) ∧ ∃ m, f_X4_silentBells w = some (m, w) ∧ (m = 0 ↔ heardAll (dN n (st1 T 9 0 (i + 1))) = true) := by
    intro s i hi
    obtain ⟨u, e, hu⟩ := t_become (S := s) h
    obtain ⟨w, e2, hw⟩ := t_pass (rT_s9 hu (v := i + 1) (by omega) (by omega)) hn
    refine ⟨u, w, e, e2, _, t_silentBells hw, ?_⟩
    rw [mk6 hw.2.2.2.2.2.2.1]
    unfold heardAll
    cases anyB (silent (dN n (st1 T 9 0 (i + 1)))) (dN n (st1 T 9 0 (i + 1)) 0 0) <;> simp
  unfold f_X3_fewestBeds
  refine loopR (fun fuel i (s : G) => f_X3_fewestBeds_2 fuel S s U (nI n) (nI (i + 1))) (fun _ _ => True) (bdF T n) (fun r => ∃ S0', r = some (spBeds T n, (S, S0', U))) (fun f s _ => ?_) (fun f i s hi _ => Or.inr ?_) (bdF T n) 0 1000 S0 (by omega) (by omega) trivial
  · show ∃ S0', b_X3_fewestBeds_2 _ S s U _ _ = _
    unfold b_X3_fewestBeds_2 spBeds
    by_cases c : bdF T n < 8
    · obtain ⟨u, w, e, e2, m, e3, q⟩ := one s (bdF T n) c
      have y : heardAll (dN n (st1 T 9 0 (bdF T n + 1))) = true := fi_yes (fun i => heardAll (dN n (st1 T 9 0 (i + 1)))) 8 c
      rw [if_neg (show ¬ (8 : Int32) < nI (bdF T n + 1) from nI_nlt (a := 8) (by omega) (by decide)), e, bd_s, lt_s', e2, bd_s, e3, bd_s, if_pos (q.mpr y), if_pos c]
      exact ⟨w, rfl⟩
    · rw [if_pos (show (8 : Int32) < nI (bdF T n + 1) from nI_lt (a := 8) (by omega) (by omega)), if_neg c]
      exact ⟨s, rfl⟩
  · obtain ⟨u, w, e, e2, m, e3, q⟩ := one s i (by omega)
    have y : heardAll (dN n (st1 T 9 0 (i + 1))) = false := fi_no (fun i => heardAll (dN n (st1 T 9 0 (i + 1)))) 8 i hi
    refine ⟨w, trivial, ?_⟩
    show b_X3_fewestBeds_2 _ S s U _ _ = _
    unfold b_X3_fewestBeds_2
    rw [if_neg (show ¬ (8 : Int32) < nI (i + 1) from nI_nlt (a := 8) (by omega) (by decide)), e, bd_s, lt_s', e2, bd_s, e3, bd_s, if_neg (fun z => by rw [q.mp z] at y; cases y), nl1, nI_add]
theorem eqM_pF {M s : G} {lim : Nat} {x y : Int32} (e : eqM lim (pF M 10 x) s) : eqM lim (pF M 10 y) (pF s 10 y) := by
  refine ⟨fun k hk => e.1 k hk, fun k a b => ?_, fun q hq => e.2.2 q hq⟩
  rw [pF_1, pF_1]
  split
  · rfl
  · rename_i z
    have := e.2.1 k a b
    rw [pF_1, if_neg z] at this
    exact this
theorem rO_pF {M : G} {o : Option Nat} {v : Int32} (h : rO M o) : rO (pF M 10 v) o := h
theorem m_bedsFor {M : G} {T : Tw} {n : Nat} (h : rM M T) (ho : rO M none) (hn : n ≤ 100) : ∃ N, f_X7_bedsFor_30 1000 M (nI n) (M.1 10) (-9) 1 = some (spBeds T n, N) ∧ eqM 96 M N := by
  have hle : bdF T n ≤ 8 := fi_le _ 8
  have one : ∀ (s : G) (i : Nat), i < 8 → (∃ x, eqM 96 (pF M 10 x) s) → ∃ w, f_X7_allHeardIn (pF s 10 (nI (i + 1))) (nI n) = some (bI (heardAll (dN n (st1 T 9 0 (i + 1)))), w) ∧ eqM 96 (pF M 10 (nI (i + 1))) w := by
    intro s i hi ⟨x, hs⟩
    have q : eqM 96 (pF M 10 (nI (i + 1))) (pF s 10 (nI (i + 1))) := eqM_pF hs
    obtain ⟨w, e, q2⟩ := m_allHeardIn ((rM_s9 h (v := i + 1) (by omega) (by omega)).eq q) (rO_eq (rO_pF ho) q) (n := n) (by omega)
    exact ⟨w, e, q.tr q2 (by decide) (by decide)⟩
  have fin : ∀ (s : G), (∃ x, eqM 96 (pF M 10 x) s) → eqM 96 M (pF s 10 (M.1 10)) := by
    intro s ⟨x, hs⟩
    have := eqM_pF (y := M.1 10) hs
    rw [pF_self] at this
    exact this
  refine loopR (fun fuel i (s : G) => f_X7_bedsFor_30 (fuel + 1) s (nI n) (M.1 10) (-9) (nI (i + 1))) (fun _ s => ∃ x, eqM 96 (pF M 10 x) s) (bdF T n) (fun r => ∃ N, r = some (spBeds T n, N) ∧ eqM 96 M N) (fun f s hs => ?_) (fun f i s hi hs => Or.inr ?_) (bdF T n) 0 999 M (by omega) (by omega) ⟨M.1 10, by rw [pF_self]; exact eqM.rf _ _⟩
  · show ∃ N, b_X7_bedsFor_30 _ s _ _ _ _ = _ ∧ _
    unfold b_X7_bedsFor_30 spBeds
    by_cases c : bdF T n < 8
    · obtain ⟨w, e, q⟩ := one s (bdF T n) c hs
      have y : heardAll (dN n (st1 T 9 0 (bdF T n + 1))) = true := fi_yes (fun i => heardAll (dN n (st1 T 9 0 (i + 1)))) 8 c
      rw [if_neg (show ¬ (9 : Int32) ≤ nI (bdF T n + 1) from nI_ge (b := 9) (by omega) (by decide)), if_neg (by decide), lt_s', e, bd_s, ifb, y, if_pos rfl, if_pos c]
      refine ⟨pF w 10 (M.1 10), ?_, fin w ⟨_, q⟩⟩
      show b_X7_bedsFor_30 _ w _ _ _ _ = _
      unfold b_X7_bedsFor_30
      rw [if_pos (show (0 : Int32) ≤ nI (bdF T n + 1) from nI_pos' (by omega)), lt_s']
      simp
    · rw [if_pos (show (9 : Int32) ≤ nI (bdF T n + 1) from nI_le (a := 9) (by omega) (by omega)), if_neg c]
      exact ⟨_, rfl, fin s hs⟩
  · obtain ⟨w, e, q⟩ := one s i (by omega) hs
    have y : heardAll (dN n (st1 T 9 0 (i + 1))) = false := fi_no (fun i => heardAll (dN n (st1 T 9 0 (i + 1)))) 8 i hi
    refine ⟨w, ⟨_, q⟩, ?_⟩
    show b_X7_bedsFor_30 _ s _ _ _ _ = _
    unfold b_X7_bedsFor_30
    rw [if_neg (show ¬ (9 : Int32) ≤ nI (i + 1) from nI_ge (b := 9) (by omega) (by decide)), if_neg (by decide), lt_s', e, bd_s, ifb, y, if_neg (by decide), nl1, nI_add]
/-! what sending costs -/
def hdays (T : Tw) (p b n : Nat) : Nat := ct (fun d => hears (dN (d + 1) T) p b) n
theorem t_daysHeard {S S0 : G} {T : Tw} {p b : Nat} (h : rT S0 T) (hp : p < T 3 0) (hb : b < T 0 0) : ∃ S0', f_X3_daysHeard S S0 (nI p) (nI b) = some (nI (hdays T p b 20), (S, S0')) := by
  unfold f_X3_daysHeard
  refine loopR (fun fuel i (s : G) => f_X3_daysHeard_5 fuel S s (nI p) (nI b) (nI (hdays T p b i)) (nI (i + 1))) (fun i s => rT s (dN i T)) 20 (fun r => ∃ S0', r = some (nI (hdays T p b 20), (S, S0'))) (fun f s hs => ?_) (fun f i s hi hs => Or.inr ?_) 20 0 1000 S0 (by omega) (by omega) h
  · show ∃ S0', b_X3_daysHeard_5 _ S s _ _ _ _ = _
    unfold b_X3_daysHeard_5
    rw [if_pos (by decide)]
    exact ⟨s, rfl⟩
  · obtain ⟨u, e, hu⟩ := t_pass1 hs
    have hu2 : rT u (dN (i + 1) T) := hu
    have hp0 : p < dN (i + 1) T 3 0 := by rw [dN_k T (by decide) (by decide) (by decide)]; exact hp
    have hb0 : b < dN (i + 1) T 0 0 := by rw [dN_k T (by decide) (by decide) (by decide)]; exact hb
    refine ⟨u, hu2, ?_⟩
    show b_X3_daysHeard_5 _ S s _ _ _ _ = _
    unfold b_X3_daysHeard_5
    rw [if_neg (show ¬ (20 : Int32) < nI (i + 1) from nI_nlt (a := 20) (by omega) (by decide)), e, bd_s, t_hearsIt hu2 hp0 hb0, bd_s, ifb, nl1, nI_add, nI_add]
    unfold hdays
    simp only [ct]
    by_cases c : hears (dN (i + 1) T) p b = true <;> simp [c]
theorem t_daysUnheard {S S0 U : G} {T : Tw} {p k b : Nat} (h : rT U T) (hp : p < T 3 0) (hb : b < T 0 0) (hk : k ≤ 9) : ∃ S0', f_X3_daysUnheardBySending S S0 U (nI p) (nI k) (nI b) = some (nI (hdays T p b 20) - nI (hdays (st1 T 7 p k) p b 20), (S, S0', U)) := by
  have hp8 := ok_p h.2.2.2.2.2.2 hp
  obtain ⟨u, e, hu⟩ := t_become (S := S0) h
  obtain ⟨v, e1⟩ := t_daysHeard (S := S) hu hp hb
  obtain ⟨u2, e2, hu2⟩ := t_become (S := v) h
  obtain ⟨v2, e3⟩ := t_daysHeard (S := S) (rT_st hu2 hp (k := 7) (v := k) (by omega)) (p := p) (b := b) hp hb
  refine ⟨v2, ?_⟩
  unfold f_X3_daysUnheardBySending
  rw [e, bd_s, e1, bd_s, e2, bd_s, ckn hp8 (by decide), if_pos rfl, lt_s', cln (by omega), e3, bd_s]
theorem m_hearsIn {M : G} {T : Tw} {p b : Nat} (h : rM M T) (ho : rO M none) (hp : p < T 3 0) (hb : b < T 0 0) : ∃ N, f_X7_hearsIn M (nI p) (nI b) = some (nI (hdays T p b 20), N) ∧ eqM 96 M N := by
  obtain ⟨N0, e0, k0, h0, o0⟩ := m_think h ho
  unfold f_X7_hearsIn
  rw [e0, bd_s]
  refine loopR (fun fuel i (s : G) => f_X7_hearsIn_9 fuel s (nI p) (nI b) (nI (hdays T p b i)) (nI i)) (fun i s => rM s (dN i T) ∧ frw 144 N0 s) 20 (fun r => ∃ N, r = some (nI (hdays T p b 20), N) ∧ eqM 96 M N) (fun f s hs => ?_) (fun f i s hi hs => Or.inr ?_) 20 0 1000 N0 (by omega) (by omega) ⟨h0, frw.rf _ _⟩
  · obtain ⟨R, e, q⟩ := m_forgets k0 hs.2
    refine ⟨R, ?_, q⟩
    show b_X7_hearsIn_9 _ s _ _ _ _ = _
    unfold b_X7_hearsIn_9
    rw [if_pos (by decide), e, bd_s]
  · obtain ⟨hs, hf⟩ := hs
    obtain ⟨u, e, hu, hf2⟩ := m_goesDay hs
    have hu2 : rM u (dN (i + 1) T) := hu
    have hf3 := hf.tr hf2 (lim := 144) (by decide) (by decide)
    have hp0 : p < dN (i + 1) T 3 0 := by rw [dN_k T (by decide) (by decide) (by decide)]; exact hp
    have hb0 : b < dN (i + 1) T 0 0 := by rw [dN_k T (by decide) (by decide) (by decide)]; exact hb
    refine ⟨u, ⟨hu2, hf3⟩, ?_⟩
    show b_X7_hearsIn_9 _ s _ _ _ _ = _
    unfold b_X7_hearsIn_9
    rw [if_neg (show ¬ (20 : Int32) ≤ nI i from nI_ge (b := 20) (by omega) (by decide)), e, bd_s, m_hears hu2 (rO_frw o0 hf3) hp0 hb0, hO_none, bd_s, ifb, nl1, nl0, nI_add, nI_add, nI_add]
    unfold hdays
    simp only [ct]
    by_cases c : hears (dN (i + 1) T) p b = true <;> simp [c]
theorem m_cost {M : G} {T : Tw} {p k b : Nat} (h : rM M T) (ho : rO M none) (hp : p < T 3 0) (hb : b < T 0 0) (hk : k ≤ 9) : ∃ N, f_X7_cost_27 M (nI p) (nI k) (nI b) 0 = some (nI (hdays T p b 20) - nI (hdays (st1 T 7 p k) p b 20), N) ∧ eqM 96 M N := by
  have hp8 := ok_p h.2.2.2.2.2.2 hp
  obtain ⟨u, e, q⟩ := m_hearsIn h ho hp hb
  obtain ⟨v, e2, q2⟩ := m_hearsIn (rM_st (h.eq q) hp (k := 7) (j := 6) (v := k) (by omega)) (rO_pA (rO_eq ho q)) (p := p) (b := b) hp hb
  refine ⟨pA v 6 p (u.2 6 p), ?_, q.tr (eqM_back (by decide) q2) (by decide) (by decide)⟩
  unfold f_X7_cost_27
  rw [if_pos rfl, e, bd_s, ckn hp8 (by decide), cln (by omega)]
  simp only [if_true, lt_s']
  rw [e2, bd_s]
