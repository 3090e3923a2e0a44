/-! two who lie or not -/
def lieT (T : Tw) (p : Nat) (is : Bool) : Tw := if is = true then st1 (st1 T 4 p 4) 5 p 5 else T
def twT (T : Tw) (a b i : Nat) : Tw := lieT (lieT T a (decide (2 ≤ i))) b (decide (i % 2 = 1))
theorem lieT_k {T : Tw} {p : Nat} {is : Bool} {k : Nat} (h4 : k ≠ 4) (h5 : k ≠ 5) : lieT T p is k = T k := by
  unfold lieT
  split
  · rw [st1_k h5, st1_k h4]
  · rfl
theorem twT_k {T : Tw} {a b i k : Nat} (h4 : k ≠ 4) (h5 : k ≠ 5) : twT T a b i k = T k := by
  unfold twT
  rw [lieT_k h4 h5, lieT_k h4 h5]
theorem t_lie {S : G} {T : Tw} {p : Nat} (h : rT S T) (hp : p < T 3 0) : ∃ u, f_X4_makeKind S (nI p) 4 5 = some ((), u) ∧ rT u (lieT T p true) := by
  have hp8 := ok_p h.2.2.2.2.2.2 hp
  unfold f_X4_makeKind
  rw [ckn hp8 (by decide), cln (by omega)]
  simp only [if_true, lt_s']
  exact ⟨_, rfl, rT_st (rT_st h hp (k := 4) (v := 4) (by omega)) (p := p) hp (k := 5) (v := 5) (by omega)⟩
theorem m_lie {M : G} {T : Tw} {p : Nat} (h : rM M T) (hp : p < T 3 0) (is : Bool) {x : Int32} (hx : x = bI is) : ∃ u, f_X7_liesNow M (nI p) x = some ((), u) ∧ rM u (lieT T p is) ∧ frw 144 M u := by
  have hp8 := ok_p h.2.2.2.2.2.2 hp
  unfold f_X7_liesNow
  rw [hx, ifb, ckn hp8 (by decide), cln (by omega)]
  simp only [if_true, lt_s']
  cases is with
  | false => exact ⟨M, rfl, h, frw.rf _ _⟩
  | true => exact ⟨_, rfl, rM_st (rM_st h hp (k := 4) (j := 3) (v := 4) (by omega)) (p := p) hp (k := 5) (j := 4) (v := 5) (by omega), (frw_pA (by decide) hp8).tr (frw_pA (by decide) hp8) (by decide) (by decide)⟩
def twO (T : Tw) (a b n i : Nat) : Nat := rdays (twT T a b i) 0 (T 0 0) n
def twP (o : Nat → Nat) (i : Nat) : Bool := decide (o (i ^^^ 2) ≤ o i) && decide (o i ≤ o (i ^^^ 1))
def spTwo (o : Nat → Nat) : Int32 := if fi (twP o) 4 < 4 then nI (10 * (fi (twP o) 4 / 2) + fi (twP o) 4 % 2) else -9
theorem x42 : ∀ i, i < 4 → nI i ^^^ (2 : Int32) = nI (i ^^^ 2) ∧ (i ^^^ 2) < 4 ∧ nI i ^^^ (1 : Int32) = nI (i ^^^ 1) ∧ (i ^^^ 1) < 4 := by decide
theorem x4r : ∀ i, i < 4 → (10 : Int32) * (nI i / 2) + (nI i - nI i / 2 * 2) = nI (10 * (i / 2) + i % 2) := by decide
theorem x4h : ∀ i, i < 4 → nI i / 2 = bI (decide (2 ≤ i)) ∧ nI i - nI i / 2 * 2 = bI (decide (i % 2 = 1)) := by decide
theorem tw_cmp {o : Nat → Nat} (ho : ∀ i, o i ≤ 1000) {i : Nat} : twP o i = true ↔ ¬ nI (o i) < nI (o (i ^^^ 2)) ∧ ¬ nI (o (i ^^^ 1)) < nI (o i) := by
  have h1 := ho i
  have h2 := ho (i ^^^ 2)
  have h3 := ho (i ^^^ 1)
  unfold twP
  rw [nI_ltI (by omega) (by omega), nI_ltI (by omega) (by omega)]
  simp only [Bool.and_eq_true, decide_eq_true_eq]
  omega
theorem t_settle {S S0 U : G} {o : Nat → Nat} (ho : ∀ i, o i ≤ 1000) (h : ∀ i, i < 4 → S.2 1 i = nI (o i)) : f_X3_settledPair_81 1000 S S0 U 0 = some (spTwo o, (S, S0, U)) := by
  have hle := fi_le (twP o) 4
  have tst : ∀ i, i < 4 → ∀ (k : G → G → G → Int32 → Option (Int32 × G × G × G)), b_X3_settledPair_81 k S S0 U (nI i) = if twP o i = true then some (nI (10 * (i / 2) + i % 2), (S, S0, U)) else k S S0 U (nI (i + 1)) := by
    intro i hi k
    obtain ⟨x1, x2, x3, x4⟩ := x42 i hi
    unfold b_X3_settledPair_81
    rw [if_neg (show ¬ (4 : Int32) ≤ nI i from nI_ge (b := 4) hi (by decide)), x1, x3, ckn hi (by decide), ckn x2 (by decide), ckn x4 (by decide), cln (by omega), cln (by omega), cln (by omega), h i hi, h _ x2, h _ x4, x4r i hi]
    simp only [if_true, if_neg (show ¬ (2 : Int32) = 0 by decide)]
    rw [show nI i + (1 : Int32) = nI (i + 1) from nI_add i 1]
    by_cases c : twP o i = true
    · obtain ⟨c1, c2⟩ := (tw_cmp ho).mp c
      rw [if_neg c1, if_neg c2, if_pos c]
    · rw [if_neg c]
      by_cases c1 : nI (o i) < nI (o (i ^^^ 2))
      · rw [if_pos c1]
      · rw [if_neg c1, if_pos (by
          by_cases c2 : nI (o (i ^^^ 1)) < nI (o i)
          · exact c2
          · exact absurd ((tw_cmp ho).mpr ⟨c1, c2⟩) c)]
  refine loopE (fun fuel i => f_X3_settledPair_81 fuel S S0 U (nI i)) (fi (twP o) 4) _ (fun f => ?_) (fun f i hi => Or.inr ?_) 1000 0 (by omega) (by omega)
  · show b_X3_settledPair_81 _ S S0 U _ = _
    unfold spTwo
    by_cases c : fi (twP o) 4 < 4
    · rw [tst _ c, if_pos (fi_yes _ _ c), if_pos c]
    · rw [if_neg c, show fi (twP o) 4 = 4 by omega]
      unfold b_X3_settledPair_81
      rw [if_pos (by decide)]
  · show b_X3_settledPair_81 _ S S0 U _ = _
    rw [tst i (by omega), fi_no _ _ i hi, if_neg (by decide)]
theorem twO_le {T : Tw} (ok : okT T) {a b n : Nat} (hn : n ≤ 40) (i : Nat) : twO T a b n i ≤ 1000 := by
  have := rdays_le (twT T a b i) (f := 0) (k := T 0 0) (n := n) ok.1 hn
  unfold twO
  omega
theorem t_settledPair {S S0 U : G} {T : Tw} {a b n : Nat} (h : rT U T) (ha : a < T 3 0) (hb : b < T 3 0) (hn : n ≤ 40) (hd : T 8 0 ≤ 2000) : ∃ S' S0', f_X3_settledPair S S0 U (nI a) (nI b) (nI n) = some (spTwo (twO T a b n), (S', S0', U)) := by
  have ok := h.2.2.2.2.2.2
  unfold f_X3_settledPair
  refine loopR (fun fuel i (s : G × G) => f_X3_settledPair_3 fuel s.1 s.2 U (nI a) (nI b) (nI n) (nI i)) (fun i s => ∀ j, j < i → s.1.2 1 j = nI (twO T a b n j)) 4 (fun r => ∃ S' S0', r = some (spTwo (twO T a b n), (S', S0', U))) (fun f s hs => ?_) (fun f i s hi hs => Or.inr ?_) 4 0 1000 (S, S0) (by omega) (by omega) (fun j hj => absurd hj (Nat.not_lt_zero j))
  · show ∃ S' S0', b_X3_settledPair_3 _ s.1 s.2 U _ _ _ _ = _
    unfold b_X3_settledPair_3
    rw [if_pos (by decide), t_settle (twO_le ok hn) hs]
    exact ⟨_, _, rfl⟩
  · obtain ⟨u, e, hu⟩ := t_become (S := s.2) h
    obtain ⟨x1, x2⟩ := x4h i hi
    have last : ∀ (v : G), rT v (twT T a b i) → ∃ w, f_X3_settledPair_51 (f_X3_settledPair_3 f) s.1 v U (nI a) (nI b) (nI n) (nI i) = f_X3_settledPair_3 f (pA s.1 1 i (nI (twO T a b n i))) w U (nI a) (nI b) (nI n) (nI (i + 1)) := by
      intro v hv
      obtain ⟨w, e2⟩ := t_passCountingRight hv (f := 0) (k := T 0 0) (n := n) (by rw [twT_k (by decide) (by decide)]; omega) hn (by rw [twT_k (by decide) (by decide)]; exact hd)
      rw [Nat.zero_add] at e2
      replace e2 : f_X4_passCountingRight v 0 (nI (T 0 0)) (nI n) = _ := e2
      refine ⟨w, ?_⟩
      unfold f_X3_settledPair_51
      rw [h.1, e2, bd_s, ckn hi (by decide), if_pos rfl, lt_s', cln (by omega), nl1, nI_add]
      rfl
    have mid : ∀ (v : G), rT v (lieT T a (decide (2 ≤ i))) → ∃ w, f_X3_settledPair_33 (f_X3_settledPair_3 f) s.1 v U (nI a) (nI b) (nI n) (nI i) = f_X3_settledPair_3 f (pA s.1 1 i (nI (twO T a b n i))) w U (nI a) (nI b) (nI n) (nI (i + 1)) := by
      intro v hv
      unfold f_X3_settledPair_33
      rw [if_neg (by decide), x2, ifb1]
      by_cases c : i % 2 = 1
      · rw [if_pos (by simp [c])]
        obtain ⟨v2, e2, hv2⟩ := t_lie hv (p := b) (by rw [lieT_k (by decide) (by decide)]; exact hb)
        rw [e2, bd_s]
        refine last v2 ?_
        unfold twT
        rw [show decide (i % 2 = 1) = true by simp [c]]
        exact hv2
      · rw [if_neg (by simp [c])]
        refine last v ?_
        unfold twT
        rw [show decide (i % 2 = 1) = false by simp [c]]
        exact hv
    have key : ∃ w, b_X3_settledPair_3 (f_X3_settledPair_3 f) s.1 s.2 U (nI a) (nI b) (nI n) (nI i) = f_X3_settledPair_3 f (pA s.1 1 i (nI (twO T a b n i))) w U (nI a) (nI b) (nI n) (nI (i + 1)) := by
      unfold b_X3_settledPair_3
      rw [if_neg (show ¬ (4 : Int32) ≤ nI i from nI_ge (b := 4) hi (by decide)), e, bd_s]
      by_cases c : i < 2
      · rw [if_pos (show nI i < (2 : Int32) from nI_lt (b := 2) c (by decide))]
        refine mid u ?_
        rw [show decide (2 ≤ i) = false by simp; omega]
        exact hu
      · rw [if_neg (show ¬ nI i < (2 : Int32) from nI_nlt (b := 2) (by omega) (by omega))]
        obtain ⟨v2, e2, hv2⟩ := t_lie hu ha
        rw [e2, bd_s]
        refine mid v2 ?_
        rw [show decide (2 ≤ i) = true by simp; omega]
        exact hv2
    obtain ⟨w, kw⟩ := key
    refine ⟨(pA s.1 1 i (nI (twO T a b n i)), w), fun j hj => ?_, kw⟩
    show (pA s.1 1 i (nI (twO T a b n i))).2 1 j = _
    rw [pA_2, if_pos rfl, updE]
    by_cases z : j = i
    · rw [if_pos z, z]
    · rw [if_neg z, hs j (by omega)]
/-! the reference's way: one row of its own is written -/
def eqX (M N : G) : Prop := (∀ k, k ≠ 19 → k ≠ 23 → N.2 k = M.2 k) ∧ (∀ k, k ≠ 21 → k ≠ 22 → N.1 k = M.1 k) ∧ (∀ j, j < 48 → N.2 19 j = M.2 19 j)
theorem eqM.x {M N : G} {lim : Nat} (h : eqM lim M N) (hl : 48 ≤ lim) : eqX M N := ⟨fun k a _ => h.1 k a, h.2.1, fun j hj => h.2.2 j (by omega)⟩
theorem eqX.rf (M : G) : eqX M M := ⟨fun _ _ _ => rfl, fun _ _ _ => rfl, fun _ _ => rfl⟩
theorem eqX.tr {M N O : G} (h : eqX M N) (g : eqX N O) : eqX M O := ⟨fun k a b => (g.1 k a b).trans (h.1 k a b), fun k a b => (g.2.1 k a b).trans (h.2.1 k a b), fun j hj => (g.2.2 j hj).trans (h.2.2 j hj)⟩
theorem rM.eqX {M N : G} {T : Tw} (h : rM M T) (e : eqX M N) : rM N T := by
  obtain ⟨a, b, c, d, f, g, ok⟩ := h
  refine ⟨by rw [e.2.1 7 (by decide) (by decide)]; exact a, by rw [e.2.1 8 (by decide) (by decide)]; exact b, by rw [e.2.1 9 (by decide) (by decide)]; exact c, by rw [e.2.1 10 (by decide) (by decide)]; exact d, fun q hq => ?_, fun q hq => ?_, ok⟩
  · rw [e.1 1 (by decide) (by decide), e.1 2 (by decide) (by decide)]; exact f q hq
  · rw [e.1 3 (by decide) (by decide), e.1 4 (by decide) (by decide), e.1 5 (by decide) (by decide), e.1 6 (by decide) (by decide)]; exact g q hq
theorem rO_eqX {M N : G} {o : Option Nat} (h : rO M o) (e : eqX M N) : rO N o := ⟨by rw [e.2.1 11 (by decide) (by decide)]; exact h.1, h.2⟩
theorem m_settle {S : G} {o : Nat → Nat} (ho : ∀ i, o i ≤ 1000) (h : ∀ i, i < 4 → S.2 23 i = nI (o i)) : f_X7_two_102 1000 S 0 = some (spTwo o, S) := by
  have hle := fi_le (twP o) 4
  have tst : ∀ i, i < 4 → ∀ (k : G → Int32 → Option (Int32 × G)), b_X7_two_102 k S (nI i) = if twP o i = true then some (nI (10 * (i / 2) + i % 2), S) else k S (nI (i + 1)) := by
    intro i hi k
    obtain ⟨x1, x2, x3, x4⟩ := x42 i hi
    unfold b_X7_two_102
    rw [if_neg (show ¬ (4 : Int32) ≤ nI i from nI_ge (b := 4) hi (by decide)), x1, x3, ckn hi (by decide), ckn x2 (by decide), ckn x4 (by decide), cln (by omega), cln (by omega), cln (by omega), h i hi, h _ x2, h _ x4, x4r i hi]
    simp only [if_true, if_neg (show ¬ (2 : Int32) = 0 by decide)]
    rw [show nI i + (1 : Int32) = nI (i + 1) from nI_add i 1]
    by_cases c : twP o i = true
    · obtain ⟨c1, c2⟩ := (tw_cmp ho).mp c
      rw [if_neg c1, if_neg c2, if_pos c]
    · rw [if_neg c]
      by_cases c1 : nI (o i) < nI (o (i ^^^ 2))
      · rw [if_pos c1]
      · rw [if_neg c1, if_pos (by
          by_cases c2 : nI (o (i ^^^ 1)) < nI (o i)
          · exact c2
          · exact absurd ((tw_cmp ho).mpr ⟨c1, c2⟩) c)]
  refine loopE (fun fuel i => f_X7_two_102 fuel S (nI i)) (fi (twP o) 4) _ (fun f => ?_) (fun f i hi => Or.inr ?_) 1000 0 (by omega) (by omega)
  · show b_X7_two_102 _ S _ = _
    unfold spTwo
    by_cases c : fi (twP o) 4 < 4
    · rw [tst _ c, if_pos (fi_yes _ _ c), if_pos c]
    · rw [if_neg c, show fi (twP o) 4 = 4 by omega]
      unfold b_X7_two_102
      rw [if_pos (by decide)]
  · show b_X7_two_102 _ S _ = _
    rw [tst i (by omega), fi_no _ _ i hi, if_neg (by decide)]
theorem m_cb (O : G) : ∃ R, f_X7_changesBack O = some ((), R) ∧ PBk O 48 R := by
  obtain ⟨R, e, b⟩ := m_back O (w := 1) (by decide)
  refine ⟨R, ?_, b⟩
  unfold f_X7_changesBack
  rw [nl1] at *
  rw [e, bd_s]
theorem back23 {M N u R : G} {i : Nat} {v : Int32} (k : PK M 48 48 N) (f : frw 96 N u) (b : PBk (pA u 23 i v) 48 R) : eqX M R ∧ R.2 23 = upd (M.2 23) i v := by
  have b1 := b.1
  have q : PBk u 48 (R.1, fun k => if k = 23 then u.2 23 else R.2 k) := by
    obtain ⟨c1, c2, p1, p2, p3, p4, p5, p6, q7, q8, q9, q10⟩ := b
    refine ⟨fun k hk => ?_, c2, p1, p2, p3, p4, p5, p6, q7, q8, q9, q10⟩
    show (if k = 23 then u.2 23 else R.2 k) = u.2 k
    by_cases e : k = 23
    · rw [if_pos e, e]
    · rw [if_neg e, c1 k hk, pA_2, if_neg e]
  have z := restored (w := 1) k f (by decide) q
  refine ⟨⟨fun k a c => ?_, z.2.1, z.2.2⟩, ?_⟩
  · have := z.1 k a
    rw [← this]
    show R.2 k = if k = 23 then u.2 23 else R.2 k
    rw [if_neg c]
  · rw [b1 23 (by omega), pA_2, if_pos rfl, f.1 23 (by omega) (by decide), k.1 23 (by decide)]
theorem m_two {M : G} {T : Tw} {a b n : Nat} (h : rM M T) (hO : rO M none) (ha : a < T 3 0) (hb : b < T 3 0) (hn : n ≤ 40) (hd : T 8 0 ≤ 2000) : ∃ N, f_X7_two_49 1000 M (nI a) (nI b) (nI n) 0 = some (spTwo (twO T a b n), N) ∧ eqX M N := by
  have ok := h.2.2.2.2.2.2
  refine loopR (fun fuel i (s : G) => f_X7_two_49 fuel s (nI a) (nI b) (nI n) (nI i)) (fun i s => eqX M s ∧ ∀ j, j < i → s.2 23 j = nI (twO T a b n j)) 4 (fun r => ∃ N, r = some (spTwo (twO T a b n), N) ∧ eqX M N) (fun f s hs => ?_) (fun f i s hi hs => Or.inr ?_) 4 0 1000 M (by omega) (by omega) ⟨eqX.rf M, fun j hj => absurd hj (Nat.not_lt_zero j)⟩
  · refine ⟨s, ?_, hs.1⟩
    show b_X7_two_49 _ s _ _ _ _ = _
    unfold b_X7_two_49
    rw [if_pos (by decide), m_settle (twO_le ok hn) hs.2]
  · obtain ⟨hq, hv⟩ := hs
    obtain ⟨x1, x2⟩ := x4h i hi
    obtain ⟨N0, e0, k0⟩ := m_changes s
    have q0 : eqM 48 s N0 := PK.eqM (w := 1) k0
    obtain ⟨N1, e1, h1, f1⟩ := m_lie ((h.eqX hq).eq q0) ha _ x1
    obtain ⟨N2, e2, h2, f2⟩ := m_lie h1 (p := b) (by rw [lieT_k (by decide) (by decide)]; exact hb) _ x2
    have f12 := f1.tr f2 (lim := 144) (by decide) (by decide)
    have h2' : rM N2 (twT T a b i) := h2
    obtain ⟨N3, e3, q3⟩ := m_allTrue h2' (rO_frw (rO_eq (rO_eqX hO hq) q0) f12) hn (by rw [twT_k (by decide) (by decide)]; exact hd)
    rw [twT_k (by decide) (by decide)] at e3
    obtain ⟨R, e4, b4⟩ := m_cb (pA N3 23 i (nI (twO T a b n i)))
    obtain ⟨z1, z2⟩ := back23 k0 (f12.tr q3.frw (lim := 96) (by decide) (by decide)) b4
    refine ⟨R, ⟨hq.tr z1, fun j hj => ?_⟩, ?_⟩
    · rw [z2, updE]
      by_cases z : j = i
      · rw [if_pos z, z]
      · rw [if_neg z, hv j (by omega)]
    · show b_X7_two_49 _ s _ _ _ _ = _
      unfold b_X7_two_49
      have e3' : f_X7_allTrue N2 (nI n) = some (nI (twO T a b n i), N3) := e3
      rw [if_neg (show ¬ (4 : Int32) ≤ nI i from nI_ge (b := 4) hi (by decide)), e0, bd_s, if_neg (by decide), e1, bd_s, if_neg (by decide), e2, bd_s, e3', bd_s, ckn hi (by decide), if_pos rfl, lt_s', cln (by omega), e4, bd_s, nl1, nI_add]
