/-! changes in thought: whom to send, and for how long -/
def st1 (T : Tw) (k i v : Nat) : Tw := fun a b => if a = k then (if b = i then v else T a b) else T a b
theorem st1_k {T : Tw} {k i v a : Nat} (h : a ≠ k) : st1 T k i v a = T a := by
  funext b
  simp [st1, h]
theorem ok_st {T : Tw} {k p v : Nat} (h : okT T) (hk : (k = 4 ∧ v ≤ 5) ∨ (k = 5 ∧ v ≤ 9) ∨ (k = 6 ∧ v ≤ 99) ∨ (k = 7 ∧ v ≤ 9)) : okT (st1 T k p v) := by
  obtain ⟨a, b, c, d, e, f⟩ := h
  have z : ∀ a, a < 4 ∨ 7 < a → st1 T k p v a = T a := fun a ha => st1_k (by omega)
  refine ⟨by rw [z 0 (by omega)]; exact a, by rw [z 3 (by omega)]; exact b, by rw [z 9 (by omega)]; exact c, by rw [z 9 (by omega)]; exact d, fun q hq => ?_, fun q hq => ?_⟩
  · rw [z 0 (by omega)] at hq
    rw [z 1 (by omega), z 2 (by omega)]; exact e q hq
  · rw [z 3 (by omega)] at hq
    obtain ⟨f4, f5, f6, f7⟩ := f q hq
    refine ⟨?_, ?_, ?_, ?_⟩ <;> unfold st1 <;> (repeat' split) <;> omega
theorem rT_st {S : G} {T : Tw} {k p v : Nat} (h : rT S T) (hp : p < T 3 0) (hk : (k = 4 ∧ v ≤ 5) ∨ (k = 5 ∧ v ≤ 9) ∨ (k = 6 ∧ v ≤ 99) ∨ (k = 7 ∧ v ≤ 9)) : rT (pA S k p (nI v)) (st1 T k p v) := by
  obtain ⟨a, b, c, d, e, f, ok⟩ := h
  have z : ∀ a, a < 4 ∨ 7 < a → st1 T k p v a = T a := fun a ha => st1_k (by omega)
  refine ⟨by rw [z 0 (by omega)]; exact a, by rw [z 3 (by omega)]; exact b, by rw [z 8 (by omega)]; exact c, by rw [z 9 (by omega)]; exact d, fun q hq => ?_, fun q hq => ?_, ok_st ok hk⟩
  · rw [z 0 (by omega)] at hq
    rw [z 1 (by omega), z 2 (by omega), pA_2, if_neg (by omega), pA_2, if_neg (by omega)]; exact e q hq
  · rw [z 3 (by omega)] at hq
    obtain ⟨f4, f5, f6, f7⟩ := f q hq
    by_cases y : q = p
    · subst y
      rcases hk with ⟨rfl, -⟩ | ⟨rfl, -⟩ | ⟨rfl, -⟩ | ⟨rfl, -⟩ <;> simp [pA_2, updE, st1, f4, f5, f6, f7]
    · rcases hk with ⟨rfl, -⟩ | ⟨rfl, -⟩ | ⟨rfl, -⟩ | ⟨rfl, -⟩ <;> simp [pA_2, updE, st1, f4, f5, f6, f7, y]
theorem rM_st {M : G} {T : Tw} {k j p v : Nat} (h : rM M T) (hp : p < T 3 0) (hk : (k = 4 ∧ v ≤ 5 ∧ j = 3) ∨ (k = 5 ∧ v ≤ 9 ∧ j = 4) ∨ (k = 6 ∧ v ≤ 99 ∧ j = 5) ∨ (k = 7 ∧ v ≤ 9 ∧ j = 6)) : rM (pA M j p (nI v)) (st1 T k p v) := by
  obtain ⟨a, b, c, d, e, f, ok⟩ := h
  have z : ∀ a, a < 4 ∨ 7 < a → st1 T k p v a = T a := fun a ha => st1_k (by omega)
  refine ⟨by rw [z 0 (by omega)]; exact a, by rw [z 3 (by omega)]; exact b, by rw [z 8 (by omega)]; exact c, by rw [z 9 (by omega)]; exact d, fun q hq => ?_, fun q hq => ?_, ok_st ok (by omega)⟩
  · rw [z 0 (by omega)] at hq
    rw [z 1 (by omega), z 2 (by omega), pA_2, if_neg (by omega), pA_2, if_neg (by omega)]; exact e q hq
  · rw [z 3 (by omega)] at hq
    obtain ⟨f4, f5, f6, f7⟩ := f q hq
    by_cases y : q = p
    · subst y
      rcases hk with ⟨rfl, -, rfl⟩ | ⟨rfl, -, rfl⟩ | ⟨rfl, -, rfl⟩ | ⟨rfl, -, rfl⟩ <;> simp [pA_2, updE, st1, f4, f5, f6, f7]
    · rcases hk with ⟨rfl, -, rfl⟩ | ⟨rfl, -, rfl⟩ | ⟨rfl, -, rfl⟩ | ⟨rfl, -, rfl⟩ <;> simp [pA_2, updE, st1, f4, f5, f6, f7, y]
theorem ok_s9 {T : Tw} {v : Nat} (h : okT T) (h1 : 1 ≤ v) (h8 : v ≤ 8) : okT (st1 T 9 0 v) := by
  obtain ⟨a, b, c, d, e, f⟩ := h
  exact ⟨a, b, h1, h8, e, f⟩
theorem rT_s9 {S : G} {T : Tw} {v : Nat} (h : rT S T) (h1 : 1 ≤ v) (h8 : v ≤ 8) : rT (pF S 9 (nI v)) (st1 T 9 0 v) := by
  obtain ⟨a, b, c, d, e, f, ok⟩ := h
  exact ⟨a, b, c, rfl, e, f, ok_s9 ok h1 h8⟩
theorem rM_s9 {M : G} {T : Tw} {v : Nat} (h : rM M T) (h1 : 1 ≤ v) (h8 : v ≤ 8) : rM (pF M 10 (nI v)) (st1 T 9 0 v) := by
  obtain ⟨a, b, c, d, e, f, ok⟩ := h
  exact ⟨a, b, c, rfl, e, f, ok_s9 ok h1 h8⟩
theorem rO_pA {M : G} {o : Option Nat} {j p : Nat} {v : Int32} (h : rO M o) : rO (pA M j p v) o := h
theorem frw_pA {M : G} {j p : Nat} {v : Int32} (hj : 3 ≤ j ∧ j ≤ 6) (hp : p < 8) : frw 144 M (pA M j p v) := by
  have h : ∀ k, k ≠ j → (pA M j p v).2 k = M.2 k := fun k hk => by rw [pA_2, if_neg hk]
  have g : ∀ k i, 8 ≤ i → (pA M j p v).2 k i = M.2 k i := fun k i hi => by
    rw [pA_2]
    split
    · rename_i e
      rw [updE, if_neg (by omega), e]
    · rfl
  exact ⟨fun k a b => h k (by omega), fun i hi => ⟨by rw [h 1 (by omega)], by rw [h 2 (by omega)]⟩, fun i hi => ⟨g 3 i hi, g 4 i hi, g 5 i hi, g 6 i hi⟩, fun k _ _ _ => rfl, fun i _ => by rw [h 19 (by omega)]⟩
theorem eqM_back {s u : G} {j i lim : Nat} {x : Int32} (hj : j ≠ 19) (e : eqM lim (pA s j i x) u) : eqM lim s (pA u j i (s.2 j i)) := by
  refine ⟨fun k hk => ?_, fun k a b => e.2.1 k a b, fun q hq => ?_⟩
  · by_cases z : k = j
    · subst z
      rw [pA_2, if_pos rfl, e.1 k hk, pA_2, if_pos rfl]
      funext y
      by_cases w : y = i
      · subst w; simp [updE]
      · simp [updE, w]
    · rw [pA_2, if_neg z, e.1 k hk, pA_2, if_neg z]
  · rw [pA_2, if_neg (Ne.symm hj), e.2.2 q hq, pA_2, if_neg (Ne.symm hj)]
theorem eqM_pp {s u : G} {j i lim : Nat} {x y : Int32} (hj : j ≠ 19) (e : eqM lim (pA s j i x) u) : eqM lim (pA s j i y) (pA u j i y) := by
  refine ⟨fun k hk => ?_, fun k a b => e.2.1 k a b, fun q hq => ?_⟩
  · by_cases z : k = j
    · subst z
      rw [pA_2, if_pos rfl, e.1 k hk, pA_2, if_pos rfl, pA_2, if_pos rfl]
      funext t
      by_cases w : t = i
      · subst w; simp [updE]
      · simp [updE, w]
    · rw [pA_2, if_neg z, e.1 k hk, pA_2, if_neg z, pA_2, if_neg z]
  · rw [pA_2, if_neg (Ne.symm hj), e.2.2 q hq, pA_2, if_neg (Ne.symm hj), pA_2, if_neg (Ne.symm hj)]
theorem pA_self (s : G) (j i : Nat) : pA s j i (s.2 j i) = s := by
  refine Prod.ext rfl ?_
  funext k
  rw [pA_2]
  split
  · rename_i e
    funext y
    rw [updE, e]
    split
    · rename_i w; rw [w]
    · rfl
  · rfl
/-- the first that is better than the start, and best -/
def amx (lab : Nat → Int32) (n : Nat → Nat) (m : Nat) : Nat → Int32 × Nat
  | 0 => (-9, m)
  | i + 1 => if (amx lab n m i).2 < n i then (lab i, n i) else amx lab n m i
theorem amx_le {lab : Nat → Int32} {n : Nat → Nat} {m c : Nat} (h : ∀ i, n i ≤ c) (hm : m ≤ c) : ∀ i, (amx lab n m i).2 ≤ c
  | 0 => hm
  | i + 1 => by
    have := amx_le (lab := lab) h hm i
    simp only [amx]
    split
    · exact h i
    · exact this
theorem rdays_le (T : Tw) {f k n : Nat} (hk : k ≤ 6) (hn : n ≤ 40) : rdays T f k n ≤ 240 := by
  have := sumD_le (f := fun d => gct (dN (d + 1) T) f k) (c := 6) (fun d => by have : gct (dN (d + 1) T) f k ≤ k := ct_le _ k; omega) n
  unfold rdays
  omega
def spSend (T : Tw) (b k n : Nat) : Nat → Int32 × Nat := amx nI (fun p => rdays (st1 T 7 p k) b 1 n) (rdays T b 1 n)
theorem spSend_le (T : Tw) (b k : Nat) {n : Nat} (hn : n ≤ 40) (i : Nat) : (spSend T b k n i).2 ≤ 240 := amx_le (fun p => rdays_le _ (by decide) hn) (rdays_le _ (by decide) hn) i
theorem t_whomToSend {S S0 U : G} {T : Tw} {b k n : Nat} (h : rT U T) (hb : b < T 0 0) (hk : k ≤ 9) (hn : n ≤ 40) (hd : T 8 0 ≤ 2000) : ∃ S0', f_X3_whomToSend S S0 U (nI b) (nI k) (nI n) = some ((spSend T b k n (T 3 0)).1, (S, S0', U)) := by
  have ok := h.2.2.2.2.2.2
  have h8 := ok.2.1
  obtain ⟨u, e, hu⟩ := t_become (S := S0) h
  obtain ⟨v, e2⟩ := t_passCountingRight hu (f := b) (k := 1) (n := n) (by omega) hn hd
  unfold f_X3_whomToSend
  rw [e, bd_s, nl1, nI_add, e2, bd_s]
  refine loopR (fun fuel i (s : G) => f_X3_whomToSend_30 fuel S s U (nI b) (nI k) (nI n) (nI (spSend T b k n i).2) (spSend T b k n i).1 (nI i)) (fun _ _ => True) (T 3 0) (fun r => ∃ S0', r = some ((spSend T b k n (T 3 0)).1, (S, S0', U))) (fun f s _ => ?_) (fun f i s hi _ => Or.inr ?_) (T 3 0) 0 1000 v (by omega) (by omega) trivial
  · show ∃ S0', b_X3_whomToSend_30 _ S s U _ _ _ _ _ _ = _
    unfold b_X3_whomToSend_30
    rw [h.2.1, if_pos (nI_le (Nat.le_refl _) (by omega))]
    exact ⟨s, rfl⟩
  · obtain ⟨u', e', hu'⟩ := t_become (S := s) h
    have hr := rT_st hu' hi (k := 7) (v := k) (by omega)
    obtain ⟨v', e2'⟩ := t_passCountingRight hr (f := b) (k := 1) (n := n) (show b + 1 ≤ T 0 0 by omega) hn hd
    refine ⟨v', trivial, ?_⟩
    have hle := spSend_le T b k hn i
    have hle2 := rdays_le (st1 T 7 i k) (f := b) (k := 1) (n := n) (by decide) hn
    show b_X3_whomToSend_30 _ S s U _ _ _ _ _ _ = _
    unfold b_X3_whomToSend_30
    rw [h.2.1, if_neg (nI_ge hi (by omega)), e', bd_s, ckn (ok_p ok hi) (by decide), if_pos rfl, lt_s', cln (by omega), nl1, nI_add, e2', bd_s, nI_add]
    by_cases c : (spSend T b k n i).2 < rdays (st1 T 7 i k) b 1 n
    · rw [if_neg (nI_ge c (by omega)), show spSend T b k n (i + 1) = (nI i, rdays (st1 T 7 i k) b 1 n) from if_pos c]
    · rw [if_pos (nI_le (by omega) (by omega)), show spSend T b k n (i + 1) = spSend T b k n i from if_neg c]
theorem m_send {M : G} {T : Tw} {b k n : Nat} (h : rM M T) (ho : rO M none) (hb : b < T 0 0) (hk : k ≤ 9) (hn : n ≤ 40) (hd : T 8 0 ≤ 2000) : ∃ N, f_X7_send_45 M (nI b) (nI k) (nI n) 0 = some ((spSend T b k n (T 3 0)).1, N) ∧ eqM 96 M N := by
  have ok := h.2.2.2.2.2.2
  have h8 := ok.2.1
  obtain ⟨N0, e0, q0⟩ := m_ringing (w := true) h ho hb hn hd
  replace e0 : f_X7_ringing M (nI b) (nI n) 1 = some (nI (rdays T b 1 n), N0) := e0
  unfold f_X7_send_45
  rw [if_pos rfl, e0, bd_s]
  refine loopR (fun fuel i (s : G) => f_X7_send_75 fuel s (nI b) (nI k) (nI n) (spSend T b k n i).1 (nI (spSend T b k n i).2) (nI i)) (fun _ s => eqM 96 M s) (T 3 0) (fun r => ∃ N, r = some ((spSend T b k n (T 3 0)).1, N) ∧ eqM 96 M N) (fun f s hs => ?_) (fun f i s hi hs => Or.inr ?_) (T 3 0) 0 1000 N0 (by omega) (by omega) q0
  · refine ⟨s, ?_, hs⟩
    show b_X7_send_75 _ s _ _ _ _ _ _ = _
    unfold b_X7_send_75
    rw [(h.eq hs).2.1, if_pos (nI_le (Nat.le_refl _) (by omega))]
  · have hr := rM_st (h.eq hs) hi (k := 7) (j := 6) (v := k) (by omega)
    obtain ⟨u, e, q⟩ := m_ringing (w := true) (b := b) (n := n) hr (rO_pA (rO_eq ho hs)) hb hn hd
    replace e : f_X7_ringing (pA s 6 i (nI k)) (nI b) (nI n) 1 = some (nI (rdays (st1 T 7 i k) b 1 n), u) := e
    refine ⟨pA u 6 i (s.2 6 i), hs.tr (eqM_back (by decide) q) (by decide) (by decide), ?_⟩
    have hle := spSend_le T b k hn i
    have hle2 := rdays_le (st1 T 7 i k) (f := b) (k := 1) (n := n) (by decide) hn
    show b_X7_send_75 _ s _ _ _ _ _ _ = _
    unfold b_X7_send_75
    rw [(h.eq hs).2.1, if_neg (nI_ge hi (by omega)), ckn (ok_p ok hi) (by decide), cln (by omega)]
    simp only [if_true, lt_s']
    rw [e, bd_s]
    by_cases c : (spSend T b k n i).2 < rdays (st1 T 7 i k) b 1 n
    · rw [if_pos (nI_lt c (by omega)), show spSend T b k n (i + 1) = (nI i, rdays (st1 T 7 i k) b 1 n) from if_pos c, nl1, nI_add]
    · rw [if_neg (nI_nlt (by omega) (by omega)), show spSend T b k n (i + 1) = spSend T b k n i from if_neg c, nl1, nI_add]
def spNights (T : Tw) (p n : Nat) : Nat → Int32 × Nat := amx (fun i => nI (i + 1)) (fun i => rdays (st1 T 7 p (i + 1)) 0 (T 0 0) n) (rdays T 0 (T 0 0) n)
theorem spNights_le {T : Tw} (ok : okT T) (p : Nat) {n : Nat} (hn : n ≤ 40) (i : Nat) : (spNights T p n i).2 ≤ 240 := amx_le (fun p => rdays_le _ ok.1 hn) (rdays_le _ ok.1 hn) i
theorem t_bestNights {S S0 U : G} {T : Tw} {p n : Nat} (h : rT U T) (hp : p < T 3 0) (hn : n ≤ 40) (hd : T 8 0 ≤ 2000) : ∃ S0', f_X3_bestNights S S0 U (nI p) (nI n) = some ((spNights T p n 9).1, (S, S0', U)) := by
  have ok := h.2.2.2.2.2.2
  have h8 := ok.2.1
  obtain ⟨u, e, hu⟩ := t_become (S := S0) h
  have pc : ∀ {V : G} {W : Tw}, rT V W → W 0 0 = T 0 0 → W 8 0 = T 8 0 → ∃ S', f_X4_passCountingRight V 0 (nI (T 0 0)) (nI n) = some (nI (rdays W 0 (T 0 0) n), S') := by
    intro V W hV h0 h8
    obtain ⟨v, e2⟩ := t_passCountingRight hV (f := 0) (k := T 0 0) (n := n) (by omega) hn (by omega)
    rw [Nat.zero_add] at e2
    exact ⟨v, e2⟩
  obtain ⟨v, e2⟩ := pc hu rfl rfl
  unfold f_X3_bestNights
  rw [e, bd_s, show ((u, U).2.1 0 : Int32) = nI (T 0 0) from h.1, e2, bd_s]
  refine loopR (fun fuel i (s : G) => f_X3_bestNights_30 fuel S s U (nI p) (nI n) (nI (spNights T p n i).2) (spNights T p n i).1 (nI (i + 1))) (fun _ _ => True) 9 (fun r => ∃ S0', r = some ((spNights T p n 9).1, (S, S0', U))) (fun f s _ => ?_) (fun f i s hi _ => Or.inr ?_) 9 0 1000 v (by omega) (by omega) trivial
  · show ∃ S0', b_X3_bestNights_30 _ S s U _ _ _ _ _ = _
    unfold b_X3_bestNights_30
    rw [if_pos (by decide)]
    exact ⟨s, rfl⟩
  · obtain ⟨u', e', hu'⟩ := t_become (S := s) h
    have hr := rT_st hu' hp (k := 7) (v := i + 1) (by omega)
    obtain ⟨v', e2'⟩ := pc hr rfl rfl
    refine ⟨v', trivial, ?_⟩
    have hle := spNights_le ok p hn i
    have hle2 := rdays_le (st1 T 7 p (i + 1)) (f := 0) (k := T 0 0) (n := n) ok.1 hn
    show b_X3_bestNights_30 _ S s U _ _ _ _ _ = _
    unfold b_X3_bestNights_30
    rw [if_neg (show ¬ (9 : Int32) < nI (i + 1) from nI_nlt (a := 9) (by omega) (by decide)), e', bd_s, ckn (ok_p ok hp) (by decide), if_pos rfl, lt_s', cln (by have := ok_p ok hp; omega), show ((u', U).2.1 0 : Int32) = nI (T 0 0) from h.1, e2', bd_s, nl1, nI_add]
    by_cases c : (spNights T p n i).2 < rdays (st1 T 7 p (i + 1)) 0 (T 0 0) n
    · rw [if_neg (nI_ge c (by omega)), show spNights T p n (i + 1) = (nI (i + 1), rdays (st1 T 7 p (i + 1)) 0 (T 0 0) n) from if_pos c]
    · rw [if_pos (nI_le (by omega) (by omega)), show spNights T p n (i + 1) = spNights T p n i from if_neg c]
theorem m_nightsFor {M : G} {T : Tw} {p n : Nat} (h : rM M T) (ho : rO M none) (hp : p < T 3 0) (hn : n ≤ 40) (hd : T 8 0 ≤ 2000) : ∃ N, f_X7_nightsFor_19 M (nI p) (nI n) 0 = some ((spNights T p n 9).1, N) ∧ eqM 96 M N := by
  have ok := h.2.2.2.2.2.2
  have hp8 := ok_p ok hp
  obtain ⟨N0, e0, q0⟩ := m_allTrue h ho hn hd
  unfold f_X7_nightsFor_19
  rw [if_pos rfl, e0, bd_s, ckn hp8 (by decide), if_pos rfl, cln (by omega), q0.1 6 (by decide)]
  refine loopR (fun fuel i (s : G) => f_X7_nightsFor_52 fuel s (nI p) (nI n) (spNights T p n i).1 (nI (spNights T p n i).2) (M.2 6 p) (nI (i + 1))) (fun _ s => ∃ x, eqM 96 (pA M 6 p x) s) 9 (fun r => ∃ N, r = some ((spNights T p n 9).1, N) ∧ eqM 96 M N) (fun f s hs => ?_) (fun f i s hi hs => Or.inr ?_) 9 0 1000 N0 (by omega) (by omega) ⟨M.2 6 p, by rw [pA_self]; exact q0⟩
  · obtain ⟨x, hs⟩ := hs
    refine ⟨pA s 6 p (M.2 6 p), ?_, eqM_back (by decide) hs⟩
    show b_X7_nightsFor_52 _ s _ _ _ _ _ _ = _
    unfold b_X7_nightsFor_52
    rw [if_pos (by decide), ckn hp8 (by decide), if_pos rfl, cln (by omega), lt_s']
  · obtain ⟨x, hs⟩ := hs
    have hr := rM_st h hp (k := 7) (j := 6) (v := i + 1) (by omega)
    have hq : eqM 96 (pA M 6 p (nI (i + 1))) (pA s 6 p (nI (i + 1))) := eqM_pp (by decide) hs
    obtain ⟨u, e, q⟩ := m_allTrue (hr.eq hq) (rO_eq (rO_pA ho) hq) hn hd
    replace e : f_X7_allTrue (pA s 6 p (nI (i + 1))) (nI n) = some (nI (rdays (st1 T 7 p (i + 1)) 0 (T 0 0) n), u) := e
    refine ⟨u, ⟨nI (i + 1), hq.tr q (by decide) (by decide)⟩, ?_⟩
    have hle := spNights_le ok p hn i
    have hle2 := rdays_le (st1 T 7 p (i + 1)) (f := 0) (k := T 0 0) (n := n) ok.1 hn
    show b_X7_nightsFor_52 _ s _ _ _ _ _ _ = _
    unfold b_X7_nightsFor_52
    rw [if_neg (show ¬ (9 : Int32) < nI (i + 1) from nI_nlt (a := 9) (by omega) (by decide)), ckn hp8 (by decide), if_pos rfl, lt_s', cln (by omega), e, bd_s, nl1, nI_add]
    by_cases c : (spNights T p n i).2 < rdays (st1 T 7 p (i + 1)) 0 (T 0 0) n
    · rw [if_pos (nI_lt c (by omega)), show spNights T p n (i + 1) = (nI (i + 1), rdays (st1 T 7 p (i + 1)) 0 (T 0 0) n) from if_pos c]
    · rw [if_neg (nI_nlt (by omega) (by omega)), show spNights T p n (i + 1) = spNights T p n i from if_neg c]
