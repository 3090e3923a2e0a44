/-! what kind he was, by what he said -/
def rN (N : G) (D : Nat) (num : Nat → Nat) : Prop := N.1 1 = nI D ∧ D ≤ 16 ∧ ∀ d, d < D → N.2 0 d = nI (num d) ∧ num d ≤ 99
def rNM (M : G) (D : Nat) (num : Nat → Nat) : Prop := M.1 25 = nI D ∧ D ≤ 16 ∧ ∀ d, d < D → M.2 24 d = nI (num d) ∧ num d ≤ 99
theorem rNM.frw {M N : G} {D : Nat} {num : Nat → Nat} {lim : Nat} (h : rNM M D num) (f : frw lim M N) : rNM N D num := ⟨by rw [f.2.2.2.1 25 (by omega) (by decide) (by decide)]; exact h.1, h.2.1, fun d hd => by rw [f.1 24 (by omega) (by decide)]; exact h.2.2 d hd⟩
theorem rNM.eq {M N : G} {D : Nat} {num : Nat → Nat} {lim : Nat} (h : rNM M D num) (f : eqM lim M N) : rNM N D num := h.frw f.frw
theorem t_at {N : G} {D d : Nat} {num : Nat → Nat} (h : rN N D num) (hd : d < D) : f_X2_at N (nI d) = some (nI (num d), N) := by
  have := h.2.1
  unfold f_X2_at
  rw [if_neg (nI_pos (by omega)), h.1, if_neg (nI_ge hd (by omega)), ckn (show d < 16 by omega) (by decide), if_pos rfl, cln (by omega), (h.2.2 d hd).1]
def word (T : Tw) (p b : Nat) : Nat := if hears T p b = true then sayH T p b else 99
theorem word_le (T : Tw) (p b : Nat) : word T p b ≤ 99 := by
  have := sayH_lt T p b
  unfold word
  split <;> omega
theorem t_wordOn {S : G} {T : Tw} {p b : Nat} (h : rT S T) (hp : p < T 3 0) (hb : b < T 0 0) : f_X1_wordOn S (nI p) (nI b) = some (nI (word T p b), S) := by
  unfold f_X1_wordOn word
  rw [t_hearsIt h hp hb, bd_s, ifb, t_hourBy h hp hb, bd_s]
  cases hears T p b <;> rfl
def kf (T : Tw) (p v f : Nat) : Tw := st1 (st1 T 4 p v) 5 p f
theorem t_makeKind {S : G} {T : Tw} {p v f : Nat} (h : rT S T) (hp : p < T 3 0) (hv : v ≤ 5) (hf : f ≤ 9) : ∃ u, f_X4_makeKind S (nI p) (nI v) (nI f) = some ((), u) ∧ rT u (kf T p v f) := by
  have hp8 := ok_p h.2.2.2.2.2.2 hp
  unfold f_X4_makeKind
  rw [ckn hp8 (by decide), cln (by omega)]
  simp only [if_true, lt_s']
  exact ⟨_, rfl, rT_st (rT_st h hp (k := 4) (v := v) (by omega)) (p := p) hp (k := 5) (v := f) (by omega)⟩
theorem kf_kf (T : Tw) (p v f v' f' : Nat) : kf (kf T p v f) p v' f' = kf T p v' f' := by
  funext k i
  unfold kf st1
  by_cases c5 : k = 5
  · subst c5
    by_cases c : i = p <;> simp [c]
  · by_cases c4 : k = 4
    · subst c4
      by_cases c : i = p <;> simp [c]
    · simp [c4, c5]
theorem st1_self (T : Tw) (k p : Nat) : st1 T k p (T k p) = T := by
  funext a i
  unfold st1
  split
  · rename_i e
    split
    · rename_i e2; rw [e, e2]
    · rfl
  · rfl
theorem st1_d1 (T : Tw) {k : Nat} (hk : k = 4 ∨ k = 5) (p v : Nat) : d1 (st1 T k p v) = st1 (d1 T) k p v := by
  have z : ∀ a, a ≠ k → st1 T k p v a = T a := fun a ha => st1_k ha
  have hh : ∀ i, here (st1 T k p v) i = here T i := fun i => by unfold here; rw [z 7 (by omega)]
  have hs : ∀ i, sln 1 (st1 T k p v) i = sln 1 T i := fun i => by unfold sln; rw [hh, z 7 (by omega), z 6 (by omega), z 9 (by omega)]
  funext a i
  unfold d1
  by_cases e8 : a = 8
  · subst e8
    rw [al_8, z 8 (by omega)]
    show _ = st1 (alike 1 T) k p v 8 i
    rw [st1_k (by omega), al_8]
  · by_cases e7 : a = 7
    · subst e7
      rw [al_7, z 7 (by omega), z 3 (by omega)]
      show _ = st1 (alike 1 T) k p v 7 i
      rw [st1_k (by omega), al_7]
    · by_cases e6 : a = 6
      · subst e6
        rw [al_6, hs, z 6 (by omega), z 3 (by omega)]
        show _ = st1 (alike 1 T) k p v 6 i
        rw [st1_k (by omega), al_6]
      · rw [al_k 1 _ e8 e7 e6]
        unfold st1
        rw [al_k 1 T e8 e7 e6]
theorem st1_dN (T : Tw) {k : Nat} (hk : k = 4 ∨ k = 5) (p v : Nat) : ∀ n, dN n (st1 T k p v) = st1 (dN n T) k p v
  | 0 => rfl
  | n + 1 => by rw [dN, st1_dN T hk p v n, st1_d1 _ hk]; rfl
theorem kf_d1 (T : Tw) (p v f : Nat) : d1 (kf T p v f) = kf (d1 T) p v f := by
  unfold kf
  rw [st1_d1 _ (Or.inr rfl), st1_d1 _ (Or.inl rfl)]
theorem kf_4 (T : Tw) (p v n : Nat) : kf (dN n T) p v (T 5 p) = dN n (st1 T 4 p v) := by
  have e : T 5 p = st1 (dN n T) 4 p v 5 p := by rw [st1_k (by decide), dN_k T (by decide) (by decide) (by decide)]
  unfold kf
  rw [e, st1_self, st1_dN T (Or.inl rfl)]
theorem kf_5 (T : Tw) (p v n : Nat) : kf (dN n T) p (T 4 p) v = dN n (st1 T 5 p v) := by
  have e : T 4 p = dN n T 4 p := by rw [dN_k T (by decide) (by decide) (by decide)]
  unfold kf
  rw [e, st1_self, st1_dN T (Or.inr rfl)]
/-- the told days fit -/
def fitd (T : Tw) (p b : Nat) (num : Nat → Nat) (d : Nat) : Bool := decide (word (dN d T) p b = num d)
def fit (V : Nat → Tw) (p b : Nat) (num : Nat → Nat) (D v : Nat) : Bool := allB (fitd (V v) p b num) D
theorem not10 : ∀ p, p < 10 → nI (2 ^ p) ^^^ (-1 : Int32) = nI (4294967295 - 2 ^ p) := by decide +kernel
theorem not10b : ∀ p, p < 10 → ∀ i, i < 10 → (4294967295 - 2 ^ p).testBit i = decide (i ≠ p) := by decide +kernel
theorem clr {f : Nat → Bool} {n v : Nat} (hn : n ≤ 10) (hv : v < n) : nI (mk f n) &&& (((1 : Int32) <<< (nI v &&& 31)) ^^^ (-1 : Int32)) = nI (mk (fun i => f i && decide (i ≠ v)) n) := by
  rw [sh1 v (by omega), not10 v (by omega), andN]
  congr 1
  apply Nat.eq_of_testBit_eq
  intro i
  rw [Nat.testBit_and, mk_bit, mk_bit]
  by_cases c : i < n
  · rw [not10b v (by omega) i (by omega)]
    simp [c]
  · simp [c]
def mixF (V : Nat → Tw) (p b : Nat) (num : Nat → Nat) (i v u : Nat) : Bool := if u < v then fit V p b num (i + 1) u else fit V p b num i u
theorem mixF_s (V : Nat → Tw) (p b : Nat) (num : Nat → Nat) (i v u : Nat) : mixF V p b num i (v + 1) u = if u = v then (mixF V p b num i v u && fitd (V v) p b num i) else mixF V p b num i v u := by
  unfold mixF
  by_cases e : u = v
  · subst e
    rw [if_pos (by omega), if_pos rfl, if_neg (by omega)]
    rfl
  · rw [if_neg e]
    by_cases c : u < v
    · rw [if_pos (by omega), if_pos c]
    · rw [if_neg (by omega), if_neg c]
theorem mix_next {V : Nat → Tw} {p b : Nat} {num : Nat → Nat} {i v n : Nat} (hn : n ≤ 10) (hv : v < n) : (if fitd (V v) p b num i = true then nI (mk (mixF V p b num i v) n) else nI (mk (mixF V p b num i v) n) &&& (((1 : Int32) <<< (nI v &&& 31)) ^^^ (-1 : Int32))) = nI (mk (mixF V p b num i (v + 1)) n) := by
  by_cases c : fitd (V v) p b num i = true
  · rw [if_pos c]
    congr 1
    refine mk_cong _ (fun u _ => ?_)
    rw [mixF_s]
    by_cases e : u = v
    · rw [if_pos e, c, Bool.and_true]
    · rw [if_neg e]
  · rw [if_neg c, clr hn hv]
    congr 1
    refine mk_cong _ (fun u _ => ?_)
    rw [mixF_s]
    by_cases e : u = v
    · rw [if_pos e, show fitd (V v) p b num i = false by cases q : fitd (V v) p b num i with
        | false => rfl
        | true => exact absurd q c]
      simp [e]
    · rw [if_neg e]; simp [e]
theorem mix_0 (V : Nat → Tw) (p b : Nat) (num : Nat → Nat) (i n : Nat) : mk (mixF V p b num i 0) n = mk (fit V p b num i) n := mk_cong _ (fun u _ => by unfold mixF; rw [if_neg (by omega)])
theorem mix_n (V : Nat → Tw) (p b : Nat) (num : Nat → Nat) (i n : Nat) : mk (mixF V p b num i n) n = mk (fit V p b num (i + 1)) n := mk_cong _ (fun u hu => by unfold mixF; rw [if_pos hu])
theorem t_kindsBy {S U N : G} {T : Tw} {p b D : Nat} {num : Nat → Nat} (h : rT U T) (hN : rN N D num) (hp : p < T 3 0) (hb : b < T 0 0) : ∃ S', f_X1_kindsBy S U N (nI p) (nI b) = some (nI (mk (fit (fun v => st1 T 4 p v) p b num D) 6), (S', U, N)) := by
  have ok := h.2.2.2.2.2.2
  have hp8 := ok_p ok hp
  have hD := hN.2.1
  obtain ⟨u, e, hu⟩ := t_become (S := S) h
  have o5 := (ok.2.2.2.2.2 p hp).2.1
  have o4 := (ok.2.2.2.2.2 p hp).1
  unfold f_X1_kindsBy
  rw [e, bd_s]
  have start : ∃ v f, v ≤ 5 ∧ f ≤ 9 ∧ rT u (kf (dN 0 T) p v f) := ⟨T 4 p, T 5 p, o4, o5, by
    unfold kf
    have e5 : T 5 p = st1 (dN 0 T) 4 p (T 4 p) 5 p := by rw [st1_k (by decide)]; rfl
    rw [e5, st1_self]
    show rT u (st1 T 4 p (T 4 p))
    rw [st1_self]
    exact hu⟩
  refine loopR (fun fuel i (s : G) => f_X1_kindsBy_15 fuel s U N (nI p) (nI b) (nI (mk (fit (fun v => st1 T 4 p v) p b num i) 6)) (nI i)) (fun i s => ∃ v f, v ≤ 5 ∧ f ≤ 9 ∧ rT s (kf (dN i T) p v f)) D (fun r => ∃ S', r = some (nI (mk (fit (fun v => st1 T 4 p v) p b num D) 6), (S', U, N))) (fun f s _ => ?_) (fun f i s hi hs => Or.inr ?_) D 0 1000 u (by omega) (by omega) start
  · show ∃ S', b_X1_kindsBy_15 _ s U N _ _ _ _ = _
    unfold b_X1_kindsBy_15
    rw [hN.1, if_pos (nI_le (Nat.le_refl _) (by omega))]
    exact ⟨s, rfl⟩
  · have hp0 : p < dN i T 3 0 := by rw [dN_k T (by decide) (by decide) (by decide)]; exact hp
    have hb0 : b < dN i T 0 0 := by rw [dN_k T (by decide) (by decide) (by decide)]; exact hb
    have key := loopR (fun fuel v (s : G) => f_X1_kindsBy_28 (f_X1_kindsBy_15 f) fuel s U N (nI p) (nI b) (nI (mk (mixF (fun v => st1 T 4 p v) p b num i v) 6)) (nI i) (nI v)) (fun _ s => ∃ v f, v ≤ 5 ∧ f ≤ 9 ∧ rT s (kf (dN i T) p v f)) 6 (fun r => ∃ s', (∃ v f, v ≤ 5 ∧ f ≤ 9 ∧ rT s' (kf (dN (i + 1) T) p v f)) ∧ r = f_X1_kindsBy_15 f s' U N (nI p) (nI b) (nI (mk (fit (fun v => st1 T 4 p v) p b num (i + 1)) 6)) (nI (i + 1))) (fun g s hs => ?_) (fun g v s hv hs => Or.inr ?_) 6 0 1000 s (by omega) (by omega) hs
    · obtain ⟨s', h1, h2⟩ := key
      refine ⟨s', h1, ?_⟩
      show b_X1_kindsBy_15 _ s U N _ _ _ _ = _
      unfold b_X1_kindsBy_15
      rw [hN.1, if_neg (nI_ge hi (by omega))]
      rw [mix_0] at h2
      exact h2
    · obtain ⟨v, fg', hv, hf, hs⟩ := hs
      obtain ⟨w, e2, hw⟩ := t_pass1 hs
      rw [kf_d1] at hw
      refine ⟨w, ⟨v, fg', hv, hf, hw⟩, ?_⟩
      show b_X1_kindsBy_28 _ _ s U N _ _ _ _ _ = _
      unfold b_X1_kindsBy_28
      rw [if_pos (by decide), e2, bd_s, nl1, nI_add, mix_n]
    · obtain ⟨v0, f0, hv0, hf0, hs⟩ := hs
      obtain ⟨w, e2, hw⟩ := t_makeKind hs (p := p) (v := v) (f := T 5 p) hp0 (by omega) o5
      rw [kf_kf] at hw
      have hw2 := hw
      rw [kf_4] at hw2
      have hl := word_le (dN i (st1 T 4 p v)) p b
      have hnum := (hN.2.2 i hi).2
      refine ⟨w, ⟨v, T 5 p, by omega, o5, hw⟩, ?_⟩
      show b_X1_kindsBy_28 _ _ s U N _ _ _ _ _ = _
      unfold b_X1_kindsBy_28
      rw [if_neg (show ¬ (6 : Int32) ≤ nI v from nI_ge (b := 6) hv (by decide)), ckn hp8 (by decide), if_pos rfl, cln (by omega), (h.2.2.2.2.2.1 p hp).2.1, e2, bd_s, t_wordOn hw2 (by rw [dN_k _ (by decide) (by decide) (by decide)]; exact hp) (by rw [dN_k _ (by decide) (by decide) (by decide)]; exact hb), bd_s, t_at hN hi, bd_s, lt_s', show nI v + (1 : Int32) = nI (v + 1) from nI_add v 1, ← mix_next (by decide) hv]
      simp only [nI_eq (show word (dN i (st1 T 4 p v)) p b < 2 ^ 31 by omega) (show num i < 2 ^ 31 by omega)]
      have ef : fitd (st1 T 4 p v) p b num i = decide (word (dN i (st1 T 4 p v)) p b = num i) := rfl
      by_cases c : word (dN i (st1 T 4 p v)) p b = num i <;> simp [ef, c]
theorem t_figuresBy {S U N : G} {T : Tw} {p b D : Nat} {num : Nat → Nat} (h : rT U T) (hN : rN N D num) (hp : p < T 3 0) (hb : b < T 0 0) : ∃ S', f_X1_figuresBy S U N (nI p) (nI b) = some (nI (mk (fit (fun v => st1 T 5 p v) p b num D) 10), (S', U, N)) := by
  have ok := h.2.2.2.2.2.2
  have hp8 := ok_p ok hp
  have hD := hN.2.1
  obtain ⟨u, e, hu⟩ := t_become (S := S) h
  have o5 := (ok.2.2.2.2.2 p hp).2.1
  have o4 := (ok.2.2.2.2.2 p hp).1
  unfold f_X1_figuresBy
  rw [e, bd_s]
  have start : ∃ v f, v ≤ 5 ∧ f ≤ 9 ∧ rT u (kf (dN 0 T) p v f) := ⟨T 4 p, T 5 p, o4, o5, by
    unfold kf
    have e5 : T 5 p = st1 (dN 0 T) 4 p (T 4 p) 5 p := by rw [st1_k (by decide)]; rfl
    rw [e5, st1_self]
    show rT u (st1 T 4 p (T 4 p))
    rw [st1_self]
    exact hu⟩
  refine loopR (fun fuel i (s : G) => f_X1_figuresBy_16 fuel s U N (nI p) (nI b) (nI (mk (fit (fun v => st1 T 5 p v) p b num i) 10)) (nI i)) (fun i s => ∃ v f, v ≤ 5 ∧ f ≤ 9 ∧ rT s (kf (dN i T) p v f)) D (fun r => ∃ S', r = some (nI (mk (fit (fun v => st1 T 5 p v) p b num D) 10), (S', U, N))) (fun f s _ => ?_) (fun f i s hi hs => Or.inr ?_) D 0 1000 u (by omega) (by omega) start
  · show ∃ S', b_X1_figuresBy_16 _ s U N _ _ _ _ = _
    unfold b_X1_figuresBy_16
    rw [hN.1, if_pos (nI_le (Nat.le_refl _) (by omega))]
    exact ⟨s, rfl⟩
  · have hp0 : p < dN i T 3 0 := by rw [dN_k T (by decide) (by decide) (by decide)]; exact hp
    have hb0 : b < dN i T 0 0 := by rw [dN_k T (by decide) (by decide) (by decide)]; exact hb
    have key := loopR (fun fuel v (s : G) => f_X1_figuresBy_29 (f_X1_figuresBy_16 f) fuel s U N (nI p) (nI b) (nI (mk (mixF (fun v => st1 T 5 p v) p b num i v) 10)) (nI i) (nI v)) (fun _ s => ∃ v f, v ≤ 5 ∧ f ≤ 9 ∧ rT s (kf (dN i T) p v f)) 10 (fun r => ∃ s', (∃ v f, v ≤ 5 ∧ f ≤ 9 ∧ rT s' (kf (dN (i + 1) T) p v f)) ∧ r = f_X1_figuresBy_16 f s' U N (nI p) (nI b) (nI (mk (fit (fun v => st1 T 5 p v) p b num (i + 1)) 10)) (nI (i + 1))) (fun g s hs => ?_) (fun g v s hv hs => Or.inr ?_) 10 0 1000 s (by omega) (by omega) hs
    · obtain ⟨s', h1, h2⟩ := key
      refine ⟨s', h1, ?_⟩
      show b_X1_figuresBy_16 _ s U N _ _ _ _ = _
      unfold b_X1_figuresBy_16
      rw [hN.1, if_neg (nI_ge hi (by omega))]
      rw [mix_0] at h2
      exact h2
    · obtain ⟨v, fg', hv, hf, hs⟩ := hs
      obtain ⟨w, e2, hw⟩ := t_pass1 hs
      rw [kf_d1] at hw
      refine ⟨w, ⟨v, fg', hv, hf, hw⟩, ?_⟩
      show b_X1_figuresBy_29 _ _ s U N _ _ _ _ _ = _
      unfold b_X1_figuresBy_29
      rw [if_pos (by decide), e2, bd_s, nl1, nI_add, mix_n]
    · obtain ⟨v0, f0, hv0, hf0, hs⟩ := hs
      obtain ⟨w, e2, hw⟩ := t_makeKind hs (p := p) (v := T 4 p) (f := v) hp0 o4 (by omega)
      rw [kf_kf] at hw
      have hw2 := hw
      rw [kf_5] at hw2
      have hl := word_le (dN i (st1 T 5 p v)) p b
      have hnum := (hN.2.2 i hi).2
      refine ⟨w, ⟨T 4 p, v, o4, by omega, hw⟩, ?_⟩
      show b_X1_figuresBy_29 _ _ s U N _ _ _ _ _ = _
      unfold b_X1_figuresBy_29
      rw [if_neg (show ¬ (9 : Int32) < nI v from nI_nlt (a := 9) (by omega) (by decide)), ckn hp8 (by decide), if_pos rfl, cln (by omega), (h.2.2.2.2.2.1 p hp).1, e2, bd_s, t_wordOn hw2 (by rw [dN_k _ (by decide) (by decide) (by decide)]; exact hp) (by rw [dN_k _ (by decide) (by decide) (by decide)]; exact hb), bd_s, t_at hN hi, bd_s, lt_s', show nI v + (1 : Int32) = nI (v + 1) from nI_add v 1, ← mix_next (by decide) hv]
      simp only [nI_eq (show word (dN i (st1 T 5 p v)) p b < 2 ^ 31 by omega) (show num i < 2 ^ 31 by omega)]
      have ef : fitd (st1 T 5 p v) p b num i = decide (word (dN i (st1 T 5 p v)) p b = num i) := rfl
      by_cases c : word (dN i (st1 T 5 p v)) p b = num i <;> simp [ef, c]
theorem allB_fi (f : Nat → Bool) (n : Nat) : allB f n = !decide (fi (fun d => !f d) n < n) := by
  have hle := fi_le (fun d => !f d) n
  cases q : allB f n with
  | true =>
    have := (allB_iff _ _).mp q
    have e : fi (fun d => !f d) n = n := fi_none (fun j hj => by rw [this j hj]; rfl)
    rw [e]; simp
  | false =>
    have hlt : fi (fun d => !f d) n < n := by
      rcases Nat.lt_or_ge (fi (fun d => !f d) n) n with z | z
      · exact z
      · have : allB f n = true := (allB_iff _ _).mpr (fun i hi => by
          have := fi_no (fun d => !f d) n i (by omega)
          simpa using this)
        rw [this] at q; cases q
    simp [hlt]
theorem m_isSo {M : G} {T : Tw} {p b D : Nat} {num : Nat → Nat} (h : rM M T) (ho : rO M none) (hN : rNM M D num) (hp : p < T 3 0) (hb : b < T 0 0) : ∃ N, f_X7_isSo M (nI p) (nI b) = some (bI (allB (fitd T p b num) D), N) ∧ eqM 96 M N := by
  obtain ⟨N0, e0, k0, h0, o0⟩ := m_think h ho
  have q0 : eqM 96 M N0 := PK.eqM (w := 2) k0
  have n0 : rNM N0 D num := hN.eq q0
  have hD := hN.2.1
  unfold f_X7_isSo
  rw [e0, bd_s, allB_fi]
  generalize hQ : fi (fun d => !fitd T p b num d) D = Q
  have hle : Q ≤ D := by rw [← hQ]; exact fi_le _ D
  have fin : ∀ (O : G) (v : Bool), frw 144 N0 O → ∃ N, f_X7_isSo_69 O (bI v) = some (bI v, N) ∧ eqM 96 M N := by
    intro O v hO
    obtain ⟨R, e, z⟩ := m_forgets k0 hO
    refine ⟨R, ?_, z⟩
    unfold f_X7_isSo_69
    rw [e, bd_s, if_pos (bI_zb v)]
  have hp0 : ∀ i, p < dN i T 3 0 := fun i => by rw [dN_k T (by decide) (by decide) (by decide)]; exact hp
  have hb0 : ∀ i, b < dN i T 0 0 := fun i => by rw [dN_k T (by decide) (by decide) (by decide)]; exact hb
  have one : ∀ (s : G) (i : Nat) (k : G → Int32 → Int32 → Int32 → Int32 → Option (Int32 × G)), i < D → rM s (dN i T) → frw 144 N0 s → ∃ s', rM s' (dN (i + 1) T) ∧ frw 144 N0 s' ∧ b_X7_isSo_9 k s (nI p) (nI b) 1 (nI i) = k s' (nI p) (nI b) (bI (fitd T p b num i)) (nI (i + 1)) := by
    intro s i k hi hs hf
    obtain ⟨s', e1, h1, f1⟩ := m_goesDay hs
    refine ⟨s', h1, hf.tr f1 (by decide) (by decide), ?_⟩
    have ns := n0.frw hf
    have ps : f_X7_isSo_42 k s (nI p) (nI b) (nI i) (nI (word (dN i T) p b)) = k s' (nI p) (nI b) (bI (fitd T p b num i)) (nI (i + 1)) := by
      have hl := word_le (dN i T) p b
      have hnum := (ns.2.2 i hi).2
      unfold f_X7_isSo_42 f_X7_isSo_57
      rw [ckn (show i < 16 by omega) (by decide), if_pos rfl, cln (by omega), (ns.2.2 i hi).1, e1, bd_s, bd_s, nl1, nI_add]
      simp only [nI_eq (show word (dN i T) p b < 2 ^ 31 by omega) (show num i < 2 ^ 31 by omega)]
      have ef : fitd T p b num i = decide (word (dN i T) p b = num i) := rfl
      by_cases c : word (dN i T) p b = num i <;> simp [ef, c] <;> rfl
    unfold b_X7_isSo_9
    rw [ns.1, if_neg (nI_ge hi (by omega)), if_neg (by decide), m_hears hs (rO_frw o0 hf) (hp0 i) (hb0 i), hO_none, bd_s, ifb, m_saysOf hs (rO_frw o0 hf) (hp0 i) (hb0 i), hO_none, bd_s]
    rw [← ps]
    unfold word
    cases q : hears (dN i T) p b <;> simp <;> rfl
  refine loopR (fun fuel i (s : G) => f_X7_isSo_9 (fuel + 1) s (nI p) (nI b) 1 (nI i)) (fun i s => rM s (dN i T) ∧ frw 144 N0 s) Q (fun r => ∃ N, r = some (bI (!decide (Q < D)), N) ∧ eqM 96 M N) (fun f s hs => ?_) (fun f i s hi hs => Or.inr ?_) Q 0 999 N0 (by omega) (by omega) ⟨h0, frw.rf _ _⟩
  · obtain ⟨hs, hf⟩ := hs
    show ∃ N, b_X7_isSo_9 _ s _ _ _ _ = _ ∧ _
    by_cases c : Q < D
    · obtain ⟨s', h1, f1, e1⟩ := one s Q (f_X7_isSo_9 (f + 1)) c hs hf
      have y : fitd T p b num Q = false := by
        have := fi_yes (fun d => !fitd T p b num d) D (by rw [hQ]; exact c)
        rw [hQ] at this
        simpa using this
      rw [e1, y]
      show ∃ N, b_X7_isSo_9 _ s' _ _ _ _ = _ ∧ _
      unfold b_X7_isSo_9
      obtain ⟨N, z1, z2⟩ := fin s' false f1
      rw [if_pos (show bI false = 0 from rfl), z1]
      refine ⟨N, ?_, z2⟩
      simp [c]
    · have : Q = D := by omega
      subst this
      unfold b_X7_isSo_9
      obtain ⟨N, z1, z2⟩ := fin s true hf
      rw [(n0.frw hf).1, if_pos (nI_le (Nat.le_refl _) (by omega))]
      refine ⟨N, ?_, z2⟩
      have : f_X7_isSo_69 s 1 = _ := z1
      rw [this]; simp
  · obtain ⟨hs, hf⟩ := hs
    obtain ⟨s', h1, f1, e1⟩ := one s i (f_X7_isSo_9 (f + 1)) (by omega) hs hf
    have y : fitd T p b num i = true := by
      have := fi_no (fun d => !fitd T p b num d) D i (by rw [hQ]; exact hi)
      simpa using this
    refine ⟨s', ⟨h1, f1⟩, ?_⟩
    show b_X7_isSo_9 _ s _ _ _ _ = _
    rw [e1, y]; rfl
theorem m_bitsFor3 {M : G} {T : Tw} {p b D : Nat} {num : Nat → Nat} (h : rM M T) (ho : rO M none) (hN : rNM M D num) (hp : p < T 3 0) (hb : b < T 0 0) : ∃ N, f_X7_bitsFor_s3 M (nI p) 6 (nI b) = some (nI (mk (fit (fun v => st1 T 4 p v) p b num D) 6), N) ∧ eqM 96 M N := by
  have ok := h.2.2.2.2.2.2
  have hp8 := ok_p ok hp
  unfold f_X7_bitsFor_s3
  rw [ckn hp8 (by decide), if_pos rfl, cln (by omega)]
  refine loopR (fun fuel v (s : G) => f_X7_bitsFor_s3_11 fuel s (nI p) 6 (nI b) (M.2 3 p) (nI (mk (fit (fun v => st1 T 4 p v) p b num D) v)) (nI v)) (fun _ s => ∃ x, eqM 96 (pA M 3 p x) s) 6 (fun r => ∃ N, r = some (nI (mk (fit (fun v => st1 T 4 p v) p b num D) 6), N) ∧ eqM 96 M N) (fun f s hs => ?_) (fun f v s hv hs => Or.inr ?_) 6 0 1000 M (by omega) (by omega) ⟨M.2 3 p, by rw [pA_self]; exact eqM.rf _ _⟩
  · obtain ⟨x, hs⟩ := hs
    refine ⟨pA s 3 p (M.2 3 p), ?_, eqM_back (by decide) hs⟩
    show b_X7_bitsFor_s3_11 _ s _ _ _ _ _ _ = _
    unfold b_X7_bitsFor_s3_11
    rw [if_pos (by decide), ckn hp8 (by decide), if_pos rfl, lt_s', cln (by omega)]
  · obtain ⟨x, hs⟩ := hs
    have hq : eqM 96 (pA M 3 p (nI v)) (pA s 3 p (nI v)) := eqM_pp (by decide) hs
    have hN2 : rNM (pA M 3 p (nI v)) D num := ⟨hN.1, hN.2.1, fun d hd => hN.2.2 d hd⟩
    obtain ⟨u, e, q⟩ := m_isSo ((rM_st h hp (k := 4) (j := 3) (v := v) (by omega)).eq hq) (rO_eq (rO_pA ho) hq) (hN2.eq hq) (p := p) (b := b) hp hb
    refine ⟨u, ⟨nI v, hq.tr q (by decide) (by decide)⟩, ?_⟩
    have ef : fit (fun v => st1 T 4 p v) p b num D v = allB (fitd (st1 T 4 p v) p b num) D := rfl
    show b_X7_bitsFor_s3_11 _ s _ _ _ _ _ _ = _
    unfold b_X7_bitsFor_s3_11
    rw [if_neg (show ¬ (6 : Int32) ≤ nI v from nI_ge (b := 6) hv (by decide)), ckn hp8 (by decide), if_pos rfl, lt_s', cln (by omega), e, bd_s, ifb, lt_s', sh1 v (by omega), orN, mk_or, nl1, nI_add, nl0, orN, Nat.or_zero]
    simp only [mk, ef]
    cases allB (fitd (st1 T 4 p v) p b num) D <;> simp
theorem m_bitsFor4 {M : G} {T : Tw} {p b D : Nat} {num : Nat → Nat} (h : rM M T) (ho : rO M none) (hN : rNM M D num) (hp : p < T 3 0) (hb : b < T 0 0) : ∃ N, f_X7_bitsFor_s4 M (nI p) 10 (nI b) = some (nI (mk (fit (fun v => st1 T 5 p v) p b num D) 10), N) ∧ eqM 96 M N := by
  have ok := h.2.2.2.2.2.2
  have hp8 := ok_p ok hp
  unfold f_X7_bitsFor_s4
  rw [ckn hp8 (by decide), if_pos rfl, cln (by omega)]
  refine loopR (fun fuel v (s : G) => f_X7_bitsFor_s4_11 fuel s (nI p) 10 (nI b) (M.2 4 p) (nI (mk (fit (fun v => st1 T 5 p v) p b num D) v)) (nI v)) (fun _ s => ∃ x, eqM 96 (pA M 4 p x) s) 10 (fun r => ∃ N, r = some (nI (mk (fit (fun v => st1 T 5 p v) p b num D) 10), N) ∧ eqM 96 M N) (fun f s hs => ?_) (fun f v s hv hs => Or.inr ?_) 10 0 1000 M (by omega) (by omega) ⟨M.2 4 p, by rw [pA_self]; exact eqM.rf _ _⟩
  · obtain ⟨x, hs⟩ := hs
    refine ⟨pA s 4 p (M.2 4 p), ?_, eqM_back (by decide) hs⟩
    show b_X7_bitsFor_s4_11 _ s _ _ _ _ _ _ = _
    unfold b_X7_bitsFor_s4_11
    rw [if_pos (by decide), ckn hp8 (by decide), if_pos rfl, lt_s', cln (by omega)]
  · obtain ⟨x, hs⟩ := hs
    have hq : eqM 96 (pA M 4 p (nI v)) (pA s 4 p (nI v)) := eqM_pp (by decide) hs
    have hN2 : rNM (pA M 4 p (nI v)) D num := ⟨hN.1, hN.2.1, fun d hd => hN.2.2 d hd⟩
    obtain ⟨u, e, q⟩ := m_isSo ((rM_st h hp (k := 5) (j := 4) (v := v) (by omega)).eq hq) (rO_eq (rO_pA ho) hq) (hN2.eq hq) (p := p) (b := b) hp hb
    refine ⟨u, ⟨nI v, hq.tr q (by decide) (by decide)⟩, ?_⟩
    have ef : fit (fun v => st1 T 5 p v) p b num D v = allB (fitd (st1 T 5 p v) p b num) D := rfl
    show b_X7_bitsFor_s4_11 _ s _ _ _ _ _ _ = _
    unfold b_X7_bitsFor_s4_11
    rw [if_neg (show ¬ (10 : Int32) ≤ nI v from nI_ge (b := 10) hv (by decide)), ckn hp8 (by decide), if_pos rfl, lt_s', cln (by omega), e, bd_s, ifb, lt_s', sh1 v (by omega), orN, mk_or, nl1, nI_add, nl0, orN, Nat.or_zero]
    simp only [mk, ef]
    cases allB (fitd (st1 T 5 p v) p b num) D <;> simp
/-! told days looked at -/
def jdF (T : Tw) (num : Nat → Nat) (D : Nat) : Nat := fi (fun d => !decide (ct (hsome (dN d T)) (T 3 0) = num d)) D
def spJudge (T : Tw) (num : Nat → Nat) (D : Nat) : Int32 := if jdF T num D < D then nI (jdF T num D) else -9
theorem t_firstUntrue {S U N : G} {T : Tw} {D : Nat} {num : Nat → Nat} (h : rT U T) (hN : rN N D num) : ∃ S', f_X1_firstUntrue S U N = some (spJudge T num D, (S', U, N)) := by
  have ok := h.2.2.2.2.2.2
  have h8 := ok.2.1
  have hD := hN.2.1
  have hle : jdF T num D ≤ D := fi_le _ D
  obtain ⟨u, e, hu⟩ := t_become (S := S) h
  unfold f_X1_firstUntrue
  rw [e, bd_s]
  have hp0 : ∀ i, dN i T 3 0 = T 3 0 := fun i => by rw [dN_k T (by decide) (by decide) (by decide)]
  have one : ∀ (s : G) (i : Nat) (k : G → G → G → Int32 → Option (Int32 × G × G × G)), i < D → rT s (dN i T) → ∃ s', rT s' (dN (i + 1) T) ∧ b_X1_firstUntrue_10 k s U N (nI i) = if ct (hsome (dN i T)) (T 3 0) = num i then k s' U N (nI (i + 1)) else some (nI i, (s, U, N)) := by
    intro s i k hi hs
    obtain ⟨s', e1, h1⟩ := t_pass1 hs
    refine ⟨s', h1, ?_⟩
    have hh := t_hearersOfSome hs
    rw [hp0] at hh
    have hl := mk_lt (hsome (dN i T)) (T 3 0)
    have hpw : 2 ^ (T 3 0) ≤ 2 ^ 8 := Nat.pow_le_pow_right (by decide) h8
    have hc := ct_le (hsome (dN i T)) (T 3 0)
    have hnum := (hN.2.2 i hi).2
    unfold b_X1_firstUntrue_10
    rw [hN.1, if_neg (nI_ge hi (by omega)), hh, bd_s, jbits _ (by omega), bd_s, pc8_mk _ h8, t_at hN hi, bd_s, e1, bd_s, nl1, nI_add]
    simp only [nI_eq (show ct (hsome (dN i T)) (T 3 0) < 2 ^ 31 by omega) (show num i < 2 ^ 31 by omega)]
  refine loopR (fun fuel i (s : G) => f_X1_firstUntrue_10 fuel s U N (nI i)) (fun i s => rT s (dN i T)) (jdF T num D) (fun r => ∃ S', r = some (spJudge T num D, (S', U, N))) (fun f s hs => ?_) (fun f i s hi hs => Or.inr ?_) (jdF T num D) 0 1000 u (by omega) (by omega) hu
  · show ∃ S', b_X1_firstUntrue_10 _ s U N _ = _
    unfold spJudge
    by_cases c : jdF T num D < D
    · obtain ⟨s', h1, e1⟩ := one s _ (f_X1_firstUntrue_10 f) c hs
      have y : (!decide (ct (hsome (dN (jdF T num D) T)) (T 3 0) = num (jdF T num D))) = true := fi_yes (fun d => !decide (ct (hsome (dN d T)) (T 3 0) = num d)) D c
      rw [e1, if_neg (by simpa using y), if_pos c]
      exact ⟨s, rfl⟩
    · have e1 : jdF T num D = D := by omega
      rw [if_neg c, e1]
      unfold b_X1_firstUntrue_10
      rw [hN.1, if_pos (nI_le (Nat.le_refl _) (by omega))]
      exact ⟨s, rfl⟩
  · obtain ⟨s', h1, e1⟩ := one s i (f_X1_firstUntrue_10 f) (by omega) hs
    have y : (!decide (ct (hsome (dN i T)) (T 3 0) = num i)) = false := fi_no (fun d => !decide (ct (hsome (dN d T)) (T 3 0) = num d)) D i hi
    refine ⟨s', h1, ?_⟩
    show b_X1_firstUntrue_10 _ s U N _ = _
    rw [e1, if_pos (by simpa using y)]
theorem m_judge {M : G} {T : Tw} {D : Nat} {num : Nat → Nat} (h : rM M T) (ho : rO M none) (hN : rNM M D num) : ∃ N, f_X7_judge M = some (spJudge T num D, N) ∧ eqM 96 (pF M 25 0) N := by
  have ok := h.2.2.2.2.2.2
  have hD := hN.2.1
  have hP : rM (pF M 25 0) T := h
  have oP : rO (pF M 25 0) none := ho
  obtain ⟨N0, e0, k0, h0, o0⟩ := m_think hP oP
  have q0 : eqM 96 (pF M 25 0) N0 := PK.eqM (w := 2) k0
  have hle : jdF T num D ≤ D := fi_le _ D
  unfold f_X7_judge
  rw [lt_s', e0, bd_s, hN.1]
  have fin : ∀ (O : G) (v : Int32), frw 144 N0 O → ∃ N, f_X7_judge_59 O v = some (v, N) ∧ eqM 96 (pF M 25 0) N := by
    intro O v hO
    obtain ⟨R, e, z⟩ := m_forgets k0 hO
    refine ⟨R, ?_, z⟩
    unfold f_X7_judge_59
    rw [e, bd_s]
  have hp0 : ∀ i, dN i T 3 0 = T 3 0 := fun i => by rw [dN_k T (by decide) (by decide) (by decide)]
  have one : ∀ (s : G) (i : Nat) (k : G → Int32 → Int32 → Int32 → Option (Int32 × G)), i < D → rM s (dN i T) → frw 144 N0 s → ∃ s', rM s' (dN (i + 1) T) ∧ frw 144 N0 s' ∧ b_X7_judge_19 k s (nI D) (-9) (nI i) = k s' (nI D) (if ct (hsome (dN i T)) (T 3 0) = num i then -9 else nI i) (nI (i + 1)) := by
    intro s i k hi hs hf
    obtain ⟨s', e1, h1, f1⟩ := m_goesDay hs
    refine ⟨s', h1, hf.tr f1 (by decide) (by decide), ?_⟩
    have hm := m_manyHear hs (rO_frw o0 hf)
    rw [hp0, ct_cong (g := hsome (dN i T)) _ (fun p _ => hsO_none _ p)] at hm
    have e24 : s.2 24 i = nI (num i) := by rw [hf.1 24 (by omega) (by decide), q0.1 24 (by decide)]; exact (hN.2.2 i hi).1
    have hc := ct_le (hsome (dN i T)) (T 3 0)
    have hnum := (hN.2.2 i hi).2
    have h8 := ok.2.1
    unfold b_X7_judge_19 f_X7_judge_47
    rw [if_neg (nI_ge hi (by omega)), if_neg (by decide), hm, bd_s, ckn (show i < 16 by omega) (by decide), if_pos rfl, cln (by omega), e24, e1, bd_s, bd_s, nl1, nI_add]
    simp only [nI_eq (show ct (hsome (dN i T)) (T 3 0) < 2 ^ 31 by omega) (show num i < 2 ^ 31 by omega)]
    split <;> rfl
  refine loopR (fun fuel i (s : G) => f_X7_judge_19 (fuel + 1) s (nI D) (-9) (nI i)) (fun i s => rM s (dN i T) ∧ frw 144 N0 s) (jdF T num D) (fun r => ∃ N, r = some (spJudge T num D, N) ∧ eqM 96 (pF M 25 0) N) (fun f s hs => ?_) (fun f i s hi hs => Or.inr ?_) (jdF T num D) 0 999 N0 (by omega) (by omega) ⟨h0, frw.rf _ _⟩
  · obtain ⟨hs, hf⟩ := hs
    show ∃ N, b_X7_judge_19 _ s _ _ _ = _ ∧ _
    unfold spJudge
    by_cases c : jdF T num D < D
    · obtain ⟨s', h1, f1, e1⟩ := one s _ (f_X7_judge_19 (f + 1)) c hs hf
      have y : (!decide (ct (hsome (dN (jdF T num D) T)) (T 3 0) = num (jdF T num D))) = true := fi_yes (fun d => !decide (ct (hsome (dN d T)) (T 3 0) = num d)) D c
      rw [e1, if_neg (by simpa using y), if_pos c]
      show ∃ N, b_X7_judge_19 _ s' _ _ _ = _ ∧ _
      unfold b_X7_judge_19
      obtain ⟨N, z1, z2⟩ := fin s' (nI (jdF T num D)) f1
      rw [if_pos (show (0 : Int32) ≤ nI (jdF T num D) from nI_pos' (by omega)), z1]
      refine ⟨N, ?_, z2⟩
      simp
    · have e1 : jdF T num D = D := by omega
      rw [if_neg c, e1]
      unfold b_X7_judge_19
      obtain ⟨N, z1, z2⟩ := fin s (-9) hf
      rw [if_pos (nI_le (Nat.le_refl _) (by omega)), z1]
      exact ⟨N, rfl, z2⟩
  · obtain ⟨hs, hf⟩ := hs
    obtain ⟨s', h1, f1, e1⟩ := one s i (f_X7_judge_19 (f + 1)) (by omega) hs hf
    have y : (!decide (ct (hsome (dN i T)) (T 3 0) = num i)) = false := fi_no (fun d => !decide (ct (hsome (dN d T)) (T 3 0) = num d)) D i hi
    refine ⟨s', ⟨h1, f1⟩, ?_⟩
    show b_X7_judge_19 _ s _ _ _ = _
    rw [e1, if_pos (by simpa using y)]
