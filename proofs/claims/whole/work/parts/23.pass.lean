/-! days -/
def here (T : Tw) (i : Nat) : Nat := ct (fun q => decide (T 7 q = 0)) i
def sln (n : Nat) (T : Tw) (i : Nat) : Nat := if T 7 i = 0 then (if here T i < T 9 0 then min 99 (T 6 i + n) else T 6 i - n) else T 6 i - 2 * n
/-- n days on, while the same people are away -/
def alike (n : Nat) (T : Tw) : Tw := fun k i => if k = 8 then T 8 i + n else if k = 7 then (if i < T 3 0 then T 7 i - n else T 7 i) else if k = 6 then (if i < T 3 0 then sln n T i else T 6 i) else T k i
/-- a day -/
def d1 (T : Tw) : Tw := alike 1 T
def dN : Nat → Tw → Tw
  | 0, T => T
  | n + 1, T => d1 (dN n T)
theorem al_8 (n : Nat) (T : Tw) (i : Nat) : alike n T 8 i = T 8 i + n := rfl
theorem al_7 (n : Nat) (T : Tw) (i : Nat) : alike n T 7 i = if i < T 3 0 then T 7 i - n else T 7 i := rfl
theorem al_6 (n : Nat) (T : Tw) (i : Nat) : alike n T 6 i = if i < T 3 0 then sln n T i else T 6 i := rfl
theorem al_k (n : Nat) (T : Tw) {k : Nat} (h8 : k ≠ 8) (h7 : k ≠ 7) (h6 : k ≠ 6) : alike n T k = T k := by
  funext i
  simp [alike, h8, h7, h6]
theorem ok_alike {T : Tw} (n : Nat) (h : okT T) : okT (alike n T) := by
  obtain ⟨a, b, c, d, e, f⟩ := h
  refine ⟨a, b, c, d, e, fun p hp => ?_⟩
  replace hp : p < T 3 0 := hp
  obtain ⟨q1, q2, q3, q4⟩ := f p hp
  refine ⟨q1, q2, ?_, ?_⟩
  · rw [al_6, if_pos hp]
    unfold sln
    repeat' split
    all_goals omega
  · rw [al_7, if_pos hp]
    omega
theorem ok_dN {T : Tw} (h : okT T) : ∀ n, okT (dN n T)
  | 0 => h
  | n + 1 => ok_alike 1 (ok_dN h n)
theorem dN_k (T : Tw) {k : Nat} (h8 : k ≠ 8) (h7 : k ≠ 7) (h6 : k ≠ 6) : ∀ n, dN n T k = T k
  | 0 => rfl
  | n + 1 => by rw [dN, d1, al_k 1 _ h8 h7 h6, dN_k T h8 h7 h6 n]
theorem dN_8 (T : Tw) : ∀ n, dN n T 8 0 = T 8 0 + n
  | 0 => rfl
  | n + 1 => by rw [dN, d1, al_8, dN_8 T n]; omega
theorem dN_add (T : Tw) (a : Nat) : ∀ b, dN (a + b) T = dN b (dN a T)
  | 0 => rfl
  | b + 1 => by rw [← Nat.add_assoc, dN, dN, dN_add T a b]
theorem alike_0 {T : Tw} (h : okT T) : alike 0 T = T := by
  funext k i
  unfold alike
  split
  · rename_i e; rw [e]; rfl
  · split
    · rename_i e; rw [e]; split <;> rfl
    · split
      · rename_i e
        rw [e]
        split
        · rename_i hi
          have := (h.2.2.2.2.2 i hi).2.2.1
          unfold sln
          repeat' split
          all_goals omega
        · rfl
      · rfl
theorem here_alike {T : Tw} {n : Nat} (hn : ∀ p, p < T 3 0 → T 7 p = 0 ∨ n < T 7 p) {i : Nat} (hi : i ≤ T 3 0) : here (alike n T) i = here T i := by
  unfold here
  refine ct_cong i (fun q hq => ?_)
  rw [al_7, if_pos (by omega)]
  rcases hn q (by omega) with h | h
  · simp [h]
  · have h1 : ¬ T 7 q = 0 := by omega
    have h2 : ¬ T 7 q - n = 0 := by omega
    simp [h1, h2]
theorem alike_s {T : Tw} {n : Nat} (hn : ∀ p, p < T 3 0 → T 7 p = 0 ∨ n < T 7 p) : d1 (alike n T) = alike (n + 1) T := by
  funext k i
  unfold d1
  by_cases e8 : k = 8
  · subst e8; rw [al_8, al_8, al_8]; omega
  · by_cases e7 : k = 7
    · subst e7
      rw [al_7, al_7, al_7]
      show (if i < T 3 0 then _ else _) = _
      split <;> omega
    · by_cases e6 : k = 6
      · subst e6
        rw [al_6, al_6, al_6]
        show (if i < T 3 0 then _ else _) = _
        by_cases hi : i < T 3 0
        · rw [if_pos hi, if_pos hi]
          unfold sln
          rw [here_alike hn (by omega), al_7, if_pos hi, al_6, if_pos hi]
          show (if T 7 i - n = 0 then (if here T i < T 9 0 then _ else _) else _) = _
          unfold sln
          rcases hn i hi with h | h
          · have h2 : T 7 i - n = 0 := by omega
            rw [if_pos h2, if_pos h, if_pos h]
            split <;> omega
          · have h1 : ¬ T 7 i = 0 := by omega
            have h2 : ¬ T 7 i - n = 0 := by omega
            rw [if_neg h2, if_neg h1, if_neg h1]
            omega
        · simp only [if_neg hi]
      · rw [al_k 1 _ e8 e7 e6, al_k n _ e8 e7 e6, al_k (n + 1) _ e8 e7 e6]
theorem dN_alike {T : Tw} (h : okT T) : ∀ n, (∀ p, p < T 3 0 → T 7 p = 0 ∨ n ≤ T 7 p) → dN n T = alike n T
  | 0, _ => (alike_0 h).symm
  | n + 1, hn => by
    rw [dN, dN_alike h n (fun p hp => (hn p hp).imp id (fun z => by omega))]
    exact alike_s (fun p hp => (hn p hp).imp id (fun z => by omega))
theorem maxsub {a b : Nat} (ha : a < 1000000) (hb : b < 1000000) : (if (0 : Int32) < nI a - nI b then nI a - nI b else 0) = nI (a - b) := by
  rcases Nat.lt_or_ge b a with h | h
  · rw [pk_sub (Nat.le_of_lt h), if_pos (show (0 : Int32) < nI (a - b) from nI_lt (a := 0) (by omega) (by omega))]
  · rcases Nat.eq_or_lt_of_le h with e | e
    · subst e
      rw [pk_sub (Nat.le_refl _), Nat.sub_self, if_neg (by decide)]; rfl
    · have hneg := pk_sneg (a := a) (b := b) (by omega) e
      rw [if_neg (fun z => Int32.lt_irrefl (Int32.lt_trans z hneg)), show a - b = 0 by omega]; rfl
theorem minadd {a : Nat} (ha : a < 1000000) : (if nI a < (99 : Int32) then nI a else 99) = nI (min 99 a) := by
  rw [nl99]
  by_cases h : a < 99
  · rw [if_pos (nI_lt h (by decide)), show min 99 a = a by omega]
  · rw [if_neg (nI_nlt (by omega) (by omega)), show min 99 a = 99 by omega]
/-- the relation without the bounds, for the half-done day -/
def relT (S : G) (T : Tw) : Prop := S.1 0 = nI (T 0 0) ∧ S.1 3 = nI (T 3 0) ∧ S.1 8 = nI (T 8 0) ∧ S.1 9 = nI (T 9 0) ∧ (∀ b, b < T 0 0 → S.2 1 b = nI (T 1 b) ∧ S.2 2 b = nI (T 2 b)) ∧ (∀ p, p < T 3 0 → S.2 4 p = nI (T 4 p) ∧ S.2 5 p = nI (T 5 p) ∧ S.2 6 p = nI (T 6 p) ∧ S.2 7 p = nI (T 7 p))
theorem rT_rel {S : G} {T : Tw} (h : rT S T) : relT S T := ⟨h.1, h.2.1, h.2.2.1, h.2.2.2.1, h.2.2.2.2.1, h.2.2.2.2.2.1⟩
theorem rel_rT {S : G} {T : Tw} (h : relT S T) (ok : okT T) : rT S T := ⟨h.1, h.2.1, h.2.2.1, h.2.2.2.1, h.2.2.2.2.1, h.2.2.2.2.2, ok⟩
theorem rel_cong {S : G} {T U : Tw} (h : relT S T) (h0 : U 0 0 = T 0 0) (h3 : U 3 0 = T 3 0) (h8 : U 8 0 = T 8 0) (h9 : U 9 0 = T 9 0) (hb : ∀ b, b < T 0 0 → U 1 b = T 1 b ∧ U 2 b = T 2 b) (hp : ∀ p, p < T 3 0 → U 4 p = T 4 p ∧ U 5 p = T 5 p ∧ U 6 p = T 6 p ∧ U 7 p = T 7 p) : relT S U := by
  obtain ⟨a, b, c, d, e, f⟩ := h
  refine ⟨by rw [h0]; exact a, by rw [h3]; exact b, by rw [h8]; exact c, by rw [h9]; exact d, fun q hq => ?_, fun q hq => ?_⟩
  · rw [h0] at hq
    rw [(hb q hq).1, (hb q hq).2]; exact e q hq
  · rw [h3] at hq
    obtain ⟨z1, z2, z3, z4⟩ := hp q hq
    rw [z1, z2, z3, z4]; exact f q hq
def mixT (n i : Nat) (T : Tw) : Tw := fun k p => if k = 8 then T 8 p + n else if k = 7 then (if p < i then T 7 p - n else T 7 p) else if k = 6 then (if p < i then sln n T p else T 6 p) else T k p
theorem t_passAlike {S : G} {T : Tw} {n : Nat} (h : rT S T) (hn : ∀ p, p < T 3 0 → T 7 p = 0 ∨ n ≤ T 7 p) (hn99 : n ≤ 100) : ∃ u, f_X4_passAlike S (nI n) = some ((), u) ∧ rT u (alike n T) := by
  have ok := h.2.2.2.2.2.2
  have h8 := ok.2.1
  have hbd := ok.2.2.2.1
  unfold f_X4_passAlike
  rw [lt_s']
  have key := loopR (fun fuel i (s : G) => f_X4_passAlike_17 fuel s (nI n) (nI (T 9 0 - here T i)) (nI i)) (fun i s => relT s (mixT n i T)) (T 3 0) (fun r => ∃ u, r = some ((), u) ∧ rT u (alike n T)) (fun f s hs => ?_) (fun f i s hi hs => Or.inr ?_) (T 3 0) 0 1000 (pF S 8 ((S.1 8) + nI n)) (by omega) (by omega) ?_
  · have e9 : (pF S 8 ((S.1 8) + nI n)).1 9 = nI (T 9 0 - here T 0) := by
      show S.1 9 = _
      rw [h.2.2.2.1]; rfl
    rw [e9]
    exact key
  · refine ⟨s, ?_, rel_rT (rel_cong hs rfl rfl rfl rfl (fun b hb => ⟨rfl, rfl⟩) (fun p hp => ⟨rfl, rfl, ?_, ?_⟩)) (ok_alike n ok)⟩
    · show b_X4_passAlike_17 _ s _ _ _ = _
      unfold b_X4_passAlike_17
      rw [show s.1 3 = nI (T 3 0) from hs.2.1, if_pos (nI_le (Nat.le_refl _) (by omega))]
    · have hp' : p < T 3 0 := hp
      show (if p < T 3 0 then _ else _) = (if p < T 3 0 then _ else _)
      rw [if_pos hp']
    · have hp' : p < T 3 0 := hp
      show (if p < T 3 0 then _ else _) = (if p < T 3 0 then _ else _)
      rw [if_pos hp']
  · obtain ⟨r0, r3, r8, r9, rb, rp⟩ := hs
    obtain ⟨p4, p5, p6, p7⟩ := rp i hi
    have e6 : mixT n i T 6 i = T 6 i := by show (if i < i then _ else _) = _; rw [if_neg (by omega)]
    have e7 : mixT n i T 7 i = T 7 i := by show (if i < i then _ else _) = _; rw [if_neg (by omega)]
    rw [e6] at p6
    rw [e7] at p7
    obtain ⟨o4, o5, o6, o7⟩ := ok.2.2.2.2.2 i hi
    have hi8 : i < 8 := by omega
    have hd : here T (i + 1) = here T i + (if T 7 i = 0 then 1 else 0) := by
      show ct _ i + _ = _
      simp only [decide_eq_true_eq]; rfl
    have fin : ∀ u : G, u.1 = s.1 → (∀ k, k ≠ 6 → k ≠ 7 → u.2 k = s.2 k) → (∀ p, u.2 6 p = if p = i then nI (sln n T i) else s.2 6 p) → (∀ p, u.2 7 p = if p = i then nI (T 7 i - n) else s.2 7 p) → relT u (mixT n (i + 1) T) := by
      intro u h1 h2 h6 h7
      refine ⟨by rw [h1]; exact r0, by rw [h1]; exact r3, by rw [h1]; exact r8, by rw [h1]; exact r9, fun b hb => ?_, fun p hp => ?_⟩
      · rw [h2 1 (by decide) (by decide), h2 2 (by decide) (by decide)]; exact rb b hb
      · obtain ⟨z4, z5, z6, z7⟩ := rp p hp
        rw [h2 4 (by decide) (by decide), h2 5 (by decide) (by decide), h6, h7]
        refine ⟨z4, z5, ?_, ?_⟩
        · show _ = nI (if p < i + 1 then sln n T p else T 6 p)
          by_cases e : p = i
          · subst e; rw [if_pos rfl, if_pos (by omega)]
          · rw [if_neg e, z6]
            show nI (if p < i then _ else _) = _
            by_cases c : p < i
            · rw [if_pos c, if_pos (by omega)]
            · rw [if_neg c, if_neg (by omega)]
        · show _ = nI (if p < i + 1 then T 7 p - n else T 7 p)
          by_cases e : p = i
          · subst e; rw [if_pos rfl, if_pos (by omega)]
          · rw [if_neg e, z7]
            show nI (if p < i then _ else _) = _
            by_cases c : p < i
            · rw [if_pos c, if_pos (by omega)]
            · rw [if_neg c, if_neg (by omega)]
    show ∃ s', _ ∧ b_X4_passAlike_17 _ s _ _ _ = _
    unfold b_X4_passAlike_17
    rw [show s.1 3 = nI (T 3 0) from r3, if_neg (nI_ge hi (by omega)), ckn hi8 (by decide), cln (by omega), p6, p7]
    simp only [if_true, lt_s', nl1, nI_add]
    by_cases c7 : T 7 i = 0
    · have c7' : nI (T 7 i) ≤ 0 := by rw [c7]; decide
      rw [if_pos c7']
      have eh : here T (i + 1) = here T i + 1 := by rw [hd, if_pos c7]
      by_cases cf : here T i < T 9 0
      · have cf' : ¬ nI (T 9 0 - here T i) ≤ 0 := nI_nle (by omega) (by omega)
        rw [if_neg cf', minadd (by omega)]
        refine ⟨pA s 6 i (nI (min 99 (T 6 i + n))), fin _ rfl (fun k h6 h7 => by rw [pA_2, if_neg h6]) (fun p => ?_) (fun p => ?_), ?_⟩
        · rw [pA_2, if_pos rfl, updE]
          unfold sln
          rw [if_pos c7, if_pos cf]
        · rw [pA_2, if_neg (by decide)]
          by_cases e : p = i
          · subst e; rw [if_pos rfl, p7, c7]; simp
          · rw [if_neg e]
        · show f_X4_passAlike_17 _ _ _ (nI (T 9 0 - here T i) + (-1)) _ = _
          rw [eh, sb_m1 (by omega), show T 9 0 - here T i - 1 = T 9 0 - (here T i + 1) by omega]
      · have cf' : nI (T 9 0 - here T i) ≤ 0 := by rw [show T 9 0 - here T i = 0 by omega]; decide
        rw [if_pos cf', maxsub (by omega) (by omega)]
        refine ⟨pA s 6 i (nI (T 6 i - n)), fin _ rfl (fun k h6 h7 => by rw [pA_2, if_neg h6]) (fun p => ?_) (fun p => ?_), ?_⟩
        · rw [pA_2, if_pos rfl, updE]
          unfold sln
          rw [if_pos c7, if_neg cf]
        · rw [pA_2, if_neg (by decide)]
          by_cases e : p = i
          · subst e; rw [if_pos rfl, p7, c7]; simp
          · rw [if_neg e]
        · rw [eh, show T 9 0 - (here T i + 1) = T 9 0 - here T i by omega]
    · have c7' : ¬ nI (T 7 i) ≤ 0 := nI_nle (by omega) (by omega)
      have hle : n ≤ T 7 i := (hn i hi).resolve_left c7
      have eh : here T (i + 1) = here T i := by rw [hd, if_neg c7]; rfl
      have e7' : (pA s 6 i (nI (T 6 i - 2 * n))).2 7 i = nI (T 7 i) := by rw [pA_2, if_neg (by decide)]; exact p7
      rw [if_neg c7', nl2, pk_mul, maxsub (by omega) (by omega), e7', pk_sub hle, eh]
      refine ⟨pA (pA s 6 i (nI (T 6 i - 2 * n))) 7 i (nI (T 7 i - n)), fin _ rfl (fun k h6 h7 => by rw [pA_2, if_neg h7, pA_2, if_neg h6]) (fun p => ?_) (fun p => ?_), rfl⟩
      · rw [pA_2, if_neg (by decide), pA_2, if_pos rfl, updE]
        unfold sln
        rw [if_neg c7]
      · rw [pA_2, if_pos rfl, updE]; rfl
  · refine rel_cong (T := fun k p => if k = 8 then T 8 p + n else T k p) ?_ rfl rfl rfl rfl (fun b hb => ⟨rfl, rfl⟩) (fun p hp => ⟨rfl, rfl, ?_, ?_⟩)
    · refine ⟨h.1, h.2.1, ?_, h.2.2.2.1, h.2.2.2.2.1, h.2.2.2.2.2.1⟩
      show S.1 8 + nI n = nI (T 8 0 + n)
      rw [h.2.2.1, nI_add]
    · show (if p < 0 then sln n T p else T 6 p) = T 6 p
      rw [if_neg (by omega)]
    · show (if p < 0 then T 7 p - n else T 7 p) = T 7 p
      rw [if_neg (by omega)]
def dtr (T : Tw) (most : Nat) : Nat → Nat
  | 0 => most
  | i + 1 => if T 7 i = 0 ∨ dtr T most i ≤ T 7 i then dtr T most i else T 7 i
theorem dtr_le (T : Tw) (most : Nat) : ∀ i, dtr T most i ≤ most
  | 0 => Nat.le_refl _
  | i + 1 => by
    have := dtr_le T most i
    simp only [dtr]
    split <;> omega
theorem dtr_pos (T : Tw) {most : Nat} (h : 1 ≤ most) : ∀ i, 1 ≤ dtr T most i
  | 0 => h
  | i + 1 => by
    have := dtr_pos T h i
    simp only [dtr]
    split <;> omega
theorem dtr_min (T : Tw) (most : Nat) : ∀ i p, p < i → T 7 p = 0 ∨ dtr T most i ≤ T 7 p
  | 0, p, h => absurd h (Nat.not_lt_zero p)
  | i + 1, p, h => by
    simp only [dtr]
    rcases Nat.lt_or_ge p i with z | z
    · have := dtr_min T most i p z
      split <;> omega
    · have : p = i := by omega
      subst this
      split <;> omega
theorem t_daysTillReturn {S : G} {T : Tw} {n : Nat} (h : rT S T) (hn : n ≤ 1000) : f_X4_daysTillReturn S (nI n) = some (nI (dtr T n (T 3 0)), S) := by
  have ok := h.2.2.2.2.2.2
  have h8 := ok.2.1
  unfold f_X4_daysTillReturn
  refine loopE (fun fuel i => f_X4_daysTillReturn_4 fuel S (nI (dtr T n i)) (nI i)) (T 3 0) _ (fun f => ?_) (fun f i hi => Or.inr ?_) 1000 0 (by omega) (by omega)
  · show b_X4_daysTillReturn_4 _ S _ _ = _
    unfold b_X4_daysTillReturn_4
    rw [h.2.1, if_pos (nI_le (Nat.le_refl _) (by omega))]
  · show b_X4_daysTillReturn_4 _ S _ _ = _
    unfold b_X4_daysTillReturn_4
    obtain ⟨o4, o5, o6, o7⟩ := ok.2.2.2.2.2 i hi
    have hl := dtr_le T n i
    rw [h.2.1, if_neg (nI_ge hi (by omega)), ckn (show i < 8 by omega) (by decide), cln (by omega), (h.2.2.2.2.2.1 i hi).2.2.2]
    simp only [if_true, nl1, nI_add, dtr]
    by_cases c : T 7 i = 0
    · rw [if_pos (show nI (T 7 i) ≤ 0 by rw [c]; decide), if_pos (Or.inl c)]
    · rw [if_neg (show ¬ nI (T 7 i) ≤ 0 from nI_nle (by omega) (by omega))]
      by_cases c2 : dtr T n i ≤ T 7 i
      · rw [if_pos (nI_le c2 (by omega)), if_pos (Or.inr c2)]
      · rw [if_neg (nI_ge (by omega) (by omega)), if_neg (by omega)]
theorem t_pass {S : G} {T : Tw} {n : Nat} (h : rT S T) (hn : n ≤ 100) : ∃ u, f_X4_pass S (nI n) = some ((), u) ∧ rT u (dN n T) := by
  unfold f_X4_pass
  have key : ∀ (left done i fuel : Nat) (s : G), done + left = n → i ≤ done → left < fuel → rT s (dN done T) → ∃ u, f_X4_pass_4 fuel s (nI n) (nI left) (nI i) = some ((), u) ∧ rT u (dN n T) := by
    intro left
    induction left using Nat.strongRecOn with
    | ind left ih =>
      intro done i fuel s hd hi hf hs
      obtain ⟨f, rfl⟩ : ∃ f, fuel = f + 1 := ⟨fuel - 1, by omega⟩
      show ∃ u, b_X4_pass_4 _ s _ _ _ = _ ∧ _
      unfold b_X4_pass_4
      by_cases c0 : left = 0
      · subst c0
        have e : done = n := by omega
        subst e
        refine ⟨s, ?_, hs⟩
        by_cases c : nI done ≤ nI i
        · rw [if_pos c]
        · rw [if_neg c, if_pos (by decide)]
      · rw [if_neg (nI_ge (by omega) (by omega)), if_neg (nI_nle (by omega) (by omega)), t_daysTillReturn hs (by omega), bd_s]
        have hle := dtr_le (dN done T) left (dN done T 3 0)
        have hpos := dtr_pos (dN done T) (most := left) (by omega) (dN done T 3 0)
        have hmin := dtr_min (dN done T) left (dN done T 3 0)
        obtain ⟨u, hu, hru⟩ := t_passAlike hs hmin (by omega)
        rw [hu, bd_s, pk_sub hle, nl1, nI_add]
        rw [← dN_alike hs.2.2.2.2.2.2 _ hmin, ← dN_add] at hru
        exact ih (left - dtr (dN done T) left (dN done T 3 0)) (by omega) (done + dtr (dN done T) left (dN done T 3 0)) (i + 1) f u (by omega) (by omega) (by omega) hru
  exact key n 0 0 1000 S (by omega) (by omega) (by omega) h
