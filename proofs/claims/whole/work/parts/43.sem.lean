/-! what a statement does -/
def addB (T : Tw) (h e : Nat) : Tw := fun k i => if k = 0 then (if i = 0 then T 0 0 + 1 else T k i) else if k = 1 then (if i = T 0 0 then h else T k i) else if k = 2 then (if i = T 0 0 then e else T k i) else T k i
def addP (T : Tw) (x f s : Nat) : Tw := fun k i => if k = 3 then (if i = 0 then T 3 0 + 1 else T k i) else if k = 4 then (if i = T 3 0 then x else T k i) else if k = 5 then (if i = T 3 0 then f else T k i) else if k = 6 then (if i = T 3 0 then s else T k i) else if k = 7 then (if i = T 3 0 then 0 else T k i) else T k i
theorem ok_addB {T : Tw} {h e : Nat} (ok : okT T) (hB : T 0 0 < 6) (hh : h < 24) (h1 : 1 ≤ e) (h9 : e ≤ 9) : okT (addB T h e) := by
  obtain ⟨a, b, c, d, f, g⟩ := ok
  refine ⟨?_, b, c, d, fun q hq => ?_, g⟩
  · show T 0 0 + 1 ≤ 6
    omega
  · replace hq : q < T 0 0 + 1 := hq
    show (if q = T 0 0 then h else T 1 q) < 24 ∧ 1 ≤ (if q = T 0 0 then e else T 2 q) ∧ (if q = T 0 0 then e else T 2 q) ≤ 9
    by_cases z : q = T 0 0
    · rw [if_pos z, if_pos z]; exact ⟨hh, h1, h9⟩
    · rw [if_neg z, if_neg z]; exact f q (by omega)
theorem ok_addP {T : Tw} {x f s : Nat} (ok : okT T) (hP : T 3 0 < 8) (hx : x ≤ 5) (hf : f ≤ 9) (hs : s ≤ 99) : okT (addP T x f s) := by
  obtain ⟨a, b, c, d, e, g⟩ := ok
  refine ⟨a, ?_, c, d, e, fun q hq => ?_⟩
  · show T 3 0 + 1 ≤ 8
    omega
  · replace hq : q < T 3 0 + 1 := hq
    show (if q = T 3 0 then x else T 4 q) ≤ 5 ∧ (if q = T 3 0 then f else T 5 q) ≤ 9 ∧ (if q = T 3 0 then s else T 6 q) ≤ 99 ∧ (if q = T 3 0 then 0 else T 7 q) ≤ 9
    by_cases z : q = T 3 0
    · simp only [if_pos z]; exact ⟨hx, hf, hs, by omega⟩
    · simp only [if_neg z]; exact g q (by omega)
theorem rT_addB {S : G} {T : Tw} {h e : Nat} (r : rT S T) (hB : T 0 0 < 6) (hh : h < 24) (h1 : 1 ≤ e) (h9 : e ≤ 9) : rT (pF (pA (pA S 1 (T 0 0) (nI h)) 2 (T 0 0) (nI e)) 0 (nI (T 0 0 + 1))) (addB T h e) := by
  obtain ⟨a, b, c, d, f, g, ok⟩ := r
  refine ⟨rfl, b, c, d, fun q hq => ?_, g, ok_addB ok hB hh h1 h9⟩
  replace hq : q < T 0 0 + 1 := hq
  show upd (S.2 1) (T 0 0) (nI h) q = nI (if q = T 0 0 then h else T 1 q) ∧ upd (S.2 2) (T 0 0) (nI e) q = nI (if q = T 0 0 then e else T 2 q)
  rw [updE, updE]
  by_cases z : q = T 0 0
  · refine ⟨?_, ?_⟩ <;> simp [z]
  · simp only [if_neg z]; exact f q (by omega)
theorem rM_addB {M : G} {T : Tw} {h e : Nat} (r : rM M T) (hB : T 0 0 < 6) (hh : h < 24) (h1 : 1 ≤ e) (h9 : e ≤ 9) : rM (pF (pA (pA M 1 (T 0 0) (nI h)) 2 (T 0 0) (nI e)) 7 (nI (T 0 0 + 1))) (addB T h e) := by
  obtain ⟨a, b, c, d, f, g, ok⟩ := r
  refine ⟨rfl, b, c, d, fun q hq => ?_, g, ok_addB ok hB hh h1 h9⟩
  replace hq : q < T 0 0 + 1 := hq
  show upd (M.2 1) (T 0 0) (nI h) q = nI (if q = T 0 0 then h else T 1 q) ∧ upd (M.2 2) (T 0 0) (nI e) q = nI (if q = T 0 0 then e else T 2 q)
  rw [updE, updE]
  by_cases z : q = T 0 0
  · refine ⟨?_, ?_⟩ <;> simp [z]
  · simp only [if_neg z]; exact f q (by omega)
theorem rT_addP {S : G} {T : Tw} {x f s : Nat} (r : rT S T) (hP : T 3 0 < 8) (hx : x ≤ 5) (hf : f ≤ 9) (hs : s ≤ 99) : rT (pF (pA (pA (pA (pA S 4 (T 3 0) (nI x)) 5 (T 3 0) (nI f)) 6 (T 3 0) (nI s)) 7 (T 3 0) 0) 3 (nI (T 3 0 + 1))) (addP T x f s) := by
  obtain ⟨a, b, c, d, e, g, ok⟩ := r
  refine ⟨a, rfl, c, d, e, fun q hq => ?_, ok_addP ok hP hx hf hs⟩
  replace hq : q < T 3 0 + 1 := hq
  show upd (S.2 4) (T 3 0) (nI x) q = nI (if q = T 3 0 then x else T 4 q) ∧ upd (S.2 5) (T 3 0) (nI f) q = nI (if q = T 3 0 then f else T 5 q) ∧ upd (S.2 6) (T 3 0) (nI s) q = nI (if q = T 3 0 then s else T 6 q) ∧ upd (S.2 7) (T 3 0) 0 q = nI (if q = T 3 0 then 0 else T 7 q)
  simp only [updE]
  by_cases z : q = T 3 0
  · refine ⟨?_, ?_, ?_, ?_⟩ <;> simp [z] <;> rfl
  · simp only [if_neg z]; exact g q (by omega)
theorem rM_addP {M : G} {T : Tw} {x f s : Nat} (r : rM M T) (hP : T 3 0 < 8) (hx : x ≤ 5) (hf : f ≤ 9) (hs : s ≤ 99) : rM (pF (pA (pA (pA (pA M 3 (T 3 0) (nI x)) 4 (T 3 0) (nI f)) 5 (T 3 0) (nI s)) 6 (T 3 0) 0) 8 (nI (T 3 0 + 1))) (addP T x f s) := by
  obtain ⟨a, b, c, d, e, g, ok⟩ := r
  refine ⟨a, rfl, c, d, e, fun q hq => ?_, ok_addP ok hP hx hf hs⟩
  replace hq : q < T 3 0 + 1 := hq
  show upd (M.2 3) (T 3 0) (nI x) q = nI (if q = T 3 0 then x else T 4 q) ∧ upd (M.2 4) (T 3 0) (nI f) q = nI (if q = T 3 0 then f else T 5 q) ∧ upd (M.2 5) (T 3 0) (nI s) q = nI (if q = T 3 0 then s else T 6 q) ∧ upd (M.2 6) (T 3 0) 0 q = nI (if q = T 3 0 then 0 else T 7 q)
  simp only [updE]
  by_cases z : q = T 3 0
  · refine ⟨?_, ?_, ?_, ?_⟩ <;> simp [z] <;> rfl
  · simp only [if_neg z]; exact g q (by omega)
theorem frw_12 {M : G} {j p : Nat} {v : Int32} (hj : j = 1 ∨ j = 2) (hp : p < 6) : frw 144 M (pA M j p v) := by
  have h : ∀ k, k ≠ j → (pA M j p v).2 k = M.2 k := fun k hk => by rw [pA_2, if_neg hk]
  have g : ∀ k i, 6 ≤ i → (pA M j p v).2 k i = M.2 k i := fun k i hi => by
    rw [pA_2]
    split
    · rename_i e
      rw [updE, if_neg (by omega), e]
    · rfl
  exact ⟨fun k a b => h k (by omega), fun i hi => ⟨g 1 i hi, g 2 i hi⟩, fun i hi => ⟨g 3 i (by omega), g 4 i (by omega), g 5 i (by omega), g 6 i (by omega)⟩, fun k _ _ _ => rfl, fun i _ => by rw [h 19 (by omega)]⟩
theorem frw_pF {M : G} {k : Nat} {v : Int32} (hk : 7 ≤ k ∧ k ≤ 10) : frw 144 M (pF M k v) := ⟨fun _ _ _ => rfl, fun _ _ => ⟨rfl, rfl⟩, fun _ _ => ⟨rfl, rfl, rfl, rfl⟩, fun q a b c => by rw [pF_1, if_neg (by omega)], fun _ _ => rfl⟩
def semA (c : Nat → Nat) (a : Nat) (T : Tw) : Option Tw :=
  if c a = 98 then (if T 0 0 < 6 ∧ vls c a 0 < 24 ∧ 1 ≤ vls c a 1 then some (addB T (vls c a 0) (vls c a 1)) else none)
  else if c a = 112 then (if T 3 0 < 8 then some (addP T (vls c a 0) (vls c a 1) (vls c a 2)) else none)
  else if c a = 103 then (if vls c a 0 < T 3 0 then some (st1 T 7 (vls c a 0) (vls c a 1)) else none)
  else if c a = 115 then (if vls c a 0 < T 3 0 then some (st1 T 6 (vls c a 0) (vls c a 1)) else none)
  else if c a = 101 then (if 1 ≤ vls c a 0 ∧ vls c a 0 ≤ 8 then some (st1 T 9 0 (vls c a 0)) else none)
  else (if 1 ≤ vls c a 0 ∧ vls c a 0 ≤ 60 ∧ T 8 0 + vls c a 0 ≤ 999 then some (dN (vls c a 0) T) else none)
theorem sA98 {c : Nat → Nat} {a : Nat} {T : Tw} (e : c a = 98) : semA c a T = (if T 0 0 < 6 ∧ vls c a 0 < 24 ∧ 1 ≤ vls c a 1 then some (addB T (vls c a 0) (vls c a 1)) else none) := by
  unfold semA
  rw [if_pos e]
theorem sA112 {c : Nat → Nat} {a : Nat} {T : Tw} (e : c a = 112) : semA c a T = (if T 3 0 < 8 then some (addP T (vls c a 0) (vls c a 1) (vls c a 2)) else none) := by
  unfold semA
  rw [if_neg (show ¬ c a = 98 by rw [e]; decide), if_pos e]
theorem sA103 {c : Nat → Nat} {a : Nat} {T : Tw} (e : c a = 103) : semA c a T = (if vls c a 0 < T 3 0 then some (st1 T 7 (vls c a 0) (vls c a 1)) else none) := by
  unfold semA
  rw [if_neg (show ¬ c a = 98 by rw [e]; decide), if_neg (show ¬ c a = 112 by rw [e]; decide), if_pos e]
theorem sA115 {c : Nat → Nat} {a : Nat} {T : Tw} (e : c a = 115) : semA c a T = (if vls c a 0 < T 3 0 then some (st1 T 6 (vls c a 0) (vls c a 1)) else none) := by
  unfold semA
  rw [if_neg (show ¬ c a = 98 by rw [e]; decide), if_neg (show ¬ c a = 112 by rw [e]; decide), if_neg (show ¬ c a = 103 by rw [e]; decide), if_pos e]
theorem sA101 {c : Nat → Nat} {a : Nat} {T : Tw} (e : c a = 101) : semA c a T = (if 1 ≤ vls c a 0 ∧ vls c a 0 ≤ 8 then some (st1 T 9 0 (vls c a 0)) else none) := by
  unfold semA
  rw [if_neg (show ¬ c a = 98 by rw [e]; decide), if_neg (show ¬ c a = 112 by rw [e]; decide), if_neg (show ¬ c a = 103 by rw [e]; decide), if_neg (show ¬ c a = 115 by rw [e]; decide), if_pos e]
theorem sA100 {c : Nat → Nat} {a : Nat} {T : Tw} (e : c a = 100) : semA c a T = (if 1 ≤ vls c a 0 ∧ vls c a 0 ≤ 60 ∧ T 8 0 + vls c a 0 ≤ 999 then some (dN (vls c a 0) T) else none) := by
  unfold semA
  rw [if_neg (show ¬ c a = 98 by rw [e]; decide), if_neg (show ¬ c a = 112 by rw [e]; decide), if_neg (show ¬ c a = 103 by rw [e]; decide), if_neg (show ¬ c a = 115 by rw [e]; decide), if_neg (show ¬ c a = 101 by rw [e]; decide)]
theorem gdD {c : Nat → Nat} {n a j : Nat} (h : gd c n a = true) (hj : j < ln (c a)) (hk : ¬ (c a = 112 ∧ j = 0)) : a + 1 + j < n ∧ isD (c (a + 1 + j)) = true := by
  have q := (gd_iff.mp h).2.2 j (by omega)
  obtain ⟨q1, q2⟩ := sg_lt q
  rw [q2] at q
  unfold okc at q
  rw [if_neg (by omega), if_neg hk] at q
  exact ⟨q1, q⟩
theorem gdK {c : Nat → Nat} {n a : Nat} (h : gd c n a = true) (hp : c a = 112) : a + 1 < n ∧ isK (c (a + 1)) = true := by
  have q := (gd_iff.mp h).2.2 0 (by omega)
  obtain ⟨q1, q2⟩ := sg_lt q
  rw [q2] at q
  unfold okc at q
  rw [if_neg (by rw [hp]; decide), if_pos ⟨hp, rfl⟩] at q
  exact ⟨q1, q⟩
theorem gd_let {c : Nat → Nat} {n a : Nat} (h : gd c n a = true) : c a = 98 ∨ c a = 112 ∨ c a = 103 ∨ c a = 115 ∨ c a = 101 ∨ c a = 100 := isL_cases (by
  have := (gd_iff.mp h).2.1
  unfold isL
  simpa using this)
theorem isK_of {y : Nat} (h : isK y = true) : y < 256 ∧ y ≠ 59 := by
  unfold isK kdx at h
  simp only [decide_eq_true_eq] at h
  split at h
  · omega
  · split at h
    · omega
    · split at h
      · omega
      · split at h
        · omega
        · split at h
          · omega
          · split at h
            · omega
            · omega
theorem t_state {L D : G} {c : Nat → Nat} {n a : Nat} {T : Tw} (hL : rL L c n) (hD : rT D T) (hd : T 8 0 ≤ 999) (hg : gd c n a = true) : ∃ D', f_X0_state L D (nI a) = some (bI (semA c a T).isSome, (L, D')) ∧ ∀ T', semA c a T = some T' → rT D' T' := by
  have han := (gd_iff.mp hg).1
  have h96 := hL.2.1
  have ok := hD.2.2.2.2.2.2
  have h6 := ok.1
  have h8 := ok.2.1
  have add : ∀ i : Nat, ∀ x : Int32, x = nI i → nI a + x = nI (a + i) := fun i x hx => by rw [hx, nI_add]
  unfold f_X0_state
  rw [t_signAt hL han, bd_s, add 1 1 rfl, add 2 2 rfl, add 3 3 rfl]
  have two : ∀ p, (∀ i, i < 2 → p + i < n ∧ isD (c (p + i)) = true) → f_X0_number L (nI p) (2 : Int32) = some (nI (vd c p 2), L) := fun p hp => t_number (d := 2) hL (by have := (hp 1 (by decide)).1; omega) (fun i hi => (hp i hi).2)
  have one : ∀ p, p < n → isD (c p) = true → f_X0_number L (nI p) (1 : Int32) = some (nI (vd c p 1), L) := fun p hp hq => t_number (d := 1) hL (by omega) (fun i hi => by rw [show i = 0 by omega]; exact hq)
  rcases gd_let hg with e | e | e | e | e | e
  · have hl : ln (c a) = 3 := by rw [e]; rfl
    have d0 := gdD hg (j := 0) (by omega) (by omega)
    have d1 := gdD hg (j := 1) (by omega) (by omega)
    have d2 := gdD hg (j := 2) (by omega) (by omega)
    have v0 : vls c a 0 = vd c (a + 1) 2 := by unfold vls; rw [e, if_neg (by decide), if_pos rfl, if_pos rfl]
    have v1 : vls c a 1 = vd c (a + 3) 1 := by unfold vls; rw [e, if_neg (by decide), if_pos rfl, if_neg (by decide)]
    have b0 := vd_2 (c := c) (a := a + 1) d0.2 d1.2
    have b1 := vd_1 (c := c) (a := a + 3) d2.2
    rw [if_pos (by rw [e]; rfl), two (a + 1) (fun i hi => by
      rcases (show i = 0 ∨ i = 1 by omega) with rfl | rfl
      · exact d0
      · exact d1), bd_s, one (a + 3) d2.1 d2.2, bd_s]
    unfold f_X4_addBell
    rw [sA98 e, v0, v1, hD.1]
    by_cases q1 : T 0 0 < 6
    · rw [if_neg (show ¬ (6 : Int32) ≤ nI (T 0 0) from nI_ge (b := 6) q1 (by decide))]
      by_cases q2 : vd c (a + 1) 2 < 24
      · rw [if_neg (show ¬ (24 : Int32) ≤ nI (vd c (a + 1) 2) from nI_ge (b := 24) q2 (by decide))]
        by_cases q3 : 1 ≤ vd c (a + 3) 1
        · rw [if_pos (show (1 : Int32) ≤ nI (vd c (a + 3) 1) from nI_le (a := 1) q3 (by omega)), if_pos (show T 0 0 < 6 ∧ vd c (a + 1) 2 < 24 ∧ 1 ≤ vd c (a + 3) 1 from ⟨q1, q2, q3⟩), ckn q1 (by decide), if_pos rfl, lt_s', cln (by omega), show (pA D 1 (T 0 0) (nI (vd c (a + 1) 2))).1 0 = nI (T 0 0) from hD.1, ckn q1 (by decide), if_pos rfl, lt_s', cln (by omega), lt_s', show (pA (pA D 1 (T 0 0) (nI (vd c (a + 1) 2))) 2 (T 0 0) (nI (vd c (a + 3) 1))).1 0 = nI (T 0 0) from hD.1, show nI (T 0 0) + (1 : Int32) = nI (T 0 0 + 1) from nI_add _ 1, bd_s, if_pos (by decide)]
          exact ⟨_, rfl, fun T' hT => by cases hT; exact rT_addB hD q1 q2 q3 b1⟩
        · rw [if_neg (show ¬ (1 : Int32) ≤ nI (vd c (a + 3) 1) from nI_ge (b := 1) (by omega) (by decide)), if_neg (show ¬ (T 0 0 < 6 ∧ vd c (a + 1) 2 < 24 ∧ 1 ≤ vd c (a + 3) 1) from fun z => q3 z.2.2), bd_s, if_pos (by decide)]
          exact ⟨D, rfl, fun T' hT => by cases hT⟩
      · rw [if_pos (show (24 : Int32) ≤ nI (vd c (a + 1) 2) from nI_le (a := 24) (by omega) (by omega)), if_neg (show ¬ (T 0 0 < 6 ∧ vd c (a + 1) 2 < 24 ∧ 1 ≤ vd c (a + 3) 1) from fun z => q2 z.2.1), bd_s, if_pos (by decide)]
        exact ⟨D, rfl, fun T' hT => by cases hT⟩
    · rw [if_pos (show (6 : Int32) ≤ nI (T 0 0) from nI_le (a := 6) (by omega) (by omega)), if_neg (show ¬ (T 0 0 < 6 ∧ vd c (a + 1) 2 < 24 ∧ 1 ≤ vd c (a + 3) 1) from fun z => q1 z.1), bd_s, if_pos (by decide)]
      exact ⟨D, rfl, fun T' hT => by cases hT⟩
  · have hl : ln (c a) = 4 := by rw [e]; rfl
    obtain ⟨k1, k2⟩ := gdK hg e
    have d1 := gdD hg (j := 1) (by omega) (by omega)
    have d2 := gdD hg (j := 2) (by omega) (by omega)
    have d3 := gdD hg (j := 3) (by omega) (by omega)
    have v0 : vls c a 0 = kdx (c (a + 1)) := by unfold vls; rw [e, if_pos rfl, if_pos rfl]
    have v1 : vls c a 1 = vd c (a + 2) 1 := by unfold vls; rw [e, if_pos rfl, if_neg (by decide), if_pos rfl]
    have v2 : vls c a 2 = vd c (a + 3) 2 := by unfold vls; rw [e, if_pos rfl, if_neg (by decide), if_neg (by decide)]
    have b0 := kdx_5 k2
    have b1 := vd_1 (c := c) (a := a + 2) d1.2
    have b2 := vd_2 (c := c) (a := a + 3) d2.2 d3.2
    rw [if_neg (by rw [e]; decide), if_neg (by rw [e]; decide), if_neg (by rw [e]; decide), if_pos (by rw [e]; rfl), t_signAt hL k1, bd_s, t_kindBy _ (hL.2.2 _ k1).2, bd_s, if_pos (show kdx (c (a + 1)) < 9 by omega), one (a + 2) d1.1 d1.2, bd_s, two (a + 3) (fun i hi => by
      rcases (show i = 0 ∨ i = 1 by omega) with rfl | rfl
      · exact d2
      · exact d3), bd_s]
    unfold f_X4_addPerson
    rw [sA112 e, v0, v1, v2, hD.2.1]
    by_cases q1 : T 3 0 < 8
    · rw [if_pos (show nI (T 3 0) < (8 : Int32) from nI_lt (b := 8) q1 (by decide)), if_pos q1, ckn q1 (by decide), cln (by omega)]
      simp only [if_true, lt_s', pA_1, hD.2.1, ckn q1 (show 8 < 2147483648 by decide), cln (show T 3 0 < 2147483648 by omega)]
      rw [show nI (T 3 0) + (1 : Int32) = nI (T 3 0 + 1) from nI_add _ 1, bd_s, if_pos (by decide)]
      exact ⟨_, rfl, fun T' hT => by cases hT; exact rT_addP hD q1 b0 b1 b2⟩
    · rw [if_neg (show ¬ nI (T 3 0) < (8 : Int32) from nI_nlt (b := 8) (by omega) (by omega)), if_neg q1, bd_s, if_pos (by decide)]
      exact ⟨D, rfl, fun T' hT => by cases hT⟩
  · have hl : ln (c a) = 2 := by rw [e]; rfl
    have d0 := gdD hg (j := 0) (by omega) (by omega)
    have d1 := gdD hg (j := 1) (by omega) (by omega)
    have v0 : vls c a 0 = vd c (a + 1) 1 := by unfold vls; rw [e, if_neg (by decide), if_neg (by decide), if_pos rfl, if_pos rfl]
    have v1 : vls c a 1 = vd c (a + 2) 1 := by unfold vls; rw [e, if_neg (by decide), if_neg (by decide), if_pos rfl, if_neg (by decide)]
    have b0 := vd_1 (c := c) (a := a + 1) d0.2
    have b1 := vd_1 (c := c) (a := a + 2) d1.2
    rw [if_neg (by rw [e]; decide), if_neg (by rw [e]; decide), if_pos (by rw [e]; rfl), one (a + 1) d0.1 d0.2, bd_s, one (a + 2) d1.1 d1.2, bd_s]
    unfold f_X0_stateAway
    rw [sA103 e, v0, v1, hD.2.1]
    by_cases q1 : vd c (a + 1) 1 < T 3 0
    · rw [if_pos (nI_lt q1 (by omega)), if_pos q1, ckn (show vd c (a + 1) 1 < 8 by omega) (by decide), if_pos rfl, lt_s', cln (by omega), bd_s, if_pos (by decide)]
      exact ⟨_, rfl, fun T' hT => by cases hT; exact rT_st hD q1 (k := 7) (by omega)⟩
    · rw [if_neg (nI_nlt (by omega) (by omega)), if_neg q1, bd_s, if_pos (by decide)]
      exact ⟨D, rfl, fun T' hT => by cases hT⟩
  · have hl : ln (c a) = 3 := by rw [e]; rfl
    have d0 := gdD hg (j := 0) (by omega) (by omega)
    have d1 := gdD hg (j := 1) (by omega) (by omega)
    have d2 := gdD hg (j := 2) (by omega) (by omega)
    have v0 : vls c a 0 = vd c (a + 1) 1 := by unfold vls; rw [e, if_neg (by decide), if_neg (by decide), if_neg (by decide), if_pos rfl, if_pos rfl]
    have v1 : vls c a 1 = vd c (a + 2) 2 := by unfold vls; rw [e, if_neg (by decide), if_neg (by decide), if_neg (by decide), if_pos rfl, if_neg (by decide)]
    have b0 := vd_1 (c := c) (a := a + 1) d0.2
    have b1 := vd_2 (c := c) (a := a + 2) d1.2 d2.2
    rw [if_neg (by rw [e]; decide), if_neg (by rw [e]; decide), if_neg (by rw [e]; decide), if_neg (by rw [e]; decide), if_pos (by rw [e]; rfl), one (a + 1) d0.1 d0.2, bd_s, two (a + 2) (fun i hi => by
      rcases (show i = 0 ∨ i = 1 by omega) with rfl | rfl
      · exact d1
      · exact d2), bd_s]
    unfold f_X0_stateSlept
    rw [sA115 e, v0, v1, hD.2.1]
    by_cases q1 : vd c (a + 1) 1 < T 3 0
    · rw [if_pos (nI_lt q1 (by omega)), if_pos q1, ckn (show vd c (a + 1) 1 < 8 by omega) (by decide), if_pos rfl, lt_s', cln (by omega), bd_s, if_pos (by decide)]
      exact ⟨_, rfl, fun T' hT => by cases hT; exact rT_st hD q1 (k := 6) (by omega)⟩
    · rw [if_neg (nI_nlt (by omega) (by omega)), if_neg q1, bd_s, if_pos (by decide)]
      exact ⟨D, rfl, fun T' hT => by cases hT⟩
  · have hl : ln (c a) = 1 := by rw [e]; rfl
    have d0 := gdD hg (j := 0) (by omega) (by omega)
    have v0 : vls c a 0 = vd c (a + 1) 1 := by unfold vls; rw [e, if_neg (by decide), if_neg (by decide), if_neg (by decide), if_neg (by decide), if_pos rfl]
    have b0 := vd_1 (c := c) (a := a + 1) d0.2
    rw [if_neg (by rw [e]; decide), if_pos (by rw [e]; rfl), one (a + 1) d0.1 d0.2, bd_s]
    unfold f_X0_stateBeds
    rw [sA101 e, v0]
    by_cases q1 : 1 ≤ vd c (a + 1) 1
    · rw [if_neg (show ¬ nI (vd c (a + 1) 1) < (1 : Int32) from nI_nlt (b := 1) q1 (by omega))]
      by_cases q2 : vd c (a + 1) 1 ≤ 8
      · rw [if_pos (show nI (vd c (a + 1) 1) ≤ (8 : Int32) from nI_le (b := 8) q2 (by decide)), if_pos (show 1 ≤ vd c (a + 1) 1 ∧ vd c (a + 1) 1 ≤ 8 from ⟨q1, q2⟩), lt_s', bd_s, if_pos (by decide)]
        exact ⟨_, rfl, fun T' hT => by cases hT; exact rT_s9 hD q1 q2⟩
      · rw [if_neg (show ¬ nI (vd c (a + 1) 1) ≤ (8 : Int32) from nI_ge (a := 8) (by omega) (by omega)), if_neg (show ¬ (1 ≤ vd c (a + 1) 1 ∧ vd c (a + 1) 1 ≤ 8) from fun z => q2 z.2), bd_s, if_pos (by decide)]
        exact ⟨D, rfl, fun T' hT => by cases hT⟩
    · rw [if_pos (show nI (vd c (a + 1) 1) < (1 : Int32) from nI_lt (b := 1) (by omega) (by decide)), if_neg (show ¬ (1 ≤ vd c (a + 1) 1 ∧ vd c (a + 1) 1 ≤ 8) from fun z => q1 z.1), bd_s, if_pos (by decide)]
      exact ⟨D, rfl, fun T' hT => by cases hT⟩
  · have hl : ln (c a) = 2 := by rw [e]; rfl
    have d0 := gdD hg (j := 0) (by omega) (by omega)
    have d1 := gdD hg (j := 1) (by omega) (by omega)
    have v0 : vls c a 0 = vd c (a + 1) 2 := by unfold vls; rw [e, if_neg (by decide), if_neg (by decide), if_neg (by decide), if_neg (by decide), if_neg (by decide)]
    have b0 := vd_2 (c := c) (a := a + 1) d0.2 d1.2
    rw [if_neg (by rw [e]; decide), if_neg (by rw [e]; decide), if_neg (by rw [e]; decide), if_neg (by rw [e]; decide), if_neg (by rw [e]; decide), two (a + 1) (fun i hi => by
      rcases (show i = 0 ∨ i = 1 by omega) with rfl | rfl
      · exact d0
      · exact d1), bd_s]
    unfold f_X0_stateDays
    rw [sA100 e, v0, hD.2.2.1]
    by_cases q1 : 1 ≤ vd c (a + 1) 2
    · rw [if_neg (show ¬ nI (vd c (a + 1) 2) < (1 : Int32) from nI_nlt (b := 1) q1 (by omega))]
      by_cases q2 : vd c (a + 1) 2 ≤ 60
      · rw [if_neg (show ¬ (60 : Int32) < nI (vd c (a + 1) 2) from nI_nlt (a := 60) q2 (by decide)), nl999, pk_sub hd]
        by_cases q3 : T 8 0 + vd c (a + 1) 2 ≤ 999
        · obtain ⟨u, e2, hu⟩ := t_pass hD (n := vd c (a + 1) 2) (by omega)
          rw [if_pos (nI_le (by omega) (by omega)), if_pos (show 1 ≤ vd c (a + 1) 2 ∧ vd c (a + 1) 2 ≤ 60 ∧ T 8 0 + vd c (a + 1) 2 ≤ 999 from ⟨q1, q2, q3⟩), e2, bd_s, bd_s, if_pos (by decide)]
          exact ⟨u, rfl, fun T' hT => by cases hT; exact hu⟩
        · rw [if_neg (nI_ge (by omega) (by omega)), if_neg (show ¬ (1 ≤ vd c (a + 1) 2 ∧ vd c (a + 1) 2 ≤ 60 ∧ T 8 0 + vd c (a + 1) 2 ≤ 999) from fun z => q3 z.2.2), bd_s, if_pos (by decide)]
          exact ⟨D, rfl, fun T' hT => by cases hT⟩
      · rw [if_pos (show (60 : Int32) < nI (vd c (a + 1) 2) from nI_lt (a := 60) (by omega) (by omega)), if_neg (show ¬ (1 ≤ vd c (a + 1) 2 ∧ vd c (a + 1) 2 ≤ 60 ∧ T 8 0 + vd c (a + 1) 2 ≤ 999) from fun z => q2 z.2.1), bd_s, if_pos (by decide)]
        exact ⟨D, rfl, fun T' hT => by cases hT⟩
    · rw [if_pos (show nI (vd c (a + 1) 2) < (1 : Int32) from nI_lt (b := 1) (by omega) (by decide)), if_neg (show ¬ (1 ≤ vd c (a + 1) 2 ∧ vd c (a + 1) 2 ≤ 60 ∧ T 8 0 + vd c (a + 1) 2 ≤ 999) from fun z => q1 z.1), bd_s, if_pos (by decide)]
      exact ⟨D, rfl, fun T' hT => by cases hT⟩
theorem vls_b {c : Nat → Nat} {n a : Nat} (hg : gd c n a = true) : vls c a 0 ≤ 99 ∧ (c a = 98 → vls c a 1 ≤ 9) ∧ (c a = 112 → vls c a 0 ≤ 5 ∧ vls c a 1 ≤ 9 ∧ vls c a 2 ≤ 99) ∧ (c a = 103 → vls c a 1 ≤ 9) ∧ (c a = 115 → vls c a 1 ≤ 99) := by
  rcases gd_let hg with e | e | e | e | e | e
  · have hl : ln (c a) = 3 := by rw [e]; rfl
    have d0 := gdD hg (j := 0) (by omega) (by omega)
    have d1 := gdD hg (j := 1) (by omega) (by omega)
    have d2 := gdD hg (j := 2) (by omega) (by omega)
    have b0 := vd_2 (c := c) (a := a + 1) d0.2 d1.2
    have b1 := vd_1 (c := c) (a := a + 3) d2.2
    unfold vls
    simp only [e]
    simp
    exact ⟨b0, b1⟩
  · have hl : ln (c a) = 4 := by rw [e]; rfl
    obtain ⟨k1, k2⟩ := gdK hg e
    have d1 := gdD hg (j := 1) (by omega) (by omega)
    have d2 := gdD hg (j := 2) (by omega) (by omega)
    have d3 := gdD hg (j := 3) (by omega) (by omega)
    have b0 := kdx_5 k2
    have b1 := vd_1 (c := c) (a := a + 2) d1.2
    have b2 := vd_2 (c := c) (a := a + 3) d2.2 d3.2
    unfold vls
    simp only [e]
    simp
    exact ⟨by omega, b0, b1, b2⟩
  · have hl : ln (c a) = 2 := by rw [e]; rfl
    have d0 := gdD hg (j := 0) (by omega) (by omega)
    have d1 := gdD hg (j := 1) (by omega) (by omega)
    have b0 := vd_1 (c := c) (a := a + 1) d0.2
    have b1 := vd_1 (c := c) (a := a + 2) d1.2
    unfold vls
    simp only [e]
    simp
    exact ⟨by omega, b1⟩
  · have hl : ln (c a) = 3 := by rw [e]; rfl
    have d0 := gdD hg (j := 0) (by omega) (by omega)
    have d1 := gdD hg (j := 1) (by omega) (by omega)
    have d2 := gdD hg (j := 2) (by omega) (by omega)
    have b0 := vd_1 (c := c) (a := a + 1) d0.2
    have b1 := vd_2 (c := c) (a := a + 2) d1.2 d2.2
    unfold vls
    simp only [e]
    simp
    exact ⟨by omega, b1⟩
  · have hl : ln (c a) = 1 := by rw [e]; rfl
    have d0 := gdD hg (j := 0) (by omega) (by omega)
    have b0 := vd_1 (c := c) (a := a + 1) d0.2
    unfold vls
    simp only [e]
    simp
    omega
  · have hl : ln (c a) = 2 := by rw [e]; rfl
    have d0 := gdD hg (j := 0) (by omega) (by omega)
    have d1 := gdD hg (j := 1) (by omega) (by omega)
    have b0 := vd_2 (c := c) (a := a + 1) d0.2 d1.2
    unfold vls
    simp only [e]
    simp
    exact b0
theorem m_comes {M : G} {c : Nat → Nat} {n a k : Nat} {T : Tw} (hM : rM M T) (hd : T 8 0 ≤ 999) (hg : gd c n a = true) (hs : stored c M k a) (hk : k < 40) : ∃ N, f_X7_comes M (nI k) = some (bI (semA c a T).isSome, N) ∧ frw 144 M N ∧ ∀ T', semA c a T = some T' → rM N T' := by
  have ok := hM.2.2.2.2.2.2
  have h6 := ok.1
  have h8 := ok.2.1
  obtain ⟨s1, s2, s3⟩ := hs
  obtain ⟨w0, w98, w112, w103, w115⟩ := vls_b hg
  unfold f_X7_comes
  rw [ckn (show k < 48 by omega) (by decide), if_pos rfl, nl3, pk_mul, show nI (3 * k) + (1 : Int32) = nI (3 * k + 1) from nI_add _ 1, show nI (3 * k) + (2 : Int32) = nI (3 * k + 2) from nI_add _ 2, ckn (show 3 * k < 144 by omega) (by decide), ckn (show 3 * k + 1 < 144 by omega) (by decide), ckn (show 3 * k + 2 < 144 by omega) (by decide), cln (show k < 2147483648 by omega), cln (show 3 * k < 2147483648 by omega), cln (show 3 * k + 1 < 2147483648 by omega), cln (show 3 * k + 2 < 2147483648 by omega), s1]
  simp only [if_true]
  have t0 : M.2 15 (3 * k) = nI (vls c a 0) := s3 0 (by unfold nv; (repeat' split) <;> omega)
  rcases gd_let hg with e | e | e | e | e | e
  · have t1 : M.2 15 (3 * k + 1) = nI (vls c a 1) := s3 1 (by rw [e]; decide)
    have b1 := w98 e
    rw [if_pos (by rw [e]; rfl), t0, t1]
    unfold f_X7_comesBell
    rw [sA98 e, hM.1]
    by_cases q2 : vls c a 0 < 24
    · rw [if_neg (show ¬ (24 : Int32) ≤ nI (vls c a 0) from nI_ge (b := 24) q2 (by decide))]
      by_cases q3 : 1 ≤ vls c a 1
      · rw [if_neg (nI_ne0 (by omega) (by omega))]
        by_cases q1 : T 0 0 < 6
        · rw [if_neg (fun z => by have := (nI_eq (b := 6) (show T 0 0 < 2 ^ 31 by omega) (by decide)).mp z; omega), if_pos (show T 0 0 < 6 ∧ vls c a 0 < 24 ∧ 1 ≤ vls c a 1 from ⟨q1, q2, q3⟩), ckn q1 (by decide), cln (by omega)]
          simp only [if_true, lt_s', pA_1, hM.1, ckn q1 (show 6 < 2147483648 by decide), cln (show T 0 0 < 2147483648 by omega)]
          rw [show nI (T 0 0) + (1 : Int32) = nI (T 0 0 + 1) from nI_add _ 1, bd_s, if_pos (by decide)]
          refine ⟨_, rfl, ?_, fun T' hT => by cases hT; exact rM_addB hM q1 q2 q3 b1⟩
          exact ((frw_12 (Or.inl rfl) q1).tr (frw_12 (Or.inr rfl) q1) (lim := 144) (by decide) (by decide)).tr (frw_pF (by decide)) (by decide) (by decide)
        · rw [if_pos (show nI (T 0 0) = (6 : Int32) by rw [show T 0 0 = 6 by omega]; rfl), if_neg (show ¬ (T 0 0 < 6 ∧ vls c a 0 < 24 ∧ 1 ≤ vls c a 1) from fun z => q1 z.1), bd_s, if_pos (by decide)]
          exact ⟨M, rfl, frw.rf _ _, fun T' hT => by cases hT⟩
      · rw [if_pos (show nI (vls c a 1) = 0 by rw [show vls c a 1 = 0 by omega]; rfl), if_neg (show ¬ (T 0 0 < 6 ∧ vls c a 0 < 24 ∧ 1 ≤ vls c a 1) from fun z => q3 z.2.2), bd_s, if_pos (by decide)]
        exact ⟨M, rfl, frw.rf _ _, fun T' hT => by cases hT⟩
    · rw [if_pos (show (24 : Int32) ≤ nI (vls c a 0) from nI_le (a := 24) (by omega) (by omega)), if_neg (show ¬ (T 0 0 < 6 ∧ vls c a 0 < 24 ∧ 1 ≤ vls c a 1) from fun z => q2 z.2.1), bd_s, if_pos (by decide)]
      exact ⟨M, rfl, frw.rf _ _, fun T' hT => by cases hT⟩
  · have t1 : M.2 15 (3 * k + 1) = nI (vls c a 1) := s3 1 (by rw [e]; decide)
    have t2 : M.2 15 (3 * k + 2) = nI (vls c a 2) := s3 2 (by rw [e]; decide)
    obtain ⟨b0, b1, b2⟩ := w112 e
    rw [if_neg (by rw [e]; decide), if_neg (by rw [e]; decide), if_neg (by rw [e]; decide), if_pos (by rw [e]; rfl), t0, t1, t2]
    unfold f_X7_comesOne
    rw [sA112 e, hM.2.1]
    by_cases q1 : T 3 0 < 8
    · rw [if_neg (fun z => by have := (nI_eq (b := 8) (show T 3 0 < 2 ^ 31 by omega) (by decide)).mp z; omega), if_pos q1, ckn q1 (by decide), cln (by omega)]
      simp only [if_true, lt_s', pA_1, hM.2.1, ckn q1 (show 8 < 2147483648 by decide), cln (show T 3 0 < 2147483648 by omega)]
      rw [show nI (T 3 0) + (1 : Int32) = nI (T 3 0 + 1) from nI_add _ 1, bd_s, if_pos (by decide)]
      refine ⟨_, rfl, ?_, fun T' hT => by cases hT; exact rM_addP hM q1 b0 b1 b2⟩
      exact ((((frw_pA (by decide) q1).tr (frw_pA (by decide) q1) (lim := 144) (by decide) (by decide)).tr (frw_pA (by decide) q1) (lim := 144) (by decide) (by decide)).tr (frw_pA (by decide) q1) (lim := 144) (by decide) (by decide)).tr (frw_pF (by decide)) (by decide) (by decide)
    · rw [if_pos (show nI (T 3 0) = (8 : Int32) by rw [show T 3 0 = 8 by omega]; rfl), if_neg q1, bd_s, if_pos (by decide)]
      exact ⟨M, rfl, frw.rf _ _, fun T' hT => by cases hT⟩
  · have t1 : M.2 15 (3 * k + 1) = nI (vls c a 1) := s3 1 (by rw [e]; decide)
    have b1 := w103 e
    rw [if_neg (by rw [e]; decide), if_neg (by rw [e]; decide), if_pos (by rw [e]; rfl), t0]
    unfold f_X7_isOne
    rw [sA103 e, if_neg (nI_pos (by omega)), hM.2.1]
    by_cases q1 : vls c a 0 < T 3 0
    · rw [if_neg (nI_ge q1 (by omega)), if_pos q1, bd_s, if_neg (by decide), t0, t1, ckn (show vls c a 0 < 8 by omega) (by decide), if_pos rfl, lt_s', cln (by omega)]
      exact ⟨_, rfl, frw_pA (by decide) (by omega), fun T' hT => by cases hT; exact rM_st hM q1 (k := 7) (j := 6) (by omega)⟩
    · rw [if_pos (nI_le (by omega) (by omega)), if_neg q1, bd_s, if_pos rfl]
      exact ⟨M, rfl, frw.rf _ _, fun T' hT => by cases hT⟩
  · have t1 : M.2 15 (3 * k + 1) = nI (vls c a 1) := s3 1 (by rw [e]; decide)
    have b1 := w115 e
    rw [if_neg (by rw [e]; decide), if_neg (by rw [e]; decide), if_neg (by rw [e]; decide), if_neg (by rw [e]; decide), if_pos (by rw [e]; rfl), t0]
    unfold f_X7_isOne
    rw [sA115 e, if_neg (nI_pos (by omega)), hM.2.1]
    by_cases q1 : vls c a 0 < T 3 0
    · rw [if_neg (nI_ge q1 (by omega)), if_pos q1, bd_s, if_neg (by decide), t0, t1, ckn (show vls c a 0 < 8 by omega) (by decide), if_pos rfl, lt_s', cln (by omega)]
      exact ⟨_, rfl, frw_pA (by decide) (by omega), fun T' hT => by cases hT; exact rM_st hM q1 (k := 6) (j := 5) (by omega)⟩
    · rw [if_pos (nI_le (by omega) (by omega)), if_neg q1, bd_s, if_pos rfl]
      exact ⟨M, rfl, frw.rf _ _, fun T' hT => by cases hT⟩
  · rw [if_neg (by rw [e]; decide), if_pos (by rw [e]; rfl), t0, lt_s', show (pF M 10 (nI (vls c a 0))).1 10 = nI (vls c a 0) from rfl]
    unfold f_X7_isIn
    rw [sA101 e]
    by_cases q1 : 1 ≤ vls c a 0
    · rw [if_neg (show ¬ nI (vls c a 0) < (1 : Int32) from nI_nlt (b := 1) q1 (by omega))]
      by_cases q2 : vls c a 0 ≤ 8
      · rw [if_neg (show ¬ (8 : Int32) < nI (vls c a 0) from nI_nlt (a := 8) q2 (by decide)), if_pos (show 1 ≤ vls c a 0 ∧ vls c a 0 ≤ 8 from ⟨q1, q2⟩), bd_s, if_pos (by decide)]
        exact ⟨_, rfl, frw_pF (by decide), fun T' hT => by cases hT; exact rM_s9 hM q1 q2⟩
      · rw [if_pos (show (8 : Int32) < nI (vls c a 0) from nI_lt (a := 8) (by omega) (by omega)), if_neg (show ¬ (1 ≤ vls c a 0 ∧ vls c a 0 ≤ 8) from fun z => q2 z.2), bd_s, if_pos (by decide)]
        exact ⟨_, rfl, frw_pF (by decide), fun T' hT => by cases hT⟩
    · rw [if_pos (show nI (vls c a 0) < (1 : Int32) from nI_lt (b := 1) (by omega) (by decide)), if_neg (show ¬ (1 ≤ vls c a 0 ∧ vls c a 0 ≤ 8) from fun z => q1 z.1), bd_s, if_pos (by decide)]
      exact ⟨_, rfl, frw_pF (by decide), fun T' hT => by cases hT⟩
  · rw [if_neg (by rw [e]; decide), if_neg (by rw [e]; decide), if_neg (by rw [e]; decide), if_neg (by rw [e]; decide), if_neg (by rw [e]; decide), t0]
    unfold f_X7_comesDays f_X7_isIn
    rw [sA100 e]
    by_cases q1 : 1 ≤ vls c a 0
    · rw [if_neg (show ¬ nI (vls c a 0) < (1 : Int32) from nI_nlt (b := 1) q1 (by omega))]
      by_cases q2 : vls c a 0 ≤ 60
      · rw [if_neg (show ¬ (60 : Int32) < nI (vls c a 0) from nI_nlt (a := 60) q2 (by decide)), bd_s, if_neg (by decide), hM.2.2.1, nI_add, nl999]
        by_cases q3 : T 8 0 + vls c a 0 ≤ 999
        · obtain ⟨u, e2, hu, fu⟩ := m_goesOn hM (n := vls c a 0) (by omega)
          rw [if_pos (nI_le q3 (by decide)), if_pos (show 1 ≤ vls c a 0 ∧ vls c a 0 ≤ 60 ∧ T 8 0 + vls c a 0 ≤ 999 from ⟨q1, q2, q3⟩), e2, bd_s, bd_s, if_pos (by decide)]
          exact ⟨u, rfl, fu, fun T' hT => by cases hT; exact hu⟩
        · rw [if_neg (nI_ge (by omega) (by omega)), if_neg (show ¬ (1 ≤ vls c a 0 ∧ vls c a 0 ≤ 60 ∧ T 8 0 + vls c a 0 ≤ 999) from fun z => q3 z.2.2), bd_s, if_pos (by decide)]
          exact ⟨M, rfl, frw.rf _ _, fun T' hT => by cases hT⟩
      · rw [if_pos (show (60 : Int32) < nI (vls c a 0) from nI_lt (a := 60) (by omega) (by omega)), bd_s, if_pos rfl, if_neg (show ¬ (1 ≤ vls c a 0 ∧ vls c a 0 ≤ 60 ∧ T 8 0 + vls c a 0 ≤ 999) from fun z => q2 z.2.1), bd_s, if_pos (by decide)]
        exact ⟨M, rfl, frw.rf _ _, fun T' hT => by cases hT⟩
    · rw [if_pos (show nI (vls c a 0) < (1 : Int32) from nI_lt (b := 1) (by omega) (by decide)), bd_s, if_pos rfl, if_neg (show ¬ (1 ≤ vls c a 0 ∧ vls c a 0 ≤ 60 ∧ T 8 0 + vls c a 0 ≤ 999) from fun z => q1 z.1), bd_s, if_pos (by decide)]
      exact ⟨M, rfl, frw.rf _ _, fun T' hT => by cases hT⟩
theorem semA_8 {c : Nat → Nat} {n a : Nat} {T T' : Tw} (hg : gd c n a = true) (h : semA c a T = some T') (hd : T 8 0 ≤ 999) : T' 8 0 ≤ 999 := by
  rcases gd_let hg with e | e | e | e | e | e
  · rw [sA98 e] at h
    split at h
    · cases h; exact hd
    · cases h
  · rw [sA112 e] at h
    split at h
    · cases h; exact hd
    · cases h
  · rw [sA103 e] at h
    split at h
    · cases h; exact hd
    · cases h
  · rw [sA115 e] at h
    split at h
    · cases h; exact hd
    · cases h
  · rw [sA101 e] at h
    split at h
    · cases h; exact hd
    · cases h
  · rw [sA100 e] at h
    split at h
    · rename_i q
      cases h
      rw [dN_8]; exact q.2.2
    · cases h
