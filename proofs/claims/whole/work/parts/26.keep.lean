/-! the reference's rows that are kept and put back -/
def put (f g : Nat → Int32) (a n : Nat) : Nat → Int32 := fun k => if a ≤ k ∧ k < a + n then g (k - a) else f k
theorem put_0 (f g : Nat → Int32) (a : Nat) : put f g a 0 = f := by
  funext k
  unfold put
  rw [if_neg (by omega)]
theorem put_s (f g : Nat → Int32) (a n : Nat) : upd (put f g a n) (a + n) (g n) = put f g a (n + 1) := by
  funext k
  unfold put upd
  by_cases e : k = a + n
  · subst e
    rw [if_pos rfl, if_pos (by omega), show a + n - a = n by omega]
  · rw [if_neg e]
    show (if a ≤ k ∧ k < a + n then g (k - a) else f k) = _
    by_cases c : a ≤ k ∧ k < a + n
    · rw [if_pos c, if_pos (by omega)]
    · rw [if_neg c, if_neg (by omega)]
theorem put_in {f g : Nat → Int32} {a n k : Nat} (h1 : a ≤ k) (h2 : k < a + n) : put f g a n k = g (k - a) := by
  unfold put
  rw [if_pos ⟨h1, h2⟩]
theorem put_out {f g : Nat → Int32} {a n k : Nat} (h : k < a ∨ a + n ≤ k) : put f g a n k = f k := by
  unfold put
  rw [if_neg (by omega)]
/-- the state with i cells of the row at q kept from the place c on -/
def stK (M : G) (q c i : Nat) : G := (upd M.1 22 (nI (c + i)), fun k => if k = 19 then put (M.2 19) (M.2 q) c i else M.2 k)
/-- the state with i cells of the row at q put back -/
def stB (M : G) (q c i : Nat) : G := (upd M.1 22 (nI (c + i)), fun k => if k = q then put (M.2 q) (fun j => M.2 19 (c + j)) 0 i else M.2 k)
theorem stK_0 {M : G} {q c : Nat} (h : M.1 22 = nI c) : stK M q c 0 = M := by
  refine Prod.ext ?_ ?_
  · funext k
    show upd M.1 22 (nI (c + 0)) k = M.1 k
    unfold upd
    by_cases e : k = 22
    · rw [if_pos e, e, h]; rfl
    · rw [if_neg e]
  · funext k
    show (if k = 19 then put (M.2 19) (M.2 q) c 0 else M.2 k) = M.2 k
    by_cases e : k = 19
    · rw [if_pos e, put_0, e]
    · rw [if_neg e]
theorem stB_0 {M : G} {q c : Nat} (h : M.1 22 = nI c) : stB M q c 0 = M := by
  refine Prod.ext ?_ ?_
  · funext k
    show upd M.1 22 (nI (c + 0)) k = M.1 k
    unfold upd
    by_cases e : k = 22
    · rw [if_pos e, e, h]; rfl
    · rw [if_neg e]
  · funext k
    show (if k = q then put (M.2 q) (fun j => M.2 19 (c + j)) 0 0 else M.2 k) = M.2 k
    by_cases e : k = q
    · rw [if_pos e, put_0, e]
    · rw [if_neg e]
theorem stK_s {M : G} {q c i : Nat} (hq : q ≠ 19) : pF (pA (stK M q c i) 19 (c + i) ((stK M q c i).2 q i)) 22 (nI (c + i + 1)) = stK M q c (i + 1) := by
  refine Prod.ext ?_ ?_
  · funext k
    show upd (upd M.1 22 (nI (c + i))) 22 (nI (c + i + 1)) k = upd M.1 22 (nI (c + (i + 1))) k
    unfold upd
    by_cases e : k = 22
    · rw [if_pos e, if_pos e]; rfl
    · rw [if_neg e, if_neg e, if_neg e]
  · funext k
    show (if k = 19 then upd (if 19 = 19 then put (M.2 19) (M.2 q) c i else M.2 19) (c + i) ((if q = 19 then put (M.2 19) (M.2 q) c i else M.2 q) i) else (if k = 19 then put (M.2 19) (M.2 q) c i else M.2 k)) = (if k = 19 then put (M.2 19) (M.2 q) c (i + 1) else M.2 k)
    by_cases e : k = 19
    · rw [if_pos e, if_pos e, if_pos rfl, if_neg hq, put_s]
    · rw [if_neg e, if_neg e, if_neg e]
theorem stB_s {M : G} {q c i : Nat} (hq : q ≠ 19) : pF (pA (stB M q c i) q i ((stB M q c i).2 19 (c + i))) 22 (nI (c + i + 1)) = stB M q c (i + 1) := by
  refine Prod.ext ?_ ?_
  · funext k
    show upd (upd M.1 22 (nI (c + i))) 22 (nI (c + i + 1)) k = upd M.1 22 (nI (c + (i + 1))) k
    unfold upd
    by_cases e : k = 22
    · rw [if_pos e, if_pos e]; rfl
    · rw [if_neg e, if_neg e, if_neg e]
  · funext k
    show (if k = q then upd (if q = q then put (M.2 q) (fun j => M.2 19 (c + j)) 0 i else M.2 q) i ((if 19 = q then put (M.2 q) (fun j => M.2 19 (c + j)) 0 i else M.2 19) (c + i)) else (if k = q then put (M.2 q) (fun j => M.2 19 (c + j)) 0 i else M.2 k)) = (if k = q then put (M.2 q) (fun j => M.2 19 (c + j)) 0 (i + 1) else M.2 k)
    by_cases e : k = q
    · rw [if_pos e, if_pos e, if_pos rfl, if_neg (Ne.symm hq)]
      have h := put_s (M.2 q) (fun j => M.2 19 (c + j)) 0 i
      rw [Nat.zero_add] at h
      exact h
    · rw [if_neg e, if_neg e, if_neg e]
theorem m_passes_s1 {M : G} {c : Nat} (h : M.1 22 = nI c) (hc : c + 6 ≤ 144) :
    (M.1 21 = 1 → f_X7_passes_s1 M = some ((), stK M 1 c 6)) ∧ (M.1 21 = 0 → f_X7_passes_s1 M = some ((), stB M 1 c 6)) := by
  constructor
  · intro hk
    have key := loopE (fun fuel i => f_X7_passes_s1_2 fuel (stK M 1 c i) (nI i)) 6 (some ((), stK M 1 c 6)) (fun f => ?_) (fun f i hi => Or.inr ?_) 1000 0 (by omega) (by omega)
    · unfold f_X7_passes_s1
      have e : f_X7_passes_s1_2 1000 (stK M 1 c 0) (nI 0) = _ := key
      rw [stK_0 h] at e
      exact e
    · show b_X7_passes_s1_2 _ _ _ = _
      unfold b_X7_passes_s1_2
      rw [if_pos (show (6 : Int32) ≤ nI 6 by decide)]
    · show b_X7_passes_s1_2 _ _ _ = _
      unfold b_X7_passes_s1_2
      have e21 : (stK M 1 c i).1 21 = 1 := hk
      have e22 : (stK M 1 c i).1 22 = nI (c + i) := rfl
      rw [if_neg (show ¬ (6 : Int32) ≤ nI i from nI_ge (b := 6) hi (by decide)), e21, if_neg (by decide), e22, ckn (show i < 6 by omega) (by decide), ckn (show c + i < 144 by omega) (by decide), cln (show i < 2147483648 by omega), cln (show c + i < 2147483648 by omega), if_pos rfl, if_pos rfl]
      unfold f_X7_passes_s1_42
      simp only [lt_s']
      have e3 : (pA (stK M 1 c i) 19 (c + i) ((stK M 1 c i).2 1 i)).1 22 = nI (c + i) := rfl
      rw [e3, nl1, nI_add, nI_add, ← stK_s (by decide)]
  · intro hk
    have key := loopE (fun fuel i => f_X7_passes_s1_2 fuel (stB M 1 c i) (nI i)) 6 (some ((), stB M 1 c 6)) (fun f => ?_) (fun f i hi => Or.inr ?_) 1000 0 (by omega) (by omega)
    · unfold f_X7_passes_s1
      have e : f_X7_passes_s1_2 1000 (stB M 1 c 0) (nI 0) = _ := key
      rw [stB_0 h] at e
      exact e
    · show b_X7_passes_s1_2 _ _ _ = _
      unfold b_X7_passes_s1_2
      rw [if_pos (show (6 : Int32) ≤ nI 6 by decide)]
    · show b_X7_passes_s1_2 _ _ _ = _
      unfold b_X7_passes_s1_2
      have e21 : (stB M 1 c i).1 21 = 0 := hk
      have e22 : (stB M 1 c i).1 22 = nI (c + i) := rfl
      rw [if_neg (show ¬ (6 : Int32) ≤ nI i from nI_ge (b := 6) hi (by decide)), e21, if_pos rfl, e22, ckn (show i < 6 by omega) (by decide), ckn (show c + i < 144 by omega) (by decide), cln (show i < 2147483648 by omega), cln (show c + i < 2147483648 by omega), if_pos rfl, if_pos rfl]
      unfold f_X7_passes_s1_42
      simp only [lt_s']
      have e3 : (pA (stB M 1 c i) 1 i ((stB M 1 c i).2 19 (c + i))).1 22 = nI (c + i) := rfl
      rw [e3, nl1, nI_add, nI_add, ← stB_s (by decide)]
theorem m_passes_s2 {M : G} {c : Nat} (h : M.1 22 = nI c) (hc : c + 6 ≤ 144) :
    (M.1 21 = 1 → f_X7_passes_s2 M = some ((), stK M 2 c 6)) ∧ (M.1 21 = 0 → f_X7_passes_s2 M = some ((), stB M 2 c 6)) := by
  constructor
  · intro hk
    have key := loopE (fun fuel i => f_X7_passes_s2_2 fuel (stK M 2 c i) (nI i)) 6 (some ((), stK M 2 c 6)) (fun f => ?_) (fun f i hi => Or.inr ?_) 1000 0 (by omega) (by omega)
    · unfold f_X7_passes_s2
      have e : f_X7_passes_s2_2 1000 (stK M 2 c 0) (nI 0) = _ := key
      rw [stK_0 h] at e
      exact e
    · show b_X7_passes_s2_2 _ _ _ = _
      unfold b_X7_passes_s2_2
      rw [if_pos (show (6 : Int32) ≤ nI 6 by decide)]
    · show b_X7_passes_s2_2 _ _ _ = _
      unfold b_X7_passes_s2_2
      have e21 : (stK M 2 c i).1 21 = 1 := hk
      have e22 : (stK M 2 c i).1 22 = nI (c + i) := rfl
      rw [if_neg (show ¬ (6 : Int32) ≤ nI i from nI_ge (b := 6) hi (by decide)), e21, if_neg (by decide), e22, ckn (show i < 6 by omega) (by decide), ckn (show c + i < 144 by omega) (by decide), cln (show i < 2147483648 by omega), cln (show c + i < 2147483648 by omega), if_pos rfl, if_pos rfl]
      unfold f_X7_passes_s2_42
      simp only [lt_s']
      have e3 : (pA (stK M 2 c i) 19 (c + i) ((stK M 2 c i).2 2 i)).1 22 = nI (c + i) := rfl
      rw [e3, nl1, nI_add, nI_add, ← stK_s (by decide)]
  · intro hk
    have key := loopE (fun fuel i => f_X7_passes_s2_2 fuel (stB M 2 c i) (nI i)) 6 (some ((), stB M 2 c 6)) (fun f => ?_) (fun f i hi => Or.inr ?_) 1000 0 (by omega) (by omega)
    · unfold f_X7_passes_s2
      have e : f_X7_passes_s2_2 1000 (stB M 2 c 0) (nI 0) = _ := key
      rw [stB_0 h] at e
      exact e
    · show b_X7_passes_s2_2 _ _ _ = _
      unfold b_X7_passes_s2_2
      rw [if_pos (show (6 : Int32) ≤ nI 6 by decide)]
    · show b_X7_passes_s2_2 _ _ _ = _
      unfold b_X7_passes_s2_2
      have e21 : (stB M 2 c i).1 21 = 0 := hk
      have e22 : (stB M 2 c i).1 22 = nI (c + i) := rfl
      rw [if_neg (show ¬ (6 : Int32) ≤ nI i from nI_ge (b := 6) hi (by decide)), e21, if_pos rfl, e22, ckn (show i < 6 by omega) (by decide), ckn (show c + i < 144 by omega) (by decide), cln (show i < 2147483648 by omega), cln (show c + i < 2147483648 by omega), if_pos rfl, if_pos rfl]
      unfold f_X7_passes_s2_42
      simp only [lt_s']
      have e3 : (pA (stB M 2 c i) 2 i ((stB M 2 c i).2 19 (c + i))).1 22 = nI (c + i) := rfl
      rw [e3, nl1, nI_add, nI_add, ← stB_s (by decide)]
theorem m_passes_s3 {M : G} {c : Nat} (h : M.1 22 = nI c) (hc : c + 8 ≤ 144) :
    (M.1 21 = 1 → f_X7_passes_s3 M = some ((), stK M 3 c 8)) ∧ (M.1 21 = 0 → f_X7_passes_s3 M = some ((), stB M 3 c 8)) := by
  constructor
  · intro hk
    have key := loopE (fun fuel i => f_X7_passes_s3_2 fuel (stK M 3 c i) (nI i)) 8 (some ((), stK M 3 c 8)) (fun f => ?_) (fun f i hi => Or.inr ?_) 1000 0 (by omega) (by omega)
    · unfold f_X7_passes_s3
      have e : f_X7_passes_s3_2 1000 (stK M 3 c 0) (nI 0) = _ := key
      rw [stK_0 h] at e
      exact e
    · show b_X7_passes_s3_2 _ _ _ = _
      unfold b_X7_passes_s3_2
      rw [if_pos (show (8 : Int32) ≤ nI 8 by decide)]
    · show b_X7_passes_s3_2 _ _ _ = _
      unfold b_X7_passes_s3_2
      have e21 : (stK M 3 c i).1 21 = 1 := hk
      have e22 : (stK M 3 c i).1 22 = nI (c + i) := rfl
      rw [if_neg (show ¬ (8 : Int32) ≤ nI i from nI_ge (b := 8) hi (by decide)), e21, if_neg (by decide), e22, ckn (show i < 8 by omega) (by decide), ckn (show c + i < 144 by omega) (by decide), cln (show i < 2147483648 by omega), cln (show c + i < 2147483648 by omega), if_pos rfl, if_pos rfl]
      unfold f_X7_passes_s3_42
      simp only [lt_s']
      have e3 : (pA (stK M 3 c i) 19 (c + i) ((stK M 3 c i).2 3 i)).1 22 = nI (c + i) := rfl
      rw [e3, nl1, nI_add, nI_add, ← stK_s (by decide)]
  · intro hk
    have key := loopE (fun fuel i => f_X7_passes_s3_2 fuel (stB M 3 c i) (nI i)) 8 (some ((), stB M 3 c 8)) (fun f => ?_) (fun f i hi => Or.inr ?_) 1000 0 (by omega) (by omega)
    · unfold f_X7_passes_s3
      have e : f_X7_passes_s3_2 1000 (stB M 3 c 0) (nI 0) = _ := key
      rw [stB_0 h] at e
      exact e
    · show b_X7_passes_s3_2 _ _ _ = _
      unfold b_X7_passes_s3_2
      rw [if_pos (show (8 : Int32) ≤ nI 8 by decide)]
    · show b_X7_passes_s3_2 _ _ _ = _
      unfold b_X7_passes_s3_2
      have e21 : (stB M 3 c i).1 21 = 0 := hk
      have e22 : (stB M 3 c i).1 22 = nI (c + i) := rfl
      rw [if_neg (show ¬ (8 : Int32) ≤ nI i from nI_ge (b := 8) hi (by decide)), e21, if_pos rfl, e22, ckn (show i < 8 by omega) (by decide), ckn (show c + i < 144 by omega) (by decide), cln (show i < 2147483648 by omega), cln (show c + i < 2147483648 by omega), if_pos rfl, if_pos rfl]
      unfold f_X7_passes_s3_42
      simp only [lt_s']
      have e3 : (pA (stB M 3 c i) 3 i ((stB M 3 c i).2 19 (c + i))).1 22 = nI (c + i) := rfl
      rw [e3, nl1, nI_add, nI_add, ← stB_s (by decide)]
theorem m_passes_s4 {M : G} {c : Nat} (h : M.1 22 = nI c) (hc : c + 8 ≤ 144) :
    (M.1 21 = 1 → f_X7_passes_s4 M = some ((), stK M 4 c 8)) ∧ (M.1 21 = 0 → f_X7_passes_s4 M = some ((), stB M 4 c 8)) := by
  constructor
  · intro hk
    have key := loopE (fun fuel i => f_X7_passes_s4_2 fuel (stK M 4 c i) (nI i)) 8 (some ((), stK M 4 c 8)) (fun f => ?_) (fun f i hi => Or.inr ?_) 1000 0 (by omega) (by omega)
    · unfold f_X7_passes_s4
      have e : f_X7_passes_s4_2 1000 (stK M 4 c 0) (nI 0) = _ := key
      rw [stK_0 h] at e
      exact e
    · show b_X7_passes_s4_2 _ _ _ = _
      unfold b_X7_passes_s4_2
      rw [if_pos (show (8 : Int32) ≤ nI 8 by decide)]
    · show b_X7_passes_s4_2 _ _ _ = _
      unfold b_X7_passes_s4_2
      have e21 : (stK M 4 c i).1 21 = 1 := hk
      have e22 : (stK M 4 c i).1 22 = nI (c + i) := rfl
      rw [if_neg (show ¬ (8 : Int32) ≤ nI i from nI_ge (b := 8) hi (by decide)), e21, if_neg (by decide), e22, ckn (show i < 8 by omega) (by decide), ckn (show c + i < 144 by omega) (by decide), cln (show i < 2147483648 by omega), cln (show c + i < 2147483648 by omega), if_pos rfl, if_pos rfl]
      unfold f_X7_passes_s4_42
      simp only [lt_s']
      have e3 : (pA (stK M 4 c i) 19 (c + i) ((stK M 4 c i).2 4 i)).1 22 = nI (c + i) := rfl
      rw [e3, nl1, nI_add, nI_add, ← stK_s (by decide)]
  · intro hk
    have key := loopE (fun fuel i => f_X7_passes_s4_2 fuel (stB M 4 c i) (nI i)) 8 (some ((), stB M 4 c 8)) (fun f => ?_) (fun f i hi => Or.inr ?_) 1000 0 (by omega) (by omega)
    · unfold f_X7_passes_s4
      have e : f_X7_passes_s4_2 1000 (stB M 4 c 0) (nI 0) = _ := key
      rw [stB_0 h] at e
      exact e
    · show b_X7_passes_s4_2 _ _ _ = _
      unfold b_X7_passes_s4_2
      rw [if_pos (show (8 : Int32) ≤ nI 8 by decide)]
    · show b_X7_passes_s4_2 _ _ _ = _
      unfold b_X7_passes_s4_2
      have e21 : (stB M 4 c i).1 21 = 0 := hk
      have e22 : (stB M 4 c i).1 22 = nI (c + i) := rfl
      rw [if_neg (show ¬ (8 : Int32) ≤ nI i from nI_ge (b := 8) hi (by decide)), e21, if_pos rfl, e22, ckn (show i < 8 by omega) (by decide), ckn (show c + i < 144 by omega) (by decide), cln (show i < 2147483648 by omega), cln (show c + i < 2147483648 by omega), if_pos rfl, if_pos rfl]
      unfold f_X7_passes_s4_42
      simp only [lt_s']
      have e3 : (pA (stB M 4 c i) 4 i ((stB M 4 c i).2 19 (c + i))).1 22 = nI (c + i) := rfl
      rw [e3, nl1, nI_add, nI_add, ← stB_s (by decide)]
theorem m_passes_s5 {M : G} {c : Nat} (h : M.1 22 = nI c) (hc : c + 8 ≤ 144) :
    (M.1 21 = 1 → f_X7_passes_s5 M = some ((), stK M 5 c 8)) ∧ (M.1 21 = 0 → f_X7_passes_s5 M = some ((), stB M 5 c 8)) := by
  constructor
  · intro hk
    have key := loopE (fun fuel i => f_X7_passes_s5_2 fuel (stK M 5 c i) (nI i)) 8 (some ((), stK M 5 c 8)) (fun f => ?_) (fun f i hi => Or.inr ?_) 1000 0 (by omega) (by omega)
    · unfold f_X7_passes_s5
      have e : f_X7_passes_s5_2 1000 (stK M 5 c 0) (nI 0) = _ := key
      rw [stK_0 h] at e
      exact e
    · show b_X7_passes_s5_2 _ _ _ = _
      unfold b_X7_passes_s5_2
      rw [if_pos (show (8 : Int32) ≤ nI 8 by decide)]
    · show b_X7_passes_s5_2 _ _ _ = _
      unfold b_X7_passes_s5_2
      have e21 : (stK M 5 c i).1 21 = 1 := hk
      have e22 : (stK M 5 c i).1 22 = nI (c + i) := rfl
      rw [if_neg (show ¬ (8 : Int32) ≤ nI i from nI_ge (b := 8) hi (by decide)), e21, if_neg (by decide), e22, ckn (show i < 8 by omega) (by decide), ckn (show c + i < 144 by omega) (by decide), cln (show i < 2147483648 by omega), cln (show c + i < 2147483648 by omega), if_pos rfl, if_pos rfl]
      unfold f_X7_passes_s5_42
      simp only [lt_s']
      have e3 : (pA (stK M 5 c i) 19 (c + i) ((stK M 5 c i).2 5 i)).1 22 = nI (c + i) := rfl
      rw [e3, nl1, nI_add, nI_add, ← stK_s (by decide)]
  · intro hk
    have key := loopE (fun fuel i => f_X7_passes_s5_2 fuel (stB M 5 c i) (nI i)) 8 (some ((), stB M 5 c 8)) (fun f => ?_) (fun f i hi => Or.inr ?_) 1000 0 (by omega) (by omega)
    · unfold f_X7_passes_s5
      have e : f_X7_passes_s5_2 1000 (stB M 5 c 0) (nI 0) = _ := key
      rw [stB_0 h] at e
      exact e
    · show b_X7_passes_s5_2 _ _ _ = _
      unfold b_X7_passes_s5_2
      rw [if_pos (show (8 : Int32) ≤ nI 8 by decide)]
    · show b_X7_passes_s5_2 _ _ _ = _
      unfold b_X7_passes_s5_2
      have e21 : (stB M 5 c i).1 21 = 0 := hk
      have e22 : (stB M 5 c i).1 22 = nI (c + i) := rfl
      rw [if_neg (show ¬ (8 : Int32) ≤ nI i from nI_ge (b := 8) hi (by decide)), e21, if_pos rfl, e22, ckn (show i < 8 by omega) (by decide), ckn (show c + i < 144 by omega) (by decide), cln (show i < 2147483648 by omega), cln (show c + i < 2147483648 by omega), if_pos rfl, if_pos rfl]
      unfold f_X7_passes_s5_42
      simp only [lt_s']
      have e3 : (pA (stB M 5 c i) 5 i ((stB M 5 c i).2 19 (c + i))).1 22 = nI (c + i) := rfl
      rw [e3, nl1, nI_add, nI_add, ← stB_s (by decide)]
theorem m_passes_s6 {M : G} {c : Nat} (h : M.1 22 = nI c) (hc : c + 8 ≤ 144) :
    (M.1 21 = 1 → f_X7_passes_s6 M = some ((), stK M 6 c 8)) ∧ (M.1 21 = 0 → f_X7_passes_s6 M = some ((), stB M 6 c 8)) := by
  constructor
  · intro hk
    have key := loopE (fun fuel i => f_X7_passes_s6_2 fuel (stK M 6 c i) (nI i)) 8 (some ((), stK M 6 c 8)) (fun f => ?_) (fun f i hi => Or.inr ?_) 1000 0 (by omega) (by omega)
    · unfold f_X7_passes_s6
      have e : f_X7_passes_s6_2 1000 (stK M 6 c 0) (nI 0) = _ := key
      rw [stK_0 h] at e
      exact e
    · show b_X7_passes_s6_2 _ _ _ = _
      unfold b_X7_passes_s6_2
      rw [if_pos (show (8 : Int32) ≤ nI 8 by decide)]
    · show b_X7_passes_s6_2 _ _ _ = _
      unfold b_X7_passes_s6_2
      have e21 : (stK M 6 c i).1 21 = 1 := hk
      have e22 : (stK M 6 c i).1 22 = nI (c + i) := rfl
      rw [if_neg (show ¬ (8 : Int32) ≤ nI i from nI_ge (b := 8) hi (by decide)), e21, if_neg (by decide), e22, ckn (show i < 8 by omega) (by decide), ckn (show c + i < 144 by omega) (by decide), cln (show i < 2147483648 by omega), cln (show c + i < 2147483648 by omega), if_pos rfl, if_pos rfl]
      unfold f_X7_passes_s6_42
      simp only [lt_s']
      have e3 : (pA (stK M 6 c i) 19 (c + i) ((stK M 6 c i).2 6 i)).1 22 = nI (c + i) := rfl
      rw [e3, nl1, nI_add, nI_add, ← stK_s (by decide)]
  · intro hk
    have key := loopE (fun fuel i => f_X7_passes_s6_2 fuel (stB M 6 c i) (nI i)) 8 (some ((), stB M 6 c 8)) (fun f => ?_) (fun f i hi => Or.inr ?_) 1000 0 (by omega) (by omega)
    · unfold f_X7_passes_s6
      have e : f_X7_passes_s6_2 1000 (stB M 6 c 0) (nI 0) = _ := key
      rw [stB_0 h] at e
      exact e
    · show b_X7_passes_s6_2 _ _ _ = _
      unfold b_X7_passes_s6_2
      rw [if_pos (show (8 : Int32) ≤ nI 8 by decide)]
    · show b_X7_passes_s6_2 _ _ _ = _
      unfold b_X7_passes_s6_2
      have e21 : (stB M 6 c i).1 21 = 0 := hk
      have e22 : (stB M 6 c i).1 22 = nI (c + i) := rfl
      rw [if_neg (show ¬ (8 : Int32) ≤ nI i from nI_ge (b := 8) hi (by decide)), e21, if_pos rfl, e22, ckn (show i < 8 by omega) (by decide), ckn (show c + i < 144 by omega) (by decide), cln (show i < 2147483648 by omega), cln (show c + i < 2147483648 by omega), if_pos rfl, if_pos rfl]
      unfold f_X7_passes_s6_42
      simp only [lt_s']
      have e3 : (pA (stB M 6 c i) 6 i ((stB M 6 c i).2 19 (c + i))).1 22 = nI (c + i) := rfl
      rw [e3, nl1, nI_add, nI_add, ← stB_s (by decide)]
theorem m_passOne {M : G} {c : Nat} {v : Int32} (h : M.1 22 = nI c) (hc : c < 144) :
    (M.1 21 = 1 → f_X7_passOne M v = some (v, pF (pA M 19 c v) 22 (nI (c + 1)))) ∧ (M.1 21 = 0 → f_X7_passOne M v = some (M.2 19 c, pF M 22 (nI (c + 1)))) := by
  constructor
  · intro hk
    unfold f_X7_passOne f_X7_passOne_20 f_X7_passOne_38
    have e : (pA M 19 c v).1 22 = nI c := h
    simp only [hk, h, ckn hc (by decide), cln (show c < 2147483648 by omega), lt_s', e, nl1, nI_add]
    rfl
  · intro hk
    unfold f_X7_passOne f_X7_passOne_20 f_X7_passOne_38
    simp only [hk, h, ckn hc (by decide), cln (show c < 2147483648 by omega), lt_s', nl1, nI_add]
    rfl
/-- the 48 numbers that are kept of a town -/
def snap (M : G) (j : Nat) : Int32 := if j < 6 then M.2 1 j else if j < 12 then M.2 2 (j - 6) else if j < 20 then M.2 3 (j - 12) else if j < 28 then M.2 4 (j - 20) else if j < 36 then M.2 5 (j - 28) else if j < 44 then M.2 6 (j - 36) else if j = 44 then M.1 7 else if j = 45 then M.1 8 else if j = 46 then M.1 9 else M.1 10
def PK (M : G) (c o : Nat) (N : G) : Prop := (∀ k, k ≠ 19 → N.2 k = M.2 k) ∧ (∀ k, k ≠ 21 → k ≠ 22 → N.1 k = M.1 k) ∧ N.1 21 = 1 ∧ N.1 22 = nI (c + o) ∧ N.2 19 = put (M.2 19) (snap M) c o
theorem put_put {f g h : Nat → Int32} {c o n : Nat} (e : ∀ i, i < n → g (o + i) = h i) : put (put f g c o) h (c + o) n = put f g c (o + n) := by
  funext k
  unfold put
  by_cases a : c + o ≤ k ∧ k < c + o + n
  · rw [if_pos a, if_pos (by omega), ← e (k - (c + o)) (by omega), show o + (k - (c + o)) = k - c by omega]
  · rw [if_neg a]
    by_cases b : c ≤ k ∧ k < c + o
    · rw [if_pos b, if_pos (by omega)]
    · rw [if_neg b, if_neg (by omega)]
theorem PK.row {M N : G} {c o : Nat} (h : PK M c o N) (q n : Nat) (hq : q ≠ 19) (e : ∀ i, i < n → snap M (o + i) = M.2 q i) : PK M c (o + n) (stK N q (c + o) n) := by
  obtain ⟨h1, h2, h3, h4, h5⟩ := h
  refine ⟨fun k hk => ?_, fun k a b => ?_, ?_, ?_, ?_⟩
  · show (if k = 19 then _ else N.2 k) = _
    rw [if_neg hk]; exact h1 k hk
  · show upd N.1 22 _ k = _
    unfold upd
    rw [if_neg b]; exact h2 k a b
  · exact h3
  · show nI (c + o + n) = nI (c + (o + n))
    rw [Nat.add_assoc]
  · show put (N.2 19) (N.2 q) (c + o) n = _
    rw [h5, h1 q hq]
    exact put_put e
theorem PK.one {M N : G} {c o : Nat} (h : PK M c o N) (v : Int32) (e : snap M o = v) : PK M c (o + 1) (pF (pA N 19 (c + o) v) 22 (nI (c + o + 1))) := by
  obtain ⟨h1, h2, h3, h4, h5⟩ := h
  refine ⟨fun k hk => ?_, fun k a b => ?_, ?_, ?_, ?_⟩
  · rw [pF_2, pA_2, if_neg hk]; exact h1 k hk
  · rw [pF_1, if_neg b]; exact h2 k a b
  · exact h3
  · rfl
  · rw [pF_2, pA_2, if_pos rfl, h5, ← e]
    exact put_s (M.2 19) (snap M) c o
theorem PK.fld {M N : G} {c o : Nat} (h : PK M c o N) (k : Nat) (a : k ≠ 21) (b : k ≠ 22) : PK M c o (pF N k (N.1 k)) := by
  have e : pF N k (N.1 k) = N := by
    refine Prod.ext ?_ rfl
    funext j
    show upd N.1 k (N.1 k) j = N.1 j
    unfold upd
    by_cases q : j = k
    · rw [if_pos q, q]
    · rw [if_neg q]
  rw [e]; exact h
theorem pF_self (N : G) (k : Nat) : pF N k (N.1 k) = N := by
  refine Prod.ext ?_ rfl
  funext j
  show upd N.1 k (N.1 k) j = N.1 j
  unfold upd
  by_cases q : j = k
  · rw [if_pos q, q]
  · rw [if_neg q]
theorem m_keep (M : G) {w : Nat} (hw : w ≤ 2) : ∃ N, f_X7_passesAll M (nI w) 1 = some ((), N) ∧ PK M (48 * w) 48 N := by
  unfold f_X7_passesAll
  simp only [lt_s', nl48, pk_mul]
  rw [if_pos (show zb 1 = true by decide)]
  have h0 : PK M (48 * w) 0 (pF (pF M 22 (nI (48 * w))) 21 1) := by
    refine ⟨fun k _ => rfl, fun k a b => ?_, rfl, rfl, (put_0 _ _ _).symm⟩
    rw [pF_1, if_neg a, pF_1, if_neg b]
  have h1 := h0.row 1 6 (by decide) (fun i hi => by unfold snap; rw [if_pos (by omega), Nat.zero_add])
  have h2 := h1.row 2 6 (by decide) (fun i hi => by unfold snap; rw [if_neg (by omega), if_pos (by omega), show 0 + 6 + i - 6 = i by omega])
  have h3 := h2.row 3 8 (by decide) (fun i hi => by unfold snap; rw [if_neg (by omega), if_neg (by omega), if_pos (by omega), show 0 + 6 + 6 + i - 12 = i by omega])
  have h4 := h3.row 4 8 (by decide) (fun i hi => by unfold snap; rw [if_neg (by omega), if_neg (by omega), if_neg (by omega), if_pos (by omega), show 0 + 6 + 6 + 8 + i - 20 = i by omega])
  have h5 := h4.row 5 8 (by decide) (fun i hi => by unfold snap; rw [if_neg (by omega), if_neg (by omega), if_neg (by omega), if_neg (by omega), if_pos (by omega), show 0 + 6 + 6 + 8 + 8 + i - 28 = i by omega])
  have h6 := h5.row 6 8 (by decide) (fun i hi => by unfold snap; rw [if_neg (by omega), if_neg (by omega), if_neg (by omega), if_neg (by omega), if_neg (by omega), if_pos (by omega), show 0 + 6 + 6 + 8 + 8 + 8 + i - 36 = i by omega])
  rw [(m_passes_s1 h0.2.2.2.1 (by omega)).1 h0.2.2.1, bd_s, (m_passes_s2 h1.2.2.2.1 (by omega)).1 h1.2.2.1, bd_s, (m_passes_s3 h2.2.2.2.1 (by omega)).1 h2.2.2.1, bd_s, (m_passes_s4 h3.2.2.2.1 (by omega)).1 h3.2.2.1, bd_s, (m_passes_s5 h4.2.2.2.1 (by omega)).1 h4.2.2.1, bd_s, (m_passes_s6 h5.2.2.2.1 (by omega)).1 h5.2.2.1, bd_s]
  generalize stK (stK (stK (stK (stK (stK (pF (pF M 22 (nI (48 * w))) 21 1) 1 (48 * w + 0) 6) 2 (48 * w + (0 + 6)) 6) 3 (48 * w + (0 + 6 + 6)) 8) 4 (48 * w + (0 + 6 + 6 + 8)) 8) 5 (48 * w + (0 + 6 + 6 + 8 + 8)) 8) 6 (48 * w + (0 + 6 + 6 + 8 + 8 + 8)) 8 = N at h6 ⊢
  have g7 : N.1 7 = M.1 7 := h6.2.1 7 (by decide) (by decide)
  have g8 : N.1 8 = M.1 8 := h6.2.1 8 (by decide) (by decide)
  have g9 : N.1 9 = M.1 9 := h6.2.1 9 (by decide) (by decide)
  have g10 : N.1 10 = M.1 10 := h6.2.1 10 (by decide) (by decide)
  have k1 := h6.one (N.1 7) (by rw [g7]; rfl)
  rw [(m_passOne h6.2.2.2.1 (by omega)).1 h6.2.2.1, bd_s]
  generalize hN1 : pF (pA N 19 (48 * w + (0 + 6 + 6 + 8 + 8 + 8 + 8)) (N.1 7)) 22 (nI (48 * w + (0 + 6 + 6 + 8 + 8 + 8 + 8) + 1)) = N1 at k1 ⊢
  have e1 : pF N1 7 (N.1 7) = N1 := by
    have : N.1 7 = N1.1 7 := by rw [← hN1]; rfl
    rw [this]; exact pF_self N1 7
  rw [e1]
  have k2 := k1.one (N1.1 8) (by rw [k1.2.1 8 (by decide) (by decide)]; rfl)
  rw [(m_passOne k1.2.2.2.1 (by omega)).1 k1.2.2.1, bd_s]
  generalize hN2 : pF (pA N1 19 (48 * w + (0 + 6 + 6 + 8 + 8 + 8 + 8 + 1)) (N1.1 8)) 22 (nI (48 * w + (0 + 6 + 6 + 8 + 8 + 8 + 8 + 1) + 1)) = N2 at k2 ⊢
  have e2 : pF N2 8 (N1.1 8) = N2 := by
    have : N1.1 8 = N2.1 8 := by rw [← hN2]; rfl
    rw [this]; exact pF_self N2 8
  rw [e2]
  have k3 := k2.one (N2.1 9) (by rw [k2.2.1 9 (by decide) (by decide)]; rfl)
  rw [(m_passOne k2.2.2.2.1 (by omega)).1 k2.2.2.1, bd_s]
  generalize hN3 : pF (pA N2 19 (48 * w + (0 + 6 + 6 + 8 + 8 + 8 + 8 + 1 + 1)) (N2.1 9)) 22 (nI (48 * w + (0 + 6 + 6 + 8 + 8 + 8 + 8 + 1 + 1) + 1)) = N3 at k3 ⊢
  have e3 : pF N3 9 (N2.1 9) = N3 := by
    have : N2.1 9 = N3.1 9 := by rw [← hN3]; rfl
    rw [this]; exact pF_self N3 9
  rw [e3]
  have k4 := k3.one (N3.1 10) (by rw [k3.2.1 10 (by decide) (by decide)]; rfl)
  rw [(m_passOne k3.2.2.2.1 (by omega)).1 k3.2.2.1, bd_s]
  generalize hN4 : pF (pA N3 19 (48 * w + (0 + 6 + 6 + 8 + 8 + 8 + 8 + 1 + 1 + 1)) (N3.1 10)) 22 (nI (48 * w + (0 + 6 + 6 + 8 + 8 + 8 + 8 + 1 + 1 + 1) + 1)) = N4 at k4 ⊢
  have e4 : pF N4 10 (N3.1 10) = N4 := by
    have : N3.1 10 = N4.1 10 := by rw [← hN4]; rfl
    rw [this]; exact pF_self N4 10
  rw [e4]
  exact ⟨N4, rfl, k4⟩
/-- what is put back -/
def PBk (M : G) (c : Nat) (N : G) : Prop := (∀ k, k < 1 ∨ 6 < k → N.2 k = M.2 k) ∧ (∀ k, k < 7 ∨ 10 < k → k ≠ 21 → k ≠ 22 → N.1 k = M.1 k) ∧
  N.2 1 = put (M.2 1) (fun j => M.2 19 (c + j)) 0 6 ∧ N.2 2 = put (M.2 2) (fun j => M.2 19 (c + 6 + j)) 0 6 ∧ N.2 3 = put (M.2 3) (fun j => M.2 19 (c + 12 + j)) 0 8 ∧ N.2 4 = put (M.2 4) (fun j => M.2 19 (c + 20 + j)) 0 8 ∧ N.2 5 = put (M.2 5) (fun j => M.2 19 (c + 28 + j)) 0 8 ∧ N.2 6 = put (M.2 6) (fun j => M.2 19 (c + 36 + j)) 0 8 ∧
  N.1 7 = M.2 19 (c + 44) ∧ N.1 8 = M.2 19 (c + 45) ∧ N.1 9 = M.2 19 (c + 46) ∧ N.1 10 = M.2 19 (c + 47)
theorem m_back (M : G) {w : Nat} (hw : w ≤ 2) : ∃ N, f_X7_passesAll M (nI w) 0 = some ((), N) ∧ PBk M (48 * w) N := by
  unfold f_X7_passesAll
  simp only [lt_s', nl48, pk_mul]
  rw [if_pos (show zb 0 = true by decide)]
  generalize hB0 : pF (pF M 22 (nI (48 * w))) 21 0 = B0
  have c0 : B0.1 22 = nI (48 * w) := by rw [← hB0]; rfl
  have z0 : B0.1 21 = 0 := by rw [← hB0]; rfl
  rw [(m_passes_s1 c0 (by omega)).2 z0, bd_s]
  rw [(m_passes_s2 (M := stB B0 1 (48 * w) 6) (c := 48 * w + 6) rfl (by omega)).2 z0, bd_s]
  rw [(m_passes_s3 (M := stB (stB B0 1 (48 * w) 6) 2 (48 * w + 6) 6) (c := 48 * w + 6 + 6) rfl (by omega)).2 z0, bd_s]
  rw [(m_passes_s4 (M := stB (stB (stB B0 1 (48 * w) 6) 2 (48 * w + 6) 6) 3 (48 * w + 6 + 6) 8) (c := 48 * w + 6 + 6 + 8) rfl (by omega)).2 z0, bd_s]
  rw [(m_passes_s5 (M := stB (stB (stB (stB B0 1 (48 * w) 6) 2 (48 * w + 6) 6) 3 (48 * w + 6 + 6) 8) 4 (48 * w + 6 + 6 + 8) 8) (c := 48 * w + 6 + 6 + 8 + 8) rfl (by omega)).2 z0, bd_s]
  rw [(m_passes_s6 (M := stB (stB (stB (stB (stB B0 1 (48 * w) 6) 2 (48 * w + 6) 6) 3 (48 * w + 6 + 6) 8) 4 (48 * w + 6 + 6 + 8) 8) 5 (48 * w + 6 + 6 + 8 + 8) 8) (c := 48 * w + 6 + 6 + 8 + 8 + 8) rfl (by omega)).2 z0, bd_s]
  generalize hN : stB (stB (stB (stB (stB (stB B0 1 (48 * w) 6) 2 (48 * w + 6) 6) 3 (48 * w + 6 + 6) 8) 4 (48 * w + 6 + 6 + 8) 8) 5 (48 * w + 6 + 6 + 8 + 8) 8) 6 (48 * w + 6 + 6 + 8 + 8 + 8) 8 = N
  have c1 : N.1 22 = nI (48 * w + 44) := by rw [← hN]; rfl
  have z1 : N.1 21 = 0 := by rw [← hN]; exact z0
  rw [(m_passOne c1 (by omega)).2 z1, bd_s, (m_passOne (M := pF (pF N 22 (nI (48 * w + 44 + 1))) 7 (N.2 19 (48 * w + 44))) (c := 48 * w + 44 + 1) rfl (by omega)).2 z1, bd_s]
  rw [(m_passOne (M := pF (pF (pF (pF N 22 (nI (48 * w + 44 + 1))) 7 (N.2 19 (48 * w + 44))) 22 (nI (48 * w + 44 + 1 + 1))) 8 ((pF (pF N 22 (nI (48 * w + 44 + 1))) 7 (N.2 19 (48 * w + 44))).2 19 (48 * w + 44 + 1))) (c := 48 * w + 44 + 1 + 1) rfl (by omega)).2 z1, bd_s]
  rw [(m_passOne (M := pF (pF (pF (pF (pF (pF N 22 (nI (48 * w + 44 + 1))) 7 (N.2 19 (48 * w + 44))) 22 (nI (48 * w + 44 + 1 + 1))) 8 ((pF (pF N 22 (nI (48 * w + 44 + 1))) 7 (N.2 19 (48 * w + 44))).2 19 (48 * w + 44 + 1))) 22 (nI (48 * w + 44 + 1 + 1 + 1))) 9 ((pF (pF (pF (pF N 22 (nI (48 * w + 44 + 1))) 7 (N.2 19 (48 * w + 44))) 22 (nI (48 * w + 44 + 1 + 1))) 8 ((pF (pF N 22 (nI (48 * w + 44 + 1))) 7 (N.2 19 (48 * w + 44))).2 19 (48 * w + 44 + 1))).2 19 (48 * w + 44 + 1 + 1))) (c := 48 * w + 44 + 1 + 1 + 1) rfl (by omega)).2 z1, bd_s]
  have hB2 : B0.2 = M.2 := by rw [← hB0]; rfl
  have n19 : N.2 19 = M.2 19 := by rw [← hN, ← hB2]; rfl
  refine ⟨_, rfl, fun k hk => ?_, fun k hk a b => ?_, ?_, ?_, ?_, ?_, ?_, ?_, ?_, ?_, ?_, ?_⟩
  · show N.2 k = M.2 k
    rw [← hN, ← hB2]
    show (if k = 6 then _ else if k = 5 then _ else if k = 4 then _ else if k = 3 then _ else if k = 2 then _ else if k = 1 then _ else B0.2 k) = B0.2 k
    rw [if_neg (by omega), if_neg (by omega), if_neg (by omega), if_neg (by omega), if_neg (by omega), if_neg (by omega)]
  · simp only [pF_1]
    rw [if_neg (by omega), if_neg b, if_neg (by omega), if_neg b, if_neg (by omega), if_neg b, if_neg (by omega), if_neg b, ← hN]
    show upd (upd (upd (upd (upd (upd B0.1 22 _) 22 _) 22 _) 22 _) 22 _) 22 _ k = _
    simp only [upd, if_neg b]
    rw [← hB0]
    simp only [pF_1, if_neg a, if_neg b]
  · show N.2 1 = _
    rw [← hN, ← hB2]; rfl
  · show N.2 2 = _
    rw [← hN, ← hB2]; rfl
  · show N.2 3 = _
    rw [← hN, ← hB2]; rfl
  · show N.2 4 = _
    rw [← hN, ← hB2]; rfl
  · show N.2 5 = _
    rw [← hN, ← hB2]; rfl
  · show N.2 6 = _
    rw [← hN, ← hB2]; rfl
  · show N.2 19 _ = _
    rw [n19]
  · show N.2 19 _ = _
    rw [n19]
  · show N.2 19 _ = _
    rw [n19]
  · show N.2 19 _ = _
    rw [n19]
