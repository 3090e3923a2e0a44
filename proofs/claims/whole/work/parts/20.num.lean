/-! numbers, bits, states: what the pure part stands on -/
def bI (b : Bool) : Int32 := if b = true then 1 else 0
theorem bI_t : bI true = 1 := rfl
theorem bI_f : bI false = 0 := rfl
theorem bI_0 (b : Bool) : bI b = 0 ↔ b = false := by cases b <;> decide
theorem bI_1 (b : Bool) : bI b = 1 ↔ b = true := by cases b <;> decide
theorem bI_zb (b : Bool) : zb (bI b) = true := by cases b <;> decide
theorem ckn {i n : Nat} (h : i < n) (hn : n < 2147483648) : ck (nI i) n = true := in_ck (vp_in_nI h hn)
theorem cln {i : Nat} (h : i < 2147483648) : (nI i).toNatClampNeg = i := nI_clamp h
theorem eqL {a : Nat} (n : Nat) (ha : a < 2147483648) (hn : n < 2147483648) : nI a = nI n ↔ a = n := nI_eq ha hn
theorem nl0 : (0 : Int32) = nI 0 := rfl
theorem nl1 : (1 : Int32) = nI 1 := rfl
theorem nl2 : (2 : Int32) = nI 2 := rfl
theorem nl3 : (3 : Int32) = nI 3 := rfl
theorem nl4 : (4 : Int32) = nI 4 := rfl
theorem nl5 : (5 : Int32) = nI 5 := rfl
theorem nl6 : (6 : Int32) = nI 6 := rfl
theorem nl8 : (8 : Int32) = nI 8 := rfl
theorem nl9 : (9 : Int32) = nI 9 := rfl
theorem nl10 : (10 : Int32) = nI 10 := rfl
theorem nl20 : (20 : Int32) = nI 20 := rfl
theorem nl24 : (24 : Int32) = nI 24 := rfl
theorem nl31 : (31 : Int32) = nI 31 := rfl
theorem nl40 : (40 : Int32) = nI 40 := rfl
theorem nl48 : (48 : Int32) = nI 48 := rfl
theorem nl60 : (60 : Int32) = nI 60 := rfl
theorem nl99 : (99 : Int32) = nI 99 := rfl
theorem nl999 : (999 : Int32) = nI 999 := rfl
theorem sh1 : ∀ i, i < 31 → (1 : Int32) <<< (nI i &&& 31) = nI (2 ^ i) := by decide +kernel
theorem orN (a b : Nat) : nI a ||| nI b = nI (a ||| b) := by
  show Int32.ofNat a ||| Int32.ofNat b = Int32.ofNat (a ||| b)
  apply Int32.toBitVec_inj.mp
  simp
theorem andN (a b : Nat) : nI a &&& nI b = nI (a &&& b) := by
  show Int32.ofNat a &&& Int32.ofNat b = Int32.ofNat (a &&& b)
  apply Int32.toBitVec_inj.mp
  simp
theorem andm : ∀ i, i < 31 → ((nI i &&& 31).toBitVec.smod 32).toNat = i := by decide +kernel
theorem shrN {a i : Nat} (ha : a < 2147483648) (hi : i < 31) : nI a >>> (nI i &&& 31) = nI (a / 2 ^ i) := pk_shrN ha _ i (andm i hi)
theorem bitN {a i : Nat} (ha : a < 2147483648) (hi : i < 31) : (nI a >>> (nI i &&& 31)) &&& 1 = bI (a.testBit i) := by
  rw [shrN ha hi, nl1, andN, Nat.and_one_is_mod]
  rw [Nat.testBit_eq_decide_div_mod_eq]
  rcases Nat.mod_two_eq_zero_or_one (a / 2 ^ i) with h | h <;> rw [h] <;> rfl
theorem remN {a d : Nat} (ha : a < 2147483648) (h0 : 0 < d) (hd : d < 2147483648) : nI a - nI a / nI d * nI d = nI (a % d) := pk_rem ha h0 hd
/-! lists of yes and no -/
def anyB (f : Nat → Bool) : Nat → Bool
  | 0 => false
  | n + 1 => anyB f n || f n
def allB (f : Nat → Bool) : Nat → Bool
  | 0 => true
  | n + 1 => allB f n && f n
def mk (f : Nat → Bool) : Nat → Nat
  | 0 => 0
  | n + 1 => mk f n + (if f n = true then 2 ^ n else 0)
def ct (f : Nat → Bool) : Nat → Nat
  | 0 => 0
  | n + 1 => ct f n + (if f n = true then 1 else 0)
theorem anyB_iff (f : Nat → Bool) : ∀ n, anyB f n = true ↔ ∃ i, i < n ∧ f i = true
  | 0 => by simp [anyB]
  | n + 1 => by
    simp only [anyB, Bool.or_eq_true, anyB_iff f n]
    constructor
    · rintro (⟨i, h, q⟩ | q)
      · exact ⟨i, by omega, q⟩
      · exact ⟨n, by omega, q⟩
    · rintro ⟨i, h, q⟩
      rcases Nat.lt_or_ge i n with z | z
      · exact Or.inl ⟨i, z, q⟩
      · have : i = n := by omega
        subst this; exact Or.inr q
theorem allB_iff (f : Nat → Bool) : ∀ n, allB f n = true ↔ ∀ i, i < n → f i = true
  | 0 => by simp [allB]
  | n + 1 => by
    simp only [allB, Bool.and_eq_true, allB_iff f n]
    constructor
    · rintro ⟨h, q⟩ i hi
      rcases Nat.lt_or_ge i n with z | z
      · exact h i z
      · have : i = n := by omega
        subst this; exact q
    · intro h
      exact ⟨fun i hi => h i (by omega), h n (by omega)⟩
theorem anyB_not (f : Nat → Bool) (n : Nat) : anyB f n = false ↔ ∀ i, i < n → f i = false := by
  constructor
  · intro h i hi
    cases q : f i with
    | false => rfl
    | true => rw [(anyB_iff f n).mpr ⟨i, hi, q⟩] at h; cases h
  · intro h
    cases q : anyB f n with
    | false => rfl
    | true => obtain ⟨i, hi, z⟩ := (anyB_iff f n).mp q; rw [h i hi] at z; cases z
theorem mk_lt (f : Nat → Bool) : ∀ n, mk f n < 2 ^ n
  | 0 => by simp [mk]
  | n + 1 => by
    have h := mk_lt f n
    simp only [mk, Nat.pow_succ]
    split <;> omega
theorem mk_bit (f : Nat → Bool) : ∀ n i, (mk f n).testBit i = (decide (i < n) && f i)
  | 0, i => by simp [mk]
  | n + 1, i => by
    have h := mk_bit f n i
    have hl := mk_lt f n
    simp only [mk]
    by_cases q : f n = true
    · rw [if_pos q, Nat.add_comm, show 2 ^ n + mk f n = 2 ^ n * 1 + mk f n by omega, Nat.two_pow_add_eq_or_of_lt hl 1, Nat.mul_one, Nat.testBit_or, Nat.testBit_two_pow, h]
      by_cases e : n = i
      · subst e; simp [q]
      · rcases Nat.lt_or_ge i n with z | z
        · have : i < n + 1 := by omega
          simp [e, z, this]
        · have : ¬ i < n + 1 := by omega
          have z' : ¬ i < n := by omega
          simp [e, z', this]
    · rw [if_neg q, Nat.add_zero, h]
      have qf : f n = false := by cases z : f n with
        | false => rfl
        | true => exact absurd z q
      rcases Nat.lt_trichotomy i n with z | z | z
      · have : i < n + 1 := by omega
        simp [z, this]
      · subst z; simp [qf]
      · have a1 : ¬ i < n := by omega
        have a2 : ¬ i < n + 1 := by omega
        simp [a1, a2]
theorem mk_or (f : Nat → Bool) (n : Nat) : mk f n ||| 2 ^ n = mk f n + 2 ^ n := by
  rw [Nat.or_comm, show 2 ^ n = 2 ^ n * 1 by omega, ← Nat.two_pow_add_eq_or_of_lt (mk_lt f n) 1]; omega
theorem mk_0 (f : Nat → Bool) : ∀ n, mk f n = 0 ↔ anyB f n = false
  | 0 => by simp [mk, anyB]
  | n + 1 => by
    have h := mk_0 f n
    have hp : 0 < 2 ^ n := Nat.two_pow_pos n
    simp only [mk, anyB, Bool.or_eq_false_iff]
    cases q : f n <;> simp [← h] <;> omega
theorem ct_le (f : Nat → Bool) : ∀ n, ct f n ≤ n
  | 0 => Nat.le_refl 0
  | n + 1 => by
    have h := ct_le f n
    simp only [ct]
    split <;> omega
theorem ct_cong {f g : Nat → Bool} : ∀ n, (∀ i, i < n → f i = g i) → ct f n = ct g n
  | 0, _ => rfl
  | n + 1, h => by rw [ct, ct, ct_cong n (fun i hi => h i (by omega)), h n (by omega)]
theorem mk_cong {f g : Nat → Bool} : ∀ n, (∀ i, i < n → f i = g i) → mk f n = mk g n
  | 0, _ => rfl
  | n + 1, h => by rw [mk, mk, mk_cong n (fun i hi => h i (by omega)), h n (by omega)]
theorem anyB_cong {f g : Nat → Bool} : ∀ n, (∀ i, i < n → f i = g i) → anyB f n = anyB g n
  | 0, _ => rfl
  | n + 1, h => by rw [anyB, anyB, anyB_cong n (fun i hi => h i (by omega)), h n (by omega)]
theorem ct_ext (f : Nat → Bool) (n : Nat) : ∀ k, (∀ i, n ≤ i → f i = false) → ct f (n + k) = ct f n
  | 0, _ => rfl
  | k + 1, h => by rw [← Nat.add_assoc, ct, ct_ext f n k h, h (n + k) (by omega)]; rfl
/-- how many bits of the lowest eight are set -/
def pc8 (v : Nat) : Nat := ct v.testBit 8
theorem pc8_mk (f : Nat → Bool) {n : Nat} (hn : n ≤ 8) : pc8 (mk f n) = ct f n := by
  unfold pc8
  have h : (8 : Nat) = n + (8 - n) := by omega
  rw [h, ct_ext]
  · exact ct_cong n (fun i hi => by rw [mk_bit]; simp [hi])
  · intro i hi
    rw [mk_bit]
    have : ¬ i < n := by omega
    simp [this]
theorem jbits : ∀ v, v < 256 → f_J6_bitCount_0f7a4 (nI v) = some (nI (pc8 v), ()) := by decide +kernel
theorem mbits : ∀ v, v < 256 → f_X7_bits (nI v) = some (nI (pc8 v), ()) := by decide +kernel
/-! states -/
theorem bd_s {α β γ : Type} {x : α} {u : β} {k : α → β → Option γ} : bd (some (x, u)) k = k x u := rfl
theorem lt_s' {α β : Type} {x : α} {k : α → β} : lt x k = k x := rfl
theorem pF_1 (S : G) (k j : Nat) (v : Int32) : (pF S k v).1 j = if j = k then v else S.1 j := rfl
theorem pF_2 (S : G) (k : Nat) (v : Int32) : (pF S k v).2 = S.2 := rfl
theorem pA_1 (S : G) (k i : Nat) (v : Int32) : (pA S k i v).1 = S.1 := rfl
theorem pA_2 (S : G) (k i j : Nat) (v : Int32) : (pA S k i v).2 j = if j = k then upd (S.2 k) i v else S.2 j := rfl
theorem pC_1 (S : G) (k : Nat) (f : Nat → Int32) : (pC S k f).1 = S.1 := rfl
theorem pC_2 (S : G) (k j : Nat) (f : Nat → Int32) : (pC S k f).2 j = if j = k then f else S.2 j := rfl
theorem updE (f : Nat → Int32) (k j : Nat) (x : Int32) : upd f k x j = if j = k then x else f j := rfl
theorem ifb {α : Type} (b : Bool) (x y : α) : (if bI b = 0 then x else y) = if b = true then y else x := by cases b <;> rfl
theorem ifb1 {α : Type} (b : Bool) (x y : α) : (if bI b = 1 then x else y) = if b = true then x else y := by cases b <;> rfl
/-- a loop that counts up: it stops at N, or goes on with its invariant, or is done -/
theorem loopR {σ ρ : Type} (F : Nat → Nat → σ → ρ) (I : Nat → σ → Prop) (N : Nat) (Post : ρ → Prop) (stop : ∀ f s, I N s → Post (F (f + 1) N s))
    (step : ∀ f i s, i < N → I i s → Post (F (f + 1) i s) ∨ ∃ s', I (i + 1) s' ∧ F (f + 1) i s = F f (i + 1) s') : ∀ n i fuel s, i + n = N → n < fuel → I i s → Post (F fuel i s) := by
  intro n
  induction n with
  | zero =>
    intro i fuel s hi hf hI
    obtain ⟨f, rfl⟩ : ∃ f, fuel = f + 1 := ⟨fuel - 1, by omega⟩
    have : i = N := by omega
    subst this
    exact stop f s hI
  | succ n ih =>
    intro i fuel s hi hf hI
    obtain ⟨f, rfl⟩ : ∃ f, fuel = f + 1 := ⟨fuel - 1, by omega⟩
    rcases step f i s (by omega) hI with h | ⟨s', h1, h2⟩
    · exact h
    · rw [h2]
      exact ih (i + 1) f s' (by omega) (by omega) h1
/-- the same, where the state is a function of the count -/
theorem loopE {ρ : Type} (F : Nat → Nat → ρ) (N : Nat) (r : ρ) (stop : ∀ f, F (f + 1) N = r) (step : ∀ f i, i < N → F (f + 1) i = r ∨ F (f + 1) i = F f (i + 1)) (fuel i : Nat) (hi : i ≤ N) (hf : N - i < fuel) : F fuel i = r := by
  refine loopR (fun f i (_ : Unit) => F f i) (fun _ _ => True) N (fun x => x = r) (fun f _ _ => stop f) (fun f i _ h _ => ?_) (N - i) i fuel () (by omega) hf trivial
  rcases step f i h with q | q
  · exact Or.inl q
  · exact Or.inr ⟨(), trivial, q⟩
/-- the first yes below n; n if there is none -/
def fi (P : Nat → Bool) : Nat → Nat
  | 0 => 0
  | n + 1 => if fi P n < n then fi P n else if P n = true then n else n + 1
theorem fi_le (P : Nat → Bool) : ∀ n, fi P n ≤ n
  | 0 => Nat.le_refl 0
  | n + 1 => by
    have := fi_le P n
    simp only [fi]
    repeat' split
    all_goals omega
theorem fi_no (P : Nat → Bool) : ∀ n k, k < fi P n → P k = false
  | 0, k, h => absurd h (Nat.not_lt_zero k)
  | n + 1, k, h => by
    have hl := fi_le P n
    simp only [fi] at h
    split at h
    · exact fi_no P n k h
    · split at h
      · exact fi_no P n k (by omega)
      · rename_i h1 h2
        rcases Nat.lt_or_ge k n with z | z
        · exact fi_no P n k (by omega)
        · have : k = n := by omega
          subst this
          cases q : P k with
          | false => rfl
          | true => exact absurd q h2
theorem fi_yes (P : Nat → Bool) : ∀ n, fi P n < n → P (fi P n) = true
  | 0, h => absurd h (Nat.not_lt_zero _)
  | n + 1, h => by
    have hl := fi_le P n
    simp only [fi] at h ⊢
    split at h
    · rename_i h1
      rw [if_pos h1]
      exact fi_yes P n h1
    · rename_i h1
      rw [if_neg h1]
      split at h
      · rename_i h2
        rw [if_pos h2]; exact h2
      · omega
theorem fi_eq {P : Nat → Bool} {n k : Nat} (hk : k < n) (hP : P k = true) (hn : ∀ j, j < k → P j = false) : fi P n = k := by
  have h1 := fi_le P n
  rcases Nat.lt_trichotomy (fi P n) k with h | h | h
  · have := fi_yes P n (by omega)
    rw [hn _ h] at this; cases this
  · exact h
  · have := fi_no P n k h
    rw [hP] at this; cases this
theorem fi_none {P : Nat → Bool} {n : Nat} (hn : ∀ j, j < n → P j = false) : fi P n = n := by
  have h1 := fi_le P n
  rcases Nat.lt_or_ge (fi P n) n with h | h
  · have := fi_yes P n h
    rw [hn _ h] at this; cases this
  · omega
