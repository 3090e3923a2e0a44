/-! what the town takes for the hour -/
def vh : (Nat → Nat) → Nat → Nat
  | _, 0 => 0
  | d, k + 1 => d 0 + 16 * vh (fun l => d (l + 1)) k
theorem vh_dig : ∀ (k j : Nat) (d : Nat → Nat), (∀ l, d l < 16) → j < k → vh d k / 16 ^ j % 16 = d j
  | 0, j, d, _, h => absurd h (Nat.not_lt_zero j)
  | k + 1, 0, d, hd, _ => by
    have := hd 0
    simp only [vh, Nat.pow_zero, Nat.div_one]
    omega
  | k + 1, j + 1, d, hd, h => by
    have := hd 0
    rw [Nat.pow_succ, Nat.mul_comm, ← Nat.div_div_eq_div_mul]
    have e : vh d (k + 1) / 16 = vh (fun l => d (l + 1)) k := by simp only [vh]; omega
    rw [e]
    exact vh_dig k j (fun l => d (l + 1)) (fun l => hd (l + 1)) (by omega)
theorem vh_add : ∀ (k j : Nat) (d : Nat → Nat), j < k → vh (fun l => d l + if l = j then 1 else 0) k = vh d k + 16 ^ j
  | 0, j, d, h => absurd h (Nat.not_lt_zero j)
  | k + 1, 0, d, _ => by
    simp only [vh, Nat.pow_zero, if_true]
    have e : (fun l => d (l + 1) + if l + 1 = 0 then 1 else 0) = fun l => d (l + 1) := by funext l; simp
    rw [e]; omega
  | k + 1, j + 1, d, h => by
    have ih := vh_add k j (fun l => d (l + 1)) (by omega)
    simp only [vh]
    have e : (fun l => d (l + 1) + if l + 1 = j + 1 then 1 else 0) = fun l => d (l + 1) + if l = j then 1 else 0 := by funext l; simp
    rw [e, ih, Nat.pow_succ]
    simp
    omega
theorem vh_0 : ∀ k, vh (fun _ => 0) k = 0
  | 0 => rfl
  | k + 1 => by simp only [vh, vh_0 k]
theorem vh_lt : ∀ (k : Nat) (d : Nat → Nat), (∀ l, d l < 16) → vh d k < 16 ^ k
  | 0, d, _ => by simp [vh]
  | k + 1, d, hd => by
    have h0 := hd 0
    have ih := vh_lt k (fun l => d (l + 1)) (fun l => hd (l + 1))
    simp only [vh, Nat.pow_succ]
    omega
/-- of those in A below n, how many are l hours late -/
def cl (T : Tw) (A : Nat → Bool) (n l : Nat) : Nat := ct (fun p => A p && decide (later T p = l)) n
def vo (T : Tw) (A : Nat → Bool) : Nat → Nat
  | 0 => 0
  | i + 1 => vo T A i + if A i = true then 16 ^ later T i else 0
theorem vo_vh {T : Tw} {A : Nat → Bool} : ∀ n, (∀ p, p < n → later T p ≤ 9) → vo T A n = vh (fun l => cl T A n l) 10
  | 0, _ => (vh_0 10).symm
  | n + 1, h => by
    have ih := vo_vh (A := A) n (fun p hp => h p (by omega))
    have hl := h n (by omega)
    simp only [vo, ih]
    cases q : A n with
    | false =>
      have e : (fun l => cl T A (n + 1) l) = fun l => cl T A n l := by funext l; simp [cl, ct, q]
      rw [e]; simp
    | true =>
      have e : (fun l => cl T A (n + 1) l) = fun l => cl T A n l + if l = later T n then 1 else 0 := by
        funext l
        simp only [cl, ct, q, Bool.true_and, decide_eq_true_eq]
        by_cases c : later T n = l
        · subst c; simp
        · have c' : ¬ l = later T n := fun z => c z.symm
          simp [c, c']
      rw [e, vh_add 10 (later T n) _ (by omega)]; simp
theorem cl_le (T : Tw) (A : Nat → Bool) (n l : Nat) : cl T A n l ≤ n := ct_le _ n
theorem sh16 : ∀ l, l < 10 → (1 : Int64) <<< (((4 : Int32) * nI l).toInt64 &&& 63) = lN (16 ^ l) := by decide +kernel
theorem sm16 : ∀ l, l < 10 → ((((4 : Int32) * nI l).toInt64 &&& 63).toBitVec.smod 64).toNat = 4 * l := by decide +kernel
theorem lNI {a : Nat} (h : a < 2 ^ 63) : (lN a).toInt = (a : Int) := pk_lT h
theorem lshr {a d : Nat} {D : Int64} (hD : (D.toBitVec.smod 64).toNat = d) (h : a < 2 ^ 62) : lN a >>> D = lN (a / 2 ^ d) := by
  apply Int64.toInt_inj.mp
  have hle : a / 2 ^ d ≤ a := Nat.div_le_self _ _
  rw [lNI (show a / 2 ^ d < 2 ^ 63 by omega)]
  show ((lN a >>> D).toBitVec).toInt = _
  rw [Int64.toBitVec_shiftRight, BitVec.toInt_sshiftRight', hD]
  show (lN a).toInt >>> d = _
  rw [lNI (by omega), Int.shiftRight_eq_div_pow]
  norm_cast
theorem dig16 {V l : Nat} (hV : V < 2 ^ 62) (hl : l < 10) : ((lN V >>> (((4 : Int32) * nI l).toInt64 &&& 63)).toInt32) &&& (15 : Int32) = nI (V / 16 ^ l % 16) := by
  rw [lshr (sm16 l hl) hV, lN_i, show (15 : Int32) = nI 15 from rfl, andN, show V / 2 ^ (4 * l) &&& 15 = V / 2 ^ (4 * l) % 16 from Nat.and_two_pow_sub_one_eq_mod _ 4, Nat.pow_mul]
/-- the hour with most voices, the least of such: as the reference goes through them -/
def bestH (c : Nat → Nat) : Nat → Nat
  | 0 => 0
  | n + 1 => if c (n + 1) ≤ c (bestH c n) then bestH c n else n + 1
theorem bestH_le (c : Nat → Nat) : ∀ n, bestH c n ≤ n
  | 0 => Nat.le_refl 0
  | n + 1 => by
    have := bestH_le c n
    simp only [bestH]
    split <;> omega
theorem bestH_max (c : Nat → Nat) : ∀ n h, h ≤ n → c h ≤ c (bestH c n)
  | 0, h, hh => by rw [Nat.le_zero.mp hh]; exact Nat.le_refl _
  | n + 1, h, hh => by
    simp only [bestH]
    rcases Nat.lt_or_ge h (n + 1) with z | z
    · have := bestH_max c n h (by omega)
      split <;> omega
    · have : h = n + 1 := by omega
      subst this
      split <;> omega
theorem bestH_first (c : Nat → Nat) : ∀ n h, h < bestH c n → c h < c (bestH c n)
  | 0, h, hh => absurd hh (Nat.not_lt_zero h)
  | n + 1, h, hh => by
    simp only [bestH] at hh ⊢
    by_cases q : c (n + 1) ≤ c (bestH c n)
    · rw [if_pos q] at hh ⊢
      exact bestH_first c n h hh
    · rw [if_neg q] at hh ⊢
      have := bestH_max c n h (by omega)
      omega
theorem bestH_eq {c : Nat → Nat} {n h : Nat} (hh : h ≤ n) (hm : ∀ k, k ≤ n → c k ≤ c h) (hf : ∀ k, k < h → c k < c h) : bestH c n = h := by
  have h1 := bestH_le c n
  have h2 := bestH_max c n h hh
  have h3 := hm (bestH c n) h1
  rcases Nat.lt_trichotomy (bestH c n) h with z | z | z
  · have := hf _ z; omega
  · exact z
  · have := bestH_first c n h z; omega
def ch (T : Tw) (A : Nat → Bool) (b h : Nat) : Nat := ct (fun p => A p && decide (sayH T p b = h)) (T 3 0)
/-- the answer of the town: none hears, or the hour -/
def saidI (T : Tw) (A : Nat → Bool) (b : Nat) : Int32 := if anyB A (T 3 0) = true then nI (bestH (ch T A b) 23) else -9
