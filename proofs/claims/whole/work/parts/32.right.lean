/-! days on which a bell rings and is taken rightly -/
def tr (T : Tw) (b : Nat) : Bool := tru T (fun p => hears T p b) b
def good (T : Tw) (b : Nat) : Bool := rg T b && tr T b
def sumD (f : Nat → Nat) : Nat → Nat
  | 0 => 0
  | n + 1 => sumD f n + f n
theorem sumD_le {f : Nat → Nat} {c : Nat} (h : ∀ d, f d ≤ c) : ∀ n, sumD f n ≤ c * n
  | 0 => Nat.le_refl 0
  | n + 1 => by
    have := sumD_le h n
    have := h n
    simp only [sumD, Nat.mul_succ]
    omega
theorem sumD_cong {f g : Nat → Nat} : ∀ n, (∀ d, d < n → f d = g d) → sumD f n = sumD g n
  | 0, _ => rfl
  | n + 1, h => by rw [sumD, sumD, sumD_cong n (fun d hd => h d (by omega)), h n (by omega)]
/-- of the bells from f on, k of them, how many ring and are taken rightly -/
def gct (T : Tw) (f k : Nat) : Nat := ct (fun j => good T (f + j)) k
def rdays (T : Tw) (f k n : Nat) : Nat := sumD (fun d => gct (dN (d + 1) T) f k) n
theorem tr_none {T : Tw} {b : Nat} : tru T (fun p => hO none T p b) b = tr T b := by
  unfold tr
  rw [show (fun p => hO none T p b) = fun p => hears T p b from funext (fun p => hO_none T p b)]
theorem said_hears {T : Tw} {b : Nat} : saidI T (fun p => hO none T p b) b = saidI T (fun p => hears T p b) b := by
  rw [show (fun p => hO none T p b) = fun p => hears T p b from funext (fun p => hO_none T p b)]
theorem tru_bits {T : Tw} {b : Nat} {A : Nat → Bool} : saidI T (fun p => (mk A (T 3 0)).testBit p) b = saidI T A b := by
  have e : ∀ p, p < T 3 0 → (mk A (T 3 0)).testBit p = A p := fun p hp => by rw [mk_bit]; simp [hp]
  have e1 : anyB (fun p => (mk A (T 3 0)).testBit p) (T 3 0) = anyB A (T 3 0) := anyB_cong _ e
  have e2 : ch T (fun p => (mk A (T 3 0)).testBit p) b = ch T A b := by
    funext h
    unfold ch
    exact ct_cong _ (fun p hp => by show ((mk A (T 3 0)).testBit p && _) = _; rw [e p hp])
  unfold saidI
  rw [e1, e2]
theorem t_said {S : G} {T : Tw} {b : Nat} (h : rT S T) (hb : b < T 0 0) : f_X4_saidOf S (nI b) (nI (mk (fun p => hears T p b) (T 3 0))) = some (saidI T (fun p => hears T p b) b, S) := by
  have hl := mk_lt (fun p => hears T p b) (T 3 0)
  have hpw : 2 ^ (T 3 0) ≤ 2 ^ 8 := Nat.pow_le_pow_right (by decide) h.2.2.2.2.2.2.2.1
  rw [t_saidOf h hb (by omega), tru_bits]
theorem t_passCountingRight {S : G} {T : Tw} {f k n : Nat} (h : rT S T) (hk : f + k ≤ T 0 0) (hn : n ≤ 40) (hd : T 8 0 ≤ 2000) : ∃ S', f_X4_passCountingRight S (nI f) (nI (f + k)) (nI n) = some (nI (rdays T f k n), S') := by
  have h6 := h.2.2.2.2.2.2.1
  have hg : ∀ T : Tw, gct T f k ≤ 6 := fun T => by have : gct T f k ≤ k := ct_le _ k; omega
  have hr : ∀ i, i ≤ n → rdays T f k i ≤ 240 := fun i hi => by
    have := sumD_le (f := fun d => gct (dN (d + 1) T) f k) (c := 6) (fun d => hg _) i
    unfold rdays; omega
  unfold f_X4_passCountingRight
  show ∃ S', f_X4_passCountingRight_6 1000 S (nI f) (nI (f + k)) (nI n) 0 1 = _
  refine loopR (fun fuel i (s : G) => f_X4_passCountingRight_6 fuel s (nI f) (nI (f + k)) (nI n) (nI (rdays T f k i)) (nI (i + 1))) (fun i s => rT s (dN i T)) n (fun r => ∃ S', r = some (nI (rdays T f k n), S')) (fun fu s hs => ?_) (fun fu i s hi hs => Or.inr ?_) n 0 1000 S (by omega) (by omega) h
  · show ∃ S', b_X4_passCountingRight_6 _ s _ _ _ _ _ = _
    unfold b_X4_passCountingRight_6
    rw [if_pos (nI_lt (by omega) (by omega))]
    exact ⟨s, rfl⟩
  · obtain ⟨u, e, hu⟩ := t_pass1 hs
    have hu2 : rT u (dN (i + 1) T) := hu
    refine ⟨u, hu2, ?_⟩
    show b_X4_passCountingRight_6 _ s _ _ _ _ _ = _
    unfold b_X4_passCountingRight_6
    rw [if_neg (nI_nlt (by omega) (by omega)), e, bd_s]
    have hri := hr i (by omega)
    have hb0 : dN (i + 1) T 0 0 = T 0 0 := by rw [dN_k T (by decide) (by decide) (by decide)]
    have h80 : dN (i + 1) T 8 0 = T 8 0 + (i + 1) := dN_8 T (i + 1)
    have key := loopE (fun fuel j => f_X4_passCountingRight_20 (f_X4_passCountingRight_6 fu) fuel u (nI f) (nI (f + k)) (nI n) (nI (rdays T f k i + ct (fun j => good (dN (i + 1) T) (f + j)) j)) (nI (i + 1)) (nI (f + j))) k (f_X4_passCountingRight_6 fu u (nI f) (nI (f + k)) (nI n) (nI (rdays T f k (i + 1))) (nI (i + 1 + 1))) (fun g => ?_) (fun g j hj => Or.inr ?_) 1000 0 (by omega) (by omega)
    · exact key
    · show b_X4_passCountingRight_20 _ _ u _ _ _ _ _ _ = _
      unfold b_X4_passCountingRight_20
      rw [if_pos (nI_le (Nat.le_refl _) (by omega)), nl1, nI_add]
      rfl
    · show b_X4_passCountingRight_20 _ _ u _ _ _ _ _ _ = _
      unfold b_X4_passCountingRight_20
      have hbj : f + j < dN (i + 1) T 0 0 := by rw [hb0]; omega
      have ok := hu2.2.2.2.2.2.2
      rw [if_neg (nI_ge (by omega) (by omega)), t_isRinging hu2 hbj (by omega), bd_s, ifb, t_hearersOf hu2 hbj, bd_s, t_said hu2 hbj, bd_s, ckn (ok_b ok hbj) (by decide), if_pos rfl, cln (by omega), (hu2.2.2.2.2.1 _ hbj).1, nl1, nI_add, nI_add]
      have hse : (saidI (dN (i + 1) T) (fun p => hears (dN (i + 1) T) p (f + j)) (f + j) = nI (dN (i + 1) T 1 (f + j))) ↔ tr (dN (i + 1) T) (f + j) = true := said_eq ok hbj
      simp only [hse, ct]
      have hgd : good (dN (i + 1) T) (f + j) = (rg (dN (i + 1) T) (f + j) && tr (dN (i + 1) T) (f + j)) := rfl
      rw [show f + j + 1 = f + (j + 1) by omega]
      by_cases c1 : rg (dN (i + 1) T) (f + j) = true <;> by_cases c2 : tr (dN (i + 1) T) (f + j) = true <;> simp [c1, c2, hgd, Nat.add_assoc]
theorem m_allTrue {M : G} {T : Tw} {n : Nat} (h : rM M T) (ho : rO M none) (hn : n ≤ 40) (hd : T 8 0 ≤ 2000) : ∃ N, f_X7_allTrue M (nI n) = some (nI (rdays T 0 (T 0 0) n), N) ∧ eqM 96 M N := by
  have h6 := h.2.2.2.2.2.2.1
  obtain ⟨N0, e0, k0, h0, o0⟩ := m_think h ho
  unfold f_X7_allTrue
  rw [e0, bd_s]
  refine loopR (fun fuel i (s : G) => f_X7_allTrue_8 fuel s (nI n) (nI (rdays T 0 (T 0 0) i)) (nI i)) (fun i s => rM s (dN i T) ∧ frw 144 N0 s) n (fun r => ∃ N, r = some (nI (rdays T 0 (T 0 0) n), N) ∧ eqM 96 M N) (fun fu s hs => ?_) (fun fu i s hi hs => Or.inr ?_) n 0 1000 N0 (by omega) (by omega) ⟨h0, frw.rf _ _⟩
  · obtain ⟨R, e, q⟩ := m_forgets k0 hs.2
    refine ⟨R, ?_, q⟩
    show b_X7_allTrue_8 _ s _ _ _ = _
    unfold b_X7_allTrue_8
    rw [if_pos (nI_le (Nat.le_refl _) (by omega)), e, bd_s]
  · obtain ⟨hs, hf⟩ := hs
    obtain ⟨u, e, hu, hf2⟩ := m_goesDay hs
    have hu2 : rM u (dN (i + 1) T) := hu
    have hf3 := hf.tr hf2 (lim := 144) (by decide) (by decide)
    have ou := rO_frw o0 hf3
    refine ⟨u, ⟨hu2, hf3⟩, ?_⟩
    show b_X7_allTrue_8 _ s _ _ _ = _
    unfold b_X7_allTrue_8
    rw [if_neg (nI_ge (by omega) (by omega)), e, bd_s]
    have hb0 : dN (i + 1) T 0 0 = T 0 0 := by rw [dN_k T (by decide) (by decide) (by decide)]
    have h80 : dN (i + 1) T 8 0 = T 8 0 + (i + 1) := dN_8 T (i + 1)
    have key := loopE (fun fuel j => f_X7_allTrue_21 (f_X7_allTrue_8 fu) fuel u (nI n) (nI (rdays T 0 (T 0 0) i + ct (fun j => good (dN (i + 1) T) (0 + j)) j)) (nI i) (nI j)) (T 0 0) (f_X7_allTrue_8 fu u (nI n) (nI (rdays T 0 (T 0 0) (i + 1))) (nI (i + 1))) (fun g => ?_) (fun g j hj => Or.inr ?_) 1000 0 (by omega) (by omega)
    · exact key
    · show b_X7_allTrue_21 _ _ u _ _ _ _ = _
      unfold b_X7_allTrue_21
      rw [hu2.1, hb0, if_pos (nI_le (Nat.le_refl _) (by omega)), nl1, nI_add]
      rfl
    · show b_X7_allTrue_21 _ _ u _ _ _ _ = _
      unfold b_X7_allTrue_21
      have hbj : j < dN (i + 1) T 0 0 := by rw [hb0]; exact hj
      rw [hu2.1, hb0, if_neg (nI_ge (by omega) (by omega)), m_ringsNow hu2 hbj (by omega), bd_s, ifb, m_isTrue hu2 ou hbj, tr_none, bd_s, ifb, nl1, nl0, nI_add, nI_add, nI_add]
      simp only [ct]
      have hgd : good (dN (i + 1) T) j = (rg (dN (i + 1) T) j && tr (dN (i + 1) T) j) := rfl
      by_cases c1 : rg (dN (i + 1) T) j = true <;> by_cases c2 : tr (dN (i + 1) T) j = true <;> simp [c1, c2, hgd, Nat.add_assoc]
theorem gct_1 (T : Tw) (b : Nat) : gct T b 1 = if good T b = true then 1 else 0 := by
  simp [gct, ct]
/-- days on which it rings and nobody hears -/
def udays (T : Tw) (b n : Nat) : Nat := ct (fun d => rg (dN (d + 1) T) b && silent (dN (d + 1) T) b) n
def rgw (T : Tw) (b : Nat) (w : Bool) (d : Nat) : Bool := if w = true then good (dN (d + 1) T) b else (rg (dN (d + 1) T) b && silent (dN (d + 1) T) b)
theorem rdays_ct (T : Tw) (b : Nat) : ∀ n, rdays T b 1 n = ct (rgw T b true) n
  | 0 => rfl
  | n + 1 => by
    show rdays T b 1 n + gct (dN (n + 1) T) b 1 = ct (rgw T b true) n + _
    rw [rdays_ct T b n, gct_1]
    rfl
theorem m_ringing0 {M : G} {T : Tw} {b n : Nat} {w : Bool} (h : rM M T) (ho : rO M none) (hb : b < T 0 0) (hn : n ≤ 40) (hd : T 8 0 ≤ 2000) : ∃ N, f_X7_ringing M (nI b) (nI n) (bI w) = some (nI (ct (rgw T b w) n), N) ∧ eqM 96 M N := by
  obtain ⟨N0, e0, k0, h0, o0⟩ := m_think h ho
  unfold f_X7_ringing
  rw [e0, bd_s]
  refine loopR (fun fuel i (s : G) => f_X7_ringing_10 fuel s (nI b) (nI n) (bI w) (nI (ct (rgw T b w) i)) (nI i)) (fun i s => rM s (dN i T) ∧ frw 144 N0 s) n (fun r => ∃ N, r = some (nI (ct (rgw T b w) n), N) ∧ eqM 96 M N) (fun fu s hs => ?_) (fun fu i s hi hs => Or.inr ?_) n 0 1000 N0 (by omega) (by omega) ⟨h0, frw.rf _ _⟩
  · obtain ⟨R, e, q⟩ := m_forgets k0 hs.2
    refine ⟨R, ?_, q⟩
    show b_X7_ringing_10 _ s _ _ _ _ _ = _
    unfold b_X7_ringing_10
    rw [if_pos (nI_le (Nat.le_refl _) (by omega)), e, bd_s]
  · obtain ⟨hs, hf⟩ := hs
    obtain ⟨u, e, hu, hf2⟩ := m_goesDay hs
    have hu2 : rM u (dN (i + 1) T) := hu
    have hf3 := hf.tr hf2 (lim := 144) (by decide) (by decide)
    have ou := rO_frw o0 hf3
    refine ⟨u, ⟨hu2, hf3⟩, ?_⟩
    have hb0 : b < dN (i + 1) T 0 0 := by rw [dN_k T (by decide) (by decide) (by decide)]; exact hb
    have h80 : dN (i + 1) T 8 0 = T 8 0 + (i + 1) := dN_8 T (i + 1)
    have ew : rgw T b w i = if w = true then (rg (dN (i + 1) T) b && tr (dN (i + 1) T) b) else (rg (dN (i + 1) T) b && silent (dN (i + 1) T) b) := rfl
    show b_X7_ringing_10 _ s _ _ _ _ _ = _
    unfold b_X7_ringing_10
    rw [if_neg (nI_ge (by omega) (by omega)), e, bd_s, m_ringsNow hu2 hb0 (by omega), bd_s, ifb, ifb, m_hearers hu2 ou hb0, bd_s, m_isTrue hu2 ou hb0, tr_none, bd_s, ifb, nl1, nI_add, nI_add, show nI (ct (rgw T b w) i) + (0 : Int32) = nI (ct (rgw T b w) i) from nI_add _ 0]
    simp only [silent_mk hu2.2.2.2.2.2.2, ct, ew]
    cases w <;> by_cases c1 : rg (dN (i + 1) T) b = true <;> by_cases c2 : tr (dN (i + 1) T) b = true <;> by_cases c3 : silent (dN (i + 1) T) b = true <;> simp [c1, c2, c3]
theorem m_ringing {M : G} {T : Tw} {b n : Nat} {w : Bool} (h : rM M T) (ho : rO M none) (hb : b < T 0 0) (hn : n ≤ 40) (hd : T 8 0 ≤ 2000) : ∃ N, f_X7_ringing M (nI b) (nI n) (bI w) = some (nI (if w = true then rdays T b 1 n else udays T b n), N) ∧ eqM 96 M N := by
  obtain ⟨N, e, q⟩ := m_ringing0 (w := w) h ho hb hn hd
  refine ⟨N, ?_, q⟩
  rw [e]
  cases w with
  | true => rw [if_pos rfl, rdays_ct]
  | false => rw [if_neg (by decide)]; rfl
theorem t_rightDays {S U : G} {T : Tw} {b n : Nat} (h : rT U T) (hb : b < T 0 0) (hn : n ≤ 40) (hd : T 8 0 ≤ 2000) : ∃ S', f_X1_rightDays S U (nI b) (nI n) = some (nI (rdays T b 1 n), (S', U)) := by
  obtain ⟨u, e, hu⟩ := t_become (S := S) h
  obtain ⟨v, e2⟩ := t_passCountingRight hu (f := b) (k := 1) (n := n) (by omega) hn hd
  refine ⟨v, ?_⟩
  unfold f_X1_rightDays
  rw [e, bd_s, nl1, nI_add, e2, bd_s]
theorem t_unheardDays {S U : G} {T : Tw} {b n : Nat} (h : rT U T) (hb : b < T 0 0) (hn : n ≤ 40) (hd : T 8 0 ≤ 2000) : ∃ S', f_X1_unheardDays S U (nI b) (nI n) = some (nI (udays T b n), (S', U)) := by
  obtain ⟨u, e, hu⟩ := t_become (S := S) h
  unfold f_X1_unheardDays
  rw [e, bd_s]
  show ∃ S', f_X1_unheardDays_14 1000 u U (nI b) (nI n) 0 1 = _
  refine loopR (fun fuel i (s : G) => f_X1_unheardDays_14 fuel s U (nI b) (nI n) (nI (udays T b i)) (nI (i + 1))) (fun i s => rT s (dN i T)) n (fun r => ∃ S', r = some (nI (udays T b n), (S', U))) (fun fu s hs => ?_) (fun fu i s hi hs => Or.inr ?_) n 0 1000 u (by omega) (by omega) hu
  · show ∃ S', b_X1_unheardDays_14 _ s U _ _ _ _ = _
    unfold b_X1_unheardDays_14
    rw [if_pos (nI_lt (by omega) (by omega))]
    exact ⟨s, rfl⟩
  · obtain ⟨v, e2, hv⟩ := t_pass1 hs
    have hv2 : rT v (dN (i + 1) T) := hv
    refine ⟨v, hv2, ?_⟩
    have hb0 : b < dN (i + 1) T 0 0 := by rw [dN_k T (by decide) (by decide) (by decide)]; exact hb
    have h80 : dN (i + 1) T 8 0 = T 8 0 + (i + 1) := dN_8 T (i + 1)
    have h8 := hv2.2.2.2.2.2.2.2.1
    have eu : udays T b (i + 1) = udays T b i + (if (rg (dN (i + 1) T) b && silent (dN (i + 1) T) b) = true then 1 else 0) := rfl
    have hsil : silent (dN (i + 1) T) b = !(anyB (fun p => hears (dN (i + 1) T) p b) (dN (i + 1) T 3 0)) := rfl
    show b_X1_unheardDays_14 _ s U _ _ _ _ = _
    unfold b_X1_unheardDays_14
    rw [if_neg (nI_nlt (by omega) (by omega)), e2, bd_s, t_isRinging hv2 hb0 (by omega), bd_s, ifb, t_hearersOf hv2 hb0, bd_s, nl1, nI_add, nI_add, eu, hsil]
    simp only [mk_nz h8]
    by_cases c1 : rg (dN (i + 1) T) b = true <;> cases c2 : anyB (fun p => hears (dN (i + 1) T) p b) (dN (i + 1) T 3 0) <;> simp [c1]
