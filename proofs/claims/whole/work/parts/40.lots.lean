/-! towns by lot -/
def lz (z : Int32) : Nat → Int32
  | 0 => z
  | i + 1 => lz z i * 1664525 + 1013904223
def lotN (z : Int32) : Nat := z.toBitVec.toNat % 2 ^ 31 / 256 % 20
theorem lotN_le (z : Int32) : lotN z ≤ 19 := by
  have : lotN z < 20 := Nat.mod_lt _ (by decide)
  omega
theorem lot_eq (z : Int32) : (z &&& (2147483647 : Int32)) / (256 : Int32) - (z &&& (2147483647 : Int32)) / (256 : Int32) / (20 : Int32) * (20 : Int32) = nI (lotN z) := by
  have h1 : z.toBitVec.toNat % 2 ^ 31 < 2 ^ 31 := Nat.mod_lt _ (by decide)
  have h2 : z.toBitVec.toNat % 2 ^ 31 / 256 < 2 ^ 31 := Nat.lt_of_le_of_lt (Nat.div_le_self _ _) h1
  rw [pk_and z (m := 2147483647) 31 (by decide), show (256 : Int32) = nI 256 from rfl, pk_div h1 (by decide) (by decide), nl20, pk_rem h2 (by decide) (by decide)]
  rfl
/-- those below i sleep by lot -/
def lotT (T : Tw) (z : Int32) (i : Nat) : Tw := fun k p => if k = 6 then (if p < i then lotN (lz z (p + 1)) else T k p) else T k p
theorem lotT_0 (T : Tw) (z : Int32) : lotT T z 0 = T := by
  funext k p
  unfold lotT
  split
  · rw [if_neg (by omega)]
  · rfl
theorem lotT_s (T : Tw) (z : Int32) (i : Nat) : lotT T z (i + 1) = st1 (lotT T z i) 6 i (lotN (lz z (i + 1))) := by
  funext k p
  unfold lotT st1
  by_cases e : k = 6
  · simp only [e, if_true]
    by_cases c : p = i
    · subst c; rw [if_pos (by omega), if_pos rfl]
    · rw [if_neg c]
      by_cases d : p < i
      · rw [if_pos (by omega), if_pos d]
      · rw [if_neg (by omega), if_neg d]
  · simp only [e, if_false]
def lotV (T : Tw) (w : Nat) : Nat := if w = 0 then ct (hsome T) (T 3 0) else sumS T (T 3 0)
def lotR (T : Tw) (w : Nat) (z : Int32) : Nat → Int32 × Int32
  | 0 => (z, 0)
  | i + 1 => (lz (lotR T w z i).1 (T 3 0), (lotR T w z i).2 + nI (lotV (dN 10 (lotT T (lotR T w z i).1 (T 3 0))) w))
theorem t_townsByLot {S U : G} {T : Tw} {n w : Nat} {z : Int32} (h : rT U T) (hn : n ≤ 20) (hw : w ≤ 1) : ∃ S', f_X1_townsByLot S U (nI n) z (bI (decide (w = 0))) = some ((lotR T w z n).2, (S', U)) := by
  have ok := h.2.2.2.2.2.2
  have h8 := ok.2.1
  unfold f_X1_townsByLot
  refine loopR (fun fuel i (s : G) => f_X1_townsByLot_9 fuel s U (nI n) (bI (decide (w = 0))) (lotR T w z i).1 (lotR T w z i).2 (nI i)) (fun _ _ => True) n (fun r => ∃ S', r = some ((lotR T w z n).2, (S', U))) (fun f s _ => ?_) (fun f i s hi _ => Or.inr ?_) n 0 1000 S (by omega) (by omega) trivial
  · show ∃ S', b_X1_townsByLot_9 _ s U _ _ _ _ _ = _
    unfold b_X1_townsByLot_9
    rw [if_pos (nI_le (Nat.le_refl _) (by omega))]
    exact ⟨s, rfl⟩
  · obtain ⟨u, e, hu⟩ := t_become (S := s) h
    have key := loopR (fun fuel p (s : G) => f_X1_townsByLot_26 (f_X1_townsByLot_9 f) fuel s U (nI n) (bI (decide (w = 0))) (lz (lotR T w z i).1 p) (lotR T w z i).2 (nI i) (nI p)) (fun p s => rT s (lotT T (lotR T w z i).1 p)) (T 3 0) (fun r => ∃ s', r = f_X1_townsByLot_9 f s' U (nI n) (bI (decide (w = 0))) (lotR T w z (i + 1)).1 (lotR T w z (i + 1)).2 (nI (i + 1))) (fun g s hs => ?_) (fun g p s hp hs => Or.inr ?_) (T 3 0) 0 1000 u (by omega) (by omega) (by rw [lotT_0]; exact hu)
    · obtain ⟨s', e2⟩ := key
      refine ⟨s', trivial, ?_⟩
      show b_X1_townsByLot_9 _ s U _ _ _ _ _ = _
      unfold b_X1_townsByLot_9
      rw [if_neg (nI_ge hi (by omega)), e, bd_s]
      exact e2
    · obtain ⟨v, e2, hv⟩ := t_pass hs (n := 10) (by decide)
      have hP : dN 10 (lotT T (lotR T w z i).1 (T 3 0)) 3 0 = T 3 0 := by rw [dN_k _ (by decide) (by decide) (by decide)]; rfl
      have hh := t_hearersOfSome hv
      have hsl := t_allSlept hv
      have hl := mk_lt (hsome (dN 10 (lotT T (lotR T w z i).1 (T 3 0)))) (dN 10 (lotT T (lotR T w z i).1 (T 3 0)) 3 0)
      have hpw : 2 ^ (T 3 0) ≤ 2 ^ 8 := Nat.pow_le_pow_right (by decide) h8
      rw [hP] at hl
      show ∃ s', b_X1_townsByLot_26 _ _ s U _ _ _ _ _ _ = _
      unfold b_X1_townsByLot_26
      rw [show s.1 3 = nI (T 3 0) from hs.2.1, if_pos (nI_le (Nat.le_refl _) (by omega)), nl10, e2, bd_s, ifb, hh, hsl, bd_s, bd_s, hP, jbits _ (by omega), bd_s, pc8_mk _ h8, nl1, nI_add]
      refine ⟨v, ?_⟩
      simp only [lotR, lotV, hP]
      rcases (show w = 0 ∨ w = 1 by omega) with rfl | rfl <;> simp
    · show ∃ s', _ ∧ b_X1_townsByLot_26 _ _ s U _ _ _ _ _ _ = _
      unfold b_X1_townsByLot_26
      rw [show s.1 3 = nI (T 3 0) from hs.2.1, if_neg (nI_ge hp (by omega)), lt_s', if_neg (by decide), if_neg (by decide), ckn (ok_p ok hp) (by decide), if_pos rfl, lt_s', cln (by omega), lot_eq, nl1, nI_add]
      refine ⟨_, ?_, rfl⟩
      rw [lotT_s]
      exact rT_st hs hp (k := 6) (v := lotN (lz (lotR T w z i).1 (p + 1))) (by have := lotN_le (lz (lotR T w z i).1 (p + 1)); omega)
theorem m_lots {M : G} {T : Tw} {n w : Nat} {z : Int32} (h : rM M T) (ho : rO M none) (hn : n ≤ 20) (hw : w ≤ 1) : ∃ N, f_X7_lots_27 M (nI n) z (nI w) 0 = some ((lotR T w z n).2, N) ∧ eqM 96 M N := by
  have ok := h.2.2.2.2.2.2
  have h8 := ok.2.1
  unfold f_X7_lots_27
  rw [if_pos rfl]
  refine loopR (fun fuel i (s : G) => f_X7_lots_48 fuel s (nI n) (nI w) (lotR T w z i).1 (lotR T w z i).2 (nI i)) (fun _ s => eqM 96 M s) n (fun r => ∃ N, r = some ((lotR T w z n).2, N) ∧ eqM 96 M N) (fun f s hs => ?_) (fun f i s hi hs => Or.inr ?_) n 0 1000 M (by omega) (by omega) (eqM.rf _ _)
  · refine ⟨s, ?_, hs⟩
    show b_X7_lots_48 _ s _ _ _ _ _ = _
    unfold b_X7_lots_48
    rw [if_pos (nI_le (Nat.le_refl _) (by omega))]
  · obtain ⟨N0, e0, k0, h0, o0⟩ := m_think (h.eq hs) (rO_eq ho hs)
    have key := loopR (fun fuel p (q : G) => f_X7_lots_61 (f_X7_lots_48 f) fuel q (nI n) (nI w) (lz (lotR T w z i).1 p) (lotR T w z i).2 (nI i) (nI p)) (fun p q => rM q (lotT T (lotR T w z i).1 p) ∧ frw 144 N0 q) (T 3 0) (fun r => ∃ s', r = f_X7_lots_48 f s' (nI n) (nI w) (lotR T w z (i + 1)).1 (lotR T w z (i + 1)).2 (nI (i + 1)) ∧ eqM 96 s s') (fun g q hq => ?_) (fun g p q hp hq => Or.inr ?_) (T 3 0) 0 1000 N0 (by omega) (by omega) ⟨by rw [lotT_0]; exact h0, frw.rf _ _⟩
    · obtain ⟨s', e2, z2⟩ := key
      refine ⟨s', hs.tr z2 (by decide) (by decide), ?_⟩
      show b_X7_lots_48 _ s _ _ _ _ _ = _
      unfold b_X7_lots_48
      rw [if_neg (nI_ge hi (by omega)), e0, bd_s]
      exact e2
    · obtain ⟨hq, hf⟩ := hq
      obtain ⟨v, e2, hv, f2⟩ := m_goesOn hq (n := 10) (by decide)
      have hf2 := hf.tr f2 (lim := 144) (by decide) (by decide)
      have hP : dN 10 (lotT T (lotR T w z i).1 (T 3 0)) 3 0 = T 3 0 := by rw [dN_k _ (by decide) (by decide) (by decide)]; rfl
      have hh := m_manyHear hv (rO_frw o0 hf2)
      rw [ct_cong (g := hsome (dN 10 (lotT T (lotR T w z i).1 (T 3 0)))) _ (fun p _ => hsO_none _ p)] at hh
      have hsl := m_allSlept hv
      obtain ⟨R, e3, z3⟩ := m_forgets k0 hf2
      show ∃ s', b_X7_lots_61 _ _ q _ _ _ _ _ _ = _ ∧ _
      unfold b_X7_lots_61 f_X7_lots_131
      rw [show q.1 8 = nI (T 3 0) from hq.2.1, if_pos (nI_le (Nat.le_refl _) (by omega)), nl10, e2, bd_s, hh, hsl, bd_s, bd_s, e3, bd_s, bd_s, hP, nl1, nI_add]
      refine ⟨R, ?_, z3⟩
      simp only [lotR, lotV, hP]
      rcases (show w = 0 ∨ w = 1 by omega) with rfl | rfl
      · rw [if_pos (show nI 0 = 0 from rfl)]; simp
      · rw [if_neg (by decide)]; simp
    · obtain ⟨hq, hf⟩ := hq
      show ∃ s', _ ∧ b_X7_lots_61 _ _ q _ _ _ _ _ _ = _
      unfold b_X7_lots_61
      rw [show q.1 8 = nI (T 3 0) from hq.2.1, if_neg (nI_ge hp (by omega)), lt_s', if_neg (by decide), if_neg (by decide), ckn (ok_p ok hp) (by decide), if_pos rfl, lt_s', cln (by omega), lot_eq, nl1, nI_add]
      refine ⟨_, ⟨?_, hf.tr (frw_pA (by decide) (ok_p ok hp)) (by decide) (by decide)⟩, rfl⟩
      rw [lotT_s]
      exact rM_st hq hp (k := 6) (j := 5) (v := lotN (lz (lotR T w z i).1 (p + 1))) (by have := lotN_le (lz (lotR T w z i).1 (p + 1)); omega)
