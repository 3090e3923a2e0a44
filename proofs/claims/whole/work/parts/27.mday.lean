/-! the reference's days; what it leaves as it was -/
def frw (lim : Nat) (M N : G) : Prop := (∀ k, k < 1 ∨ 6 < k → k ≠ 19 → N.2 k = M.2 k) ∧ (∀ i, 6 ≤ i → N.2 1 i = M.2 1 i ∧ N.2 2 i = M.2 2 i) ∧ (∀ i, 8 ≤ i → N.2 3 i = M.2 3 i ∧ N.2 4 i = M.2 4 i ∧ N.2 5 i = M.2 5 i ∧ N.2 6 i = M.2 6 i) ∧ (∀ k, k < 7 ∨ 10 < k → k ≠ 21 → k ≠ 22 → N.1 k = M.1 k) ∧ (∀ j, j < lim → N.2 19 j = M.2 19 j)
def eqM (lim : Nat) (M N : G) : Prop := (∀ k, k ≠ 19 → N.2 k = M.2 k) ∧ (∀ k, k ≠ 21 → k ≠ 22 → N.1 k = M.1 k) ∧ (∀ j, j < lim → N.2 19 j = M.2 19 j)
theorem frw.rf (lim : Nat) (M : G) : frw lim M M := ⟨fun _ _ _ => rfl, fun _ _ => ⟨rfl, rfl⟩, fun _ _ => ⟨rfl, rfl, rfl, rfl⟩, fun _ _ _ _ => rfl, fun _ _ => rfl⟩
theorem frw.tr {a b lim : Nat} {M N O : G} (h : frw a M N) (g : frw b N O) (ha : lim ≤ a) (hb : lim ≤ b) : frw lim M O := by
  obtain ⟨h1, h2, h3, h4, h5⟩ := h
  obtain ⟨g1, g2, g3, g4, g5⟩ := g
  refine ⟨fun k a b => (g1 k a b).trans (h1 k a b), fun i hi => ⟨(g2 i hi).1.trans (h2 i hi).1, (g2 i hi).2.trans (h2 i hi).2⟩, fun i hi => ?_, fun k a b c => (g4 k a b c).trans (h4 k a b c), fun j hj => (g5 j (by omega)).trans (h5 j (by omega))⟩
  obtain ⟨x1, x2, x3, x4⟩ := h3 i hi
  obtain ⟨y1, y2, y3, y4⟩ := g3 i hi
  exact ⟨y1.trans x1, y2.trans x2, y3.trans x3, y4.trans x4⟩
theorem eqM.rf (lim : Nat) (M : G) : eqM lim M M := ⟨fun _ _ => rfl, fun _ _ _ => rfl, fun _ _ => rfl⟩
theorem eqM.tr {a b lim : Nat} {M N O : G} (h : eqM a M N) (g : eqM b N O) (ha : lim ≤ a) (hb : lim ≤ b) : eqM lim M O :=
  ⟨fun k hk => (g.1 k hk).trans (h.1 k hk), fun k a b => (g.2.1 k a b).trans (h.2.1 k a b), fun j hj => (g.2.2 j (by omega)).trans (h.2.2 j (by omega))⟩
theorem eqM.le {a lim : Nat} {M N : G} (h : eqM a M N) (hl : lim ≤ a) : eqM lim M N := ⟨h.1, h.2.1, fun j hj => h.2.2 j (by omega)⟩
theorem eqM.frw {lim : Nat} {M N : G} (h : eqM lim M N) : frw lim M N := by
  refine ⟨fun k _ hk => h.1 k hk, fun i _ => ⟨by rw [h.1 1 (by decide)], by rw [h.1 2 (by decide)]⟩, fun i _ => ⟨by rw [h.1 3 (by decide)], by rw [h.1 4 (by decide)], by rw [h.1 5 (by decide)], by rw [h.1 6 (by decide)]⟩, fun k _ a b => h.2.1 k a b, h.2.2⟩
theorem rM.eq {M N : G} {T : Tw} {lim : Nat} (h : rM M T) (e : eqM lim M N) : rM N T := by
  obtain ⟨a, b, c, d, f, g, ok⟩ := h
  refine ⟨by rw [e.2.1 7 (by decide) (by decide)]; exact a, by rw [e.2.1 8 (by decide) (by decide)]; exact b, by rw [e.2.1 9 (by decide) (by decide)]; exact c, by rw [e.2.1 10 (by decide) (by decide)]; exact d, fun q hq => ?_, fun q hq => ?_, ok⟩
  · rw [e.1 1 (by decide), e.1 2 (by decide)]; exact f q hq
  · rw [e.1 3 (by decide), e.1 4 (by decide), e.1 5 (by decide), e.1 6 (by decide)]; exact g q hq
theorem PK.eqM {M N : G} {w : Nat} (h : PK M (48 * w) 48 N) : eqM (48 * w) M N := by
  refine ⟨h.1, h.2.1, fun j hj => ?_⟩
  rw [h.2.2.2.2, put_out (by omega)]
/-- kept, changed within its rows, put back: all is as it was, but for what lies behind -/
theorem restored {M N O R : G} {w lim : Nat} (h : PK M (48 * w) 48 N) (f : frw lim N O) (hl : 48 * w + 48 ≤ lim) (b : PBk O (48 * w) R) : eqM (48 * w) M R := by
  obtain ⟨h1, h2, h3, h4, h5⟩ := h
  obtain ⟨f1, f2, f3, f4, f5⟩ := f
  obtain ⟨b1, b2, p1, p2, p3, p4, p5, p6, q7, q8, q9, q10⟩ := b
  have kp : ∀ j, j < 48 → O.2 19 (48 * w + j) = snap M j := fun j hj => by
    rw [f5 _ (by omega), h5, put_in (by omega) (by omega), show 48 * w + j - 48 * w = j by omega]
  refine ⟨fun k hk => ?_, fun k a c => ?_, fun j hj => ?_⟩
  · by_cases e : k < 1 ∨ 6 < k
    · rw [b1 k e, f1 k e hk, h1 k hk]
    · have e6 : k = 1 ∨ k = 2 ∨ k = 3 ∨ k = 4 ∨ k = 5 ∨ k = 6 := by omega
      funext i
      rcases e6 with rfl | rfl | rfl | rfl | rfl | rfl
      · rw [p1]
        rcases Nat.lt_or_ge i 6 with z | z
        · rw [put_in (by omega) (by omega), Nat.sub_zero, kp i (by omega)]
          unfold snap
          rw [if_pos z]
        · rw [put_out (by omega), (f2 i z).1, h1 1 (by decide)]
      · rw [p2]
        rcases Nat.lt_or_ge i 6 with z | z
        · rw [put_in (by omega) (by omega), Nat.sub_zero, Nat.add_assoc, kp (6 + i) (by omega)]
          unfold snap
          rw [if_neg (by omega), if_pos (by omega), show 6 + i - 6 = i by omega]
        · rw [put_out (by omega), (f2 i z).2, h1 2 (by decide)]
      · rw [p3]
        rcases Nat.lt_or_ge i 8 with z | z
        · rw [put_in (by omega) (by omega), Nat.sub_zero, Nat.add_assoc, kp (12 + i) (by omega)]
          unfold snap
          rw [if_neg (by omega), if_neg (by omega), if_pos (by omega), show 12 + i - 12 = i by omega]
        · rw [put_out (by omega), (f3 i z).1, h1 3 (by decide)]
      · rw [p4]
        rcases Nat.lt_or_ge i 8 with z | z
        · rw [put_in (by omega) (by omega), Nat.sub_zero, Nat.add_assoc, kp (20 + i) (by omega)]
          unfold snap
          rw [if_neg (by omega), if_neg (by omega), if_neg (by omega), if_pos (by omega), show 20 + i - 20 = i by omega]
        · rw [put_out (by omega), (f3 i z).2.1, h1 4 (by decide)]
      · rw [p5]
        rcases Nat.lt_or_ge i 8 with z | z
        · rw [put_in (by omega) (by omega), Nat.sub_zero, Nat.add_assoc, kp (28 + i) (by omega)]
          unfold snap
          rw [if_neg (by omega), if_neg (by omega), if_neg (by omega), if_neg (by omega), if_pos (by omega), show 28 + i - 28 = i by omega]
        · rw [put_out (by omega), (f3 i z).2.2.1, h1 5 (by decide)]
      · rw [p6]
        rcases Nat.lt_or_ge i 8 with z | z
        · rw [put_in (by omega) (by omega), Nat.sub_zero, Nat.add_assoc, kp (36 + i) (by omega)]
          unfold snap
          rw [if_neg (by omega), if_neg (by omega), if_neg (by omega), if_neg (by omega), if_neg (by omega), if_pos (by omega), show 36 + i - 36 = i by omega]
        · rw [put_out (by omega), (f3 i z).2.2.2, h1 6 (by decide)]
  · by_cases e : k < 7 ∨ 10 < k
    · rw [b2 k e a c, f4 k e a c, h2 k a c]
    · have e4 : k = 7 ∨ k = 8 ∨ k = 9 ∨ k = 10 := by omega
      rcases e4 with rfl | rfl | rfl | rfl
      · rw [q7, kp 44 (by omega)]; rfl
      · rw [q8, kp 45 (by omega)]; rfl
      · rw [q9, kp 46 (by omega)]; rfl
      · rw [q10, kp 47 (by omega)]; rfl
  · rw [b1 19 (by omega), f5 j (by omega), h5, put_out (by omega)]
theorem m_thinks (M : G) : ∃ N, f_X7_thinks M = some ((), N) ∧ PK M 96 48 N := by
  obtain ⟨N, h, k⟩ := m_keep M (w := 2) (by decide)
  refine ⟨N, ?_, k⟩
  unfold f_X7_thinks
  rw [nl2, h, bd_s]
theorem m_forgets {M N O : G} (h : PK M 96 48 N) (f : frw 144 N O) : ∃ R, f_X7_forgets O = some ((), R) ∧ eqM 96 M R := by
  obtain ⟨R, e, b⟩ := m_back O (w := 2) (by decide)
  refine ⟨R, ?_, restored (w := 2) h f (by decide) b⟩
  unfold f_X7_forgets
  rw [nl2, e, bd_s]
theorem m_changes (M : G) : ∃ N, f_X7_changes M = some ((), N) ∧ PK M 48 48 N := by
  obtain ⟨N, h, k⟩ := m_keep M (w := 1) (by decide)
  refine ⟨N, ?_, k⟩
  unfold f_X7_changes
  rw [nl1] at *
  rw [h, bd_s]
theorem m_changesBack {M N O : G} (h : PK M 48 48 N) (f : frw 96 N O) : ∃ R, f_X7_changesBack O = some ((), R) ∧ eqM 48 M R := by
  obtain ⟨R, e, b⟩ := m_back O (w := 1) (by decide)
  refine ⟨R, ?_, restored (w := 1) h f (by decide) b⟩
  unfold f_X7_changesBack
  rw [nl1] at *
  rw [e, bd_s]
/-! a day -/
theorem heldsub {s d : Nat} (hs : s ≤ 99) (hd : d ≤ 2) : f_X7_held (nI s - nI d) 0 99 = some (nI (s - d), ()) := by
  unfold f_X7_held
  rcases Nat.lt_or_ge s d with z | z
  · have hneg := pk_sneg (a := s) (b := d) (by omega) z
    rw [if_neg (fun q => Int32.lt_irrefl (Int32.lt_of_le_of_lt q hneg)), show s - d = 0 by omega]; rfl
  · rw [pk_sub z, if_pos (show (0 : Int32) ≤ nI (s - d) from nI_pos' (by omega)), nl99, if_pos (nI_le (by omega) (by decide))]
theorem heldadd {s : Nat} (hs : s ≤ 99) : f_X7_held (nI s + 1) 0 99 = some (nI (min 99 (s + 1)), ()) := by
  unfold f_X7_held
  rw [nl1, nI_add, if_pos (show (0 : Int32) ≤ nI (s + 1) from nI_pos' (by omega)), nl99]
  by_cases z : s + 1 ≤ 99
  · rw [if_pos (nI_le z (by decide)), show min 99 (s + 1) = s + 1 by omega]
  · rw [if_neg (nI_ge (by omega) (by omega)), show min 99 (s + 1) = 99 by omega]
def relM (M : G) (T : Tw) : Prop := M.1 7 = nI (T 0 0) ∧ M.1 8 = nI (T 3 0) ∧ M.1 9 = nI (T 8 0) ∧ M.1 10 = nI (T 9 0) ∧ (∀ b, b < T 0 0 → M.2 1 b = nI (T 1 b) ∧ M.2 2 b = nI (T 2 b)) ∧ (∀ p, p < T 3 0 → M.2 3 p = nI (T 4 p) ∧ M.2 4 p = nI (T 5 p) ∧ M.2 5 p = nI (T 6 p) ∧ M.2 6 p = nI (T 7 p))
theorem rM_rel {M : G} {T : Tw} (h : rM M T) : relM M T := ⟨h.1, h.2.1, h.2.2.1, h.2.2.2.1, h.2.2.2.2.1, h.2.2.2.2.2.1⟩
theorem rel_rM {M : G} {T : Tw} (h : relM M T) (ok : okT T) : rM M T := ⟨h.1, h.2.1, h.2.2.1, h.2.2.2.1, h.2.2.2.2.1, h.2.2.2.2.2, ok⟩
theorem m_sleepsOne {M : G} {T : Tw} {i : Nat} (ok : okT T) (hi : i < T 3 0) (h : relM M (mixT 1 i T)) : ∃ N, f_X7_sleepsOne M (nI i) (nI (here T i)) = some ((), N) ∧ relM N (mixT 1 (i + 1) T) ∧ frw 144 M N := by
  obtain ⟨r0, r3, r8, r9, rb, rp⟩ := h
  obtain ⟨p4, p5, p6, p7⟩ := rp i hi
  have e6 : mixT 1 i T 6 i = T 6 i := by show (if i < i then _ else _) = _; rw [if_neg (by omega)]
  have e7 : mixT 1 i T 7 i = T 7 i := by show (if i < i then _ else _) = _; rw [if_neg (by omega)]
  rw [e6] at p6
  rw [e7] at p7
  obtain ⟨o4, o5, o6, o7⟩ := ok.2.2.2.2.2 i hi
  have hi8 : i < 8 := ok_p ok hi
  have hh : here T i ≤ i := ct_le _ _
  have h9 := ok.2.2.2.1
  have fin : ∀ u : G, u.1 = M.1 → (∀ k, k ≠ 5 → k ≠ 6 → u.2 k = M.2 k) → (∀ p, u.2 5 p = if p = i then nI (sln 1 T i) else M.2 5 p) → (∀ p, u.2 6 p = if p = i then nI (T 7 i - 1) else M.2 6 p) → relM u (mixT 1 (i + 1) T) ∧ frw 144 M u := by
    intro u h1 h2 h5 h6
    refine ⟨⟨by rw [h1]; exact r0, by rw [h1]; exact r3, by rw [h1]; exact r8, by rw [h1]; exact r9, fun b hb => ?_, fun p hp => ?_⟩, fun k a b => h2 k (by omega) (by omega), fun j hj => ?_, fun j hj => ?_, fun k _ _ _ => by rw [h1], fun j _ => by rw [h2 19 (by decide) (by decide)]⟩
    · rw [h2 1 (by decide) (by decide), h2 2 (by decide) (by decide)]; exact rb b hb
    · obtain ⟨z4, z5, z6, z7⟩ := rp p hp
      rw [h2 3 (by decide) (by decide), h2 4 (by decide) (by decide), h5, h6]
      refine ⟨z4, z5, ?_, ?_⟩
      · show _ = nI (if p < i + 1 then sln 1 T p else T 6 p)
        by_cases e : p = i
        · subst e; rw [if_pos rfl, if_pos (by omega)]
        · rw [if_neg e, z6]
          show nI (if p < i then _ else _) = _
          by_cases c : p < i
          · rw [if_pos c, if_pos (by omega)]
          · rw [if_neg c, if_neg (by omega)]
      · show _ = nI (if p < i + 1 then T 7 p - 1 else T 7 p)
        by_cases e : p = i
        · subst e; rw [if_pos rfl, if_pos (by omega)]
        · rw [if_neg e, z7]
          show nI (if p < i then _ else _) = _
          by_cases c : p < i
          · rw [if_pos c, if_pos (by omega)]
          · rw [if_neg c, if_neg (by omega)]
    · rw [h2 1 (by decide) (by decide), h2 2 (by decide) (by decide)]; exact ⟨rfl, rfl⟩
    · rw [h2 3 (by decide) (by decide), h2 4 (by decide) (by decide), h5, h6, if_neg (by omega), if_neg (by omega)]; exact ⟨rfl, rfl, rfl, rfl⟩
  unfold f_X7_sleepsOne
  rw [ckn hi8 (by decide), cln (by omega), p6, p7]
  simp only [if_true, lt_s']
  by_cases c7 : T 7 i = 0
  · rw [if_pos (show nI (T 7 i) ≤ 0 by rw [c7]; decide), show M.1 10 = nI (T 9 0) from r9]
    have a7 : ∀ (v : Int32) (p : Nat), (pA M 5 i v).2 6 p = if p = i then nI (T 7 i - 1) else M.2 6 p := by
      intro v p
      show M.2 6 p = _
      by_cases e : p = i
      · subst e; rw [if_pos rfl, p7, c7]
      · rw [if_neg e]
    by_cases cf : here T i < T 9 0
    · rw [if_neg (nI_ge cf (by omega))]
      unfold f_X7_sleepsOne_74
      rw [heldadd o6, bd_s, ckn hi8 (by decide), cln (by omega), if_pos rfl, lt_s']
      refine ⟨_, rfl, fin _ rfl (fun k a b => by rw [pA_2, if_neg a]) (fun p => ?_) (a7 _)⟩
      rw [pA_2, if_pos rfl, updE]
      unfold sln
      rw [if_pos c7, if_pos cf]
    · rw [if_pos (nI_le (by omega) (by omega))]
      unfold f_X7_sleepsOne_74
      rw [nl1, heldsub o6 (by decide), bd_s, ckn hi8 (by decide), cln (by omega), if_pos rfl, lt_s']
      refine ⟨_, rfl, fin _ rfl (fun k a b => by rw [pA_2, if_neg a]) (fun p => ?_) (a7 _)⟩
      rw [pA_2, if_pos rfl, updE]
      unfold sln
      rw [if_pos c7, if_neg cf]
  · have e5 : (pA M 6 i (nI (T 7 i) - 1)).2 5 i = nI (T 6 i) := p6
    rw [if_neg (show ¬ nI (T 7 i) ≤ 0 from nI_nle (by omega) (by omega)), e5, nl2, heldsub o6 (by decide), bd_s]
    refine ⟨_, rfl, fin _ rfl (fun k a b => by rw [pA_2, if_neg a, pA_2, if_neg b]) (fun p => ?_) (fun p => ?_)⟩
    · rw [pA_2, if_pos rfl, updE]
      unfold sln
      rw [if_neg c7]; rfl
    · rw [pA_2, if_neg (by decide), pA_2, if_pos rfl, updE, nl1, pk_sub (by omega)]
theorem m_goesDay {M : G} {T : Tw} (h : rM M T) : ∃ N, f_X7_goesDay M 0 = some ((), N) ∧ rM N (d1 T) ∧ frw 144 M N := by
  have ok := h.2.2.2.2.2.2
  have h8 := ok.2.1
  unfold f_X7_goesDay
  rw [lt_s']
  refine loopR (fun fuel i (s : G) => f_X7_goesDay_14 fuel s 0 (nI (here T i)) (nI i)) (fun i s => relM s (mixT 1 i T) ∧ frw 144 M s) (T 3 0) (fun r => ∃ N, r = some ((), N) ∧ rM N (d1 T) ∧ frw 144 M N) (fun f s hs => ?_) (fun f i s hi hs => Or.inr ?_) (T 3 0) 0 1000 (pF M 9 ((M.1 9) + 1)) (by omega) (by omega) ?_
  · obtain ⟨hs, hf⟩ := hs
    refine ⟨s, ?_, rel_rM ⟨hs.1, hs.2.1, hs.2.2.1, hs.2.2.2.1, hs.2.2.2.2.1, fun p hp => ?_⟩ (ok_alike 1 ok), hf⟩
    · show b_X7_goesDay_14 _ s _ _ _ = _
      unfold b_X7_goesDay_14
      rw [show s.1 8 = nI (T 3 0) from hs.2.1, if_pos (nI_le (Nat.le_refl _) (by omega))]
    · have hp' : p < T 3 0 := hp
      obtain ⟨z4, z5, z6, z7⟩ := hs.2.2.2.2.2 p hp
      refine ⟨z4, z5, ?_, ?_⟩
      · rw [z6]
        show nI (if p < T 3 0 then _ else _) = nI (if p < T 3 0 then _ else _)
        rw [if_pos hp']
      · rw [z7]
        show nI (if p < T 3 0 then _ else _) = nI (if p < T 3 0 then _ else _)
        rw [if_pos hp']
  · obtain ⟨hs, hf⟩ := hs
    obtain ⟨N, h1, h2, h3⟩ := m_sleepsOne ok hi hs
    have p7 : s.2 6 i = nI (T 7 i) := by
      have z := (hs.2.2.2.2.2 i hi).2.2.2
      rw [z]
      show nI (if i < i then _ else _) = _
      rw [if_neg (by omega)]
    have o7 := (ok.2.2.2.2.2 i hi).2.2.2
    refine ⟨N, ⟨h2, hf.tr h3 (by decide) (by decide)⟩, ?_⟩
    show b_X7_goesDay_14 _ s _ _ _ = _
    unfold b_X7_goesDay_14 f_X7_goesDay_40
    have hd : here T (i + 1) = here T i + (if T 7 i = 0 then 1 else 0) := by
      show ct _ i + _ = _
      simp only [decide_eq_true_eq]
      rfl
    rw [show s.1 8 = nI (T 3 0) from hs.2.1, if_neg (nI_ge hi (by omega)), if_pos rfl, ckn (ok_p ok hi) (by decide), if_pos rfl, cln (by omega), p7, h1, bd_s, bd_s, hd]
    by_cases c : T 7 i = 0
    · rw [if_pos (show nI (T 7 i) = 0 by rw [c]; rfl), if_pos c, nl1, nI_add, nI_add]
    · rw [if_neg (nI_ne0 (by omega) (by omega)), if_neg c, nl1, nl0, nI_add, nI_add]
  · refine ⟨⟨h.1, h.2.1, ?_, h.2.2.2.1, h.2.2.2.2.1, fun p hp => ?_⟩, ⟨fun _ _ _ => rfl, fun _ _ => ⟨rfl, rfl⟩, fun _ _ => ⟨rfl, rfl, rfl, rfl⟩, fun k a b c => ?_, fun _ _ => rfl⟩⟩
    · show M.1 9 + 1 = nI (T 8 0 + 1)
      rw [h.2.2.1, nl1, nI_add]
    · obtain ⟨z4, z5, z6, z7⟩ := h.2.2.2.2.2.1 p hp
      refine ⟨z4, z5, ?_, ?_⟩
      · show M.2 5 p = nI (if p < 0 then sln 1 T p else T 6 p)
        rw [if_neg (by omega)]; exact z6
      · show M.2 6 p = nI (if p < 0 then T 7 p - 1 else T 7 p)
        rw [if_neg (by omega)]; exact z7
    · rw [pF_1, if_neg (by omega)]
theorem m_goesOn {M : G} {T : Tw} {n : Nat} (h : rM M T) (hn : n ≤ 200) : ∃ N, f_X7_goesOn M (nI n) = some ((), N) ∧ rM N (dN n T) ∧ frw 144 M N := by
  unfold f_X7_goesOn
  refine loopR (fun fuel i (s : G) => f_X7_goesOn_2 fuel s (nI n) (nI i)) (fun i s => rM s (dN i T) ∧ frw 144 M s) n (fun r => ∃ N, r = some ((), N) ∧ rM N (dN n T) ∧ frw 144 M N) (fun f s hs => ?_) (fun f i s hi hs => Or.inr ?_) n 0 1000 M (by omega) (by omega) ⟨h, frw.rf _ _⟩
  · refine ⟨s, ?_, hs⟩
    show b_X7_goesOn_2 _ s _ _ = _
    unfold b_X7_goesOn_2
    rw [if_pos (nI_le (Nat.le_refl _) (by omega))]
  · obtain ⟨N, h1, h2, h3⟩ := m_goesDay hs.1
    refine ⟨N, ⟨h2, hs.2.tr h3 (by decide) (by decide)⟩, ?_⟩
    show b_X7_goesOn_2 _ s _ _ = _
    unfold b_X7_goesOn_2
    rw [if_neg (nI_ge hi (by omega)), h1, bd_s, nl1, nI_add]
