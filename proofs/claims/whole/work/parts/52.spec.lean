/-! the other calls -/
theorem rL_add {L : G} {c : Nat → Nat} {n v : Nat} (h : rL L c n) (hn : n < 96) (hv : v < 256) : rL (pF (pA L 0 n (nI v)) 2 (nI (n + 1))) (fun i => if i = n then v else c i) (n + 1) := by
  refine ⟨rfl, by omega, fun i hi => ?_⟩
  show upd (L.2 0) n (nI v) i = nI (if i = n then v else c i) ∧ (if i = n then v else c i) < 256
  rw [updE]
  by_cases e : i = n
  · simp only [if_pos e]; exact ⟨trivial, hv⟩
  · simp only [if_neg e]; exact h.2.2 i (by omega)
theorem rLM_add {M : G} {c : Nat → Nat} {n v : Nat} (h : rLM M c n) (hn : n < 96) (hv : v < 256) : rLM (pF (pA M 12 n (nI v)) 16 (nI (n + 1))) (fun i => if i = n then v else c i) (n + 1) := by
  refine ⟨rfl, by omega, fun i hi => ?_⟩
  show upd (M.2 12) n (nI v) i = nI (if i = n then v else c i) ∧ (if i = n then v else c i) < 256
  rw [updE]
  by_cases e : i = n
  · simp only [if_pos e]; exact ⟨trivial, hv⟩
  · simp only [if_neg e]; exact h.2.2 i (by omega)
theorem rN_add {N : G} {num : Nat → Nat} {D v : Nat} (h : rN N D num) (hn : D < 16) (hv : v ≤ 99) : rN (pF (pA N 0 D (nI v)) 1 (nI (D + 1))) (D + 1) (fun i => if i = D then v else num i) := by
  refine ⟨rfl, by omega, fun i hi => ?_⟩
  show upd (N.2 0) D (nI v) i = nI (if i = D then v else num i) ∧ (if i = D then v else num i) ≤ 99
  rw [updE]
  by_cases e : i = D
  · simp only [if_pos e]; exact ⟨trivial, hv⟩
  · simp only [if_neg e]; exact h.2.2 i (by omega)
theorem rNM_add {M : G} {num : Nat → Nat} {D v : Nat} (h : rNM M D num) (hn : D < 16) (hv : v ≤ 99) : rNM (pF (pA M 24 D (nI v)) 25 (nI (D + 1))) (D + 1) (fun i => if i = D then v else num i) := by
  refine ⟨rfl, by omega, fun i hi => ?_⟩
  show upd (M.2 24) D (nI v) i = nI (if i = D then v else num i) ∧ (if i = D then v else num i) ≤ 99
  rw [updE]
  by_cases e : i = D
  · simp only [if_pos e]; exact ⟨trivial, hv⟩
  · simp only [if_neg e]; exact h.2.2 i (by omega)
theorem p_letter {T : Tw} {S U Ki L N M : G} (h : Inv T S U Ki L N M) (x1 : Int32) : ∃ r S' L' M', f_X6_letter S L x1 = some (r, (S', L')) ∧ f_X7_letter M x1 = some (r, M') ∧ InvE S' U Ki L' N M' := by
  obtain ⟨hT, hM, hd, ho, hrf, hN, ⟨c, n, hL, hLM⟩, hI⟩ := id h
  have h96 := hL.2.1
  unfold f_X6_letter f_X7_letter
  have e96 : (nI n = (96 : Int32)) ↔ n = 96 := nI_eq (b := 96) (by omega) (by decide)
  rcases rngC x1 0 255 (A := 0) (B := 255) rfl rfl (by decide) (by decide) with ⟨ca, cb⟩ | ⟨ca, cb⟩ | ⟨v, -, hv, rfl, ca, cb⟩
  · simp only [f_X6_letter_26, f_X7_letter_25, ca, cb, bd_s, fs4, e40, if_false, rf4, no4, ite_self]
    exact ⟨_, _, _, _, rfl, rfl, h.refd 4⟩
  · simp only [f_X6_letter_26, f_X7_letter_25, ca, cb, bd_s, fs6, e60, if_false, rf6, no6, ite_self]
    exact ⟨_, _, _, _, rfl, rfl, h.refd 6⟩
  · rw [ca, cb, bd_s, bd_s, if_pos rfl, hL.1, hLM.1]
    unfold f_X6_letter_26 f_X7_letter_25
    by_cases q : n < 96
    · rw [if_neg (show ¬ (96 : Int32) ≤ nI n from nI_ge (b := 96) q (by decide)), if_neg (fun z => by have := e96.mp z; omega), fs0, bd_s, if_pos rfl, if_pos rfl]
      unfold f_X0_add
      rw [hL.1, hLM.1, if_neg (show ¬ (96 : Int32) ≤ nI n from nI_ge (b := 96) q (by decide)), ckn q (by decide), if_pos rfl, if_pos rfl, cln (by omega), lt_s', lt_s', lt_s', lt_s', show (pA L 0 n (nI v)).1 2 = nI n from hL.1, show (pA M 12 n (nI v)).1 16 = nI n from hLM.1, show nI n + (1 : Int32) = nI (n + 1) from nI_add n 1, bd_s]
      refine ⟨_, _, _, _, rfl, rfl, T, hT, hM, hd, ho, hrf, hN, ⟨_, _, rL_add hL q (by omega), rLM_add hLM q (by omega)⟩, hI⟩
    · have e : n = 96 := by omega
      rw [if_pos (show (96 : Int32) ≤ nI n from nI_le (a := 96) (by omega) (by omega)), if_pos (e96.mpr e), fs0, bd_s, if_neg (by decide), rf6, bd_s, if_neg (by decide), no6, bd_s]
      exact ⟨_, _, _, _, rfl, rfl, h.refd 6⟩
theorem p_row {T : Tw} {S U Ki L N M : G} (h : Inv T S U Ki L N M) (x1 : Int32) : ∃ r S' N' M', f_X6_row S N x1 = some (r, (S', N')) ∧ f_X7_row M x1 = some (r, M') ∧ InvE S' U Ki L N' M' := by
  obtain ⟨hT, hM, hd, ho, hrf, ⟨D, num, hN, hNM⟩, hL, hI⟩ := id h
  have h16 := hN.2.1
  unfold f_X6_row f_X7_row
  have e16 : (nI D = (16 : Int32)) ↔ D = 16 := nI_eq (b := 16) (by omega) (by decide)
  rcases rngC x1 0 99 (A := 0) (B := 99) rfl rfl (by decide) (by decide) with ⟨ca, cb⟩ | ⟨ca, cb⟩ | ⟨v, -, hv, rfl, ca, cb⟩
  · simp only [f_X6_row_25, f_X7_row_24, ca, cb, bd_s, fs4, e40, if_false, rf4, no4, ite_self]
    exact ⟨_, _, _, _, rfl, rfl, h.refd 4⟩
  · simp only [f_X6_row_25, f_X7_row_24, ca, cb, bd_s, fs6, e60, if_false, rf6, no6, ite_self]
    exact ⟨_, _, _, _, rfl, rfl, h.refd 6⟩
  · rw [ca, cb, bd_s, bd_s, if_pos rfl, hN.1, hNM.1]
    unfold f_X6_row_25 f_X7_row_24
    by_cases q : D < 16
    · rw [if_neg (show ¬ (16 : Int32) ≤ nI D from nI_ge (b := 16) q (by decide)), if_neg (fun z => by have := e16.mp z; omega), fs0, bd_s, if_pos rfl, if_pos rfl]
      unfold f_X2_add
      rw [hN.1, hNM.1, if_neg (show ¬ (16 : Int32) ≤ nI D from nI_ge (b := 16) q (by decide)), ckn q (by decide), if_pos rfl, if_pos rfl, cln (by omega), lt_s', lt_s', lt_s', lt_s', show (pA N 0 D (nI v)).1 1 = nI D from hN.1, show (pA M 24 D (nI v)).1 25 = nI D from hNM.1, show nI D + (1 : Int32) = nI (D + 1) from nI_add D 1, bd_s]
      refine ⟨_, _, _, _, rfl, rfl, T, hT, hM, hd, ho, hrf, ⟨_, _, rN_add hN q (by omega), rNM_add hNM q (by omega)⟩, hL, hI⟩
    · have e : D = 16 := by omega
      rw [if_pos (show (16 : Int32) ≤ nI D from nI_le (a := 16) (by omega) (by omega)), if_pos (e16.mpr e), fs0, bd_s, if_neg (by decide), rf6, bd_s, if_neg (by decide), no6, bd_s]
      exact ⟨_, _, _, _, rfl, rfl, h.refd 6⟩
theorem p_clear {T : Tw} {S U Ki L N M : G} (h : Inv T S U Ki L N M) : ∃ r S' N' M', f_X6_clear S N = some (r, (S', N')) ∧ f_X7_clear M = some (r, M') ∧ InvE S' U Ki L N' M' := by
  obtain ⟨hT, hM, hd, ho, hrf, ⟨D, num, hN, hNM⟩, hL, hI⟩ := id h
  unfold f_X6_clear f_X7_clear f_X2_forget
  rw [lt_s', bd_s, lt_s', hN.1, hNM.1]
  exact ⟨_, _, _, _, rfl, rfl, T, hT, hM, hd, ho, hrf, ⟨0, num, ⟨rfl, by decide, fun d hd => absurd hd (Nat.not_lt_zero d)⟩, ⟨rfl, by decide, fun d hd => absurd hd (Nat.not_lt_zero d)⟩⟩, hL, hI⟩
theorem p_judge {T : Tw} {S U Ki L N M : G} (h : Inv T S U Ki L N M) (W : G) : ∃ r S' U' N' W' M', f_X6_judge S U N W = some (r, (S', U', N', W')) ∧ f_X7_judge M = some (r, M') ∧ InvE S' U' Ki L N' M' := by
  obtain ⟨hT, hM, hd, ho, hrf, ⟨D, num, hN, hNM⟩, hL, hI⟩ := id h
  obtain ⟨W', q1⟩ := t_firstUntrue (S := W) hT hN
  obtain ⟨M', q2, z⟩ := m_judge hM ho hNM
  have h0 : Inv T S U Ki L (pF N 1 0) (pF M 25 0) := ⟨hT, hM, hd, ho, hrf, ⟨0, num, ⟨rfl, by decide, fun d hd => absurd hd (Nat.not_lt_zero d)⟩, ⟨rfl, by decide, fun d hd => absurd hd (Nat.not_lt_zero d)⟩⟩, hL, hI⟩
  refine ⟨_, S, U, pF N 1 0, W', M', ?_, q2, h0.eqM z (by decide)⟩
  unfold f_X6_judge f_X2_forget
  rw [q1, bd_s, lt_s', bd_s]
theorem p_town {T : Tw} {S U Ki L N M : G} (h : Inv T S U Ki L N M) (LD : G) : ∃ r S' U' L' LD' M', f_X6_town S U L LD = some (r, (S', U', L', LD')) ∧ f_X7_town M = some (r, M') ∧ InvE S' U' Ki L' N M' := by
  obtain ⟨hT, hM, hd, ho, hrf, ⟨D, num, hN, hNM⟩, ⟨c, n, hL, hLM⟩, hI⟩ := id h
  obtain ⟨U', LD', q1, hU, hd'⟩ := t_town (S := S) (D := LD) hL hT hd
  obtain ⟨M', q2, hM', h16, w⟩ := m_town hLM hM hd
  refine ⟨_, S, U', pF L 2 0, LD', M', q1, q2, spTownT c n T, hU, hM', hd', ⟨by rw [w.2.1 11 (by omega) (by decide) (by decide) (by decide) (by decide) (by decide)]; exact ho.1, ho.2⟩, fun i hi => by rw [w.1 0 (by omega) (by decide) (by decide) (by decide) (by decide)]; exact hrf i hi, ⟨D, num, hN, by rw [w.2.1 25 (by omega) (by decide) (by decide) (by decide) (by decide) (by decide)]; exact hNM.1, hNM.2.1, fun d hd => by rw [w.1 24 (by omega) (by decide) (by decide) (by decide) (by decide)]; exact hNM.2.2 d hd⟩, ⟨c, 0, ⟨rfl, by decide, fun i hi => absurd hi (Nat.not_lt_zero i)⟩, ⟨h16, by decide, fun i hi => absurd hi (Nat.not_lt_zero i)⟩⟩, ?_⟩
  rw [w.2.1 20 (by omega) (by decide) (by decide) (by decide) (by decide) (by decide)]
  rcases hI with z | ⟨z1, z2, Ti, M1, z3, z4, z5, z6⟩
  · exact Or.inl z
  · exact Or.inr ⟨z1, z2, Ti, M1, z3, z4, z5, fun j hj => by rw [w.2.2 j hj]; exact z6 j hj⟩
theorem p_days {T : Tw} {S U Ki L N M : G} (h : Inv T S U Ki L N M) (x1 : Int32) : ∃ r S' U' M', f_X6_days S U x1 = some (r, (S', U')) ∧ f_X7_days M x1 = some (r, M') ∧ InvE S' U' Ki L N M' := by
  obtain ⟨hT, hM, hd, ho, hrf, hN, hL, hI⟩ := id h
  have ok := hT.2.2.2.2.2.2
  have h8 := ok.2.1
  unfold f_X6_days f_X7_days
  rcases rngC x1 1 60 (A := 1) (B := 60) rfl rfl (by decide) (by decide) with ⟨ca, cb⟩ | ⟨ca, cb⟩ | ⟨v, hv1, hv, rfl, ca, cb⟩
  · simp only [f_X6_days_30, f_X7_days_27, ca, cb, bd_s, fs4, e40, if_false, rf4, no4, ite_self]
    exact ⟨_, _, _, _, rfl, rfl, h.refd 4⟩
  · simp only [f_X6_days_30, f_X7_days_27, ca, cb, bd_s, fs6, e60, if_false, rf6, no6, ite_self]
    exact ⟨_, _, _, _, rfl, rfl, h.refd 6⟩
  · rw [ca, cb, bd_s, bd_s, if_pos rfl, hT.2.2.1, hM.2.2.1, nl999, pk_sub hd, nI_add]
    unfold f_X6_days_30 f_X7_days_27
    by_cases q : T 8 0 + v ≤ 999
    · obtain ⟨u, e1, hu⟩ := t_pass hT (n := v) (by omega)
      obtain ⟨M', e2, hM', f2⟩ := m_goesOn hM (n := v) (by omega)
      have hP : dN v T 3 0 = T 3 0 := by rw [dN_k T (by decide) (by decide) (by decide)]
      have q1 := t_hearersOfSome hu
      have q2 := m_manyHear hM' (rO_frw ho f2)
      rw [ct_cong (g := hsome (dN v T)) _ (fun p _ => hsO_none _ p)] at q2
      have hl := mk_lt (hsome (dN v T)) (dN v T 3 0)
      have hpw : 2 ^ (T 3 0) ≤ 2 ^ 8 := Nat.pow_le_pow_right (by decide) h8
      rw [hP] at q1 q2 hl
      rw [if_neg (nI_nlt (by omega) (by omega)), if_pos (nI_le q (by decide)), fs0, bd_s, if_pos rfl, if_pos rfl, e1, bd_s, q1, bd_s, jbits _ (by omega), bd_s, pc8_mk _ h8, e2, bd_s, q2, bd_s]
      exact ⟨_, _, _, _, rfl, rfl, h.frw f2 hM' hu (by rw [dN_8]; exact q)⟩
    · rw [if_pos (nI_lt (by omega) (by omega)), if_neg (nI_ge (by omega) (by omega)), fs0, bd_s, if_neg (by decide), rf6, bd_s, if_neg (by decide), no6, bd_s]
      exact ⟨_, _, _, _, rfl, rfl, h.refd 6⟩
theorem p_send {T : Tw} {S U Ki L N M : G} (h : Inv T S U Ki L N M) (P Q : G) (x1 x2 x3 : Int32) : ∃ r S' U' P' Q' M', f_X6_send S U P Q x1 x2 x3 = some (r, (S', U', P', Q')) ∧ f_X7_send M x1 x2 x3 = some (r, M') ∧ InvE S' U' Ki L N M' := by
  obtain ⟨hT, hM, hd, ho, hrf, hN, hL, hI⟩ := id h
  have bt : ∃ v, f_X6_bothRanges x2 9 x3 40 = some (v, ()) := by
    unfold f_X6_bothRanges
    repeat' split
    all_goals exact ⟨_, rfl⟩
  unfold f_X6_send f_X7_send
  rcases bellC (S := S) hT hM x1 with ⟨ca, cb⟩ | ⟨b, hb, rfl, ca, cb⟩
  · obtain ⟨w, ew⟩ := bt
    unfold f_X7_send_45
    rw [ca, cb, bd_s, bd_s, ew, bd_s, fs1, bd_s, if_neg (by decide), rf1, bd_s, if_pos rfl, if_neg (by decide), no1, bd_s]
    exact ⟨_, _, _, _, _, _, rfl, rfl, h.refd 1⟩
  · rw [ca, cb, bd_s, bd_s, if_neg (show ¬ (1 : Int32) = 0 by decide)]
    have r4 : ∃ r S' U' P' Q' M', bd (some ((-4 : Int32), ())) (fun r11 u11 => bd (f_X6_first 0 r11) (fun r14 u14 => if r14 = 0 then (bd (f_X3_whomToSend P Q (S, U).2 (nI b) x2 x3) (fun r42 u42 => some (r42, ((S, U).1, u42.2.2, u42.1, u42.2.1)))) else (bd (f_X6_refused (S, U).1 r14) (fun r27 u27 => some (r27, (u27, (S, U).2, P, Q)))))) = some (r, (S', U', P', Q')) ∧ f_X7_send_22 M (nI b) x2 x3 = some (r, M') ∧ InvE S' U' Ki L N M' := by
      unfold f_X7_send_22 f_X7_send_45
      rw [bd_s, fs0, bd_s, if_neg (by decide), rf4, bd_s, if_neg (by decide), no4, bd_s]
      exact ⟨_, _, _, _, _, _, rfl, rfl, h.refd 4⟩
    have r6 : ∃ r S' U' P' Q' M', bd (some ((-6 : Int32), ())) (fun r11 u11 => bd (f_X6_first 0 r11) (fun r14 u14 => if r14 = 0 then (bd (f_X3_whomToSend P Q (S, U).2 (nI b) x2 x3) (fun r42 u42 => some (r42, ((S, U).1, u42.2.2, u42.1, u42.2.1)))) else (bd (f_X6_refused (S, U).1 r14) (fun r27 u27 => some (r27, (u27, (S, U).2, P, Q)))))) = some (r, (S', U', P', Q')) ∧ f_X7_send_39 M (nI b) x2 x3 = some (r, M') ∧ InvE S' U' Ki L N M' := by
      unfold f_X7_send_39 f_X7_send_45
      rw [bd_s, fs0, bd_s, if_neg (by decide), rf6, bd_s, if_neg (by decide), no6, bd_s]
      exact ⟨_, _, _, _, _, _, rfl, rfl, h.refd 6⟩
    unfold f_X6_bothRanges
    by_cases q1 : x2 < (1 : Int32)
    · rw [if_pos q1, if_pos q1]; exact r4
    · rw [if_neg q1, if_neg q1]
      by_cases q2 : (1 : Int32) ≤ x3
      · rw [if_pos q2, if_pos q2]
        by_cases q3 : (9 : Int32) < x2
        · rw [if_pos q3, if_pos q3]; exact r6
        · rw [if_neg q3, if_neg q3]
          by_cases q4 : x3 ≤ (40 : Int32)
          · rw [if_pos q4, if_pos q4]
            obtain ⟨k, -, h2, rfl⟩ := nI_up (a := 1) (x := x2) (by decide) (Int32.not_lt.mp q1)
            obtain ⟨n, -, h4, rfl⟩ := nI_up (a := 1) (x := x3) (by decide) q2
            have hk : k ≤ 9 := by
              have := Int32.not_lt.mp q3
              exact (nI_leI (b := 9) h2 (by decide)).mp this
            have hn : n ≤ 40 := (nI_leI (b := 40) h4 (by decide)).mp q4
            obtain ⟨Q', e1⟩ := t_whomToSend (S := P) (S0 := Q) hT hb hk hn (by omega)
            obtain ⟨M', e2, z⟩ := m_send hM ho hb hk hn (by omega)
            rw [bd_s, fs0, bd_s, if_pos rfl, e1, bd_s, e2]
            exact ⟨_, _, _, _, _, _, rfl, rfl, h.eqM z (by decide)⟩
          · rw [if_neg q4, if_neg q4]; exact r6
      · rw [if_neg q2, if_neg q2]; exact r4
theorem two_no {M : G} {x1 x2 x3 c : Int32} (hc : ¬ c = 0) : f_X7_two_32 M x1 x2 x3 c = bd (f_X7_no M c) (fun r u => some (r, u)) := by
  unfold f_X7_two_32
  rw [if_neg hc]
theorem two_m {M : G} {T : Tw} {a b n : Nat} (hM : rM M T) (ho : rO M none) (ha : a < T 3 0) (hb : b < T 3 0) (hn : n ≤ 20) (hd : T 8 0 ≤ 999) : ∃ M', f_X7_two_32 M (nI a) (nI b) (nI n) 0 = some (spTwo (twO T a b n), M') ∧ eqX M M' := by
  obtain ⟨M', g2, z⟩ := m_two hM ho ha hb (n := n) (by omega) (by omega)
  refine ⟨M', ?_, z⟩
  unfold f_X7_two_32
  rw [if_pos rfl]
  exact g2
theorem two_27 {S U P Q : G} {x1 x2 x3 c d : Int32} {k : Nat} (hk : f_X6_first c d = some (-nI k, ())) (h0 : ¬ -nI k = 0) : f_X6_two_27 S U P Q x1 x2 x3 c d = bd (f_X6_refused S (-nI k)) (fun r u => some (r, (u, U, P, Q))) := by
  obtain ⟨w3, t3⟩ := rngT x3 1 20
  unfold f_X6_two_27
  rw [hk, bd_s, t3, bd_s, show f_X6_first (-nI k) w3 = some (-nI k, ()) from if_neg h0, bd_s, if_neg h0]
theorem p_two {T : Tw} {S U Ki L N M : G} (h : Inv T S U Ki L N M) (P Q : G) (x1 x2 x3 : Int32) : ∃ r S' U' P' Q' M', f_X6_two S U P Q x1 x2 x3 = some (r, (S', U', P', Q')) ∧ f_X7_two M x1 x2 x3 = some (r, M') ∧ InvE S' U' Ki L N M' := by
  obtain ⟨hT, hM, hd, ho, hrf, hN, hL, hI⟩ := id h
  have no : ∃ r S' U' P' Q' M', bd (f_X6_refused S (-nI 1)) (fun r u => some (r, (u, U, P, Q))) = some (r, (S', U', P', Q')) ∧ f_X7_two_21 M x1 x2 x3 = some (r, M') ∧ InvE S' U' Ki L N M' := by
    unfold f_X7_two_21
    rw [two_no (by decide), no1, bd_s, show f_X6_refused S (-nI 1) = some (-1, pA S 8 1 (S.2 8 1 + 1)) from rfl, bd_s]
    exact ⟨_, _, _, _, _, _, rfl, rfl, h.refd 1⟩
  unfold f_X6_two f_X7_two
  rcases oneC (S := S) hT hM x1 with ⟨ca, cb⟩ | ⟨a, ha, rfl, ca, cb⟩
  · obtain ⟨w2, t2⟩ := oneT (S := S) (U := U) x2
    rw [ca, bd_s, t2, bd_s, fs1, bd_s, two_27 (k := 1) (fs1 _) (by decide), two_27 (k := 1) (fs1 _) (by decide), ite_self, cb, bd_s, if_pos rfl]
    exact no
  rcases oneC (S := S) hT hM x2 with ⟨da, db⟩ | ⟨b, hb, rfl, da, db⟩
  · rw [ca, bd_s, da, bd_s, fs0, bd_s, two_27 (k := 1) (fs1 _) (by decide), two_27 (k := 1) (fs1 _) (by decide), ite_self, cb, bd_s, if_neg (show ¬ (1 : Int32) = 0 by decide), db, bd_s, if_pos rfl]
    exact no
  by_cases q : nI a = nI b
  · rw [ca, bd_s, da, bd_s, fs0, bd_s, if_pos q, two_27 (c := 0) (d := -1) (k := 1) rfl (by decide), cb, bd_s, if_neg (show ¬ (1 : Int32) = 0 by decide), db, bd_s, if_neg (show ¬ (1 : Int32) = 0 by decide), if_pos q]
    exact no
  rw [ca, bd_s, da, bd_s, fs0, bd_s, if_neg q, cb, bd_s, if_neg (show ¬ (1 : Int32) = 0 by decide), db, bd_s, if_neg (show ¬ (1 : Int32) = 0 by decide), if_neg q]
  unfold f_X6_two_27
  rw [fs0, bd_s]
  rcases rngC x3 1 20 (A := 1) (B := 20) rfl rfl (by decide) (by decide) with ⟨ea, eb⟩ | ⟨ea, eb⟩ | ⟨n, -, hn, rfl, ea, eb⟩
  · rw [ea, bd_s, fs0, bd_s, if_neg (by decide), rf4, bd_s, eb, bd_s, two_no (by decide), no4, bd_s]
    exact ⟨_, _, _, _, _, _, rfl, rfl, h.refd 4⟩
  · rw [ea, bd_s, fs0, bd_s, if_neg (by decide), rf6, bd_s, eb, bd_s, two_no (by decide), no6, bd_s]
    exact ⟨_, _, _, _, _, _, rfl, rfl, h.refd 6⟩
  · obtain ⟨P', Q', g1⟩ := t_settledPair (S := P) (S0 := Q) hT ha hb (n := n) (by omega) (by omega)
    obtain ⟨M', g2, z⟩ := two_m hM ho ha hb hn hd
    rw [ea, bd_s, fs0, bd_s, if_pos rfl, g1, bd_s, eb, bd_s, g2]
    exact ⟨_, _, _, _, _, _, rfl, rfl, h.eqX z⟩
theorem p_image {T : Tw} {S U Ki L N M : G} (h : Inv T S U Ki L N M) : ∃ r S' U' Ki' M', f_X6_image S U Ki = some (r, (S', U', Ki')) ∧ f_X7_image M = some (r, M') ∧ InvE S' U' Ki' L N M' := by
  obtain ⟨hT, hM, hd, ho, hrf, ⟨D, num, hN, hNM⟩, ⟨c, n, hL, hLM⟩, hI⟩ := id h
  obtain ⟨u, e1, hu⟩ := t_become (S := Ki) hT
  obtain ⟨B, e2, kp⟩ := m_keep (pF M 20 1) (w := 0) (by decide)
  replace e2 : f_X7_passesAll (pF M 20 1) 0 1 = some ((), B) := e2
  have hM2 : rM (pF M 20 1) T := hM
  have i9 : B.1 9 = nI (T 8 0) := by rw [kp.2.1 9 (by decide) (by decide)]; exact hM.2.2.1
  unfold f_X6_image f_X7_image
  rw [e1, bd_s, lt_s', lt_s', e2, bd_s, i9, show ((u, U).2.1 8 : Int32) = nI (T 8 0) from hT.2.2.1]
  refine ⟨_, _, _, _, _, rfl, rfl, T, hT, ?_, hd, ⟨by rw [kp.2.1 11 (by decide) (by decide)]; exact ho.1, ho.2⟩, fun i hi => by rw [kp.1 0 (by decide)]; exact hrf i hi, ⟨D, num, hN, by rw [kp.2.1 25 (by decide) (by decide)]; exact hNM.1, hNM.2.1, fun d hd => by rw [kp.1 24 (by decide)]; exact hNM.2.2 d hd⟩, ⟨c, n, hL, by rw [kp.2.1 16 (by decide) (by decide)]; exact hLM.1, hLM.2.1, fun i hi => by rw [kp.1 12 (by decide)]; exact hLM.2.2 i hi⟩, Or.inr ⟨rfl, by rw [kp.2.1 20 (by decide) (by decide)]; rfl, T, pF M 20 1, hu, hd, hM2, fun j hj => ?_⟩⟩
  · obtain ⟨a, b, c', d, f, g, ok⟩ := hM2
    refine ⟨by rw [kp.2.1 7 (by decide) (by decide)]; exact a, by rw [kp.2.1 8 (by decide) (by decide)]; exact b, by rw [kp.2.1 9 (by decide) (by decide)]; exact c', by rw [kp.2.1 10 (by decide) (by decide)]; exact d, fun q hq => ?_, fun q hq => ?_, ok⟩
    · rw [kp.1 1 (by decide), kp.1 2 (by decide)]; exact f q hq
    · rw [kp.1 3 (by decide), kp.1 4 (by decide), kp.1 5 (by decide), kp.1 6 (by decide)]; exact g q hq
  · have z := kp.2.2.2.2
    rw [z, put_in (by omega) (by omega)]
    rfl
theorem rM_back {M R M1 : G} {Ti : Tw} (b : PBk M 0 R) (h : rM M1 Ti) (hs : ∀ j, j < 48 → M.2 19 j = snap M1 j) : rM R Ti := by
  obtain ⟨b1, b2, p1, p2, p3, p4, p5, p6, q7, q8, q9, q10⟩ := b
  obtain ⟨a, b, c, d, f, g, ok⟩ := h
  refine ⟨by rw [q7, hs _ (by decide)]; exact a, by rw [q8, hs _ (by decide)]; exact b, by rw [q9, hs _ (by decide)]; exact c, by rw [q10, hs _ (by decide)]; exact d, fun q hq => ?_, fun q hq => ?_, ok⟩
  · have q6 := ok_b ok hq
    obtain ⟨f1, f2⟩ := f q hq
    constructor
    · rw [p1, put_in (by omega) (by omega), hs _ (by omega), ← f1]
      unfold snap
      rw [if_pos (by omega)]
      exact congrArg _ (by omega)
    · rw [p2, put_in (by omega) (by omega), hs _ (by omega), ← f2]
      unfold snap
      rw [if_neg (by omega), if_pos (by omega)]
      exact congrArg _ (by omega)
  · have q8' := ok_p ok hq
    obtain ⟨g1, g2, g3, g4⟩ := g q hq
    refine ⟨?_, ?_, ?_, ?_⟩
    · rw [p3, put_in (by omega) (by omega), hs _ (by omega), ← g1]
      unfold snap
      rw [if_neg (by omega), if_neg (by omega), if_pos (by omega)]
      exact congrArg _ (by omega)
    · rw [p4, put_in (by omega) (by omega), hs _ (by omega), ← g2]
      unfold snap
      rw [if_neg (by omega), if_neg (by omega), if_neg (by omega), if_pos (by omega)]
      exact congrArg _ (by omega)
    · rw [p5, put_in (by omega) (by omega), hs _ (by omega), ← g3]
      unfold snap
      rw [if_neg (by omega), if_neg (by omega), if_neg (by omega), if_neg (by omega), if_pos (by omega)]
      exact congrArg _ (by omega)
    · rw [p6, put_in (by omega) (by omega), hs _ (by omega), ← g4]
      unfold snap
      rw [if_neg (by omega), if_neg (by omega), if_neg (by omega), if_neg (by omega), if_neg (by omega), if_pos (by omega)]
      exact congrArg _ (by omega)
theorem p_on {T : Tw} {S U Ki L N M : G} (h : Inv T S U Ki L N M) : ∃ r S' U' Ki' M', f_X6_on S U Ki = some (r, (S', U', Ki')) ∧ f_X7_on M = some (r, M') ∧ InvE S' U' Ki' L N M' := by
  obtain ⟨hT, hM, hd, ho, hrf, ⟨D, num, hN, hNM⟩, ⟨c, n, hL, hLM⟩, hI⟩ := id h
  unfold f_X6_on f_X7_on
  rcases hI with ⟨z1, z2⟩ | ⟨z1, z2, Ti, M1, z3, z4, z5, z6⟩
  · rw [if_pos z1, if_pos z2, rf3, no3, bd_s, bd_s]
    exact ⟨_, _, _, _, _, rfl, rfl, h.refd 3⟩
  · obtain ⟨u, e1, hu⟩ := t_become (S := U) z3
    obtain ⟨R, e2, b⟩ := m_back M (w := 0) (by decide)
    replace e2 : f_X7_passesAll M 0 0 = some ((), R) := e2
    have hR := rM_back b z5 z6
    have b1 := b.1
    have b2 := b.2.1
    rw [if_neg (by rw [z1]; decide), if_neg (by rw [z2]; decide), e1, bd_s, e2, bd_s, hR.2.2.1, show ((u, Ki).1.1 8 : Int32) = nI (Ti 8 0) from hu.2.2.1]
    refine ⟨_, _, _, _, _, rfl, rfl, Ti, hu, hR, z4, ⟨by rw [b2 11 (by omega) (by decide) (by decide)]; exact ho.1, ho.2⟩, fun i hi => by rw [b1 0 (by omega)]; exact hrf i hi, ⟨D, num, hN, by rw [b2 25 (by omega) (by decide) (by decide)]; exact hNM.1, hNM.2.1, fun d hd => by rw [b1 24 (by omega)]; exact hNM.2.2 d hd⟩, ⟨c, n, hL, by rw [b2 16 (by omega) (by decide) (by decide)]; exact hLM.1, hLM.2.1, fun i hi => by rw [b1 12 (by omega)]; exact hLM.2.2 i hi⟩, Or.inr ⟨z1, by rw [b2 20 (by omega) (by decide) (by decide)]; exact z2, Ti, M1, z3, z4, z5, fun j hj => by rw [b1 19 (by omega)]; exact z6 j hj⟩⟩
theorem p_fog {T : Tw} {S U Ki L N M : G} (h : Inv T S U Ki L N M) (W : G) (x1 x2 x3 x4 : Int32) : ∃ r S' U' W' M', f_X6_fog S U W x1 x2 x3 x4 = some (r, (S', U', W')) ∧ f_X7_fog M x1 x2 x3 x4 = some (r, M') ∧ InvE S' U' Ki L N M' := by
  obtain ⟨hT, hM, hd, ho, hrf, hN, hL, hI⟩ := id h
  obtain ⟨w4, t4⟩ := chT x4 2
  unfold f_X6_fog f_X7_fog f_X6_fog_14 f_X6_fog_20 f_X6_fog_39 f_X6_fog_45 f_X7_fog_38 f_X7_fog_21
  rcases bellC (S := S) hT hM x1 with ⟨ca, cb⟩ | ⟨b, hb, rfl, ca, cb⟩
  · unfold f_X7_fog_59
    simp only [ca, cb, t4, bd_s, fs1, e00, e10, if_true, if_false, rf1, lw1, ite_self]
    exact ⟨_, _, _, _, _, rfl, rfl, h.refd 1⟩
  by_cases q1 : x2 < 0
  · unfold f_X7_fog_59
    simp only [ca, cb, t4, if_pos q1, bd_s, fs0, fs4, e00, e01, e40, if_true, if_false, rf4, lw4, ite_self]
    exact ⟨_, _, _, _, _, rfl, rfl, h.refd 4⟩
  by_cases q2 : (2 : Int32) ≤ x3
  case neg =>
    unfold f_X7_fog_59
    simp only [ca, cb, t4, if_neg q1, if_neg q2, bd_s, fs0, fs4, e00, e01, e40, if_true, if_false, rf4, lw4, ite_self]
    exact ⟨_, _, _, _, _, rfl, rfl, h.refd 4⟩
  by_cases q3 : (7 : Int32) < x2
  · unfold f_X7_fog_59
    simp only [ca, cb, t4, if_neg q1, if_pos q2, if_pos q3, bd_s, fs0, fs6, e00, e01, e60, if_true, if_false, rf6, lw6]
    exact ⟨_, _, _, _, _, rfl, rfl, h.refd 6⟩
  by_cases q4 : x3 ≤ (20 : Int32)
  case neg =>
    unfold f_X7_fog_59
    simp only [ca, cb, t4, if_neg q1, if_pos q2, if_neg q3, if_neg q4, bd_s, fs0, fs6, e00, e01, e60, if_true, if_false, rf6, lw6]
    exact ⟨_, _, _, _, _, rfl, rfl, h.refd 6⟩
  rcases chC x4 1 (K := 2) (K1 := 1) rfl rfl (by decide) with ⟨da, db, -⟩ | ⟨w, hw, rfl, da, db⟩
  · unfold f_X7_fog_59
    simp only [ca, cb, da, db, if_neg q1, if_pos q2, if_neg q3, if_pos q4, bd_s, fs0, fs2, e00, e01, e20, if_true, if_false, rf2, lw2]
    exact ⟨_, _, _, _, _, rfl, rfl, h.refd 2⟩
  · obtain ⟨n, h2, rfl⟩ := nI_of q1
    obtain ⟨t, h3, h4, rfl⟩ := nI_up (a := 2) (x := x3) (by decide) q2
    have hn : n ≤ 7 := (nI_leI (b := 7) h2 (by decide)).mp (Int32.not_lt.mp q3)
    have ht : t ≤ 20 := (nI_leI (b := 20) h4 (by decide)).mp q4
    obtain ⟨W', e1⟩ := t_clearWays (S := W) hT hb hn (t := t) (by omega) ht
    obtain ⟨M', e2, z⟩ := m_fog hM ho hb hn (t := t) (by omega) ht hw
    have htn : t ^ n ≤ 20 ^ 7 := Nat.le_trans (Nat.pow_le_pow_left ht n) (Nat.pow_le_pow_right (by decide) hn)
    have h20 : (20 : Nat) ^ 7 = 1280000000 := by decide
    have h0 : 0 < t ^ n := Nat.pow_pos (by omega)
    have e3 := t_partOf (a := fogUp T b t n) (b := t ^ n) (w := w) (fogUp_lt hn ht) (by omega) h0 hw
    simp only [ca, cb, da, db, if_neg q1, if_pos q2, if_neg q3, if_pos q4, bd_s, fs0, e00, e01, if_true, if_false, e1, e2, t_power (show t < 1000 by omega) (show n ≤ 50 by omega), e3]
    exact ⟨_, _, _, _, _, rfl, rfl, h.eqM z (by decide)⟩
theorem p_count {T : Tw} {S U Ki L N M : G} (h : Inv T S U Ki L N M) (x1 : Int32) : ∃ r S' U' L' N' M', f_X6_count S U L N x1 = some (r, (S', U', L', N')) ∧ f_X7_count M x1 = some (r, M') ∧ InvE S' U' Ki L' N' M' := by
  obtain ⟨hT, hM, hd, ho, hrf, ⟨D, num, hN, hNM⟩, ⟨c, n, hL, hLM⟩, hI⟩ := id h
  have h8 := hT.2.2.2.2.2.2.2.1
  unfold f_X6_count f_X7_count
  rcases pk_ix x1 (n := 17) (by decide) with z | z | ⟨j, hj, rfl⟩
  · have ne : ∀ v, v < 17 → ¬ x1 = nI v := fun v hv e => by rw [e] at z; exact nI_pos (by omega) z
    have hin : f_X7_isIn x1 11 16 = some (0, ()) := by
      unfold f_X7_isIn
      rw [if_pos (Int32.lt_trans z (by decide))]
    rw [if_neg (show ¬ x1 = (0 : Int32) from ne 0 (by decide)), if_neg (show ¬ x1 = (1 : Int32) from ne 1 (by decide)), if_neg (show ¬ x1 = (2 : Int32) from ne 2 (by decide)), if_neg (show ¬ x1 = (3 : Int32) from ne 3 (by decide)), if_neg (show ¬ x1 = (4 : Int32) from ne 4 (by decide)), if_neg (show ¬ x1 = (5 : Int32) from ne 5 (by decide)), if_neg (show ¬ x1 = (6 : Int32) from ne 6 (by decide)), if_neg (show ¬ x1 = (7 : Int32) from ne 7 (by decide)), if_pos (Int32.le_of_lt (Int32.lt_trans z (by decide))), hin, bd_s, if_pos rfl, if_neg (show ¬ x1 = (0 : Int32) from ne 0 (by decide)), if_neg (show ¬ x1 = (1 : Int32) from ne 1 (by decide)), if_neg (show ¬ x1 = (2 : Int32) from ne 2 (by decide)), if_neg (show ¬ x1 = (3 : Int32) from ne 3 (by decide)), if_neg (show ¬ x1 = (4 : Int32) from ne 4 (by decide)), if_neg (show ¬ x1 = (5 : Int32) from ne 5 (by decide)), if_neg (show ¬ x1 = (6 : Int32) from ne 6 (by decide)), if_neg (show ¬ x1 = (7 : Int32) from ne 7 (by decide))]
    exact ⟨_, _, _, _, _, _, rfl, rfl, h.self⟩
  · obtain ⟨v, h1, h2, rfl⟩ := nI_up (by decide) z
    have ne : ∀ w, w < 17 → ¬ nI v = nI w := fun w hw e => by have := (nI_eq h2 (by omega)).mp e; omega
    have hin : f_X7_isIn (nI v) 11 16 = some (0, ()) := by
      unfold f_X7_isIn
      rw [if_neg (show ¬ nI v < (11 : Int32) from nI_nlt (b := 11) (by omega) h2), if_pos (show (16 : Int32) < nI v from nI_lt (a := 16) (by omega) h2)]
    rw [if_neg (show ¬ nI v = (0 : Int32) from ne 0 (by decide)), if_neg (show ¬ nI v = (1 : Int32) from ne 1 (by decide)), if_neg (show ¬ nI v = (2 : Int32) from ne 2 (by decide)), if_neg (show ¬ nI v = (3 : Int32) from ne 3 (by decide)), if_neg (show ¬ nI v = (4 : Int32) from ne 4 (by decide)), if_neg (show ¬ nI v = (5 : Int32) from ne 5 (by decide)), if_neg (show ¬ nI v = (6 : Int32) from ne 6 (by decide)), if_neg (show ¬ nI v = (7 : Int32) from ne 7 (by decide)), if_neg (show ¬ nI v ≤ (10 : Int32) from nI_ge (a := 10) (by omega) h2), if_pos (show (16 : Int32) < nI v from nI_lt (a := 16) (by omega) h2), hin, bd_s, if_pos rfl, if_neg (show ¬ nI v = (0 : Int32) from ne 0 (by decide)), if_neg (show ¬ nI v = (1 : Int32) from ne 1 (by decide)), if_neg (show ¬ nI v = (2 : Int32) from ne 2 (by decide)), if_neg (show ¬ nI v = (3 : Int32) from ne 3 (by decide)), if_neg (show ¬ nI v = (4 : Int32) from ne 4 (by decide)), if_neg (show ¬ nI v = (5 : Int32) from ne 5 (by decide)), if_neg (show ¬ nI v = (6 : Int32) from ne 6 (by decide)), if_neg (show ¬ nI v = (7 : Int32) from ne 7 (by decide))]
    exact ⟨_, _, _, _, _, _, rfl, rfl, h.self⟩
  · rcases (show j = 0 ∨ j = 1 ∨ j = 2 ∨ j = 3 ∨ j = 4 ∨ j = 5 ∨ j = 6 ∨ j = 7 ∨ (8 ≤ j ∧ j ≤ 10) ∨ 11 ≤ j by omega) with rfl | rfl | rfl | rfl | rfl | rfl | rfl | rfl | hj2 | hj2
    · rw [if_pos (by decide), show f_X7_isIn (nI 0) 11 16 = some (0, ()) from rfl, bd_s, if_pos rfl, if_pos (by decide), hT.1, hM.1]
      exact ⟨_, _, _, _, _, _, rfl, rfl, h.self⟩
    · rw [if_neg (by decide), if_pos (by decide), show f_X7_isIn (nI 1) 11 16 = some (0, ()) from rfl, bd_s, if_pos rfl, if_neg (by decide), if_pos (by decide), hT.2.1, hM.2.1]
      exact ⟨_, _, _, _, _, _, rfl, rfl, h.self⟩
    · rw [if_neg (by decide), if_neg (by decide), if_pos (by decide), show f_X7_isIn (nI 2) 11 16 = some (0, ()) from rfl, bd_s, if_pos rfl, if_neg (by decide), if_neg (by decide), if_pos (by decide), hT.2.2.1, hM.2.2.1]
      exact ⟨_, _, _, _, _, _, rfl, rfl, h.self⟩
    · rw [if_neg (by decide), if_neg (by decide), if_neg (by decide), if_pos (by decide), show f_X7_isIn (nI 3) 11 16 = some (0, ()) from rfl, bd_s, if_pos rfl, if_neg (by decide), if_neg (by decide), if_neg (by decide), if_pos (by decide), hT.2.2.2.1, hM.2.2.2.1]
      exact ⟨_, _, _, _, _, _, rfl, rfl, h.self⟩
    · have hl := mk_lt (hsome T) (T 3 0)
      have hpw : 2 ^ (T 3 0) ≤ 2 ^ 8 := Nat.pow_le_pow_right (by decide) h8
      have q2 := m_manyHear hM ho
      rw [ct_cong (g := hsome T) _ (fun p _ => hsO_none _ p)] at q2
      rw [if_neg (by decide), if_neg (by decide), if_neg (by decide), if_neg (by decide), if_pos (by decide), show f_X7_isIn (nI 4) 11 16 = some (0, ()) from rfl, bd_s, if_pos rfl, if_neg (by decide), if_neg (by decide), if_neg (by decide), if_neg (by decide), if_pos (by decide), t_hearersOfSome hT, bd_s, jbits _ (by omega), bd_s, pc8_mk _ h8, q2, bd_s]
      exact ⟨_, _, _, _, _, _, rfl, rfl, h.self⟩
    · rw [if_neg (by decide), if_neg (by decide), if_neg (by decide), if_neg (by decide), if_neg (by decide), if_pos (by decide), show f_X7_isIn (nI 5) 11 16 = some (0, ()) from rfl, bd_s, if_pos rfl, if_neg (by decide), if_neg (by decide), if_neg (by decide), if_neg (by decide), if_neg (by decide), if_pos (by decide), t_allSlept hT, bd_s, m_allSlept hM, bd_s]
      exact ⟨_, _, _, _, _, _, rfl, rfl, h.self⟩
    · rw [if_neg (by decide), if_neg (by decide), if_neg (by decide), if_neg (by decide), if_neg (by decide), if_neg (by decide), if_pos (by decide), show f_X7_isIn (nI 6) 11 16 = some (0, ()) from rfl, bd_s, if_pos rfl, if_neg (by decide), if_neg (by decide), if_neg (by decide), if_neg (by decide), if_neg (by decide), if_neg (by decide), if_pos (by decide), hN.1, hNM.1]
      exact ⟨_, _, _, _, _, _, rfl, rfl, h.self⟩
    · rw [if_neg (by decide), if_neg (by decide), if_neg (by decide), if_neg (by decide), if_neg (by decide), if_neg (by decide), if_neg (by decide), if_pos (by decide), show f_X7_isIn (nI 7) 11 16 = some (0, ()) from rfl, bd_s, if_pos rfl, if_neg (by decide), if_neg (by decide), if_neg (by decide), if_neg (by decide), if_neg (by decide), if_neg (by decide), if_neg (by decide), if_pos (by decide), hL.1, hLM.1]
      exact ⟨_, _, _, _, _, _, rfl, rfl, h.self⟩
    · have ne : ∀ w, w < 8 → ¬ nI j = nI w := fun w hw e => by have := (nI_eq (show j < 2 ^ 31 by omega) (by omega)).mp e; omega
      have hin : f_X7_isIn (nI j) 11 16 = some (0, ()) := by
        unfold f_X7_isIn
        rw [if_pos (show nI j < (11 : Int32) from nI_lt (b := 11) (by omega) (by decide))]
      rw [if_neg (show ¬ nI j = (0 : Int32) from ne 0 (by decide)), if_neg (show ¬ nI j = (1 : Int32) from ne 1 (by decide)), if_neg (show ¬ nI j = (2 : Int32) from ne 2 (by decide)), if_neg (show ¬ nI j = (3 : Int32) from ne 3 (by decide)), if_neg (show ¬ nI j = (4 : Int32) from ne 4 (by decide)), if_neg (show ¬ nI j = (5 : Int32) from ne 5 (by decide)), if_neg (show ¬ nI j = (6 : Int32) from ne 6 (by decide)), if_neg (show ¬ nI j = (7 : Int32) from ne 7 (by decide)), if_pos (show nI j ≤ (10 : Int32) from nI_le (b := 10) (by omega) (by decide)), hin, bd_s, if_pos rfl, if_neg (show ¬ nI j = (0 : Int32) from ne 0 (by decide)), if_neg (show ¬ nI j = (1 : Int32) from ne 1 (by decide)), if_neg (show ¬ nI j = (2 : Int32) from ne 2 (by decide)), if_neg (show ¬ nI j = (3 : Int32) from ne 3 (by decide)), if_neg (show ¬ nI j = (4 : Int32) from ne 4 (by decide)), if_neg (show ¬ nI j = (5 : Int32) from ne 5 (by decide)), if_neg (show ¬ nI j = (6 : Int32) from ne 6 (by decide)), if_neg (show ¬ nI j = (7 : Int32) from ne 7 (by decide))]
      exact ⟨_, _, _, _, _, _, rfl, rfl, h.self⟩
    · have ne : ∀ w, w < 8 → ¬ nI j = nI w := fun w hw e => by have := (nI_eq (show j < 2 ^ 31 by omega) (by omega)).mp e; omega
      have hin : f_X7_isIn (nI j) 11 16 = some (1, ()) := by
        unfold f_X7_isIn
        rw [if_neg (show ¬ nI j < (11 : Int32) from nI_nlt (b := 11) (by omega) (by omega)), if_neg (show ¬ (16 : Int32) < nI j from nI_nlt (a := 16) (by omega) (by decide))]
      have hs : nI j - (10 : Int32) = nI (j - 10) := pk_sub (b := 10) (by omega)
      rw [if_neg (show ¬ nI j = (0 : Int32) from ne 0 (by decide)), if_neg (show ¬ nI j = (1 : Int32) from ne 1 (by decide)), if_neg (show ¬ nI j = (2 : Int32) from ne 2 (by decide)), if_neg (show ¬ nI j = (3 : Int32) from ne 3 (by decide)), if_neg (show ¬ nI j = (4 : Int32) from ne 4 (by decide)), if_neg (show ¬ nI j = (5 : Int32) from ne 5 (by decide)), if_neg (show ¬ nI j = (6 : Int32) from ne 6 (by decide)), if_neg (show ¬ nI j = (7 : Int32) from ne 7 (by decide)), if_neg (show ¬ nI j ≤ (10 : Int32) from nI_ge (a := 10) (by omega) (by omega)), if_neg (show ¬ (16 : Int32) < nI j from nI_nlt (a := 16) (by omega) (by decide)), hin, bd_s, if_neg (show ¬ (1 : Int32) = 0 by decide), hs, ckn (show j - 10 < 7 by omega) (by decide), if_pos rfl, if_pos rfl, cln (by omega), hrf _ (by omega)]
      exact ⟨_, _, _, _, _, _, rfl, rfl, h.self⟩
