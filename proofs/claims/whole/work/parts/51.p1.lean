set_option maxRecDepth 4000 in
theorem p_personThen {T : Tw} {S U Ki L N M : G} (h : Inv T S U Ki L N M) (W : G) (x1 x2 x3 : Int32) : ∃ r S' U' W' M', f_X6_personThen S U W x1 x2 x3 = some (r, (S', U', W')) ∧ f_X7_personThen M x1 x2 x3 = some (r, M') ∧ InvE S' U' Ki L N M' := by
  obtain ⟨hT, hM, hd, ho, hrf, hN, hL, hI⟩ := id h
  have ok := hT.2.2.2.2.2.2
  have h6 := ok.1
  have h8 := ok.2.1
  rcases oneC (S := S) hT hM x1 with ⟨c0a, c0b⟩ | ⟨p, hp, rfl, c0a, c0b⟩
  · obtain ⟨w1, t1⟩ := rngT x2 0 99
    obtain ⟨w2, t2⟩ := chT x3 2
    simp only [f_X6_personThen, f_X7_personThen, f_X7_personThen_16, f_X7_personThen_36, f_X7_notDays, c0a, c0b, t1, t2, bd_s, fs0, fs1, fs2, fs4, fs6, e00, e01, e10, e20, e40, e60, if_true, if_false, eq_self, lt_s', rf1, rf2, rf4, rf6, no1, no2, no4, no6, lo1, lo4, lo6, lw1, lw2, lw4, lw6]
    exact ⟨_, _, _, _, _, rfl, rfl, h.refd 1⟩
  rcases rngC x2 0 99 (A := 0) (B := 99) rfl rfl (by decide) (by decide) with ⟨c1a, c1b⟩ | ⟨c1a, c1b⟩ | ⟨n, hn0, hn1, rfl, c1a, c1b⟩
  · obtain ⟨w2, t2⟩ := chT x3 2
    simp only [f_X6_personThen, f_X7_personThen, f_X7_personThen_16, f_X7_personThen_36, f_X7_notDays, c0a, c0b, c1a, c1b, t2, bd_s, fs0, fs1, fs2, fs4, fs6, e00, e01, e10, e20, e40, e60, if_true, if_false, eq_self, lt_s', rf1, rf2, rf4, rf6, no1, no2, no4, no6, lo1, lo4, lo6, lw1, lw2, lw4, lw6]
    exact ⟨_, _, _, _, _, rfl, rfl, h.refd 4⟩
  · obtain ⟨w2, t2⟩ := chT x3 2
    simp only [f_X6_personThen, f_X7_personThen, f_X7_personThen_16, f_X7_personThen_36, f_X7_notDays, c0a, c0b, c1a, c1b, t2, bd_s, fs0, fs1, fs2, fs4, fs6, e00, e01, e10, e20, e40, e60, if_true, if_false, eq_self, lt_s', rf1, rf2, rf4, rf6, no1, no2, no4, no6, lo1, lo4, lo6, lw1, lw2, lw4, lw6]
    exact ⟨_, _, _, _, _, rfl, rfl, h.refd 6⟩
  rcases chC x3 1 (K := 2) (K1 := 1) rfl rfl (by decide) with ⟨c2a, c2b, c2n⟩ | ⟨v, hv, rfl, c2a, c2b⟩
  · simp only [f_X6_personThen, f_X7_personThen, f_X7_personThen_16, f_X7_personThen_36, f_X7_notDays, c0a, c0b, c1a, c1b, c2a, c2b, bd_s, fs0, fs1, fs2, fs4, fs6, e00, e01, e10, e20, e40, e60, if_true, if_false, eq_self, lt_s', rf1, rf2, rf4, rf6, no1, no2, no4, no6, lo1, lo4, lo6, lw1, lw2, lw4, lw6]
    exact ⟨_, _, _, _, _, rfl, rfl, h.refd 2⟩
  · have kp := ckn (ok_p ok hp) (show 8 < 2147483648 by decide)
    have cp : (nI p).toNatClampNeg = p := cln (by have := ok_p ok hp; omega)
    obtain ⟨W', q1, hW⟩ := t_after (S := W) hT (n := n) (by omega)
    obtain ⟨N0, e0, k0, h0, o0⟩ := m_think hM ho
    obtain ⟨N1, e1, h1, f1⟩ := m_goesOn h0 (n := n) (by omega)
    obtain ⟨R, e2, z⟩ := m_forgets k0 f1
    have hp0 : p < dN n T 3 0 := by rw [dN_k T (by decide) (by decide) (by decide)]; exact hp
    obtain ⟨i4, i5, i6, i7⟩ := hW.2.2.2.2.2.1 p hp0
    obtain ⟨j4, j5, j6, j7⟩ := h1.2.2.2.2.2.1 p hp0
    rcases (show v = 0 ∨ v = 1 by omega) with rfl | rfl
    · simp only [f_X6_personThen, f_X7_personThen, f_X7_personThen_16, f_X7_personThen_36, f_X7_notDays, f_X7_personThen_76, nq00, kp, cp, q1, e0, e1, e2, i6, j6, c0a, c0b, c1a, c1b, c2a, c2b, bd_s, fs0, fs1, fs2, fs4, fs6, e00, e01, e10, e20, e40, e60, if_true, if_false, eq_self, lt_s', rf1, rf2, rf4, rf6, no1, no2, no4, no6, lo1, lo4, lo6, lw1, lw2, lw4, lw6]
      exact ⟨_, _, _, _, _, rfl, rfl, h.eqM z (by decide)⟩
    · simp only [f_X6_personThen, f_X7_personThen, f_X7_personThen_16, f_X7_personThen_36, f_X7_notDays, f_X7_personThen_76, nq10, kp, cp, q1, e0, e1, e2, i7, j7, c0a, c0b, c1a, c1b, c2a, c2b, bd_s, fs0, fs1, fs2, fs4, fs6, e00, e01, e10, e20, e40, e60, if_true, if_false, eq_self, lt_s', rf1, rf2, rf4, rf6, no1, no2, no4, no6, lo1, lo4, lo6, lw1, lw2, lw4, lw6]
      exact ⟨_, _, _, _, _, rfl, rfl, h.eqM z (by decide)⟩
set_option maxRecDepth 4000 in
theorem p_bellThen {T : Tw} {S U Ki L N M : G} (h : Inv T S U Ki L N M) (W : G) (x1 x2 x3 : Int32) : ∃ r S' U' W' M', f_X6_bellThen S U W x1 x2 x3 = some (r, (S', U', W')) ∧ f_X7_bellThen M x1 x2 x3 = some (r, M') ∧ InvE S' U' Ki L N M' := by
  obtain ⟨hT, hM, hd, ho, hrf, hN, hL, hI⟩ := id h
  have ok := hT.2.2.2.2.2.2
  have h6 := ok.1
  have h8 := ok.2.1
  rcases bellC (S := S) hT hM x1 with ⟨c0a, c0b⟩ | ⟨b, hb, rfl, c0a, c0b⟩
  · obtain ⟨w1, t1⟩ := rngT x2 0 99
    obtain ⟨w2, t2⟩ := chT x3 2
    simp only [f_X6_bellThen, f_X7_bellThen, f_X7_bellThen_16, f_X7_bellThen_36, f_X7_notDays, c0a, c0b, t1, t2, bd_s, fs0, fs1, fs2, fs4, fs6, e00, e01, e10, e20, e40, e60, if_true, if_false, eq_self, lt_s', rf1, rf2, rf4, rf6, no1, no2, no4, no6, lo1, lo4, lo6, lw1, lw2, lw4, lw6]
    exact ⟨_, _, _, _, _, rfl, rfl, h.refd 1⟩
  rcases rngC x2 0 99 (A := 0) (B := 99) rfl rfl (by decide) (by decide) with ⟨c1a, c1b⟩ | ⟨c1a, c1b⟩ | ⟨n, hn0, hn1, rfl, c1a, c1b⟩
  · obtain ⟨w2, t2⟩ := chT x3 2
    simp only [f_X6_bellThen, f_X7_bellThen, f_X7_bellThen_16, f_X7_bellThen_36, f_X7_notDays, c0a, c0b, c1a, c1b, t2, bd_s, fs0, fs1, fs2, fs4, fs6, e00, e01, e10, e20, e40, e60, if_true, if_false, eq_self, lt_s', rf1, rf2, rf4, rf6, no1, no2, no4, no6, lo1, lo4, lo6, lw1, lw2, lw4, lw6]
    exact ⟨_, _, _, _, _, rfl, rfl, h.refd 4⟩
  · obtain ⟨w2, t2⟩ := chT x3 2
    simp only [f_X6_bellThen, f_X7_bellThen, f_X7_bellThen_16, f_X7_bellThen_36, f_X7_notDays, c0a, c0b, c1a, c1b, t2, bd_s, fs0, fs1, fs2, fs4, fs6, e00, e01, e10, e20, e40, e60, if_true, if_false, eq_self, lt_s', rf1, rf2, rf4, rf6, no1, no2, no4, no6, lo1, lo4, lo6, lw1, lw2, lw4, lw6]
    exact ⟨_, _, _, _, _, rfl, rfl, h.refd 6⟩
  rcases chC x3 1 (K := 2) (K1 := 1) rfl rfl (by decide) with ⟨c2a, c2b, c2n⟩ | ⟨v, hv, rfl, c2a, c2b⟩
  · simp only [f_X6_bellThen, f_X7_bellThen, f_X7_bellThen_16, f_X7_bellThen_36, f_X7_notDays, c0a, c0b, c1a, c1b, c2a, c2b, bd_s, fs0, fs1, fs2, fs4, fs6, e00, e01, e10, e20, e40, e60, if_true, if_false, eq_self, lt_s', rf1, rf2, rf4, rf6, no1, no2, no4, no6, lo1, lo4, lo6, lw1, lw2, lw4, lw6]
    exact ⟨_, _, _, _, _, rfl, rfl, h.refd 2⟩
  · obtain ⟨W', q1, hW⟩ := t_after (S := W) hT (n := n) (by omega)
    obtain ⟨N0, e0, k0, h0, o0⟩ := m_think hM ho
    obtain ⟨N1, e1, h1, f1⟩ := m_goesOn h0 (n := n) (by omega)
    obtain ⟨R, e2, z⟩ := m_forgets k0 f1
    have o1 := rO_frw o0 f1
    have hb0 : b < dN n T 0 0 := by rw [dN_k T (by decide) (by decide) (by decide)]; exact hb
    have h80 : dN n T 8 0 < 1000000 := by rw [dN_8]; omega
    rcases (show v = 0 ∨ v = 1 by omega) with rfl | rfl
    · simp only [f_X6_bellThen, f_X7_bellThen, f_X7_bellThen_16, f_X7_bellThen_36, f_X7_notDays, f_X7_bellThen_87, nq00, q1, e0, e1, e2, t_hearersOf hW hb0, m_hearers' h1 o1 hb0, c0a, c0b, c1a, c1b, c2a, c2b, bd_s, fs0, fs1, fs2, fs4, fs6, e00, e01, e10, e20, e40, e60, if_true, if_false, eq_self, lt_s', rf1, rf2, rf4, rf6, no1, no2, no4, no6, lo1, lo4, lo6, lw1, lw2, lw4, lw6]
      exact ⟨_, _, _, _, _, rfl, rfl, h.eqM z (by decide)⟩
    · have g1 := t_isRinging hW hb0 h80
      have g2 := m_ringsNow h1 hb0 h80
      cases y : rg (dN n T) b with
      | true =>
        rw [y] at g1 g2
        simp only [f_X6_bellThen, f_X7_bellThen, f_X7_bellThen_16, f_X7_bellThen_36, f_X7_notDays, f_X7_bellThen_87, nq10, q1, e0, e1, e2, t_hearersOf hW hb0, g1, g2, bT, t_said hW hb0, m_saidOf' h1 o1 hb0, c0a, c0b, c1a, c1b, c2a, c2b, bd_s, fs0, fs1, fs2, fs4, fs6, e00, e01, e10, e20, e40, e60, if_true, if_false, eq_self, lt_s', rf1, rf2, rf4, rf6, no1, no2, no4, no6, lo1, lo4, lo6, lw1, lw2, lw4, lw6]
        exact ⟨_, _, _, _, _, rfl, rfl, h.eqM z (by decide)⟩
      | false =>
        rw [y] at g1 g2
        simp only [f_X6_bellThen, f_X7_bellThen, f_X7_bellThen_16, f_X7_bellThen_36, f_X7_notDays, f_X7_bellThen_87, nq10, q1, e0, e1, e2, t_hearersOf hW hb0, g1, g2, bF, c0a, c0b, c1a, c1b, c2a, c2b, bd_s, fs0, fs1, fs2, fs4, fs6, e00, e01, e10, e20, e40, e60, if_true, if_false, eq_self, lt_s', rf1, rf2, rf4, rf6, no1, no2, no4, no6, lo1, lo4, lo6, lw1, lw2, lw4, lw6]
        exact ⟨_, _, _, _, _, rfl, rfl, h.eqM z (by decide)⟩
set_option maxRecDepth 4000 in
theorem p_deaf {T : Tw} {S U Ki L N M : G} (h : Inv T S U Ki L N M) (W : G) (x1 : Int32) : ∃ r S' U' W' M', f_X6_deaf S U W x1 = some (r, (S', U', W')) ∧ f_X7_deaf M x1 = some (r, M') ∧ InvE S' U' Ki L N M' := by
  obtain ⟨hT, hM, hd, ho, hrf, hN, hL, hI⟩ := id h
  have ok := hT.2.2.2.2.2.2
  have h6 := ok.1
  have h8 := ok.2.1
  rcases oneC (S := S) hT hM x1 with ⟨c0a, c0b⟩ | ⟨p, hp, rfl, c0a, c0b⟩
  · simp only [f_X6_deaf, f_X7_deaf, c0a, c0b, bd_s, fs0, fs1, fs2, fs4, fs6, e00, e01, e10, e20, e40, e60, if_true, if_false, eq_self, lt_s', rf1, rf2, rf4, rf6, no1, no2, no4, no6, lo1, lo4, lo6, lw1, lw2, lw4, lw6]
    exact ⟨_, _, _, _, _, rfl, rfl, h.refd 1⟩
  · obtain ⟨W', q1⟩ := t_deafAfter (S := W) hT hp
    obtain ⟨M', q2, z⟩ := m_deafAt hM ho hp
    simp only [f_X6_deaf, f_X7_deaf, q1, q2, c0a, c0b, bd_s, fs0, fs1, fs2, fs4, fs6, e00, e01, e10, e20, e40, e60, if_true, if_false, eq_self, lt_s', rf1, rf2, rf4, rf6, no1, no2, no4, no6, lo1, lo4, lo6, lw1, lw2, lw4, lw6]
    exact ⟨_, _, _, _, _, rfl, rfl, h.eqM z (by decide)⟩
set_option maxRecDepth 4000 in
theorem p_lost {T : Tw} {S U Ki L N M : G} (h : Inv T S U Ki L N M) (W : G) (x1 : Int32) : ∃ r S' U' W' M', f_X6_lost S U W x1 = some (r, (S', U', W')) ∧ f_X7_lost M x1 = some (r, M') ∧ InvE S' U' Ki L N M' := by
  obtain ⟨hT, hM, hd, ho, hrf, hN, hL, hI⟩ := id h
  have ok := hT.2.2.2.2.2.2
  have h6 := ok.1
  have h8 := ok.2.1
  rcases chC x1 1 (K := 2) (K1 := 1) rfl rfl (by decide) with ⟨c0a, c0b, c0n⟩ | ⟨v, hv, rfl, c0a, c0b⟩
  · simp only [f_X6_lost, f_X7_lost, f_X6_lost_33, c0a, c0b, bd_s, fs0, fs1, fs2, fs4, fs6, e00, e01, e10, e20, e40, e60, if_true, if_false, eq_self, lt_s', rf1, rf2, rf4, rf6, no1, no2, no4, no6, lo1, lo4, lo6, lw1, lw2, lw4, lw6]
    exact ⟨_, _, _, _, _, rfl, rfl, h.refd 2⟩
  · rcases (show v = 0 ∨ v = 1 by omega) with rfl | rfl
    · obtain ⟨W', q1⟩ := t_firstLost (S := W) (w := true) hT
      replace q1 : f_X1_firstLost W U 1 = _ := q1
      obtain ⟨M', q2, z⟩ := m_lost (w := 0) hM ho (by decide)
      simp only [f_X6_lost, f_X7_lost, f_X6_lost_33, nq00, q1, q2, c0a, c0b, bd_s, fs0, fs1, fs2, fs4, fs6, e00, e01, e10, e20, e40, e60, if_true, if_false, eq_self, lt_s', rf1, rf2, rf4, rf6, no1, no2, no4, no6, lo1, lo4, lo6, lw1, lw2, lw4, lw6]
      exact ⟨_, _, _, _, _, rfl, rfl, h.eqM z (by decide)⟩
    · obtain ⟨W', q1⟩ := t_firstLost (S := W) (w := false) hT
      replace q1 : f_X1_firstLost W U 0 = _ := q1
      obtain ⟨M', q2, z⟩ := m_lost (w := 1) hM ho (by decide)
      simp only [f_X6_lost, f_X7_lost, f_X6_lost_33, nq10, q1, q2, c0a, c0b, bd_s, fs0, fs1, fs2, fs4, fs6, e00, e01, e10, e20, e40, e60, if_true, if_false, eq_self, lt_s', rf1, rf2, rf4, rf6, no1, no2, no4, no6, lo1, lo4, lo6, lw1, lw2, lw4, lw6]
      exact ⟨_, _, _, _, _, rfl, rfl, h.eqM z (by decide)⟩
set_option maxRecDepth 4000 in
theorem p_rings {T : Tw} {S U Ki L N M : G} (h : Inv T S U Ki L N M) (W : G) (x1 x2 x3 : Int32) : ∃ r S' U' W' M', f_X6_rings S U W x1 x2 x3 = some (r, (S', U', W')) ∧ f_X7_rings M x1 x2 x3 = some (r, M') ∧ InvE S' U' Ki L N M' := by
  obtain ⟨hT, hM, hd, ho, hrf, hN, hL, hI⟩ := id h
  have ok := hT.2.2.2.2.2.2
  have h6 := ok.1
  have h8 := ok.2.1
  rcases bellC (S := S) hT hM x1 with ⟨c0a, c0b⟩ | ⟨b, hb, rfl, c0a, c0b⟩
  · obtain ⟨w1, t1⟩ := rngT x2 1 40
    obtain ⟨w2, t2⟩ := chT x3 2
    simp only [f_X6_rings, f_X7_rings, f_X7_rings_19, f_X7_rings_39, c0a, c0b, t1, t2, bd_s, fs0, fs1, fs2, fs4, fs6, e00, e01, e10, e20, e40, e60, if_true, if_false, eq_self, lt_s', rf1, rf2, rf4, rf6, no1, no2, no4, no6, lo1, lo4, lo6, lw1, lw2, lw4, lw6]
    exact ⟨_, _, _, _, _, rfl, rfl, h.refd 1⟩
  rcases rngC x2 1 40 (A := 1) (B := 40) rfl rfl (by decide) (by decide) with ⟨c1a, c1b⟩ | ⟨c1a, c1b⟩ | ⟨n, hn0, hn1, rfl, c1a, c1b⟩
  · obtain ⟨w2, t2⟩ := chT x3 2
    simp only [f_X6_rings, f_X7_rings, f_X7_rings_19, f_X7_rings_39, c0a, c0b, c1a, c1b, t2, bd_s, fs0, fs1, fs2, fs4, fs6, e00, e01, e10, e20, e40, e60, if_true, if_false, eq_self, lt_s', rf1, rf2, rf4, rf6, no1, no2, no4, no6, lo1, lo4, lo6, lw1, lw2, lw4, lw6]
    exact ⟨_, _, _, _, _, rfl, rfl, h.refd 4⟩
  · obtain ⟨w2, t2⟩ := chT x3 2
    simp only [f_X6_rings, f_X7_rings, f_X7_rings_19, f_X7_rings_39, c0a, c0b, c1a, c1b, t2, bd_s, fs0, fs1, fs2, fs4, fs6, e00, e01, e10, e20, e40, e60, if_true, if_false, eq_self, lt_s', rf1, rf2, rf4, rf6, no1, no2, no4, no6, lo1, lo4, lo6, lw1, lw2, lw4, lw6]
    exact ⟨_, _, _, _, _, rfl, rfl, h.refd 6⟩
  rcases chC x3 1 (K := 2) (K1 := 1) rfl rfl (by decide) with ⟨c2a, c2b, c2n⟩ | ⟨v, hv, rfl, c2a, c2b⟩
  · simp only [f_X6_rings, f_X7_rings, f_X7_rings_19, f_X7_rings_39, c0a, c0b, c1a, c1b, c2a, c2b, bd_s, fs0, fs1, fs2, fs4, fs6, e00, e01, e10, e20, e40, e60, if_true, if_false, eq_self, lt_s', rf1, rf2, rf4, rf6, no1, no2, no4, no6, lo1, lo4, lo6, lw1, lw2, lw4, lw6]
    exact ⟨_, _, _, _, _, rfl, rfl, h.refd 2⟩
  · rcases (show v = 0 ∨ v = 1 by omega) with rfl | rfl
    · obtain ⟨W', q1⟩ := t_rightDays (S := W) hT hb hn1 (by omega)
      obtain ⟨M', q2, z⟩ := m_ringing (w := true) hM ho hb hn1 (by omega)
      replace q2 : f_X7_ringing M (nI b) (nI n) 1 = some (nI (rdays T b 1 n), M') := q2
      simp only [f_X6_rings, f_X7_rings, f_X7_rings_19, f_X7_rings_39, f_X7_rings_65, nq00, q1, q2, c0a, c0b, c1a, c1b, c2a, c2b, bd_s, fs0, fs1, fs2, fs4, fs6, e00, e01, e10, e20, e40, e60, if_true, if_false, eq_self, lt_s', rf1, rf2, rf4, rf6, no1, no2, no4, no6, lo1, lo4, lo6, lw1, lw2, lw4, lw6]
      exact ⟨_, _, _, _, _, rfl, rfl, h.eqM z (by decide)⟩
    · obtain ⟨W', q1⟩ := t_unheardDays (S := W) hT hb hn1 (by omega)
      obtain ⟨M', q2, z⟩ := m_ringing (w := false) hM ho hb hn1 (by omega)
      replace q2 : f_X7_ringing M (nI b) (nI n) 0 = some (nI (udays T b n), M') := q2
      simp only [f_X6_rings, f_X7_rings, f_X7_rings_19, f_X7_rings_39, f_X7_rings_65, nq10, q1, q2, c0a, c0b, c1a, c1b, c2a, c2b, bd_s, fs0, fs1, fs2, fs4, fs6, e00, e01, e10, e20, e40, e60, if_true, if_false, eq_self, lt_s', rf1, rf2, rf4, rf6, no1, no2, no4, no6, lo1, lo4, lo6, lw1, lw2, lw4, lw6]
      exact ⟨_, _, _, _, _, rfl, rfl, h.eqM z (by decide)⟩
set_option maxRecDepth 4000 in
theorem p_nightsFor {T : Tw} {S U Ki L N M : G} (h : Inv T S U Ki L N M) (P : G) (Q : G) (x1 x2 : Int32) : ∃ r S' U' P' Q' M', f_X6_nightsFor S U P Q x1 x2 = some (r, (S', U', P', Q')) ∧ f_X7_nightsFor M x1 x2 = some (r, M') ∧ InvE S' U' Ki L N M' := by
  obtain ⟨hT, hM, hd, ho, hrf, hN, hL, hI⟩ := id h
  have ok := hT.2.2.2.2.2.2
  have h6 := ok.1
  have h8 := ok.2.1
  rcases oneC (S := S) hT hM x1 with ⟨c0a, c0b⟩ | ⟨p, hp, rfl, c0a, c0b⟩
  · obtain ⟨w1, t1⟩ := rngT x2 1 40
    simp only [f_X6_nightsFor, f_X7_nightsFor, f_X7_nightsFor_19, c0a, c0b, t1, bd_s, fs0, fs1, fs2, fs4, fs6, e00, e01, e10, e20, e40, e60, if_true, if_false, eq_self, lt_s', rf1, rf2, rf4, rf6, no1, no2, no4, no6, lo1, lo4, lo6, lw1, lw2, lw4, lw6]
    exact ⟨_, _, _, _, _, _, rfl, rfl, h.refd 1⟩
  rcases rngC x2 1 40 (A := 1) (B := 40) rfl rfl (by decide) (by decide) with ⟨c1a, c1b⟩ | ⟨c1a, c1b⟩ | ⟨n, hn0, hn1, rfl, c1a, c1b⟩
  · simp only [f_X6_nightsFor, f_X7_nightsFor, f_X7_nightsFor_19, c0a, c0b, c1a, c1b, bd_s, fs0, fs1, fs2, fs4, fs6, e00, e01, e10, e20, e40, e60, if_true, if_false, eq_self, lt_s', rf1, rf2, rf4, rf6, no1, no2, no4, no6, lo1, lo4, lo6, lw1, lw2, lw4, lw6]
    exact ⟨_, _, _, _, _, _, rfl, rfl, h.refd 4⟩
  · simp only [f_X6_nightsFor, f_X7_nightsFor, f_X7_nightsFor_19, c0a, c0b, c1a, c1b, bd_s, fs0, fs1, fs2, fs4, fs6, e00, e01, e10, e20, e40, e60, if_true, if_false, eq_self, lt_s', rf1, rf2, rf4, rf6, no1, no2, no4, no6, lo1, lo4, lo6, lw1, lw2, lw4, lw6]
    exact ⟨_, _, _, _, _, _, rfl, rfl, h.refd 6⟩
  · obtain ⟨Q', q1⟩ := t_bestNights (S := P) (S0 := Q) hT hp hn1 (by omega)
    obtain ⟨M', q2, z⟩ := m_nightsFor hM ho hp hn1 (by omega)
    simp only [f_X6_nightsFor, f_X7_nightsFor, q1, q2, c0a, c0b, c1a, c1b, bd_s, fs0, fs1, fs2, fs4, fs6, e00, e01, e10, e20, e40, e60, if_true, if_false, eq_self, lt_s', rf1, rf2, rf4, rf6, no1, no2, no4, no6, lo1, lo4, lo6, lw1, lw2, lw4, lw6]
    exact ⟨_, _, _, _, _, _, rfl, rfl, h.eqM z (by decide)⟩
set_option maxRecDepth 4000 in
theorem p_fewest {T : Tw} {S U Ki L N M : G} (h : Inv T S U Ki L N M) (P : G) (Q : G) (x1 : Int32) : ∃ r S' U' P' Q' M', f_X6_fewest S U P Q x1 = some (r, (S', U', P', Q')) ∧ f_X7_fewest M x1 = some (r, M') ∧ InvE S' U' Ki L N M' := by
  obtain ⟨hT, hM, hd, ho, hrf, hN, hL, hI⟩ := id h
  have ok := hT.2.2.2.2.2.2
  have h6 := ok.1
  have h8 := ok.2.1
  rcases rngC x1 0 40 (A := 0) (B := 40) rfl rfl (by decide) (by decide) with ⟨c0a, c0b⟩ | ⟨c0a, c0b⟩ | ⟨n, hn0, hn1, rfl, c0a, c0b⟩
  · simp only [f_X6_fewest, f_X7_fewest, c0a, c0b, bd_s, fs0, fs1, fs2, fs4, fs6, e00, e01, e10, e20, e40, e60, if_true, if_false, eq_self, lt_s', rf1, rf2, rf4, rf6, no1, no2, no4, no6, lo1, lo4, lo6, lw1, lw2, lw4, lw6]
    exact ⟨_, _, _, _, _, _, rfl, rfl, h.refd 4⟩
  · simp only [f_X6_fewest, f_X7_fewest, c0a, c0b, bd_s, fs0, fs1, fs2, fs4, fs6, e00, e01, e10, e20, e40, e60, if_true, if_false, eq_self, lt_s', rf1, rf2, rf4, rf6, no1, no2, no4, no6, lo1, lo4, lo6, lw1, lw2, lw4, lw6]
    exact ⟨_, _, _, _, _, _, rfl, rfl, h.refd 6⟩
  · obtain ⟨Q', q1⟩ := t_fewestToSend (S := P) (S0 := Q) hT (n := n) (by omega)
    obtain ⟨M', q2, z⟩ := m_fewest hM ho (n := n) (by omega)
    simp only [f_X6_fewest, f_X7_fewest, q1, q2, c0a, c0b, bd_s, fs0, fs1, fs2, fs4, fs6, e00, e01, e10, e20, e40, e60, if_true, if_false, eq_self, lt_s', rf1, rf2, rf4, rf6, no1, no2, no4, no6, lo1, lo4, lo6, lw1, lw2, lw4, lw6]
    exact ⟨_, _, _, _, _, _, rfl, rfl, h.eqM z (by decide)⟩
