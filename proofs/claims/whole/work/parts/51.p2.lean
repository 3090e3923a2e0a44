set_option maxRecDepth 4000 in
theorem p_ask {T : Tw} {S U Ki L N M : G} (h : Inv T S U Ki L N M) (W : G) (x1 : Int32) : ∃ r S' U' W' M', f_X6_ask S U W x1 = some (r, (S', U', W')) ∧ f_X7_ask M x1 = some (r, M') ∧ InvE S' U' Ki L N M' := by
  obtain ⟨hT, hM, hd, ho, hrf, hN, hL, hI⟩ := id h
  have ok := hT.2.2.2.2.2.2
  have h6 := ok.1
  have h8 := ok.2.1
  rcases bellC (S := S) hT hM x1 with ⟨c0a, c0b⟩ | ⟨b, hb, rfl, c0a, c0b⟩
  · simp only [f_X6_ask, f_X7_ask, c0a, c0b, bd_s, fs0, fs1, fs2, fs4, fs6, e00, e01, e10, e20, e40, e60, if_true, if_false, eq_self, lt_s', rf1, rf2, rf4, rf6, no1, no2, no4, no6, lo1, lo4, lo6, lw1, lw2, lw4, lw6]
    exact ⟨_, _, _, _, _, rfl, rfl, h.refd 1⟩
  · obtain ⟨W', q1⟩ := t_longestRight (S := W) hT hb
    obtain ⟨M', q2, z⟩ := m_ask hM ho hb
    simp only [f_X6_ask, f_X7_ask, q1, q2, c0a, c0b, bd_s, fs0, fs1, fs2, fs4, fs6, e00, e01, e10, e20, e40, e60, if_true, if_false, eq_self, lt_s', rf1, rf2, rf4, rf6, no1, no2, no4, no6, lo1, lo4, lo6, lw1, lw2, lw4, lw6]
    exact ⟨_, _, _, _, _, rfl, rfl, h.eqM z (by decide)⟩
set_option maxRecDepth 4000 in
theorem p_leave {T : Tw} {S U Ki L N M : G} (h : Inv T S U Ki L N M) (V : G) : ∃ r S' U' V' M', f_X6_leave S U V = some (r, (S', U', V')) ∧ f_X7_leave M = some (r, M') ∧ InvE S' U' Ki L N M' := by
  obtain ⟨hT, hM, hd, ho, hrf, hN, hL, hI⟩ := id h
  have ok := hT.2.2.2.2.2.2
  have h6 := ok.1
  have h8 := ok.2.1
  simp only [f_X6_leave, t_whomToLeaveOut hT, m_leave hM ho, bd_s]
  exact ⟨_, _, _, _, _, rfl, rfl, h.self⟩
set_option maxRecDepth 4000 in
theorem p_right {T : Tw} {S U Ki L N M : G} (h : Inv T S U Ki L N M) (V : G) (W : G) (x1 : Int32) : ∃ r S' U' V' W' M', f_X6_right S U V W x1 = some (r, (S', U', V', W')) ∧ f_X7_right M x1 = some (r, M') ∧ InvE S' U' Ki L N M' := by
  obtain ⟨hT, hM, hd, ho, hrf, hN, hL, hI⟩ := id h
  have ok := hT.2.2.2.2.2.2
  have h6 := ok.1
  have h8 := ok.2.1
  rcases chC x1 2 (K := 3) (K1 := 2) rfl rfl (by decide) with ⟨c0a, c0b, c0n⟩ | ⟨v, hv, rfl, c0a, c0b⟩
  · simp only [f_X6_right, f_X7_right, c0a, c0b, bd_s, fs0, fs1, fs2, fs4, fs6, e00, e01, e10, e20, e40, e60, if_true, if_false, eq_self, lt_s', rf1, rf2, rf4, rf6, no1, no2, no4, no6, lo1, lo4, lo6, lw1, lw2, lw4, lw6]
    exact ⟨_, _, _, _, _, _, rfl, rfl, h.refd 2⟩
  · rcases (show v = 0 ∨ v = 1 ∨ v = 2 by omega) with rfl | rfl | rfl
    · simp only [f_X6_right, f_X7_right, nq00, t_rightBells0 hT, m_manyTrue hM ho, c0a, c0b, bd_s, fs0, fs1, fs2, fs4, fs6, e00, e01, e10, e20, e40, e60, if_true, if_false, eq_self, lt_s', rf1, rf2, rf4, rf6, no1, no2, no4, no6, lo1, lo4, lo6, lw1, lw2, lw4, lw6]
      exact ⟨_, _, _, _, _, _, rfl, rfl, h.self⟩
    · simp only [f_X6_right, f_X7_right, nq10, nq11, t_wrongBells hT, m_manyWrong hM ho, c0a, c0b, bd_s, fs0, fs1, fs2, fs4, fs6, e00, e01, e10, e20, e40, e60, if_true, if_false, eq_self, lt_s', rf1, rf2, rf4, rf6, no1, no2, no4, no6, lo1, lo4, lo6, lw1, lw2, lw4, lw6]
      exact ⟨_, _, _, _, _, _, rfl, rfl, h.self⟩
    · obtain ⟨W', q1⟩ := t_lastDeaf (S := W) hT
      obtain ⟨M', q2, z⟩ := m_lastOne hM ho
      simp only [f_X6_right, f_X7_right, nq20, nq21, q1, q2, c0a, c0b, bd_s, fs0, fs1, fs2, fs4, fs6, e00, e01, e10, e20, e40, e60, if_true, if_false, eq_self, lt_s', rf1, rf2, rf4, rf6, no1, no2, no4, no6, lo1, lo4, lo6, lw1, lw2, lw4, lw6]
      exact ⟨_, _, _, _, _, _, rfl, rfl, h.eqM z (by decide)⟩
set_option maxRecDepth 4000 in
theorem p_clash {T : Tw} {S U Ki L N M : G} (h : Inv T S U Ki L N M) (V : G) (x1 : Int32) : ∃ r S' U' V' M', f_X6_clash S U V x1 = some (r, (S', U', V')) ∧ f_X7_clash M x1 = some (r, M') ∧ InvE S' U' Ki L N M' := by
  obtain ⟨hT, hM, hd, ho, hrf, hN, hL, hI⟩ := id h
  have ok := hT.2.2.2.2.2.2
  have h6 := ok.1
  have h8 := ok.2.1
  rcases chC x1 1 (K := 2) (K1 := 1) rfl rfl (by decide) with ⟨c0a, c0b, c0n⟩ | ⟨v, hv, rfl, c0a, c0b⟩
  · simp only [f_X6_clash, f_X7_clash, c0a, c0b, bd_s, fs0, fs1, fs2, fs4, fs6, e00, e01, e10, e20, e40, e60, if_true, if_false, eq_self, lt_s', rf1, rf2, rf4, rf6, no1, no2, no4, no6, lo1, lo4, lo6, lw1, lw2, lw4, lw6]
    exact ⟨_, _, _, _, _, rfl, rfl, h.refd 2⟩
  · have q := m_clash (w := v) hM ho hv
    rcases (show v = 0 ∨ v = 1 by omega) with rfl | rfl
    · simp only [f_X6_clash, f_X7_clash, nq00, t_clashes hT, q, c0a, c0b, bd_s, fs0, fs1, fs2, fs4, fs6, e00, e01, e10, e20, e40, e60, if_true, if_false, eq_self, lt_s', rf1, rf2, rf4, rf6, no1, no2, no4, no6, lo1, lo4, lo6, lw1, lw2, lw4, lw6]
      exact ⟨_, _, _, _, _, rfl, rfl, h.self⟩
    · simp only [f_X6_clash, f_X7_clash, nq10, t_firstClash hT, q, c0a, c0b, bd_s, fs0, fs1, fs2, fs4, fs6, e00, e01, e10, e20, e40, e60, if_true, if_false, eq_self, lt_s', rf1, rf2, rf4, rf6, no1, no2, no4, no6, lo1, lo4, lo6, lw1, lw2, lw4, lw6]
      exact ⟨_, _, _, _, _, rfl, rfl, h.self⟩
set_option maxRecDepth 4000 in
theorem p_agreed {T : Tw} {S U Ki L N M : G} (h : Inv T S U Ki L N M) (V : G) (x1 : Int32) : ∃ r S' U' V' M', f_X6_agreed S U V x1 = some (r, (S', U', V')) ∧ f_X7_agreed M x1 = some (r, M') ∧ InvE S' U' Ki L N M' := by
  obtain ⟨hT, hM, hd, ho, hrf, hN, hL, hI⟩ := id h
  have ok := hT.2.2.2.2.2.2
  have h6 := ok.1
  have h8 := ok.2.1
  rcases chC x1 1 (K := 2) (K1 := 1) rfl rfl (by decide) with ⟨c0a, c0b, c0n⟩ | ⟨v, hv, rfl, c0a, c0b⟩
  · simp only [f_X6_agreed, f_X7_agreed, c0a, c0b, bd_s, fs0, fs1, fs2, fs4, fs6, e00, e01, e10, e20, e40, e60, if_true, if_false, eq_self, lt_s', rf1, rf2, rf4, rf6, no1, no2, no4, no6, lo1, lo4, lo6, lw1, lw2, lw4, lw6]
    exact ⟨_, _, _, _, _, rfl, rfl, h.refd 2⟩
  · obtain ⟨V', q1⟩ := t_mostAgreed (S := V) hT
    have q := m_agreed (w := v) hM ho hv
    have hb := bst_le (agH T) (2 ^ T 3 0 - 1)
    have hpw : 2 ^ (T 3 0) ≤ 2 ^ 8 := Nat.pow_le_pow_right (by decide) h8
    have q3 := jbits (bst (agH T) (2 ^ T 3 0 - 1)) (by omega)
    rcases (show v = 0 ∨ v = 1 by omega) with rfl | rfl
    · simp only [f_X6_agreed, f_X7_agreed, nq00, q1, q, q3, c0a, c0b, bd_s, fs0, fs1, fs2, fs4, fs6, e00, e01, e10, e20, e40, e60, if_true, if_false, eq_self, lt_s', rf1, rf2, rf4, rf6, no1, no2, no4, no6, lo1, lo4, lo6, lw1, lw2, lw4, lw6]
      exact ⟨_, _, _, _, _, rfl, rfl, h.self⟩
    · simp only [f_X6_agreed, f_X7_agreed, nq10, q1, q, q3, c0a, c0b, bd_s, fs0, fs1, fs2, fs4, fs6, e00, e01, e10, e20, e40, e60, if_true, if_false, eq_self, lt_s', rf1, rf2, rf4, rf6, no1, no2, no4, no6, lo1, lo4, lo6, lw1, lw2, lw4, lw6]
      exact ⟨_, _, _, _, _, rfl, rfl, h.self⟩
set_option maxRecDepth 4000 in
theorem p_hours {T : Tw} {S U Ki L N M : G} (h : Inv T S U Ki L N M) (V : G) (x1 : Int32) : ∃ r S' U' V' M', f_X6_hours S U V x1 = some (r, (S', U', V')) ∧ f_X7_hours M x1 = some (r, M') ∧ InvE S' U' Ki L N M' := by
  obtain ⟨hT, hM, hd, ho, hrf, hN, hL, hI⟩ := id h
  have ok := hT.2.2.2.2.2.2
  have h6 := ok.1
  have h8 := ok.2.1
  rcases chC x1 1 (K := 2) (K1 := 1) rfl rfl (by decide) with ⟨c0a, c0b, c0n⟩ | ⟨v, hv, rfl, c0a, c0b⟩
  · simp only [f_X6_hours, f_X7_hours, c0a, c0b, bd_s, fs0, fs1, fs2, fs4, fs6, e00, e01, e10, e20, e40, e60, if_true, if_false, eq_self, lt_s', rf1, rf2, rf4, rf6, no1, no2, no4, no6, lo1, lo4, lo6, lw1, lw2, lw4, lw6]
    exact ⟨_, _, _, _, _, rfl, rfl, h.refd 2⟩
  · have q := m_hours (w := v) hM ho hv
    rcases (show v = 0 ∨ v = 1 by omega) with rfl | rfl
    · simp only [f_X6_hours, f_X7_hours, nq00, t_hoursSaid hT, q, c0a, c0b, bd_s, fs0, fs1, fs2, fs4, fs6, e00, e01, e10, e20, e40, e60, if_true, if_false, eq_self, lt_s', rf1, rf2, rf4, rf6, no1, no2, no4, no6, lo1, lo4, lo6, lw1, lw2, lw4, lw6]
      exact ⟨_, _, _, _, _, rfl, rfl, h.self⟩
    · simp only [f_X6_hours, f_X7_hours, nq10, t_silentBells hT, q, c0a, c0b, bd_s, fs0, fs1, fs2, fs4, fs6, e00, e01, e10, e20, e40, e60, if_true, if_false, eq_self, lt_s', rf1, rf2, rf4, rf6, no1, no2, no4, no6, lo1, lo4, lo6, lw1, lw2, lw4, lw6]
      exact ⟨_, _, _, _, _, rfl, rfl, h.self⟩
set_option maxRecDepth 4000 in
theorem p_bedsFor {T : Tw} {S U Ki L N M : G} (h : Inv T S U Ki L N M) (P : G) (Q : G) (x1 : Int32) : ∃ r S' U' P' Q' M', f_X6_bedsFor S U P Q x1 = some (r, (S', U', P', Q')) ∧ f_X7_bedsFor M x1 = some (r, M') ∧ InvE S' U' Ki L N M' := by
  obtain ⟨hT, hM, hd, ho, hrf, hN, hL, hI⟩ := id h
  have ok := hT.2.2.2.2.2.2
  have h6 := ok.1
  have h8 := ok.2.1
  rcases rngC x1 0 40 (A := 0) (B := 40) rfl rfl (by decide) (by decide) with ⟨c0a, c0b⟩ | ⟨c0a, c0b⟩ | ⟨n, hn0, hn1, rfl, c0a, c0b⟩
  · simp only [f_X6_bedsFor, f_X7_bedsFor, c0a, c0b, bd_s, fs0, fs1, fs2, fs4, fs6, e00, e01, e10, e20, e40, e60, if_true, if_false, eq_self, lt_s', rf1, rf2, rf4, rf6, no1, no2, no4, no6, lo1, lo4, lo6, lw1, lw2, lw4, lw6]
    exact ⟨_, _, _, _, _, _, rfl, rfl, h.refd 4⟩
  · simp only [f_X6_bedsFor, f_X7_bedsFor, c0a, c0b, bd_s, fs0, fs1, fs2, fs4, fs6, e00, e01, e10, e20, e40, e60, if_true, if_false, eq_self, lt_s', rf1, rf2, rf4, rf6, no1, no2, no4, no6, lo1, lo4, lo6, lw1, lw2, lw4, lw6]
    exact ⟨_, _, _, _, _, _, rfl, rfl, h.refd 6⟩
  · obtain ⟨Q', q1⟩ := t_fewestBeds (S := P) (S0 := Q) hT (n := n) (by omega)
    obtain ⟨M', q2, z⟩ := m_bedsFor hM ho (n := n) (by omega)
    simp only [f_X6_bedsFor, f_X7_bedsFor, q1, q2, c0a, c0b, bd_s, fs0, fs1, fs2, fs4, fs6, e00, e01, e10, e20, e40, e60, if_true, if_false, eq_self, lt_s', rf1, rf2, rf4, rf6, no1, no2, no4, no6, lo1, lo4, lo6, lw1, lw2, lw4, lw6]
    exact ⟨_, _, _, _, _, _, rfl, rfl, h.eqM z (by decide)⟩
