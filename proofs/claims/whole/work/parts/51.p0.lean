theorem m_hearers' {M : G} {T : Tw} {b : Nat} (h : rM M T) (ho : rO M none) (hb : b < T 0 0) : f_X7_hearers M (nI b) = some (nI (mk (fun p => hears T p b) (T 3 0)), M) := by
  rw [m_hearers h ho hb, mk_cong (g := fun p => hears T p b) _ (fun p _ => hO_none T p b)]
theorem m_saidOf' {M : G} {T : Tw} {b : Nat} (h : rM M T) (ho : rO M none) (hb : b < T 0 0) : f_X7_saidOf M (nI b) = some (saidI T (fun p => hears T p b) b, M) := by
  rw [m_saidOf h ho hb, said_hears]
theorem bT : (bI true = 0) = False := eq_false (by decide)
theorem bF : (bI false = 0) = True := eq_true rfl
theorem ff1 : (false = true) = False := eq_false (by decide)
set_option maxRecDepth 4000 in
theorem p_bell {T : Tw} {S U Ki L N M : G} (h : Inv T S U Ki L N M) (x1 x2 : Int32) : ∃ r S' U' M', f_X6_bell S U x1 x2 = some (r, (S', U')) ∧ f_X7_bell M x1 x2 = some (r, M') ∧ InvE S' U' Ki L N M' := by
  obtain ⟨hT, hM, hd, ho, hrf, hN, hL, hI⟩ := id h
  have ok := hT.2.2.2.2.2.2
  have h6 := ok.1
  have h8 := ok.2.1
  rcases bellC (S := S) hT hM x1 with ⟨c0a, c0b⟩ | ⟨b, hb, rfl, c0a, c0b⟩
  · obtain ⟨w1, t1⟩ := chT x2 4
    simp only [f_X6_bell, f_X7_bell, c0a, c0b, t1, bd_s, fs0, fs1, fs2, fs4, fs6, e00, e01, e10, e20, e40, e60, if_true, if_false, eq_self, lt_s', rf1, rf2, rf4, rf6, no1, no2, no4, no6, lo1, lo4, lo6, lw1, lw2, lw4, lw6]
    exact ⟨_, _, _, _, rfl, rfl, h.refd 1⟩
  rcases chC x2 3 (K := 4) (K1 := 3) rfl rfl (by decide) with ⟨c1a, c1b, c1n⟩ | ⟨v, hv, rfl, c1a, c1b⟩
  · have n0 : ¬ x2 = (0 : Int32) := c1n 0 (by decide)
    have n1 : ¬ x2 = (1 : Int32) := c1n 1 (by decide)
    have n2 : ¬ x2 = (2 : Int32) := c1n 2 (by decide)
    have n3 : ¬ x2 = (3 : Int32) := c1n 3 (by decide)
    simp only [f_X6_bell, f_X7_bell, c0a, c0b, c1a, c1b, n0, n1, n2, n3, bd_s, fs0, fs1, fs2, fs4, fs6, e00, e01, e10, e20, e40, e60, if_true, if_false, eq_self, lt_s', rf1, rf2, rf4, rf6, no1, no2, no4, no6, lo1, lo4, lo6, lw1, lw2, lw4, lw6]
    exact ⟨_, _, _, _, rfl, rfl, h.refd 2⟩
  · have kb := ckn (ok_b ok hb) (show 6 < 2147483648 by decide)
    have cb : (nI b).toNatClampNeg = b := cln (by have := ok_b ok hb; omega)
    obtain ⟨i1, i2⟩ := hT.2.2.2.2.1 b hb
    obtain ⟨j1, j2⟩ := hM.2.2.2.2.1 b hb
    rcases (show v = 0 ∨ v = 1 ∨ v = 2 ∨ v = 3 by omega) with rfl | rfl | rfl | rfl
    · simp only [f_X6_bell, f_X7_bell, nq00, kb, cb, i1, j1, c0a, c0b, c1a, c1b, bd_s, fs0, fs1, fs2, fs4, fs6, e00, e01, e10, e20, e40, e60, if_true, if_false, eq_self, lt_s', rf1, rf2, rf4, rf6, no1, no2, no4, no6, lo1, lo4, lo6, lw1, lw2, lw4, lw6]
      exact ⟨_, _, _, _, rfl, rfl, h.self⟩
    · simp only [f_X6_bell, f_X7_bell, nq10, nq11, kb, cb, i2, j2, c0a, c0b, c1a, c1b, bd_s, fs0, fs1, fs2, fs4, fs6, e00, e01, e10, e20, e40, e60, if_true, if_false, eq_self, lt_s', rf1, rf2, rf4, rf6, no1, no2, no4, no6, lo1, lo4, lo6, lw1, lw2, lw4, lw6]
      exact ⟨_, _, _, _, rfl, rfl, h.self⟩
    · simp only [f_X6_bell, f_X7_bell, nq20, nq21, nq22, t_hearersOf hT hb, m_hearers' hM ho hb, c0a, c0b, c1a, c1b, bd_s, fs0, fs1, fs2, fs4, fs6, e00, e01, e10, e20, e40, e60, if_true, if_false, eq_self, lt_s', rf1, rf2, rf4, rf6, no1, no2, no4, no6, lo1, lo4, lo6, lw1, lw2, lw4, lw6]
      exact ⟨_, _, _, _, rfl, rfl, h.self⟩
    · simp only [f_X6_bell, f_X7_bell, nq30, nq31, nq32, nq33, t_hearersOf hT hb, t_said hT hb, m_saidOf' hM ho hb, c0a, c0b, c1a, c1b, bd_s, fs0, fs1, fs2, fs4, fs6, e00, e01, e10, e20, e40, e60, if_true, if_false, eq_self, lt_s', rf1, rf2, rf4, rf6, no1, no2, no4, no6, lo1, lo4, lo6, lw1, lw2, lw4, lw6]
      exact ⟨_, _, _, _, rfl, rfl, h.self⟩
set_option maxRecDepth 4000 in
theorem p_person {T : Tw} {S U Ki L N M : G} (h : Inv T S U Ki L N M) (x1 x2 : Int32) : ∃ r S' U' M', f_X6_person S U x1 x2 = some (r, (S', U')) ∧ f_X7_person M x1 x2 = some (r, M') ∧ InvE S' U' Ki L N M' := by
  obtain ⟨hT, hM, hd, ho, hrf, hN, hL, hI⟩ := id h
  have ok := hT.2.2.2.2.2.2
  have h6 := ok.1
  have h8 := ok.2.1
  rcases oneC (S := S) hT hM x1 with ⟨c0a, c0b⟩ | ⟨p, hp, rfl, c0a, c0b⟩
  · obtain ⟨w1, t1⟩ := chT x2 5
    simp only [f_X6_person, f_X7_person, c0a, c0b, t1, bd_s, fs0, fs1, fs2, fs4, fs6, e00, e01, e10, e20, e40, e60, if_true, if_false, eq_self, lt_s', rf1, rf2, rf4, rf6, no1, no2, no4, no6, lo1, lo4, lo6, lw1, lw2, lw4, lw6]
    exact ⟨_, _, _, _, rfl, rfl, h.refd 1⟩
  rcases chC x2 4 (K := 5) (K1 := 4) rfl rfl (by decide) with ⟨c1a, c1b, c1n⟩ | ⟨v, hv, rfl, c1a, c1b⟩
  · have n0 : ¬ x2 = (0 : Int32) := c1n 0 (by decide)
    have n1 : ¬ x2 = (1 : Int32) := c1n 1 (by decide)
    have n2 : ¬ x2 = (2 : Int32) := c1n 2 (by decide)
    have n3 : ¬ x2 = (3 : Int32) := c1n 3 (by decide)
    have n4 : ¬ x2 = (4 : Int32) := c1n 4 (by decide)
    simp only [f_X6_person, f_X7_person, c0a, c0b, c1a, c1b, n0, n1, n2, n3, n4, bd_s, fs0, fs1, fs2, fs4, fs6, e00, e01, e10, e20, e40, e60, if_true, if_false, eq_self, lt_s', rf1, rf2, rf4, rf6, no1, no2, no4, no6, lo1, lo4, lo6, lw1, lw2, lw4, lw6]
    exact ⟨_, _, _, _, rfl, rfl, h.refd 2⟩
  · have kp := ckn (ok_p ok hp) (show 8 < 2147483648 by decide)
    have cp : (nI p).toNatClampNeg = p := cln (by have := ok_p ok hp; omega)
    obtain ⟨i4, i5, i6, i7⟩ := hT.2.2.2.2.2.1 p hp
    obtain ⟨j4, j5, j6, j7⟩ := hM.2.2.2.2.2.1 p hp
    rcases (show v = 0 ∨ v = 1 ∨ v = 2 ∨ v = 3 ∨ v = 4 by omega) with rfl | rfl | rfl | rfl | rfl
    · simp only [f_X6_person, f_X7_person, nq00, kp, cp, i4, j4, c0a, c0b, c1a, c1b, bd_s, fs0, fs1, fs2, fs4, fs6, e00, e01, e10, e20, e40, e60, if_true, if_false, eq_self, lt_s', rf1, rf2, rf4, rf6, no1, no2, no4, no6, lo1, lo4, lo6, lw1, lw2, lw4, lw6]
      exact ⟨_, _, _, _, rfl, rfl, h.self⟩
    · simp only [f_X6_person, f_X7_person, nq10, nq11, kp, cp, i5, j5, c0a, c0b, c1a, c1b, bd_s, fs0, fs1, fs2, fs4, fs6, e00, e01, e10, e20, e40, e60, if_true, if_false, eq_self, lt_s', rf1, rf2, rf4, rf6, no1, no2, no4, no6, lo1, lo4, lo6, lw1, lw2, lw4, lw6]
      exact ⟨_, _, _, _, rfl, rfl, h.self⟩
    · simp only [f_X6_person, f_X7_person, nq20, nq21, nq22, kp, cp, i6, j6, c0a, c0b, c1a, c1b, bd_s, fs0, fs1, fs2, fs4, fs6, e00, e01, e10, e20, e40, e60, if_true, if_false, eq_self, lt_s', rf1, rf2, rf4, rf6, no1, no2, no4, no6, lo1, lo4, lo6, lw1, lw2, lw4, lw6]
      exact ⟨_, _, _, _, rfl, rfl, h.self⟩
    · simp only [f_X6_person, f_X7_person, nq30, nq31, nq32, nq33, kp, cp, i7, j7, c0a, c0b, c1a, c1b, bd_s, fs0, fs1, fs2, fs4, fs6, e00, e01, e10, e20, e40, e60, if_true, if_false, eq_self, lt_s', rf1, rf2, rf4, rf6, no1, no2, no4, no6, lo1, lo4, lo6, lw1, lw2, lw4, lw6]
      exact ⟨_, _, _, _, rfl, rfl, h.self⟩
    · simp only [f_X6_person, f_X7_person, nq40, nq41, nq42, nq43, nq44, t_nightsOf hT hp, m_nightsOf hM hp, c0a, c0b, c1a, c1b, bd_s, fs0, fs1, fs2, fs4, fs6, e00, e01, e10, e20, e40, e60, if_true, if_false, eq_self, lt_s', rf1, rf2, rf4, rf6, no1, no2, no4, no6, lo1, lo4, lo6, lw1, lw2, lw4, lw6]
      exact ⟨_, _, _, _, rfl, rfl, h.self⟩
set_option maxRecDepth 4000 in
theorem p_says {T : Tw} {S U Ki L N M : G} (h : Inv T S U Ki L N M) (x1 x2 : Int32) : ∃ r S' U' M', f_X6_says S U x1 x2 = some (r, (S', U')) ∧ f_X7_says M x1 x2 = some (r, M') ∧ InvE S' U' Ki L N M' := by
  obtain ⟨hT, hM, hd, ho, hrf, hN, hL, hI⟩ := id h
  have ok := hT.2.2.2.2.2.2
  have h6 := ok.1
  have h8 := ok.2.1
  rcases oneC (S := S) hT hM x1 with ⟨c0a, c0b⟩ | ⟨p, hp, rfl, c0a, c0b⟩
  · obtain ⟨w1, t1⟩ := bellT (S := S) (U := U) x2
    simp only [f_X6_says, f_X7_says, f_X7_says_25, c0a, c0b, t1, bd_s, fs0, fs1, fs2, fs4, fs6, e00, e01, e10, e20, e40, e60, if_true, if_false, eq_self, lt_s', rf1, rf2, rf4, rf6, no1, no2, no4, no6, lo1, lo4, lo6, lw1, lw2, lw4, lw6]
    exact ⟨_, _, _, _, rfl, rfl, h.refd 1⟩
  rcases bellC (S := S) hT hM x2 with ⟨c1a, c1b⟩ | ⟨b, hb, rfl, c1a, c1b⟩
  · simp only [f_X6_says, f_X7_says, f_X7_says_25, c0a, c0b, c1a, c1b, bd_s, fs0, fs1, fs2, fs4, fs6, e00, e01, e10, e20, e40, e60, if_true, if_false, eq_self, lt_s', rf1, rf2, rf4, rf6, no1, no2, no4, no6, lo1, lo4, lo6, lw1, lw2, lw4, lw6]
    exact ⟨_, _, _, _, rfl, rfl, h.refd 1⟩
  · have q1 := t_hearsIt hT hp hb
    have q2 := m_saysOf hM ho hp hb
    rw [hO_none] at q2
    cases q : hears T p b with
    | true =>
      rw [q] at q1 q2
      simp only [f_X6_says, f_X7_says, q1, q2, bT, t_hourBy hT hp hb, c0a, c0b, c1a, c1b, bd_s, fs0, fs1, fs2, fs4, fs6, e00, e01, e10, e20, e40, e60, if_true, if_false, eq_self, lt_s', rf1, rf2, rf4, rf6, no1, no2, no4, no6, lo1, lo4, lo6, lw1, lw2, lw4, lw6]
      exact ⟨_, _, _, _, rfl, rfl, h.self⟩
    | false =>
      rw [q] at q1 q2
      simp only [f_X6_says, f_X7_says, q1, q2, bF, ff1, c0a, c0b, c1a, c1b, bd_s, fs0, fs1, fs2, fs4, fs6, e00, e01, e10, e20, e40, e60, if_true, if_false, eq_self, lt_s', rf1, rf2, rf4, rf6, no1, no2, no4, no6, lo1, lo4, lo6, lw1, lw2, lw4, lw6]
      exact ⟨_, _, _, _, rfl, rfl, h.self⟩
set_option maxRecDepth 4000 in
theorem p_goes {T : Tw} {S U Ki L N M : G} (h : Inv T S U Ki L N M) (x1 x2 : Int32) : ∃ r S' U' M', f_X6_goes S U x1 x2 = some (r, (S', U')) ∧ f_X7_goes M x1 x2 = some (r, M') ∧ InvE S' U' Ki L N M' := by
  obtain ⟨hT, hM, hd, ho, hrf, hN, hL, hI⟩ := id h
  have ok := hT.2.2.2.2.2.2
  have h6 := ok.1
  have h8 := ok.2.1
  rcases oneC (S := S) hT hM x1 with ⟨c0a, c0b⟩ | ⟨p, hp, rfl, c0a, c0b⟩
  · obtain ⟨w1, t1⟩ := rngT x2 0 9
    simp only [f_X6_goes, f_X7_goes, f_X7_becomes_s6, f_X7_becomes_s6_19, c0a, c0b, t1, bd_s, fs0, fs1, fs2, fs4, fs6, e00, e01, e10, e20, e40, e60, if_true, if_false, eq_self, lt_s', rf1, rf2, rf4, rf6, no1, no2, no4, no6, lo1, lo4, lo6, lw1, lw2, lw4, lw6]
    exact ⟨_, _, _, _, rfl, rfl, h.refd 1⟩
  rcases rngC x2 0 9 (A := 0) (B := 9) rfl rfl (by decide) (by decide) with ⟨c1a, c1b⟩ | ⟨c1a, c1b⟩ | ⟨v, hv0, hv1, rfl, c1a, c1b⟩
  · simp only [f_X6_goes, f_X7_goes, f_X7_becomes_s6, f_X7_becomes_s6_19, c0a, c0b, c1a, c1b, bd_s, fs0, fs1, fs2, fs4, fs6, e00, e01, e10, e20, e40, e60, if_true, if_false, eq_self, lt_s', rf1, rf2, rf4, rf6, no1, no2, no4, no6, lo1, lo4, lo6, lw1, lw2, lw4, lw6]
    exact ⟨_, _, _, _, rfl, rfl, h.refd 4⟩
  · simp only [f_X6_goes, f_X7_goes, f_X7_becomes_s6, f_X7_becomes_s6_19, c0a, c0b, c1a, c1b, bd_s, fs0, fs1, fs2, fs4, fs6, e00, e01, e10, e20, e40, e60, if_true, if_false, eq_self, lt_s', rf1, rf2, rf4, rf6, no1, no2, no4, no6, lo1, lo4, lo6, lw1, lw2, lw4, lw6]
    exact ⟨_, _, _, _, rfl, rfl, h.refd 6⟩
  · have kp := ckn (ok_p ok hp) (show 8 < 2147483648 by decide)
    have cp : (nI p).toNatClampNeg = p := cln (by have := ok_p ok hp; omega)
    obtain ⟨i4, i5, i6, i7⟩ := hT.2.2.2.2.2.1 p hp
    obtain ⟨j4, j5, j6, j7⟩ := hM.2.2.2.2.2.1 p hp
    simp only [f_X6_goes, f_X7_goes, f_X7_becomes_s6, f_X7_becomes_s6_19, kp, cp, i7, j7, c0a, c0b, c1a, c1b, bd_s, fs0, fs1, fs2, fs4, fs6, e00, e01, e10, e20, e40, e60, if_true, if_false, eq_self, lt_s', rf1, rf2, rf4, rf6, no1, no2, no4, no6, lo1, lo4, lo6, lw1, lw2, lw4, lw6]
    exact ⟨_, _, _, _, rfl, rfl, h.frw (frw_pA (by decide) (ok_p ok hp)) (rM_st hM hp (k := 7) (j := 6) (by omega)) (rT_st hT hp (k := 7) (by omega)) hd⟩
set_option maxRecDepth 4000 in
theorem p_sleeps {T : Tw} {S U Ki L N M : G} (h : Inv T S U Ki L N M) (x1 x2 : Int32) : ∃ r S' U' M', f_X6_sleeps S U x1 x2 = some (r, (S', U')) ∧ f_X7_sleeps M x1 x2 = some (r, M') ∧ InvE S' U' Ki L N M' := by
  obtain ⟨hT, hM, hd, ho, hrf, hN, hL, hI⟩ := id h
  have ok := hT.2.2.2.2.2.2
  have h6 := ok.1
  have h8 := ok.2.1
  rcases oneC (S := S) hT hM x1 with ⟨c0a, c0b⟩ | ⟨p, hp, rfl, c0a, c0b⟩
  · obtain ⟨w1, t1⟩ := rngT x2 0 99
    simp only [f_X6_sleeps, f_X7_sleeps, f_X7_becomes_s5, f_X7_becomes_s5_19, c0a, c0b, t1, bd_s, fs0, fs1, fs2, fs4, fs6, e00, e01, e10, e20, e40, e60, if_true, if_false, eq_self, lt_s', rf1, rf2, rf4, rf6, no1, no2, no4, no6, lo1, lo4, lo6, lw1, lw2, lw4, lw6]
    exact ⟨_, _, _, _, rfl, rfl, h.refd 1⟩
  rcases rngC x2 0 99 (A := 0) (B := 99) rfl rfl (by decide) (by decide) with ⟨c1a, c1b⟩ | ⟨c1a, c1b⟩ | ⟨v, hv0, hv1, rfl, c1a, c1b⟩
  · simp only [f_X6_sleeps, f_X7_sleeps, f_X7_becomes_s5, f_X7_becomes_s5_19, c0a, c0b, c1a, c1b, bd_s, fs0, fs1, fs2, fs4, fs6, e00, e01, e10, e20, e40, e60, if_true, if_false, eq_self, lt_s', rf1, rf2, rf4, rf6, no1, no2, no4, no6, lo1, lo4, lo6, lw1, lw2, lw4, lw6]
    exact ⟨_, _, _, _, rfl, rfl, h.refd 4⟩
  · simp only [f_X6_sleeps, f_X7_sleeps, f_X7_becomes_s5, f_X7_becomes_s5_19, c0a, c0b, c1a, c1b, bd_s, fs0, fs1, fs2, fs4, fs6, e00, e01, e10, e20, e40, e60, if_true, if_false, eq_self, lt_s', rf1, rf2, rf4, rf6, no1, no2, no4, no6, lo1, lo4, lo6, lw1, lw2, lw4, lw6]
    exact ⟨_, _, _, _, rfl, rfl, h.refd 6⟩
  · have kp := ckn (ok_p ok hp) (show 8 < 2147483648 by decide)
    have cp : (nI p).toNatClampNeg = p := cln (by have := ok_p ok hp; omega)
    obtain ⟨i4, i5, i6, i7⟩ := hT.2.2.2.2.2.1 p hp
    obtain ⟨j4, j5, j6, j7⟩ := hM.2.2.2.2.2.1 p hp
    simp only [f_X6_sleeps, f_X7_sleeps, f_X7_becomes_s5, f_X7_becomes_s5_19, kp, cp, i6, j6, c0a, c0b, c1a, c1b, bd_s, fs0, fs1, fs2, fs4, fs6, e00, e01, e10, e20, e40, e60, if_true, if_false, eq_self, lt_s', rf1, rf2, rf4, rf6, no1, no2, no4, no6, lo1, lo4, lo6, lw1, lw2, lw4, lw6]
    exact ⟨_, _, _, _, rfl, rfl, h.frw (frw_pA (by decide) (ok_p ok hp)) (rM_st hM hp (k := 6) (j := 5) (by omega)) (rT_st hT hp (k := 6) (by omega)) hd⟩
set_option maxRecDepth 4000 in
theorem p_beds {T : Tw} {S U Ki L N M : G} (h : Inv T S U Ki L N M) (x1 : Int32) : ∃ r S' U' M', f_X6_beds S U x1 = some (r, (S', U')) ∧ f_X7_beds M x1 = some (r, M') ∧ InvE S' U' Ki L N M' := by
  obtain ⟨hT, hM, hd, ho, hrf, hN, hL, hI⟩ := id h
  have ok := hT.2.2.2.2.2.2
  have h6 := ok.1
  have h8 := ok.2.1
  rcases rngC x1 1 8 (A := 1) (B := 8) rfl rfl (by decide) (by decide) with ⟨c0a, c0b⟩ | ⟨c0a, c0b⟩ | ⟨v, hv0, hv1, rfl, c0a, c0b⟩
  · simp only [f_X6_beds, f_X7_beds, c0a, c0b, bd_s, fs0, fs1, fs2, fs4, fs6, e00, e01, e10, e20, e40, e60, if_true, if_false, eq_self, lt_s', rf1, rf2, rf4, rf6, no1, no2, no4, no6, lo1, lo4, lo6, lw1, lw2, lw4, lw6]
    exact ⟨_, _, _, _, rfl, rfl, h.refd 4⟩
  · simp only [f_X6_beds, f_X7_beds, c0a, c0b, bd_s, fs0, fs1, fs2, fs4, fs6, e00, e01, e10, e20, e40, e60, if_true, if_false, eq_self, lt_s', rf1, rf2, rf4, rf6, no1, no2, no4, no6, lo1, lo4, lo6, lw1, lw2, lw4, lw6]
    exact ⟨_, _, _, _, rfl, rfl, h.refd 6⟩
  · have i9 := hT.2.2.2.1
    have j9 := hM.2.2.2.1
    simp only [f_X6_beds, f_X7_beds, i9, j9, c0a, c0b, bd_s, fs0, fs1, fs2, fs4, fs6, e00, e01, e10, e20, e40, e60, if_true, if_false, eq_self, lt_s', rf1, rf2, rf4, rf6, no1, no2, no4, no6, lo1, lo4, lo6, lw1, lw2, lw4, lw6]
    exact ⟨_, _, _, _, rfl, rfl, h.frw (frw_pF (by decide)) (rM_s9 hM hv0 hv1) (rT_s9 hT hv0 hv1) hd⟩
set_option maxRecDepth 4000 in
theorem p_turn {T : Tw} {S U Ki L N M : G} (h : Inv T S U Ki L N M) (x1 x2 x3 : Int32) : ∃ r S' U' M', f_X6_turn S U x1 x2 x3 = some (r, (S', U')) ∧ f_X7_turn M x1 x2 x3 = some (r, M') ∧ InvE S' U' Ki L N M' := by
  obtain ⟨hT, hM, hd, ho, hrf, hN, hL, hI⟩ := id h
  have ok := hT.2.2.2.2.2.2
  have h6 := ok.1
  have h8 := ok.2.1
  rcases oneC (S := S) hT hM x1 with ⟨c0a, c0b⟩ | ⟨p, hp, rfl, c0a, c0b⟩
  · obtain ⟨w1, t1⟩ := chT x2 6
    obtain ⟨w2, t2⟩ := rngT x3 0 9
    simp only [f_X6_turn, f_X7_turn, f_X7_turn_33, c0a, c0b, t1, t2, bd_s, fs0, fs1, fs2, fs4, fs6, e00, e01, e10, e20, e40, e60, if_true, if_false, eq_self, lt_s', rf1, rf2, rf4, rf6, no1, no2, no4, no6, lo1, lo4, lo6, lw1, lw2, lw4, lw6]
    exact ⟨_, _, _, _, rfl, rfl, h.refd 1⟩
  rcases chC x2 5 (K := 6) (K1 := 5) rfl rfl (by decide) with ⟨c1a, c1b, c1n⟩ | ⟨k, hk, rfl, c1a, c1b⟩
  · obtain ⟨w2, t2⟩ := rngT x3 0 9
    simp only [f_X6_turn, f_X7_turn, f_X7_turn_33, c0a, c0b, c1a, c1b, t2, bd_s, fs0, fs1, fs2, fs4, fs6, e00, e01, e10, e20, e40, e60, if_true, if_false, eq_self, lt_s', rf1, rf2, rf4, rf6, no1, no2, no4, no6, lo1, lo4, lo6, lw1, lw2, lw4, lw6]
    exact ⟨_, _, _, _, rfl, rfl, h.refd 2⟩
  rcases rngC x3 0 9 (A := 0) (B := 9) rfl rfl (by decide) (by decide) with ⟨c2a, c2b⟩ | ⟨c2a, c2b⟩ | ⟨f, hf0, hf1, rfl, c2a, c2b⟩
  · simp only [f_X6_turn, f_X7_turn, f_X7_turn_33, c0a, c0b, c1a, c1b, c2a, c2b, bd_s, fs0, fs1, fs2, fs4, fs6, e00, e01, e10, e20, e40, e60, if_true, if_false, eq_self, lt_s', rf1, rf2, rf4, rf6, no1, no2, no4, no6, lo1, lo4, lo6, lw1, lw2, lw4, lw6]
    exact ⟨_, _, _, _, rfl, rfl, h.refd 4⟩
  · simp only [f_X6_turn, f_X7_turn, f_X7_turn_33, c0a, c0b, c1a, c1b, c2a, c2b, bd_s, fs0, fs1, fs2, fs4, fs6, e00, e01, e10, e20, e40, e60, if_true, if_false, eq_self, lt_s', rf1, rf2, rf4, rf6, no1, no2, no4, no6, lo1, lo4, lo6, lw1, lw2, lw4, lw6]
    exact ⟨_, _, _, _, rfl, rfl, h.refd 6⟩
  · have kp := ckn (ok_p ok hp) (show 8 < 2147483648 by decide)
    have cp : (nI p).toNatClampNeg = p := cln (by have := ok_p ok hp; omega)
    obtain ⟨i4, i5, i6, i7⟩ := hT.2.2.2.2.2.1 p hp
    obtain ⟨j4, j5, j6, j7⟩ := hM.2.2.2.2.2.1 p hp
    obtain ⟨u, q1, hu⟩ := t_makeKind hT hp (v := k) (f := f) (by omega) (by omega)
    simp only [f_X6_turn, f_X7_turn, f_X7_turn_33, kp, cp, i4, j4, i5, j5, q1, c0a, c0b, c1a, c1b, c2a, c2b, bd_s, fs0, fs1, fs2, fs4, fs6, e00, e01, e10, e20, e40, e60, if_true, if_false, eq_self, lt_s', rf1, rf2, rf4, rf6, no1, no2, no4, no6, lo1, lo4, lo6, lw1, lw2, lw4, lw6]
    exact ⟨_, _, _, _, rfl, rfl, h.frw ((frw_pA (by decide) (ok_p ok hp)).tr (frw_pA (by decide) (ok_p ok hp)) (by decide) (by decide)) (rM_st (rM_st hM hp (k := 4) (j := 3) (v := k) (by omega)) (p := p) hp (k := 5) (j := 4) (v := f) (by omega)) hu hd⟩
