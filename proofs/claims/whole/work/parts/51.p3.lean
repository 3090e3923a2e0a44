set_option maxRecDepth 4000 in
theorem p_next {T : Tw} {S U Ki L N M : G} (h : Inv T S U Ki L N M) (x1 : Int32) : ∃ r S' U' M', f_X6_next S U x1 = some (r, (S', U')) ∧ f_X7_next M x1 = some (r, M') ∧ InvE S' U' Ki L N M' := by
  obtain ⟨hT, hM, hd, ho, hrf, hN, hL, hI⟩ := id h
  have ok := hT.2.2.2.2.2.2
  have h6 := ok.1
  have h8 := ok.2.1
  rcases bellC (S := S) hT hM x1 with ⟨c0a, c0b⟩ | ⟨b, hb, rfl, c0a, c0b⟩
  · simp only [f_X6_next, f_X7_next, c0a, c0b, bd_s, fs0, fs1, fs2, fs4, fs6, e00, e01, e10, e20, e40, e60, if_true, if_false, eq_self, lt_s', rf1, rf2, rf4, rf6, no1, no2, no4, no6, lo1, lo4, lo6, lw1, lw2, lw4, lw6]
    exact ⟨_, _, _, _, rfl, rfl, h.refd 1⟩
  · simp only [f_X6_next, t_daysTillRinging hT hb (by omega), m_next hM hb (by omega), c0a, c0b, bd_s, fs0, fs1, fs2, fs4, fs6, e00, e01, e10, e20, e40, e60, if_true, if_false, eq_self, lt_s', rf1, rf2, rf4, rf6, no1, no2, no4, no6, lo1, lo4, lo6, lw1, lw2, lw4, lw6]
    exact ⟨_, _, _, _, rfl, rfl, h.self⟩
set_option maxRecDepth 4000 in
theorem p_together {T : Tw} {S U Ki L N M : G} (h : Inv T S U Ki L N M) : ∃ r S' U' M', f_X6_together S U = some (r, (S', U')) ∧ f_X7_together M = some (r, M') ∧ InvE S' U' Ki L N M' := by
  obtain ⟨hT, hM, hd, ho, hrf, hN, hL, hI⟩ := id h
  have ok := hT.2.2.2.2.2.2
  have h6 := ok.1
  have h8 := ok.2.1
  simp only [f_X6_together, t_daysTillAllRing hT (by omega), m_together hM (by omega), bd_s]
  exact ⟨_, _, _, _, rfl, rfl, h.self⟩
set_option maxRecDepth 4000 in
theorem p_cost {T : Tw} {S U Ki L N M : G} (h : Inv T S U Ki L N M) (P : G) (Q : G) (x1 x2 x3 : Int32) : ∃ r S' U' P' Q' M', f_X6_cost S U P Q x1 x2 x3 = some (r, (S', U', P', Q')) ∧ f_X7_cost M x1 x2 x3 = some (r, M') ∧ InvE S' U' Ki L N M' := by
  obtain ⟨hT, hM, hd, ho, hrf, hN, hL, hI⟩ := id h
  have ok := hT.2.2.2.2.2.2
  have h6 := ok.1
  have h8 := ok.2.1
  rcases oneC (S := S) hT hM x1 with ⟨c0a, c0b⟩ | ⟨p, hp, rfl, c0a, c0b⟩
  · obtain ⟨w1, t1⟩ := bellT (S := S) (U := U) x3
    obtain ⟨w2, t2⟩ := rngT x2 1 9
    simp only [f_X6_cost, f_X7_cost, f_X7_cost_16, f_X7_cost_27, c0a, c0b, t1, t2, bd_s, fs0, fs1, fs2, fs4, fs6, e00, e01, e10, e20, e40, e60, if_true, if_false, eq_self, lt_s', rf1, rf2, rf4, rf6, no1, no2, no4, no6, lo1, lo4, lo6, lw1, lw2, lw4, lw6]
    exact ⟨_, _, _, _, _, _, rfl, rfl, h.refd 1⟩
  rcases bellC (S := S) hT hM x3 with ⟨c1a, c1b⟩ | ⟨b, hb, rfl, c1a, c1b⟩
  · obtain ⟨w2, t2⟩ := rngT x2 1 9
    simp only [f_X6_cost, f_X7_cost, f_X7_cost_16, f_X7_cost_27, c0a, c0b, c1a, c1b, t2, bd_s, fs0, fs1, fs2, fs4, fs6, e00, e01, e10, e20, e40, e60, if_true, if_false, eq_self, lt_s', rf1, rf2, rf4, rf6, no1, no2, no4, no6, lo1, lo4, lo6, lw1, lw2, lw4, lw6]
    exact ⟨_, _, _, _, _, _, rfl, rfl, h.refd 1⟩
  rcases rngC x2 1 9 (A := 1) (B := 9) rfl rfl (by decide) (by decide) with ⟨c2a, c2b⟩ | ⟨c2a, c2b⟩ | ⟨k, hk0, hk1, rfl, c2a, c2b⟩
  · simp only [f_X6_cost, f_X7_cost, f_X7_cost_16, f_X7_cost_27, c0a, c0b, c1a, c1b, c2a, c2b, bd_s, fs0, fs1, fs2, fs4, fs6, e00, e01, e10, e20, e40, e60, if_true, if_false, eq_self, lt_s', rf1, rf2, rf4, rf6, no1, no2, no4, no6, lo1, lo4, lo6, lw1, lw2, lw4, lw6]
    exact ⟨_, _, _, _, _, _, rfl, rfl, h.refd 4⟩
  · simp only [f_X6_cost, f_X7_cost, f_X7_cost_16, f_X7_cost_27, c0a, c0b, c1a, c1b, c2a, c2b, bd_s, fs0, fs1, fs2, fs4, fs6, e00, e01, e10, e20, e40, e60, if_true, if_false, eq_self, lt_s', rf1, rf2, rf4, rf6, no1, no2, no4, no6, lo1, lo4, lo6, lw1, lw2, lw4, lw6]
    exact ⟨_, _, _, _, _, _, rfl, rfl, h.refd 6⟩
  · obtain ⟨Q', q1⟩ := t_daysUnheard (S := P) (S0 := Q) hT hp hb hk1
    obtain ⟨M', q2, z⟩ := m_cost hM ho hp hb hk1
    simp only [f_X6_cost, f_X7_cost, q1, q2, c0a, c0b, c1a, c1b, c2a, c2b, bd_s, fs0, fs1, fs2, fs4, fs6, e00, e01, e10, e20, e40, e60, if_true, if_false, eq_self, lt_s', rf1, rf2, rf4, rf6, no1, no2, no4, no6, lo1, lo4, lo6, lw1, lw2, lw4, lw6]
    exact ⟨_, _, _, _, _, _, rfl, rfl, h.eqM z (by decide)⟩
set_option maxRecDepth 4000 in
theorem p_whatIs {T : Tw} {S U Ki L N M : G} (h : Inv T S U Ki L N M) (W : G) (x1 x2 x3 : Int32) : ∃ r S' U' N' W' M', f_X6_whatIs S U N W x1 x2 x3 = some (r, (S', U', N', W')) ∧ f_X7_whatIs M x1 x2 x3 = some (r, M') ∧ InvE S' U' Ki L N' M' := by
  obtain ⟨hT, hM, hd, ho, hrf, hN, hL, hI⟩ := id h
  have ok := hT.2.2.2.2.2.2
  have h6 := ok.1
  have h8 := ok.2.1
  rcases oneC (S := S) hT hM x1 with ⟨c0a, c0b⟩ | ⟨p, hp, rfl, c0a, c0b⟩
  · obtain ⟨w1, t1⟩ := bellT (S := S) (U := U) x2
    obtain ⟨w2, t2⟩ := chT x3 2
    simp only [f_X6_whatIs, f_X7_whatIs, f_X7_whatIs_16, f_X7_whatIs_35, c0a, c0b, t1, t2, bd_s, fs0, fs1, fs2, fs4, fs6, e00, e01, e10, e20, e40, e60, if_true, if_false, eq_self, lt_s', rf1, rf2, rf4, rf6, no1, no2, no4, no6, lo1, lo4, lo6, lw1, lw2, lw4, lw6]
    exact ⟨_, _, _, _, _, _, rfl, rfl, h.refd 1⟩
  rcases bellC (S := S) hT hM x2 with ⟨c1a, c1b⟩ | ⟨b, hb, rfl, c1a, c1b⟩
  · obtain ⟨w2, t2⟩ := chT x3 2
    simp only [f_X6_whatIs, f_X7_whatIs, f_X7_whatIs_16, f_X7_whatIs_35, c0a, c0b, c1a, c1b, t2, bd_s, fs0, fs1, fs2, fs4, fs6, e00, e01, e10, e20, e40, e60, if_true, if_false, eq_self, lt_s', rf1, rf2, rf4, rf6, no1, no2, no4, no6, lo1, lo4, lo6, lw1, lw2, lw4, lw6]
    exact ⟨_, _, _, _, _, _, rfl, rfl, h.refd 1⟩
  rcases chC x3 1 (K := 2) (K1 := 1) rfl rfl (by decide) with ⟨c2a, c2b, c2n⟩ | ⟨v, hv, rfl, c2a, c2b⟩
  · simp only [f_X6_whatIs, f_X7_whatIs, f_X7_whatIs_16, f_X7_whatIs_35, c0a, c0b, c1a, c1b, c2a, c2b, bd_s, fs0, fs1, fs2, fs4, fs6, e00, e01, e10, e20, e40, e60, if_true, if_false, eq_self, lt_s', rf1, rf2, rf4, rf6, no1, no2, no4, no6, lo1, lo4, lo6, lw1, lw2, lw4, lw6]
    exact ⟨_, _, _, _, _, _, rfl, rfl, h.refd 2⟩
  · obtain ⟨D, num, n1, n2⟩ := hN
    rcases (show v = 0 ∨ v = 1 by omega) with rfl | rfl
    · obtain ⟨W', q1⟩ := t_kindsBy (S := W) hT n1 hp hb
      obtain ⟨M', q2, z⟩ := m_bitsFor3 hM ho n2 hp hb
      simp only [f_X6_whatIs, f_X7_whatIs, f_X7_whatIs_35, nq00, q1, q2, c0a, c0b, c1a, c1b, c2a, c2b, bd_s, fs0, fs1, fs2, fs4, fs6, e00, e01, e10, e20, e40, e60, if_true, if_false, eq_self, lt_s', rf1, rf2, rf4, rf6, no1, no2, no4, no6, lo1, lo4, lo6, lw1, lw2, lw4, lw6]
      exact ⟨_, _, _, _, _, _, rfl, rfl, h.eqM z (by decide)⟩
    · obtain ⟨W', q1⟩ := t_figuresBy (S := W) hT n1 hp hb
      obtain ⟨M', q2, z⟩ := m_bitsFor4 hM ho n2 hp hb
      simp only [f_X6_whatIs, f_X7_whatIs, f_X7_whatIs_35, nq10, q1, q2, c0a, c0b, c1a, c1b, c2a, c2b, bd_s, fs0, fs1, fs2, fs4, fs6, e00, e01, e10, e20, e40, e60, if_true, if_false, eq_self, lt_s', rf1, rf2, rf4, rf6, no1, no2, no4, no6, lo1, lo4, lo6, lw1, lw2, lw4, lw6]
      exact ⟨_, _, _, _, _, _, rfl, rfl, h.eqM z (by decide)⟩
set_option maxRecDepth 4000 in
theorem p_lots {T : Tw} {S U Ki L N M : G} (h : Inv T S U Ki L N M) (W : G) (x1 x2 x3 : Int32) : ∃ r S' U' W' M', f_X6_lots S U W x1 x2 x3 = some (r, (S', U', W')) ∧ f_X7_lots M x1 x2 x3 = some (r, M') ∧ InvE S' U' Ki L N M' := by
  obtain ⟨hT, hM, hd, ho, hrf, hN, hL, hI⟩ := id h
  have ok := hT.2.2.2.2.2.2
  have h6 := ok.1
  have h8 := ok.2.1
  rcases rngC x1 1 20 (A := 1) (B := 20) rfl rfl (by decide) (by decide) with ⟨c0a, c0b⟩ | ⟨c0a, c0b⟩ | ⟨n, hn0, hn1, rfl, c0a, c0b⟩
  · obtain ⟨w1, t1⟩ := chT x3 2
    simp only [f_X6_lots, f_X7_lots, f_X7_lots_27, c0a, c0b, t1, bd_s, fs0, fs1, fs2, fs4, fs6, e00, e01, e10, e20, e40, e60, if_true, if_false, eq_self, lt_s', rf1, rf2, rf4, rf6, no1, no2, no4, no6, lo1, lo4, lo6, lw1, lw2, lw4, lw6]
    exact ⟨_, _, _, _, _, rfl, rfl, h.refd 4⟩
  · obtain ⟨w1, t1⟩ := chT x3 2
    simp only [f_X6_lots, f_X7_lots, f_X7_lots_27, c0a, c0b, t1, bd_s, fs0, fs1, fs2, fs4, fs6, e00, e01, e10, e20, e40, e60, if_true, if_false, eq_self, lt_s', rf1, rf2, rf4, rf6, no1, no2, no4, no6, lo1, lo4, lo6, lw1, lw2, lw4, lw6]
    exact ⟨_, _, _, _, _, rfl, rfl, h.refd 6⟩
  rcases chC x3 1 (K := 2) (K1 := 1) rfl rfl (by decide) with ⟨c1a, c1b, c1n⟩ | ⟨v, hv, rfl, c1a, c1b⟩
  · simp only [f_X6_lots, f_X7_lots, f_X7_lots_27, c0a, c0b, c1a, c1b, bd_s, fs0, fs1, fs2, fs4, fs6, e00, e01, e10, e20, e40, e60, if_true, if_false, eq_self, lt_s', rf1, rf2, rf4, rf6, no1, no2, no4, no6, lo1, lo4, lo6, lw1, lw2, lw4, lw6]
    exact ⟨_, _, _, _, _, rfl, rfl, h.refd 2⟩
  · rcases (show v = 0 ∨ v = 1 by omega) with rfl | rfl
    · obtain ⟨W', q1⟩ := t_townsByLot (S := W) (w := 0) (z := x2) hT hn1 (by decide)
      replace q1 : f_X1_townsByLot W U (nI n) x2 1 = _ := q1
      obtain ⟨M', q2, z⟩ := m_lots (w := 0) (z := x2) hM ho hn1 (by decide)
      simp only [f_X6_lots, f_X7_lots, f_X6_lots_48, nq00, q1, q2, c0a, c0b, c1a, c1b, bd_s, fs0, fs1, fs2, fs4, fs6, e00, e01, e10, e20, e40, e60, if_true, if_false, eq_self, lt_s', rf1, rf2, rf4, rf6, no1, no2, no4, no6, lo1, lo4, lo6, lw1, lw2, lw4, lw6]
      exact ⟨_, _, _, _, _, rfl, rfl, h.eqM z (by decide)⟩
    · obtain ⟨W', q1⟩ := t_townsByLot (S := W) (w := 1) (z := x2) hT hn1 (by decide)
      replace q1 : f_X1_townsByLot W U (nI n) x2 0 = _ := q1
      obtain ⟨M', q2, z⟩ := m_lots (w := 1) (z := x2) hM ho hn1 (by decide)
      simp only [f_X6_lots, f_X7_lots, f_X6_lots_48, nq10, q1, q2, c0a, c0b, c1a, c1b, bd_s, fs0, fs1, fs2, fs4, fs6, e00, e01, e10, e20, e40, e60, if_true, if_false, eq_self, lt_s', rf1, rf2, rf4, rf6, no1, no2, no4, no6, lo1, lo4, lo6, lw1, lw2, lw4, lw6]
      exact ⟨_, _, _, _, _, rfl, rfl, h.eqM z (by decide)⟩
set_option maxRecDepth 4000 in
theorem p_mean {T : Tw} {S U Ki L N M : G} (h : Inv T S U Ki L N M) (x1 : Int32) : ∃ r S' U' M', f_X6_mean S U x1 = some (r, (S', U')) ∧ f_X7_mean M x1 = some (r, M') ∧ InvE S' U' Ki L N M' := by
  obtain ⟨hT, hM, hd, ho, hrf, hN, hL, hI⟩ := id h
  have ok := hT.2.2.2.2.2.2
  have h6 := ok.1
  have h8 := ok.2.1
  rcases chC x1 1 (K := 2) (K1 := 1) rfl rfl (by decide) with ⟨c0a, c0b, c0n⟩ | ⟨v, hv, rfl, c0a, c0b⟩
  · simp only [f_X6_mean, f_X7_mean, c0a, c0b, bd_s, fs0, fs1, fs2, fs4, fs6, e00, e01, e10, e20, e40, e60, if_true, if_false, eq_self, lt_s', rf1, rf2, rf4, rf6, no1, no2, no4, no6, lo1, lo4, lo6, lw1, lw2, lw4, lw6]
    exact ⟨_, _, _, _, rfl, rfl, h.refd 2⟩
  · have hs := sumS_le ok (T 3 0) (Nat.le_refl _)
    have hmx : (if (1 : Int32) < nI (T 3 0) then nI (T 3 0) else (1 : Int32)) = nI (max 1 (T 3 0)) := by
      by_cases z : 1 < T 3 0
      · rw [if_pos (show (1 : Int32) < nI (T 3 0) from nI_lt (a := 1) z (by omega)), show max 1 (T 3 0) = T 3 0 by omega]
      · rw [if_neg (show ¬ (1 : Int32) < nI (T 3 0) from nI_nlt (a := 1) (by omega) (by decide)), show max 1 (T 3 0) = 1 by omega]; rfl
    have q1 := t_partOf (a := sumS T (T 3 0)) (b := max 1 (T 3 0)) (w := v) (by omega) (by omega) (by omega) hv
    have l1 : (nI (sumS T (T 3 0))).toInt64 = lN (sumS T (T 3 0)) := nI_l (by omega)
    have l2 : (nI (max 1 (T 3 0))).toInt64 = lN (max 1 (T 3 0)) := nI_l (by omega)
    by_cases z0 : T 3 0 = 0
    · have e0 : sumS T (T 3 0) = 0 := by rw [z0]; rfl
      have m0 : M.1 8 = 0 := by rw [hM.2.1, z0]; rfl
      simp only [f_X6_mean, f_X7_mean, t_allSlept hT, hT.2.1, hmx, l1, l2, q1, m0, c0a, c0b, bd_s, fs0, fs1, fs2, fs4, fs6, e00, e01, e10, e20, e40, e60, if_true, if_false, eq_self, lt_s', rf1, rf2, rf4, rf6, no1, no2, no4, no6, lo1, lo4, lo6, lw1, lw2, lw4, lw6]
      refine ⟨_, _, _, _, rfl, ?_, h.self⟩
      rw [e0, z0]
      rcases (show v = 0 ∨ v = 1 by omega) with rfl | rfl <;> rfl
    · have q2 := m_partOf (a := sumS T (T 3 0)) (b := T 3 0) (w := v) (by omega) (by omega) (by omega) hv
      have l3 : (nI (T 3 0)).toInt64 = lN (T 3 0) := nI_l (by omega)
      have m0 : ¬ nI (T 3 0) = 0 := nI_ne0 (by omega) (by omega)
      rw [show max 1 (T 3 0) = T 3 0 by omega] at q1 l2 hmx
      simp only [f_X6_mean, f_X7_mean, t_allSlept hT, hT.2.1, hM.2.1, hmx, l1, l3, q1, q2, m0, m_allSlept hM, c0a, c0b, bd_s, fs0, fs1, fs2, fs4, fs6, e00, e01, e10, e20, e40, e60, if_true, if_false, eq_self, lt_s', rf1, rf2, rf4, rf6, no1, no2, no4, no6, lo1, lo4, lo6, lw1, lw2, lw4, lw6]
      exact ⟨_, _, _, _, rfl, rfl, h.self⟩
