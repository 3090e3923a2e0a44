/-! the reference reads a statement -/
def frL (M N : G) : Prop := (∀ q, q ≠ 15 → N.2 q = M.2 q) ∧ (∀ q, q ≠ 17 → N.1 q = M.1 q)
theorem frL.tr {M N O : G} (h : frL M N) (g : frL N O) : frL M O := ⟨fun q hq => (g.1 q hq).trans (h.1 q hq), fun q hq => (g.2 q hq).trans (h.2 q hq)⟩
theorem frL_F (M : G) (x : Int32) : frL M (pF M 17 x) := ⟨fun _ _ => rfl, fun q hq => by rw [pF_1, if_neg hq]⟩
theorem frL_A (M : G) (p : Nat) (x : Int32) : frL M (pA M 15 p x) := ⟨fun q hq => by rw [pA_2, if_neg hq], fun _ _ => rfl⟩
theorem rLM.fr {M N : G} {c : Nat → Nat} {n : Nat} (h : rLM M c n) (f : frL M N) : rLM N c n := ⟨by rw [f.2 16 (by decide)]; exact h.1, h.2.1, fun i hi => by rw [f.1 12 (by decide)]; exact h.2.2 i hi⟩
theorem nd_pos {c : Nat → Nat} {n a d : Nat} (ha : a ≤ n) : a + nd c n a d ≤ n := by
  rcases Nat.eq_zero_or_pos (nd c n a d) with z | z
  · omega
  · have y := fi_no (fun j => !isD (sg c n (a + j))) d (nd c n a d - 1) (by show nd c n a d - 1 < nd c n a d; omega)
    simp only [Bool.not_eq_false'] at y
    rcases Nat.lt_or_ge (a + (nd c n a d - 1)) n with w | w
    · omega
    · unfold sg at y
      rw [if_neg (by omega)] at y
      cases y
theorem nd_add (c : Nat → Nat) (n b d1 d2 : Nat) : nd c n b (d1 + d2) = if nd c n b d1 = d1 then d1 + nd c n (b + d1) d2 else nd c n b d1 := by
  have l1 : nd c n b d1 ≤ d1 := fi_le _ d1
  have l2 : nd c n (b + d1) d2 ≤ d2 := fi_le _ d2
  by_cases q : nd c n b d1 = d1
  · rw [if_pos q]
    have lo : ∀ j, j < d1 → isD (sg c n (b + j)) = true := fun j hj => by
      have := fi_no (fun j => !isD (sg c n (b + j))) d1 j (by show j < nd c n b d1; omega)
      simpa using this
    have hi : ∀ j, j < nd c n (b + d1) d2 → isD (sg c n (b + (d1 + j))) = true := fun j hj => by
      have := fi_no (fun j => !isD (sg c n (b + d1 + j))) d2 j hj
      rw [← Nat.add_assoc]
      simpa using this
    have all : ∀ j, j < d1 + nd c n (b + d1) d2 → isD (sg c n (b + j)) = true := fun j hj => by
      rcases Nat.lt_or_ge j d1 with z | z
      · exact lo j z
      · have := hi (j - d1) (by omega)
        rw [show d1 + (j - d1) = j by omega] at this
        exact this
    rcases Nat.lt_or_ge (nd c n (b + d1) d2) d2 with z | z
    · refine fi_eq (by omega) ?_ (fun j hj => by rw [all j hj]; rfl)
      have := fi_yes (fun j => !isD (sg c n (b + d1 + j))) d2 z
      replace this : (!isD (sg c n (b + d1 + nd c n (b + d1) d2))) = true := this
      rw [← Nat.add_assoc]
      exact this
    · rw [show nd c n (b + d1) d2 = d2 by omega]
      refine fi_none (fun j hj => by rw [all j (by omega)]; rfl)
  · rw [if_neg q]
    refine fi_eq (by omega) ?_ (fun j hj => ?_)
    · exact fi_yes (fun j => !isD (sg c n (b + j))) d1 (by show nd c n b d1 < d1; omega)
    · exact fi_no (fun j => !isD (sg c n (b + j))) d1 j hj
theorem m_reads1 {M : G} {c : Nat → Nat} {n b d p : Nat} {D : Int32} (h : rLM M c n) (hb : b ≤ n) (h17 : M.1 17 = nI b) (hp : p < 144) (hd : d ≤ 5) (eD : D = nI d) : ∃ N, bd (f_X7_readsDigits M (nI p) D) (fun r u => if zb r = true then some (r, u) else none) = some (bI (decide (nd c n b d = d)), N) ∧ N.1 17 = nI (b + nd c n b d) ∧ frL M N ∧ (∀ j, j < p → N.2 15 j = M.2 15 j) ∧ (nd c n b d = d → N.2 15 p = nI (vd c b d)) := by
  subst eD
  rw [m_readsDigits h hb h17 hp hd]
  by_cases q : nd c n b d = d
  · rw [if_pos q, bd_s, if_pos (by decide), show decide (nd c n b d = d) = true by simp [q]]
    refine ⟨_, rfl, ?_, (frL_F M _).tr (frL_A _ _ _), fun j hj => ?_, fun _ => ?_⟩
    · show (pF M 17 (nI (b + d))).1 17 = _
      rw [pF_1, if_pos rfl, q]
    · rw [pA_2, if_pos rfl, updE, if_neg (by omega)]; rfl
    · rw [pA_2, if_pos rfl, updE, if_pos rfl]
  · rw [if_neg q, bd_s, if_pos (by decide), show decide (nd c n b d = d) = false by simp [q]]
    exact ⟨_, rfl, by rw [pF_1, if_pos rfl], frL_F M _, fun j _ => rfl, fun z => absurd z q⟩
theorem m_reads2 {M : G} {c : Nat → Nat} {n b d1 d2 p : Nat} {D1 D2 P2 : Int32} (h : rLM M c n) (hb : b ≤ n) (h17 : M.1 17 = nI b) (hp : p + 1 < 144) (hd1 : d1 ≤ 2) (hd2 : d2 ≤ 2) (e1 : D1 = nI d1) (e2 : D2 = nI d2) (eP : P2 = nI (p + 1)) : ∃ N, bd (f_X7_readsDigits M (nI p) D1) (fun r u => if r = 0 then some ((0 : Int32), u) else bd (f_X7_readsDigits u P2 D2) (fun r2 u2 => if r2 = 0 then some ((0 : Int32), u2) else some ((1 : Int32), u2))) = some (bI (decide (nd c n b (d1 + d2) = d1 + d2)), N) ∧ N.1 17 = nI (b + nd c n b (d1 + d2)) ∧ frL M N ∧ (∀ j, j < p → N.2 15 j = M.2 15 j) ∧ (nd c n b (d1 + d2) = d1 + d2 → N.2 15 p = nI (vd c b d1) ∧ N.2 15 (p + 1) = nI (vd c (b + d1) d2)) := by
  subst e1 e2 eP
  have l1 : nd c n b d1 ≤ d1 := fi_le _ d1
  have l2 : nd c n (b + d1) d2 ≤ d2 := fi_le _ d2
  rw [m_readsDigits h hb h17 (by omega) (by omega), nd_add]
  by_cases q : nd c n b d1 = d1
  · have hb1 : b + d1 ≤ n := by have := nd_pos (c := c) (d := d1) hb; omega
    have f1 : frL M (pA (pF M 17 (nI (b + d1))) 15 p (nI (vd c b d1))) := (frL_F M _).tr (frL_A _ _ _)
    rw [if_pos q, if_pos q, bd_s, if_neg (by decide), m_readsDigits (h.fr f1) hb1 rfl (by omega) (by omega)]
    by_cases q2 : nd c n (b + d1) d2 = d2
    · rw [if_pos q2, bd_s, if_neg (by decide), q2, show decide (d1 + d2 = d1 + d2) = true by simp]
      refine ⟨_, rfl, ?_, f1.tr ((frL_F _ _).tr (frL_A _ _ _)), fun j hj => ?_, fun _ => ⟨?_, ?_⟩⟩
      · show nI (b + d1 + d2) = _
        rw [Nat.add_assoc]
      · rw [pA_2, if_pos rfl, updE, if_neg (by omega), pF_2, pA_2, if_pos rfl, updE, if_neg (by omega)]; rfl
      · rw [pA_2, if_pos rfl, updE, if_neg (by omega), pF_2, pA_2, if_pos rfl, updE, if_pos rfl]
      · rw [pA_2, if_pos rfl, updE, if_pos rfl]
    · rw [if_neg q2, bd_s, if_pos rfl, show decide (d1 + nd c n (b + d1) d2 = d1 + d2) = false by simp; omega]
      refine ⟨_, rfl, ?_, f1.tr (frL_F _ _), fun j hj => ?_, fun z => absurd z (by omega)⟩
      · show nI (b + d1 + nd c n (b + d1) d2) = _
        rw [Nat.add_assoc]
      · rw [pF_2, pA_2, if_pos rfl, updE, if_neg (by omega)]; rfl
  · rw [if_neg q, if_neg q, bd_s, if_pos rfl, show decide (nd c n b d1 = d1 + d2) = false by simp; omega]
    exact ⟨_, rfl, by rw [pF_1, if_pos rfl], frL_F M _, fun j _ => rfl, fun z => absurd z (by omega)⟩
theorem m_kindOf : ∀ y, y < 256 → f_X7_kindOf (nI y) = some (if isK y = true then nI (kdx y) else -1, ()) := by decide +kernel
theorem isK_256 : isK 256 = false := by decide
theorem m_kindNl {c : Nat → Nat} {n a : Nat} (h : ∀ i, i < n → c i < 256) : f_X7_kindOf (nl c n a) = some (if isK (sg c n a) = true then nI (kdx (c a)) else -1, ()) := by
  unfold nl sg
  by_cases q : a < n
  · rw [if_pos q, if_pos q, m_kindOf _ (h a q)]
  · rw [if_neg q, if_neg q, isK_256]; rfl
theorem kdx_5 {y : Nat} (h : isK y = true) : kdx y ≤ 5 := by
  unfold isK at h
  simp only [decide_eq_true_eq] at h
  unfold kdx at h ⊢
  split at h
  · rename_i q; rw [if_pos q]; omega
  · rename_i q; rw [if_neg q]
    split at h
    · rename_i q; rw [if_pos q]; omega
    · rename_i q; rw [if_neg q]
      split at h
      · rename_i q; rw [if_pos q]; omega
      · rename_i q; rw [if_neg q]
        split at h
        · rename_i q; rw [if_pos q]; omega
        · rename_i q; rw [if_neg q]
          split at h
          · rename_i q; rw [if_pos q]; omega
          · rename_i q; rw [if_neg q]
            split at h
            · rename_i q; rw [if_pos q]; omega
            · omega
theorem m_readsOne {M : G} {c : Nat → Nat} {n b p : Nat} (h : rLM M c n) (hb : b ≤ n) (h17 : M.1 17 = nI b) (hp : p + 2 < 144) : ∃ N, f_X7_readsOne M (nI p) = some (bI (isK (sg c n b) && decide (nd c n (b + 1) 3 = 3)), N) ∧ N.1 17 = nI (if isK (sg c n b) = true then b + 1 + nd c n (b + 1) 3 else b) ∧ frL M N ∧ (∀ j, j < p → N.2 15 j = M.2 15 j) ∧ (isK (sg c n b) = true → nd c n (b + 1) 3 = 3 → N.2 15 p = nI (kdx (c b)) ∧ N.2 15 (p + 1) = nI (vd c (b + 1) 1) ∧ N.2 15 (p + 2) = nI (vd c (b + 2) 2)) := by
  unfold f_X7_readsOne
  rw [m_nextLetter h hb h17, bd_s, m_kindNl (fun i hi => (h.2.2 i hi).2), bd_s, ckn (show p < 144 by omega) (by decide), cln (by omega)]
  simp only [if_true, lt_s']
  rw [show ∀ v : Int32, (pA M 15 p v).2 15 p = v from fun v => by rw [pA_2, if_pos rfl, updE, if_pos rfl]]
  by_cases q : isK (sg c n b) = true
  · have hbn : b < n := by
      rcases Nat.lt_or_ge b n with z | z
      · exact z
      · unfold sg at q
        rw [if_neg (by omega), isK_256] at q
        cases q
    have f1 : frL M (pF (pA M 15 p (nI (kdx (c b)))) 17 (nI (b + 1))) := (frL_A M _ _).tr (frL_F _ _)
    have e17 : (pA M 15 p (nI (kdx (c b)))).1 17 = nI b := h17
    have hk5 : kdx (c b) ≤ 5 := by
      have : sg c n b = c b := by unfold sg; rw [if_pos hbn]
      rw [this] at q
      exact kdx_5 q
    rw [if_pos q, if_pos (show (0 : Int32) ≤ nI (kdx (c b)) from nI_pos' (by omega)), e17, show nI b + (1 : Int32) = nI (b + 1) from nI_add b 1, show nI p + (1 : Int32) = nI (p + 1) from nI_add p 1, show nI p + (2 : Int32) = nI (p + 2) from nI_add p 2]
    obtain ⟨N, e, z1, z2, z3, z4⟩ := m_reads2 (h.fr f1) (b := b + 1) (d1 := 1) (d2 := 2) (p := p + 1) (D1 := 1) (D2 := 2) (P2 := nI (p + 2)) (by omega) rfl (by omega) (by decide) (by decide) rfl rfl rfl
    refine ⟨N, ?_, ?_, f1.tr z2, fun j hj => ?_, fun _ hn => ?_⟩
    · rw [q, Bool.true_and]; exact e
    · rw [if_pos q]; exact z1
    · rw [z3 j (by omega), pF_2, pA_2, if_pos rfl, updE, if_neg (by omega)]
    · obtain ⟨y1, y2⟩ := z4 hn
      refine ⟨?_, y1, y2⟩
      rw [z3 p (by omega), pF_2, pA_2, if_pos rfl, updE, if_pos rfl]
  · rw [if_neg q, if_neg (by decide), show isK (sg c n b) = false by cases y : isK (sg c n b) with
      | false => rfl
      | true => exact absurd y q, Bool.false_and]
    refine ⟨_, rfl, ?_, frL_A M _ _, fun j hj => ?_, fun z => absurd z (by decide)⟩
    · exact h17
    · rw [pA_2, if_pos rfl, updE, if_neg (by omega)]
def nv (x : Nat) : Nat := if x = 112 then 3 else if x = 98 then 2 else if x = 103 then 2 else if x = 115 then 2 else 1
def vls (c : Nat → Nat) (a i : Nat) : Nat := if c a = 112 then (if i = 0 then kdx (c (a + 1)) else if i = 1 then vd c (a + 2) 1 else vd c (a + 3) 2) else if c a = 98 then (if i = 0 then vd c (a + 1) 2 else vd c (a + 3) 1) else if c a = 103 then (if i = 0 then vd c (a + 1) 1 else vd c (a + 2) 1) else if c a = 115 then (if i = 0 then vd c (a + 1) 1 else vd c (a + 2) 2) else if c a = 101 then vd c (a + 1) 1 else vd c (a + 1) 2
def jj (c : Nat → Nat) (n a : Nat) : Nat := fi (fun j => !okc (c a) j (sg c n (a + 1 + j))) (ln (c a))
theorem jj_nd {c : Nat → Nat} {n a : Nat} (h : c a ≠ 112) : jj c n a = nd c n (a + 1) (ln (c a)) := by
  have key : ∀ j, j < ln (c a) → okc (c a) j (sg c n (a + 1 + j)) = isD (sg c n (a + 1 + j)) := fun j hj => by
    unfold okc
    rw [if_neg (by omega), if_neg (fun z => h z.1)]
  have l2 : nd c n (a + 1) (ln (c a)) ≤ ln (c a) := fi_le _ _
  rcases Nat.lt_or_ge (nd c n (a + 1) (ln (c a))) (ln (c a)) with z | z
  · refine fi_eq z ?_ (fun j hj => ?_)
    · rw [key _ z]
      exact fi_yes (fun j => !isD (sg c n (a + 1 + j))) _ z
    · rw [key j (by omega)]
      exact fi_no (fun j => !isD (sg c n (a + 1 + j))) _ j hj
  · have e : nd c n (a + 1) (ln (c a)) = ln (c a) := by omega
    rw [e]
    refine fi_none (fun j hj => ?_)
    rw [key j hj]
    exact fi_no (fun j => !isD (sg c n (a + 1 + j))) _ j (by show j < nd c n (a + 1) (ln (c a)); omega)
theorem jj_p {c : Nat → Nat} {n a : Nat} (h : c a = 112) : jj c n a = if isK (sg c n (a + 1)) = true then 1 + nd c n (a + 2) 3 else 0 := by
  have hl : ln (c a) = 4 := by rw [h]; rfl
  have k0 : okc (c a) 0 (sg c n (a + 1 + 0)) = isK (sg c n (a + 1)) := by
    unfold okc
    rw [hl, if_neg (by decide), if_pos ⟨h, rfl⟩]
  have kj : ∀ j, j < 3 → okc (c a) (j + 1) (sg c n (a + 1 + (j + 1))) = isD (sg c n (a + 2 + j)) := fun j hj => by
    unfold okc
    rw [hl, if_neg (by omega), if_neg (fun z => by omega), show a + 1 + (j + 1) = a + 2 + j by omega]
  have l2 : nd c n (a + 2) 3 ≤ 3 := fi_le _ _
  unfold jj
  rw [hl, fi_shift]
  by_cases q : isK (sg c n (a + 1)) = true
  · rw [if_pos q, if_neg (by rw [k0, q]; decide), Nat.add_comm]
    congr 1
    rcases Nat.lt_or_ge (nd c n (a + 2) 3) 3 with z | z
    · refine fi_eq z ?_ (fun j hj => ?_)
      · rw [kj _ z]
        exact fi_yes (fun j => !isD (sg c n (a + 2 + j))) _ z
      · rw [kj j (by omega)]
        exact fi_no (fun j => !isD (sg c n (a + 2 + j))) _ j hj
    · rw [show nd c n (a + 2) 3 = 3 by omega]
      refine fi_none (fun j hj => ?_)
      rw [kj j hj]
      exact fi_no (fun j => !isD (sg c n (a + 2 + j))) _ j (by show j < nd c n (a + 2) 3; omega)
  · rw [if_neg q, if_pos (by rw [k0]; simpa using q)]
theorem m_readsAll {M : G} {c : Nat → Nat} {n a p : Nat} (h : rLM M c n) (ha : a < n) (h17 : M.1 17 = nI (a + 1)) (hp : p + 2 < 144) (hL : isL (c a) = true) : ∃ N, f_X7_readsAll M (nI (c a)) (nI p) = some (bI (decide (jj c n a = ln (c a))), N) ∧ N.1 17 = nI (a + 1 + jj c n a) ∧ frL M N ∧ (∀ j, j < p → N.2 15 j = M.2 15 j) ∧ (jj c n a = ln (c a) → ∀ i, i < nv (c a) → N.2 15 (p + i) = nI (vls c a i)) := by
  have hb : a + 1 ≤ n := by omega
  unfold f_X7_readsAll
  rcases isL_cases hL with e | e | e | e | e | e
  · rw [jj_nd (by rw [e]; decide)]
    rw [e, if_pos (by decide)]
    obtain ⟨N, e1, z1, z2, z3, z4⟩ := m_reads2 h (b := a + 1) (d1 := 2) (d2 := 1) (p := p) (D1 := 2) (D2 := 1) (P2 := nI p + 1) hb h17 (by omega) (by decide) (by decide) rfl rfl (nI_add p 1)
    refine ⟨N, e1, z1, z2, z3, fun hz i hi => ?_⟩
    obtain ⟨y1, y2⟩ := z4 hz
    unfold vls
    rw [e, if_neg (by decide), if_pos rfl]
    rcases (show i = 0 ∨ i = 1 by have : nv 98 = 2 := rfl; omega) with rfl | rfl
    · rw [if_pos rfl]; exact y1
    · rw [if_neg (by decide)]; exact y2
  · rw [jj_p e]
    rw [e, if_neg (by decide), if_neg (by decide), if_neg (by decide), if_pos (by decide)]
    obtain ⟨N, e1, z1, z2, z3, z4⟩ := m_readsOne h (b := a + 1) (p := p) hb h17 hp
    have hl : ln 112 = 4 := rfl
    have l3 : nd c n (a + 2) 3 ≤ 3 := fi_le _ _
    refine ⟨N, ?_, ?_, z2, z3, fun hz i hi => ?_⟩
    · rw [e1, bd_s, if_pos (bI_zb _)]
      congr 3
      cases q : isK (sg c n (a + 1)) with
      | false => simp [hl]
      | true =>
        simp only [Bool.true_and, if_true, hl]
        apply decide_eq_decide.mpr
        show nd c n (a + 2) 3 = 3 ↔ _
        omega
    · rw [z1]
      congr 1
      split
      · show a + 2 + nd c n (a + 2) 3 = _
        omega
      · rfl
    · have q : isK (sg c n (a + 1)) = true := by
        cases y : isK (sg c n (a + 1)) with
        | true => rfl
        | false => rw [y] at hz; simp [hl] at hz
      rw [if_pos q] at hz
      obtain ⟨y1, y2, y3⟩ := z4 q (by show nd c n (a + 2) 3 = 3; omega)
      unfold vls
      rw [e, if_pos rfl]
      rcases (show i = 0 ∨ i = 1 ∨ i = 2 by have : nv 112 = 3 := rfl; omega) with rfl | rfl | rfl
      · rw [if_pos rfl]; exact y1
      · rw [if_neg (by decide), if_pos rfl]; exact y2
      · rw [if_neg (by decide), if_neg (by decide)]; exact y3
  · rw [jj_nd (by rw [e]; decide)]
    rw [e, if_neg (by decide), if_neg (by decide), if_pos (by decide)]
    obtain ⟨N, e1, z1, z2, z3, z4⟩ := m_reads2 h (b := a + 1) (d1 := 1) (d2 := 1) (p := p) (D1 := 1) (D2 := 1) (P2 := nI p + 1) hb h17 (by omega) (by decide) (by decide) rfl rfl (nI_add p 1)
    refine ⟨N, e1, z1, z2, z3, fun hz i hi => ?_⟩
    obtain ⟨y1, y2⟩ := z4 hz
    unfold vls
    rw [e, if_neg (by decide), if_neg (by decide), if_pos rfl]
    rcases (show i = 0 ∨ i = 1 by have : nv 103 = 2 := rfl; omega) with rfl | rfl
    · rw [if_pos rfl]; exact y1
    · rw [if_neg (by decide)]; exact y2
  · rw [jj_nd (by rw [e]; decide)]
    rw [e, if_neg (by decide), if_neg (by decide), if_neg (by decide), if_neg (by decide), if_pos (by decide)]
    obtain ⟨N, e1, z1, z2, z3, z4⟩ := m_reads2 h (b := a + 1) (d1 := 1) (d2 := 2) (p := p) (D1 := 1) (D2 := 2) (P2 := nI p + 1) hb h17 (by omega) (by decide) (by decide) rfl rfl (nI_add p 1)
    refine ⟨N, e1, z1, z2, z3, fun hz i hi => ?_⟩
    obtain ⟨y1, y2⟩ := z4 hz
    unfold vls
    rw [e, if_neg (by decide), if_neg (by decide), if_neg (by decide), if_pos rfl]
    rcases (show i = 0 ∨ i = 1 by have : nv 115 = 2 := rfl; omega) with rfl | rfl
    · rw [if_pos rfl]; exact y1
    · rw [if_neg (by decide)]; exact y2
  · rw [jj_nd (by rw [e]; decide)]
    rw [e, if_neg (by decide), if_pos (by decide)]
    obtain ⟨N, e1, z1, z2, z3, z4⟩ := m_reads1 h (b := a + 1) (d := 1) (p := p) (D := 1) hb h17 (by omega) (by decide) rfl
    refine ⟨N, e1, z1, z2, z3, fun hz i hi => ?_⟩
    unfold vls
    rw [e, if_neg (by decide), if_neg (by decide), if_neg (by decide), if_neg (by decide), if_pos rfl]
    have hi0 : i = 0 := by have : nv 101 = 1 := rfl; omega
    subst hi0
    exact z4 hz
  · rw [jj_nd (by rw [e]; decide)]
    rw [e, if_neg (by decide), if_neg (by decide), if_neg (by decide), if_neg (by decide), if_neg (by decide)]
    obtain ⟨N, e1, z1, z2, z3, z4⟩ := m_reads1 h (b := a + 1) (d := 2) (p := p) (D := 2) hb h17 (by omega) (by decide) rfl
    refine ⟨N, e1, z1, z2, z3, fun hz i hi => ?_⟩
    unfold vls
    rw [e, if_neg (by decide), if_neg (by decide), if_neg (by decide), if_neg (by decide), if_neg (by decide)]
    have hi0 : i = 0 := by have : nv 100 = 1 := rfl; omega
    subst hi0
    exact z4 hz
/-! a statement -/
def frS (M N : G) : Prop := (∀ q, q ≠ 13 → q ≠ 14 → q ≠ 15 → N.2 q = M.2 q) ∧ (∀ q, q ≠ 17 → N.1 q = M.1 q)
theorem jj_le {c : Nat → Nat} {n a : Nat} (ha : a < n) : a + 1 + jj c n a ≤ n := by
  rcases Nat.eq_zero_or_pos (jj c n a) with z | z
  · omega
  · have y := fi_no (fun j => !okc (c a) j (sg c n (a + 1 + j))) (ln (c a)) (jj c n a - 1) (by show jj c n a - 1 < jj c n a; omega)
    simp only [Bool.not_eq_false'] at y
    have := (sg_lt y).1
    omega
theorem ff_jj {c : Nat → Nat} {n a : Nat} : ff c n a = if jj c n a = ln (c a) then (if okc (c a) (ln (c a)) (sg c n (a + 1 + ln (c a))) = true then ln (c a) + 1 else ln (c a)) else jj c n a := by
  have hle : jj c n a ≤ ln (c a) := fi_le _ _
  have lo : ∀ j, j < jj c n a → okc (c a) j (sg c n (a + 1 + j)) = true := fun j hj => by
    have := fi_no (fun j => !okc (c a) j (sg c n (a + 1 + j))) (ln (c a)) j hj
    simpa using this
  by_cases q : jj c n a = ln (c a)
  · rw [if_pos q]
    rw [q] at lo
    by_cases w : okc (c a) (ln (c a)) (sg c n (a + 1 + ln (c a))) = true
    · rw [if_pos w]
      refine fi_none (fun j hj => ?_)
      rcases Nat.lt_or_ge j (ln (c a)) with z | z
      · rw [lo j z]; rfl
      · rw [show j = ln (c a) by omega, w]; rfl
    · rw [if_neg w]
      refine fi_eq (by omega) (by simpa using w) (fun j hj => by rw [lo j hj]; rfl)
  · rw [if_neg q]
    refine fi_eq (by omega) ?_ (fun j hj => by rw [lo j hj]; rfl)
    exact fi_yes (fun j => !okc (c a) j (sg c n (a + 1 + j))) (ln (c a)) (by show jj c n a < ln (c a); omega)
def stored (c : Nat → Nat) (s : G) (k a : Nat) : Prop := s.2 13 k = nI (c a) ∧ s.2 14 k = nI a ∧ ∀ i, i < nv (c a) → s.2 15 (3 * k + i) = nI (vls c a i)
theorem nl_ne {c : Nat → Nat} {n a x : Nat} (hx : x < 256) (h : ∀ i, i < n → c i < 256) : (nl c n a = nI x) ↔ sg c n a = x := by
  unfold nl sg
  by_cases q : a < n
  · rw [if_pos q, if_pos q]
    have := h a q
    exact nI_eq (by omega) (by omega)
  · rw [if_neg q, if_neg q]
    have : ∀ x, x < 256 → ¬ (-1 : Int32) = nI x := by decide +kernel
    constructor
    · intro z; exact absurd z (this x hx)
    · intro z; omega
theorem m_statement {M : G} {c : Nat → Nat} {n a k : Nat} (h : rLM M c n) (ha : a ≤ n) (h17 : M.1 17 = nI a) (h18 : M.1 18 = nI k) (hk : k < 40) : ∃ N, f_X7_statement M = some (bI (gd c n a), N) ∧ N.1 17 = nI (if gd c n a = true then nx c a else bp c n a) ∧ frS M N ∧ (∀ j, j < k → N.2 13 j = M.2 13 j ∧ N.2 14 j = M.2 14 j) ∧ (∀ j, j < 3 * k → N.2 15 j = M.2 15 j) ∧ (gd c n a = true → stored c N k a) := by
  have hc : ∀ i, i < n → c i < 256 := fun i hi => (h.2.2 i hi).2
  have h96 := h.2.1
  by_cases hL : isL (sg c n a) = true
  · have han : a < n := by
      rcases Nat.lt_or_ge a n with z | z
      · exact z
      · unfold sg at hL
        rw [if_neg (by omega)] at hL
        cases hL
    have hsg : sg c n a = c a := by unfold sg; rw [if_pos han]
    have hnl : nl c n a = nI (c a) := by unfold nl; rw [if_pos han]
    have hL2 : isL (c a) = true := by rw [← hsg]; exact hL
    have hl0 : 0 < ln (c a) := by unfold isL at hL2; simpa using hL2
    have e43 : f_X7_statement M = f_X7_statement_43 M (nI (c a)) := by
      unfold f_X7_statement
      rw [m_nextLetter h ha h17, bd_s, hnl]
      rcases isL_cases hL2 with e | e | e | e | e | e <;> rw [e] <;> rfl
    rw [e43]
    have f1 : ∀ q, q ≠ 13 → q ≠ 14 → (pF (pA (pA M 13 k (nI (c a))) 14 k (nI a)) 17 (nI (a + 1))).2 q = M.2 q := fun q h1 h2 => by rw [pF_2, pA_2, if_neg h2, pA_2, if_neg h1]
    have f2 : ∀ q, q ≠ 17 → (pF (pA (pA M 13 k (nI (c a))) 14 k (nI a)) 17 (nI (a + 1))).1 q = M.1 q := fun q h1 => by rw [pF_1, if_neg h1]; rfl
    have hM2 : rLM (pF (pA (pA M 13 k (nI (c a))) 14 k (nI a)) 17 (nI (a + 1))) c n := ⟨by rw [f2 16 (by decide)]; exact h.1, h.2.1, fun i hi => by rw [f1 12 (by decide) (by decide)]; exact h.2.2 i hi⟩
    obtain ⟨N, e, z1, z2, z3, z4⟩ := m_readsAll hM2 han (p := 3 * k) rfl (by omega) hL2
    have fin : ∀ O : G, frL N O → frS M O := fun O f => ⟨fun q h1 h2 h3 => by rw [f.1 q h3, z2.1 q h3, f1 q h1 h2], fun q h1 => by rw [f.2 q h1, z2.2 q h1, f2 q h1]⟩
    have g13 : ∀ O : G, frL N O → (∀ j, j < k → O.2 13 j = M.2 13 j ∧ O.2 14 j = M.2 14 j) ∧ O.2 13 k = nI (c a) ∧ O.2 14 k = nI a := by
      intro O f
      have e13 : O.2 13 = upd (M.2 13) k (nI (c a)) := by rw [f.1 13 (by decide), z2.1 13 (by decide)]; rfl
      have e14 : O.2 14 = upd (M.2 14) k (nI a) := by rw [f.1 14 (by decide), z2.1 14 (by decide)]; rfl
      refine ⟨fun j hj => ⟨?_, ?_⟩, ?_, ?_⟩
      · rw [e13, updE, if_neg (by omega)]
      · rw [e14, updE, if_neg (by omega)]
      · rw [e13, updE, if_pos rfl]
      · rw [e14, updE, if_pos rfl]
    have hjl : jj c n a ≤ ln (c a) := fi_le _ _
    unfold f_X7_statement_43
    rw [h18, ckn (show k < 48 by omega) (by decide), if_pos rfl, lt_s', cln (by omega), show (pA M 13 k (nI (c a))).1 18 = nI k from h18, ckn (show k < 48 by omega) (by decide), if_pos rfl, lt_s', cln (by omega), lt_s', show (pA M 13 k (nI (c a))).1 17 = nI a from h17, show (pA (pA M 13 k (nI (c a))) 14 k (nI a)).1 17 = nI a from h17, show nI a + (1 : Int32) = nI (a + 1) from nI_add a 1, show (pF (pA (pA M 13 k (nI (c a))) 14 k (nI a)) 17 (nI (a + 1))).1 18 = nI k from h18, nl3, pk_mul, e, bd_s]
    have hff := ff_jj (c := c) (n := n) (a := a)
    have hbp : bp c n a = a + 1 + ff c n a := by unfold bp; rw [if_pos hL]
    by_cases qj : jj c n a = ln (c a)
    · rw [if_pos qj] at hff
      rw [show decide (jj c n a = ln (c a)) = true by simp [qj], if_neg (by decide), m_nextLetter (hM2.fr z2) (jj_le han) z1, bd_s, qj]
      have hsem : (nl c n (a + 1 + ln (c a)) = (59 : Int32)) ↔ okc (c a) (ln (c a)) (sg c n (a + 1 + ln (c a))) = true := by
        rw [show (59 : Int32) = nI 59 from rfl, nl_ne (by decide) hc]
        unfold okc
        rw [if_pos rfl]
        simp
      by_cases qs : okc (c a) (ln (c a)) (sg c n (a + 1 + ln (c a))) = true
      · rw [if_pos qs] at hff
        have hg : gd c n a = true := by
          unfold gd
          rw [hL, hff]; simp
        rw [if_pos (hsem.mpr qs), lt_s', hg, if_pos rfl, z1, qj, show nI (a + 1 + ln (c a)) + (1 : Int32) = nI (nx c a) by rw [nl1, nI_add]; congr 1; unfold nx; omega]
        obtain ⟨y1, y2, y3⟩ := g13 (pF N 17 (nI (nx c a))) (frL_F N _)
        refine ⟨_, rfl, ?_, fin _ (frL_F N _), y1, fun j hj => ?_, fun _ => ⟨y2, y3, fun i hi => ?_⟩⟩
        · rw [pF_1, if_pos rfl]
        · rw [pF_2, z3 j hj, pF_2, pA_2, if_neg (by decide), pA_2, if_neg (by decide)]
        · rw [pF_2]; exact z4 qj i hi
      · rw [if_neg qs] at hff
        have hg : gd c n a = false := by
          unfold gd
          rw [hff]; simp
        rw [if_neg (fun z => qs (hsem.mp z)), hg]
        obtain ⟨y1, -, -⟩ := g13 N ⟨fun _ _ => rfl, fun _ _ => rfl⟩
        refine ⟨N, rfl, ?_, fin _ ⟨fun _ _ => rfl, fun _ _ => rfl⟩, y1, fun j hj => ?_, fun z => absurd z (by decide)⟩
        · rw [if_neg (by decide), hbp, hff, z1, qj]
        · rw [z3 j hj, pF_2, pA_2, if_neg (by decide), pA_2, if_neg (by decide)]
    · rw [if_neg qj] at hff
      have hg : gd c n a = false := by
        unfold gd
        rw [hff, show decide (jj c n a = ln (c a) + 1) = false by simp; omega, Bool.and_false]
      rw [show decide (jj c n a = ln (c a)) = false by simp [qj], if_pos (show bI false = 0 from rfl), hg]
      obtain ⟨y1, -, -⟩ := g13 N ⟨fun _ _ => rfl, fun _ _ => rfl⟩
      refine ⟨N, rfl, ?_, fin _ ⟨fun _ _ => rfl, fun _ _ => rfl⟩, y1, fun j hj => ?_, fun z => absurd z (by decide)⟩
      · rw [if_neg (by decide), hbp, hff, z1]
      · rw [z3 j hj, pF_2, pA_2, if_neg (by decide), pA_2, if_neg (by decide)]
  · have hg : gd c n a = false := by
      unfold gd
      rw [show isL (sg c n a) = false by cases y : isL (sg c n a) with
        | false => rfl
        | true => exact absurd y hL, Bool.false_and]
    have hbp : bp c n a = a := by unfold bp; rw [if_neg hL]
    have ne : ∀ x, x = 98 ∨ x = 112 ∨ x = 103 ∨ x = 115 ∨ x = 101 ∨ x = 100 → ¬ nl c n a = nI x := by
      intro x hx z
      rw [nl_ne (by omega) hc] at z
      apply hL
      rw [z]
      rcases hx with rfl | rfl | rfl | rfl | rfl | rfl <;> rfl
    refine ⟨M, ?_, by rw [hg, if_neg (by decide), hbp]; exact h17, ⟨fun _ _ _ _ => rfl, fun _ _ => rfl⟩, fun _ _ => ⟨rfl, rfl⟩, fun _ _ => rfl, fun z => by rw [hg] at z; cases z⟩
    unfold f_X7_statement
    rw [m_nextLetter h ha h17, bd_s, if_neg (show ¬ nl c n a = (98 : Int32) from ne 98 (by omega)), if_neg (show ¬ nl c n a = (112 : Int32) from ne 112 (by omega)), if_neg (show ¬ nl c n a = (103 : Int32) from ne 103 (by omega)), if_neg (show ¬ nl c n a = (115 : Int32) from ne 115 (by omega)), if_neg (show ¬ nl c n a = (101 : Int32) from ne 101 (by omega)), if_neg (show ¬ nl c n a = (100 : Int32) from ne 100 (by omega)), hg]
    rfl
