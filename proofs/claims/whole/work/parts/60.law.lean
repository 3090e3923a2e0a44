theorem lgs (x : Int64) : (lg_cmp x x = 0) = True := eq_true ((lg_cmp_eq x x).mpr rfl)
theorem lw_letter (xs : Nat → Int32) (L : Nat) (k : G → G → G → G → G → G → G → G → G → G → G → Int32 → Option Int32) (i : Nat) (hL : L ≤ 2560) (hi : i + 5 ≤ L) (ih : ∀ S U Ki Lt LD N V W P Q M : G, InvE S U Ki Lt N M → k S U Ki Lt LD N V W P Q M (nI (i + 5)) = some 1) (S U Ki Lt LD N V W P Q M : G) (hE : InvE S U Ki Lt N M) : f_L_law_204 xs L k S U Ki Lt LD N V W P Q M (nI i) = some 1 := by
  obtain ⟨T, hI⟩ := hE
  obtain ⟨r, S', Lt', M', g1, g2, g3⟩ := p_letter hI (xs (i + 1))
  have a1 : nI i + (1 : Int32) = nI (i + 1) := nI_add i 1
  have a5 : nI i + (5 : Int32) = nI (i + 5) := nI_add i 5
  have k1 := ckn (show i + 1 < L by omega) (show L < 2147483648 by omega)
  have c1 : (nI (i + 1)).toNatClampNeg = i + 1 := cln (by omega)
  simp only [f_L_law_204, a1, a5, k1, c1, g1, g2, bd_s, lgs, eq_self, if_true]
  exact ih _ _ _ _ _ _ _ _ _ _ _ g3
theorem lw_town (xs : Nat → Int32) (L : Nat) (k : G → G → G → G → G → G → G → G → G → G → G → Int32 → Option Int32) (i : Nat) (hL : L ≤ 2560) (hi : i + 5 ≤ L) (ih : ∀ S U Ki Lt LD N V W P Q M : G, InvE S U Ki Lt N M → k S U Ki Lt LD N V W P Q M (nI (i + 5)) = some 1) (S U Ki Lt LD N V W P Q M : G) (hE : InvE S U Ki Lt N M) : f_L_law_227 xs L k S U Ki Lt LD N V W P Q M (nI i) = some 1 := by
  obtain ⟨T, hI⟩ := hE
  obtain ⟨r, S', U', Lt', LD', M', g1, g2, g3⟩ := p_town hI LD
  have a5 : nI i + (5 : Int32) = nI (i + 5) := nI_add i 5
  simp only [f_L_law_227, a5, g1, g2, bd_s, lgs, eq_self, if_true]
  exact ih _ _ _ _ _ _ _ _ _ _ _ g3
theorem lw_bell (xs : Nat → Int32) (L : Nat) (k : G → G → G → G → G → G → G → G → G → G → G → Int32 → Option Int32) (i : Nat) (hL : L ≤ 2560) (hi : i + 5 ≤ L) (ih : ∀ S U Ki Lt LD N V W P Q M : G, InvE S U Ki Lt N M → k S U Ki Lt LD N V W P Q M (nI (i + 5)) = some 1) (S U Ki Lt LD N V W P Q M : G) (hE : InvE S U Ki Lt N M) : f_L_law_240 xs L k S U Ki Lt LD N V W P Q M (nI i) = some 1 := by
  obtain ⟨T, hI⟩ := hE
  obtain ⟨r, S', U', M', g1, g2, g3⟩ := p_bell hI (xs (i + 1)) (xs (i + 2))
  have a1 : nI i + (1 : Int32) = nI (i + 1) := nI_add i 1
  have a2 : nI i + (2 : Int32) = nI (i + 2) := nI_add i 2
  have a5 : nI i + (5 : Int32) = nI (i + 5) := nI_add i 5
  have k1 := ckn (show i + 1 < L by omega) (show L < 2147483648 by omega)
  have c1 : (nI (i + 1)).toNatClampNeg = i + 1 := cln (by omega)
  have k2 := ckn (show i + 2 < L by omega) (show L < 2147483648 by omega)
  have c2 : (nI (i + 2)).toNatClampNeg = i + 2 := cln (by omega)
  simp only [f_L_law_240, a1, a2, a5, k1, c1, k2, c2, g1, g2, bd_s, lgs, eq_self, if_true]
  exact ih _ _ _ _ _ _ _ _ _ _ _ g3
theorem lw_person (xs : Nat → Int32) (L : Nat) (k : G → G → G → G → G → G → G → G → G → G → G → Int32 → Option Int32) (i : Nat) (hL : L ≤ 2560) (hi : i + 5 ≤ L) (ih : ∀ S U Ki Lt LD N V W P Q M : G, InvE S U Ki Lt N M → k S U Ki Lt LD N V W P Q M (nI (i + 5)) = some 1) (S U Ki Lt LD N V W P Q M : G) (hE : InvE S U Ki Lt N M) : f_L_law_273 xs L k S U Ki Lt LD N V W P Q M (nI i) = some 1 := by
  obtain ⟨T, hI⟩ := hE
  obtain ⟨r, S', U', M', g1, g2, g3⟩ := p_person hI (xs (i + 1)) (xs (i + 2))
  have a1 : nI i + (1 : Int32) = nI (i + 1) := nI_add i 1
  have a2 : nI i + (2 : Int32) = nI (i + 2) := nI_add i 2
  have a5 : nI i + (5 : Int32) = nI (i + 5) := nI_add i 5
  have k1 := ckn (show i + 1 < L by omega) (show L < 2147483648 by omega)
  have c1 : (nI (i + 1)).toNatClampNeg = i + 1 := cln (by omega)
  have k2 := ckn (show i + 2 < L by omega) (show L < 2147483648 by omega)
  have c2 : (nI (i + 2)).toNatClampNeg = i + 2 := cln (by omega)
  simp only [f_L_law_273, a1, a2, a5, k1, c1, k2, c2, g1, g2, bd_s, lgs, eq_self, if_true]
  exact ih _ _ _ _ _ _ _ _ _ _ _ g3
theorem lw_says (xs : Nat → Int32) (L : Nat) (k : G → G → G → G → G → G → G → G → G → G → G → Int32 → Option Int32) (i : Nat) (hL : L ≤ 2560) (hi : i + 5 ≤ L) (ih : ∀ S U Ki Lt LD N V W P Q M : G, InvE S U Ki Lt N M → k S U Ki Lt LD N V W P Q M (nI (i + 5)) = some 1) (S U Ki Lt LD N V W P Q M : G) (hE : InvE S U Ki Lt N M) : f_L_law_306 xs L k S U Ki Lt LD N V W P Q M (nI i) = some 1 := by
  obtain ⟨T, hI⟩ := hE
  obtain ⟨r, S', U', M', g1, g2, g3⟩ := p_says hI (xs (i + 1)) (xs (i + 2))
  have a1 : nI i + (1 : Int32) = nI (i + 1) := nI_add i 1
  have a2 : nI i + (2 : Int32) = nI (i + 2) := nI_add i 2
  have a5 : nI i + (5 : Int32) = nI (i + 5) := nI_add i 5
  have k1 := ckn (show i + 1 < L by omega) (show L < 2147483648 by omega)
  have c1 : (nI (i + 1)).toNatClampNeg = i + 1 := cln (by omega)
  have k2 := ckn (show i + 2 < L by omega) (show L < 2147483648 by omega)
  have c2 : (nI (i + 2)).toNatClampNeg = i + 2 := cln (by omega)
  simp only [f_L_law_306, a1, a2, a5, k1, c1, k2, c2, g1, g2, bd_s, lgs, eq_self, if_true]
  exact ih _ _ _ _ _ _ _ _ _ _ _ g3
theorem lw_goes (xs : Nat → Int32) (L : Nat) (k : G → G → G → G → G → G → G → G → G → G → G → Int32 → Option Int32) (i : Nat) (hL : L ≤ 2560) (hi : i + 5 ≤ L) (ih : ∀ S U Ki Lt LD N V W P Q M : G, InvE S U Ki Lt N M → k S U Ki Lt LD N V W P Q M (nI (i + 5)) = some 1) (S U Ki Lt LD N V W P Q M : G) (hE : InvE S U Ki Lt N M) : f_L_law_339 xs L k S U Ki Lt LD N V W P Q M (nI i) = some 1 := by
  obtain ⟨T, hI⟩ := hE
  obtain ⟨r, S', U', M', g1, g2, g3⟩ := p_goes hI (xs (i + 1)) (xs (i + 2))
  have a1 : nI i + (1 : Int32) = nI (i + 1) := nI_add i 1
  have a2 : nI i + (2 : Int32) = nI (i + 2) := nI_add i 2
  have a5 : nI i + (5 : Int32) = nI (i + 5) := nI_add i 5
  have k1 := ckn (show i + 1 < L by omega) (show L < 2147483648 by omega)
  have c1 : (nI (i + 1)).toNatClampNeg = i + 1 := cln (by omega)
  have k2 := ckn (show i + 2 < L by omega) (show L < 2147483648 by omega)
  have c2 : (nI (i + 2)).toNatClampNeg = i + 2 := cln (by omega)
  simp only [f_L_law_339, a1, a2, a5, k1, c1, k2, c2, g1, g2, bd_s, lgs, eq_self, if_true]
  exact ih _ _ _ _ _ _ _ _ _ _ _ g3
theorem lw_sleeps (xs : Nat → Int32) (L : Nat) (k : G → G → G → G → G → G → G → G → G → G → G → Int32 → Option Int32) (i : Nat) (hL : L ≤ 2560) (hi : i + 5 ≤ L) (ih : ∀ S U Ki Lt LD N V W P Q M : G, InvE S U Ki Lt N M → k S U Ki Lt LD N V W P Q M (nI (i + 5)) = some 1) (S U Ki Lt LD N V W P Q M : G) (hE : InvE S U Ki Lt N M) : f_L_law_372 xs L k S U Ki Lt LD N V W P Q M (nI i) = some 1 := by
  obtain ⟨T, hI⟩ := hE
  obtain ⟨r, S', U', M', g1, g2, g3⟩ := p_sleeps hI (xs (i + 1)) (xs (i + 2))
  have a1 : nI i + (1 : Int32) = nI (i + 1) := nI_add i 1
  have a2 : nI i + (2 : Int32) = nI (i + 2) := nI_add i 2
  have a5 : nI i + (5 : Int32) = nI (i + 5) := nI_add i 5
  have k1 := ckn (show i + 1 < L by omega) (show L < 2147483648 by omega)
  have c1 : (nI (i + 1)).toNatClampNeg = i + 1 := cln (by omega)
  have k2 := ckn (show i + 2 < L by omega) (show L < 2147483648 by omega)
  have c2 : (nI (i + 2)).toNatClampNeg = i + 2 := cln (by omega)
  simp only [f_L_law_372, a1, a2, a5, k1, c1, k2, c2, g1, g2, bd_s, lgs, eq_self, if_true]
  exact ih _ _ _ _ _ _ _ _ _ _ _ g3
theorem lw_beds (xs : Nat → Int32) (L : Nat) (k : G → G → G → G → G → G → G → G → G → G → G → Int32 → Option Int32) (i : Nat) (hL : L ≤ 2560) (hi : i + 5 ≤ L) (ih : ∀ S U Ki Lt LD N V W P Q M : G, InvE S U Ki Lt N M → k S U Ki Lt LD N V W P Q M (nI (i + 5)) = some 1) (S U Ki Lt LD N V W P Q M : G) (hE : InvE S U Ki Lt N M) : f_L_law_405 xs L k S U Ki Lt LD N V W P Q M (nI i) = some 1 := by
  obtain ⟨T, hI⟩ := hE
  obtain ⟨r, S', U', M', g1, g2, g3⟩ := p_beds hI (xs (i + 1))
  have a1 : nI i + (1 : Int32) = nI (i + 1) := nI_add i 1
  have a5 : nI i + (5 : Int32) = nI (i + 5) := nI_add i 5
  have k1 := ckn (show i + 1 < L by omega) (show L < 2147483648 by omega)
  have c1 : (nI (i + 1)).toNatClampNeg = i + 1 := cln (by omega)
  simp only [f_L_law_405, a1, a5, k1, c1, g1, g2, bd_s, lgs, eq_self, if_true]
  exact ih _ _ _ _ _ _ _ _ _ _ _ g3
theorem lw_turn (xs : Nat → Int32) (L : Nat) (k : G → G → G → G → G → G → G → G → G → G → G → Int32 → Option Int32) (i : Nat) (hL : L ≤ 2560) (hi : i + 5 ≤ L) (ih : ∀ S U Ki Lt LD N V W P Q M : G, InvE S U Ki Lt N M → k S U Ki Lt LD N V W P Q M (nI (i + 5)) = some 1) (S U Ki Lt LD N V W P Q M : G) (hE : InvE S U Ki Lt N M) : f_L_law_428 xs L k S U Ki Lt LD N V W P Q M (nI i) = some 1 := by
  obtain ⟨T, hI⟩ := hE
  obtain ⟨r, S', U', M', g1, g2, g3⟩ := p_turn hI (xs (i + 1)) (xs (i + 2)) (xs (i + 3))
  have a1 : nI i + (1 : Int32) = nI (i + 1) := nI_add i 1
  have a2 : nI i + (2 : Int32) = nI (i + 2) := nI_add i 2
  have a3 : nI i + (3 : Int32) = nI (i + 3) := nI_add i 3
  have a5 : nI i + (5 : Int32) = nI (i + 5) := nI_add i 5
  have k1 := ckn (show i + 1 < L by omega) (show L < 2147483648 by omega)
  have c1 : (nI (i + 1)).toNatClampNeg = i + 1 := cln (by omega)
  have k2 := ckn (show i + 2 < L by omega) (show L < 2147483648 by omega)
  have c2 : (nI (i + 2)).toNatClampNeg = i + 2 := cln (by omega)
  have k3 := ckn (show i + 3 < L by omega) (show L < 2147483648 by omega)
  have c3 : (nI (i + 3)).toNatClampNeg = i + 3 := cln (by omega)
  simp only [f_L_law_428, a1, a2, a3, a5, k1, c1, k2, c2, k3, c3, g1, g2, bd_s, lgs, eq_self, if_true]
  exact ih _ _ _ _ _ _ _ _ _ _ _ g3
theorem lw_days (xs : Nat → Int32) (L : Nat) (k : G → G → G → G → G → G → G → G → G → G → G → Int32 → Option Int32) (i : Nat) (hL : L ≤ 2560) (hi : i + 5 ≤ L) (ih : ∀ S U Ki Lt LD N V W P Q M : G, InvE S U Ki Lt N M → k S U Ki Lt LD N V W P Q M (nI (i + 5)) = some 1) (S U Ki Lt LD N V W P Q M : G) (hE : InvE S U Ki Lt N M) : f_L_law_471 xs L k S U Ki Lt LD N V W P Q M (nI i) = some 1 := by
  obtain ⟨T, hI⟩ := hE
  obtain ⟨r, S', U', M', g1, g2, g3⟩ := p_days hI (xs (i + 1))
  have a1 : nI i + (1 : Int32) = nI (i + 1) := nI_add i 1
  have a5 : nI i + (5 : Int32) = nI (i + 5) := nI_add i 5
  have k1 := ckn (show i + 1 < L by omega) (show L < 2147483648 by omega)
  have c1 : (nI (i + 1)).toNatClampNeg = i + 1 := cln (by omega)
  simp only [f_L_law_471, a1, a5, k1, c1, g1, g2, bd_s, lgs, eq_self, if_true]
  exact ih _ _ _ _ _ _ _ _ _ _ _ g3
theorem lw_personThen (xs : Nat → Int32) (L : Nat) (k : G → G → G → G → G → G → G → G → G → G → G → Int32 → Option Int32) (i : Nat) (hL : L ≤ 2560) (hi : i + 5 ≤ L) (ih : ∀ S U Ki Lt LD N V W P Q M : G, InvE S U Ki Lt N M → k S U Ki Lt LD N V W P Q M (nI (i + 5)) = some 1) (S U Ki Lt LD N V W P Q M : G) (hE : InvE S U Ki Lt N M) : f_L_law_494 xs L k S U Ki Lt LD N V W P Q M (nI i) = some 1 := by
  obtain ⟨T, hI⟩ := hE
  obtain ⟨r, S', U', W', M', g1, g2, g3⟩ := p_personThen hI W (xs (i + 1)) (xs (i + 2)) (xs (i + 3))
  have a1 : nI i + (1 : Int32) = nI (i + 1) := nI_add i 1
  have a2 : nI i + (2 : Int32) = nI (i + 2) := nI_add i 2
  have a3 : nI i + (3 : Int32) = nI (i + 3) := nI_add i 3
  have a5 : nI i + (5 : Int32) = nI (i + 5) := nI_add i 5
  have k1 := ckn (show i + 1 < L by omega) (show L < 2147483648 by omega)
  have c1 : (nI (i + 1)).toNatClampNeg = i + 1 := cln (by omega)
  have k2 := ckn (show i + 2 < L by omega) (show L < 2147483648 by omega)
  have c2 : (nI (i + 2)).toNatClampNeg = i + 2 := cln (by omega)
  have k3 := ckn (show i + 3 < L by omega) (show L < 2147483648 by omega)
  have c3 : (nI (i + 3)).toNatClampNeg = i + 3 := cln (by omega)
  simp only [f_L_law_494, a1, a2, a3, a5, k1, c1, k2, c2, k3, c3, g1, g2, bd_s, lgs, eq_self, if_true]
  exact ih _ _ _ _ _ _ _ _ _ _ _ g3
theorem lw_bellThen (xs : Nat → Int32) (L : Nat) (k : G → G → G → G → G → G → G → G → G → G → G → Int32 → Option Int32) (i : Nat) (hL : L ≤ 2560) (hi : i + 5 ≤ L) (ih : ∀ S U Ki Lt LD N V W P Q M : G, InvE S U Ki Lt N M → k S U Ki Lt LD N V W P Q M (nI (i + 5)) = some 1) (S U Ki Lt LD N V W P Q M : G) (hE : InvE S U Ki Lt N M) : f_L_law_537 xs L k S U Ki Lt LD N V W P Q M (nI i) = some 1 := by
  obtain ⟨T, hI⟩ := hE
  obtain ⟨r, S', U', W', M', g1, g2, g3⟩ := p_bellThen hI W (xs (i + 1)) (xs (i + 2)) (xs (i + 3))
  have a1 : nI i + (1 : Int32) = nI (i + 1) := nI_add i 1
  have a2 : nI i + (2 : Int32) = nI (i + 2) := nI_add i 2
  have a3 : nI i + (3 : Int32) = nI (i + 3) := nI_add i 3
  have a5 : nI i + (5 : Int32) = nI (i + 5) := nI_add i 5
  have k1 := ckn (show i + 1 < L by omega) (show L < 2147483648 by omega)
  have c1 : (nI (i + 1)).toNatClampNeg = i + 1 := cln (by omega)
  have k2 := ckn (show i + 2 < L by omega) (show L < 2147483648 by omega)
  have c2 : (nI (i + 2)).toNatClampNeg = i + 2 := cln (by omega)
  have k3 := ckn (show i + 3 < L by omega) (show L < 2147483648 by omega)
  have c3 : (nI (i + 3)).toNatClampNeg = i + 3 := cln (by omega)
  simp only [f_L_law_537, a1, a2, a3, a5, k1, c1, k2, c2, k3, c3, g1, g2, bd_s, lgs, eq_self, if_true]
  exact ih _ _ _ _ _ _ _ _ _ _ _ g3
theorem lw_deaf (xs : Nat → Int32) (L : Nat) (k : G → G → G → G → G → G → G → G → G → G → G → Int32 → Option Int32) (i : Nat) (hL : L ≤ 2560) (hi : i + 5 ≤ L) (ih : ∀ S U Ki Lt LD N V W P Q M : G, InvE S U Ki Lt N M → k S U Ki Lt LD N V W P Q M (nI (i + 5)) = some 1) (S U Ki Lt LD N V W P Q M : G) (hE : InvE S U Ki Lt N M) : f_L_law_580 xs L k S U Ki Lt LD N V W P Q M (nI i) = some 1 := by
  obtain ⟨T, hI⟩ := hE
  obtain ⟨r, S', U', W', M', g1, g2, g3⟩ := p_deaf hI W (xs (i + 1))
  have a1 : nI i + (1 : Int32) = nI (i + 1) := nI_add i 1
  have a5 : nI i + (5 : Int32) = nI (i + 5) := nI_add i 5
  have k1 := ckn (show i + 1 < L by omega) (show L < 2147483648 by omega)
  have c1 : (nI (i + 1)).toNatClampNeg = i + 1 := cln (by omega)
  simp only [f_L_law_580, a1, a5, k1, c1, g1, g2, bd_s, lgs, eq_self, if_true]
  exact ih _ _ _ _ _ _ _ _ _ _ _ g3
theorem lw_lost (xs : Nat → Int32) (L : Nat) (k : G → G → G → G → G → G → G → G → G → G → G → Int32 → Option Int32) (i : Nat) (hL : L ≤ 2560) (hi : i + 5 ≤ L) (ih : ∀ S U Ki Lt LD N V W P Q M : G, InvE S U Ki Lt N M → k S U Ki Lt LD N V W P Q M (nI (i + 5)) = some 1) (S U Ki Lt LD N V W P Q M : G) (hE : InvE S U Ki Lt N M) : f_L_law_603 xs L k S U Ki Lt LD N V W P Q M (nI i) = some 1 := by
  obtain ⟨T, hI⟩ := hE
  obtain ⟨r, S', U', W', M', g1, g2, g3⟩ := p_lost hI W (xs (i + 1))
  have a1 : nI i + (1 : Int32) = nI (i + 1) := nI_add i 1
  have a5 : nI i + (5 : Int32) = nI (i + 5) := nI_add i 5
  have k1 := ckn (show i + 1 < L by omega) (show L < 2147483648 by omega)
  have c1 : (nI (i + 1)).toNatClampNeg = i + 1 := cln (by omega)
  simp only [f_L_law_603, a1, a5, k1, c1, g1, g2, bd_s, lgs, eq_self, if_true]
  exact ih _ _ _ _ _ _ _ _ _ _ _ g3
theorem lw_rings (xs : Nat → Int32) (L : Nat) (k : G → G → G → G → G → G → G → G → G → G → G → Int32 → Option Int32) (i : Nat) (hL : L ≤ 2560) (hi : i + 5 ≤ L) (ih : ∀ S U Ki Lt LD N V W P Q M : G, InvE S U Ki Lt N M → k S U Ki Lt LD N V W P Q M (nI (i + 5)) = some 1) (S U Ki Lt LD N V W P Q M : G) (hE : InvE S U Ki Lt N M) : f_L_law_626 xs L k S U Ki Lt LD N V W P Q M (nI i) = some 1 := by
  obtain ⟨T, hI⟩ := hE
  obtain ⟨r, S', U', W', M', g1, g2, g3⟩ := p_rings hI W (xs (i + 1)) (xs (i + 2)) (xs (i + 3))
  have a1 : nI i + (1 : Int32) = nI (i + 1) := nI_add i 1
  have a2 : nI i + (2 : Int32) = nI (i + 2) := nI_add i 2
  have a3 : nI i + (3 : Int32) = nI (i + 3) := nI_add i 3
  have a5 : nI i + (5 : Int32) = nI (i + 5) := nI_add i 5
  have k1 := ckn (show i + 1 < L by omega) (show L < 2147483648 by omega)
  have c1 : (nI (i + 1)).toNatClampNeg = i + 1 := cln (by omega)
  have k2 := ckn (show i + 2 < L by omega) (show L < 2147483648 by omega)
  have c2 : (nI (i + 2)).toNatClampNeg = i + 2 := cln (by omega)
  have k3 := ckn (show i + 3 < L by omega) (show L < 2147483648 by omega)
  have c3 : (nI (i + 3)).toNatClampNeg = i + 3 := cln (by omega)
  simp only [f_L_law_626, a1, a2, a3, a5, k1, c1, k2, c2, k3, c3, g1, g2, bd_s, lgs, eq_self, if_true]
  exact ih _ _ _ _ _ _ _ _ _ _ _ g3
theorem lw_send (xs : Nat → Int32) (L : Nat) (k : G → G → G → G → G → G → G → G → G → G → G → Int32 → Option Int32) (i : Nat) (hL : L ≤ 2560) (hi : i + 5 ≤ L) (ih : ∀ S U Ki Lt LD N V W P Q M : G, InvE S U Ki Lt N M → k S U Ki Lt LD N V W P Q M (nI (i + 5)) = some 1) (S U Ki Lt LD N V W P Q M : G) (hE : InvE S U Ki Lt N M) : f_L_law_669 xs L k S U Ki Lt LD N V W P Q M (nI i) = some 1 := by
  obtain ⟨T, hI⟩ := hE
  obtain ⟨r, S', U', P', Q', M', g1, g2, g3⟩ := p_send hI P Q (xs (i + 1)) (xs (i + 2)) (xs (i + 3))
  have a1 : nI i + (1 : Int32) = nI (i + 1) := nI_add i 1
  have a2 : nI i + (2 : Int32) = nI (i + 2) := nI_add i 2
  have a3 : nI i + (3 : Int32) = nI (i + 3) := nI_add i 3
  have a5 : nI i + (5 : Int32) = nI (i + 5) := nI_add i 5
  have k1 := ckn (show i + 1 < L by omega) (show L < 2147483648 by omega)
  have c1 : (nI (i + 1)).toNatClampNeg = i + 1 := cln (by omega)
  have k2 := ckn (show i + 2 < L by omega) (show L < 2147483648 by omega)
  have c2 : (nI (i + 2)).toNatClampNeg = i + 2 := cln (by omega)
  have k3 := ckn (show i + 3 < L by omega) (show L < 2147483648 by omega)
  have c3 : (nI (i + 3)).toNatClampNeg = i + 3 := cln (by omega)
  simp only [f_L_law_669, a1, a2, a3, a5, k1, c1, k2, c2, k3, c3, g1, g2, bd_s, lgs, eq_self, if_true]
  exact ih _ _ _ _ _ _ _ _ _ _ _ g3
theorem lw_nightsFor (xs : Nat → Int32) (L : Nat) (k : G → G → G → G → G → G → G → G → G → G → G → Int32 → Option Int32) (i : Nat) (hL : L ≤ 2560) (hi : i + 5 ≤ L) (ih : ∀ S U Ki Lt LD N V W P Q M : G, InvE S U Ki Lt N M → k S U Ki Lt LD N V W P Q M (nI (i + 5)) = some 1) (S U Ki Lt LD N V W P Q M : G) (hE : InvE S U Ki Lt N M) : f_L_law_712 xs L k S U Ki Lt LD N V W P Q M (nI i) = some 1 := by
  obtain ⟨T, hI⟩ := hE
  obtain ⟨r, S', U', P', Q', M', g1, g2, g3⟩ := p_nightsFor hI P Q (xs (i + 1)) (xs (i + 2))
  have a1 : nI i + (1 : Int32) = nI (i + 1) := nI_add i 1
  have a2 : nI i + (2 : Int32) = nI (i + 2) := nI_add i 2
  have a5 : nI i + (5 : Int32) = nI (i + 5) := nI_add i 5
  have k1 := ckn (show i + 1 < L by omega) (show L < 2147483648 by omega)
  have c1 : (nI (i + 1)).toNatClampNeg = i + 1 := cln (by omega)
  have k2 := ckn (show i + 2 < L by omega) (show L < 2147483648 by omega)
  have c2 : (nI (i + 2)).toNatClampNeg = i + 2 := cln (by omega)
  simp only [f_L_law_712, a1, a2, a5, k1, c1, k2, c2, g1, g2, bd_s, lgs, eq_self, if_true]
  exact ih _ _ _ _ _ _ _ _ _ _ _ g3
theorem lw_fewest (xs : Nat → Int32) (L : Nat) (k : G → G → G → G → G → G → G → G → G → G → G → Int32 → Option Int32) (i : Nat) (hL : L ≤ 2560) (hi : i + 5 ≤ L) (ih : ∀ S U Ki Lt LD N V W P Q M : G, InvE S U Ki Lt N M → k S U Ki Lt LD N V W P Q M (nI (i + 5)) = some 1) (S U Ki Lt LD N V W P Q M : G) (hE : InvE S U Ki Lt N M) : f_L_law_745 xs L k S U Ki Lt LD N V W P Q M (nI i) = some 1 := by
  obtain ⟨T, hI⟩ := hE
  obtain ⟨r, S', U', P', Q', M', g1, g2, g3⟩ := p_fewest hI P Q (xs (i + 1))
  have a1 : nI i + (1 : Int32) = nI (i + 1) := nI_add i 1
  have a5 : nI i + (5 : Int32) = nI (i + 5) := nI_add i 5
  have k1 := ckn (show i + 1 < L by omega) (show L < 2147483648 by omega)
  have c1 : (nI (i + 1)).toNatClampNeg = i + 1 := cln (by omega)
  simp only [f_L_law_745, a1, a5, k1, c1, g1, g2, bd_s, lgs, eq_self, if_true]
  exact ih _ _ _ _ _ _ _ _ _ _ _ g3
theorem lw_ask (xs : Nat → Int32) (L : Nat) (k : G → G → G → G → G → G → G → G → G → G → G → Int32 → Option Int32) (i : Nat) (hL : L ≤ 2560) (hi : i + 5 ≤ L) (ih : ∀ S U Ki Lt LD N V W P Q M : G, InvE S U Ki Lt N M → k S U Ki Lt LD N V W P Q M (nI (i + 5)) = some 1) (S U Ki Lt LD N V W P Q M : G) (hE : InvE S U Ki Lt N M) : f_L_law_768 xs L k S U Ki Lt LD N V W P Q M (nI i) = some 1 := by
  obtain ⟨T, hI⟩ := hE
  obtain ⟨r, S', U', W', M', g1, g2, g3⟩ := p_ask hI W (xs (i + 1))
  have a1 : nI i + (1 : Int32) = nI (i + 1) := nI_add i 1
  have a5 : nI i + (5 : Int32) = nI (i + 5) := nI_add i 5
  have k1 := ckn (show i + 1 < L by omega) (show L < 2147483648 by omega)
  have c1 : (nI (i + 1)).toNatClampNeg = i + 1 := cln (by omega)
  simp only [f_L_law_768, a1, a5, k1, c1, g1, g2, bd_s, lgs, eq_self, if_true]
  exact ih _ _ _ _ _ _ _ _ _ _ _ g3
theorem lw_leave (xs : Nat → Int32) (L : Nat) (k : G → G → G → G → G → G → G → G → G → G → G → Int32 → Option Int32) (i : Nat) (hL : L ≤ 2560) (hi : i + 5 ≤ L) (ih : ∀ S U Ki Lt LD N V W P Q M : G, InvE S U Ki Lt N M → k S U Ki Lt LD N V W P Q M (nI (i + 5)) = some 1) (S U Ki Lt LD N V W P Q M : G) (hE : InvE S U Ki Lt N M) : f_L_law_791 xs L k S U Ki Lt LD N V W P Q M (nI i) = some 1 := by
  obtain ⟨T, hI⟩ := hE
  obtain ⟨r, S', U', V', M', g1, g2, g3⟩ := p_leave hI V
  have a5 : nI i + (5 : Int32) = nI (i + 5) := nI_add i 5
  simp only [f_L_law_791, a5, g1, g2, bd_s, lgs, eq_self, if_true]
  exact ih _ _ _ _ _ _ _ _ _ _ _ g3
theorem lw_right (xs : Nat → Int32) (L : Nat) (k : G → G → G → G → G → G → G → G → G → G → G → Int32 → Option Int32) (i : Nat) (hL : L ≤ 2560) (hi : i + 5 ≤ L) (ih : ∀ S U Ki Lt LD N V W P Q M : G, InvE S U Ki Lt N M → k S U Ki Lt LD N V W P Q M (nI (i + 5)) = some 1) (S U Ki Lt LD N V W P Q M : G) (hE : InvE S U Ki Lt N M) : f_L_law_804 xs L k S U Ki Lt LD N V W P Q M (nI i) = some 1 := by
  obtain ⟨T, hI⟩ := hE
  obtain ⟨r, S', U', V', W', M', g1, g2, g3⟩ := p_right hI V W (xs (i + 1))
  have a1 : nI i + (1 : Int32) = nI (i + 1) := nI_add i 1
  have a5 : nI i + (5 : Int32) = nI (i + 5) := nI_add i 5
  have k1 := ckn (show i + 1 < L by omega) (show L < 2147483648 by omega)
  have c1 : (nI (i + 1)).toNatClampNeg = i + 1 := cln (by omega)
  simp only [f_L_law_804, a1, a5, k1, c1, g1, g2, bd_s, lgs, eq_self, if_true]
  exact ih _ _ _ _ _ _ _ _ _ _ _ g3
theorem lw_clash (xs : Nat → Int32) (L : Nat) (k : G → G → G → G → G → G → G → G → G → G → G → Int32 → Option Int32) (i : Nat) (hL : L ≤ 2560) (hi : i + 5 ≤ L) (ih : ∀ S U Ki Lt LD N V W P Q M : G, InvE S U Ki Lt N M → k S U Ki Lt LD N V W P Q M (nI (i + 5)) = some 1) (S U Ki Lt LD N V W P Q M : G) (hE : InvE S U Ki Lt N M) : f_L_law_827 xs L k S U Ki Lt LD N V W P Q M (nI i) = some 1 := by
  obtain ⟨T, hI⟩ := hE
  obtain ⟨r, S', U', V', M', g1, g2, g3⟩ := p_clash hI V (xs (i + 1))
  have a1 : nI i + (1 : Int32) = nI (i + 1) := nI_add i 1
  have a5 : nI i + (5 : Int32) = nI (i + 5) := nI_add i 5
  have k1 := ckn (show i + 1 < L by omega) (show L < 2147483648 by omega)
  have c1 : (nI (i + 1)).toNatClampNeg = i + 1 := cln (by omega)
  simp only [f_L_law_827, a1, a5, k1, c1, g1, g2, bd_s, lgs, eq_self, if_true]
  exact ih _ _ _ _ _ _ _ _ _ _ _ g3
theorem lw_agreed (xs : Nat → Int32) (L : Nat) (k : G → G → G → G → G → G → G → G → G → G → G → Int32 → Option Int32) (i : Nat) (hL : L ≤ 2560) (hi : i + 5 ≤ L) (ih : ∀ S U Ki Lt LD N V W P Q M : G, InvE S U Ki Lt N M → k S U Ki Lt LD N V W P Q M (nI (i + 5)) = some 1) (S U Ki Lt LD N V W P Q M : G) (hE : InvE S U Ki Lt N M) : f_L_law_850 xs L k S U Ki Lt LD N V W P Q M (nI i) = some 1 := by
  obtain ⟨T, hI⟩ := hE
  obtain ⟨r, S', U', V', M', g1, g2, g3⟩ := p_agreed hI V (xs (i + 1))
  have a1 : nI i + (1 : Int32) = nI (i + 1) := nI_add i 1
  have a5 : nI i + (5 : Int32) = nI (i + 5) := nI_add i 5
  have k1 := ckn (show i + 1 < L by omega) (show L < 2147483648 by omega)
  have c1 : (nI (i + 1)).toNatClampNeg = i + 1 := cln (by omega)
  simp only [f_L_law_850, a1, a5, k1, c1, g1, g2, bd_s, lgs, eq_self, if_true]
  exact ih _ _ _ _ _ _ _ _ _ _ _ g3
theorem lw_hours (xs : Nat → Int32) (L : Nat) (k : G → G → G → G → G → G → G → G → G → G → G → Int32 → Option Int32) (i : Nat) (hL : L ≤ 2560) (hi : i + 5 ≤ L) (ih : ∀ S U Ki Lt LD N V W P Q M : G, InvE S U Ki Lt N M → k S U Ki Lt LD N V W P Q M (nI (i + 5)) = some 1) (S U Ki Lt LD N V W P Q M : G) (hE : InvE S U Ki Lt N M) : f_L_law_873 xs L k S U Ki Lt LD N V W P Q M (nI i) = some 1 := by
  obtain ⟨T, hI⟩ := hE
  obtain ⟨r, S', U', V', M', g1, g2, g3⟩ := p_hours hI V (xs (i + 1))
  have a1 : nI i + (1 : Int32) = nI (i + 1) := nI_add i 1
  have a5 : nI i + (5 : Int32) = nI (i + 5) := nI_add i 5
  have k1 := ckn (show i + 1 < L by omega) (show L < 2147483648 by omega)
  have c1 : (nI (i + 1)).toNatClampNeg = i + 1 := cln (by omega)
  simp only [f_L_law_873, a1, a5, k1, c1, g1, g2, bd_s, lgs, eq_self, if_true]
  exact ih _ _ _ _ _ _ _ _ _ _ _ g3
theorem lw_bedsFor (xs : Nat → Int32) (L : Nat) (k : G → G → G → G → G → G → G → G → G → G → G → Int32 → Option Int32) (i : Nat) (hL : L ≤ 2560) (hi : i + 5 ≤ L) (ih : ∀ S U Ki Lt LD N V W P Q M : G, InvE S U Ki Lt N M → k S U Ki Lt LD N V W P Q M (nI (i + 5)) = some 1) (S U Ki Lt LD N V W P Q M : G) (hE : InvE S U Ki Lt N M) : f_L_law_896 xs L k S U Ki Lt LD N V W P Q M (nI i) = some 1 := by
  obtain ⟨T, hI⟩ := hE
  obtain ⟨r, S', U', P', Q', M', g1, g2, g3⟩ := p_bedsFor hI P Q (xs (i + 1))
  have a1 : nI i + (1 : Int32) = nI (i + 1) := nI_add i 1
  have a5 : nI i + (5 : Int32) = nI (i + 5) := nI_add i 5
  have k1 := ckn (show i + 1 < L by omega) (show L < 2147483648 by omega)
  have c1 : (nI (i + 1)).toNatClampNeg = i + 1 := cln (by omega)
  simp only [f_L_law_896, a1, a5, k1, c1, g1, g2, bd_s, lgs, eq_self, if_true]
  exact ih _ _ _ _ _ _ _ _ _ _ _ g3
theorem lw_next (xs : Nat → Int32) (L : Nat) (k : G → G → G → G → G → G → G → G → G → G → G → Int32 → Option Int32) (i : Nat) (hL : L ≤ 2560) (hi : i + 5 ≤ L) (ih : ∀ S U Ki Lt LD N V W P Q M : G, InvE S U Ki Lt N M → k S U Ki Lt LD N V W P Q M (nI (i + 5)) = some 1) (S U Ki Lt LD N V W P Q M : G) (hE : InvE S U Ki Lt N M) : f_L_law_919 xs L k S U Ki Lt LD N V W P Q M (nI i) = some 1 := by
  obtain ⟨T, hI⟩ := hE
  obtain ⟨r, S', U', M', g1, g2, g3⟩ := p_next hI (xs (i + 1))
  have a1 : nI i + (1 : Int32) = nI (i + 1) := nI_add i 1
  have a5 : nI i + (5 : Int32) = nI (i + 5) := nI_add i 5
  have k1 := ckn (show i + 1 < L by omega) (show L < 2147483648 by omega)
  have c1 : (nI (i + 1)).toNatClampNeg = i + 1 := cln (by omega)
  simp only [f_L_law_919, a1, a5, k1, c1, g1, g2, bd_s, lgs, eq_self, if_true]
  exact ih _ _ _ _ _ _ _ _ _ _ _ g3
theorem lw_together (xs : Nat → Int32) (L : Nat) (k : G → G → G → G → G → G → G → G → G → G → G → Int32 → Option Int32) (i : Nat) (hL : L ≤ 2560) (hi : i + 5 ≤ L) (ih : ∀ S U Ki Lt LD N V W P Q M : G, InvE S U Ki Lt N M → k S U Ki Lt LD N V W P Q M (nI (i + 5)) = some 1) (S U Ki Lt LD N V W P Q M : G) (hE : InvE S U Ki Lt N M) : f_L_law_942 xs L k S U Ki Lt LD N V W P Q M (nI i) = some 1 := by
  obtain ⟨T, hI⟩ := hE
  obtain ⟨r, S', U', M', g1, g2, g3⟩ := p_together hI 
  have a5 : nI i + (5 : Int32) = nI (i + 5) := nI_add i 5
  simp only [f_L_law_942, a5, g1, g2, bd_s, lgs, eq_self, if_true]
  exact ih _ _ _ _ _ _ _ _ _ _ _ g3
theorem lw_cost (xs : Nat → Int32) (L : Nat) (k : G → G → G → G → G → G → G → G → G → G → G → Int32 → Option Int32) (i : Nat) (hL : L ≤ 2560) (hi : i + 5 ≤ L) (ih : ∀ S U Ki Lt LD N V W P Q M : G, InvE S U Ki Lt N M → k S U Ki Lt LD N V W P Q M (nI (i + 5)) = some 1) (S U Ki Lt LD N V W P Q M : G) (hE : InvE S U Ki Lt N M) : f_L_law_955 xs L k S U Ki Lt LD N V W P Q M (nI i) = some 1 := by
  obtain ⟨T, hI⟩ := hE
  obtain ⟨r, S', U', P', Q', M', g1, g2, g3⟩ := p_cost hI P Q (xs (i + 1)) (xs (i + 2)) (xs (i + 3))
  have a1 : nI i + (1 : Int32) = nI (i + 1) := nI_add i 1
  have a2 : nI i + (2 : Int32) = nI (i + 2) := nI_add i 2
  have a3 : nI i + (3 : Int32) = nI (i + 3) := nI_add i 3
  have a5 : nI i + (5 : Int32) = nI (i + 5) := nI_add i 5
  have k1 := ckn (show i + 1 < L by omega) (show L < 2147483648 by omega)
  have c1 : (nI (i + 1)).toNatClampNeg = i + 1 := cln (by omega)
  have k2 := ckn (show i + 2 < L by omega) (show L < 2147483648 by omega)
  have c2 : (nI (i + 2)).toNatClampNeg = i + 2 := cln (by omega)
  have k3 := ckn (show i + 3 < L by omega) (show L < 2147483648 by omega)
  have c3 : (nI (i + 3)).toNatClampNeg = i + 3 := cln (by omega)
  simp only [f_L_law_955, a1, a2, a3, a5, k1, c1, k2, c2, k3, c3, g1, g2, bd_s, lgs, eq_self, if_true]
  exact ih _ _ _ _ _ _ _ _ _ _ _ g3
theorem lw_two (xs : Nat → Int32) (L : Nat) (k : G → G → G → G → G → G → G → G → G → G → G → Int32 → Option Int32) (i : Nat) (hL : L ≤ 2560) (hi : i + 5 ≤ L) (ih : ∀ S U Ki Lt LD N V W P Q M : G, InvE S U Ki Lt N M → k S U Ki Lt LD N V W P Q M (nI (i + 5)) = some 1) (S U Ki Lt LD N V W P Q M : G) (hE : InvE S U Ki Lt N M) : f_L_law_998 xs L k S U Ki Lt LD N V W P Q M (nI i) = some 1 := by
  obtain ⟨T, hI⟩ := hE
  obtain ⟨r, S', U', P', Q', M', g1, g2, g3⟩ := p_two hI P Q (xs (i + 1)) (xs (i + 2)) (xs (i + 3))
  have a1 : nI i + (1 : Int32) = nI (i + 1) := nI_add i 1
  have a2 : nI i + (2 : Int32) = nI (i + 2) := nI_add i 2
  have a3 : nI i + (3 : Int32) = nI (i + 3) := nI_add i 3
  have a5 : nI i + (5 : Int32) = nI (i + 5) := nI_add i 5
  have k1 := ckn (show i + 1 < L by omega) (show L < 2147483648 by omega)
  have c1 : (nI (i + 1)).toNatClampNeg = i + 1 := cln (by omega)
  have k2 := ckn (show i + 2 < L by omega) (show L < 2147483648 by omega)
  have c2 : (nI (i + 2)).toNatClampNeg = i + 2 := cln (by omega)
  have k3 := ckn (show i + 3 < L by omega) (show L < 2147483648 by omega)
  have c3 : (nI (i + 3)).toNatClampNeg = i + 3 := cln (by omega)
  simp only [f_L_law_998, a1, a2, a3, a5, k1, c1, k2, c2, k3, c3, g1, g2, bd_s, lgs, eq_self, if_true]
  exact ih _ _ _ _ _ _ _ _ _ _ _ g3
theorem lw_fog (xs : Nat → Int32) (L : Nat) (k : G → G → G → G → G → G → G → G → G → G → G → Int32 → Option Int32) (i : Nat) (hL : L ≤ 2560) (hi : i + 5 ≤ L) (ih : ∀ S U Ki Lt LD N V W P Q M : G, InvE S U Ki Lt N M → k S U Ki Lt LD N V W P Q M (nI (i + 5)) = some 1) (S U Ki Lt LD N V W P Q M : G) (hE : InvE S U Ki Lt N M) : f_L_law_1041 xs L k S U Ki Lt LD N V W P Q M (nI i) = some 1 := by
  obtain ⟨T, hI⟩ := hE
  obtain ⟨r, S', U', W', M', g1, g2, g3⟩ := p_fog hI W (xs (i + 1)) (xs (i + 2)) (xs (i + 3)) (xs (i + 4))
  have a1 : nI i + (1 : Int32) = nI (i + 1) := nI_add i 1
  have a2 : nI i + (2 : Int32) = nI (i + 2) := nI_add i 2
  have a3 : nI i + (3 : Int32) = nI (i + 3) := nI_add i 3
  have a4 : nI i + (4 : Int32) = nI (i + 4) := nI_add i 4
  have a5 : nI i + (5 : Int32) = nI (i + 5) := nI_add i 5
  have k1 := ckn (show i + 1 < L by omega) (show L < 2147483648 by omega)
  have c1 : (nI (i + 1)).toNatClampNeg = i + 1 := cln (by omega)
  have k2 := ckn (show i + 2 < L by omega) (show L < 2147483648 by omega)
  have c2 : (nI (i + 2)).toNatClampNeg = i + 2 := cln (by omega)
  have k3 := ckn (show i + 3 < L by omega) (show L < 2147483648 by omega)
  have c3 : (nI (i + 3)).toNatClampNeg = i + 3 := cln (by omega)
  have k4 := ckn (show i + 4 < L by omega) (show L < 2147483648 by omega)
  have c4 : (nI (i + 4)).toNatClampNeg = i + 4 := cln (by omega)
  simp only [f_L_law_1041, a1, a2, a3, a4, a5, k1, c1, k2, c2, k3, c3, k4, c4, g1, g2, bd_s, lgs, eq_self, if_true]
  exact ih _ _ _ _ _ _ _ _ _ _ _ g3
theorem lw_mean (xs : Nat → Int32) (L : Nat) (k : G → G → G → G → G → G → G → G → G → G → G → Int32 → Option Int32) (i : Nat) (hL : L ≤ 2560) (hi : i + 5 ≤ L) (ih : ∀ S U Ki Lt LD N V W P Q M : G, InvE S U Ki Lt N M → k S U Ki Lt LD N V W P Q M (nI (i + 5)) = some 1) (S U Ki Lt LD N V W P Q M : G) (hE : InvE S U Ki Lt N M) : f_L_law_1095 xs L k S U Ki Lt LD N V W P Q M (nI i) = some 1 := by
  obtain ⟨T, hI⟩ := hE
  obtain ⟨r, S', U', M', g1, g2, g3⟩ := p_mean hI (xs (i + 1))
  have a1 : nI i + (1 : Int32) = nI (i + 1) := nI_add i 1
  have a5 : nI i + (5 : Int32) = nI (i + 5) := nI_add i 5
  have k1 := ckn (show i + 1 < L by omega) (show L < 2147483648 by omega)
  have c1 : (nI (i + 1)).toNatClampNeg = i + 1 := cln (by omega)
  simp only [f_L_law_1095, a1, a5, k1, c1, g1, g2, bd_s, lgs, eq_self, if_true]
  exact ih _ _ _ _ _ _ _ _ _ _ _ g3
theorem lw_whatIs (xs : Nat → Int32) (L : Nat) (k : G → G → G → G → G → G → G → G → G → G → G → Int32 → Option Int32) (i : Nat) (hL : L ≤ 2560) (hi : i + 5 ≤ L) (ih : ∀ S U Ki Lt LD N V W P Q M : G, InvE S U Ki Lt N M → k S U Ki Lt LD N V W P Q M (nI (i + 5)) = some 1) (S U Ki Lt LD N V W P Q M : G) (hE : InvE S U Ki Lt N M) : f_L_law_1119 xs L k S U Ki Lt LD N V W P Q M (nI i) = some 1 := by
  obtain ⟨T, hI⟩ := hE
  obtain ⟨r, S', U', N', W', M', g1, g2, g3⟩ := p_whatIs hI W (xs (i + 1)) (xs (i + 2)) (xs (i + 3))
  have a1 : nI i + (1 : Int32) = nI (i + 1) := nI_add i 1
  have a2 : nI i + (2 : Int32) = nI (i + 2) := nI_add i 2
  have a3 : nI i + (3 : Int32) = nI (i + 3) := nI_add i 3
  have a5 : nI i + (5 : Int32) = nI (i + 5) := nI_add i 5
  have k1 := ckn (show i + 1 < L by omega) (show L < 2147483648 by omega)
  have c1 : (nI (i + 1)).toNatClampNeg = i + 1 := cln (by omega)
  have k2 := ckn (show i + 2 < L by omega) (show L < 2147483648 by omega)
  have c2 : (nI (i + 2)).toNatClampNeg = i + 2 := cln (by omega)
  have k3 := ckn (show i + 3 < L by omega) (show L < 2147483648 by omega)
  have c3 : (nI (i + 3)).toNatClampNeg = i + 3 := cln (by omega)
  simp only [f_L_law_1119, a1, a2, a3, a5, k1, c1, k2, c2, k3, c3, g1, g2, bd_s, lgs, eq_self, if_true]
  exact ih _ _ _ _ _ _ _ _ _ _ _ g3
theorem lw_row (xs : Nat → Int32) (L : Nat) (k : G → G → G → G → G → G → G → G → G → G → G → Int32 → Option Int32) (i : Nat) (hL : L ≤ 2560) (hi : i + 5 ≤ L) (ih : ∀ S U Ki Lt LD N V W P Q M : G, InvE S U Ki Lt N M → k S U Ki Lt LD N V W P Q M (nI (i + 5)) = some 1) (S U Ki Lt LD N V W P Q M : G) (hE : InvE S U Ki Lt N M) : f_L_law_1162 xs L k S U Ki Lt LD N V W P Q M (nI i) = some 1 := by
  obtain ⟨T, hI⟩ := hE
  obtain ⟨r, S', N', M', g1, g2, g3⟩ := p_row hI (xs (i + 1))
  have a1 : nI i + (1 : Int32) = nI (i + 1) := nI_add i 1
  have a5 : nI i + (5 : Int32) = nI (i + 5) := nI_add i 5
  have k1 := ckn (show i + 1 < L by omega) (show L < 2147483648 by omega)
  have c1 : (nI (i + 1)).toNatClampNeg = i + 1 := cln (by omega)
  simp only [f_L_law_1162, a1, a5, k1, c1, g1, g2, bd_s, lgs, eq_self, if_true]
  exact ih _ _ _ _ _ _ _ _ _ _ _ g3
theorem lw_judge (xs : Nat → Int32) (L : Nat) (k : G → G → G → G → G → G → G → G → G → G → G → Int32 → Option Int32) (i : Nat) (hL : L ≤ 2560) (hi : i + 5 ≤ L) (ih : ∀ S U Ki Lt LD N V W P Q M : G, InvE S U Ki Lt N M → k S U Ki Lt LD N V W P Q M (nI (i + 5)) = some 1) (S U Ki Lt LD N V W P Q M : G) (hE : InvE S U Ki Lt N M) : f_L_law_1185 xs L k S U Ki Lt LD N V W P Q M (nI i) = some 1 := by
  obtain ⟨T, hI⟩ := hE
  obtain ⟨r, S', U', N', W', M', g1, g2, g3⟩ := p_judge hI W
  have a5 : nI i + (5 : Int32) = nI (i + 5) := nI_add i 5
  simp only [f_L_law_1185, a5, g1, g2, bd_s, lgs, eq_self, if_true]
  exact ih _ _ _ _ _ _ _ _ _ _ _ g3
theorem lw_clear (xs : Nat → Int32) (L : Nat) (k : G → G → G → G → G → G → G → G → G → G → G → Int32 → Option Int32) (i : Nat) (hL : L ≤ 2560) (hi : i + 5 ≤ L) (ih : ∀ S U Ki Lt LD N V W P Q M : G, InvE S U Ki Lt N M → k S U Ki Lt LD N V W P Q M (nI (i + 5)) = some 1) (S U Ki Lt LD N V W P Q M : G) (hE : InvE S U Ki Lt N M) : f_L_law_1198 xs L k S U Ki Lt LD N V W P Q M (nI i) = some 1 := by
  obtain ⟨T, hI⟩ := hE
  obtain ⟨r, S', N', M', g1, g2, g3⟩ := p_clear hI 
  have a5 : nI i + (5 : Int32) = nI (i + 5) := nI_add i 5
  simp only [f_L_law_1198, a5, g1, g2, bd_s, lgs, eq_self, if_true]
  exact ih _ _ _ _ _ _ _ _ _ _ _ g3
theorem lw_lots (xs : Nat → Int32) (L : Nat) (k : G → G → G → G → G → G → G → G → G → G → G → Int32 → Option Int32) (i : Nat) (hL : L ≤ 2560) (hi : i + 5 ≤ L) (ih : ∀ S U Ki Lt LD N V W P Q M : G, InvE S U Ki Lt N M → k S U Ki Lt LD N V W P Q M (nI (i + 5)) = some 1) (S U Ki Lt LD N V W P Q M : G) (hE : InvE S U Ki Lt N M) : f_L_law_1211 xs L k S U Ki Lt LD N V W P Q M (nI i) = some 1 := by
  obtain ⟨T, hI⟩ := hE
  obtain ⟨r, S', U', W', M', g1, g2, g3⟩ := p_lots hI W (xs (i + 1)) (xs (i + 2)) (xs (i + 3))
  have a1 : nI i + (1 : Int32) = nI (i + 1) := nI_add i 1
  have a2 : nI i + (2 : Int32) = nI (i + 2) := nI_add i 2
  have a3 : nI i + (3 : Int32) = nI (i + 3) := nI_add i 3
  have a5 : nI i + (5 : Int32) = nI (i + 5) := nI_add i 5
  have k1 := ckn (show i + 1 < L by omega) (show L < 2147483648 by omega)
  have c1 : (nI (i + 1)).toNatClampNeg = i + 1 := cln (by omega)
  have k2 := ckn (show i + 2 < L by omega) (show L < 2147483648 by omega)
  have c2 : (nI (i + 2)).toNatClampNeg = i + 2 := cln (by omega)
  have k3 := ckn (show i + 3 < L by omega) (show L < 2147483648 by omega)
  have c3 : (nI (i + 3)).toNatClampNeg = i + 3 := cln (by omega)
  simp only [f_L_law_1211, a1, a2, a3, a5, k1, c1, k2, c2, k3, c3, g1, g2, bd_s, lgs, eq_self, if_true]
  exact ih _ _ _ _ _ _ _ _ _ _ _ g3
theorem lw_image (xs : Nat → Int32) (L : Nat) (k : G → G → G → G → G → G → G → G → G → G → G → Int32 → Option Int32) (i : Nat) (hL : L ≤ 2560) (hi : i + 5 ≤ L) (ih : ∀ S U Ki Lt LD N V W P Q M : G, InvE S U Ki Lt N M → k S U Ki Lt LD N V W P Q M (nI (i + 5)) = some 1) (S U Ki Lt LD N V W P Q M : G) (hE : InvE S U Ki Lt N M) : f_L_law_1254 xs L k S U Ki Lt LD N V W P Q M (nI i) = some 1 := by
  obtain ⟨T, hI⟩ := hE
  obtain ⟨r, S', U', Ki', M', g1, g2, g3⟩ := p_image hI 
  have a5 : nI i + (5 : Int32) = nI (i + 5) := nI_add i 5
  simp only [f_L_law_1254, a5, g1, g2, bd_s, lgs, eq_self, if_true]
  exact ih _ _ _ _ _ _ _ _ _ _ _ g3
theorem lw_on (xs : Nat → Int32) (L : Nat) (k : G → G → G → G → G → G → G → G → G → G → G → Int32 → Option Int32) (i : Nat) (hL : L ≤ 2560) (hi : i + 5 ≤ L) (ih : ∀ S U Ki Lt LD N V W P Q M : G, InvE S U Ki Lt N M → k S U Ki Lt LD N V W P Q M (nI (i + 5)) = some 1) (S U Ki Lt LD N V W P Q M : G) (hE : InvE S U Ki Lt N M) : f_L_law_1267 xs L k S U Ki Lt LD N V W P Q M (nI i) = some 1 := by
  obtain ⟨T, hI⟩ := hE
  obtain ⟨r, S', U', Ki', M', g1, g2, g3⟩ := p_on hI 
  have a5 : nI i + (5 : Int32) = nI (i + 5) := nI_add i 5
  simp only [f_L_law_1267, a5, g1, g2, bd_s, lgs, eq_self, if_true]
  exact ih _ _ _ _ _ _ _ _ _ _ _ g3
theorem lw_count (xs : Nat → Int32) (L : Nat) (k : G → G → G → G → G → G → G → G → G → G → G → Int32 → Option Int32) (i : Nat) (hL : L ≤ 2560) (hi : i + 5 ≤ L) (ih : ∀ S U Ki Lt LD N V W P Q M : G, InvE S U Ki Lt N M → k S U Ki Lt LD N V W P Q M (nI (i + 5)) = some 1) (S U Ki Lt LD N V W P Q M : G) (hE : InvE S U Ki Lt N M) : f_L_law_1280 xs L k S U Ki Lt LD N V W P Q M (nI i) = some 1 := by
  obtain ⟨T, hI⟩ := hE
  obtain ⟨r, S', U', Lt', N', M', g1, g2, g3⟩ := p_count hI (xs (i + 1))
  have a1 : nI i + (1 : Int32) = nI (i + 1) := nI_add i 1
  have a5 : nI i + (5 : Int32) = nI (i + 5) := nI_add i 5
  have k1 := ckn (show i + 1 < L by omega) (show L < 2147483648 by omega)
  have c1 : (nI (i + 1)).toNatClampNeg = i + 1 := cln (by omega)
  simp only [f_L_law_1280, a1, a5, k1, c1, g1, g2, bd_s, lgs, eq_self, if_true]
  exact ih _ _ _ _ _ _ _ _ _ _ _ g3
theorem stopL {L i : Nat} (hL : L ≤ 2560) (hi : i ≤ L) : (Int32.ofNat L - (5 : Int32) < nI i) ↔ L < i + 5 := by
  show nI L - nI 5 < nI i ↔ _
  by_cases q : 5 ≤ L
  · rw [pk_sub q, nI_ltI (by omega) (by omega)]; omega
  · constructor
    · intro _; omega
    · intro _
      exact Int32.lt_of_lt_of_le (pk_sneg (by decide) (by omega)) (nI_pos' (by omega))
theorem law_one (xs : Nat → Int32) {L : Nat} (hL : L ≤ 2560) : ∀ (n i : Nat) (S U Ki Lt LD N V W P Q M : G), i ≤ L → L < i + 5 * n → InvE S U Ki Lt N M → f_L_law_18 xs L n S U Ki Lt LD N V W P Q M (nI i) = some 1 := by
  intro n
  induction n with
  | zero => intro i S U Ki Lt LD N V W P Q M h1 h2; omega
  | succ n ih =>
    intro i S U Ki Lt LD N V W P Q M h1 h2 hE
    show b_L_law_18 xs L (f_L_law_18 xs L n) S U Ki Lt LD N V W P Q M (nI i) = some 1
    unfold b_L_law_18
    by_cases q : L < i + 5
    · rw [if_pos ((stopL hL h1).mpr q)]
    · have ih2 : ∀ S U Ki Lt LD N V W P Q M : G, InvE S U Ki Lt N M → f_L_law_18 xs L n S U Ki Lt LD N V W P Q M (nI (i + 5)) = some 1 := fun S U Ki Lt LD N V W P Q M h => ih (i + 5) S U Ki Lt LD N V W P Q M (by omega) (by omega) h
      have hi : i + 5 ≤ L := by omega
      rw [if_neg (fun z => q ((stopL hL h1).mp z)), ckn (show i < L by omega) (by omega), if_pos rfl]
      by_cases c0 : (xs (nI i).toNatClampNeg &&& (63 : Int32)) = (0 : Int32)
      · rw [if_pos c0]; exact lw_letter xs L _ i hL hi ih2 S U Ki Lt LD N V W P Q M hE
      rw [if_neg c0]
      by_cases c1 : (xs (nI i).toNatClampNeg &&& (63 : Int32)) = (1 : Int32)
      · rw [if_pos c1]; exact lw_town xs L _ i hL hi ih2 S U Ki Lt LD N V W P Q M hE
      rw [if_neg c1]
      by_cases c2 : (xs (nI i).toNatClampNeg &&& (63 : Int32)) = (2 : Int32)
      · rw [if_pos c2]; exact lw_bell xs L _ i hL hi ih2 S U Ki Lt LD N V W P Q M hE
      rw [if_neg c2]
      by_cases c3 : (xs (nI i).toNatClampNeg &&& (63 : Int32)) = (3 : Int32)
      · rw [if_pos c3]; exact lw_person xs L _ i hL hi ih2 S U Ki Lt LD N V W P Q M hE
      rw [if_neg c3]
      by_cases c4 : (xs (nI i).toNatClampNeg &&& (63 : Int32)) = (4 : Int32)
      · rw [if_pos c4]; exact lw_says xs L _ i hL hi ih2 S U Ki Lt LD N V W P Q M hE
      rw [if_neg c4]
      by_cases c5 : (xs (nI i).toNatClampNeg &&& (63 : Int32)) = (5 : Int32)
      · rw [if_pos c5]; exact lw_goes xs L _ i hL hi ih2 S U Ki Lt LD N V W P Q M hE
      rw [if_neg c5]
      by_cases c6 : (xs (nI i).toNatClampNeg &&& (63 : Int32)) = (6 : Int32)
      · rw [if_pos c6]; exact lw_sleeps xs L _ i hL hi ih2 S U Ki Lt LD N V W P Q M hE
      rw [if_neg c6]
      by_cases c7 : (xs (nI i).toNatClampNeg &&& (63 : Int32)) = (7 : Int32)
      · rw [if_pos c7]; exact lw_beds xs L _ i hL hi ih2 S U Ki Lt LD N V W P Q M hE
      rw [if_neg c7]
      by_cases c8 : (xs (nI i).toNatClampNeg &&& (63 : Int32)) = (8 : Int32)
      · rw [if_pos c8]; exact lw_turn xs L _ i hL hi ih2 S U Ki Lt LD N V W P Q M hE
      rw [if_neg c8]
      by_cases c9 : (xs (nI i).toNatClampNeg &&& (63 : Int32)) = (9 : Int32)
      · rw [if_pos c9]; exact lw_days xs L _ i hL hi ih2 S U Ki Lt LD N V W P Q M hE
      rw [if_neg c9]
      by_cases c10 : (xs (nI i).toNatClampNeg &&& (63 : Int32)) = (10 : Int32)
      · rw [if_pos c10]; exact lw_personThen xs L _ i hL hi ih2 S U Ki Lt LD N V W P Q M hE
      rw [if_neg c10]
      by_cases c11 : (xs (nI i).toNatClampNeg &&& (63 : Int32)) = (11 : Int32)
      · rw [if_pos c11]; exact lw_bellThen xs L _ i hL hi ih2 S U Ki Lt LD N V W P Q M hE
      rw [if_neg c11]
      by_cases c12 : (xs (nI i).toNatClampNeg &&& (63 : Int32)) = (12 : Int32)
      · rw [if_pos c12]; exact lw_deaf xs L _ i hL hi ih2 S U Ki Lt LD N V W P Q M hE
      rw [if_neg c12]
      by_cases c13 : (xs (nI i).toNatClampNeg &&& (63 : Int32)) = (13 : Int32)
      · rw [if_pos c13]; exact lw_lost xs L _ i hL hi ih2 S U Ki Lt LD N V W P Q M hE
      rw [if_neg c13]
      by_cases c14 : (xs (nI i).toNatClampNeg &&& (63 : Int32)) = (14 : Int32)
      · rw [if_pos c14]; exact lw_rings xs L _ i hL hi ih2 S U Ki Lt LD N V W P Q M hE
      rw [if_neg c14]
      by_cases c15 : (xs (nI i).toNatClampNeg &&& (63 : Int32)) = (15 : Int32)
      · rw [if_pos c15]; exact lw_send xs L _ i hL hi ih2 S U Ki Lt LD N V W P Q M hE
      rw [if_neg c15]
      by_cases c16 : (xs (nI i).toNatClampNeg &&& (63 : Int32)) = (16 : Int32)
      · rw [if_pos c16]; exact lw_nightsFor xs L _ i hL hi ih2 S U Ki Lt LD N V W P Q M hE
      rw [if_neg c16]
      by_cases c17 : (xs (nI i).toNatClampNeg &&& (63 : Int32)) = (17 : Int32)
      · rw [if_pos c17]; exact lw_fewest xs L _ i hL hi ih2 S U Ki Lt LD N V W P Q M hE
      rw [if_neg c17]
      by_cases c18 : (xs (nI i).toNatClampNeg &&& (63 : Int32)) = (18 : Int32)
      · rw [if_pos c18]; exact lw_ask xs L _ i hL hi ih2 S U Ki Lt LD N V W P Q M hE
      rw [if_neg c18]
      by_cases c19 : (xs (nI i).toNatClampNeg &&& (63 : Int32)) = (19 : Int32)
      · rw [if_pos c19]; exact lw_leave xs L _ i hL hi ih2 S U Ki Lt LD N V W P Q M hE
      rw [if_neg c19]
      by_cases c20 : (xs (nI i).toNatClampNeg &&& (63 : Int32)) = (20 : Int32)
      · rw [if_pos c20]; exact lw_right xs L _ i hL hi ih2 S U Ki Lt LD N V W P Q M hE
      rw [if_neg c20]
      by_cases c21 : (xs (nI i).toNatClampNeg &&& (63 : Int32)) = (21 : Int32)
      · rw [if_pos c21]; exact lw_clash xs L _ i hL hi ih2 S U Ki Lt LD N V W P Q M hE
      rw [if_neg c21]
      by_cases c22 : (xs (nI i).toNatClampNeg &&& (63 : Int32)) = (22 : Int32)
      · rw [if_pos c22]; exact lw_agreed xs L _ i hL hi ih2 S U Ki Lt LD N V W P Q M hE
      rw [if_neg c22]
      by_cases c23 : (xs (nI i).toNatClampNeg &&& (63 : Int32)) = (23 : Int32)
      · rw [if_pos c23]; exact lw_hours xs L _ i hL hi ih2 S U Ki Lt LD N V W P Q M hE
      rw [if_neg c23]
      by_cases c24 : (xs (nI i).toNatClampNeg &&& (63 : Int32)) = (24 : Int32)
      · rw [if_pos c24]; exact lw_bedsFor xs L _ i hL hi ih2 S U Ki Lt LD N V W P Q M hE
      rw [if_neg c24]
      by_cases c25 : (xs (nI i).toNatClampNeg &&& (63 : Int32)) = (25 : Int32)
      · rw [if_pos c25]; exact lw_next xs L _ i hL hi ih2 S U Ki Lt LD N V W P Q M hE
      rw [if_neg c25]
      by_cases c26 : (xs (nI i).toNatClampNeg &&& (63 : Int32)) = (26 : Int32)
      · rw [if_pos c26]; exact lw_together xs L _ i hL hi ih2 S U Ki Lt LD N V W P Q M hE
      rw [if_neg c26]
      by_cases c27 : (xs (nI i).toNatClampNeg &&& (63 : Int32)) = (27 : Int32)
      · rw [if_pos c27]; exact lw_cost xs L _ i hL hi ih2 S U Ki Lt LD N V W P Q M hE
      rw [if_neg c27]
      by_cases c28 : (xs (nI i).toNatClampNeg &&& (63 : Int32)) = (28 : Int32)
      · rw [if_pos c28]; exact lw_two xs L _ i hL hi ih2 S U Ki Lt LD N V W P Q M hE
      rw [if_neg c28]
      by_cases c29 : (xs (nI i).toNatClampNeg &&& (63 : Int32)) = (29 : Int32)
      · rw [if_pos c29]; exact lw_fog xs L _ i hL hi ih2 S U Ki Lt LD N V W P Q M hE
      rw [if_neg c29]
      by_cases c30 : (xs (nI i).toNatClampNeg &&& (63 : Int32)) = (30 : Int32)
      · rw [if_pos c30]; exact lw_mean xs L _ i hL hi ih2 S U Ki Lt LD N V W P Q M hE
      rw [if_neg c30]
      by_cases c31 : (xs (nI i).toNatClampNeg &&& (63 : Int32)) = (31 : Int32)
      · rw [if_pos c31]; exact lw_whatIs xs L _ i hL hi ih2 S U Ki Lt LD N V W P Q M hE
      rw [if_neg c31]
      by_cases c32 : (xs (nI i).toNatClampNeg &&& (63 : Int32)) = (32 : Int32)
      · rw [if_pos c32]; exact lw_row xs L _ i hL hi ih2 S U Ki Lt LD N V W P Q M hE
      rw [if_neg c32]
      by_cases c33 : (xs (nI i).toNatClampNeg &&& (63 : Int32)) = (33 : Int32)
      · rw [if_pos c33]; exact lw_judge xs L _ i hL hi ih2 S U Ki Lt LD N V W P Q M hE
      rw [if_neg c33]
      by_cases c34 : (xs (nI i).toNatClampNeg &&& (63 : Int32)) = (34 : Int32)
      · rw [if_pos c34]; exact lw_clear xs L _ i hL hi ih2 S U Ki Lt LD N V W P Q M hE
      rw [if_neg c34]
      by_cases c35 : (xs (nI i).toNatClampNeg &&& (63 : Int32)) = (35 : Int32)
      · rw [if_pos c35]; exact lw_lots xs L _ i hL hi ih2 S U Ki Lt LD N V W P Q M hE
      rw [if_neg c35]
      by_cases c36 : (xs (nI i).toNatClampNeg &&& (63 : Int32)) = (36 : Int32)
      · rw [if_pos c36]; exact lw_image xs L _ i hL hi ih2 S U Ki Lt LD N V W P Q M hE
      rw [if_neg c36]
      by_cases c37 : (xs (nI i).toNatClampNeg &&& (63 : Int32)) = (37 : Int32)
      · rw [if_pos c37]; exact lw_on xs L _ i hL hi ih2 S U Ki Lt LD N V W P Q M hE
      rw [if_neg c37]
      by_cases c38 : (xs (nI i).toNatClampNeg &&& (63 : Int32)) = (38 : Int32)
      · rw [if_pos c38]; exact lw_count xs L _ i hL hi ih2 S U Ki Lt LD N V W P Q M hE
      rw [if_neg c38]
      rw [show nI i + (5 : Int32) = nI (i + 5) from nI_add i 5]
      exact ih2 _ _ _ _ _ _ _ _ _ _ _ hE
