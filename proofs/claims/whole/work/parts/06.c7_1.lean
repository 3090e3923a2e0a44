abbrev rmX7_sleepsOne : Room := { frames := 1, cells := 0, slots := 0, locals := 22 }
set_option maxHeartbeats 4000000 in
set_option maxRecDepth 100000 in
theorem c_X7_sleepsOne (l : Launch) (D : va_G) (cI : ClassId) (o_t : Nat) (a_t : Nat → Nat) (S_t : G) (x1 : Int32) (x2 : Int32) (out : Unit × G) (hf : f_X7_sleepsOne S_t x1 x2 = some out) : Cn E0 l yX7_sleepsOne wsX7_sleepsOne rmX7_sleepsOne D cI [.ref o_t, .int x1, .int x2] (gX7 o_t a_t cI S_t) none (gX7 o_t a_t cI out.2) := by
  refine Cn.mk (cc := cX7_sleepsOne) (maxL := 3) (ret := none) (by decide) rfl (Nat.le_of_ble_eq_true rfl) ?_
  intro p e s m below meth c A ls Q hx hb hml hown hts hK hA hP hD hS hl hr hlk hnm hE hQ
  have hown : s.vm.findClass RX7 = some m.cls := hown
  have hinX7 : ∀ w ∈ u_ws RX7 TX7 26, w ∈ wsX7_sleepsOne := by decide +kernel
  have j74 : ∀ (S_t : G) (s1 : Int32) (s2 : Int32) (H : Heap) (locs : List Loc) (ls : Array Slot), f_X7_sleepsOne_74 S_t s1 s2 = some out → va_P D vwCl (gX7 o_t a_t cI S_t) H → va_D A (gX7 o_t a_t cI S_t) → va_S A s.heap H locs → lv_has ls 3 [] → W p l e rmX7_sleepsOne s m ([.ref o_t, .int x1, .int x2] : List Value).toArray below meth c H locs 0 0 Q (F0 m 74 ls [.int s2, .int s1, .ref (a_t 5)]) := by
    intro S_t s1 s2 H locs ls hf hP hD hS hl
    unfold f_X7_sleepsOne_74 at hf
    refine lv_iconst (v := (0 : Int32)) hx hb dX7_sleepsOne_74 (by decide) ?_
    refine lv_bipush (v := (99 : Int32)) hx hb dX7_sleepsOne_75 (by decide) ?_
    obtain ⟨r77, u77, h77, hf⟩ := bd_some hf
    have hPc : va_P D vwCl [] H := hP.sub (ws' := []) [] rfl
    have hDc : va_D A [] := hD.sub (ws' := []) [] (by decide) rfl
    refine calXe (runS E0.b E0.n (As := [.int s2, .int (0 : Int32), .int (99 : Int32)]) (rest := [.int s1, .ref (a_t 5)]) ⟨hx, hb, hml, hown, hts⟩ (c_X7_held l D cI s2 (0 : Int32) (99 : Int32) _ h77) gX7_sleepsOne_X7_held rfl rfl rfl hdX7_held ⟨by decide, by decide⟩ hK hPc hDc rfl hl.1 rfl (Nat.le_of_ble_eq_true rfl) dX7_sleepsOne_77 ⟨Nat.zero_le _, Nat.zero_le _⟩) hP hD hS hA (fun H locs hP hD hS => ?_)
    have hP : va_P D vwCl (gX7 o_t a_t cI S_t) H := hP
    have hD : va_D A (gX7 o_t a_t cI S_t) := hD
    refine W.eq (g2 := F0 m 80 ls [.int r77, .int s1, .ref (a_t 5)]) rfl ?_
    obtain ⟨b80, hf⟩ := ck_some hf
    refine va_iast hx hb hK hP hD hS 6 0 rfl rfl b80 dX7_sleepsOne_80 (fun H locs hP hD hS => ?_)
    have hP : va_P D vwCl (gX7 o_t a_t cI (pA S_t 5 s1.toNatClampNeg r77)) H := hP
    have hD : va_D A (gX7 o_t a_t cI (pA S_t 5 s1.toNatClampNeg r77)) := hD
    obtain ⟨g80, e80, hf⟩ := lt_some hf
    rw [← e80] at hP hD
    have e := so_some hf
    subst e
    exact rv hx hb hK hr hlk hQ dX7_sleepsOne_81 hP hD hS
  unfold f_X7_sleepsOne at hf
  have hl : lv_has ls 3 [(0, .ref o_t), (1, .int x1), (2, .int x2)] := hl
  obtain ⟨H, hHe⟩ : ∃ H : Heap, H = s.heap := ⟨_, rfl⟩
  obtain ⟨locs, hle⟩ : ∃ q : List Loc, q = [] := ⟨_, rfl⟩
  have hS : va_S A s.heap H locs := by rw [hHe, hle]; exact hS
  rw [← hHe] at hP
  suffices hgo : W p l e rmX7_sleepsOne s m ([.ref o_t, .int x1, .int x2] : List Value).toArray below meth c H locs 0 0 Q (F0 m 0 ls []) by rw [hHe, hle] at hgo; exact hgo
  clear hHe hle
  refine lv_aload_n hx hb dX7_sleepsOne_0 rfl (lv_at hl 0 rfl) ?_
  refine va_get (D := D) (ci := 7) (v := .ref (a_t 6)) (C := RX7) (T := TX7) (N := 26) hx hb hts hinX7 hown hK hP 0 rfl rfl 6 (by decide) (hts (.fieldLink RX7 28 "OnlyStrangersHearModel" "away" "[I") (by decide +kernel)) (fun _ h9 => h9) rfl dX7_sleepsOne_1 ?_
  refine lv_iload_n hx hb dX7_sleepsOne_4 rfl (lv_at hl 1 rfl) ?_
  obtain ⟨b5, hf⟩ := ck_some hf
  refine va_iald hx hb hK hP 7 0 rfl rfl b5 dX7_sleepsOne_5 ?_
  refine lv_if_le (tgt := 42) hx hb dX7_sleepsOne_6 (by decide) (fun c6 => ?_) (fun c6 => ?_)
  · replace hf := it_t c6 hf
    refine lv_aload_n hx hb dX7_sleepsOne_42 rfl (lv_at hl 0 rfl) ?_
    refine va_get (D := D) (ci := 7) (v := .ref (a_t 5)) (C := RX7) (T := TX7) (N := 26) hx hb hts hinX7 hown hK hP 0 rfl rfl 5 (by decide) (hts (.fieldLink RX7 25 "OnlyStrangersHearModel" "slept" "[I") (by decide +kernel)) (fun _ h9 => h9) rfl dX7_sleepsOne_43 ?_
    refine lv_iload_n hx hb dX7_sleepsOne_46 rfl (lv_at hl 1 rfl) ?_
    refine lv_iload_n hx hb dX7_sleepsOne_47 rfl (lv_at hl 2 rfl) ?_
    refine lv_aload_n hx hb dX7_sleepsOne_48 rfl (lv_at hl 0 rfl) ?_
    refine va_get (D := D) (ci := 7) (v := .int (S_t.1 10)) (C := RX7) (T := TX7) (N := 26) hx hb hts hinX7 hown hK hP 0 rfl rfl 10 (by decide) (hts (.fieldLink RX7 56 "OnlyStrangersHearModel" "beds" "I") (by decide +kernel)) (fun _ h9 => h9) rfl dX7_sleepsOne_49 ?_
    refine lv_icmp_ge (tgt := 66) hx hb dX7_sleepsOne_52 (by decide) (fun c52 => ?_) (fun c52 => ?_)
    · replace hf := it_t c52 hf
      refine lv_aload_n hx hb dX7_sleepsOne_66 rfl (lv_at hl 0 rfl) ?_
      refine va_get (D := D) (ci := 7) (v := .ref (a_t 5)) (C := RX7) (T := TX7) (N := 26) hx hb hts hinX7 hown hK hP 0 rfl rfl 5 (by decide) (hts (.fieldLink RX7 25 "OnlyStrangersHearModel" "slept" "[I") (by decide +kernel)) (fun _ h9 => h9) rfl dX7_sleepsOne_67 ?_
      refine lv_iload_n hx hb dX7_sleepsOne_70 rfl (lv_at hl 1 rfl) ?_
      obtain ⟨b71, hf⟩ := ck_some hf
      refine va_iald hx hb hK hP 6 0 rfl rfl b71 dX7_sleepsOne_71 ?_
      refine lv_iconst (v := (1 : Int32)) hx hb dX7_sleepsOne_72 (by decide) ?_
      refine lv_isub hx hb dX7_sleepsOne_73 ?_
      exact j74 S_t x1 ((S_t.2 5 x1.toNatClampNeg) - (1 : Int32)) H locs ls hf hP hD hS (lv_sub hl [] rfl)
    · replace hf := it_f c52 hf
      refine lv_aload_n hx hb dX7_sleepsOne_55 rfl (lv_at hl 0 rfl) ?_
      refine va_get (D := D) (ci := 7) (v := .ref (a_t 5)) (C := RX7) (T := TX7) (N := 26) hx hb hts hinX7 hown hK hP 0 rfl rfl 5 (by decide) (hts (.fieldLink RX7 25 "OnlyStrangersHearModel" "slept" "[I") (by decide +kernel)) (fun _ h9 => h9) rfl dX7_sleepsOne_56 ?_
      refine lv_iload_n hx hb dX7_sleepsOne_59 rfl (lv_at hl 1 rfl) ?_
      obtain ⟨b60, hf⟩ := ck_some hf
      refine va_iald hx hb hK hP 6 0 rfl rfl b60 dX7_sleepsOne_60 ?_
      refine lv_iconst (v := (1 : Int32)) hx hb dX7_sleepsOne_61 (by decide) ?_
      refine lv_iadd hx hb dX7_sleepsOne_62 ?_
      refine lv_goto (tgt := 74) hx hb dX7_sleepsOne_63 (by decide) ?_
      exact j74 S_t x1 ((S_t.2 5 x1.toNatClampNeg) + (1 : Int32)) H locs ls hf hP hD hS (lv_sub hl [] rfl)
  · replace hf := it_f c6 hf
    refine lv_aload_n hx hb dX7_sleepsOne_9 rfl (lv_at hl 0 rfl) ?_
    refine va_get (D := D) (ci := 7) (v := .ref (a_t 6)) (C := RX7) (T := TX7) (N := 26) hx hb hts hinX7 hown hK hP 0 rfl rfl 6 (by decide) (hts (.fieldLink RX7 28 "OnlyStrangersHearModel" "away" "[I") (by decide +kernel)) (fun _ h9 => h9) rfl dX7_sleepsOne_10 ?_
    refine lv_iload_n hx hb dX7_sleepsOne_13 rfl (lv_at hl 1 rfl) ?_
    refine lv_dup2_11 hx hb dX7_sleepsOne_14 rfl rfl ?_
    obtain ⟨b15, hf⟩ := ck_some hf
    refine va_iald hx hb hK hP 7 0 rfl rfl b15 dX7_sleepsOne_15 ?_
    refine lv_iconst (v := (1 : Int32)) hx hb dX7_sleepsOne_16 (by decide) ?_
    refine lv_isub hx hb dX7_sleepsOne_17 ?_
    obtain ⟨b18, hf⟩ := ck_some hf
    refine va_iast hx hb hK hP hD hS 7 0 rfl rfl b18 dX7_sleepsOne_18 (fun H locs hP hD hS => ?_)
    have hP : va_P D vwCl (gX7 o_t a_t cI (pA S_t 6 x1.toNatClampNeg ((S_t.2 6 x1.toNatClampNeg) - (1 : Int32)))) H := hP
    have hD : va_D A (gX7 o_t a_t cI (pA S_t 6 x1.toNatClampNeg ((S_t.2 6 x1.toNatClampNeg) - (1 : Int32)))) := hD
    obtain ⟨g18, e18, hf⟩ := lt_some hf
    rw [← e18] at hP hD
    refine lv_aload_n hx hb dX7_sleepsOne_19 rfl (lv_at hl 0 rfl) ?_
    refine va_get (D := D) (ci := 7) (v := .ref (a_t 5)) (C := RX7) (T := TX7) (N := 26) hx hb hts hinX7 hown hK hP 0 rfl rfl 5 (by decide) (hts (.fieldLink RX7 25 "OnlyStrangersHearModel" "slept" "[I") (by decide +kernel)) (fun _ h9 => h9) rfl dX7_sleepsOne_20 ?_
    refine lv_iload_n hx hb dX7_sleepsOne_23 rfl (lv_at hl 1 rfl) ?_
    refine lv_aload_n hx hb dX7_sleepsOne_24 rfl (lv_at hl 0 rfl) ?_
    refine va_get (D := D) (ci := 7) (v := .ref (a_t 5)) (C := RX7) (T := TX7) (N := 26) hx hb hts hinX7 hown hK hP 0 rfl rfl 5 (by decide) (hts (.fieldLink RX7 25 "OnlyStrangersHearModel" "slept" "[I") (by decide +kernel)) (fun _ h9 => h9) rfl dX7_sleepsOne_25 ?_
    refine lv_iload_n hx hb dX7_sleepsOne_28 rfl (lv_at hl 1 rfl) ?_
    obtain ⟨b29, hf⟩ := ck_some hf
    refine va_iald hx hb hK hP 6 0 rfl rfl b29 dX7_sleepsOne_29 ?_
    refine lv_iconst (v := (2 : Int32)) hx hb dX7_sleepsOne_30 (by decide) ?_
    refine lv_isub hx hb dX7_sleepsOne_31 ?_
    refine lv_iconst (v := (0 : Int32)) hx hb dX7_sleepsOne_32 (by decide) ?_
    refine lv_bipush (v := (99 : Int32)) hx hb dX7_sleepsOne_33 (by decide) ?_
    obtain ⟨r35, u35, h35, hf⟩ := bd_some hf
    have hPc : va_P D vwCl [] H := hP.sub (ws' := []) [] rfl
    have hDc : va_D A [] := hD.sub (ws' := []) [] (by decide) rfl
    refine calXe (runS E0.b E0.n (As := [.int ((g18.2 5 x1.toNatClampNeg) - (2 : Int32)), .int (0 : Int32), .int (99 : Int32)]) (rest := [.int x1, .ref (a_t 5)]) ⟨hx, hb, hml, hown, hts⟩ (c_X7_held l D cI ((g18.2 5 x1.toNatClampNeg) - (2 : Int32)) (0 : Int32) (99 : Int32) _ h35) gX7_sleepsOne_X7_held rfl rfl rfl hdX7_held ⟨by decide, by decide⟩ hK hPc hDc rfl hl.1 rfl (Nat.le_of_ble_eq_true rfl) dX7_sleepsOne_35 ⟨Nat.zero_le _, Nat.zero_le _⟩) hP hD hS hA (fun H locs hP hD hS => ?_)
    have hP : va_P D vwCl (gX7 o_t a_t cI g18) H := hP
    have hD : va_D A (gX7 o_t a_t cI g18) := hD
    refine W.eq (g2 := F0 m 38 ls [.int r35, .int x1, .ref (a_t 5)]) rfl ?_
    obtain ⟨b38, hf⟩ := ck_some hf
    refine va_iast hx hb hK hP hD hS 6 0 rfl rfl b38 dX7_sleepsOne_38 (fun H locs hP hD hS => ?_)
    have hP : va_P D vwCl (gX7 o_t a_t cI (pA g18 5 x1.toNatClampNeg r35)) H := hP
    have hD : va_D A (gX7 o_t a_t cI (pA g18 5 x1.toNatClampNeg r35)) := hD
    obtain ⟨g38, e38, hf⟩ := lt_some hf
    rw [← e38] at hP hD
    refine lv_goto (tgt := 81) hx hb dX7_sleepsOne_39 (by decide) ?_
    have e := so_some hf
    subst e
    exact rv hx hb hK hr hlk hQ dX7_sleepsOne_81 hP hD hS
abbrev rmX7_goesDay : Room := { frames := 2, cells := 0, slots := 0, locals := 44 }
set_option maxHeartbeats 4000000 in
set_option maxRecDepth 100000 in
theorem c_X7_goesDay (l : Launch) (D : va_G) (cI : ClassId) (o_t : Nat) (a_t : Nat → Nat) (S_t : G) (x1 : Int32) (out : Unit × G) (hf : f_X7_goesDay S_t x1 = some out) : Cn E0 l yX7_goesDay wsX7_goesDay rmX7_goesDay D cI [.ref o_t, .int x1] (gX7 o_t a_t cI S_t) none (gX7 o_t a_t cI out.2) := by
  refine Cn.mk (cc := cX7_goesDay) (maxL := 5) (ret := none) (by decide) rfl (Nat.le_of_ble_eq_true rfl) ?_
  intro p e s m below meth c A ls Q hx hb hml hown hts hK hA hP hD hS hl hr hlk hnm hE hQ
  have hown : s.vm.findClass RX7 = some m.cls := hown
  have hinX7 : ∀ w ∈ u_ws RX7 TX7 26, w ∈ wsX7_goesDay := by decide +kernel
  have j14 : ∀ (n14 : Nat) (S_t : G) (l1 : Int32) (l2 : Int32) (l3 : Int32) (H : Heap) (locs : List Loc) (ls : Array Slot), f_X7_goesDay_14 n14 S_t l1 l2 l3 = some out → va_P D vwCl (gX7 o_t a_t cI S_t) H → va_D A (gX7 o_t a_t cI S_t) → va_S A s.heap H locs → lv_has ls 5 [(0, .ref o_t), (1, .int l1), (2, .int l2), (3, .int l3)] → W p l e rmX7_goesDay s m ([.ref o_t, .int x1] : List Value).toArray below meth c H locs 0 0 Q (F0 m 14 ls []) := by
    intro n14
    induction n14 with
    | zero =>
      intro S_t l1 l2 l3 H locs ls hf
      exact no_some hf
    | succ n14 ih14 =>
      have j40 : ∀ (S_t : G) (l1 : Int32) (l2 : Int32) (l3 : Int32) (s0 : Int32) (H : Heap) (locs : List Loc) (ls : Array Slot), f_X7_goesDay_40 (f_X7_goesDay_14 n14) S_t l1 l2 l3 s0 = some out → va_P D vwCl (gX7 o_t a_t cI S_t) H → va_D A (gX7 o_t a_t cI S_t) → va_S A s.heap H locs → lv_has ls 5 [(0, .ref o_t), (1, .int l1), (2, .int l2), (3, .int l3)] → W p l e rmX7_goesDay s m ([.ref o_t, .int x1] : List Value).toArray below meth c H locs 0 0 Q (F0 m 40 ls [.int s0]) := by
        intro S_t l1 l2 l3 s0 H locs ls hf hP hD hS hl
        unfold f_X7_goesDay_40 at hf
        refine lv_istore (lv' := [(4, .int s0), (0, .ref o_t), (1, .int l1), (2, .int l2), (3, .int l3)]) hx hb dX7_goesDay_40 hl (by decide) rfl (fun ls hl => ?_)
        refine lv_aload_n hx hb dX7_goesDay_42 rfl (lv_at hl 1 rfl) ?_
        refine lv_iload_n hx hb dX7_goesDay_43 rfl (lv_at hl 4 rfl) ?_
        refine lv_iload_n hx hb dX7_goesDay_44 rfl (lv_at hl 3 rfl) ?_
        obtain ⟨r45, u45, h45, hf⟩ := bd_some hf
        refine calX0 (runV E0.b E0.n (As := [.int l3, .int l2]) (rest := []) ⟨hx, hb, hml, hown, hts⟩ (c_X7_sleepsOne l D cI o_t a_t S_t l3 l2 _ h45) gX7_goesDay_X7_sleepsOne rfl rfl rfl hdX7_sleepsOne ⟨by decide, by decide⟩ hK hP hD 0 rfl rfl rfl hl.1 rfl (Nat.le_of_ble_eq_true rfl) dX7_goesDay_45 ⟨Nat.zero_le _, Nat.zero_le _⟩) hD hS hA (fun H locs hP hD hS => ?_)
        have hP : va_P D vwCl (gX7 o_t a_t cI u45) H := hP
        have hD : va_D A (gX7 o_t a_t cI u45) := hD
        refine W.eq (g2 := F0 m 48 ls []) rfl ?_
        refine lv_iload_n hx hb dX7_goesDay_48 rfl (lv_at hl 3 rfl) ?_
        refine lv_iload hx hb dX7_goesDay_49 (lv_at hl 0 rfl) ?_
        refine lv_iadd hx hb dX7_goesDay_51 ?_
        refine lv_istore_n (lv' := [(2, .int (l2 + s0)), (4, .int s0), (0, .ref o_t), (1, .int l1), (3, .int l3)]) hx hb dX7_goesDay_52 rfl hl (by decide) rfl (fun ls hl => ?_)
        refine lv_iinc (v := l3 + (1 : Int32)) (lv' := [(3, .int (l3 + (1 : Int32))), (2, .int (l2 + s0)), (4, .int s0), (0, .ref o_t), (1, .int l1)]) hx hb dX7_goesDay_53 hl (k := 4) rfl rfl (by decide) rfl (fun ls hl => ?_)
        refine lv_goto (tgt := 14) hx hb dX7_goesDay_56 (by decide) ?_
        exact ih14 u45 l1 (l2 + s0) (l3 + (1 : Int32)) H locs ls hf hP hD hS (lv_sub hl [3, 4, 1, 0] rfl)
      intro S_t l1 l2 l3 H locs ls hf hP hD hS hl
      replace hf : b_X7_goesDay_14 (f_X7_goesDay_14 n14) S_t l1 l2 l3 = some out := hf
      unfold b_X7_goesDay_14 at hf
      refine lv_iload_n hx hb dX7_goesDay_14 rfl (lv_at hl 3 rfl) ?_
      refine lv_aload_n hx hb dX7_goesDay_15 rfl (lv_at hl 0 rfl) ?_
      refine va_get (D := D) (ci := 7) (v := .int (S_t.1 8)) (C := RX7) (T := TX7) (N := 26) hx hb hts hinX7 hown hK hP 0 rfl rfl 8 (by decide) (hts (.fieldLink RX7 65 "OnlyStrangersHearModel" "people" "I") (by decide +kernel)) (fun _ h9 => h9) rfl dX7_goesDay_16 ?_
      refine lv_icmp_ge (tgt := 59) hx hb dX7_goesDay_19 (by decide) (fun c19 => ?_) (fun c19 => ?_)
      · replace hf := it_t c19 hf
        have e := so_some hf
        subst e
        exact rv hx hb hK hr hlk hQ dX7_goesDay_59 hP hD hS
      · replace hf := it_f c19 hf
        refine lv_iload_n hx hb dX7_goesDay_22 rfl (lv_at hl 1 rfl) ?_
        refine lv_if_ne (tgt := 59) hx hb dX7_goesDay_23 (by decide) (fun c23 => ?_) (fun c23 => ?_)
        · replace hf := it_f c23 hf
          have e := so_some hf
          subst e
          exact rv hx hb hK hr hlk hQ dX7_goesDay_59 hP hD hS
        · replace hf := it_t c23 hf
          refine lv_aload_n hx hb dX7_goesDay_26 rfl (lv_at hl 0 rfl) ?_
          refine va_get (D := D) (ci := 7) (v := .ref (a_t 6)) (C := RX7) (T := TX7) (N := 26) hx hb hts hinX7 hown hK hP 0 rfl rfl 6 (by decide) (hts (.fieldLink RX7 28 "OnlyStrangersHearModel" "away" "[I") (by decide +kernel)) (fun _ h9 => h9) rfl dX7_goesDay_27 ?_
          refine lv_iload_n hx hb dX7_goesDay_30 rfl (lv_at hl 3 rfl) ?_
          obtain ⟨b31, hf⟩ := ck_some hf
          refine va_iald hx hb hK hP 7 0 rfl rfl b31 dX7_goesDay_31 ?_
          refine lv_if_ne (tgt := 39) hx hb dX7_goesDay_32 (by decide) (fun c32 => ?_) (fun c32 => ?_)
          · replace hf := it_f c32 hf
            refine lv_iconst (v := (0 : Int32)) hx hb dX7_goesDay_39 (by decide) ?_
            exact j40 S_t l1 l2 l3 (0 : Int32) H locs ls hf hP hD hS (lv_sub hl [0, 1, 2, 3] rfl)
          · replace hf := it_t c32 hf
            refine lv_iconst (v := (1 : Int32)) hx hb dX7_goesDay_35 (by decide) ?_
            refine lv_goto (tgt := 40) hx hb dX7_goesDay_36 (by decide) ?_
            exact j40 S_t l1 l2 l3 (1 : Int32) H locs ls hf hP hD hS (lv_sub hl [0, 1, 2, 3] rfl)
  unfold f_X7_goesDay at hf
  have hl : lv_has ls 5 [(0, .ref o_t), (1, .int x1)] := hl
  obtain ⟨H, hHe⟩ : ∃ H : Heap, H = s.heap := ⟨_, rfl⟩
  obtain ⟨locs, hle⟩ : ∃ q : List Loc, q = [] := ⟨_, rfl⟩
  have hS : va_S A s.heap H locs := by rw [hHe, hle]; exact hS
  rw [← hHe] at hP
  suffices hgo : W p l e rmX7_goesDay s m ([.ref o_t, .int x1] : List Value).toArray below meth c H locs 0 0 Q (F0 m 0 ls []) by rw [hHe, hle] at hgo; exact hgo
  clear hHe hle
  refine lv_aload_n hx hb dX7_goesDay_0 rfl (lv_at hl 0 rfl) ?_
  refine lv_dup hx hb dX7_goesDay_1 rfl ?_
  refine va_get (D := D) (ci := 7) (v := .int (S_t.1 9)) (C := RX7) (T := TX7) (N := 26) hx hb hts hinX7 hown hK hP 0 rfl rfl 9 (by decide) (hts (.fieldLink RX7 107 "OnlyStrangersHearModel" "day" "I") (by decide +kernel)) (fun _ h9 => h9) rfl dX7_goesDay_2 ?_
  refine lv_iconst (v := (1 : Int32)) hx hb dX7_goesDay_5 (by decide) ?_
  refine lv_iadd hx hb dX7_goesDay_6 ?_
  refine va_put (D := D) (ci := 7) (v := .int ((S_t.1 9) + (1 : Int32))) (ty := .int) (C := RX7) (T := TX7) (N := 26) hx hb hts hinX7 tyX7 tyX7_ok nmX7 hown hK hP hD hS 0 rfl rfl 9 (by decide) (hts (.fieldLink RX7 107 "OnlyStrangersHearModel" "day" "I") (by decide +kernel)) (fun _ h9 => h9) rfl (by decide +kernel) rfl rfl (Nat.le_of_ble_eq_true rfl) dX7_goesDay_7 (fun H locs hP hD hS => ?_)
  have hP : va_P D vwCl (gX7 o_t a_t cI (pF S_t 9 ((S_t.1 9) + (1 : Int32)))) H := hP
  have hD : va_D A (gX7 o_t a_t cI (pF S_t 9 ((S_t.1 9) + (1 : Int32)))) := hD
  obtain ⟨g7, e7, hf⟩ := lt_some hf
  rw [← e7] at hP hD
  refine lv_iconst (v := (0 : Int32)) hx hb dX7_goesDay_10 (by decide) ?_
  refine lv_istore_n (lv' := [(2, .int (0 : Int32)), (0, .ref o_t), (1, .int x1)]) hx hb dX7_goesDay_11 rfl hl (by decide) rfl (fun ls hl => ?_)
  refine lv_iconst (v := (0 : Int32)) hx hb dX7_goesDay_12 (by decide) ?_
  refine lv_istore_n (lv' := [(3, .int (0 : Int32)), (2, .int (0 : Int32)), (0, .ref o_t), (1, .int x1)]) hx hb dX7_goesDay_13 rfl hl (by decide) rfl (fun ls hl => ?_)
  exact j14 1000 g7 x1 (0 : Int32) (0 : Int32) H locs ls hf hP hD hS (lv_sub hl [2, 3, 1, 0] rfl)
abbrev rmX7_goesOn : Room := { frames := 3, cells := 0, slots := 0, locals := 68 }
set_option maxHeartbeats 4000000 in
set_option maxRecDepth 100000 in
theorem c_X7_goesOn (l : Launch) (D : va_G) (cI : ClassId) (o_t : Nat) (a_t : Nat → Nat) (S_t : G) (x1 : Int32) (out : Unit × G) (hf : f_X7_goesOn S_t x1 = some out) : Cn E0 l yX7_goesOn wsX7_goesOn rmX7_goesOn D cI [.ref o_t, .int x1] (gX7 o_t a_t cI S_t) none (gX7 o_t a_t cI out.2) := by
  refine Cn.mk (cc := cX7_goesOn) (maxL := 3) (ret := none) (by decide) rfl (Nat.le_of_ble_eq_true rfl) ?_
  intro p e s m below meth c A ls Q hx hb hml hown hts hK hA hP hD hS hl hr hlk hnm hE hQ
  have hown : s.vm.findClass RX7 = some m.cls := hown
  have j2 : ∀ (n2 : Nat) (S_t : G) (l1 : Int32) (l2 : Int32) (H : Heap) (locs : List Loc) (ls : Array Slot), f_X7_goesOn_2 n2 S_t l1 l2 = some out → va_P D vwCl (gX7 o_t a_t cI S_t) H → va_D A (gX7 o_t a_t cI S_t) → va_S A s.heap H locs → lv_has ls 3 [(0, .ref o_t), (1, .int l1), (2, .int l2)] → W p l e rmX7_goesOn s m ([.ref o_t, .int x1] : List Value).toArray below meth c H locs 0 0 Q (F0 m 2 ls []) := by
    intro n2
    induction n2 with
    | zero =>
      intro S_t l1 l2 H locs ls hf
      exact no_some hf
    | succ n2 ih2 =>
      intro S_t l1 l2 H locs ls hf hP hD hS hl
      replace hf : b_X7_goesOn_2 (f_X7_goesOn_2 n2) S_t l1 l2 = some out := hf
      unfold b_X7_goesOn_2 at hf
      refine lv_iload_n hx hb dX7_goesOn_2 rfl (lv_at hl 2 rfl) ?_
      refine lv_iload_n hx hb dX7_goesOn_3 rfl (lv_at hl 1 rfl) ?_
      refine lv_icmp_ge (tgt := 18) hx hb dX7_goesOn_4 (by decide) (fun c4 => ?_) (fun c4 => ?_)
      · replace hf := it_t c4 hf
        have e := so_some hf
        subst e
        exact rv hx hb hK hr hlk hQ dX7_goesOn_18 hP hD hS
      · replace hf := it_f c4 hf
        refine lv_aload_n hx hb dX7_goesOn_7 rfl (lv_at hl 0 rfl) ?_
        refine lv_iconst (v := (0 : Int32)) hx hb dX7_goesOn_8 (by decide) ?_
        obtain ⟨r9, u9, h9, hf⟩ := bd_some hf
        refine calX0 (runV E0.b E0.n (As := [.int (0 : Int32)]) (rest := []) ⟨hx, hb, hml, hown, hts⟩ (c_X7_goesDay l D cI o_t a_t S_t (0 : Int32) _ h9) gX7_goesOn_X7_goesDay rfl rfl rfl hdX7_goesDay ⟨by decide, by decide⟩ hK hP hD 0 rfl rfl rfl hl.1 rfl (Nat.le_of_ble_eq_true rfl) dX7_goesOn_9 ⟨Nat.zero_le _, Nat.zero_le _⟩) hD hS hA (fun H locs hP hD hS => ?_)
        have hP : va_P D vwCl (gX7 o_t a_t cI u9) H := hP
        have hD : va_D A (gX7 o_t a_t cI u9) := hD
        refine W.eq (g2 := F0 m 12 ls []) rfl ?_
        refine lv_iinc (v := l2 + (1 : Int32)) (lv' := [(2, .int (l2 + (1 : Int32))), (0, .ref o_t), (1, .int l1)]) hx hb dX7_goesOn_12 hl (k := 2) rfl rfl (by decide) rfl (fun ls hl => ?_)
        refine lv_goto (tgt := 2) hx hb dX7_goesOn_15 (by decide) ?_
        exact ih2 u9 l1 (l2 + (1 : Int32)) H locs ls hf hP hD hS (lv_sub hl [1, 2, 0] rfl)
  unfold f_X7_goesOn at hf
  have hl : lv_has ls 3 [(0, .ref o_t), (1, .int x1)] := hl
  obtain ⟨H, hHe⟩ : ∃ H : Heap, H = s.heap := ⟨_, rfl⟩
  obtain ⟨locs, hle⟩ : ∃ q : List Loc, q = [] := ⟨_, rfl⟩
  have hS : va_S A s.heap H locs := by rw [hHe, hle]; exact hS
  rw [← hHe] at hP
  suffices hgo : W p l e rmX7_goesOn s m ([.ref o_t, .int x1] : List Value).toArray below meth c H locs 0 0 Q (F0 m 0 ls []) by rw [hHe, hle] at hgo; exact hgo
  clear hHe hle
  refine lv_iconst (v := (0 : Int32)) hx hb dX7_goesOn_0 (by decide) ?_
  refine lv_istore_n (lv' := [(2, .int (0 : Int32)), (0, .ref o_t), (1, .int x1)]) hx hb dX7_goesOn_1 rfl hl (by decide) rfl (fun ls hl => ?_)
  exact j2 1000 S_t x1 (0 : Int32) H locs ls hf hP hD hS (lv_sub hl [1, 2, 0] rfl)
abbrev rmX7_comesDays : Room := { frames := 4, cells := 0, slots := 0, locals := 90 }
set_option maxHeartbeats 4000000 in
set_option maxRecDepth 100000 in
theorem c_X7_comesDays (l : Launch) (D : va_G) (cI : ClassId) (o_t : Nat) (a_t : Nat → Nat) (S_t : G) (x1 : Int32) (out : Int32 × G) (hf : f_X7_comesDays S_t x1 = some out) : Cn E0 l yX7_comesDays wsX7_comesDays rmX7_comesDays D cI [.ref o_t, .int x1] (gX7 o_t a_t cI S_t) (some (.int out.1)) (gX7 o_t a_t cI out.2) := by
  refine Cn.mk (cc := cX7_comesDays) (maxL := 2) (ret := (some .boolean)) (by decide) rfl (Nat.le_of_ble_eq_true rfl) ?_
  intro p e s m below meth c A ls Q hx hb hml hown hts hK hA hP hD hS hl hr hlk hnm hE hQ
  have hown : s.vm.findClass RX7 = some m.cls := hown
  have hinX7 : ∀ w ∈ u_ws RX7 TX7 26, w ∈ wsX7_comesDays := by decide +kernel
  unfold f_X7_comesDays at hf
  have hl : lv_has ls 2 [(0, .ref o_t), (1, .int x1)] := hl
  obtain ⟨H, hHe⟩ : ∃ H : Heap, H = s.heap := ⟨_, rfl⟩
  obtain ⟨locs, hle⟩ : ∃ q : List Loc, q = [] := ⟨_, rfl⟩
  have hS : va_S A s.heap H locs := by rw [hHe, hle]; exact hS
  rw [← hHe] at hP
  suffices hgo : W p l e rmX7_comesDays s m ([.ref o_t, .int x1] : List Value).toArray below meth c H locs 0 0 Q (F0 m 0 ls []) by rw [hHe, hle] at hgo; exact hgo
  clear hHe hle
  refine lv_iload_n hx hb dX7_comesDays_0 rfl (lv_at hl 1 rfl) ?_
  refine lv_iconst (v := (1 : Int32)) hx hb dX7_comesDays_1 (by decide) ?_
  refine lv_bipush (v := (60 : Int32)) hx hb dX7_comesDays_2 (by decide) ?_
  obtain ⟨r4, u4, h4, hf⟩ := bd_some hf
  have hPc : va_P D vwCl [] H := hP.sub (ws' := []) [] rfl
  have hDc : va_D A [] := hD.sub (ws' := []) [] (by decide) rfl
  refine calXe (runS E0.b E0.n (As := [.int x1, .int (1 : Int32), .int (60 : Int32)]) (rest := []) ⟨hx, hb, hml, hown, hts⟩ (c_X7_isIn l D cI x1 (1 : Int32) (60 : Int32) _ h4) gX7_comesDays_X7_isIn rfl rfl rfl hdX7_isIn ⟨by decide, by decide⟩ hK hPc hDc rfl hl.1 rfl (Nat.le_of_ble_eq_true rfl) dX7_comesDays_4 ⟨Nat.zero_le _, Nat.zero_le _⟩) hP hD hS hA (fun H locs hP hD hS => ?_)
  have hP : va_P D vwCl (gX7 o_t a_t cI S_t) H := hP
  have hD : va_D A (gX7 o_t a_t cI S_t) := hD
  refine W.eq (g2 := F0 m 7 ls [.int r4]) rfl ?_
  refine lv_if_eq (tgt := 22) hx hb dX7_comesDays_7 (by decide) (fun c7 => ?_) (fun c7 => ?_)
  · replace hf := it_t c7 hf
    refine lv_iconst (v := (0 : Int32)) hx hb dX7_comesDays_22 (by decide) ?_
    have e := so_some hf
    subst e
    exact rz hx hb hK hr hlk (Or.inl rfl) hQ dX7_comesDays_23 hP hD hS
  · replace hf := it_f c7 hf
    refine lv_aload_n hx hb dX7_comesDays_10 rfl (lv_at hl 0 rfl) ?_
    refine va_get (D := D) (ci := 7) (v := .int (S_t.1 9)) (C := RX7) (T := TX7) (N := 26) hx hb hts hinX7 hown hK hP 0 rfl rfl 9 (by decide) (hts (.fieldLink RX7 107 "OnlyStrangersHearModel" "day" "I") (by decide +kernel)) (fun _ h9 => h9) rfl dX7_comesDays_11 ?_
    refine lv_iload_n hx hb dX7_comesDays_14 rfl (lv_at hl 1 rfl) ?_
    refine lv_iadd hx hb dX7_comesDays_15 ?_
    refine lv_sipush (v := (999 : Int32)) hx hb dX7_comesDays_16 (by decide) ?_
    refine lv_icmp_le (tgt := 24) hx hb dX7_comesDays_19 (by decide) (fun c19 => ?_) (fun c19 => ?_)
    · replace hf := it_t c19 hf
      refine lv_aload_n hx hb dX7_comesDays_24 rfl (lv_at hl 0 rfl) ?_
      refine lv_iload_n hx hb dX7_comesDays_25 rfl (lv_at hl 1 rfl) ?_
      obtain ⟨r26, u26, h26, hf⟩ := bd_some hf
      refine calX0 (runV E0.b E0.n (As := [.int x1]) (rest := []) ⟨hx, hb, hml, hown, hts⟩ (c_X7_goesOn l D cI o_t a_t S_t x1 _ h26) gX7_comesDays_X7_goesOn rfl rfl rfl hdX7_goesOn ⟨by decide, by decide⟩ hK hP hD 0 rfl rfl rfl hl.1 rfl (Nat.le_of_ble_eq_true rfl) dX7_comesDays_26 ⟨Nat.zero_le _, Nat.zero_le _⟩) hD hS hA (fun H locs hP hD hS => ?_)
      have hP : va_P D vwCl (gX7 o_t a_t cI u26) H := hP
      have hD : va_D A (gX7 o_t a_t cI u26) := hD
      refine W.eq (g2 := F0 m 29 ls []) rfl ?_
      refine lv_iconst (v := (1 : Int32)) hx hb dX7_comesDays_29 (by decide) ?_
      have e := so_some hf
      subst e
      exact rz hx hb hK hr hlk (Or.inr rfl) hQ dX7_comesDays_30 hP hD hS
    · replace hf := it_f c19 hf
      refine lv_iconst (v := (0 : Int32)) hx hb dX7_comesDays_22 (by decide) ?_
      have e := so_some hf
      subst e
      exact rz hx hb hK hr hlk (Or.inl rfl) hQ dX7_comesDays_23 hP hD hS
abbrev rmX7_comes : Room := { frames := 5, cells := 0, slots := 0, locals := 111 }
set_option maxHeartbeats 4000000 in
set_option maxRecDepth 100000 in
theorem c_X7_comes (l : Launch) (D : va_G) (cI : ClassId) (o_t : Nat) (a_t : Nat → Nat) (S_t : G) (x1 : Int32) (out : Int32 × G) (hf : f_X7_comes S_t x1 = some out) : Cn E0 l yX7_comes wsX7_comes rmX7_comes D cI [.ref o_t, .int x1] (gX7 o_t a_t cI S_t) (some (.int out.1)) (gX7 o_t a_t cI out.2) := by
  refine Cn.mk (cc := cX7_comes) (maxL := 3) (ret := (some .boolean)) (by decide) rfl (Nat.le_of_ble_eq_true rfl) ?_
  intro p e s m below meth c A ls Q hx hb hml hown hts hK hA hP hD hS hl hr hlk hnm hE hQ
  have hown : s.vm.findClass RX7 = some m.cls := hown
  have hinX7 : ∀ w ∈ u_ws RX7 TX7 26, w ∈ wsX7_comes := by decide +kernel
  unfold f_X7_comes at hf
  have hl : lv_has ls 3 [(0, .ref o_t), (1, .int x1)] := hl
  obtain ⟨H, hHe⟩ : ∃ H : Heap, H = s.heap := ⟨_, rfl⟩
  obtain ⟨locs, hle⟩ : ∃ q : List Loc, q = [] := ⟨_, rfl⟩
  have hS : va_S A s.heap H locs := by rw [hHe, hle]; exact hS
  rw [← hHe] at hP
  suffices hgo : W p l e rmX7_comes s m ([.ref o_t, .int x1] : List Value).toArray below meth c H locs 0 0 Q (F0 m 0 ls []) by rw [hHe, hle] at hgo; exact hgo
  clear hHe hle
  refine lv_iconst (v := (3 : Int32)) hx hb dX7_comes_0 (by decide) ?_
  refine lv_iload_n hx hb dX7_comes_1 rfl (lv_at hl 1 rfl) ?_
  refine lv_imul hx hb dX7_comes_2 ?_
  refine lv_istore_n (lv' := [(2, .int ((3 : Int32) * x1)), (0, .ref o_t), (1, .int x1)]) hx hb dX7_comes_3 rfl hl (by decide) rfl (fun ls hl => ?_)
  refine lv_aload_n hx hb dX7_comes_4 rfl (lv_at hl 1 rfl) ?_
  refine va_get (D := D) (ci := 7) (v := .ref (a_t 13)) (C := RX7) (T := TX7) (N := 26) hx hb hts hinX7 hown hK hP 0 rfl rfl 13 (by decide) (hts (.fieldLink RX7 38 "OnlyStrangersHearModel" "letter" "[I") (by decide +kernel)) (fun _ h9 => h9) rfl dX7_comes_5 ?_
  refine lv_iload_n hx hb dX7_comes_8 rfl (lv_at hl 2 rfl) ?_
  obtain ⟨b9, hf⟩ := ck_some hf
  refine va_iald hx hb hK hP 9 0 rfl rfl b9 dX7_comes_9 ?_
  by_cases ck98 : (S_t.2 13 x1.toNatClampNeg) = (98 : Int32)
  · replace hf := it_t ck98 hf
    refine lv_lookup (off := 50) (tgt := 60) hx hb dX7_comes_10 (by decide) (by rw [ck98]; decide) (by decide) ?_
    refine lv_aload_n hx hb dX7_comes_60 rfl (lv_at hl 1 rfl) ?_
    refine lv_aload_n hx hb dX7_comes_61 rfl (lv_at hl 1 rfl) ?_
    refine va_get (D := D) (ci := 7) (v := .ref (a_t 15)) (C := RX7) (T := TX7) (N := 26) hx hb hts hinX7 hown hK hP 0 rfl rfl 15 (by decide) (hts (.fieldLink RX7 44 "OnlyStrangersHearModel" "told" "[I") (by decide +kernel)) (fun _ h9 => h9) rfl dX7_comes_62 ?_
    refine lv_iload_n hx hb dX7_comes_65 rfl (lv_at hl 0 rfl) ?_
    obtain ⟨b66, hf⟩ := ck_some hf
    refine va_iald hx hb hK hP 11 0 rfl rfl b66 dX7_comes_66 ?_
    refine lv_aload_n hx hb dX7_comes_67 rfl (lv_at hl 1 rfl) ?_
    refine va_get (D := D) (ci := 7) (v := .ref (a_t 15)) (C := RX7) (T := TX7) (N := 26) hx hb hts hinX7 hown hK hP 0 rfl rfl 15 (by decide) (hts (.fieldLink RX7 44 "OnlyStrangersHearModel" "told" "[I") (by decide +kernel)) (fun _ h9 => h9) rfl dX7_comes_68 ?_
    refine lv_iload_n hx hb dX7_comes_71 rfl (lv_at hl 0 rfl) ?_
    refine lv_iconst (v := (1 : Int32)) hx hb dX7_comes_72 (by decide) ?_
    refine lv_iadd hx hb dX7_comes_73 ?_
    obtain ⟨b74, hf⟩ := ck_some hf
    refine va_iald hx hb hK hP 11 0 rfl rfl b74 dX7_comes_74 ?_
    obtain ⟨r75, u75, h75, hf⟩ := bd_some hf
    refine calX0 (runV E0.b E0.n (As := [.int (S_t.2 15 ((3 : Int32) * x1).toNatClampNeg), .int (S_t.2 15 (((3 : Int32) * x1) + (1 : Int32)).toNatClampNeg)]) (rest := []) ⟨hx, hb, hml, hown, hts⟩ (c_X7_comesBell l D cI o_t a_t S_t (S_t.2 15 ((3 : Int32) * x1).toNatClampNeg) (S_t.2 15 (((3 : Int32) * x1) + (1 : Int32)).toNatClampNeg) _ h75) gX7_comes_X7_comesBell rfl rfl rfl hdX7_comesBell ⟨by decide, by decide⟩ hK hP hD 0 rfl rfl rfl hl.1 rfl (Nat.le_of_ble_eq_true rfl) dX7_comes_75 ⟨Nat.zero_le _, Nat.zero_le _⟩) hD hS hA (fun H locs hP hD hS => ?_)
    have hP : va_P D vwCl (gX7 o_t a_t cI u75) H := hP
    have hD : va_D A (gX7 o_t a_t cI u75) := hD
    refine W.eq (g2 := F0 m 78 ls [.int r75]) rfl ?_
    obtain ⟨z78, hf⟩ := zb_some hf
    have e := so_some hf
    subst e
    exact rz hx hb hK hr hlk z78 hQ dX7_comes_78 hP hD hS
  · replace hf := it_f ck98 hf
    by_cases ck101 : (S_t.2 13 x1.toNatClampNeg) = (101 : Int32)
    · replace hf := it_t ck101 hf
      refine lv_lookup (off := 168) (tgt := 178) hx hb dX7_comes_10 (by decide) (by rw [ck101]; decide) (by decide) ?_
      refine lv_aload_n hx hb dX7_comes_178 rfl (lv_at hl 1 rfl) ?_
      refine lv_aload_n hx hb dX7_comes_179 rfl (lv_at hl 1 rfl) ?_
      refine va_get (D := D) (ci := 7) (v := .ref (a_t 15)) (C := RX7) (T := TX7) (N := 26) hx hb hts hinX7 hown hK hP 0 rfl rfl 15 (by decide) (hts (.fieldLink RX7 44 "OnlyStrangersHearModel" "told" "[I") (by decide +kernel)) (fun _ h9 => h9) rfl dX7_comes_180 ?_
      refine lv_iload_n hx hb dX7_comes_183 rfl (lv_at hl 0 rfl) ?_
      obtain ⟨b184, hf⟩ := ck_some hf
      refine va_iald hx hb hK hP 11 0 rfl rfl b184 dX7_comes_184 ?_
      refine va_put (D := D) (ci := 7) (v := .int (S_t.2 15 ((3 : Int32) * x1).toNatClampNeg)) (ty := .int) (C := RX7) (T := TX7) (N := 26) hx hb hts hinX7 tyX7 tyX7_ok nmX7 hown hK hP hD hS 0 rfl rfl 10 (by decide) (hts (.fieldLink RX7 56 "OnlyStrangersHearModel" "beds" "I") (by decide +kernel)) (fun _ h9 => h9) rfl (by decide +kernel) rfl rfl (Nat.le_of_ble_eq_true rfl) dX7_comes_185 (fun H locs hP hD hS => ?_)
      have hP : va_P D vwCl (gX7 o_t a_t cI (pF S_t 10 (S_t.2 15 ((3 : Int32) * x1).toNatClampNeg))) H := hP
      have hD : va_D A (gX7 o_t a_t cI (pF S_t 10 (S_t.2 15 ((3 : Int32) * x1).toNatClampNeg))) := hD
      obtain ⟨g185, e185, hf⟩ := lt_some hf
      rw [← e185] at hP hD
      refine lv_aload_n hx hb dX7_comes_188 rfl (lv_at hl 1 rfl) ?_
      refine va_get (D := D) (ci := 7) (v := .int (g185.1 10)) (C := RX7) (T := TX7) (N := 26) hx hb hts hinX7 hown hK hP 0 rfl rfl 10 (by decide) (hts (.fieldLink RX7 56 "OnlyStrangersHearModel" "beds" "I") (by decide +kernel)) (fun _ h9 => h9) rfl dX7_comes_189 ?_
      refine lv_iconst (v := (1 : Int32)) hx hb dX7_comes_192 (by decide) ?_
      refine lv_bipush (v := (8 : Int32)) hx hb dX7_comes_193 (by decide) ?_
      obtain ⟨r195, u195, h195, hf⟩ := bd_some hf
      have hPc : va_P D vwCl [] H := hP.sub (ws' := []) [] rfl
      have hDc : va_D A [] := hD.sub (ws' := []) [] (by decide) rfl
      refine calXe (runS E0.b E0.n (As := [.int (g185.1 10), .int (1 : Int32), .int (8 : Int32)]) (rest := []) ⟨hx, hb, hml, hown, hts⟩ (c_X7_isIn l D cI (g185.1 10) (1 : Int32) (8 : Int32) _ h195) gX7_comes_X7_isIn rfl rfl rfl hdX7_isIn ⟨by decide, by decide⟩ hK hPc hDc rfl hl.1 rfl (Nat.le_of_ble_eq_true rfl) dX7_comes_195 ⟨Nat.zero_le _, Nat.zero_le _⟩) hP hD hS hA (fun H locs hP hD hS => ?_)
      have hP : va_P D vwCl (gX7 o_t a_t cI g185) H := hP
      have hD : va_D A (gX7 o_t a_t cI g185) := hD
      refine W.eq (g2 := F0 m 198 ls [.int r195]) rfl ?_
      obtain ⟨z198, hf⟩ := zb_some hf
      have e := so_some hf
      subst e
      exact rz hx hb hK hr hlk z198 hQ dX7_comes_198 hP hD hS
    · replace hf := it_f ck101 hf
      by_cases ck103 : (S_t.2 13 x1.toNatClampNeg) = (103 : Int32)
      · replace hf := it_t ck103 hf
        refine lv_lookup (off := 96) (tgt := 106) hx hb dX7_comes_10 (by decide) (by rw [ck103]; decide) (by decide) ?_
        refine lv_aload_n hx hb dX7_comes_106 rfl (lv_at hl 1 rfl) ?_
        refine lv_aload_n hx hb dX7_comes_107 rfl (lv_at hl 1 rfl) ?_
        refine va_get (D := D) (ci := 7) (v := .ref (a_t 15)) (C := RX7) (T := TX7) (N := 26) hx hb hts hinX7 hown hK hP 0 rfl rfl 15 (by decide) (hts (.fieldLink RX7 44 "OnlyStrangersHearModel" "told" "[I") (by decide +kernel)) (fun _ h9 => h9) rfl dX7_comes_108 ?_
        refine lv_iload_n hx hb dX7_comes_111 rfl (lv_at hl 0 rfl) ?_
        obtain ⟨b112, hf⟩ := ck_some hf
        refine va_iald hx hb hK hP 11 0 rfl rfl b112 dX7_comes_112 ?_
        obtain ⟨r113, u113, h113, hf⟩ := bd_some hf
        refine calX0 (runV E0.b E0.n (As := [.int (S_t.2 15 ((3 : Int32) * x1).toNatClampNeg)]) (rest := []) ⟨hx, hb, hml, hown, hts⟩ (c_X7_isOne l D cI o_t a_t S_t (S_t.2 15 ((3 : Int32) * x1).toNatClampNeg) _ h113) gX7_comes_X7_isOne rfl rfl rfl hdX7_isOne ⟨by decide, by decide⟩ hK hP hD 0 rfl rfl rfl hl.1 rfl (Nat.le_of_ble_eq_true rfl) dX7_comes_113 ⟨Nat.zero_le _, Nat.zero_le _⟩) hD hS hA (fun H locs hP hD hS => ?_)
        have hP : va_P D vwCl (gX7 o_t a_t cI u113) H := hP
        have hD : va_D A (gX7 o_t a_t cI u113) := hD
        refine W.eq (g2 := F0 m 116 ls [.int r113]) rfl ?_
        refine lv_if_ne (tgt := 121) hx hb dX7_comes_116 (by decide) (fun c116 => ?_) (fun c116 => ?_)
        · replace hf := it_f c116 hf
          refine lv_aload_n hx hb dX7_comes_121 rfl (lv_at hl 1 rfl) ?_
          refine va_get (D := D) (ci := 7) (v := .ref (a_t 6)) (C := RX7) (T := TX7) (N := 26) hx hb hts hinX7 hown hK hP 0 rfl rfl 6 (by decide) (hts (.fieldLink RX7 28 "OnlyStrangersHearModel" "away" "[I") (by decide +kernel)) (fun _ h9 => h9) rfl dX7_comes_122 ?_
          refine lv_aload_n hx hb dX7_comes_125 rfl (lv_at hl 1 rfl) ?_
          refine va_get (D := D) (ci := 7) (v := .ref (a_t 15)) (C := RX7) (T := TX7) (N := 26) hx hb hts hinX7 hown hK hP 0 rfl rfl 15 (by decide) (hts (.fieldLink RX7 44 "OnlyStrangersHearModel" "told" "[I") (by decide +kernel)) (fun _ h9 => h9) rfl dX7_comes_126 ?_
          refine lv_iload_n hx hb dX7_comes_129 rfl (lv_at hl 0 rfl) ?_
          obtain ⟨b130, hf⟩ := ck_some hf
          refine va_iald hx hb hK hP 11 0 rfl rfl b130 dX7_comes_130 ?_
          refine lv_aload_n hx hb dX7_comes_131 rfl (lv_at hl 1 rfl) ?_
          refine va_get (D := D) (ci := 7) (v := .ref (a_t 15)) (C := RX7) (T := TX7) (N := 26) hx hb hts hinX7 hown hK hP 0 rfl rfl 15 (by decide) (hts (.fieldLink RX7 44 "OnlyStrangersHearModel" "told" "[I") (by decide +kernel)) (fun _ h9 => h9) rfl dX7_comes_132 ?_
          refine lv_iload_n hx hb dX7_comes_135 rfl (lv_at hl 0 rfl) ?_
          refine lv_iconst (v := (1 : Int32)) hx hb dX7_comes_136 (by decide) ?_
          refine lv_iadd hx hb dX7_comes_137 ?_
          obtain ⟨b138, hf⟩ := ck_some hf
          refine va_iald hx hb hK hP 11 0 rfl rfl b138 dX7_comes_138 ?_
          obtain ⟨b139, hf⟩ := ck_some hf
          refine va_iast hx hb hK hP hD hS 7 0 rfl rfl b139 dX7_comes_139 (fun H locs hP hD hS => ?_)
          have hP : va_P D vwCl (gX7 o_t a_t cI (pA u113 6 (u113.2 15 ((3 : Int32) * x1).toNatClampNeg).toNatClampNeg (u113.2 15 (((3 : Int32) * x1) + (1 : Int32)).toNatClampNeg))) H := hP
          have hD : va_D A (gX7 o_t a_t cI (pA u113 6 (u113.2 15 ((3 : Int32) * x1).toNatClampNeg).toNatClampNeg (u113.2 15 (((3 : Int32) * x1) + (1 : Int32)).toNatClampNeg))) := hD
          obtain ⟨g139, e139, hf⟩ := lt_some hf
          rw [← e139] at hP hD
          refine lv_iconst (v := (1 : Int32)) hx hb dX7_comes_140 (by decide) ?_
          have e := so_some hf
          subst e
          exact rz hx hb hK hr hlk (Or.inr rfl) hQ dX7_comes_141 hP hD hS
        · replace hf := it_t c116 hf
          refine lv_iconst (v := (0 : Int32)) hx hb dX7_comes_119 (by decide) ?_
          have e := so_some hf
          subst e
          exact rz hx hb hK hr hlk (Or.inl rfl) hQ dX7_comes_120 hP hD hS
      · replace hf := it_f ck103 hf
        by_cases ck112 : (S_t.2 13 x1.toNatClampNeg) = (112 : Int32)
        · replace hf := it_t ck112 hf
          refine lv_lookup (off := 69) (tgt := 79) hx hb dX7_comes_10 (by decide) (by rw [ck112]; decide) (by decide) ?_
          refine lv_aload_n hx hb dX7_comes_79 rfl (lv_at hl 1 rfl) ?_
          refine lv_aload_n hx hb dX7_comes_80 rfl (lv_at hl 1 rfl) ?_
          refine va_get (D := D) (ci := 7) (v := .ref (a_t 15)) (C := RX7) (T := TX7) (N := 26) hx hb hts hinX7 hown hK hP 0 rfl rfl 15 (by decide) (hts (.fieldLink RX7 44 "OnlyStrangersHearModel" "told" "[I") (by decide +kernel)) (fun _ h9 => h9) rfl dX7_comes_81 ?_
          refine lv_iload_n hx hb dX7_comes_84 rfl (lv_at hl 0 rfl) ?_
          obtain ⟨b85, hf⟩ := ck_some hf
          refine va_iald hx hb hK hP 11 0 rfl rfl b85 dX7_comes_85 ?_
          refine lv_aload_n hx hb dX7_comes_86 rfl (lv_at hl 1 rfl) ?_
          refine va_get (D := D) (ci := 7) (v := .ref (a_t 15)) (C := RX7) (T := TX7) (N := 26) hx hb hts hinX7 hown hK hP 0 rfl rfl 15 (by decide) (hts (.fieldLink RX7 44 "OnlyStrangersHearModel" "told" "[I") (by decide +kernel)) (fun _ h9 => h9) rfl dX7_comes_87 ?_
          refine lv_iload_n hx hb dX7_comes_90 rfl (lv_at hl 0 rfl) ?_
          refine lv_iconst (v := (1 : Int32)) hx hb dX7_comes_91 (by decide) ?_
          refine lv_iadd hx hb dX7_comes_92 ?_
          obtain ⟨b93, hf⟩ := ck_some hf
          refine va_iald hx hb hK hP 11 0 rfl rfl b93 dX7_comes_93 ?_
          refine lv_aload_n hx hb dX7_comes_94 rfl (lv_at hl 1 rfl) ?_
          refine va_get (D := D) (ci := 7) (v := .ref (a_t 15)) (C := RX7) (T := TX7) (N := 26) hx hb hts hinX7 hown hK hP 0 rfl rfl 15 (by decide) (hts (.fieldLink RX7 44 "OnlyStrangersHearModel" "told" "[I") (by decide +kernel)) (fun _ h9 => h9) rfl dX7_comes_95 ?_
          refine lv_iload_n hx hb dX7_comes_98 rfl (lv_at hl 0 rfl) ?_
          refine lv_iconst (v := (2 : Int32)) hx hb dX7_comes_99 (by decide) ?_
          refine lv_iadd hx hb dX7_comes_100 ?_
          obtain ⟨b101, hf⟩ := ck_some hf
          refine va_iald hx hb hK hP 11 0 rfl rfl b101 dX7_comes_101 ?_
          obtain ⟨r102, u102, h102, hf⟩ := bd_some hf
          refine calX0 (runV E0.b E0.n (As := [.int (S_t.2 15 ((3 : Int32) * x1).toNatClampNeg), .int (S_t.2 15 (((3 : Int32) * x1) + (1 : Int32)).toNatClampNeg), .int (S_t.2 15 (((3 : Int32) * x1) + (2 : Int32)).toNatClampNeg)]) (rest := []) ⟨hx, hb, hml, hown, hts⟩ (c_X7_comesOne l D cI o_t a_t S_t (S_t.2 15 ((3 : Int32) * x1).toNatClampNeg) (S_t.2 15 (((3 : Int32) * x1) + (1 : Int32)).toNatClampNeg) (S_t.2 15 (((3 : Int32) * x1) + (2 : Int32)).toNatClampNeg) _ h102) gX7_comes_X7_comesOne rfl rfl rfl hdX7_comesOne ⟨by decide, by decide⟩ hK hP hD 0 rfl rfl rfl hl.1 rfl (Nat.le_of_ble_eq_true rfl) dX7_comes_102 ⟨Nat.zero_le _, Nat.zero_le _⟩) hD hS hA (fun H locs hP hD hS => ?_)
          have hP : va_P D vwCl (gX7 o_t a_t cI u102) H := hP
          have hD : va_D A (gX7 o_t a_t cI u102) := hD
          refine W.eq (g2 := F0 m 105 ls [.int r102]) rfl ?_
          obtain ⟨z105, hf⟩ := zb_some hf
          have e := so_some hf
          subst e
          exact rz hx hb hK hr hlk z105 hQ dX7_comes_105 hP hD hS
        · replace hf := it_f ck112 hf
          by_cases ck115 : (S_t.2 13 x1.toNatClampNeg) = (115 : Int32)
          · replace hf := it_t ck115 hf
            refine lv_lookup (off := 132) (tgt := 142) hx hb dX7_comes_10 (by decide) (by rw [ck115]; decide) (by decide) ?_
            refine lv_aload_n hx hb dX7_comes_142 rfl (lv_at hl 1 rfl) ?_
            refine lv_aload_n hx hb dX7_comes_143 rfl (lv_at hl 1 rfl) ?_
            refine va_get (D := D) (ci := 7) (v := .ref (a_t 15)) (C := RX7) (T := TX7) (N := 26) hx hb hts hinX7 hown hK hP 0 rfl rfl 15 (by decide) (hts (.fieldLink RX7 44 "OnlyStrangersHearModel" "told" "[I") (by decide +kernel)) (fun _ h9 => h9) rfl dX7_comes_144 ?_
            refine lv_iload_n hx hb dX7_comes_147 rfl (lv_at hl 0 rfl) ?_
            obtain ⟨b148, hf⟩ := ck_some hf
            refine va_iald hx hb hK hP 11 0 rfl rfl b148 dX7_comes_148 ?_
            obtain ⟨r149, u149, h149, hf⟩ := bd_some hf
            refine calX0 (runV E0.b E0.n (As := [.int (S_t.2 15 ((3 : Int32) * x1).toNatClampNeg)]) (rest := []) ⟨hx, hb, hml, hown, hts⟩ (c_X7_isOne l D cI o_t a_t S_t (S_t.2 15 ((3 : Int32) * x1).toNatClampNeg) _ h149) gX7_comes_X7_isOne rfl rfl rfl hdX7_isOne ⟨by decide, by decide⟩ hK hP hD 0 rfl rfl rfl hl.1 rfl (Nat.le_of_ble_eq_true rfl) dX7_comes_149 ⟨Nat.zero_le _, Nat.zero_le _⟩) hD hS hA (fun H locs hP hD hS => ?_)
            have hP : va_P D vwCl (gX7 o_t a_t cI u149) H := hP
            have hD : va_D A (gX7 o_t a_t cI u149) := hD
            refine W.eq (g2 := F0 m 152 ls [.int r149]) rfl ?_
            refine lv_if_ne (tgt := 157) hx hb dX7_comes_152 (by decide) (fun c152 => ?_) (fun c152 => ?_)
            · replace hf := it_f c152 hf
              refine lv_aload_n hx hb dX7_comes_157 rfl (lv_at hl 1 rfl) ?_
              refine va_get (D := D) (ci := 7) (v := .ref (a_t 5)) (C := RX7) (T := TX7) (N := 26) hx hb hts hinX7 hown hK hP 0 rfl rfl 5 (by decide) (hts (.fieldLink RX7 25 "OnlyStrangersHearModel" "slept" "[I") (by decide +kernel)) (fun _ h9 => h9) rfl dX7_comes_158 ?_
              refine lv_aload_n hx hb dX7_comes_161 rfl (lv_at hl 1 rfl) ?_
              refine va_get (D := D) (ci := 7) (v := .ref (a_t 15)) (C := RX7) (T := TX7) (N := 26) hx hb hts hinX7 hown hK hP 0 rfl rfl 15 (by decide) (hts (.fieldLink RX7 44 "OnlyStrangersHearModel" "told" "[I") (by decide +kernel)) (fun _ h9 => h9) rfl dX7_comes_162 ?_
              refine lv_iload_n hx hb dX7_comes_165 rfl (lv_at hl 0 rfl) ?_
              obtain ⟨b166, hf⟩ := ck_some hf
              refine va_iald hx hb hK hP 11 0 rfl rfl b166 dX7_comes_166 ?_
              refine lv_aload_n hx hb dX7_comes_167 rfl (lv_at hl 1 rfl) ?_
              refine va_get (D := D) (ci := 7) (v := .ref (a_t 15)) (C := RX7) (T := TX7) (N := 26) hx hb hts hinX7 hown hK hP 0 rfl rfl 15 (by decide) (hts (.fieldLink RX7 44 "OnlyStrangersHearModel" "told" "[I") (by decide +kernel)) (fun _ h9 => h9) rfl dX7_comes_168 ?_
              refine lv_iload_n hx hb dX7_comes_171 rfl (lv_at hl 0 rfl) ?_
              refine lv_iconst (v := (1 : Int32)) hx hb dX7_comes_172 (by decide) ?_
              refine lv_iadd hx hb dX7_comes_173 ?_
              obtain ⟨b174, hf⟩ := ck_some hf
              refine va_iald hx hb hK hP 11 0 rfl rfl b174 dX7_comes_174 ?_
              obtain ⟨b175, hf⟩ := ck_some hf
              refine va_iast hx hb hK hP hD hS 6 0 rfl rfl b175 dX7_comes_175 (fun H locs hP hD hS => ?_)
              have hP : va_P D vwCl (gX7 o_t a_t cI (pA u149 5 (u149.2 15 ((3 : Int32) * x1).toNatClampNeg).toNatClampNeg (u149.2 15 (((3 : Int32) * x1) + (1 : Int32)).toNatClampNeg))) H := hP
              have hD : va_D A (gX7 o_t a_t cI (pA u149 5 (u149.2 15 ((3 : Int32) * x1).toNatClampNeg).toNatClampNeg (u149.2 15 (((3 : Int32) * x1) + (1 : Int32)).toNatClampNeg))) := hD
              obtain ⟨g175, e175, hf⟩ := lt_some hf
              rw [← e175] at hP hD
              refine lv_iconst (v := (1 : Int32)) hx hb dX7_comes_176 (by decide) ?_
              have e := so_some hf
              subst e
              exact rz hx hb hK hr hlk (Or.inr rfl) hQ dX7_comes_177 hP hD hS
            · replace hf := it_t c152 hf
              refine lv_iconst (v := (0 : Int32)) hx hb dX7_comes_155 (by decide) ?_
              have e := so_some hf
              subst e
              exact rz hx hb hK hr hlk (Or.inl rfl) hQ dX7_comes_156 hP hD hS
          · replace hf := it_f ck115 hf
            refine lv_lookup (off := 189) (tgt := 199) hx hb dX7_comes_10 (by decide) (by rw [lv_osw (k := 98) (a := 98) ck98 (by decide)]; rw [lv_osw (k := 101) (a := 101) ck101 (by decide)]; rw [lv_osw (k := 103) (a := 103) ck103 (by decide)]; rw [lv_osw (k := 112) (a := 112) ck112 (by decide)]; rw [lv_osw (k := 115) (a := 115) ck115 (by decide)]; rfl) (by decide) ?_
            refine lv_aload_n hx hb dX7_comes_199 rfl (lv_at hl 1 rfl) ?_
            refine lv_aload_n hx hb dX7_comes_200 rfl (lv_at hl 1 rfl) ?_
            refine va_get (D := D) (ci := 7) (v := .ref (a_t 15)) (C := RX7) (T := TX7) (N := 26) hx hb hts hinX7 hown hK hP 0 rfl rfl 15 (by decide) (hts (.fieldLink RX7 44 "OnlyStrangersHearModel" "told" "[I") (by decide +kernel)) (fun _ h9 => h9) rfl dX7_comes_201 ?_
            refine lv_iload_n hx hb dX7_comes_204 rfl (lv_at hl 0 rfl) ?_
            obtain ⟨b205, hf⟩ := ck_some hf
            refine va_iald hx hb hK hP 11 0 rfl rfl b205 dX7_comes_205 ?_
            obtain ⟨r206, u206, h206, hf⟩ := bd_some hf
            refine calX0 (runV E0.b E0.n (As := [.int (S_t.2 15 ((3 : Int32) * x1).toNatClampNeg)]) (rest := []) ⟨hx, hb, hml, hown, hts⟩ (c_X7_comesDays l D cI o_t a_t S_t (S_t.2 15 ((3 : Int32) * x1).toNatClampNeg) _ h206) gX7_comes_X7_comesDays rfl rfl rfl hdX7_comesDays ⟨by decide, by decide⟩ hK hP hD 0 rfl rfl rfl hl.1 rfl (Nat.le_of_ble_eq_true rfl) dX7_comes_206 ⟨Nat.zero_le _, Nat.zero_le _⟩) hD hS hA (fun H locs hP hD hS => ?_)
            have hP : va_P D vwCl (gX7 o_t a_t cI u206) H := hP
            have hD : va_D A (gX7 o_t a_t cI u206) := hD
            refine W.eq (g2 := F0 m 209 ls [.int r206]) rfl ?_
            obtain ⟨z209, hf⟩ := zb_some hf
            have e := so_some hf
            subst e
            exact rz hx hb hK hr hlk z209 hQ dX7_comes_209 hP hD hS
abbrev rmX7_passes_s1 : Room := { frames := 0, cells := 0, slots := 0, locals := 0 }
set_option maxHeartbeats 4000000 in
set_option maxRecDepth 100000 in
theorem c_X7_passes_s1 (l : Launch) (D : va_G) (cI : ClassId) (o_t : Nat) (a_t : Nat → Nat) (S_t : G) (out : Unit × G) (hf : f_X7_passes_s1 S_t = some out) : Cn E0 l yX7_passes wsX7_passes rmX7_passes_s1 D cI [.ref o_t, .ref (a_t 1)] (gX7 o_t a_t cI S_t) none (gX7 o_t a_t cI out.2) := by
  refine Cn.mk (cc := cX7_passes) (maxL := 3) (ret := none) (by decide) rfl (Nat.le_of_ble_eq_true rfl) ?_
  intro p e s m below meth c A ls Q hx hb hml hown hts hK hA hP hD hS hl hr hlk hnm hE hQ
  have hown : s.vm.findClass RX7 = some m.cls := hown
  have hinX7 : ∀ w ∈ u_ws RX7 TX7 26, w ∈ wsX7_passes := by decide +kernel
  have j2 : ∀ (n2 : Nat) (S_t : G) (l2 : Int32) (H : Heap) (locs : List Loc) (ls : Array Slot), f_X7_passes_s1_2 n2 S_t l2 = some out → va_P D vwCl (gX7 o_t a_t cI S_t) H → va_D A (gX7 o_t a_t cI S_t) → va_S A s.heap H locs → lv_has ls 3 [(0, .ref o_t), (1, .ref (a_t 1)), (2, .int l2)] → W p l e rmX7_passes_s1 s m ([.ref o_t, .ref (a_t 1)] : List Value).toArray below meth c H locs 0 0 Q (F0 m 2 ls []) := by
    intro n2
    induction n2 with
    | zero =>
      intro S_t l2 H locs ls hf
      exact no_some hf
    | succ n2 ih2 =>
      have j42 : ∀ (S_t : G) (l2 : Int32) (H : Heap) (locs : List Loc) (ls : Array Slot), f_X7_passes_s1_42 (f_X7_passes_s1_2 n2) S_t l2 = some out → va_P D vwCl (gX7 o_t a_t cI S_t) H → va_D A (gX7 o_t a_t cI S_t) → va_S A s.heap H locs → lv_has ls 3 [(0, .ref o_t), (1, .ref (a_t 1)), (2, .int l2)] → W p l e rmX7_passes_s1 s m ([.ref o_t, .ref (a_t 1)] : List Value).toArray below meth c H locs 0 0 Q (F0 m 42 ls []) := by
        intro S_t l2 H locs ls hf hP hD hS hl
        unfold f_X7_passes_s1_42 at hf
        refine lv_aload_n hx hb dX7_passes_42 rfl (lv_at hl 0 rfl) ?_
        refine lv_dup hx hb dX7_passes_43 rfl ?_
        refine va_get (D := D) (ci := 7) (v := .int (S_t.1 22)) (C := RX7) (T := TX7) (N := 26) hx hb hts hinX7 hown hK hP 0 rfl rfl 22 (by decide) (hts (.fieldLink RX7 141 "OnlyStrangersHearModel" "cursor" "I") (by decide +kernel)) (fun _ h9 => h9) rfl dX7_passes_44 ?_
        refine lv_iconst (v := (1 : Int32)) hx hb dX7_passes_47 (by decide) ?_
        refine lv_iadd hx hb dX7_passes_48 ?_
        refine va_put (D := D) (ci := 7) (v := .int ((S_t.1 22) + (1 : Int32))) (ty := .int) (C := RX7) (T := TX7) (N := 26) hx hb hts hinX7 tyX7 tyX7_ok nmX7 hown hK hP hD hS 0 rfl rfl 22 (by decide) (hts (.fieldLink RX7 141 "OnlyStrangersHearModel" "cursor" "I") (by decide +kernel)) (fun _ h9 => h9) rfl (by decide +kernel) rfl rfl (Nat.le_of_ble_eq_true rfl) dX7_passes_49 (fun H locs hP hD hS => ?_)
        have hP : va_P D vwCl (gX7 o_t a_t cI (pF S_t 22 ((S_t.1 22) + (1 : Int32)))) H := hP
        have hD : va_D A (gX7 o_t a_t cI (pF S_t 22 ((S_t.1 22) + (1 : Int32)))) := hD
        obtain ⟨g49, e49, hf⟩ := lt_some hf
        rw [← e49] at hP hD
        refine lv_iinc (v := l2 + (1 : Int32)) (lv' := [(2, .int (l2 + (1 : Int32))), (0, .ref o_t), (1, .ref (a_t 1))]) hx hb dX7_passes_52 hl (k := 2) rfl rfl (by decide) rfl (fun ls hl => ?_)
        refine lv_goto (tgt := 2) hx hb dX7_passes_55 (by decide) ?_
        exact ih2 g49 (l2 + (1 : Int32)) H locs ls hf hP hD hS (lv_sub hl [1, 2, 0] rfl)
      intro S_t l2 H locs ls hf hP hD hS hl
      replace hf : b_X7_passes_s1_2 (f_X7_passes_s1_2 n2) S_t l2 = some out := hf
      unfold b_X7_passes_s1_2 at hf
      refine lv_iload_n hx hb dX7_passes_2 rfl (lv_at hl 2 rfl) ?_
      refine lv_aload_n hx hb dX7_passes_3 rfl (lv_at hl 1 rfl) ?_
      refine va_alen (v := (6 : Int32)) hx hb hK hP 2 0 rfl rfl rfl dX7_passes_4 ?_
      refine lv_icmp_ge (tgt := 58) hx hb dX7_passes_5 (by decide) (fun c5 => ?_) (fun c5 => ?_)
      · replace hf := it_t c5 hf
        have e := so_some hf
        subst e
        exact rv hx hb hK hr hlk hQ dX7_passes_58 hP hD hS
      · replace hf := it_f c5 hf
        refine lv_aload_n hx hb dX7_passes_8 rfl (lv_at hl 0 rfl) ?_
        refine va_get (D := D) (ci := 7) (v := .int (S_t.1 21)) (C := RX7) (T := TX7) (N := 26) hx hb hts hinX7 hown hK hP 0 rfl rfl 21 (by decide) (hts (.fieldLink RX7 137 "OnlyStrangersHearModel" "isKeeping" "Z") (by decide +kernel)) (fun _ h9 => h9) rfl dX7_passes_9 ?_
        refine lv_if_eq (tgt := 30) hx hb dX7_passes_12 (by decide) (fun c12 => ?_) (fun c12 => ?_)
        · replace hf := it_t c12 hf
          refine lv_aload_n hx hb dX7_passes_30 rfl (lv_at hl 1 rfl) ?_
          refine lv_iload_n hx hb dX7_passes_31 rfl (lv_at hl 2 rfl) ?_
          refine lv_aload_n hx hb dX7_passes_32 rfl (lv_at hl 0 rfl) ?_
          refine va_get (D := D) (ci := 7) (v := .ref (a_t 19)) (C := RX7) (T := TX7) (N := 26) hx hb hts hinX7 hown hK hP 0 rfl rfl 19 (by decide) (hts (.fieldLink RX7 47 "OnlyStrangersHearModel" "kept" "[I") (by decide +kernel)) (fun _ h9 => h9) rfl dX7_passes_33 ?_
          refine lv_aload_n hx hb dX7_passes_36 rfl (lv_at hl 0 rfl) ?_
          refine va_get (D := D) (ci := 7) (v := .int (S_t.1 22)) (C := RX7) (T := TX7) (N := 26) hx hb hts hinX7 hown hK hP 0 rfl rfl 22 (by decide) (hts (.fieldLink RX7 141 "OnlyStrangersHearModel" "cursor" "I") (by decide +kernel)) (fun _ h9 => h9) rfl dX7_passes_37 ?_
          obtain ⟨b40, hf⟩ := ck_some hf
          refine va_iald hx hb hK hP 12 0 rfl rfl b40 dX7_passes_40 ?_
          obtain ⟨b41, hf⟩ := ck_some hf
          refine va_iast hx hb hK hP hD hS 2 0 rfl rfl b41 dX7_passes_41 (fun H locs hP hD hS => ?_)
          have hP : va_P D vwCl (gX7 o_t a_t cI (pA S_t 1 l2.toNatClampNeg (S_t.2 19 (S_t.1 22).toNatClampNeg))) H := hP
          have hD : va_D A (gX7 o_t a_t cI (pA S_t 1 l2.toNatClampNeg (S_t.2 19 (S_t.1 22).toNatClampNeg))) := hD
          obtain ⟨g41, e41, hf⟩ := lt_some hf
          rw [← e41] at hP hD
          exact j42 g41 l2 H locs ls hf hP hD hS (lv_sub hl [0, 1, 2] rfl)
        · replace hf := it_f c12 hf
          refine lv_aload_n hx hb dX7_passes_15 rfl (lv_at hl 0 rfl) ?_
          refine va_get (D := D) (ci := 7) (v := .ref (a_t 19)) (C := RX7) (T := TX7) (N := 26) hx hb hts hinX7 hown hK hP 0 rfl rfl 19 (by decide) (hts (.fieldLink RX7 47 "OnlyStrangersHearModel" "kept" "[I") (by decide +kernel)) (fun _ h9 => h9) rfl dX7_passes_16 ?_
          refine lv_aload_n hx hb dX7_passes_19 rfl (lv_at hl 0 rfl) ?_
          refine va_get (D := D) (ci := 7) (v := .int (S_t.1 22)) (C := RX7) (T := TX7) (N := 26) hx hb hts hinX7 hown hK hP 0 rfl rfl 22 (by decide) (hts (.fieldLink RX7 141 "OnlyStrangersHearModel" "cursor" "I") (by decide +kernel)) (fun _ h9 => h9) rfl dX7_passes_20 ?_
          refine lv_aload_n hx hb dX7_passes_23 rfl (lv_at hl 1 rfl) ?_
          refine lv_iload_n hx hb dX7_passes_24 rfl (lv_at hl 2 rfl) ?_
          obtain ⟨b25, hf⟩ := ck_some hf
          refine va_iald hx hb hK hP 2 0 rfl rfl b25 dX7_passes_25 ?_
          obtain ⟨b26, hf⟩ := ck_some hf
          refine va_iast hx hb hK hP hD hS 12 0 rfl rfl b26 dX7_passes_26 (fun H locs hP hD hS => ?_)
          have hP : va_P D vwCl (gX7 o_t a_t cI (pA S_t 19 (S_t.1 22).toNatClampNeg (S_t.2 1 l2.toNatClampNeg))) H := hP
          have hD : va_D A (gX7 o_t a_t cI (pA S_t 19 (S_t.1 22).toNatClampNeg (S_t.2 1 l2.toNatClampNeg))) := hD
          obtain ⟨g26, e26, hf⟩ := lt_some hf
          rw [← e26] at hP hD
          refine lv_goto (tgt := 42) hx hb dX7_passes_27 (by decide) ?_
          exact j42 g26 l2 H locs ls hf hP hD hS (lv_sub hl [0, 1, 2] rfl)
  unfold f_X7_passes_s1 at hf
  have hl : lv_has ls 3 [(0, .ref o_t), (1, .ref (a_t 1))] := hl
  obtain ⟨H, hHe⟩ : ∃ H : Heap, H = s.heap := ⟨_, rfl⟩
  obtain ⟨locs, hle⟩ : ∃ q : List Loc, q = [] := ⟨_, rfl⟩
  have hS : va_S A s.heap H locs := by rw [hHe, hle]; exact hS
  rw [← hHe] at hP
  suffices hgo : W p l e rmX7_passes_s1 s m ([.ref o_t, .ref (a_t 1)] : List Value).toArray below meth c H locs 0 0 Q (F0 m 0 ls []) by rw [hHe, hle] at hgo; exact hgo
  clear hHe hle
  refine lv_iconst (v := (0 : Int32)) hx hb dX7_passes_0 (by decide) ?_
  refine lv_istore_n (lv' := [(2, .int (0 : Int32)), (0, .ref o_t), (1, .ref (a_t 1))]) hx hb dX7_passes_1 rfl hl (by decide) rfl (fun ls hl => ?_)
  exact j2 1000 S_t (0 : Int32) H locs ls hf hP hD hS (lv_sub hl [1, 2, 0] rfl)
abbrev rmX7_passes_s2 : Room := { frames := 0, cells := 0, slots := 0, locals := 0 }
set_option maxHeartbeats 4000000 in
set_option maxRecDepth 100000 in
theorem c_X7_passes_s2 (l : Launch) (D : va_G) (cI : ClassId) (o_t : Nat) (a_t : Nat → Nat) (S_t : G) (out : Unit × G) (hf : f_X7_passes_s2 S_t = some out) : Cn E0 l yX7_passes wsX7_passes rmX7_passes_s2 D cI [.ref o_t, .ref (a_t 2)] (gX7 o_t a_t cI S_t) none (gX7 o_t a_t cI out.2) := by
  refine Cn.mk (cc := cX7_passes) (maxL := 3) (ret := none) (by decide) rfl (Nat.le_of_ble_eq_true rfl) ?_
  intro p e s m below meth c A ls Q hx hb hml hown hts hK hA hP hD hS hl hr hlk hnm hE hQ
  have hown : s.vm.findClass RX7 = some m.cls := hown
  have hinX7 : ∀ w ∈ u_ws RX7 TX7 26, w ∈ wsX7_passes := by decide +kernel
  have j2 : ∀ (n2 : Nat) (S_t : G) (l2 : Int32) (H : Heap) (locs : List Loc) (ls : Array Slot), f_X7_passes_s2_2 n2 S_t l2 = some out → va_P D vwCl (gX7 o_t a_t cI S_t) H → va_D A (gX7 o_t a_t cI S_t) → va_S A s.heap H locs → lv_has ls 3 [(0, .ref o_t), (1, .ref (a_t 2)), (2, .int l2)] → W p l e rmX7_passes_s2 s m ([.ref o_t, .ref (a_t 2)] : List Value).toArray below meth c H locs 0 0 Q (F0 m 2 ls []) := by
    intro n2
    induction n2 with
    | zero =>
      intro S_t l2 H locs ls hf
      exact no_some hf
    | succ n2 ih2 =>
      have j42 : ∀ (S_t : G) (l2 : Int32) (H : Heap) (locs : List Loc) (ls : Array Slot), f_X7_passes_s2_42 (f_X7_passes_s2_2 n2) S_t l2 = some out → va_P D vwCl (gX7 o_t a_t cI S_t) H → va_D A (gX7 o_t a_t cI S_t) → va_S A s.heap H locs → lv_has ls 3 [(0, .ref o_t), (1, .ref (a_t 2)), (2, .int l2)] → W p l e rmX7_passes_s2 s m ([.ref o_t, .ref (a_t 2)] : List Value).toArray below meth c H locs 0 0 Q (F0 m 42 ls []) := by
        intro S_t l2 H locs ls hf hP hD hS hl
        unfold f_X7_passes_s2_42 at hf
        refine lv_aload_n hx hb dX7_passes_42 rfl (lv_at hl 0 rfl) ?_
        refine lv_dup hx hb dX7_passes_43 rfl ?_
        refine va_get (D := D) (ci := 7) (v := .int (S_t.1 22)) (C := RX7) (T := TX7) (N := 26) hx hb hts hinX7 hown hK hP 0 rfl rfl 22 (by decide) (hts (.fieldLink RX7 141 "OnlyStrangersHearModel" "cursor" "I") (by decide +kernel)) (fun _ h9 => h9) rfl dX7_passes_44 ?_
        refine lv_iconst (v := (1 : Int32)) hx hb dX7_passes_47 (by decide) ?_
        refine lv_iadd hx hb dX7_passes_48 ?_
        refine va_put (D := D) (ci := 7) (v := .int ((S_t.1 22) + (1 : Int32))) (ty := .int) (C := RX7) (T := TX7) (N := 26) hx hb hts hinX7 tyX7 tyX7_ok nmX7 hown hK hP hD hS 0 rfl rfl 22 (by decide) (hts (.fieldLink RX7 141 "OnlyStrangersHearModel" "cursor" "I") (by decide +kernel)) (fun _ h9 => h9) rfl (by decide +kernel) rfl rfl (Nat.le_of_ble_eq_true rfl) dX7_passes_49 (fun H locs hP hD hS => ?_)
        have hP : va_P D vwCl (gX7 o_t a_t cI (pF S_t 22 ((S_t.1 22) + (1 : Int32)))) H := hP
        have hD : va_D A (gX7 o_t a_t cI (pF S_t 22 ((S_t.1 22) + (1 : Int32)))) := hD
        obtain ⟨g49, e49, hf⟩ := lt_some hf
        rw [← e49] at hP hD
        refine lv_iinc (v := l2 + (1 : Int32)) (lv' := [(2, .int (l2 + (1 : Int32))), (0, .ref o_t), (1, .ref (a_t 2))]) hx hb dX7_passes_52 hl (k := 2) rfl rfl (by decide) rfl (fun ls hl => ?_)
        refine lv_goto (tgt := 2) hx hb dX7_passes_55 (by decide) ?_
        exact ih2 g49 (l2 + (1 : Int32)) H locs ls hf hP hD hS (lv_sub hl [1, 2, 0] rfl)
      intro S_t l2 H locs ls hf hP hD hS hl
      replace hf : b_X7_passes_s2_2 (f_X7_passes_s2_2 n2) S_t l2 = some out := hf
      unfold b_X7_passes_s2_2 at hf
      refine lv_iload_n hx hb dX7_passes_2 rfl (lv_at hl 2 rfl) ?_
      refine lv_aload_n hx hb dX7_passes_3 rfl (lv_at hl 1 rfl) ?_
      refine va_alen (v := (6 : Int32)) hx hb hK hP 3 0 rfl rfl rfl dX7_passes_4 ?_
      refine lv_icmp_ge (tgt := 58) hx hb dX7_passes_5 (by decide) (fun c5 => ?_) (fun c5 => ?_)
      · replace hf := it_t c5 hf
        have e := so_some hf
        subst e
        exact rv hx hb hK hr hlk hQ dX7_passes_58 hP hD hS
      · replace hf := it_f c5 hf
        refine lv_aload_n hx hb dX7_passes_8 rfl (lv_at hl 0 rfl) ?_
        refine va_get (D := D) (ci := 7) (v := .int (S_t.1 21)) (C := RX7) (T := TX7) (N := 26) hx hb hts hinX7 hown hK hP 0 rfl rfl 21 (by decide) (hts (.fieldLink RX7 137 "OnlyStrangersHearModel" "isKeeping" "Z") (by decide +kernel)) (fun _ h9 => h9) rfl dX7_passes_9 ?_
        refine lv_if_eq (tgt := 30) hx hb dX7_passes_12 (by decide) (fun c12 => ?_) (fun c12 => ?_)
        · replace hf := it_t c12 hf
          refine lv_aload_n hx hb dX7_passes_30 rfl (lv_at hl 1 rfl) ?_
          refine lv_iload_n hx hb dX7_passes_31 rfl (lv_at hl 2 rfl) ?_
          refine lv_aload_n hx hb dX7_passes_32 rfl (lv_at hl 0 rfl) ?_
          refine va_get (D := D) (ci := 7) (v := .ref (a_t 19)) (C := RX7) (T := TX7) (N := 26) hx hb hts hinX7 hown hK hP 0 rfl rfl 19 (by decide) (hts (.fieldLink RX7 47 "OnlyStrangersHearModel" "kept" "[I") (by decide +kernel)) (fun _ h9 => h9) rfl dX7_passes_33 ?_
          refine lv_aload_n hx hb dX7_passes_36 rfl (lv_at hl 0 rfl) ?_
          refine va_get (D := D) (ci := 7) (v := .int (S_t.1 22)) (C := RX7) (T := TX7) (N := 26) hx hb hts hinX7 hown hK hP 0 rfl rfl 22 (by decide) (hts (.fieldLink RX7 141 "OnlyStrangersHearModel" "cursor" "I") (by decide +kernel)) (fun _ h9 => h9) rfl dX7_passes_37 ?_
          obtain ⟨b40, hf⟩ := ck_some hf
          refine va_iald hx hb hK hP 12 0 rfl rfl b40 dX7_passes_40 ?_
          obtain ⟨b41, hf⟩ := ck_some hf
          refine va_iast hx hb hK hP hD hS 3 0 rfl rfl b41 dX7_passes_41 (fun H locs hP hD hS => ?_)
          have hP : va_P D vwCl (gX7 o_t a_t cI (pA S_t 2 l2.toNatClampNeg (S_t.2 19 (S_t.1 22).toNatClampNeg))) H := hP
          have hD : va_D A (gX7 o_t a_t cI (pA S_t 2 l2.toNatClampNeg (S_t.2 19 (S_t.1 22).toNatClampNeg))) := hD
          obtain ⟨g41, e41, hf⟩ := lt_some hf
          rw [← e41] at hP hD
          exact j42 g41 l2 H locs ls hf hP hD hS (lv_sub hl [0, 1, 2] rfl)
        · replace hf := it_f c12 hf
          refine lv_aload_n hx hb dX7_passes_15 rfl (lv_at hl 0 rfl) ?_
          refine va_get (D := D) (ci := 7) (v := .ref (a_t 19)) (C := RX7) (T := TX7) (N := 26) hx hb hts hinX7 hown hK hP 0 rfl rfl 19 (by decide) (hts (.fieldLink RX7 47 "OnlyStrangersHearModel" "kept" "[I") (by decide +kernel)) (fun _ h9 => h9) rfl dX7_passes_16 ?_
          refine lv_aload_n hx hb dX7_passes_19 rfl (lv_at hl 0 rfl) ?_
          refine va_get (D := D) (ci := 7) (v := .int (S_t.1 22)) (C := RX7) (T := TX7) (N := 26) hx hb hts hinX7 hown hK hP 0 rfl rfl 22 (by decide) (hts (.fieldLink RX7 141 "OnlyStrangersHearModel" "cursor" "I") (by decide +kernel)) (fun _ h9 => h9) rfl dX7_passes_20 ?_
          refine lv_aload_n hx hb dX7_passes_23 rfl (lv_at hl 1 rfl) ?_
          refine lv_iload_n hx hb dX7_passes_24 rfl (lv_at hl 2 rfl) ?_
          obtain ⟨b25, hf⟩ := ck_some hf
          refine va_iald hx hb hK hP 3 0 rfl rfl b25 dX7_passes_25 ?_
          obtain ⟨b26, hf⟩ := ck_some hf
          refine va_iast hx hb hK hP hD hS 12 0 rfl rfl b26 dX7_passes_26 (fun H locs hP hD hS => ?_)
          have hP : va_P D vwCl (gX7 o_t a_t cI (pA S_t 19 (S_t.1 22).toNatClampNeg (S_t.2 2 l2.toNatClampNeg))) H := hP
          have hD : va_D A (gX7 o_t a_t cI (pA S_t 19 (S_t.1 22).toNatClampNeg (S_t.2 2 l2.toNatClampNeg))) := hD
          obtain ⟨g26, e26, hf⟩ := lt_some hf
          rw [← e26] at hP hD
          refine lv_goto (tgt := 42) hx hb dX7_passes_27 (by decide) ?_
          exact j42 g26 l2 H locs ls hf hP hD hS (lv_sub hl [0, 1, 2] rfl)
  unfold f_X7_passes_s2 at hf
  have hl : lv_has ls 3 [(0, .ref o_t), (1, .ref (a_t 2))] := hl
  obtain ⟨H, hHe⟩ : ∃ H : Heap, H = s.heap := ⟨_, rfl⟩
  obtain ⟨locs, hle⟩ : ∃ q : List Loc, q = [] := ⟨_, rfl⟩
  have hS : va_S A s.heap H locs := by rw [hHe, hle]; exact hS
  rw [← hHe] at hP
  suffices hgo : W p l e rmX7_passes_s2 s m ([.ref o_t, .ref (a_t 2)] : List Value).toArray below meth c H locs 0 0 Q (F0 m 0 ls []) by rw [hHe, hle] at hgo; exact hgo
  clear hHe hle
  refine lv_iconst (v := (0 : Int32)) hx hb dX7_passes_0 (by decide) ?_
  refine lv_istore_n (lv' := [(2, .int (0 : Int32)), (0, .ref o_t), (1, .ref (a_t 2))]) hx hb dX7_passes_1 rfl hl (by decide) rfl (fun ls hl => ?_)
  exact j2 1000 S_t (0 : Int32) H locs ls hf hP hD hS (lv_sub hl [1, 2, 0] rfl)
abbrev rmX7_passes_s3 : Room := { frames := 0, cells := 0, slots := 0, locals := 0 }
set_option maxHeartbeats 4000000 in
set_option maxRecDepth 100000 in
theorem c_X7_passes_s3 (l : Launch) (D : va_G) (cI : ClassId) (o_t : Nat) (a_t : Nat → Nat) (S_t : G) (out : Unit × G) (hf : f_X7_passes_s3 S_t = some out) : Cn E0 l yX7_passes wsX7_passes rmX7_passes_s3 D cI [.ref o_t, .ref (a_t 3)] (gX7 o_t a_t cI S_t) none (gX7 o_t a_t cI out.2) := by
  refine Cn.mk (cc := cX7_passes) (maxL := 3) (ret := none) (by decide) rfl (Nat.le_of_ble_eq_true rfl) ?_
  intro p e s m below meth c A ls Q hx hb hml hown hts hK hA hP hD hS hl hr hlk hnm hE hQ
  have hown : s.vm.findClass RX7 = some m.cls := hown
  have hinX7 : ∀ w ∈ u_ws RX7 TX7 26, w ∈ wsX7_passes := by decide +kernel
  have j2 : ∀ (n2 : Nat) (S_t : G) (l2 : Int32) (H : Heap) (locs : List Loc) (ls : Array Slot), f_X7_passes_s3_2 n2 S_t l2 = some out → va_P D vwCl (gX7 o_t a_t cI S_t) H → va_D A (gX7 o_t a_t cI S_t) → va_S A s.heap H locs → lv_has ls 3 [(0, .ref o_t), (1, .ref (a_t 3)), (2, .int l2)] → W p l e rmX7_passes_s3 s m ([.ref o_t, .ref (a_t 3)] : List Value).toArray below meth c H locs 0 0 Q (F0 m 2 ls []) := by
    intro n2
    induction n2 with
    | zero =>
      intro S_t l2 H locs ls hf
      exact no_some hf
    | succ n2 ih2 =>
      have j42 : ∀ (S_t : G) (l2 : Int32) (H : Heap) (locs : List Loc) (ls : Array Slot), f_X7_passes_s3_42 (f_X7_passes_s3_2 n2) S_t l2 = some out → va_P D vwCl (gX7 o_t a_t cI S_t) H → va_D A (gX7 o_t a_t cI S_t) → va_S A s.heap H locs → lv_has ls 3 [(0, .ref o_t), (1, .ref (a_t 3)), (2, .int l2)] → W p l e rmX7_passes_s3 s m ([.ref o_t, .ref (a_t 3)] : List Value).toArray below meth c H locs 0 0 Q (F0 m 42 ls []) := by
        intro S_t l2 H locs ls hf hP hD hS hl
        unfold f_X7_passes_s3_42 at hf
        refine lv_aload_n hx hb dX7_passes_42 rfl (lv_at hl 0 rfl) ?_
        refine lv_dup hx hb dX7_passes_43 rfl ?_
        refine va_get (D := D) (ci := 7) (v := .int (S_t.1 22)) (C := RX7) (T := TX7) (N := 26) hx hb hts hinX7 hown hK hP 0 rfl rfl 22 (by decide) (hts (.fieldLink RX7 141 "OnlyStrangersHearModel" "cursor" "I") (by decide +kernel)) (fun _ h9 => h9) rfl dX7_passes_44 ?_
        refine lv_iconst (v := (1 : Int32)) hx hb dX7_passes_47 (by decide) ?_
        refine lv_iadd hx hb dX7_passes_48 ?_
        refine va_put (D := D) (ci := 7) (v := .int ((S_t.1 22) + (1 : Int32))) (ty := .int) (C := RX7) (T := TX7) (N := 26) hx hb hts hinX7 tyX7 tyX7_ok nmX7 hown hK hP hD hS 0 rfl rfl 22 (by decide) (hts (.fieldLink RX7 141 "OnlyStrangersHearModel" "cursor" "I") (by decide +kernel)) (fun _ h9 => h9) rfl (by decide +kernel) rfl rfl (Nat.le_of_ble_eq_true rfl) dX7_passes_49 (fun H locs hP hD hS => ?_)
        have hP : va_P D vwCl (gX7 o_t a_t cI (pF S_t 22 ((S_t.1 22) + (1 : Int32)))) H := hP
        have hD : va_D A (gX7 o_t a_t cI (pF S_t 22 ((S_t.1 22) + (1 : Int32)))) := hD
        obtain ⟨g49, e49, hf⟩ := lt_some hf
        rw [← e49] at hP hD
        refine lv_iinc (v := l2 + (1 : Int32)) (lv' := [(2, .int (l2 + (1 : Int32))), (0, .ref o_t), (1, .ref (a_t 3))]) hx hb dX7_passes_52 hl (k := 2) rfl rfl (by decide) rfl (fun ls hl => ?_)
        refine lv_goto (tgt := 2) hx hb dX7_passes_55 (by decide) ?_
        exact ih2 g49 (l2 + (1 : Int32)) H locs ls hf hP hD hS (lv_sub hl [1, 2, 0] rfl)
      intro S_t l2 H locs ls hf hP hD hS hl
      replace hf : b_X7_passes_s3_2 (f_X7_passes_s3_2 n2) S_t l2 = some out := hf
      unfold b_X7_passes_s3_2 at hf
      refine lv_iload_n hx hb dX7_passes_2 rfl (lv_at hl 2 rfl) ?_
      refine lv_aload_n hx hb dX7_passes_3 rfl (lv_at hl 1 rfl) ?_
      refine va_alen (v := (8 : Int32)) hx hb hK hP 4 0 rfl rfl rfl dX7_passes_4 ?_
      refine lv_icmp_ge (tgt := 58) hx hb dX7_passes_5 (by decide) (fun c5 => ?_) (fun c5 => ?_)
      · replace hf := it_t c5 hf
        have e := so_some hf
        subst e
        exact rv hx hb hK hr hlk hQ dX7_passes_58 hP hD hS
      · replace hf := it_f c5 hf
        refine lv_aload_n hx hb dX7_passes_8 rfl (lv_at hl 0 rfl) ?_
        refine va_get (D := D) (ci := 7) (v := .int (S_t.1 21)) (C := RX7) (T := TX7) (N := 26) hx hb hts hinX7 hown hK hP 0 rfl rfl 21 (by decide) (hts (.fieldLink RX7 137 "OnlyStrangersHearModel" "isKeeping" "Z") (by decide +kernel)) (fun _ h9 => h9) rfl dX7_passes_9 ?_
        refine lv_if_eq (tgt := 30) hx hb dX7_passes_12 (by decide) (fun c12 => ?_) (fun c12 => ?_)
        · replace hf := it_t c12 hf
          refine lv_aload_n hx hb dX7_passes_30 rfl (lv_at hl 1 rfl) ?_
          refine lv_iload_n hx hb dX7_passes_31 rfl (lv_at hl 2 rfl) ?_
          refine lv_aload_n hx hb dX7_passes_32 rfl (lv_at hl 0 rfl) ?_
          refine va_get (D := D) (ci := 7) (v := .ref (a_t 19)) (C := RX7) (T := TX7) (N := 26) hx hb hts hinX7 hown hK hP 0 rfl rfl 19 (by decide) (hts (.fieldLink RX7 47 "OnlyStrangersHearModel" "kept" "[I") (by decide +kernel)) (fun _ h9 => h9) rfl dX7_passes_33 ?_
          refine lv_aload_n hx hb dX7_passes_36 rfl (lv_at hl 0 rfl) ?_
          refine va_get (D := D) (ci := 7) (v := .int (S_t.1 22)) (C := RX7) (T := TX7) (N := 26) hx hb hts hinX7 hown hK hP 0 rfl rfl 22 (by decide) (hts (.fieldLink RX7 141 "OnlyStrangersHearModel" "cursor" "I") (by decide +kernel)) (fun _ h9 => h9) rfl dX7_passes_37 ?_
          obtain ⟨b40, hf⟩ := ck_some hf
          refine va_iald hx hb hK hP 12 0 rfl rfl b40 dX7_passes_40 ?_
          obtain ⟨b41, hf⟩ := ck_some hf
          refine va_iast hx hb hK hP hD hS 4 0 rfl rfl b41 dX7_passes_41 (fun H locs hP hD hS => ?_)
          have hP : va_P D vwCl (gX7 o_t a_t cI (pA S_t 3 l2.toNatClampNeg (S_t.2 19 (S_t.1 22).toNatClampNeg))) H := hP
          have hD : va_D A (gX7 o_t a_t cI (pA S_t 3 l2.toNatClampNeg (S_t.2 19 (S_t.1 22).toNatClampNeg))) := hD
          obtain ⟨g41, e41, hf⟩ := lt_some hf
          rw [← e41] at hP hD
          exact j42 g41 l2 H locs ls hf hP hD hS (lv_sub hl [0, 1, 2] rfl)
        · replace hf := it_f c12 hf
          refine lv_aload_n hx hb dX7_passes_15 rfl (lv_at hl 0 rfl) ?_
          refine va_get (D := D) (ci := 7) (v := .ref (a_t 19)) (C := RX7) (T := TX7) (N := 26) hx hb hts hinX7 hown hK hP 0 rfl rfl 19 (by decide) (hts (.fieldLink RX7 47 "OnlyStrangersHearModel" "kept" "[I") (by decide +kernel)) (fun _ h9 => h9) rfl dX7_passes_16 ?_
          refine lv_aload_n hx hb dX7_passes_19 rfl (lv_at hl 0 rfl) ?_
          refine va_get (D := D) (ci := 7) (v := .int (S_t.1 22)) (C := RX7) (T := TX7) (N := 26) hx hb hts hinX7 hown hK hP 0 rfl rfl 22 (by decide) (hts (.fieldLink RX7 141 "OnlyStrangersHearModel" "cursor" "I") (by decide +kernel)) (fun _ h9 => h9) rfl dX7_passes_20 ?_
          refine lv_aload_n hx hb dX7_passes_23 rfl (lv_at hl 1 rfl) ?_
          refine lv_iload_n hx hb dX7_passes_24 rfl (lv_at hl 2 rfl) ?_
          obtain ⟨b25, hf⟩ := ck_some hf
          refine va_iald hx hb hK hP 4 0 rfl rfl b25 dX7_passes_25 ?_
          obtain ⟨b26, hf⟩ := ck_some hf
          refine va_iast hx hb hK hP hD hS 12 0 rfl rfl b26 dX7_passes_26 (fun H locs hP hD hS => ?_)
          have hP : va_P D vwCl (gX7 o_t a_t cI (pA S_t 19 (S_t.1 22).toNatClampNeg (S_t.2 3 l2.toNatClampNeg))) H := hP
          have hD : va_D A (gX7 o_t a_t cI (pA S_t 19 (S_t.1 22).toNatClampNeg (S_t.2 3 l2.toNatClampNeg))) := hD
          obtain ⟨g26, e26, hf⟩ := lt_some hf
          rw [← e26] at hP hD
          refine lv_goto (tgt := 42) hx hb dX7_passes_27 (by decide) ?_
          exact j42 g26 l2 H locs ls hf hP hD hS (lv_sub hl [0, 1, 2] rfl)
  unfold f_X7_passes_s3 at hf
  have hl : lv_has ls 3 [(0, .ref o_t), (1, .ref (a_t 3))] := hl
  obtain ⟨H, hHe⟩ : ∃ H : Heap, H = s.heap := ⟨_, rfl⟩
  obtain ⟨locs, hle⟩ : ∃ q : List Loc, q = [] := ⟨_, rfl⟩
  have hS : va_S A s.heap H locs := by rw [hHe, hle]; exact hS
  rw [← hHe] at hP
  suffices hgo : W p l e rmX7_passes_s3 s m ([.ref o_t, .ref (a_t 3)] : List Value).toArray below meth c H locs 0 0 Q (F0 m 0 ls []) by rw [hHe, hle] at hgo; exact hgo
  clear hHe hle
  refine lv_iconst (v := (0 : Int32)) hx hb dX7_passes_0 (by decide) ?_
  refine lv_istore_n (lv' := [(2, .int (0 : Int32)), (0, .ref o_t), (1, .ref (a_t 3))]) hx hb dX7_passes_1 rfl hl (by decide) rfl (fun ls hl => ?_)
  exact j2 1000 S_t (0 : Int32) H locs ls hf hP hD hS (lv_sub hl [1, 2, 0] rfl)
abbrev rmX7_passes_s4 : Room := { frames := 0, cells := 0, slots := 0, locals := 0 }
set_option maxHeartbeats 4000000 in
set_option maxRecDepth 100000 in
theorem c_X7_passes_s4 (l : Launch) (D : va_G) (cI : ClassId) (o_t : Nat) (a_t : Nat → Nat) (S_t : G) (out : Unit × G) (hf : f_X7_passes_s4 S_t = some out) : Cn E0 l yX7_passes wsX7_passes rmX7_passes_s4 D cI [.ref o_t, .ref (a_t 4)] (gX7 o_t a_t cI S_t) none (gX7 o_t a_t cI out.2) := by
  refine Cn.mk (cc := cX7_passes) (maxL := 3) (ret := none) (by decide) rfl (Nat.le_of_ble_eq_true rfl) ?_
  intro p e s m below meth c A ls Q hx hb hml hown hts hK hA hP hD hS hl hr hlk hnm hE hQ
  have hown : s.vm.findClass RX7 = some m.cls := hown
  have hinX7 : ∀ w ∈ u_ws RX7 TX7 26, w ∈ wsX7_passes := by decide +kernel
  have j2 : ∀ (n2 : Nat) (S_t : G) (l2 : Int32) (H : Heap) (locs : List Loc) (ls : Array Slot), f_X7_passes_s4_2 n2 S_t l2 = some out → va_P D vwCl (gX7 o_t a_t cI S_t) H → va_D A (gX7 o_t a_t cI S_t) → va_S A s.heap H locs → lv_has ls 3 [(0, .ref o_t), (1, .ref (a_t 4)), (2, .int l2)] → W p l e rmX7_passes_s4 s m ([.ref o_t, .ref (a_t 4)] : List Value).toArray below meth c H locs 0 0 Q (F0 m 2 ls []) := by
    intro n2
    induction n2 with
    | zero =>
      intro S_t l2 H locs ls hf
      exact no_some hf
    | succ n2 ih2 =>
      have j42 : ∀ (S_t : G) (l2 : Int32) (H : Heap) (locs : List Loc) (ls : Array Slot), f_X7_passes_s4_42 (f_X7_passes_s4_2 n2) S_t l2 = some out → va_P D vwCl (gX7 o_t a_t cI S_t) H → va_D A (gX7 o_t a_t cI S_t) → va_S A s.heap H locs → lv_has ls 3 [(0, .ref o_t), (1, .ref (a_t 4)), (2, .int l2)] → W p l e rmX7_passes_s4 s m ([.ref o_t, .ref (a_t 4)] : List Value).toArray below meth c H locs 0 0 Q (F0 m 42 ls []) := by
        intro S_t l2 H locs ls hf hP hD hS hl
        unfold f_X7_passes_s4_42 at hf
        refine lv_aload_n hx hb dX7_passes_42 rfl (lv_at hl 0 rfl) ?_
        refine lv_dup hx hb dX7_passes_43 rfl ?_
        refine va_get (D := D) (ci := 7) (v := .int (S_t.1 22)) (C := RX7) (T := TX7) (N := 26) hx hb hts hinX7 hown hK hP 0 rfl rfl 22 (by decide) (hts (.fieldLink RX7 141 "OnlyStrangersHearModel" "cursor" "I") (by decide +kernel)) (fun _ h9 => h9) rfl dX7_passes_44 ?_
        refine lv_iconst (v := (1 : Int32)) hx hb dX7_passes_47 (by decide) ?_
        refine lv_iadd hx hb dX7_passes_48 ?_
        refine va_put (D := D) (ci := 7) (v := .int ((S_t.1 22) + (1 : Int32))) (ty := .int) (C := RX7) (T := TX7) (N := 26) hx hb hts hinX7 tyX7 tyX7_ok nmX7 hown hK hP hD hS 0 rfl rfl 22 (by decide) (hts (.fieldLink RX7 141 "OnlyStrangersHearModel" "cursor" "I") (by decide +kernel)) (fun _ h9 => h9) rfl (by decide +kernel) rfl rfl (Nat.le_of_ble_eq_true rfl) dX7_passes_49 (fun H locs hP hD hS => ?_)
        have hP : va_P D vwCl (gX7 o_t a_t cI (pF S_t 22 ((S_t.1 22) + (1 : Int32)))) H := hP
        have hD : va_D A (gX7 o_t a_t cI (pF S_t 22 ((S_t.1 22) + (1 : Int32)))) := hD
        obtain ⟨g49, e49, hf⟩ := lt_some hf
        rw [← e49] at hP hD
        refine lv_iinc (v := l2 + (1 : Int32)) (lv' := [(2, .int (l2 + (1 : Int32))), (0, .ref o_t), (1, .ref (a_t 4))]) hx hb dX7_passes_52 hl (k := 2) rfl rfl (by decide) rfl (fun ls hl => ?_)
        refine lv_goto (tgt := 2) hx hb dX7_passes_55 (by decide) ?_
        exact ih2 g49 (l2 + (1 : Int32)) H locs ls hf hP hD hS (lv_sub hl [1, 2, 0] rfl)
      intro S_t l2 H locs ls hf hP hD hS hl
      replace hf : b_X7_passes_s4_2 (f_X7_passes_s4_2 n2) S_t l2 = some out := hf
      unfold b_X7_passes_s4_2 at hf
      refine lv_iload_n hx hb dX7_passes_2 rfl (lv_at hl 2 rfl) ?_
      refine lv_aload_n hx hb dX7_passes_3 rfl (lv_at hl 1 rfl) ?_
      refine va_alen (v := (8 : Int32)) hx hb hK hP 5 0 rfl rfl rfl dX7_passes_4 ?_
      refine lv_icmp_ge (tgt := 58) hx hb dX7_passes_5 (by decide) (fun c5 => ?_) (fun c5 => ?_)
      · replace hf := it_t c5 hf
        have e := so_some hf
        subst e
        exact rv hx hb hK hr hlk hQ dX7_passes_58 hP hD hS
      · replace hf := it_f c5 hf
        refine lv_aload_n hx hb dX7_passes_8 rfl (lv_at hl 0 rfl) ?_
        refine va_get (D := D) (ci := 7) (v := .int (S_t.1 21)) (C := RX7) (T := TX7) (N := 26) hx hb hts hinX7 hown hK hP 0 rfl rfl 21 (by decide) (hts (.fieldLink RX7 137 "OnlyStrangersHearModel" "isKeeping" "Z") (by decide +kernel)) (fun _ h9 => h9) rfl dX7_passes_9 ?_
        refine lv_if_eq (tgt := 30) hx hb dX7_passes_12 (by decide) (fun c12 => ?_) (fun c12 => ?_)
        · replace hf := it_t c12 hf
          refine lv_aload_n hx hb dX7_passes_30 rfl (lv_at hl 1 rfl) ?_
          refine lv_iload_n hx hb dX7_passes_31 rfl (lv_at hl 2 rfl) ?_
          refine lv_aload_n hx hb dX7_passes_32 rfl (lv_at hl 0 rfl) ?_
          refine va_get (D := D) (ci := 7) (v := .ref (a_t 19)) (C := RX7) (T := TX7) (N := 26) hx hb hts hinX7 hown hK hP 0 rfl rfl 19 (by decide) (hts (.fieldLink RX7 47 "OnlyStrangersHearModel" "kept" "[I") (by decide +kernel)) (fun _ h9 => h9) rfl dX7_passes_33 ?_
          refine lv_aload_n hx hb dX7_passes_36 rfl (lv_at hl 0 rfl) ?_
          refine va_get (D := D) (ci := 7) (v := .int (S_t.1 22)) (C := RX7) (T := TX7) (N := 26) hx hb hts hinX7 hown hK hP 0 rfl rfl 22 (by decide) (hts (.fieldLink RX7 141 "OnlyStrangersHearModel" "cursor" "I") (by decide +kernel)) (fun _ h9 => h9) rfl dX7_passes_37 ?_
          obtain ⟨b40, hf⟩ := ck_some hf
          refine va_iald hx hb hK hP 12 0 rfl rfl b40 dX7_passes_40 ?_
          obtain ⟨b41, hf⟩ := ck_some hf
          refine va_iast hx hb hK hP hD hS 5 0 rfl rfl b41 dX7_passes_41 (fun H locs hP hD hS => ?_)
          have hP : va_P D vwCl (gX7 o_t a_t cI (pA S_t 4 l2.toNatClampNeg (S_t.2 19 (S_t.1 22).toNatClampNeg))) H := hP
          have hD : va_D A (gX7 o_t a_t cI (pA S_t 4 l2.toNatClampNeg (S_t.2 19 (S_t.1 22).toNatClampNeg))) := hD
          obtain ⟨g41, e41, hf⟩ := lt_some hf
          rw [← e41] at hP hD
          exact j42 g41 l2 H locs ls hf hP hD hS (lv_sub hl [0, 1, 2] rfl)
        · replace hf := it_f c12 hf
          refine lv_aload_n hx hb dX7_passes_15 rfl (lv_at hl 0 rfl) ?_
          refine va_get (D := D) (ci := 7) (v := .ref (a_t 19)) (C := RX7) (T := TX7) (N := 26) hx hb hts hinX7 hown hK hP 0 rfl rfl 19 (by decide) (hts (.fieldLink RX7 47 "OnlyStrangersHearModel" "kept" "[I") (by decide +kernel)) (fun _ h9 => h9) rfl dX7_passes_16 ?_
          refine lv_aload_n hx hb dX7_passes_19 rfl (lv_at hl 0 rfl) ?_
          refine va_get (D := D) (ci := 7) (v := .int (S_t.1 22)) (C := RX7) (T := TX7) (N := 26) hx hb hts hinX7 hown hK hP 0 rfl rfl 22 (by decide) (hts (.fieldLink RX7 141 "OnlyStrangersHearModel" "cursor" "I") (by decide +kernel)) (fun _ h9 => h9) rfl dX7_passes_20 ?_
          refine lv_aload_n hx hb dX7_passes_23 rfl (lv_at hl 1 rfl) ?_
          refine lv_iload_n hx hb dX7_passes_24 rfl (lv_at hl 2 rfl) ?_
          obtain ⟨b25, hf⟩ := ck_some hf
          refine va_iald hx hb hK hP 5 0 rfl rfl b25 dX7_passes_25 ?_
          obtain ⟨b26, hf⟩ := ck_some hf
          refine va_iast hx hb hK hP hD hS 12 0 rfl rfl b26 dX7_passes_26 (fun H locs hP hD hS => ?_)
          have hP : va_P D vwCl (gX7 o_t a_t cI (pA S_t 19 (S_t.1 22).toNatClampNeg (S_t.2 4 l2.toNatClampNeg))) H := hP
          have hD : va_D A (gX7 o_t a_t cI (pA S_t 19 (S_t.1 22).toNatClampNeg (S_t.2 4 l2.toNatClampNeg))) := hD
          obtain ⟨g26, e26, hf⟩ := lt_some hf
          rw [← e26] at hP hD
          refine lv_goto (tgt := 42) hx hb dX7_passes_27 (by decide) ?_
          exact j42 g26 l2 H locs ls hf hP hD hS (lv_sub hl [0, 1, 2] rfl)
  unfold f_X7_passes_s4 at hf
  have hl : lv_has ls 3 [(0, .ref o_t), (1, .ref (a_t 4))] := hl
  obtain ⟨H, hHe⟩ : ∃ H : Heap, H = s.heap := ⟨_, rfl⟩
  obtain ⟨locs, hle⟩ : ∃ q : List Loc, q = [] := ⟨_, rfl⟩
  have hS : va_S A s.heap H locs := by rw [hHe, hle]; exact hS
  rw [← hHe] at hP
  suffices hgo : W p l e rmX7_passes_s4 s m ([.ref o_t, .ref (a_t 4)] : List Value).toArray below meth c H locs 0 0 Q (F0 m 0 ls []) by rw [hHe, hle] at hgo; exact hgo
  clear hHe hle
  refine lv_iconst (v := (0 : Int32)) hx hb dX7_passes_0 (by decide) ?_
  refine lv_istore_n (lv' := [(2, .int (0 : Int32)), (0, .ref o_t), (1, .ref (a_t 4))]) hx hb dX7_passes_1 rfl hl (by decide) rfl (fun ls hl => ?_)
  exact j2 1000 S_t (0 : Int32) H locs ls hf hP hD hS (lv_sub hl [1, 2, 0] rfl)
abbrev rmX7_passes_s5 : Room := { frames := 0, cells := 0, slots := 0, locals := 0 }
set_option maxHeartbeats 4000000 in
set_option maxRecDepth 100000 in
theorem c_X7_passes_s5 (l : Launch) (D : va_G) (cI : ClassId) (o_t : Nat) (a_t : Nat → Nat) (S_t : G) (out : Unit × G) (hf : f_X7_passes_s5 S_t = some out) : Cn E0 l yX7_passes wsX7_passes rmX7_passes_s5 D cI [.ref o_t, .ref (a_t 5)] (gX7 o_t a_t cI S_t) none (gX7 o_t a_t cI out.2) := by
  refine Cn.mk (cc := cX7_passes) (maxL := 3) (ret := none) (by decide) rfl (Nat.le_of_ble_eq_true rfl) ?_
  intro p e s m below meth c A ls Q hx hb hml hown hts hK hA hP hD hS hl hr hlk hnm hE hQ
  have hown : s.vm.findClass RX7 = some m.cls := hown
  have hinX7 : ∀ w ∈ u_ws RX7 TX7 26, w ∈ wsX7_passes := by decide +kernel
  have j2 : ∀ (n2 : Nat) (S_t : G) (l2 : Int32) (H : Heap) (locs : List Loc) (ls : Array Slot), f_X7_passes_s5_2 n2 S_t l2 = some out → va_P D vwCl (gX7 o_t a_t cI S_t) H → va_D A (gX7 o_t a_t cI S_t) → va_S A s.heap H locs → lv_has ls 3 [(0, .ref o_t), (1, .ref (a_t 5)), (2, .int l2)] → W p l e rmX7_passes_s5 s m ([.ref o_t, .ref (a_t 5)] : List Value).toArray below meth c H locs 0 0 Q (F0 m 2 ls []) := by
    intro n2
    induction n2 with
    | zero =>
      intro S_t l2 H locs ls hf
      exact no_some hf
    | succ n2 ih2 =>
      have j42 : ∀ (S_t : G) (l2 : Int32) (H : Heap) (locs : List Loc) (ls : Array Slot), f_X7_passes_s5_42 (f_X7_passes_s5_2 n2) S_t l2 = some out → va_P D vwCl (gX7 o_t a_t cI S_t) H → va_D A (gX7 o_t a_t cI S_t) → va_S A s.heap H locs → lv_has ls 3 [(0, .ref o_t), (1, .ref (a_t 5)), (2, .int l2)] → W p l e rmX7_passes_s5 s m ([.ref o_t, .ref (a_t 5)] : List Value).toArray below meth c H locs 0 0 Q (F0 m 42 ls []) := by
        intro S_t l2 H locs ls hf hP hD hS hl
        unfold f_X7_passes_s5_42 at hf
        refine lv_aload_n hx hb dX7_passes_42 rfl (lv_at hl 0 rfl) ?_
        refine lv_dup hx hb dX7_passes_43 rfl ?_
        refine va_get (D := D) (ci := 7) (v := .int (S_t.1 22)) (C := RX7) (T := TX7) (N := 26) hx hb hts hinX7 hown hK hP 0 rfl rfl 22 (by decide) (hts (.fieldLink RX7 141 "OnlyStrangersHearModel" "cursor" "I") (by decide +kernel)) (fun _ h9 => h9) rfl dX7_passes_44 ?_
        refine lv_iconst (v := (1 : Int32)) hx hb dX7_passes_47 (by decide) ?_
        refine lv_iadd hx hb dX7_passes_48 ?_
        refine va_put (D := D) (ci := 7) (v := .int ((S_t.1 22) + (1 : Int32))) (ty := .int) (C := RX7) (T := TX7) (N := 26) hx hb hts hinX7 tyX7 tyX7_ok nmX7 hown hK hP hD hS 0 rfl rfl 22 (by decide) (hts (.fieldLink RX7 141 "OnlyStrangersHearModel" "cursor" "I") (by decide +kernel)) (fun _ h9 => h9) rfl (by decide +kernel) rfl rfl (Nat.le_of_ble_eq_true rfl) dX7_passes_49 (fun H locs hP hD hS => ?_)
        have hP : va_P D vwCl (gX7 o_t a_t cI (pF S_t 22 ((S_t.1 22) + (1 : Int32)))) H := hP
        have hD : va_D A (gX7 o_t a_t cI (pF S_t 22 ((S_t.1 22) + (1 : Int32)))) := hD
        obtain ⟨g49, e49, hf⟩ := lt_some hf
        rw [← e49] at hP hD
        refine lv_iinc (v := l2 + (1 : Int32)) (lv' := [(2, .int (l2 + (1 : Int32))), (0, .ref o_t), (1, .ref (a_t 5))]) hx hb dX7_passes_52 hl (k := 2) rfl rfl (by decide) rfl (fun ls hl => ?_)
        refine lv_goto (tgt := 2) hx hb dX7_passes_55 (by decide) ?_
        exact ih2 g49 (l2 + (1 : Int32)) H locs ls hf hP hD hS (lv_sub hl [1, 2, 0] rfl)
      intro S_t l2 H locs ls hf hP hD hS hl
      replace hf : b_X7_passes_s5_2 (f_X7_passes_s5_2 n2) S_t l2 = some out := hf
      unfold b_X7_passes_s5_2 at hf
      refine lv_iload_n hx hb dX7_passes_2 rfl (lv_at hl 2 rfl) ?_
      refine lv_aload_n hx hb dX7_passes_3 rfl (lv_at hl 1 rfl) ?_
      refine va_alen (v := (8 : Int32)) hx hb hK hP 6 0 rfl rfl rfl dX7_passes_4 ?_
      refine lv_icmp_ge (tgt := 58) hx hb dX7_passes_5 (by decide) (fun c5 => ?_) (fun c5 => ?_)
      · replace hf := it_t c5 hf
        have e := so_some hf
        subst e
        exact rv hx hb hK hr hlk hQ dX7_passes_58 hP hD hS
      · replace hf := it_f c5 hf
        refine lv_aload_n hx hb dX7_passes_8 rfl (lv_at hl 0 rfl) ?_
        refine va_get (D := D) (ci := 7) (v := .int (S_t.1 21)) (C := RX7) (T := TX7) (N := 26) hx hb hts hinX7 hown hK hP 0 rfl rfl 21 (by decide) (hts (.fieldLink RX7 137 "OnlyStrangersHearModel" "isKeeping" "Z") (by decide +kernel)) (fun _ h9 => h9) rfl dX7_passes_9 ?_
        refine lv_if_eq (tgt := 30) hx hb dX7_passes_12 (by decide) (fun c12 => ?_) (fun c12 => ?_)
        · replace hf := it_t c12 hf
          refine lv_aload_n hx hb dX7_passes_30 rfl (lv_at hl 1 rfl) ?_
          refine lv_iload_n hx hb dX7_passes_31 rfl (lv_at hl 2 rfl) ?_
          refine lv_aload_n hx hb dX7_passes_32 rfl (lv_at hl 0 rfl) ?_
          refine va_get (D := D) (ci := 7) (v := .ref (a_t 19)) (C := RX7) (T := TX7) (N := 26) hx hb hts hinX7 hown hK hP 0 rfl rfl 19 (by decide) (hts (.fieldLink RX7 47 "OnlyStrangersHearModel" "kept" "[I") (by decide +kernel)) (fun _ h9 => h9) rfl dX7_passes_33 ?_
          refine lv_aload_n hx hb dX7_passes_36 rfl (lv_at hl 0 rfl) ?_
          refine va_get (D := D) (ci := 7) (v := .int (S_t.1 22)) (C := RX7) (T := TX7) (N := 26) hx hb hts hinX7 hown hK hP 0 rfl rfl 22 (by decide) (hts (.fieldLink RX7 141 "OnlyStrangersHearModel" "cursor" "I") (by decide +kernel)) (fun _ h9 => h9) rfl dX7_passes_37 ?_
          obtain ⟨b40, hf⟩ := ck_some hf
          refine va_iald hx hb hK hP 12 0 rfl rfl b40 dX7_passes_40 ?_
          obtain ⟨b41, hf⟩ := ck_some hf
          refine va_iast hx hb hK hP hD hS 6 0 rfl rfl b41 dX7_passes_41 (fun H locs hP hD hS => ?_)
          have hP : va_P D vwCl (gX7 o_t a_t cI (pA S_t 5 l2.toNatClampNeg (S_t.2 19 (S_t.1 22).toNatClampNeg))) H := hP
          have hD : va_D A (gX7 o_t a_t cI (pA S_t 5 l2.toNatClampNeg (S_t.2 19 (S_t.1 22).toNatClampNeg))) := hD
          obtain ⟨g41, e41, hf⟩ := lt_some hf
          rw [← e41] at hP hD
          exact j42 g41 l2 H locs ls hf hP hD hS (lv_sub hl [0, 1, 2] rfl)
        · replace hf := it_f c12 hf
          refine lv_aload_n hx hb dX7_passes_15 rfl (lv_at hl 0 rfl) ?_
          refine va_get (D := D) (ci := 7) (v := .ref (a_t 19)) (C := RX7) (T := TX7) (N := 26) hx hb hts hinX7 hown hK hP 0 rfl rfl 19 (by decide) (hts (.fieldLink RX7 47 "OnlyStrangersHearModel" "kept" "[I") (by decide +kernel)) (fun _ h9 => h9) rfl dX7_passes_16 ?_
          refine lv_aload_n hx hb dX7_passes_19 rfl (lv_at hl 0 rfl) ?_
          refine va_get (D := D) (ci := 7) (v := .int (S_t.1 22)) (C := RX7) (T := TX7) (N := 26) hx hb hts hinX7 hown hK hP 0 rfl rfl 22 (by decide) (hts (.fieldLink RX7 141 "OnlyStrangersHearModel" "cursor" "I") (by decide +kernel)) (fun _ h9 => h9) rfl dX7_passes_20 ?_
          refine lv_aload_n hx hb dX7_passes_23 rfl (lv_at hl 1 rfl) ?_
          refine lv_iload_n hx hb dX7_passes_24 rfl (lv_at hl 2 rfl) ?_
          obtain ⟨b25, hf⟩ := ck_some hf
          refine va_iald hx hb hK hP 6 0 rfl rfl b25 dX7_passes_25 ?_
          obtain ⟨b26, hf⟩ := ck_some hf
          refine va_iast hx hb hK hP hD hS 12 0 rfl rfl b26 dX7_passes_26 (fun H locs hP hD hS => ?_)
          have hP : va_P D vwCl (gX7 o_t a_t cI (pA S_t 19 (S_t.1 22).toNatClampNeg (S_t.2 5 l2.toNatClampNeg))) H := hP
          have hD : va_D A (gX7 o_t a_t cI (pA S_t 19 (S_t.1 22).toNatClampNeg (S_t.2 5 l2.toNatClampNeg))) := hD
          obtain ⟨g26, e26, hf⟩ := lt_some hf
          rw [← e26] at hP hD
          refine lv_goto (tgt := 42) hx hb dX7_passes_27 (by decide) ?_
          exact j42 g26 l2 H locs ls hf hP hD hS (lv_sub hl [0, 1, 2] rfl)
  unfold f_X7_passes_s5 at hf
  have hl : lv_has ls 3 [(0, .ref o_t), (1, .ref (a_t 5))] := hl
  obtain ⟨H, hHe⟩ : ∃ H : Heap, H = s.heap := ⟨_, rfl⟩
  obtain ⟨locs, hle⟩ : ∃ q : List Loc, q = [] := ⟨_, rfl⟩
  have hS : va_S A s.heap H locs := by rw [hHe, hle]; exact hS
  rw [← hHe] at hP
  suffices hgo : W p l e rmX7_passes_s5 s m ([.ref o_t, .ref (a_t 5)] : List Value).toArray below meth c H locs 0 0 Q (F0 m 0 ls []) by rw [hHe, hle] at hgo; exact hgo
  clear hHe hle
  refine lv_iconst (v := (0 : Int32)) hx hb dX7_passes_0 (by decide) ?_
  refine lv_istore_n (lv' := [(2, .int (0 : Int32)), (0, .ref o_t), (1, .ref (a_t 5))]) hx hb dX7_passes_1 rfl hl (by decide) rfl (fun ls hl => ?_)
  exact j2 1000 S_t (0 : Int32) H locs ls hf hP hD hS (lv_sub hl [1, 2, 0] rfl)
abbrev rmX7_passes_s6 : Room := { frames := 0, cells := 0, slots := 0, locals := 0 }
set_option maxHeartbeats 4000000 in
set_option maxRecDepth 100000 in
theorem c_X7_passes_s6 (l : Launch) (D : va_G) (cI : ClassId) (o_t : Nat) (a_t : Nat → Nat) (S_t : G) (out : Unit × G) (hf : f_X7_passes_s6 S_t = some out) : Cn E0 l yX7_passes wsX7_passes rmX7_passes_s6 D cI [.ref o_t, .ref (a_t 6)] (gX7 o_t a_t cI S_t) none (gX7 o_t a_t cI out.2) := by
  refine Cn.mk (cc := cX7_passes) (maxL := 3) (ret := none) (by decide) rfl (Nat.le_of_ble_eq_true rfl) ?_
  intro p e s m below meth c A ls Q hx hb hml hown hts hK hA hP hD hS hl hr hlk hnm hE hQ
  have hown : s.vm.findClass RX7 = some m.cls := hown
  have hinX7 : ∀ w ∈ u_ws RX7 TX7 26, w ∈ wsX7_passes := by decide +kernel
  have j2 : ∀ (n2 : Nat) (S_t : G) (l2 : Int32) (H : Heap) (locs : List Loc) (ls : Array Slot), f_X7_passes_s6_2 n2 S_t l2 = some out → va_P D vwCl (gX7 o_t a_t cI S_t) H → va_D A (gX7 o_t a_t cI S_t) → va_S A s.heap H locs → lv_has ls 3 [(0, .ref o_t), (1, .ref (a_t 6)), (2, .int l2)] → W p l e rmX7_passes_s6 s m ([.ref o_t, .ref (a_t 6)] : List Value).toArray below meth c H locs 0 0 Q (F0 m 2 ls []) := by
    intro n2
    induction n2 with
    | zero =>
      intro S_t l2 H locs ls hf
      exact no_some hf
    | succ n2 ih2 =>
      have j42 : ∀ (S_t : G) (l2 : Int32) (H : Heap) (locs : List Loc) (ls : Array Slot), f_X7_passes_s6_42 (f_X7_passes_s6_2 n2) S_t l2 = some out → va_P D vwCl (gX7 o_t a_t cI S_t) H → va_D A (gX7 o_t a_t cI S_t) → va_S A s.heap H locs → lv_has ls 3 [(0, .ref o_t), (1, .ref (a_t 6)), (2, .int l2)] → W p l e rmX7_passes_s6 s m ([.ref o_t, .ref (a_t 6)] : List Value).toArray below meth c H locs 0 0 Q (F0 m 42 ls []) := by
        intro S_t l2 H locs ls hf hP hD hS hl
        unfold f_X7_passes_s6_42 at hf
        refine lv_aload_n hx hb dX7_passes_42 rfl (lv_at hl 0 rfl) ?_
        refine lv_dup hx hb dX7_passes_43 rfl ?_
        refine va_get (D := D) (ci := 7) (v := .int (S_t.1 22)) (C := RX7) (T := TX7) (N := 26) hx hb hts hinX7 hown hK hP 0 rfl rfl 22 (by decide) (hts (.fieldLink RX7 141 "OnlyStrangersHearModel" "cursor" "I") (by decide +kernel)) (fun _ h9 => h9) rfl dX7_passes_44 ?_
        refine lv_iconst (v := (1 : Int32)) hx hb dX7_passes_47 (by decide) ?_
        refine lv_iadd hx hb dX7_passes_48 ?_
        refine va_put (D := D) (ci := 7) (v := .int ((S_t.1 22) + (1 : Int32))) (ty := .int) (C := RX7) (T := TX7) (N := 26) hx hb hts hinX7 tyX7 tyX7_ok nmX7 hown hK hP hD hS 0 rfl rfl 22 (by decide) (hts (.fieldLink RX7 141 "OnlyStrangersHearModel" "cursor" "I") (by decide +kernel)) (fun _ h9 => h9) rfl (by decide +kernel) rfl rfl (Nat.le_of_ble_eq_true rfl) dX7_passes_49 (fun H locs hP hD hS => ?_)
        have hP : va_P D vwCl (gX7 o_t a_t cI (pF S_t 22 ((S_t.1 22) + (1 : Int32)))) H := hP
        have hD : va_D A (gX7 o_t a_t cI (pF S_t 22 ((S_t.1 22) + (1 : Int32)))) := hD
        obtain ⟨g49, e49, hf⟩ := lt_some hf
        rw [← e49] at hP hD
        refine lv_iinc (v := l2 + (1 : Int32)) (lv' := [(2, .int (l2 + (1 : Int32))), (0, .ref o_t), (1, .ref (a_t 6))]) hx hb dX7_passes_52 hl (k := 2) rfl rfl (by decide) rfl (fun ls hl => ?_)
        refine lv_goto (tgt := 2) hx hb dX7_passes_55 (by decide) ?_
        exact ih2 g49 (l2 + (1 : Int32)) H locs ls hf hP hD hS (lv_sub hl [1, 2, 0] rfl)
      intro S_t l2 H locs ls hf hP hD hS hl
      replace hf : b_X7_passes_s6_2 (f_X7_passes_s6_2 n2) S_t l2 = some out := hf
      unfold b_X7_passes_s6_2 at hf
      refine lv_iload_n hx hb dX7_passes_2 rfl (lv_at hl 2 rfl) ?_
      refine lv_aload_n hx hb dX7_passes_3 rfl (lv_at hl 1 rfl) ?_
      refine va_alen (v := (8 : Int32)) hx hb hK hP 7 0 rfl rfl rfl dX7_passes_4 ?_
      refine lv_icmp_ge (tgt := 58) hx hb dX7_passes_5 (by decide) (fun c5 => ?_) (fun c5 => ?_)
      · replace hf := it_t c5 hf
        have e := so_some hf
        subst e
        exact rv hx hb hK hr hlk hQ dX7_passes_58 hP hD hS
      · replace hf := it_f c5 hf
        refine lv_aload_n hx hb dX7_passes_8 rfl (lv_at hl 0 rfl) ?_
        refine va_get (D := D) (ci := 7) (v := .int (S_t.1 21)) (C := RX7) (T := TX7) (N := 26) hx hb hts hinX7 hown hK hP 0 rfl rfl 21 (by decide) (hts (.fieldLink RX7 137 "OnlyStrangersHearModel" "isKeeping" "Z") (by decide +kernel)) (fun _ h9 => h9) rfl dX7_passes_9 ?_
        refine lv_if_eq (tgt := 30) hx hb dX7_passes_12 (by decide) (fun c12 => ?_) (fun c12 => ?_)
        · replace hf := it_t c12 hf
          refine lv_aload_n hx hb dX7_passes_30 rfl (lv_at hl 1 rfl) ?_
          refine lv_iload_n hx hb dX7_passes_31 rfl (lv_at hl 2 rfl) ?_
          refine lv_aload_n hx hb dX7_passes_32 rfl (lv_at hl 0 rfl) ?_
          refine va_get (D := D) (ci := 7) (v := .ref (a_t 19)) (C := RX7) (T := TX7) (N := 26) hx hb hts hinX7 hown hK hP 0 rfl rfl 19 (by decide) (hts (.fieldLink RX7 47 "OnlyStrangersHearModel" "kept" "[I") (by decide +kernel)) (fun _ h9 => h9) rfl dX7_passes_33 ?_
          refine lv_aload_n hx hb dX7_passes_36 rfl (lv_at hl 0 rfl) ?_
          refine va_get (D := D) (ci := 7) (v := .int (S_t.1 22)) (C := RX7) (T := TX7) (N := 26) hx hb hts hinX7 hown hK hP 0 rfl rfl 22 (by decide) (hts (.fieldLink RX7 141 "OnlyStrangersHearModel" "cursor" "I") (by decide +kernel)) (fun _ h9 => h9) rfl dX7_passes_37 ?_
          obtain ⟨b40, hf⟩ := ck_some hf
          refine va_iald hx hb hK hP 12 0 rfl rfl b40 dX7_passes_40 ?_
          obtain ⟨b41, hf⟩ := ck_some hf
          refine va_iast hx hb hK hP hD hS 7 0 rfl rfl b41 dX7_passes_41 (fun H locs hP hD hS => ?_)
          have hP : va_P D vwCl (gX7 o_t a_t cI (pA S_t 6 l2.toNatClampNeg (S_t.2 19 (S_t.1 22).toNatClampNeg))) H := hP
          have hD : va_D A (gX7 o_t a_t cI (pA S_t 6 l2.toNatClampNeg (S_t.2 19 (S_t.1 22).toNatClampNeg))) := hD
          obtain ⟨g41, e41, hf⟩ := lt_some hf
          rw [← e41] at hP hD
          exact j42 g41 l2 H locs ls hf hP hD hS (lv_sub hl [0, 1, 2] rfl)
        · replace hf := it_f c12 hf
          refine lv_aload_n hx hb dX7_passes_15 rfl (lv_at hl 0 rfl) ?_
          refine va_get (D := D) (ci := 7) (v := .ref (a_t 19)) (C := RX7) (T := TX7) (N := 26) hx hb hts hinX7 hown hK hP 0 rfl rfl 19 (by decide) (hts (.fieldLink RX7 47 "OnlyStrangersHearModel" "kept" "[I") (by decide +kernel)) (fun _ h9 => h9) rfl dX7_passes_16 ?_
          refine lv_aload_n hx hb dX7_passes_19 rfl (lv_at hl 0 rfl) ?_
          refine va_get (D := D) (ci := 7) (v := .int (S_t.1 22)) (C := RX7) (T := TX7) (N := 26) hx hb hts hinX7 hown hK hP 0 rfl rfl 22 (by decide) (hts (.fieldLink RX7 141 "OnlyStrangersHearModel" "cursor" "I") (by decide +kernel)) (fun _ h9 => h9) rfl dX7_passes_20 ?_
          refine lv_aload_n hx hb dX7_passes_23 rfl (lv_at hl 1 rfl) ?_
          refine lv_iload_n hx hb dX7_passes_24 rfl (lv_at hl 2 rfl) ?_
          obtain ⟨b25, hf⟩ := ck_some hf
          refine va_iald hx hb hK hP 7 0 rfl rfl b25 dX7_passes_25 ?_
          obtain ⟨b26, hf⟩ := ck_some hf
          refine va_iast hx hb hK hP hD hS 12 0 rfl rfl b26 dX7_passes_26 (fun H locs hP hD hS => ?_)
          have hP : va_P D vwCl (gX7 o_t a_t cI (pA S_t 19 (S_t.1 22).toNatClampNeg (S_t.2 6 l2.toNatClampNeg))) H := hP
          have hD : va_D A (gX7 o_t a_t cI (pA S_t 19 (S_t.1 22).toNatClampNeg (S_t.2 6 l2.toNatClampNeg))) := hD
          obtain ⟨g26, e26, hf⟩ := lt_some hf
          rw [← e26] at hP hD
          refine lv_goto (tgt := 42) hx hb dX7_passes_27 (by decide) ?_
          exact j42 g26 l2 H locs ls hf hP hD hS (lv_sub hl [0, 1, 2] rfl)
  unfold f_X7_passes_s6 at hf
  have hl : lv_has ls 3 [(0, .ref o_t), (1, .ref (a_t 6))] := hl
  obtain ⟨H, hHe⟩ : ∃ H : Heap, H = s.heap := ⟨_, rfl⟩
  obtain ⟨locs, hle⟩ : ∃ q : List Loc, q = [] := ⟨_, rfl⟩
  have hS : va_S A s.heap H locs := by rw [hHe, hle]; exact hS
  rw [← hHe] at hP
  suffices hgo : W p l e rmX7_passes_s6 s m ([.ref o_t, .ref (a_t 6)] : List Value).toArray below meth c H locs 0 0 Q (F0 m 0 ls []) by rw [hHe, hle] at hgo; exact hgo
  clear hHe hle
  refine lv_iconst (v := (0 : Int32)) hx hb dX7_passes_0 (by decide) ?_
  refine lv_istore_n (lv' := [(2, .int (0 : Int32)), (0, .ref o_t), (1, .ref (a_t 6))]) hx hb dX7_passes_1 rfl hl (by decide) rfl (fun ls hl => ?_)
  exact j2 1000 S_t (0 : Int32) H locs ls hf hP hD hS (lv_sub hl [1, 2, 0] rfl)
abbrev rmX7_passOne : Room := { frames := 0, cells := 0, slots := 0, locals := 0 }
set_option maxHeartbeats 4000000 in
set_option maxRecDepth 100000 in
theorem c_X7_passOne (l : Launch) (D : va_G) (cI : ClassId) (o_t : Nat) (a_t : Nat → Nat) (S_t : G) (x1 : Int32) (out : Int32 × G) (hf : f_X7_passOne S_t x1 = some out) : Cn E0 l yX7_passOne wsX7_passOne rmX7_passOne D cI [.ref o_t, .int x1] (gX7 o_t a_t cI S_t) (some (.int out.1)) (gX7 o_t a_t cI out.2) := by
  refine Cn.mk (cc := cX7_passOne) (maxL := 3) (ret := (some .int)) (by decide) rfl (Nat.le_of_ble_eq_true rfl) ?_
  intro p e s m below meth c A ls Q hx hb hml hown hts hK hA hP hD hS hl hr hlk hnm hE hQ
  have hown : s.vm.findClass RX7 = some m.cls := hown
  have hinX7 : ∀ w ∈ u_ws RX7 TX7 26, w ∈ wsX7_passOne := by decide +kernel
  have j38 : ∀ (S_t : G) (l2 : Int32) (H : Heap) (locs : List Loc) (ls : Array Slot), f_X7_passOne_38 S_t l2 = some out → va_P D vwCl (gX7 o_t a_t cI S_t) H → va_D A (gX7 o_t a_t cI S_t) → va_S A s.heap H locs → lv_has ls 3 [(0, .ref o_t), (2, .int l2)] → W p l e rmX7_passOne s m ([.ref o_t, .int x1] : List Value).toArray below meth c H locs 0 0 Q (F0 m 38 ls []) := by
    intro S_t l2 H locs ls hf hP hD hS hl
    unfold f_X7_passOne_38 at hf
    refine lv_aload_n hx hb dX7_passOne_38 rfl (lv_at hl 0 rfl) ?_
    refine lv_dup hx hb dX7_passOne_39 rfl ?_
    refine va_get (D := D) (ci := 7) (v := .int (S_t.1 22)) (C := RX7) (T := TX7) (N := 26) hx hb hts hinX7 hown hK hP 0 rfl rfl 22 (by decide) (hts (.fieldLink RX7 141 "OnlyStrangersHearModel" "cursor" "I") (by decide +kernel)) (fun _ h9 => h9) rfl dX7_passOne_40 ?_
    refine lv_iconst (v := (1 : Int32)) hx hb dX7_passOne_43 (by decide) ?_
    refine lv_iadd hx hb dX7_passOne_44 ?_
    refine va_put (D := D) (ci := 7) (v := .int ((S_t.1 22) + (1 : Int32))) (ty := .int) (C := RX7) (T := TX7) (N := 26) hx hb hts hinX7 tyX7 tyX7_ok nmX7 hown hK hP hD hS 0 rfl rfl 22 (by decide) (hts (.fieldLink RX7 141 "OnlyStrangersHearModel" "cursor" "I") (by decide +kernel)) (fun _ h9 => h9) rfl (by decide +kernel) rfl rfl (Nat.le_of_ble_eq_true rfl) dX7_passOne_45 (fun H locs hP hD hS => ?_)
    have hP : va_P D vwCl (gX7 o_t a_t cI (pF S_t 22 ((S_t.1 22) + (1 : Int32)))) H := hP
    have hD : va_D A (gX7 o_t a_t cI (pF S_t 22 ((S_t.1 22) + (1 : Int32)))) := hD
    obtain ⟨g45, e45, hf⟩ := lt_some hf
    rw [← e45] at hP hD
    refine lv_iload_n hx hb dX7_passOne_48 rfl (lv_at hl 1 rfl) ?_
    have e := so_some hf
    subst e
    exact ri hx hb hK hr hlk hQ dX7_passOne_49 hP hD hS
  have j20 : ∀ (S_t : G) (l1 : Int32) (s0 : Int32) (H : Heap) (locs : List Loc) (ls : Array Slot), f_X7_passOne_20 S_t l1 s0 = some out → va_P D vwCl (gX7 o_t a_t cI S_t) H → va_D A (gX7 o_t a_t cI S_t) → va_S A s.heap H locs → lv_has ls 3 [(0, .ref o_t), (1, .int l1)] → W p l e rmX7_passOne s m ([.ref o_t, .int x1] : List Value).toArray below meth c H locs 0 0 Q (F0 m 20 ls [.int s0]) := by
    intro S_t l1 s0 H locs ls hf hP hD hS hl
    unfold f_X7_passOne_20 at hf
    refine lv_istore_n (lv' := [(2, .int s0), (0, .ref o_t), (1, .int l1)]) hx hb dX7_passOne_20 rfl hl (by decide) rfl (fun ls hl => ?_)
    refine lv_aload_n hx hb dX7_passOne_21 rfl (lv_at hl 1 rfl) ?_
    refine va_get (D := D) (ci := 7) (v := .int (S_t.1 21)) (C := RX7) (T := TX7) (N := 26) hx hb hts hinX7 hown hK hP 0 rfl rfl 21 (by decide) (hts (.fieldLink RX7 137 "OnlyStrangersHearModel" "isKeeping" "Z") (by decide +kernel)) (fun _ h9 => h9) rfl dX7_passOne_22 ?_
    refine lv_if_eq (tgt := 38) hx hb dX7_passOne_25 (by decide) (fun c25 => ?_) (fun c25 => ?_)
    · replace hf := it_t c25 hf
      exact j38 S_t s0 H locs ls hf hP hD hS (lv_sub hl [1, 0] rfl)
    · replace hf := it_f c25 hf
      refine lv_aload_n hx hb dX7_passOne_28 rfl (lv_at hl 1 rfl) ?_
      refine va_get (D := D) (ci := 7) (v := .ref (a_t 19)) (C := RX7) (T := TX7) (N := 26) hx hb hts hinX7 hown hK hP 0 rfl rfl 19 (by decide) (hts (.fieldLink RX7 47 "OnlyStrangersHearModel" "kept" "[I") (by decide +kernel)) (fun _ h9 => h9) rfl dX7_passOne_29 ?_
      refine lv_aload_n hx hb dX7_passOne_32 rfl (lv_at hl 1 rfl) ?_
      refine va_get (D := D) (ci := 7) (v := .int (S_t.1 22)) (C := RX7) (T := TX7) (N := 26) hx hb hts hinX7 hown hK hP 0 rfl rfl 22 (by decide) (hts (.fieldLink RX7 141 "OnlyStrangersHearModel" "cursor" "I") (by decide +kernel)) (fun _ h9 => h9) rfl dX7_passOne_33 ?_
      refine lv_iload_n hx hb dX7_passOne_36 rfl (lv_at hl 2 rfl) ?_
      obtain ⟨b37, hf⟩ := ck_some hf
      refine va_iast hx hb hK hP hD hS 12 0 rfl rfl b37 dX7_passOne_37 (fun H locs hP hD hS => ?_)
      have hP : va_P D vwCl (gX7 o_t a_t cI (pA S_t 19 (S_t.1 22).toNatClampNeg l1)) H := hP
      have hD : va_D A (gX7 o_t a_t cI (pA S_t 19 (S_t.1 22).toNatClampNeg l1)) := hD
      obtain ⟨g37, e37, hf⟩ := lt_some hf
      rw [← e37] at hP hD
      exact j38 g37 s0 H locs ls hf hP hD hS (lv_sub hl [1, 0] rfl)
  unfold f_X7_passOne at hf
  have hl : lv_has ls 3 [(0, .ref o_t), (1, .int x1)] := hl
  obtain ⟨H, hHe⟩ : ∃ H : Heap, H = s.heap := ⟨_, rfl⟩
  obtain ⟨locs, hle⟩ : ∃ q : List Loc, q = [] := ⟨_, rfl⟩
  have hS : va_S A s.heap H locs := by rw [hHe, hle]; exact hS
  rw [← hHe] at hP
  suffices hgo : W p l e rmX7_passOne s m ([.ref o_t, .int x1] : List Value).toArray below meth c H locs 0 0 Q (F0 m 0 ls []) by rw [hHe, hle] at hgo; exact hgo
  clear hHe hle
  refine lv_aload_n hx hb dX7_passOne_0 rfl (lv_at hl 0 rfl) ?_
  refine va_get (D := D) (ci := 7) (v := .int (S_t.1 21)) (C := RX7) (T := TX7) (N := 26) hx hb hts hinX7 hown hK hP 0 rfl rfl 21 (by decide) (hts (.fieldLink RX7 137 "OnlyStrangersHearModel" "isKeeping" "Z") (by decide +kernel)) (fun _ h9 => h9) rfl dX7_passOne_1 ?_
  refine lv_if_eq (tgt := 11) hx hb dX7_passOne_4 (by decide) (fun c4 => ?_) (fun c4 => ?_)
  · replace hf := it_t c4 hf
    refine lv_aload_n hx hb dX7_passOne_11 rfl (lv_at hl 0 rfl) ?_
    refine va_get (D := D) (ci := 7) (v := .ref (a_t 19)) (C := RX7) (T := TX7) (N := 26) hx hb hts hinX7 hown hK hP 0 rfl rfl 19 (by decide) (hts (.fieldLink RX7 47 "OnlyStrangersHearModel" "kept" "[I") (by decide +kernel)) (fun _ h9 => h9) rfl dX7_passOne_12 ?_
    refine lv_aload_n hx hb dX7_passOne_15 rfl (lv_at hl 0 rfl) ?_
    refine va_get (D := D) (ci := 7) (v := .int (S_t.1 22)) (C := RX7) (T := TX7) (N := 26) hx hb hts hinX7 hown hK hP 0 rfl rfl 22 (by decide) (hts (.fieldLink RX7 141 "OnlyStrangersHearModel" "cursor" "I") (by decide +kernel)) (fun _ h9 => h9) rfl dX7_passOne_16 ?_
    obtain ⟨b19, hf⟩ := ck_some hf
    refine va_iald hx hb hK hP 12 0 rfl rfl b19 dX7_passOne_19 ?_
    exact j20 S_t x1 (S_t.2 19 (S_t.1 22).toNatClampNeg) H locs ls hf hP hD hS (lv_sub hl [0, 1] rfl)
  · replace hf := it_f c4 hf
    refine lv_iload_n hx hb dX7_passOne_7 rfl (lv_at hl 1 rfl) ?_
    refine lv_goto (tgt := 20) hx hb dX7_passOne_8 (by decide) ?_
    exact j20 S_t x1 x1 H locs ls hf hP hD hS (lv_sub hl [0, 1] rfl)
