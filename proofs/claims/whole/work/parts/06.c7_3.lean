abbrev rmX7_person : Room := { frames := 1, cells := 0, slots := 0, locals := 21 }
set_option maxHeartbeats 4000000 in
set_option maxRecDepth 100000 in
theorem c_X7_person (l : Launch) (D : va_G) (cI : ClassId) (o_t : Nat) (a_t : Nat → Nat) (S_t : G) (x1 : Int32) (x2 : Int32) (out : Int32 × G) (hf : f_X7_person S_t x1 x2 = some out) : Cn E0 l yX7_person wsX7_person rmX7_person D cI [.ref o_t, .int x1, .int x2] (gX7 o_t a_t cI S_t) (some (.int out.1)) (gX7 o_t a_t cI out.2) := by
  refine Cn.mk (cc := cX7_person) (maxL := 3) (ret := (some .int)) (by decide) rfl (Nat.le_of_ble_eq_true rfl) ?_
  intro p e s m below meth c A ls Q hx hb hml hown hts hK hA hP hD hS hl hr hlk hnm hE hQ
  have hown : s.vm.findClass RX7 = some m.cls := hown
  have hinX7 : ∀ w ∈ u_ws RX7 TX7 26, w ∈ wsX7_person := by decide +kernel
  unfold f_X7_person at hf
  have hl : lv_has ls 3 [(0, .ref o_t), (1, .int x1), (2, .int x2)] := hl
  obtain ⟨H, hHe⟩ : ∃ H : Heap, H = s.heap := ⟨_, rfl⟩
  obtain ⟨locs, hle⟩ : ∃ q : List Loc, q = [] := ⟨_, rfl⟩
  have hS : va_S A s.heap H locs := by rw [hHe, hle]; exact hS
  rw [← hHe] at hP
  suffices hgo : W p l e rmX7_person s m ([.ref o_t, .int x1, .int x2] : List Value).toArray below meth c H locs 0 0 Q (F0 m 0 ls []) by rw [hHe, hle] at hgo; exact hgo
  clear hHe hle
  refine lv_aload_n hx hb dX7_person_0 rfl (lv_at hl 0 rfl) ?_
  refine lv_iload_n hx hb dX7_person_1 rfl (lv_at hl 1 rfl) ?_
  obtain ⟨r2, u2, h2, hf⟩ := bd_some hf
  refine calX0 (runV E0.b E0.n (As := [.int x1]) (rest := []) ⟨hx, hb, hml, hown, hts⟩ (c_X7_isOne l D cI o_t a_t S_t x1 _ h2) gX7_person_X7_isOne rfl rfl rfl hdX7_isOne ⟨by decide, by decide⟩ hK hP hD 0 rfl rfl rfl hl.1 rfl (Nat.le_of_ble_eq_true rfl) dX7_person_2 ⟨Nat.zero_le _, Nat.zero_le _⟩) hD hS hA (fun H locs hP hD hS => ?_)
  have hP : va_P D vwCl (gX7 o_t a_t cI u2) H := hP
  have hD : va_D A (gX7 o_t a_t cI u2) := hD
  refine W.eq (g2 := F0 m 5 ls [.int r2]) rfl ?_
  refine lv_if_ne (tgt := 14) hx hb dX7_person_5 (by decide) (fun c5 => ?_) (fun c5 => ?_)
  · replace hf := it_f c5 hf
    refine lv_iload_n hx hb dX7_person_14 rfl (lv_at hl 2 rfl) ?_
    by_cases ck0 : x2 = (0 : Int32)
    · replace hf := it_t ck0 hf
      refine lv_tableIn (off := 33) (tgt := 48) hx hb dX7_person_15 (by rw [ck0]; decide) (by rw [ck0]; decide) (by rw [ck0]; decide) (by decide) ?_
      refine lv_aload_n hx hb dX7_person_48 rfl (lv_at hl 0 rfl) ?_
      refine va_get (D := D) (ci := 7) (v := .ref (a_t 3)) (C := RX7) (T := TX7) (N := 26) hx hb hts hinX7 hown hK hP 0 rfl rfl 3 (by decide) (hts (.fieldLink RX7 19 "OnlyStrangersHearModel" "kind" "[I") (by decide +kernel)) (fun _ h9 => h9) rfl dX7_person_49 ?_
      refine lv_iload_n hx hb dX7_person_52 rfl (lv_at hl 1 rfl) ?_
      obtain ⟨b53, hf⟩ := ck_some hf
      refine va_iald hx hb hK hP 4 0 rfl rfl b53 dX7_person_53 ?_
      have e := so_some hf
      subst e
      exact ri hx hb hK hr hlk hQ dX7_person_54 hP hD hS
    · replace hf := it_f ck0 hf
      by_cases ck1 : x2 = (1 : Int32)
      · replace hf := it_t ck1 hf
        refine lv_tableIn (off := 40) (tgt := 55) hx hb dX7_person_15 (by rw [ck1]; decide) (by rw [ck1]; decide) (by rw [ck1]; decide) (by decide) ?_
        refine lv_aload_n hx hb dX7_person_55 rfl (lv_at hl 0 rfl) ?_
        refine va_get (D := D) (ci := 7) (v := .ref (a_t 4)) (C := RX7) (T := TX7) (N := 26) hx hb hts hinX7 hown hK hP 0 rfl rfl 4 (by decide) (hts (.fieldLink RX7 22 "OnlyStrangersHearModel" "figure" "[I") (by decide +kernel)) (fun _ h9 => h9) rfl dX7_person_56 ?_
        refine lv_iload_n hx hb dX7_person_59 rfl (lv_at hl 1 rfl) ?_
        obtain ⟨b60, hf⟩ := ck_some hf
        refine va_iald hx hb hK hP 5 0 rfl rfl b60 dX7_person_60 ?_
        have e := so_some hf
        subst e
        exact ri hx hb hK hr hlk hQ dX7_person_61 hP hD hS
      · replace hf := it_f ck1 hf
        by_cases ck2 : x2 = (2 : Int32)
        · replace hf := it_t ck2 hf
          refine lv_tableIn (off := 47) (tgt := 62) hx hb dX7_person_15 (by rw [ck2]; decide) (by rw [ck2]; decide) (by rw [ck2]; decide) (by decide) ?_
          refine lv_aload_n hx hb dX7_person_62 rfl (lv_at hl 0 rfl) ?_
          refine va_get (D := D) (ci := 7) (v := .ref (a_t 5)) (C := RX7) (T := TX7) (N := 26) hx hb hts hinX7 hown hK hP 0 rfl rfl 5 (by decide) (hts (.fieldLink RX7 25 "OnlyStrangersHearModel" "slept" "[I") (by decide +kernel)) (fun _ h9 => h9) rfl dX7_person_63 ?_
          refine lv_iload_n hx hb dX7_person_66 rfl (lv_at hl 1 rfl) ?_
          obtain ⟨b67, hf⟩ := ck_some hf
          refine va_iald hx hb hK hP 6 0 rfl rfl b67 dX7_person_67 ?_
          have e := so_some hf
          subst e
          exact ri hx hb hK hr hlk hQ dX7_person_68 hP hD hS
        · replace hf := it_f ck2 hf
          by_cases ck3 : x2 = (3 : Int32)
          · replace hf := it_t ck3 hf
            refine lv_tableIn (off := 54) (tgt := 69) hx hb dX7_person_15 (by rw [ck3]; decide) (by rw [ck3]; decide) (by rw [ck3]; decide) (by decide) ?_
            refine lv_aload_n hx hb dX7_person_69 rfl (lv_at hl 0 rfl) ?_
            refine va_get (D := D) (ci := 7) (v := .ref (a_t 6)) (C := RX7) (T := TX7) (N := 26) hx hb hts hinX7 hown hK hP 0 rfl rfl 6 (by decide) (hts (.fieldLink RX7 28 "OnlyStrangersHearModel" "away" "[I") (by decide +kernel)) (fun _ h9 => h9) rfl dX7_person_70 ?_
            refine lv_iload_n hx hb dX7_person_73 rfl (lv_at hl 1 rfl) ?_
            obtain ⟨b74, hf⟩ := ck_some hf
            refine va_iald hx hb hK hP 7 0 rfl rfl b74 dX7_person_74 ?_
            have e := so_some hf
            subst e
            exact ri hx hb hK hr hlk hQ dX7_person_75 hP hD hS
          · replace hf := it_f ck3 hf
            by_cases ck4 : x2 = (4 : Int32)
            · replace hf := it_t ck4 hf
              refine lv_tableIn (off := 61) (tgt := 76) hx hb dX7_person_15 (by rw [ck4]; decide) (by rw [ck4]; decide) (by rw [ck4]; decide) (by decide) ?_
              refine lv_aload_n hx hb dX7_person_76 rfl (lv_at hl 0 rfl) ?_
              refine lv_iload_n hx hb dX7_person_77 rfl (lv_at hl 1 rfl) ?_
              obtain ⟨r78, u78, h78, hf⟩ := bd_some hf
              refine calX0 (runV E0.b E0.n (As := [.int x1]) (rest := []) ⟨hx, hb, hml, hown, hts⟩ (c_X7_nightsOf l D cI o_t a_t u2 x1 _ h78) gX7_person_X7_nightsOf rfl rfl rfl hdX7_nightsOf ⟨by decide, by decide⟩ hK hP hD 0 rfl rfl rfl hl.1 rfl (Nat.le_of_ble_eq_true rfl) dX7_person_78 ⟨Nat.zero_le _, Nat.zero_le _⟩) hD hS hA (fun H locs hP hD hS => ?_)
              have hP : va_P D vwCl (gX7 o_t a_t cI u78) H := hP
              have hD : va_D A (gX7 o_t a_t cI u78) := hD
              refine W.eq (g2 := F0 m 81 ls [.int r78]) rfl ?_
              have e := so_some hf
              subst e
              exact ri hx hb hK hr hlk hQ dX7_person_81 hP hD hS
            · replace hf := it_f ck4 hf
              by_cases clo : x2.toInt < 0
              · refine lv_tableOut (tgt := 82) hx hb dX7_person_15 (Or.inl clo) (by decide) ?_
                refine lv_aload_n hx hb dX7_person_82 rfl (lv_at hl 0 rfl) ?_
                refine lv_bipush (v := (-2 : Int32)) hx hb dX7_person_83 (by decide) ?_
                obtain ⟨r85, u85, h85, hf⟩ := bd_some hf
                refine calX0 (runV E0.b E0.n (As := [.int (-2 : Int32)]) (rest := []) ⟨hx, hb, hml, hown, hts⟩ (c_X7_no l D cI o_t a_t u2 (-2 : Int32) _ h85) gX7_person_X7_no rfl rfl rfl hdX7_no ⟨by decide, by decide⟩ hK hP hD 0 rfl rfl rfl hl.1 rfl (Nat.le_of_ble_eq_true rfl) dX7_person_85 ⟨Nat.zero_le _, Nat.zero_le _⟩) hD hS hA (fun H locs hP hD hS => ?_)
                have hP : va_P D vwCl (gX7 o_t a_t cI u85) H := hP
                have hD : va_D A (gX7 o_t a_t cI u85) := hD
                refine W.eq (g2 := F0 m 88 ls [.int r85]) rfl ?_
                have e := so_some hf
                subst e
                exact ri hx hb hK hr hlk hQ dX7_person_88 hP hD hS
              by_cases chi : 4 < x2.toInt
              · refine lv_tableOut (tgt := 82) hx hb dX7_person_15 (Or.inr chi) (by decide) ?_
                refine lv_aload_n hx hb dX7_person_82 rfl (lv_at hl 0 rfl) ?_
                refine lv_bipush (v := (-2 : Int32)) hx hb dX7_person_83 (by decide) ?_
                obtain ⟨r85, u85, h85, hf⟩ := bd_some hf
                refine calX0 (runV E0.b E0.n (As := [.int (-2 : Int32)]) (rest := []) ⟨hx, hb, hml, hown, hts⟩ (c_X7_no l D cI o_t a_t u2 (-2 : Int32) _ h85) gX7_person_X7_no rfl rfl rfl hdX7_no ⟨by decide, by decide⟩ hK hP hD 0 rfl rfl rfl hl.1 rfl (Nat.le_of_ble_eq_true rfl) dX7_person_85 ⟨Nat.zero_le _, Nat.zero_le _⟩) hD hS hA (fun H locs hP hD hS => ?_)
                have hP : va_P D vwCl (gX7 o_t a_t cI u85) H := hP
                have hD : va_D A (gX7 o_t a_t cI u85) := hD
                refine W.eq (g2 := F0 m 88 ls [.int r85]) rfl ?_
                have e := so_some hf
                subst e
                exact ri hx hb hK hr hlk hQ dX7_person_88 hP hD hS
              exact (sw_no (x := x2) (lo := 0) (hi := 4) clo chi (ks := [0, 1, 2, 3, 4]) (by decide) (List.forall_mem_cons.mpr ⟨lv_neT (k := 0) (a := 0) ck0 (by decide), (List.forall_mem_cons.mpr ⟨lv_neT (k := 1) (a := 1) ck1 (by decide), (List.forall_mem_cons.mpr ⟨lv_neT (k := 2) (a := 2) ck2 (by decide), (List.forall_mem_cons.mpr ⟨lv_neT (k := 3) (a := 3) ck3 (by decide), (List.forall_mem_cons.mpr ⟨lv_neT (k := 4) (a := 4) ck4 (by decide), (fun _ h => absurd h List.not_mem_nil)⟩)⟩)⟩)⟩)⟩)).elim
  · replace hf := it_t c5 hf
    refine lv_aload_n hx hb dX7_person_8 rfl (lv_at hl 0 rfl) ?_
    refine lv_iconst (v := (-1 : Int32)) hx hb dX7_person_9 (by decide) ?_
    obtain ⟨r10, u10, h10, hf⟩ := bd_some hf
    refine calX0 (runV E0.b E0.n (As := [.int (-1 : Int32)]) (rest := []) ⟨hx, hb, hml, hown, hts⟩ (c_X7_no l D cI o_t a_t u2 (-1 : Int32) _ h10) gX7_person_X7_no rfl rfl rfl hdX7_no ⟨by decide, by decide⟩ hK hP hD 0 rfl rfl rfl hl.1 rfl (Nat.le_of_ble_eq_true rfl) dX7_person_10 ⟨Nat.zero_le _, Nat.zero_le _⟩) hD hS hA (fun H locs hP hD hS => ?_)
    have hP : va_P D vwCl (gX7 o_t a_t cI u10) H := hP
    have hD : va_D A (gX7 o_t a_t cI u10) := hD
    refine W.eq (g2 := F0 m 13 ls [.int r10]) rfl ?_
    have e := so_some hf
    subst e
    exact ri hx hb hK hr hlk hQ dX7_person_13 hP hD hS
abbrev rmX7_says : Room := { frames := 3, cells := 0, slots := 0, locals := 65 }
set_option maxHeartbeats 4000000 in
set_option maxRecDepth 100000 in
theorem c_X7_says (l : Launch) (D : va_G) (cI : ClassId) (o_t : Nat) (a_t : Nat → Nat) (S_t : G) (x1 : Int32) (x2 : Int32) (out : Int32 × G) (hf : f_X7_says S_t x1 x2 = some out) : Cn E0 l yX7_says wsX7_says rmX7_says D cI [.ref o_t, .int x1, .int x2] (gX7 o_t a_t cI S_t) (some (.int out.1)) (gX7 o_t a_t cI out.2) := by
  refine Cn.mk (cc := cX7_says) (maxL := 3) (ret := (some .int)) (by decide) rfl (Nat.le_of_ble_eq_true rfl) ?_
  intro p e s m below meth c A ls Q hx hb hml hown hts hK hA hP hD hS hl hr hlk hnm hE hQ
  have hown : s.vm.findClass RX7 = some m.cls := hown
  have j25 : ∀ (S_t : G) (H : Heap) (locs : List Loc) (ls : Array Slot), f_X7_says_25 S_t = some out → va_P D vwCl (gX7 o_t a_t cI S_t) H → va_D A (gX7 o_t a_t cI S_t) → va_S A s.heap H locs → lv_has ls 3 [(0, .ref o_t)] → W p l e rmX7_says s m ([.ref o_t, .int x1, .int x2] : List Value).toArray below meth c H locs 0 0 Q (F0 m 25 ls []) := by
    intro S_t H locs ls hf hP hD hS hl
    unfold f_X7_says_25 at hf
    refine lv_aload_n hx hb dX7_says_25 rfl (lv_at hl 0 rfl) ?_
    refine lv_iconst (v := (-1 : Int32)) hx hb dX7_says_26 (by decide) ?_
    obtain ⟨r27, u27, h27, hf⟩ := bd_some hf
    refine calX0 (runV E0.b E0.n (As := [.int (-1 : Int32)]) (rest := []) ⟨hx, hb, hml, hown, hts⟩ (c_X7_no l D cI o_t a_t S_t (-1 : Int32) _ h27) gX7_says_X7_no rfl rfl rfl hdX7_no ⟨by decide, by decide⟩ hK hP hD 0 rfl rfl rfl hl.1 rfl (Nat.le_of_ble_eq_true rfl) dX7_says_27 ⟨Nat.zero_le _, Nat.zero_le _⟩) hD hS hA (fun H locs hP hD hS => ?_)
    have hP : va_P D vwCl (gX7 o_t a_t cI u27) H := hP
    have hD : va_D A (gX7 o_t a_t cI u27) := hD
    refine W.eq (g2 := F0 m 30 ls [.int r27]) rfl ?_
    have e := so_some hf
    subst e
    exact ri hx hb hK hr hlk hQ dX7_says_30 hP hD hS
  unfold f_X7_says at hf
  have hl : lv_has ls 3 [(0, .ref o_t), (1, .int x1), (2, .int x2)] := hl
  obtain ⟨H, hHe⟩ : ∃ H : Heap, H = s.heap := ⟨_, rfl⟩
  obtain ⟨locs, hle⟩ : ∃ q : List Loc, q = [] := ⟨_, rfl⟩
  have hS : va_S A s.heap H locs := by rw [hHe, hle]; exact hS
  rw [← hHe] at hP
  suffices hgo : W p l e rmX7_says s m ([.ref o_t, .int x1, .int x2] : List Value).toArray below meth c H locs 0 0 Q (F0 m 0 ls []) by rw [hHe, hle] at hgo; exact hgo
  clear hHe hle
  refine lv_aload_n hx hb dX7_says_0 rfl (lv_at hl 0 rfl) ?_
  refine lv_iload_n hx hb dX7_says_1 rfl (lv_at hl 1 rfl) ?_
  obtain ⟨r2, u2, h2, hf⟩ := bd_some hf
  refine calX0 (runV E0.b E0.n (As := [.int x1]) (rest := []) ⟨hx, hb, hml, hown, hts⟩ (c_X7_isOne l D cI o_t a_t S_t x1 _ h2) gX7_says_X7_isOne rfl rfl rfl hdX7_isOne ⟨by decide, by decide⟩ hK hP hD 0 rfl rfl rfl hl.1 rfl (Nat.le_of_ble_eq_true rfl) dX7_says_2 ⟨Nat.zero_le _, Nat.zero_le _⟩) hD hS hA (fun H locs hP hD hS => ?_)
  have hP : va_P D vwCl (gX7 o_t a_t cI u2) H := hP
  have hD : va_D A (gX7 o_t a_t cI u2) := hD
  refine W.eq (g2 := F0 m 5 ls [.int r2]) rfl ?_
  refine lv_if_eq (tgt := 25) hx hb dX7_says_5 (by decide) (fun c5 => ?_) (fun c5 => ?_)
  · replace hf := it_t c5 hf
    exact j25 u2 H locs ls hf hP hD hS (lv_sub hl [0] rfl)
  · replace hf := it_f c5 hf
    refine lv_aload_n hx hb dX7_says_8 rfl (lv_at hl 0 rfl) ?_
    refine lv_iload_n hx hb dX7_says_9 rfl (lv_at hl 2 rfl) ?_
    obtain ⟨r10, u10, h10, hf⟩ := bd_some hf
    refine calX0 (runV E0.b E0.n (As := [.int x2]) (rest := []) ⟨hx, hb, hml, hown, hts⟩ (c_X7_isBell l D cI o_t a_t u2 x2 _ h10) gX7_says_X7_isBell rfl rfl rfl hdX7_isBell ⟨by decide, by decide⟩ hK hP hD 0 rfl rfl rfl hl.1 rfl (Nat.le_of_ble_eq_true rfl) dX7_says_10 ⟨Nat.zero_le _, Nat.zero_le _⟩) hD hS hA (fun H locs hP hD hS => ?_)
    have hP : va_P D vwCl (gX7 o_t a_t cI u10) H := hP
    have hD : va_D A (gX7 o_t a_t cI u10) := hD
    refine W.eq (g2 := F0 m 13 ls [.int r10]) rfl ?_
    refine lv_if_eq (tgt := 25) hx hb dX7_says_13 (by decide) (fun c13 => ?_) (fun c13 => ?_)
    · replace hf := it_t c13 hf
      exact j25 u10 H locs ls hf hP hD hS (lv_sub hl [0] rfl)
    · replace hf := it_f c13 hf
      refine lv_aload_n hx hb dX7_says_16 rfl (lv_at hl 0 rfl) ?_
      refine lv_iload_n hx hb dX7_says_17 rfl (lv_at hl 1 rfl) ?_
      refine lv_iload_n hx hb dX7_says_18 rfl (lv_at hl 2 rfl) ?_
      obtain ⟨r19, u19, h19, hf⟩ := bd_some hf
      refine calX0 (runV E0.b E0.n (As := [.int x1, .int x2]) (rest := []) ⟨hx, hb, hml, hown, hts⟩ (c_X7_saysOf l D cI o_t a_t u10 x1 x2 _ h19) gX7_says_X7_saysOf rfl rfl rfl hdX7_saysOf ⟨by decide, by decide⟩ hK hP hD 0 rfl rfl rfl hl.1 rfl (Nat.le_of_ble_eq_true rfl) dX7_says_19 ⟨Nat.zero_le _, Nat.zero_le _⟩) hD hS hA (fun H locs hP hD hS => ?_)
      have hP : va_P D vwCl (gX7 o_t a_t cI u19) H := hP
      have hD : va_D A (gX7 o_t a_t cI u19) := hD
      refine W.eq (g2 := F0 m 22 ls [.int r19]) rfl ?_
      refine lv_goto (tgt := 30) hx hb dX7_says_22 (by decide) ?_
      have e := so_some hf
      subst e
      exact ri hx hb hK hr hlk hQ dX7_says_30 hP hD hS
abbrev rmX7_becomes_s6 : Room := { frames := 1, cells := 0, slots := 0, locals := 22 }
set_option maxHeartbeats 4000000 in
set_option maxRecDepth 100000 in
theorem c_X7_becomes_s6 (l : Launch) (D : va_G) (cI : ClassId) (o_t : Nat) (a_t : Nat → Nat) (S_t : G) (x2 : Int32) (x3 : Int32) (x4 : Int32) (out : Int32 × G) (hf : f_X7_becomes_s6 S_t x2 x3 x4 = some out) : Cn E0 l yX7_becomes wsX7_becomes rmX7_becomes_s6 D cI [.ref o_t, .ref (a_t 6), .int x2, .int x3, .int x4] (gX7 o_t a_t cI S_t) (some (.int out.1)) (gX7 o_t a_t cI out.2) := by
  refine Cn.mk (cc := cX7_becomes) (maxL := 7) (ret := (some .int)) (by decide) rfl (Nat.le_of_ble_eq_true rfl) ?_
  intro p e s m below meth c A ls Q hx hb hml hown hts hK hA hP hD hS hl hr hlk hnm hE hQ
  have hown : s.vm.findClass RX7 = some m.cls := hown
  have j19 : ∀ (S_t : G) (l2 : Int32) (l3 : Int32) (s0 : Int32) (H : Heap) (locs : List Loc) (ls : Array Slot), f_X7_becomes_s6_19 S_t l2 l3 s0 = some out → va_P D vwCl (gX7 o_t a_t cI S_t) H → va_D A (gX7 o_t a_t cI S_t) → va_S A s.heap H locs → lv_has ls 7 [(0, .ref o_t), (1, .ref (a_t 6)), (2, .int l2), (3, .int l3)] → W p l e rmX7_becomes_s6 s m ([.ref o_t, .ref (a_t 6), .int x2, .int x3, .int x4] : List Value).toArray below meth c H locs 0 0 Q (F0 m 19 ls [.int s0]) := by
    intro S_t l2 l3 s0 H locs ls hf hP hD hS hl
    unfold f_X7_becomes_s6_19 at hf
    refine lv_istore (lv' := [(5, .int s0), (0, .ref o_t), (1, .ref (a_t 6)), (2, .int l2), (3, .int l3)]) hx hb dX7_becomes_19 hl (by decide) rfl (fun ls hl => ?_)
    refine lv_iload hx hb dX7_becomes_21 (lv_at hl 0 rfl) ?_
    refine lv_if_eq (tgt := 33) hx hb dX7_becomes_23 (by decide) (fun c23 => ?_) (fun c23 => ?_)
    · replace hf := it_t c23 hf
      refine lv_aload_n hx hb dX7_becomes_33 rfl (lv_at hl 2 rfl) ?_
      refine lv_iload_n hx hb dX7_becomes_34 rfl (lv_at hl 3 rfl) ?_
      obtain ⟨b35, hf⟩ := ck_some hf
      refine va_iald hx hb hK hP 7 0 rfl rfl b35 dX7_becomes_35 ?_
      refine lv_istore (lv' := [(6, .int (S_t.2 6 l2.toNatClampNeg)), (5, .int s0), (0, .ref o_t), (1, .ref (a_t 6)), (2, .int l2), (3, .int l3)]) hx hb dX7_becomes_36 hl (by decide) rfl (fun ls hl => ?_)
      refine lv_aload_n hx hb dX7_becomes_38 rfl (lv_at hl 3 rfl) ?_
      refine lv_iload_n hx hb dX7_becomes_39 rfl (lv_at hl 4 rfl) ?_
      refine lv_iload_n hx hb dX7_becomes_40 rfl (lv_at hl 5 rfl) ?_
      obtain ⟨b41, hf⟩ := ck_some hf
      refine va_iast hx hb hK hP hD hS 7 0 rfl rfl b41 dX7_becomes_41 (fun H locs hP hD hS => ?_)
      have hP : va_P D vwCl (gX7 o_t a_t cI (pA S_t 6 l2.toNatClampNeg l3)) H := hP
      have hD : va_D A (gX7 o_t a_t cI (pA S_t 6 l2.toNatClampNeg l3)) := hD
      obtain ⟨g41, e41, hf⟩ := lt_some hf
      rw [← e41] at hP hD
      refine lv_iload hx hb dX7_becomes_42 (lv_at hl 0 rfl) ?_
      have e := so_some hf
      subst e
      exact ri hx hb hK hr hlk hQ dX7_becomes_44 hP hD hS
    · replace hf := it_f c23 hf
      refine lv_aload_n hx hb dX7_becomes_26 rfl (lv_at hl 1 rfl) ?_
      refine lv_iload hx hb dX7_becomes_27 (lv_at hl 0 rfl) ?_
      obtain ⟨r29, u29, h29, hf⟩ := bd_some hf
      refine calX0 (runV E0.b E0.n (As := [.int s0]) (rest := []) ⟨hx, hb, hml, hown, hts⟩ (c_X7_no l D cI o_t a_t S_t s0 _ h29) gX7_becomes_X7_no rfl rfl rfl hdX7_no ⟨by decide, by decide⟩ hK hP hD 0 rfl rfl rfl hl.1 rfl (Nat.le_of_ble_eq_true rfl) dX7_becomes_29 ⟨Nat.zero_le _, Nat.zero_le _⟩) hD hS hA (fun H locs hP hD hS => ?_)
      have hP : va_P D vwCl (gX7 o_t a_t cI u29) H := hP
      have hD : va_D A (gX7 o_t a_t cI u29) := hD
      refine W.eq (g2 := F0 m 32 ls [.int r29]) rfl ?_
      have e := so_some hf
      subst e
      exact ri hx hb hK hr hlk hQ dX7_becomes_32 hP hD hS
  unfold f_X7_becomes_s6 at hf
  have hl : lv_has ls 7 [(0, .ref o_t), (1, .ref (a_t 6)), (2, .int x2), (3, .int x3), (4, .int x4)] := hl
  obtain ⟨H, hHe⟩ : ∃ H : Heap, H = s.heap := ⟨_, rfl⟩
  obtain ⟨locs, hle⟩ : ∃ q : List Loc, q = [] := ⟨_, rfl⟩
  have hS : va_S A s.heap H locs := by rw [hHe, hle]; exact hS
  rw [← hHe] at hP
  suffices hgo : W p l e rmX7_becomes_s6 s m ([.ref o_t, .ref (a_t 6), .int x2, .int x3, .int x4] : List Value).toArray below meth c H locs 0 0 Q (F0 m 0 ls []) by rw [hHe, hle] at hgo; exact hgo
  clear hHe hle
  refine lv_aload_n hx hb dX7_becomes_0 rfl (lv_at hl 0 rfl) ?_
  refine lv_iload_n hx hb dX7_becomes_1 rfl (lv_at hl 2 rfl) ?_
  obtain ⟨r2, u2, h2, hf⟩ := bd_some hf
  refine calX0 (runV E0.b E0.n (As := [.int x2]) (rest := []) ⟨hx, hb, hml, hown, hts⟩ (c_X7_isOne l D cI o_t a_t S_t x2 _ h2) gX7_becomes_X7_isOne rfl rfl rfl hdX7_isOne ⟨by decide, by decide⟩ hK hP hD 0 rfl rfl rfl hl.1 rfl (Nat.le_of_ble_eq_true rfl) dX7_becomes_2 ⟨Nat.zero_le _, Nat.zero_le _⟩) hD hS hA (fun H locs hP hD hS => ?_)
  have hP : va_P D vwCl (gX7 o_t a_t cI u2) H := hP
  have hD : va_D A (gX7 o_t a_t cI u2) := hD
  refine W.eq (g2 := F0 m 5 ls [.int r2]) rfl ?_
  refine lv_if_ne (tgt := 12) hx hb dX7_becomes_5 (by decide) (fun c5 => ?_) (fun c5 => ?_)
  · replace hf := it_f c5 hf
    refine lv_iload_n hx hb dX7_becomes_12 rfl (lv_at hl 3 rfl) ?_
    refine lv_iconst (v := (0 : Int32)) hx hb dX7_becomes_13 (by decide) ?_
    refine lv_iload hx hb dX7_becomes_14 (lv_at hl 4 rfl) ?_
    obtain ⟨r16, u16, h16, hf⟩ := bd_some hf
    have hPc : va_P D vwCl [] H := hP.sub (ws' := []) [] rfl
    have hDc : va_D A [] := hD.sub (ws' := []) [] (by decide) rfl
    refine calXe (runS E0.b E0.n (As := [.int x3, .int (0 : Int32), .int x4]) (rest := []) ⟨hx, hb, hml, hown, hts⟩ (c_X7_bound l D cI x3 (0 : Int32) x4 _ h16) gX7_becomes_X7_bound rfl rfl rfl hdX7_bound ⟨by decide, by decide⟩ hK hPc hDc rfl hl.1 rfl (Nat.le_of_ble_eq_true rfl) dX7_becomes_16 ⟨Nat.zero_le _, Nat.zero_le _⟩) hP hD hS hA (fun H locs hP hD hS => ?_)
    have hP : va_P D vwCl (gX7 o_t a_t cI u2) H := hP
    have hD : va_D A (gX7 o_t a_t cI u2) := hD
    refine W.eq (g2 := F0 m 19 ls [.int r16]) rfl ?_
    exact j19 u2 x2 x3 r16 H locs ls hf hP hD hS (lv_sub hl [0, 1, 2, 3] rfl)
  · replace hf := it_t c5 hf
    refine lv_iconst (v := (-1 : Int32)) hx hb dX7_becomes_8 (by decide) ?_
    refine lv_goto (tgt := 19) hx hb dX7_becomes_9 (by decide) ?_
    exact j19 u2 x2 x3 (-1 : Int32) H locs ls hf hP hD hS (lv_sub hl [0, 1, 2, 3] rfl)
abbrev rmX7_becomes_s5 : Room := { frames := 1, cells := 0, slots := 0, locals := 22 }
set_option maxHeartbeats 4000000 in
set_option maxRecDepth 100000 in
theorem c_X7_becomes_s5 (l : Launch) (D : va_G) (cI : ClassId) (o_t : Nat) (a_t : Nat → Nat) (S_t : G) (x2 : Int32) (x3 : Int32) (x4 : Int32) (out : Int32 × G) (hf : f_X7_becomes_s5 S_t x2 x3 x4 = some out) : Cn E0 l yX7_becomes wsX7_becomes rmX7_becomes_s5 D cI [.ref o_t, .ref (a_t 5), .int x2, .int x3, .int x4] (gX7 o_t a_t cI S_t) (some (.int out.1)) (gX7 o_t a_t cI out.2) := by
  refine Cn.mk (cc := cX7_becomes) (maxL := 7) (ret := (some .int)) (by decide) rfl (Nat.le_of_ble_eq_true rfl) ?_
  intro p e s m below meth c A ls Q hx hb hml hown hts hK hA hP hD hS hl hr hlk hnm hE hQ
  have hown : s.vm.findClass RX7 = some m.cls := hown
  have j19 : ∀ (S_t : G) (l2 : Int32) (l3 : Int32) (s0 : Int32) (H : Heap) (locs : List Loc) (ls : Array Slot), f_X7_becomes_s5_19 S_t l2 l3 s0 = some out → va_P D vwCl (gX7 o_t a_t cI S_t) H → va_D A (gX7 o_t a_t cI S_t) → va_S A s.heap H locs → lv_has ls 7 [(0, .ref o_t), (1, .ref (a_t 5)), (2, .int l2), (3, .int l3)] → W p l e rmX7_becomes_s5 s m ([.ref o_t, .ref (a_t 5), .int x2, .int x3, .int x4] : List Value).toArray below meth c H locs 0 0 Q (F0 m 19 ls [.int s0]) := by
    intro S_t l2 l3 s0 H locs ls hf hP hD hS hl
    unfold f_X7_becomes_s5_19 at hf
    refine lv_istore (lv' := [(5, .int s0), (0, .ref o_t), (1, .ref (a_t 5)), (2, .int l2), (3, .int l3)]) hx hb dX7_becomes_19 hl (by decide) rfl (fun ls hl => ?_)
    refine lv_iload hx hb dX7_becomes_21 (lv_at hl 0 rfl) ?_
    refine lv_if_eq (tgt := 33) hx hb dX7_becomes_23 (by decide) (fun c23 => ?_) (fun c23 => ?_)
    · replace hf := it_t c23 hf
      refine lv_aload_n hx hb dX7_becomes_33 rfl (lv_at hl 2 rfl) ?_
      refine lv_iload_n hx hb dX7_becomes_34 rfl (lv_at hl 3 rfl) ?_
      obtain ⟨b35, hf⟩ := ck_some hf
      refine va_iald hx hb hK hP 6 0 rfl rfl b35 dX7_becomes_35 ?_
      refine lv_istore (lv' := [(6, .int (S_t.2 5 l2.toNatClampNeg)), (5, .int s0), (0, .ref o_t), (1, .ref (a_t 5)), (2, .int l2), (3, .int l3)]) hx hb dX7_becomes_36 hl (by decide) rfl (fun ls hl => ?_)
      refine lv_aload_n hx hb dX7_becomes_38 rfl (lv_at hl 3 rfl) ?_
      refine lv_iload_n hx hb dX7_becomes_39 rfl (lv_at hl 4 rfl) ?_
      refine lv_iload_n hx hb dX7_becomes_40 rfl (lv_at hl 5 rfl) ?_
      obtain ⟨b41, hf⟩ := ck_some hf
      refine va_iast hx hb hK hP hD hS 6 0 rfl rfl b41 dX7_becomes_41 (fun H locs hP hD hS => ?_)
      have hP : va_P D vwCl (gX7 o_t a_t cI (pA S_t 5 l2.toNatClampNeg l3)) H := hP
      have hD : va_D A (gX7 o_t a_t cI (pA S_t 5 l2.toNatClampNeg l3)) := hD
      obtain ⟨g41, e41, hf⟩ := lt_some hf
      rw [← e41] at hP hD
      refine lv_iload hx hb dX7_becomes_42 (lv_at hl 0 rfl) ?_
      have e := so_some hf
      subst e
      exact ri hx hb hK hr hlk hQ dX7_becomes_44 hP hD hS
    · replace hf := it_f c23 hf
      refine lv_aload_n hx hb dX7_becomes_26 rfl (lv_at hl 1 rfl) ?_
      refine lv_iload hx hb dX7_becomes_27 (lv_at hl 0 rfl) ?_
      obtain ⟨r29, u29, h29, hf⟩ := bd_some hf
      refine calX0 (runV E0.b E0.n (As := [.int s0]) (rest := []) ⟨hx, hb, hml, hown, hts⟩ (c_X7_no l D cI o_t a_t S_t s0 _ h29) gX7_becomes_X7_no rfl rfl rfl hdX7_no ⟨by decide, by decide⟩ hK hP hD 0 rfl rfl rfl hl.1 rfl (Nat.le_of_ble_eq_true rfl) dX7_becomes_29 ⟨Nat.zero_le _, Nat.zero_le _⟩) hD hS hA (fun H locs hP hD hS => ?_)
      have hP : va_P D vwCl (gX7 o_t a_t cI u29) H := hP
      have hD : va_D A (gX7 o_t a_t cI u29) := hD
      refine W.eq (g2 := F0 m 32 ls [.int r29]) rfl ?_
      have e := so_some hf
      subst e
      exact ri hx hb hK hr hlk hQ dX7_becomes_32 hP hD hS
  unfold f_X7_becomes_s5 at hf
  have hl : lv_has ls 7 [(0, .ref o_t), (1, .ref (a_t 5)), (2, .int x2), (3, .int x3), (4, .int x4)] := hl
  obtain ⟨H, hHe⟩ : ∃ H : Heap, H = s.heap := ⟨_, rfl⟩
  obtain ⟨locs, hle⟩ : ∃ q : List Loc, q = [] := ⟨_, rfl⟩
  have hS : va_S A s.heap H locs := by rw [hHe, hle]; exact hS
  rw [← hHe] at hP
  suffices hgo : W p l e rmX7_becomes_s5 s m ([.ref o_t, .ref (a_t 5), .int x2, .int x3, .int x4] : List Value).toArray below meth c H locs 0 0 Q (F0 m 0 ls []) by rw [hHe, hle] at hgo; exact hgo
  clear hHe hle
  refine lv_aload_n hx hb dX7_becomes_0 rfl (lv_at hl 0 rfl) ?_
  refine lv_iload_n hx hb dX7_becomes_1 rfl (lv_at hl 2 rfl) ?_
  obtain ⟨r2, u2, h2, hf⟩ := bd_some hf
  refine calX0 (runV E0.b E0.n (As := [.int x2]) (rest := []) ⟨hx, hb, hml, hown, hts⟩ (c_X7_isOne l D cI o_t a_t S_t x2 _ h2) gX7_becomes_X7_isOne rfl rfl rfl hdX7_isOne ⟨by decide, by decide⟩ hK hP hD 0 rfl rfl rfl hl.1 rfl (Nat.le_of_ble_eq_true rfl) dX7_becomes_2 ⟨Nat.zero_le _, Nat.zero_le _⟩) hD hS hA (fun H locs hP hD hS => ?_)
  have hP : va_P D vwCl (gX7 o_t a_t cI u2) H := hP
  have hD : va_D A (gX7 o_t a_t cI u2) := hD
  refine W.eq (g2 := F0 m 5 ls [.int r2]) rfl ?_
  refine lv_if_ne (tgt := 12) hx hb dX7_becomes_5 (by decide) (fun c5 => ?_) (fun c5 => ?_)
  · replace hf := it_f c5 hf
    refine lv_iload_n hx hb dX7_becomes_12 rfl (lv_at hl 3 rfl) ?_
    refine lv_iconst (v := (0 : Int32)) hx hb dX7_becomes_13 (by decide) ?_
    refine lv_iload hx hb dX7_becomes_14 (lv_at hl 4 rfl) ?_
    obtain ⟨r16, u16, h16, hf⟩ := bd_some hf
    have hPc : va_P D vwCl [] H := hP.sub (ws' := []) [] rfl
    have hDc : va_D A [] := hD.sub (ws' := []) [] (by decide) rfl
    refine calXe (runS E0.b E0.n (As := [.int x3, .int (0 : Int32), .int x4]) (rest := []) ⟨hx, hb, hml, hown, hts⟩ (c_X7_bound l D cI x3 (0 : Int32) x4 _ h16) gX7_becomes_X7_bound rfl rfl rfl hdX7_bound ⟨by decide, by decide⟩ hK hPc hDc rfl hl.1 rfl (Nat.le_of_ble_eq_true rfl) dX7_becomes_16 ⟨Nat.zero_le _, Nat.zero_le _⟩) hP hD hS hA (fun H locs hP hD hS => ?_)
    have hP : va_P D vwCl (gX7 o_t a_t cI u2) H := hP
    have hD : va_D A (gX7 o_t a_t cI u2) := hD
    refine W.eq (g2 := F0 m 19 ls [.int r16]) rfl ?_
    exact j19 u2 x2 x3 r16 H locs ls hf hP hD hS (lv_sub hl [0, 1, 2, 3] rfl)
  · replace hf := it_t c5 hf
    refine lv_iconst (v := (-1 : Int32)) hx hb dX7_becomes_8 (by decide) ?_
    refine lv_goto (tgt := 19) hx hb dX7_becomes_9 (by decide) ?_
    exact j19 u2 x2 x3 (-1 : Int32) H locs ls hf hP hD hS (lv_sub hl [0, 1, 2, 3] rfl)
abbrev rmX7_goes : Room := { frames := 2, cells := 0, slots := 0, locals := 48 }
set_option maxHeartbeats 4000000 in
set_option maxRecDepth 100000 in
theorem c_X7_goes (l : Launch) (D : va_G) (cI : ClassId) (o_t : Nat) (a_t : Nat → Nat) (S_t : G) (x1 : Int32) (x2 : Int32) (out : Int32 × G) (hf : f_X7_goes S_t x1 x2 = some out) : Cn E0 l yX7_goes wsX7_goes rmX7_goes D cI [.ref o_t, .int x1, .int x2] (gX7 o_t a_t cI S_t) (some (.int out.1)) (gX7 o_t a_t cI out.2) := by
  refine Cn.mk (cc := cX7_goes) (maxL := 3) (ret := (some .int)) (by decide) rfl (Nat.le_of_ble_eq_true rfl) ?_
  intro p e s m below meth c A ls Q hx hb hml hown hts hK hA hP hD hS hl hr hlk hnm hE hQ
  have hown : s.vm.findClass RX7 = some m.cls := hown
  have hinX7 : ∀ w ∈ u_ws RX7 TX7 26, w ∈ wsX7_goes := by decide +kernel
  unfold f_X7_goes at hf
  have hl : lv_has ls 3 [(0, .ref o_t), (1, .int x1), (2, .int x2)] := hl
  obtain ⟨H, hHe⟩ : ∃ H : Heap, H = s.heap := ⟨_, rfl⟩
  obtain ⟨locs, hle⟩ : ∃ q : List Loc, q = [] := ⟨_, rfl⟩
  have hS : va_S A s.heap H locs := by rw [hHe, hle]; exact hS
  rw [← hHe] at hP
  suffices hgo : W p l e rmX7_goes s m ([.ref o_t, .int x1, .int x2] : List Value).toArray below meth c H locs 0 0 Q (F0 m 0 ls []) by rw [hHe, hle] at hgo; exact hgo
  clear hHe hle
  refine lv_aload_n hx hb dX7_goes_0 rfl (lv_at hl 0 rfl) ?_
  refine lv_aload_n hx hb dX7_goes_1 rfl (lv_at hl 0 rfl) ?_
  refine va_get (D := D) (ci := 7) (v := .ref (a_t 6)) (C := RX7) (T := TX7) (N := 26) hx hb hts hinX7 hown hK hP 0 rfl rfl 6 (by decide) (hts (.fieldLink RX7 28 "OnlyStrangersHearModel" "away" "[I") (by decide +kernel)) (fun _ h9 => h9) rfl dX7_goes_2 ?_
  refine lv_iload_n hx hb dX7_goes_5 rfl (lv_at hl 1 rfl) ?_
  refine lv_iload_n hx hb dX7_goes_6 rfl (lv_at hl 2 rfl) ?_
  refine lv_bipush (v := (9 : Int32)) hx hb dX7_goes_7 (by decide) ?_
  obtain ⟨r9, u9, h9, hf⟩ := bd_some hf
  refine calX0 (runV E0.b E0.n (As := [.ref (a_t 6), .int x1, .int x2, .int (9 : Int32)]) (rest := []) ⟨hx, hb, hml, hown, hts⟩ (c_X7_becomes_s6 l D cI o_t a_t S_t x1 x2 (9 : Int32) _ h9) gX7_goes_X7_becomes rfl rfl rfl hdX7_becomes ⟨by decide, by decide⟩ hK hP hD 0 rfl rfl rfl hl.1 rfl (Nat.le_of_ble_eq_true rfl) dX7_goes_9 ⟨Nat.zero_le _, Nat.zero_le _⟩) hD hS hA (fun H locs hP hD hS => ?_)
  have hP : va_P D vwCl (gX7 o_t a_t cI u9) H := hP
  have hD : va_D A (gX7 o_t a_t cI u9) := hD
  refine W.eq (g2 := F0 m 12 ls [.int r9]) rfl ?_
  have e := so_some hf
  subst e
  exact ri hx hb hK hr hlk hQ dX7_goes_12 hP hD hS
abbrev rmX7_sleeps : Room := { frames := 2, cells := 0, slots := 0, locals := 48 }
set_option maxHeartbeats 4000000 in
set_option maxRecDepth 100000 in
theorem c_X7_sleeps (l : Launch) (D : va_G) (cI : ClassId) (o_t : Nat) (a_t : Nat → Nat) (S_t : G) (x1 : Int32) (x2 : Int32) (out : Int32 × G) (hf : f_X7_sleeps S_t x1 x2 = some out) : Cn E0 l yX7_sleeps wsX7_sleeps rmX7_sleeps D cI [.ref o_t, .int x1, .int x2] (gX7 o_t a_t cI S_t) (some (.int out.1)) (gX7 o_t a_t cI out.2) := by
  refine Cn.mk (cc := cX7_sleeps) (maxL := 3) (ret := (some .int)) (by decide) rfl (Nat.le_of_ble_eq_true rfl) ?_
  intro p e s m below meth c A ls Q hx hb hml hown hts hK hA hP hD hS hl hr hlk hnm hE hQ
  have hown : s.vm.findClass RX7 = some m.cls := hown
  have hinX7 : ∀ w ∈ u_ws RX7 TX7 26, w ∈ wsX7_sleeps := by decide +kernel
  unfold f_X7_sleeps at hf
  have hl : lv_has ls 3 [(0, .ref o_t), (1, .int x1), (2, .int x2)] := hl
  obtain ⟨H, hHe⟩ : ∃ H : Heap, H = s.heap := ⟨_, rfl⟩
  obtain ⟨locs, hle⟩ : ∃ q : List Loc, q = [] := ⟨_, rfl⟩
  have hS : va_S A s.heap H locs := by rw [hHe, hle]; exact hS
  rw [← hHe] at hP
  suffices hgo : W p l e rmX7_sleeps s m ([.ref o_t, .int x1, .int x2] : List Value).toArray below meth c H locs 0 0 Q (F0 m 0 ls []) by rw [hHe, hle] at hgo; exact hgo
  clear hHe hle
  refine lv_aload_n hx hb dX7_sleeps_0 rfl (lv_at hl 0 rfl) ?_
  refine lv_aload_n hx hb dX7_sleeps_1 rfl (lv_at hl 0 rfl) ?_
  refine va_get (D := D) (ci := 7) (v := .ref (a_t 5)) (C := RX7) (T := TX7) (N := 26) hx hb hts hinX7 hown hK hP 0 rfl rfl 5 (by decide) (hts (.fieldLink RX7 25 "OnlyStrangersHearModel" "slept" "[I") (by decide +kernel)) (fun _ h9 => h9) rfl dX7_sleeps_2 ?_
  refine lv_iload_n hx hb dX7_sleeps_5 rfl (lv_at hl 1 rfl) ?_
  refine lv_iload_n hx hb dX7_sleeps_6 rfl (lv_at hl 2 rfl) ?_
  refine lv_bipush (v := (99 : Int32)) hx hb dX7_sleeps_7 (by decide) ?_
  obtain ⟨r9, u9, h9, hf⟩ := bd_some hf
  refine calX0 (runV E0.b E0.n (As := [.ref (a_t 5), .int x1, .int x2, .int (99 : Int32)]) (rest := []) ⟨hx, hb, hml, hown, hts⟩ (c_X7_becomes_s5 l D cI o_t a_t S_t x1 x2 (99 : Int32) _ h9) gX7_sleeps_X7_becomes rfl rfl rfl hdX7_becomes ⟨by decide, by decide⟩ hK hP hD 0 rfl rfl rfl hl.1 rfl (Nat.le_of_ble_eq_true rfl) dX7_sleeps_9 ⟨Nat.zero_le _, Nat.zero_le _⟩) hD hS hA (fun H locs hP hD hS => ?_)
  have hP : va_P D vwCl (gX7 o_t a_t cI u9) H := hP
  have hD : va_D A (gX7 o_t a_t cI u9) := hD
  refine W.eq (g2 := F0 m 12 ls [.int r9]) rfl ?_
  have e := so_some hf
  subst e
  exact ri hx hb hK hr hlk hQ dX7_sleeps_12 hP hD hS
abbrev rmX7_beds : Room := { frames := 1, cells := 0, slots := 0, locals := 22 }
set_option maxHeartbeats 4000000 in
set_option maxRecDepth 100000 in
theorem c_X7_beds (l : Launch) (D : va_G) (cI : ClassId) (o_t : Nat) (a_t : Nat → Nat) (S_t : G) (x1 : Int32) (out : Int32 × G) (hf : f_X7_beds S_t x1 = some out) : Cn E0 l yX7_beds wsX7_beds rmX7_beds D cI [.ref o_t, .int x1] (gX7 o_t a_t cI S_t) (some (.int out.1)) (gX7 o_t a_t cI out.2) := by
  refine Cn.mk (cc := cX7_beds) (maxL := 4) (ret := (some .int)) (by decide) rfl (Nat.le_of_ble_eq_true rfl) ?_
  intro p e s m below meth c A ls Q hx hb hml hown hts hK hA hP hD hS hl hr hlk hnm hE hQ
  have hown : s.vm.findClass RX7 = some m.cls := hown
  have hinX7 : ∀ w ∈ u_ws RX7 TX7 26, w ∈ wsX7_beds := by decide +kernel
  unfold f_X7_beds at hf
  have hl : lv_has ls 4 [(0, .ref o_t), (1, .int x1)] := hl
  obtain ⟨H, hHe⟩ : ∃ H : Heap, H = s.heap := ⟨_, rfl⟩
  obtain ⟨locs, hle⟩ : ∃ q : List Loc, q = [] := ⟨_, rfl⟩
  have hS : va_S A s.heap H locs := by rw [hHe, hle]; exact hS
  rw [← hHe] at hP
  suffices hgo : W p l e rmX7_beds s m ([.ref o_t, .int x1] : List Value).toArray below meth c H locs 0 0 Q (F0 m 0 ls []) by rw [hHe, hle] at hgo; exact hgo
  clear hHe hle
  refine lv_iload_n hx hb dX7_beds_0 rfl (lv_at hl 1 rfl) ?_
  refine lv_iconst (v := (1 : Int32)) hx hb dX7_beds_1 (by decide) ?_
  refine lv_bipush (v := (8 : Int32)) hx hb dX7_beds_2 (by decide) ?_
  obtain ⟨r4, u4, h4, hf⟩ := bd_some hf
  have hPc : va_P D vwCl [] H := hP.sub (ws' := []) [] rfl
  have hDc : va_D A [] := hD.sub (ws' := []) [] (by decide) rfl
  refine calXe (runS E0.b E0.n (As := [.int x1, .int (1 : Int32), .int (8 : Int32)]) (rest := []) ⟨hx, hb, hml, hown, hts⟩ (c_X7_bound l D cI x1 (1 : Int32) (8 : Int32) _ h4) gX7_beds_X7_bound rfl rfl rfl hdX7_bound ⟨by decide, by decide⟩ hK hPc hDc rfl hl.1 rfl (Nat.le_of_ble_eq_true rfl) dX7_beds_4 ⟨Nat.zero_le _, Nat.zero_le _⟩) hP hD hS hA (fun H locs hP hD hS => ?_)
  have hP : va_P D vwCl (gX7 o_t a_t cI S_t) H := hP
  have hD : va_D A (gX7 o_t a_t cI S_t) := hD
  refine W.eq (g2 := F0 m 7 ls [.int r4]) rfl ?_
  refine lv_istore_n (lv' := [(2, .int r4), (0, .ref o_t), (1, .int x1)]) hx hb dX7_beds_7 rfl hl (by decide) rfl (fun ls hl => ?_)
  refine lv_iload_n hx hb dX7_beds_8 rfl (lv_at hl 0 rfl) ?_
  refine lv_if_eq (tgt := 18) hx hb dX7_beds_9 (by decide) (fun c9 => ?_) (fun c9 => ?_)
  · replace hf := it_t c9 hf
    refine lv_aload_n hx hb dX7_beds_18 rfl (lv_at hl 1 rfl) ?_
    refine va_get (D := D) (ci := 7) (v := .int (S_t.1 10)) (C := RX7) (T := TX7) (N := 26) hx hb hts hinX7 hown hK hP 0 rfl rfl 10 (by decide) (hts (.fieldLink RX7 56 "OnlyStrangersHearModel" "beds" "I") (by decide +kernel)) (fun _ h9 => h9) rfl dX7_beds_19 ?_
    refine lv_istore_n (lv' := [(3, .int (S_t.1 10)), (2, .int r4), (0, .ref o_t), (1, .int x1)]) hx hb dX7_beds_22 rfl hl (by decide) rfl (fun ls hl => ?_)
    refine lv_aload_n hx hb dX7_beds_23 rfl (lv_at hl 2 rfl) ?_
    refine lv_iload_n hx hb dX7_beds_24 rfl (lv_at hl 3 rfl) ?_
    refine va_put (D := D) (ci := 7) (v := .int x1) (ty := .int) (C := RX7) (T := TX7) (N := 26) hx hb hts hinX7 tyX7 tyX7_ok nmX7 hown hK hP hD hS 0 rfl rfl 10 (by decide) (hts (.fieldLink RX7 56 "OnlyStrangersHearModel" "beds" "I") (by decide +kernel)) (fun _ h9 => h9) rfl (by decide +kernel) rfl rfl (Nat.le_of_ble_eq_true rfl) dX7_beds_25 (fun H locs hP hD hS => ?_)
    have hP : va_P D vwCl (gX7 o_t a_t cI (pF S_t 10 x1)) H := hP
    have hD : va_D A (gX7 o_t a_t cI (pF S_t 10 x1)) := hD
    obtain ⟨g25, e25, hf⟩ := lt_some hf
    rw [← e25] at hP hD
    refine lv_iload_n hx hb dX7_beds_28 rfl (lv_at hl 0 rfl) ?_
    have e := so_some hf
    subst e
    exact ri hx hb hK hr hlk hQ dX7_beds_29 hP hD hS
  · replace hf := it_f c9 hf
    refine lv_aload_n hx hb dX7_beds_12 rfl (lv_at hl 1 rfl) ?_
    refine lv_iload_n hx hb dX7_beds_13 rfl (lv_at hl 0 rfl) ?_
    obtain ⟨r14, u14, h14, hf⟩ := bd_some hf
    refine calX0 (runV E0.b E0.n (As := [.int r4]) (rest := []) ⟨hx, hb, hml, hown, hts⟩ (c_X7_no l D cI o_t a_t S_t r4 _ h14) gX7_beds_X7_no rfl rfl rfl hdX7_no ⟨by decide, by decide⟩ hK hP hD 0 rfl rfl rfl hl.1 rfl (Nat.le_of_ble_eq_true rfl) dX7_beds_14 ⟨Nat.zero_le _, Nat.zero_le _⟩) hD hS hA (fun H locs hP hD hS => ?_)
    have hP : va_P D vwCl (gX7 o_t a_t cI u14) H := hP
    have hD : va_D A (gX7 o_t a_t cI u14) := hD
    refine W.eq (g2 := F0 m 17 ls [.int r14]) rfl ?_
    have e := so_some hf
    subst e
    exact ri hx hb hK hr hlk hQ dX7_beds_17 hP hD hS
abbrev rmX7_turn : Room := { frames := 1, cells := 0, slots := 0, locals := 22 }
set_option maxHeartbeats 4000000 in
set_option maxRecDepth 100000 in
theorem c_X7_turn (l : Launch) (D : va_G) (cI : ClassId) (o_t : Nat) (a_t : Nat → Nat) (S_t : G) (x1 : Int32) (x2 : Int32) (x3 : Int32) (out : Int32 × G) (hf : f_X7_turn S_t x1 x2 x3 = some out) : Cn E0 l yX7_turn wsX7_turn rmX7_turn D cI [.ref o_t, .int x1, .int x2, .int x3] (gX7 o_t a_t cI S_t) (some (.int out.1)) (gX7 o_t a_t cI out.2) := by
  refine Cn.mk (cc := cX7_turn) (maxL := 6) (ret := (some .int)) (by decide) rfl (Nat.le_of_ble_eq_true rfl) ?_
  intro p e s m below meth c A ls Q hx hb hml hown hts hK hA hP hD hS hl hr hlk hnm hE hQ
  have hown : s.vm.findClass RX7 = some m.cls := hown
  have hinX7 : ∀ w ∈ u_ws RX7 TX7 26, w ∈ wsX7_turn := by decide +kernel
  have j33 : ∀ (S_t : G) (l1 : Int32) (l2 : Int32) (l3 : Int32) (s0 : Int32) (H : Heap) (locs : List Loc) (ls : Array Slot), f_X7_turn_33 S_t l1 l2 l3 s0 = some out → va_P D vwCl (gX7 o_t a_t cI S_t) H → va_D A (gX7 o_t a_t cI S_t) → va_S A s.heap H locs → lv_has ls 6 [(0, .ref o_t), (1, .int l1), (2, .int l2), (3, .int l3)] → W p l e rmX7_turn s m ([.ref o_t, .int x1, .int x2, .int x3] : List Value).toArray below meth c H locs 0 0 Q (F0 m 33 ls [.int s0]) := by
    intro S_t l1 l2 l3 s0 H locs ls hf hP hD hS hl
    unfold f_X7_turn_33 at hf
    refine lv_istore (lv' := [(4, .int s0), (0, .ref o_t), (1, .int l1), (2, .int l2), (3, .int l3)]) hx hb dX7_turn_33 hl (by decide) rfl (fun ls hl => ?_)
    refine lv_iload hx hb dX7_turn_35 (lv_at hl 0 rfl) ?_
    refine lv_if_eq (tgt := 47) hx hb dX7_turn_37 (by decide) (fun c37 => ?_) (fun c37 => ?_)
    · replace hf := it_t c37 hf
      refine lv_bipush (v := (10 : Int32)) hx hb dX7_turn_47 (by decide) ?_
      refine lv_aload_n hx hb dX7_turn_49 rfl (lv_at hl 1 rfl) ?_
      refine va_get (D := D) (ci := 7) (v := .ref (a_t 3)) (C := RX7) (T := TX7) (N := 26) hx hb hts hinX7 hown hK hP 0 rfl rfl 3 (by decide) (hts (.fieldLink RX7 19 "OnlyStrangersHearModel" "kind" "[I") (by decide +kernel)) (fun _ h9 => h9) rfl dX7_turn_50 ?_
      refine lv_iload_n hx hb dX7_turn_53 rfl (lv_at hl 2 rfl) ?_
      obtain ⟨b54, hf⟩ := ck_some hf
      refine va_iald hx hb hK hP 4 0 rfl rfl b54 dX7_turn_54 ?_
      refine lv_imul hx hb dX7_turn_55 ?_
      refine lv_aload_n hx hb dX7_turn_56 rfl (lv_at hl 1 rfl) ?_
      refine va_get (D := D) (ci := 7) (v := .ref (a_t 4)) (C := RX7) (T := TX7) (N := 26) hx hb hts hinX7 hown hK hP 0 rfl rfl 4 (by decide) (hts (.fieldLink RX7 22 "OnlyStrangersHearModel" "figure" "[I") (by decide +kernel)) (fun _ h9 => h9) rfl dX7_turn_57 ?_
      refine lv_iload_n hx hb dX7_turn_60 rfl (lv_at hl 2 rfl) ?_
      obtain ⟨b61, hf⟩ := ck_some hf
      refine va_iald hx hb hK hP 5 0 rfl rfl b61 dX7_turn_61 ?_
      refine lv_iadd hx hb dX7_turn_62 ?_
      refine lv_topi (fun v63 e63 => ?_)
      replace hf := lt_at e63 hf
      refine lv_istore (lv' := [(5, .int v63), (4, .int s0), (0, .ref o_t), (1, .int l1), (2, .int l2), (3, .int l3)]) hx hb dX7_turn_63 hl (by decide) rfl (fun ls hl => ?_)
      refine lv_aload_n hx hb dX7_turn_65 rfl (lv_at hl 2 rfl) ?_
      refine va_get (D := D) (ci := 7) (v := .ref (a_t 3)) (C := RX7) (T := TX7) (N := 26) hx hb hts hinX7 hown hK hP 0 rfl rfl 3 (by decide) (hts (.fieldLink RX7 19 "OnlyStrangersHearModel" "kind" "[I") (by decide +kernel)) (fun _ h9 => h9) rfl dX7_turn_66 ?_
      refine lv_iload_n hx hb dX7_turn_69 rfl (lv_at hl 3 rfl) ?_
      refine lv_iload_n hx hb dX7_turn_70 rfl (lv_at hl 4 rfl) ?_
      obtain ⟨b71, hf⟩ := ck_some hf
      refine va_iast hx hb hK hP hD hS 4 0 rfl rfl b71 dX7_turn_71 (fun H locs hP hD hS => ?_)
      have hP : va_P D vwCl (gX7 o_t a_t cI (pA S_t 3 l1.toNatClampNeg l2)) H := hP
      have hD : va_D A (gX7 o_t a_t cI (pA S_t 3 l1.toNatClampNeg l2)) := hD
      obtain ⟨g71, e71, hf⟩ := lt_some hf
      rw [← e71] at hP hD
      refine lv_aload_n hx hb dX7_turn_72 rfl (lv_at hl 2 rfl) ?_
      refine va_get (D := D) (ci := 7) (v := .ref (a_t 4)) (C := RX7) (T := TX7) (N := 26) hx hb hts hinX7 hown hK hP 0 rfl rfl 4 (by decide) (hts (.fieldLink RX7 22 "OnlyStrangersHearModel" "figure" "[I") (by decide +kernel)) (fun _ h9 => h9) rfl dX7_turn_73 ?_
      refine lv_iload_n hx hb dX7_turn_76 rfl (lv_at hl 3 rfl) ?_
      refine lv_iload_n hx hb dX7_turn_77 rfl (lv_at hl 5 rfl) ?_
      obtain ⟨b78, hf⟩ := ck_some hf
      refine va_iast hx hb hK hP hD hS 5 0 rfl rfl b78 dX7_turn_78 (fun H locs hP hD hS => ?_)
      have hP : va_P D vwCl (gX7 o_t a_t cI (pA g71 4 l1.toNatClampNeg l3)) H := hP
      have hD : va_D A (gX7 o_t a_t cI (pA g71 4 l1.toNatClampNeg l3)) := hD
      obtain ⟨g78, e78, hf⟩ := lt_some hf
      rw [← e78] at hP hD
      refine lv_iload hx hb dX7_turn_79 (lv_at hl 0 rfl) ?_
      have e := so_some hf
      subst e
      exact ri hx hb hK hr hlk hQ dX7_turn_81 hP hD hS
    · replace hf := it_f c37 hf
      refine lv_aload_n hx hb dX7_turn_40 rfl (lv_at hl 1 rfl) ?_
      refine lv_iload hx hb dX7_turn_41 (lv_at hl 0 rfl) ?_
      obtain ⟨r43, u43, h43, hf⟩ := bd_some hf
      refine calX0 (runV E0.b E0.n (As := [.int s0]) (rest := []) ⟨hx, hb, hml, hown, hts⟩ (c_X7_no l D cI o_t a_t S_t s0 _ h43) gX7_turn_X7_no rfl rfl rfl hdX7_no ⟨by decide, by decide⟩ hK hP hD 0 rfl rfl rfl hl.1 rfl (Nat.le_of_ble_eq_true rfl) dX7_turn_43 ⟨Nat.zero_le _, Nat.zero_le _⟩) hD hS hA (fun H locs hP hD hS => ?_)
      have hP : va_P D vwCl (gX7 o_t a_t cI u43) H := hP
      have hD : va_D A (gX7 o_t a_t cI u43) := hD
      refine W.eq (g2 := F0 m 46 ls [.int r43]) rfl ?_
      have e := so_some hf
      subst e
      exact ri hx hb hK hr hlk hQ dX7_turn_46 hP hD hS
  unfold f_X7_turn at hf
  have hl : lv_has ls 6 [(0, .ref o_t), (1, .int x1), (2, .int x2), (3, .int x3)] := hl
  obtain ⟨H, hHe⟩ : ∃ H : Heap, H = s.heap := ⟨_, rfl⟩
  obtain ⟨locs, hle⟩ : ∃ q : List Loc, q = [] := ⟨_, rfl⟩
  have hS : va_S A s.heap H locs := by rw [hHe, hle]; exact hS
  rw [← hHe] at hP
  suffices hgo : W p l e rmX7_turn s m ([.ref o_t, .int x1, .int x2, .int x3] : List Value).toArray below meth c H locs 0 0 Q (F0 m 0 ls []) by rw [hHe, hle] at hgo; exact hgo
  clear hHe hle
  refine lv_aload_n hx hb dX7_turn_0 rfl (lv_at hl 0 rfl) ?_
  refine lv_iload_n hx hb dX7_turn_1 rfl (lv_at hl 1 rfl) ?_
  obtain ⟨r2, u2, h2, hf⟩ := bd_some hf
  refine calX0 (runV E0.b E0.n (As := [.int x1]) (rest := []) ⟨hx, hb, hml, hown, hts⟩ (c_X7_isOne l D cI o_t a_t S_t x1 _ h2) gX7_turn_X7_isOne rfl rfl rfl hdX7_isOne ⟨by decide, by decide⟩ hK hP hD 0 rfl rfl rfl hl.1 rfl (Nat.le_of_ble_eq_true rfl) dX7_turn_2 ⟨Nat.zero_le _, Nat.zero_le _⟩) hD hS hA (fun H locs hP hD hS => ?_)
  have hP : va_P D vwCl (gX7 o_t a_t cI u2) H := hP
  have hD : va_D A (gX7 o_t a_t cI u2) := hD
  refine W.eq (g2 := F0 m 5 ls [.int r2]) rfl ?_
  refine lv_if_ne (tgt := 12) hx hb dX7_turn_5 (by decide) (fun c5 => ?_) (fun c5 => ?_)
  · replace hf := it_f c5 hf
    refine lv_iload_n hx hb dX7_turn_12 rfl (lv_at hl 2 rfl) ?_
    refine lv_iconst (v := (0 : Int32)) hx hb dX7_turn_13 (by decide) ?_
    refine lv_iconst (v := (5 : Int32)) hx hb dX7_turn_14 (by decide) ?_
    obtain ⟨r15, u15, h15, hf⟩ := bd_some hf
    have hPc : va_P D vwCl [] H := hP.sub (ws' := []) [] rfl
    have hDc : va_D A [] := hD.sub (ws' := []) [] (by decide) rfl
    refine calXe (runS E0.b E0.n (As := [.int x2, .int (0 : Int32), .int (5 : Int32)]) (rest := []) ⟨hx, hb, hml, hown, hts⟩ (c_X7_isIn l D cI x2 (0 : Int32) (5 : Int32) _ h15) gX7_turn_X7_isIn rfl rfl rfl hdX7_isIn ⟨by decide, by decide⟩ hK hPc hDc rfl hl.1 rfl (Nat.le_of_ble_eq_true rfl) dX7_turn_15 ⟨Nat.zero_le _, Nat.zero_le _⟩) hP hD hS hA (fun H locs hP hD hS => ?_)
    have hP : va_P D vwCl (gX7 o_t a_t cI u2) H := hP
    have hD : va_D A (gX7 o_t a_t cI u2) := hD
    refine W.eq (g2 := F0 m 18 ls [.int r15]) rfl ?_
    refine lv_if_ne (tgt := 26) hx hb dX7_turn_18 (by decide) (fun c18 => ?_) (fun c18 => ?_)
    · replace hf := it_f c18 hf
      refine lv_iload_n hx hb dX7_turn_26 rfl (lv_at hl 3 rfl) ?_
      refine lv_iconst (v := (0 : Int32)) hx hb dX7_turn_27 (by decide) ?_
      refine lv_bipush (v := (9 : Int32)) hx hb dX7_turn_28 (by decide) ?_
      obtain ⟨r30, u30, h30, hf⟩ := bd_some hf
      have hPc : va_P D vwCl [] H := hP.sub (ws' := []) [] rfl
      have hDc : va_D A [] := hD.sub (ws' := []) [] (by decide) rfl
      refine calXe (runS E0.b E0.n (As := [.int x3, .int (0 : Int32), .int (9 : Int32)]) (rest := []) ⟨hx, hb, hml, hown, hts⟩ (c_X7_bound l D cI x3 (0 : Int32) (9 : Int32) _ h30) gX7_turn_X7_bound rfl rfl rfl hdX7_bound ⟨by decide, by decide⟩ hK hPc hDc rfl hl.1 rfl (Nat.le_of_ble_eq_true rfl) dX7_turn_30 ⟨Nat.zero_le _, Nat.zero_le _⟩) hP hD hS hA (fun H locs hP hD hS => ?_)
      have hP : va_P D vwCl (gX7 o_t a_t cI u2) H := hP
      have hD : va_D A (gX7 o_t a_t cI u2) := hD
      refine W.eq (g2 := F0 m 33 ls [.int r30]) rfl ?_
      exact j33 u2 x1 x2 x3 r30 H locs ls hf hP hD hS (lv_sub hl [0, 1, 2, 3] rfl)
    · replace hf := it_t c18 hf
      refine lv_bipush (v := (-2 : Int32)) hx hb dX7_turn_21 (by decide) ?_
      refine lv_goto (tgt := 33) hx hb dX7_turn_23 (by decide) ?_
      exact j33 u2 x1 x2 x3 (-2 : Int32) H locs ls hf hP hD hS (lv_sub hl [0, 1, 2, 3] rfl)
  · replace hf := it_t c5 hf
    refine lv_iconst (v := (-1 : Int32)) hx hb dX7_turn_8 (by decide) ?_
    refine lv_goto (tgt := 33) hx hb dX7_turn_9 (by decide) ?_
    exact j33 u2 x1 x2 x3 (-1 : Int32) H locs ls hf hP hD hS (lv_sub hl [0, 1, 2, 3] rfl)
abbrev rmX7_days : Room := { frames := 4, cells := 0, slots := 0, locals := 90 }
set_option maxHeartbeats 4000000 in
set_option maxRecDepth 100000 in
theorem c_X7_days (l : Launch) (D : va_G) (cI : ClassId) (o_t : Nat) (a_t : Nat → Nat) (S_t : G) (x1 : Int32) (out : Int32 × G) (hf : f_X7_days S_t x1 = some out) : Cn E0 l yX7_days wsX7_days rmX7_days D cI [.ref o_t, .int x1] (gX7 o_t a_t cI S_t) (some (.int out.1)) (gX7 o_t a_t cI out.2) := by
  refine Cn.mk (cc := cX7_days) (maxL := 3) (ret := (some .int)) (by decide) rfl (Nat.le_of_ble_eq_true rfl) ?_
  intro p e s m below meth c A ls Q hx hb hml hown hts hK hA hP hD hS hl hr hlk hnm hE hQ
  have hown : s.vm.findClass RX7 = some m.cls := hown
  have hinX7 : ∀ w ∈ u_ws RX7 TX7 26, w ∈ wsX7_days := by decide +kernel
  have j27 : ∀ (S_t : G) (l1 : Int32) (l2 : Int32) (H : Heap) (locs : List Loc) (ls : Array Slot), f_X7_days_27 S_t l1 l2 = some out → va_P D vwCl (gX7 o_t a_t cI S_t) H → va_D A (gX7 o_t a_t cI S_t) → va_S A s.heap H locs → lv_has ls 3 [(0, .ref o_t), (1, .int l1), (2, .int l2)] → W p l e rmX7_days s m ([.ref o_t, .int x1] : List Value).toArray below meth c H locs 0 0 Q (F0 m 27 ls []) := by
    intro S_t l1 l2 H locs ls hf hP hD hS hl
    unfold f_X7_days_27 at hf
    refine lv_iload_n hx hb dX7_days_27 rfl (lv_at hl 2 rfl) ?_
    refine lv_if_eq (tgt := 37) hx hb dX7_days_28 (by decide) (fun c28 => ?_) (fun c28 => ?_)
    · replace hf := it_t c28 hf
      refine lv_aload_n hx hb dX7_days_37 rfl (lv_at hl 0 rfl) ?_
      refine lv_iload_n hx hb dX7_days_38 rfl (lv_at hl 1 rfl) ?_
      obtain ⟨r39, u39, h39, hf⟩ := bd_some hf
      refine calX0 (runV E0.b E0.n (As := [.int l1]) (rest := []) ⟨hx, hb, hml, hown, hts⟩ (c_X7_goesOn l D cI o_t a_t S_t l1 _ h39) gX7_days_X7_goesOn rfl rfl rfl hdX7_goesOn ⟨by decide, by decide⟩ hK hP hD 0 rfl rfl rfl hl.1 rfl (Nat.le_of_ble_eq_true rfl) dX7_days_39 ⟨Nat.zero_le _, Nat.zero_le _⟩) hD hS hA (fun H locs hP hD hS => ?_)
      have hP : va_P D vwCl (gX7 o_t a_t cI u39) H := hP
      have hD : va_D A (gX7 o_t a_t cI u39) := hD
      refine W.eq (g2 := F0 m 42 ls []) rfl ?_
      refine lv_aload_n hx hb dX7_days_42 rfl (lv_at hl 0 rfl) ?_
      obtain ⟨r43, u43, h43, hf⟩ := bd_some hf
      refine calX0 (runV E0.b E0.n (As := []) (rest := []) ⟨hx, hb, hml, hown, hts⟩ (c_X7_manyHear l D cI o_t a_t u39 _ h43) gX7_days_X7_manyHear rfl rfl rfl hdX7_manyHear ⟨by decide, by decide⟩ hK hP hD 0 rfl rfl rfl hl.1 rfl (Nat.le_of_ble_eq_true rfl) dX7_days_43 ⟨Nat.zero_le _, Nat.zero_le _⟩) hD hS hA (fun H locs hP hD hS => ?_)
      have hP : va_P D vwCl (gX7 o_t a_t cI u43) H := hP
      have hD : va_D A (gX7 o_t a_t cI u43) := hD
      refine W.eq (g2 := F0 m 46 ls [.int r43]) rfl ?_
      have e := so_some hf
      subst e
      exact ri hx hb hK hr hlk hQ dX7_days_46 hP hD hS
    · replace hf := it_f c28 hf
      refine lv_aload_n hx hb dX7_days_31 rfl (lv_at hl 0 rfl) ?_
      refine lv_iload_n hx hb dX7_days_32 rfl (lv_at hl 2 rfl) ?_
      obtain ⟨r33, u33, h33, hf⟩ := bd_some hf
      refine calX0 (runV E0.b E0.n (As := [.int l2]) (rest := []) ⟨hx, hb, hml, hown, hts⟩ (c_X7_no l D cI o_t a_t S_t l2 _ h33) gX7_days_X7_no rfl rfl rfl hdX7_no ⟨by decide, by decide⟩ hK hP hD 0 rfl rfl rfl hl.1 rfl (Nat.le_of_ble_eq_true rfl) dX7_days_33 ⟨Nat.zero_le _, Nat.zero_le _⟩) hD hS hA (fun H locs hP hD hS => ?_)
      have hP : va_P D vwCl (gX7 o_t a_t cI u33) H := hP
      have hD : va_D A (gX7 o_t a_t cI u33) := hD
      refine W.eq (g2 := F0 m 36 ls [.int r33]) rfl ?_
      have e := so_some hf
      subst e
      exact ri hx hb hK hr hlk hQ dX7_days_36 hP hD hS
  unfold f_X7_days at hf
  have hl : lv_has ls 3 [(0, .ref o_t), (1, .int x1)] := hl
  obtain ⟨H, hHe⟩ : ∃ H : Heap, H = s.heap := ⟨_, rfl⟩
  obtain ⟨locs, hle⟩ : ∃ q : List Loc, q = [] := ⟨_, rfl⟩
  have hS : va_S A s.heap H locs := by rw [hHe, hle]; exact hS
  rw [← hHe] at hP
  suffices hgo : W p l e rmX7_days s m ([.ref o_t, .int x1] : List Value).toArray below meth c H locs 0 0 Q (F0 m 0 ls []) by rw [hHe, hle] at hgo; exact hgo
  clear hHe hle
  refine lv_iload_n hx hb dX7_days_0 rfl (lv_at hl 1 rfl) ?_
  refine lv_iconst (v := (1 : Int32)) hx hb dX7_days_1 (by decide) ?_
  refine lv_bipush (v := (60 : Int32)) hx hb dX7_days_2 (by decide) ?_
  obtain ⟨r4, u4, h4, hf⟩ := bd_some hf
  have hPc : va_P D vwCl [] H := hP.sub (ws' := []) [] rfl
  have hDc : va_D A [] := hD.sub (ws' := []) [] (by decide) rfl
  refine calXe (runS E0.b E0.n (As := [.int x1, .int (1 : Int32), .int (60 : Int32)]) (rest := []) ⟨hx, hb, hml, hown, hts⟩ (c_X7_bound l D cI x1 (1 : Int32) (60 : Int32) _ h4) gX7_days_X7_bound rfl rfl rfl hdX7_bound ⟨by decide, by decide⟩ hK hPc hDc rfl hl.1 rfl (Nat.le_of_ble_eq_true rfl) dX7_days_4 ⟨Nat.zero_le _, Nat.zero_le _⟩) hP hD hS hA (fun H locs hP hD hS => ?_)
  have hP : va_P D vwCl (gX7 o_t a_t cI S_t) H := hP
  have hD : va_D A (gX7 o_t a_t cI S_t) := hD
  refine W.eq (g2 := F0 m 7 ls [.int r4]) rfl ?_
  refine lv_istore_n (lv' := [(2, .int r4), (0, .ref o_t), (1, .int x1)]) hx hb dX7_days_7 rfl hl (by decide) rfl (fun ls hl => ?_)
  refine lv_iload_n hx hb dX7_days_8 rfl (lv_at hl 0 rfl) ?_
  refine lv_if_ne (tgt := 27) hx hb dX7_days_9 (by decide) (fun c9 => ?_) (fun c9 => ?_)
  · replace hf := it_f c9 hf
    exact j27 S_t x1 r4 H locs ls hf hP hD hS (lv_sub hl [1, 2, 0] rfl)
  · replace hf := it_t c9 hf
    refine lv_aload_n hx hb dX7_days_12 rfl (lv_at hl 1 rfl) ?_
    refine va_get (D := D) (ci := 7) (v := .int (S_t.1 9)) (C := RX7) (T := TX7) (N := 26) hx hb hts hinX7 hown hK hP 0 rfl rfl 9 (by decide) (hts (.fieldLink RX7 107 "OnlyStrangersHearModel" "day" "I") (by decide +kernel)) (fun _ h9 => h9) rfl dX7_days_13 ?_
    refine lv_iload_n hx hb dX7_days_16 rfl (lv_at hl 2 rfl) ?_
    refine lv_iadd hx hb dX7_days_17 ?_
    refine lv_sipush (v := (999 : Int32)) hx hb dX7_days_18 (by decide) ?_
    refine lv_icmp_le (tgt := 27) hx hb dX7_days_21 (by decide) (fun c21 => ?_) (fun c21 => ?_)
    · replace hf := it_t c21 hf
      exact j27 S_t x1 r4 H locs ls hf hP hD hS (lv_sub hl [1, 2, 0] rfl)
    · replace hf := it_f c21 hf
      refine lv_bipush (v := (-6 : Int32)) hx hb dX7_days_24 (by decide) ?_
      refine lv_istore_n (lv' := [(2, .int (-6 : Int32)), (0, .ref o_t), (1, .int x1)]) hx hb dX7_days_26 rfl hl (by decide) rfl (fun ls hl => ?_)
      exact j27 S_t x1 (-6 : Int32) H locs ls hf hP hD hS (lv_sub hl [1, 2, 0] rfl)
abbrev rmX7_notDays : Room := { frames := 1, cells := 0, slots := 0, locals := 22 }
set_option maxHeartbeats 4000000 in
set_option maxRecDepth 100000 in
theorem c_X7_notDays (l : Launch) (D : va_G) (cI : ClassId) (x0 : Int32) (out : Int32 × Unit) (hf : f_X7_notDays x0 = some out) : Cn E0 l yX7_notDays wsX7_notDays rmX7_notDays D cI [.int x0] ([]) (some (.int out.1)) ([]) := by
  refine Cn.mk (cc := cX7_notDays) (maxL := 1) (ret := (some .int)) (by decide) rfl (Nat.le_of_ble_eq_true rfl) ?_
  intro p e s m below meth c A ls Q hx hb hml hown hts hK hA hP hD hS hl hr hlk hnm hE hQ
  have hown : s.vm.findClass RX7 = some m.cls := hown
  unfold f_X7_notDays at hf
  have hl : lv_has ls 1 [(0, .int x0)] := hl
  obtain ⟨H, hHe⟩ : ∃ H : Heap, H = s.heap := ⟨_, rfl⟩
  obtain ⟨locs, hle⟩ : ∃ q : List Loc, q = [] := ⟨_, rfl⟩
  have hS : va_S A s.heap H locs := by rw [hHe, hle]; exact hS
  rw [← hHe] at hP
  suffices hgo : W p l e rmX7_notDays s m ([.int x0] : List Value).toArray below meth c H locs 0 0 Q (F0 m 0 ls []) by rw [hHe, hle] at hgo; exact hgo
  clear hHe hle
  refine lv_iload_n hx hb dX7_notDays_0 rfl (lv_at hl 0 rfl) ?_
  refine lv_iconst (v := (0 : Int32)) hx hb dX7_notDays_1 (by decide) ?_
  refine lv_bipush (v := (99 : Int32)) hx hb dX7_notDays_2 (by decide) ?_
  obtain ⟨r4, u4, h4, hf⟩ := bd_some hf
  refine calX0 (runS E0.b E0.n (As := [.int x0, .int (0 : Int32), .int (99 : Int32)]) (rest := []) ⟨hx, hb, hml, hown, hts⟩ (c_X7_bound l D cI x0 (0 : Int32) (99 : Int32) _ h4) gX7_notDays_X7_bound rfl rfl rfl hdX7_bound ⟨by decide, by decide⟩ hK hP hD rfl hl.1 rfl (Nat.le_of_ble_eq_true rfl) dX7_notDays_4 ⟨Nat.zero_le _, Nat.zero_le _⟩) hD hS hA (fun H locs hP hD hS => ?_)
  have hP : va_P D vwCl ([]) H := hP
  have hD : va_D A ([]) := hD
  refine W.eq (g2 := F0 m 7 ls [.int r4]) rfl ?_
  have e := so_some hf
  subst e
  exact ri hx hb hK hr hlk hQ dX7_notDays_7 hP hD hS
abbrev rmX7_personThen : Room := { frames := 4, cells := 0, slots := 0, locals := 90 }
set_option maxHeartbeats 4000000 in
set_option maxRecDepth 100000 in
theorem c_X7_personThen (l : Launch) (D : va_G) (cI : ClassId) (o_t : Nat) (a_t : Nat → Nat) (S_t : G) (x1 : Int32) (x2 : Int32) (x3 : Int32) (out : Int32 × G) (hf : f_X7_personThen S_t x1 x2 x3 = some out) : Cn E0 l yX7_personThen wsX7_personThen rmX7_personThen D cI [.ref o_t, .int x1, .int x2, .int x3] (gX7 o_t a_t cI S_t) (some (.int out.1)) (gX7 o_t a_t cI out.2) := by
  refine Cn.mk (cc := cX7_personThen) (maxL := 6) (ret := (some .int)) (by decide) rfl (Nat.le_of_ble_eq_true rfl) ?_
  intro p e s m below meth c A ls Q hx hb hml hown hts hK hA hP hD hS hl hr hlk hnm hE hQ
  have hown : s.vm.findClass RX7 = some m.cls := hown
  have hinX7 : ∀ w ∈ u_ws RX7 TX7 26, w ∈ wsX7_personThen := by decide +kernel
  have j76 : ∀ (S_t : G) (s0 : Int32) (H : Heap) (locs : List Loc) (ls : Array Slot), f_X7_personThen_76 S_t s0 = some out → va_P D vwCl (gX7 o_t a_t cI S_t) H → va_D A (gX7 o_t a_t cI S_t) → va_S A s.heap H locs → lv_has ls 6 [(0, .ref o_t)] → W p l e rmX7_personThen s m ([.ref o_t, .int x1, .int x2, .int x3] : List Value).toArray below meth c H locs 0 0 Q (F0 m 76 ls [.int s0]) := by
    intro S_t s0 H locs ls hf hP hD hS hl
    unfold f_X7_personThen_76 at hf
    refine lv_istore (lv' := [(5, .int s0), (0, .ref o_t)]) hx hb dX7_personThen_76 hl (by decide) rfl (fun ls hl => ?_)
    refine lv_aload_n hx hb dX7_personThen_78 rfl (lv_at hl 1 rfl) ?_
    obtain ⟨r79, u79, h79, hf⟩ := bd_some hf
    refine calX0 (runV E0.b E0.n (As := []) (rest := []) ⟨hx, hb, hml, hown, hts⟩ (c_X7_forgets l D cI o_t a_t S_t _ h79) gX7_personThen_X7_forgets rfl rfl rfl hdX7_forgets ⟨by decide, by decide⟩ hK hP hD 0 rfl rfl rfl hl.1 rfl (Nat.le_of_ble_eq_true rfl) dX7_personThen_79 ⟨Nat.zero_le _, Nat.zero_le _⟩) hD hS hA (fun H locs hP hD hS => ?_)
    have hP : va_P D vwCl (gX7 o_t a_t cI u79) H := hP
    have hD : va_D A (gX7 o_t a_t cI u79) := hD
    refine W.eq (g2 := F0 m 82 ls []) rfl ?_
    refine lv_iload hx hb dX7_personThen_82 (lv_at hl 0 rfl) ?_
    have e := so_some hf
    subst e
    exact ri hx hb hK hr hlk hQ dX7_personThen_84 hP hD hS
  have j36 : ∀ (S_t : G) (l1 : Int32) (l2 : Int32) (l3 : Int32) (l4 : Int32) (H : Heap) (locs : List Loc) (ls : Array Slot), f_X7_personThen_36 S_t l1 l2 l3 l4 = some out → va_P D vwCl (gX7 o_t a_t cI S_t) H → va_D A (gX7 o_t a_t cI S_t) → va_S A s.heap H locs → lv_has ls 6 [(0, .ref o_t), (1, .int l1), (2, .int l2), (3, .int l3), (4, .int l4)] → W p l e rmX7_personThen s m ([.ref o_t, .int x1, .int x2, .int x3] : List Value).toArray below meth c H locs 0 0 Q (F0 m 36 ls []) := by
    intro S_t l1 l2 l3 l4 H locs ls hf hP hD hS hl
    unfold f_X7_personThen_36 at hf
    refine lv_iload hx hb dX7_personThen_36 (lv_at hl 4 rfl) ?_
    refine lv_if_eq (tgt := 48) hx hb dX7_personThen_38 (by decide) (fun c38 => ?_) (fun c38 => ?_)
    · replace hf := it_t c38 hf
      refine lv_aload_n hx hb dX7_personThen_48 rfl (lv_at hl 0 rfl) ?_
      obtain ⟨r49, u49, h49, hf⟩ := bd_some hf
      refine calX0 (runV E0.b E0.n (As := []) (rest := []) ⟨hx, hb, hml, hown, hts⟩ (c_X7_thinks l D cI o_t a_t S_t _ h49) gX7_personThen_X7_thinks rfl rfl rfl hdX7_thinks ⟨by decide, by decide⟩ hK hP hD 0 rfl rfl rfl hl.1 rfl (Nat.le_of_ble_eq_true rfl) dX7_personThen_49 ⟨Nat.zero_le _, Nat.zero_le _⟩) hD hS hA (fun H locs hP hD hS => ?_)
      have hP : va_P D vwCl (gX7 o_t a_t cI u49) H := hP
      have hD : va_D A (gX7 o_t a_t cI u49) := hD
      refine W.eq (g2 := F0 m 52 ls []) rfl ?_
      refine lv_aload_n hx hb dX7_personThen_52 rfl (lv_at hl 0 rfl) ?_
      refine lv_iload_n hx hb dX7_personThen_53 rfl (lv_at hl 2 rfl) ?_
      obtain ⟨r54, u54, h54, hf⟩ := bd_some hf
      refine calX0 (runV E0.b E0.n (As := [.int l2]) (rest := []) ⟨hx, hb, hml, hown, hts⟩ (c_X7_goesOn l D cI o_t a_t u49 l2 _ h54) gX7_personThen_X7_goesOn rfl rfl rfl hdX7_goesOn ⟨by decide, by decide⟩ hK hP hD 0 rfl rfl rfl hl.1 rfl (Nat.le_of_ble_eq_true rfl) dX7_personThen_54 ⟨Nat.zero_le _, Nat.zero_le _⟩) hD hS hA (fun H locs hP hD hS => ?_)
      have hP : va_P D vwCl (gX7 o_t a_t cI u54) H := hP
      have hD : va_D A (gX7 o_t a_t cI u54) := hD
      refine W.eq (g2 := F0 m 57 ls []) rfl ?_
      refine lv_iload_n hx hb dX7_personThen_57 rfl (lv_at hl 3 rfl) ?_
      refine lv_if_ne (tgt := 70) hx hb dX7_personThen_58 (by decide) (fun c58 => ?_) (fun c58 => ?_)
      · replace hf := it_f c58 hf
        refine lv_aload_n hx hb dX7_personThen_70 rfl (lv_at hl 0 rfl) ?_
        refine va_get (D := D) (ci := 7) (v := .ref (a_t 6)) (C := RX7) (T := TX7) (N := 26) hx hb hts hinX7 hown hK hP 0 rfl rfl 6 (by decide) (hts (.fieldLink RX7 28 "OnlyStrangersHearModel" "away" "[I") (by decide +kernel)) (fun _ h9 => h9) rfl dX7_personThen_71 ?_
        refine lv_iload_n hx hb dX7_personThen_74 rfl (lv_at hl 1 rfl) ?_
        obtain ⟨b75, hf⟩ := ck_some hf
        refine va_iald hx hb hK hP 7 0 rfl rfl b75 dX7_personThen_75 ?_
        exact j76 u54 (u54.2 6 l1.toNatClampNeg) H locs ls hf hP hD hS (lv_sub hl [0] rfl)
      · replace hf := it_t c58 hf
        refine lv_aload_n hx hb dX7_personThen_61 rfl (lv_at hl 0 rfl) ?_
        refine va_get (D := D) (ci := 7) (v := .ref (a_t 5)) (C := RX7) (T := TX7) (N := 26) hx hb hts hinX7 hown hK hP 0 rfl rfl 5 (by decide) (hts (.fieldLink RX7 25 "OnlyStrangersHearModel" "slept" "[I") (by decide +kernel)) (fun _ h9 => h9) rfl dX7_personThen_62 ?_
        refine lv_iload_n hx hb dX7_personThen_65 rfl (lv_at hl 1 rfl) ?_
        obtain ⟨b66, hf⟩ := ck_some hf
        refine va_iald hx hb hK hP 6 0 rfl rfl b66 dX7_personThen_66 ?_
        refine lv_goto (tgt := 76) hx hb dX7_personThen_67 (by decide) ?_
        exact j76 u54 (u54.2 5 l1.toNatClampNeg) H locs ls hf hP hD hS (lv_sub hl [0] rfl)
    · replace hf := it_f c38 hf
      refine lv_aload_n hx hb dX7_personThen_41 rfl (lv_at hl 0 rfl) ?_
      refine lv_iload hx hb dX7_personThen_42 (lv_at hl 4 rfl) ?_
      obtain ⟨r44, u44, h44, hf⟩ := bd_some hf
      refine calX0 (runV E0.b E0.n (As := [.int l4]) (rest := []) ⟨hx, hb, hml, hown, hts⟩ (c_X7_no l D cI o_t a_t S_t l4 _ h44) gX7_personThen_X7_no rfl rfl rfl hdX7_no ⟨by decide, by decide⟩ hK hP hD 0 rfl rfl rfl hl.1 rfl (Nat.le_of_ble_eq_true rfl) dX7_personThen_44 ⟨Nat.zero_le _, Nat.zero_le _⟩) hD hS hA (fun H locs hP hD hS => ?_)
      have hP : va_P D vwCl (gX7 o_t a_t cI u44) H := hP
      have hD : va_D A (gX7 o_t a_t cI u44) := hD
      refine W.eq (g2 := F0 m 47 ls [.int r44]) rfl ?_
      have e := so_some hf
      subst e
      exact ri hx hb hK hr hlk hQ dX7_personThen_47 hP hD hS
  have j16 : ∀ (S_t : G) (l1 : Int32) (l2 : Int32) (l3 : Int32) (s0 : Int32) (H : Heap) (locs : List Loc) (ls : Array Slot), f_X7_personThen_16 S_t l1 l2 l3 s0 = some out → va_P D vwCl (gX7 o_t a_t cI S_t) H → va_D A (gX7 o_t a_t cI S_t) → va_S A s.heap H locs → lv_has ls 6 [(0, .ref o_t), (1, .int l1), (2, .int l2), (3, .int l3)] → W p l e rmX7_personThen s m ([.ref o_t, .int x1, .int x2, .int x3] : List Value).toArray below meth c H locs 0 0 Q (F0 m 16 ls [.int s0]) := by
    intro S_t l1 l2 l3 s0 H locs ls hf hP hD hS hl
    unfold f_X7_personThen_16 at hf
    refine lv_istore (lv' := [(4, .int s0), (0, .ref o_t), (1, .int l1), (2, .int l2), (3, .int l3)]) hx hb dX7_personThen_16 hl (by decide) rfl (fun ls hl => ?_)
    refine lv_iload hx hb dX7_personThen_18 (lv_at hl 0 rfl) ?_
    refine lv_if_ne (tgt := 36) hx hb dX7_personThen_20 (by decide) (fun c20 => ?_) (fun c20 => ?_)
    · replace hf := it_f c20 hf
      exact j36 S_t l1 l2 l3 s0 H locs ls hf hP hD hS (lv_sub hl [1, 2, 3, 4, 0] rfl)
    · replace hf := it_t c20 hf
      refine lv_iload_n hx hb dX7_personThen_23 rfl (lv_at hl 4 rfl) ?_
      refine lv_iconst (v := (0 : Int32)) hx hb dX7_personThen_24 (by decide) ?_
      refine lv_iconst (v := (1 : Int32)) hx hb dX7_personThen_25 (by decide) ?_
      obtain ⟨r26, u26, h26, hf⟩ := bd_some hf
      have hPc : va_P D vwCl [] H := hP.sub (ws' := []) [] rfl
      have hDc : va_D A [] := hD.sub (ws' := []) [] (by decide) rfl
      refine calXe (runS E0.b E0.n (As := [.int l3, .int (0 : Int32), .int (1 : Int32)]) (rest := []) ⟨hx, hb, hml, hown, hts⟩ (c_X7_isIn l D cI l3 (0 : Int32) (1 : Int32) _ h26) gX7_personThen_X7_isIn rfl rfl rfl hdX7_isIn ⟨by decide, by decide⟩ hK hPc hDc rfl hl.1 rfl (Nat.le_of_ble_eq_true rfl) dX7_personThen_26 ⟨Nat.zero_le _, Nat.zero_le _⟩) hP hD hS hA (fun H locs hP hD hS => ?_)
      have hP : va_P D vwCl (gX7 o_t a_t cI S_t) H := hP
      have hD : va_D A (gX7 o_t a_t cI S_t) := hD
      refine W.eq (g2 := F0 m 29 ls [.int r26]) rfl ?_
      refine lv_if_ne (tgt := 36) hx hb dX7_personThen_29 (by decide) (fun c29 => ?_) (fun c29 => ?_)
      · replace hf := it_f c29 hf
        exact j36 S_t l1 l2 l3 s0 H locs ls hf hP hD hS (lv_sub hl [1, 2, 3, 4, 0] rfl)
      · replace hf := it_t c29 hf
        refine lv_bipush (v := (-2 : Int32)) hx hb dX7_personThen_32 (by decide) ?_
        refine lv_istore (lv' := [(4, .int (-2 : Int32)), (0, .ref o_t), (1, .int l1), (2, .int l2), (3, .int l3)]) hx hb dX7_personThen_34 hl (by decide) rfl (fun ls hl => ?_)
        exact j36 S_t l1 l2 l3 (-2 : Int32) H locs ls hf hP hD hS (lv_sub hl [1, 2, 3, 4, 0] rfl)
  unfold f_X7_personThen at hf
  have hl : lv_has ls 6 [(0, .ref o_t), (1, .int x1), (2, .int x2), (3, .int x3)] := hl
  obtain ⟨H, hHe⟩ : ∃ H : Heap, H = s.heap := ⟨_, rfl⟩
  obtain ⟨locs, hle⟩ : ∃ q : List Loc, q = [] := ⟨_, rfl⟩
  have hS : va_S A s.heap H locs := by rw [hHe, hle]; exact hS
  rw [← hHe] at hP
  suffices hgo : W p l e rmX7_personThen s m ([.ref o_t, .int x1, .int x2, .int x3] : List Value).toArray below meth c H locs 0 0 Q (F0 m 0 ls []) by rw [hHe, hle] at hgo; exact hgo
  clear hHe hle
  refine lv_aload_n hx hb dX7_personThen_0 rfl (lv_at hl 0 rfl) ?_
  refine lv_iload_n hx hb dX7_personThen_1 rfl (lv_at hl 1 rfl) ?_
  obtain ⟨r2, u2, h2, hf⟩ := bd_some hf
  refine calX0 (runV E0.b E0.n (As := [.int x1]) (rest := []) ⟨hx, hb, hml, hown, hts⟩ (c_X7_isOne l D cI o_t a_t S_t x1 _ h2) gX7_personThen_X7_isOne rfl rfl rfl hdX7_isOne ⟨by decide, by decide⟩ hK hP hD 0 rfl rfl rfl hl.1 rfl (Nat.le_of_ble_eq_true rfl) dX7_personThen_2 ⟨Nat.zero_le _, Nat.zero_le _⟩) hD hS hA (fun H locs hP hD hS => ?_)
  have hP : va_P D vwCl (gX7 o_t a_t cI u2) H := hP
  have hD : va_D A (gX7 o_t a_t cI u2) := hD
  refine W.eq (g2 := F0 m 5 ls [.int r2]) rfl ?_
  refine lv_if_ne (tgt := 12) hx hb dX7_personThen_5 (by decide) (fun c5 => ?_) (fun c5 => ?_)
  · replace hf := it_f c5 hf
    refine lv_iload_n hx hb dX7_personThen_12 rfl (lv_at hl 2 rfl) ?_
    obtain ⟨r13, u13, h13, hf⟩ := bd_some hf
    have hPc : va_P D vwCl [] H := hP.sub (ws' := []) [] rfl
    have hDc : va_D A [] := hD.sub (ws' := []) [] (by decide) rfl
    refine calXe (runS E0.b E0.n (As := [.int x2]) (rest := []) ⟨hx, hb, hml, hown, hts⟩ (c_X7_notDays l D cI x2 _ h13) gX7_personThen_X7_notDays rfl rfl rfl hdX7_notDays ⟨by decide, by decide⟩ hK hPc hDc rfl hl.1 rfl (Nat.le_of_ble_eq_true rfl) dX7_personThen_13 ⟨Nat.zero_le _, Nat.zero_le _⟩) hP hD hS hA (fun H locs hP hD hS => ?_)
    have hP : va_P D vwCl (gX7 o_t a_t cI u2) H := hP
    have hD : va_D A (gX7 o_t a_t cI u2) := hD
    refine W.eq (g2 := F0 m 16 ls [.int r13]) rfl ?_
    exact j16 u2 x1 x2 x3 r13 H locs ls hf hP hD hS (lv_sub hl [0, 1, 2, 3] rfl)
  · replace hf := it_t c5 hf
    refine lv_iconst (v := (-1 : Int32)) hx hb dX7_personThen_8 (by decide) ?_
    refine lv_goto (tgt := 16) hx hb dX7_personThen_9 (by decide) ?_
    exact j16 u2 x1 x2 x3 (-1 : Int32) H locs ls hf hP hD hS (lv_sub hl [0, 1, 2, 3] rfl)
abbrev rmX7_bellThen : Room := { frames := 5, cells := 0, slots := 0, locals := 112 }
set_option maxHeartbeats 4000000 in
set_option maxRecDepth 100000 in
theorem c_X7_bellThen (l : Launch) (D : va_G) (cI : ClassId) (o_t : Nat) (a_t : Nat → Nat) (S_t : G) (x1 : Int32) (x2 : Int32) (x3 : Int32) (out : Int32 × G) (hf : f_X7_bellThen S_t x1 x2 x3 = some out) : Cn E0 l yX7_bellThen wsX7_bellThen rmX7_bellThen D cI [.ref o_t, .int x1, .int x2, .int x3] (gX7 o_t a_t cI S_t) (some (.int out.1)) (gX7 o_t a_t cI out.2) := by
  refine Cn.mk (cc := cX7_bellThen) (maxL := 6) (ret := (some .int)) (by decide) rfl (Nat.le_of_ble_eq_true rfl) ?_
  intro p e s m below meth c A ls Q hx hb hml hown hts hK hA hP hD hS hl hr hlk hnm hE hQ
  have hown : s.vm.findClass RX7 = some m.cls := hown
  have j87 : ∀ (S_t : G) (s0 : Int32) (H : Heap) (locs : List Loc) (ls : Array Slot), f_X7_bellThen_87 S_t s0 = some out → va_P D vwCl (gX7 o_t a_t cI S_t) H → va_D A (gX7 o_t a_t cI S_t) → va_S A s.heap H locs → lv_has ls 6 [(0, .ref o_t)] → W p l e rmX7_bellThen s m ([.ref o_t, .int x1, .int x2, .int x3] : List Value).toArray below meth c H locs 0 0 Q (F0 m 87 ls [.int s0]) := by
    intro S_t s0 H locs ls hf hP hD hS hl
    unfold f_X7_bellThen_87 at hf
    refine lv_istore (lv' := [(5, .int s0), (0, .ref o_t)]) hx hb dX7_bellThen_87 hl (by decide) rfl (fun ls hl => ?_)
    refine lv_aload_n hx hb dX7_bellThen_89 rfl (lv_at hl 1 rfl) ?_
    obtain ⟨r90, u90, h90, hf⟩ := bd_some hf
    refine calX0 (runV E0.b E0.n (As := []) (rest := []) ⟨hx, hb, hml, hown, hts⟩ (c_X7_forgets l D cI o_t a_t S_t _ h90) gX7_bellThen_X7_forgets rfl rfl rfl hdX7_forgets ⟨by decide, by decide⟩ hK hP hD 0 rfl rfl rfl hl.1 rfl (Nat.le_of_ble_eq_true rfl) dX7_bellThen_90 ⟨Nat.zero_le _, Nat.zero_le _⟩) hD hS hA (fun H locs hP hD hS => ?_)
    have hP : va_P D vwCl (gX7 o_t a_t cI u90) H := hP
    have hD : va_D A (gX7 o_t a_t cI u90) := hD
    refine W.eq (g2 := F0 m 93 ls []) rfl ?_
    refine lv_iload hx hb dX7_bellThen_93 (lv_at hl 0 rfl) ?_
    have e := so_some hf
    subst e
    exact ri hx hb hK hr hlk hQ dX7_bellThen_95 hP hD hS
  have j36 : ∀ (S_t : G) (l1 : Int32) (l2 : Int32) (l3 : Int32) (l4 : Int32) (H : Heap) (locs : List Loc) (ls : Array Slot), f_X7_bellThen_36 S_t l1 l2 l3 l4 = some out → va_P D vwCl (gX7 o_t a_t cI S_t) H → va_D A (gX7 o_t a_t cI S_t) → va_S A s.heap H locs → lv_has ls 6 [(0, .ref o_t), (1, .int l1), (2, .int l2), (3, .int l3), (4, .int l4)] → W p l e rmX7_bellThen s m ([.ref o_t, .int x1, .int x2, .int x3] : List Value).toArray below meth c H locs 0 0 Q (F0 m 36 ls []) := by
    intro S_t l1 l2 l3 l4 H locs ls hf hP hD hS hl
    unfold f_X7_bellThen_36 at hf
    refine lv_iload hx hb dX7_bellThen_36 (lv_at hl 4 rfl) ?_
    refine lv_if_eq (tgt := 48) hx hb dX7_bellThen_38 (by decide) (fun c38 => ?_) (fun c38 => ?_)
    · replace hf := it_t c38 hf
      refine lv_aload_n hx hb dX7_bellThen_48 rfl (lv_at hl 0 rfl) ?_
      obtain ⟨r49, u49, h49, hf⟩ := bd_some hf
      refine calX0 (runV E0.b E0.n (As := []) (rest := []) ⟨hx, hb, hml, hown, hts⟩ (c_X7_thinks l D cI o_t a_t S_t _ h49) gX7_bellThen_X7_thinks rfl rfl rfl hdX7_thinks ⟨by decide, by decide⟩ hK hP hD 0 rfl rfl rfl hl.1 rfl (Nat.le_of_ble_eq_true rfl) dX7_bellThen_49 ⟨Nat.zero_le _, Nat.zero_le _⟩) hD hS hA (fun H locs hP hD hS => ?_)
      have hP : va_P D vwCl (gX7 o_t a_t cI u49) H := hP
      have hD : va_D A (gX7 o_t a_t cI u49) := hD
      refine W.eq (g2 := F0 m 52 ls []) rfl ?_
      refine lv_aload_n hx hb dX7_bellThen_52 rfl (lv_at hl 0 rfl) ?_
      refine lv_iload_n hx hb dX7_bellThen_53 rfl (lv_at hl 2 rfl) ?_
      obtain ⟨r54, u54, h54, hf⟩ := bd_some hf
      refine calX0 (runV E0.b E0.n (As := [.int l2]) (rest := []) ⟨hx, hb, hml, hown, hts⟩ (c_X7_goesOn l D cI o_t a_t u49 l2 _ h54) gX7_bellThen_X7_goesOn rfl rfl rfl hdX7_goesOn ⟨by decide, by decide⟩ hK hP hD 0 rfl rfl rfl hl.1 rfl (Nat.le_of_ble_eq_true rfl) dX7_bellThen_54 ⟨Nat.zero_le _, Nat.zero_le _⟩) hD hS hA (fun H locs hP hD hS => ?_)
      have hP : va_P D vwCl (gX7 o_t a_t cI u54) H := hP
      have hD : va_D A (gX7 o_t a_t cI u54) := hD
      refine W.eq (g2 := F0 m 57 ls []) rfl ?_
      refine lv_iload_n hx hb dX7_bellThen_57 rfl (lv_at hl 3 rfl) ?_
      refine lv_if_ne (tgt := 69) hx hb dX7_bellThen_58 (by decide) (fun c58 => ?_) (fun c58 => ?_)
      · replace hf := it_f c58 hf
        refine lv_aload_n hx hb dX7_bellThen_69 rfl (lv_at hl 0 rfl) ?_
        refine lv_iload_n hx hb dX7_bellThen_70 rfl (lv_at hl 1 rfl) ?_
        obtain ⟨r71, u71, h71, hf⟩ := bd_some hf
        refine calX0 (runV E0.b E0.n (As := [.int l1]) (rest := []) ⟨hx, hb, hml, hown, hts⟩ (c_X7_ringsNow l D cI o_t a_t u54 l1 _ h71) gX7_bellThen_X7_ringsNow rfl rfl rfl hdX7_ringsNow ⟨by decide, by decide⟩ hK hP hD 0 rfl rfl rfl hl.1 rfl (Nat.le_of_ble_eq_true rfl) dX7_bellThen_71 ⟨Nat.zero_le _, Nat.zero_le _⟩) hD hS hA (fun H locs hP hD hS => ?_)
        have hP : va_P D vwCl (gX7 o_t a_t cI u71) H := hP
        have hD : va_D A (gX7 o_t a_t cI u71) := hD
        refine W.eq (g2 := F0 m 74 ls [.int r71]) rfl ?_
        refine lv_if_eq (tgt := 85) hx hb dX7_bellThen_74 (by decide) (fun c74 => ?_) (fun c74 => ?_)
        · replace hf := it_t c74 hf
          refine lv_bipush (v := (-9 : Int32)) hx hb dX7_bellThen_85 (by decide) ?_
          exact j87 u71 (-9 : Int32) H locs ls hf hP hD hS (lv_sub hl [0] rfl)
        · replace hf := it_f c74 hf
          refine lv_aload_n hx hb dX7_bellThen_77 rfl (lv_at hl 0 rfl) ?_
          refine lv_iload_n hx hb dX7_bellThen_78 rfl (lv_at hl 1 rfl) ?_
          obtain ⟨r79, u79, h79, hf⟩ := bd_some hf
          refine calX0 (runV E0.b E0.n (As := [.int l1]) (rest := []) ⟨hx, hb, hml, hown, hts⟩ (c_X7_saidOf l D cI o_t a_t u71 l1 _ h79) gX7_bellThen_X7_saidOf rfl rfl rfl hdX7_saidOf ⟨by decide, by decide⟩ hK hP hD 0 rfl rfl rfl hl.1 rfl (Nat.le_of_ble_eq_true rfl) dX7_bellThen_79 ⟨Nat.zero_le _, Nat.zero_le _⟩) hD hS hA (fun H locs hP hD hS => ?_)
          have hP : va_P D vwCl (gX7 o_t a_t cI u79) H := hP
          have hD : va_D A (gX7 o_t a_t cI u79) := hD
          refine W.eq (g2 := F0 m 82 ls [.int r79]) rfl ?_
          refine lv_goto (tgt := 87) hx hb dX7_bellThen_82 (by decide) ?_
          exact j87 u79 r79 H locs ls hf hP hD hS (lv_sub hl [0] rfl)
      · replace hf := it_t c58 hf
        refine lv_aload_n hx hb dX7_bellThen_61 rfl (lv_at hl 0 rfl) ?_
        refine lv_iload_n hx hb dX7_bellThen_62 rfl (lv_at hl 1 rfl) ?_
        obtain ⟨r63, u63, h63, hf⟩ := bd_some hf
        refine calX0 (runV E0.b E0.n (As := [.int l1]) (rest := []) ⟨hx, hb, hml, hown, hts⟩ (c_X7_hearers l D cI o_t a_t u54 l1 _ h63) gX7_bellThen_X7_hearers rfl rfl rfl hdX7_hearers ⟨by decide, by decide⟩ hK hP hD 0 rfl rfl rfl hl.1 rfl (Nat.le_of_ble_eq_true rfl) dX7_bellThen_63 ⟨Nat.zero_le _, Nat.zero_le _⟩) hD hS hA (fun H locs hP hD hS => ?_)
        have hP : va_P D vwCl (gX7 o_t a_t cI u63) H := hP
        have hD : va_D A (gX7 o_t a_t cI u63) := hD
        refine W.eq (g2 := F0 m 66 ls [.int r63]) rfl ?_
        refine lv_goto (tgt := 87) hx hb dX7_bellThen_66 (by decide) ?_
        exact j87 u63 r63 H locs ls hf hP hD hS (lv_sub hl [0] rfl)
    · replace hf := it_f c38 hf
      refine lv_aload_n hx hb dX7_bellThen_41 rfl (lv_at hl 0 rfl) ?_
      refine lv_iload hx hb dX7_bellThen_42 (lv_at hl 4 rfl) ?_
      obtain ⟨r44, u44, h44, hf⟩ := bd_some hf
      refine calX0 (runV E0.b E0.n (As := [.int l4]) (rest := []) ⟨hx, hb, hml, hown, hts⟩ (c_X7_no l D cI o_t a_t S_t l4 _ h44) gX7_bellThen_X7_no rfl rfl rfl hdX7_no ⟨by decide, by decide⟩ hK hP hD 0 rfl rfl rfl hl.1 rfl (Nat.le_of_ble_eq_true rfl) dX7_bellThen_44 ⟨Nat.zero_le _, Nat.zero_le _⟩) hD hS hA (fun H locs hP hD hS => ?_)
      have hP : va_P D vwCl (gX7 o_t a_t cI u44) H := hP
      have hD : va_D A (gX7 o_t a_t cI u44) := hD
      refine W.eq (g2 := F0 m 47 ls [.int r44]) rfl ?_
      have e := so_some hf
      subst e
      exact ri hx hb hK hr hlk hQ dX7_bellThen_47 hP hD hS
  have j16 : ∀ (S_t : G) (l1 : Int32) (l2 : Int32) (l3 : Int32) (s0 : Int32) (H : Heap) (locs : List Loc) (ls : Array Slot), f_X7_bellThen_16 S_t l1 l2 l3 s0 = some out → va_P D vwCl (gX7 o_t a_t cI S_t) H → va_D A (gX7 o_t a_t cI S_t) → va_S A s.heap H locs → lv_has ls 6 [(0, .ref o_t), (1, .int l1), (2, .int l2), (3, .int l3)] → W p l e rmX7_bellThen s m ([.ref o_t, .int x1, .int x2, .int x3] : List Value).toArray below meth c H locs 0 0 Q (F0 m 16 ls [.int s0]) := by
    intro S_t l1 l2 l3 s0 H locs ls hf hP hD hS hl
    unfold f_X7_bellThen_16 at hf
    refine lv_istore (lv' := [(4, .int s0), (0, .ref o_t), (1, .int l1), (2, .int l2), (3, .int l3)]) hx hb dX7_bellThen_16 hl (by decide) rfl (fun ls hl => ?_)
    refine lv_iload hx hb dX7_bellThen_18 (lv_at hl 0 rfl) ?_
    refine lv_if_ne (tgt := 36) hx hb dX7_bellThen_20 (by decide) (fun c20 => ?_) (fun c20 => ?_)
    · replace hf := it_f c20 hf
      exact j36 S_t l1 l2 l3 s0 H locs ls hf hP hD hS (lv_sub hl [1, 2, 3, 4, 0] rfl)
    · replace hf := it_t c20 hf
      refine lv_iload_n hx hb dX7_bellThen_23 rfl (lv_at hl 4 rfl) ?_
      refine lv_iconst (v := (0 : Int32)) hx hb dX7_bellThen_24 (by decide) ?_
      refine lv_iconst (v := (1 : Int32)) hx hb dX7_bellThen_25 (by decide) ?_
      obtain ⟨r26, u26, h26, hf⟩ := bd_some hf
      have hPc : va_P D vwCl [] H := hP.sub (ws' := []) [] rfl
      have hDc : va_D A [] := hD.sub (ws' := []) [] (by decide) rfl
      refine calXe (runS E0.b E0.n (As := [.int l3, .int (0 : Int32), .int (1 : Int32)]) (rest := []) ⟨hx, hb, hml, hown, hts⟩ (c_X7_isIn l D cI l3 (0 : Int32) (1 : Int32) _ h26) gX7_bellThen_X7_isIn rfl rfl rfl hdX7_isIn ⟨by decide, by decide⟩ hK hPc hDc rfl hl.1 rfl (Nat.le_of_ble_eq_true rfl) dX7_bellThen_26 ⟨Nat.zero_le _, Nat.zero_le _⟩) hP hD hS hA (fun H locs hP hD hS => ?_)
      have hP : va_P D vwCl (gX7 o_t a_t cI S_t) H := hP
      have hD : va_D A (gX7 o_t a_t cI S_t) := hD
      refine W.eq (g2 := F0 m 29 ls [.int r26]) rfl ?_
      refine lv_if_ne (tgt := 36) hx hb dX7_bellThen_29 (by decide) (fun c29 => ?_) (fun c29 => ?_)
      · replace hf := it_f c29 hf
        exact j36 S_t l1 l2 l3 s0 H locs ls hf hP hD hS (lv_sub hl [1, 2, 3, 4, 0] rfl)
      · replace hf := it_t c29 hf
        refine lv_bipush (v := (-2 : Int32)) hx hb dX7_bellThen_32 (by decide) ?_
        refine lv_istore (lv' := [(4, .int (-2 : Int32)), (0, .ref o_t), (1, .int l1), (2, .int l2), (3, .int l3)]) hx hb dX7_bellThen_34 hl (by decide) rfl (fun ls hl => ?_)
        exact j36 S_t l1 l2 l3 (-2 : Int32) H locs ls hf hP hD hS (lv_sub hl [1, 2, 3, 4, 0] rfl)
  unfold f_X7_bellThen at hf
  have hl : lv_has ls 6 [(0, .ref o_t), (1, .int x1), (2, .int x2), (3, .int x3)] := hl
  obtain ⟨H, hHe⟩ : ∃ H : Heap, H = s.heap := ⟨_, rfl⟩
  obtain ⟨locs, hle⟩ : ∃ q : List Loc, q = [] := ⟨_, rfl⟩
  have hS : va_S A s.heap H locs := by rw [hHe, hle]; exact hS
  rw [← hHe] at hP
  suffices hgo : W p l e rmX7_bellThen s m ([.ref o_t, .int x1, .int x2, .int x3] : List Value).toArray below meth c H locs 0 0 Q (F0 m 0 ls []) by rw [hHe, hle] at hgo; exact hgo
  clear hHe hle
  refine lv_aload_n hx hb dX7_bellThen_0 rfl (lv_at hl 0 rfl) ?_
  refine lv_iload_n hx hb dX7_bellThen_1 rfl (lv_at hl 1 rfl) ?_
  obtain ⟨r2, u2, h2, hf⟩ := bd_some hf
  refine calX0 (runV E0.b E0.n (As := [.int x1]) (rest := []) ⟨hx, hb, hml, hown, hts⟩ (c_X7_isBell l D cI o_t a_t S_t x1 _ h2) gX7_bellThen_X7_isBell rfl rfl rfl hdX7_isBell ⟨by decide, by decide⟩ hK hP hD 0 rfl rfl rfl hl.1 rfl (Nat.le_of_ble_eq_true rfl) dX7_bellThen_2 ⟨Nat.zero_le _, Nat.zero_le _⟩) hD hS hA (fun H locs hP hD hS => ?_)
  have hP : va_P D vwCl (gX7 o_t a_t cI u2) H := hP
  have hD : va_D A (gX7 o_t a_t cI u2) := hD
  refine W.eq (g2 := F0 m 5 ls [.int r2]) rfl ?_
  refine lv_if_ne (tgt := 12) hx hb dX7_bellThen_5 (by decide) (fun c5 => ?_) (fun c5 => ?_)
  · replace hf := it_f c5 hf
    refine lv_iload_n hx hb dX7_bellThen_12 rfl (lv_at hl 2 rfl) ?_
    obtain ⟨r13, u13, h13, hf⟩ := bd_some hf
    have hPc : va_P D vwCl [] H := hP.sub (ws' := []) [] rfl
    have hDc : va_D A [] := hD.sub (ws' := []) [] (by decide) rfl
    refine calXe (runS E0.b E0.n (As := [.int x2]) (rest := []) ⟨hx, hb, hml, hown, hts⟩ (c_X7_notDays l D cI x2 _ h13) gX7_bellThen_X7_notDays rfl rfl rfl hdX7_notDays ⟨by decide, by decide⟩ hK hPc hDc rfl hl.1 rfl (Nat.le_of_ble_eq_true rfl) dX7_bellThen_13 ⟨Nat.zero_le _, Nat.zero_le _⟩) hP hD hS hA (fun H locs hP hD hS => ?_)
    have hP : va_P D vwCl (gX7 o_t a_t cI u2) H := hP
    have hD : va_D A (gX7 o_t a_t cI u2) := hD
    refine W.eq (g2 := F0 m 16 ls [.int r13]) rfl ?_
    exact j16 u2 x1 x2 x3 r13 H locs ls hf hP hD hS (lv_sub hl [0, 1, 2, 3] rfl)
  · replace hf := it_t c5 hf
    refine lv_iconst (v := (-1 : Int32)) hx hb dX7_bellThen_8 (by decide) ?_
    refine lv_goto (tgt := 16) hx hb dX7_bellThen_9 (by decide) ?_
    exact j16 u2 x1 x2 x3 (-1 : Int32) H locs ls hf hP hD hS (lv_sub hl [0, 1, 2, 3] rfl)
abbrev rmX7_deafAt : Room := { frames := 3, cells := 0, slots := 0, locals := 68 }
set_option maxHeartbeats 4000000 in
set_option maxRecDepth 100000 in
theorem c_X7_deafAt (l : Launch) (D : va_G) (cI : ClassId) (o_t : Nat) (a_t : Nat → Nat) (S_t : G) (x1 : Int32) (out : Int32 × G) (hf : f_X7_deafAt S_t x1 = some out) : Cn E0 l yX7_deafAt wsX7_deafAt rmX7_deafAt D cI [.ref o_t, .int x1] (gX7 o_t a_t cI S_t) (some (.int out.1)) (gX7 o_t a_t cI out.2) := by
  refine Cn.mk (cc := cX7_deafAt) (maxL := 4) (ret := (some .int)) (by decide) rfl (Nat.le_of_ble_eq_true rfl) ?_
  intro p e s m below meth c A ls Q hx hb hml hown hts hK hA hP hD hS hl hr hlk hnm hE hQ
  have hown : s.vm.findClass RX7 = some m.cls := hown
  have j45 : ∀ (S_t : G) (l2 : Int32) (H : Heap) (locs : List Loc) (ls : Array Slot), f_X7_deafAt_45 S_t l2 = some out → va_P D vwCl (gX7 o_t a_t cI S_t) H → va_D A (gX7 o_t a_t cI S_t) → va_S A s.heap H locs → lv_has ls 4 [(0, .ref o_t), (2, .int l2)] → W p l e rmX7_deafAt s m ([.ref o_t, .int x1] : List Value).toArray below meth c H locs 0 0 Q (F0 m 45 ls []) := by
    intro S_t l2 H locs ls hf hP hD hS hl
    unfold f_X7_deafAt_45 at hf
    refine lv_aload_n hx hb dX7_deafAt_45 rfl (lv_at hl 0 rfl) ?_
    obtain ⟨r46, u46, h46, hf⟩ := bd_some hf
    refine calX0 (runV E0.b E0.n (As := []) (rest := []) ⟨hx, hb, hml, hown, hts⟩ (c_X7_forgets l D cI o_t a_t S_t _ h46) gX7_deafAt_X7_forgets rfl rfl rfl hdX7_forgets ⟨by decide, by decide⟩ hK hP hD 0 rfl rfl rfl hl.1 rfl (Nat.le_of_ble_eq_true rfl) dX7_deafAt_46 ⟨Nat.zero_le _, Nat.zero_le _⟩) hD hS hA (fun H locs hP hD hS => ?_)
    have hP : va_P D vwCl (gX7 o_t a_t cI u46) H := hP
    have hD : va_D A (gX7 o_t a_t cI u46) := hD
    refine W.eq (g2 := F0 m 49 ls []) rfl ?_
    refine lv_iload_n hx hb dX7_deafAt_49 rfl (lv_at hl 1 rfl) ?_
    have e := so_some hf
    subst e
    exact ri hx hb hK hr hlk hQ dX7_deafAt_50 hP hD hS
  have j9 : ∀ (n9 : Nat) (S_t : G) (l1 : Int32) (l2 : Int32) (l3 : Int32) (H : Heap) (locs : List Loc) (ls : Array Slot), f_X7_deafAt_9 n9 S_t l1 l2 l3 = some out → va_P D vwCl (gX7 o_t a_t cI S_t) H → va_D A (gX7 o_t a_t cI S_t) → va_S A s.heap H locs → lv_has ls 4 [(0, .ref o_t), (1, .int l1), (2, .int l2), (3, .int l3)] → W p l e rmX7_deafAt s m ([.ref o_t, .int x1] : List Value).toArray below meth c H locs 0 0 Q (F0 m 9 ls []) := by
    intro n9
    induction n9 with
    | zero =>
      intro S_t l1 l2 l3 H locs ls hf
      exact no_some hf
    | succ n9 ih9 =>
      have j33 : ∀ (S_t : G) (l1 : Int32) (l3 : Int32) (s0 : Int32) (H : Heap) (locs : List Loc) (ls : Array Slot), f_X7_deafAt_33 (f_X7_deafAt_9 n9) S_t l1 l3 s0 = some out → va_P D vwCl (gX7 o_t a_t cI S_t) H → va_D A (gX7 o_t a_t cI S_t) → va_S A s.heap H locs → lv_has ls 4 [(0, .ref o_t), (1, .int l1), (3, .int l3)] → W p l e rmX7_deafAt s m ([.ref o_t, .int x1] : List Value).toArray below meth c H locs 0 0 Q (F0 m 33 ls [.int s0]) := by
        intro S_t l1 l3 s0 H locs ls hf hP hD hS hl
        unfold f_X7_deafAt_33 at hf
        refine lv_istore_n (lv' := [(2, .int s0), (0, .ref o_t), (1, .int l1), (3, .int l3)]) hx hb dX7_deafAt_33 rfl hl (by decide) rfl (fun ls hl => ?_)
        refine lv_aload_n hx hb dX7_deafAt_34 rfl (lv_at hl 1 rfl) ?_
        refine lv_iconst (v := (0 : Int32)) hx hb dX7_deafAt_35 (by decide) ?_
        obtain ⟨r36, u36, h36, hf⟩ := bd_some hf
        refine calX0 (runV E0.b E0.n (As := [.int (0 : Int32)]) (rest := []) ⟨hx, hb, hml, hown, hts⟩ (c_X7_goesDay l D cI o_t a_t S_t (0 : Int32) _ h36) gX7_deafAt_X7_goesDay rfl rfl rfl hdX7_goesDay ⟨by decide, by decide⟩ hK hP hD 0 rfl rfl rfl hl.1 rfl (Nat.le_of_ble_eq_true rfl) dX7_deafAt_36 ⟨Nat.zero_le _, Nat.zero_le _⟩) hD hS hA (fun H locs hP hD hS => ?_)
        have hP : va_P D vwCl (gX7 o_t a_t cI u36) H := hP
        have hD : va_D A (gX7 o_t a_t cI u36) := hD
        refine W.eq (g2 := F0 m 39 ls []) rfl ?_
        refine lv_iinc (v := l3 + (1 : Int32)) (lv' := [(3, .int (l3 + (1 : Int32))), (2, .int s0), (0, .ref o_t), (1, .int l1)]) hx hb dX7_deafAt_39 hl (k := 3) rfl rfl (by decide) rfl (fun ls hl => ?_)
        refine lv_goto (tgt := 9) hx hb dX7_deafAt_42 (by decide) ?_
        exact ih9 u36 l1 s0 (l3 + (1 : Int32)) H locs ls hf hP hD hS (lv_sub hl [2, 3, 1, 0] rfl)
      intro S_t l1 l2 l3 H locs ls hf hP hD hS hl
      replace hf : b_X7_deafAt_9 (f_X7_deafAt_9 n9) S_t l1 l2 l3 = some out := hf
      unfold b_X7_deafAt_9 at hf
      refine lv_iload_n hx hb dX7_deafAt_9 rfl (lv_at hl 3 rfl) ?_
      refine lv_bipush (v := (99 : Int32)) hx hb dX7_deafAt_10 (by decide) ?_
      refine lv_icmp_gt (tgt := 45) hx hb dX7_deafAt_12 (by decide) (fun c12 => ?_) (fun c12 => ?_)
      · replace hf := it_t c12 hf
        exact j45 S_t l2 H locs ls hf hP hD hS (lv_sub hl [0, 2] rfl)
      · replace hf := it_f c12 hf
        refine lv_iload_n hx hb dX7_deafAt_15 rfl (lv_at hl 2 rfl) ?_
        refine lv_if_ge (tgt := 45) hx hb dX7_deafAt_16 (by decide) (fun c16 => ?_) (fun c16 => ?_)
        · replace hf := it_t c16 hf
          exact j45 S_t l2 H locs ls hf hP hD hS (lv_sub hl [0, 2] rfl)
        · replace hf := it_f c16 hf
          refine lv_aload_n hx hb dX7_deafAt_19 rfl (lv_at hl 0 rfl) ?_
          refine lv_iload_n hx hb dX7_deafAt_20 rfl (lv_at hl 1 rfl) ?_
          obtain ⟨r21, u21, h21, hf⟩ := bd_some hf
          refine calX0 (runV E0.b E0.n (As := [.int l1]) (rest := []) ⟨hx, hb, hml, hown, hts⟩ (c_X7_hearsSome l D cI o_t a_t S_t l1 _ h21) gX7_deafAt_X7_hearsSome rfl rfl rfl hdX7_hearsSome ⟨by decide, by decide⟩ hK hP hD 0 rfl rfl rfl hl.1 rfl (Nat.le_of_ble_eq_true rfl) dX7_deafAt_21 ⟨Nat.zero_le _, Nat.zero_le _⟩) hD hS hA (fun H locs hP hD hS => ?_)
          have hP : va_P D vwCl (gX7 o_t a_t cI u21) H := hP
          have hD : va_D A (gX7 o_t a_t cI u21) := hD
          refine W.eq (g2 := F0 m 24 ls [.int r21]) rfl ?_
          refine lv_if_eq (tgt := 32) hx hb dX7_deafAt_24 (by decide) (fun c24 => ?_) (fun c24 => ?_)
          · replace hf := it_t c24 hf
            refine lv_iload_n hx hb dX7_deafAt_32 rfl (lv_at hl 3 rfl) ?_
            exact j33 u21 l1 l3 l3 H locs ls hf hP hD hS (lv_sub hl [0, 1, 3] rfl)
          · replace hf := it_f c24 hf
            refine lv_bipush (v := (-9 : Int32)) hx hb dX7_deafAt_27 (by decide) ?_
            refine lv_goto (tgt := 33) hx hb dX7_deafAt_29 (by decide) ?_
            exact j33 u21 l1 l3 (-9 : Int32) H locs ls hf hP hD hS (lv_sub hl [0, 1, 3] rfl)
  unfold f_X7_deafAt at hf
  have hl : lv_has ls 4 [(0, .ref o_t), (1, .int x1)] := hl
  obtain ⟨H, hHe⟩ : ∃ H : Heap, H = s.heap := ⟨_, rfl⟩
  obtain ⟨locs, hle⟩ : ∃ q : List Loc, q = [] := ⟨_, rfl⟩
  have hS : va_S A s.heap H locs := by rw [hHe, hle]; exact hS
  rw [← hHe] at hP
  suffices hgo : W p l e rmX7_deafAt s m ([.ref o_t, .int x1] : List Value).toArray below meth c H locs 0 0 Q (F0 m 0 ls []) by rw [hHe, hle] at hgo; exact hgo
  clear hHe hle
  refine lv_aload_n hx hb dX7_deafAt_0 rfl (lv_at hl 0 rfl) ?_
  obtain ⟨r1, u1, h1, hf⟩ := bd_some hf
  refine calX0 (runV E0.b E0.n (As := []) (rest := []) ⟨hx, hb, hml, hown, hts⟩ (c_X7_thinks l D cI o_t a_t S_t _ h1) gX7_deafAt_X7_thinks rfl rfl rfl hdX7_thinks ⟨by decide, by decide⟩ hK hP hD 0 rfl rfl rfl hl.1 rfl (Nat.le_of_ble_eq_true rfl) dX7_deafAt_1 ⟨Nat.zero_le _, Nat.zero_le _⟩) hD hS hA (fun H locs hP hD hS => ?_)
  have hP : va_P D vwCl (gX7 o_t a_t cI u1) H := hP
  have hD : va_D A (gX7 o_t a_t cI u1) := hD
  refine W.eq (g2 := F0 m 4 ls []) rfl ?_
  refine lv_bipush (v := (-9 : Int32)) hx hb dX7_deafAt_4 (by decide) ?_
  refine lv_istore_n (lv' := [(2, .int (-9 : Int32)), (0, .ref o_t), (1, .int x1)]) hx hb dX7_deafAt_6 rfl hl (by decide) rfl (fun ls hl => ?_)
  refine lv_iconst (v := (0 : Int32)) hx hb dX7_deafAt_7 (by decide) ?_
  refine lv_istore_n (lv' := [(3, .int (0 : Int32)), (2, .int (-9 : Int32)), (0, .ref o_t), (1, .int x1)]) hx hb dX7_deafAt_8 rfl hl (by decide) rfl (fun ls hl => ?_)
  exact j9 1000 u1 x1 (-9 : Int32) (0 : Int32) H locs ls hf hP hD hS (lv_sub hl [2, 3, 1, 0] rfl)
abbrev rmX7_deaf : Room := { frames := 4, cells := 0, slots := 0, locals := 91 }
set_option maxHeartbeats 4000000 in
set_option maxRecDepth 100000 in
theorem c_X7_deaf (l : Launch) (D : va_G) (cI : ClassId) (o_t : Nat) (a_t : Nat → Nat) (S_t : G) (x1 : Int32) (out : Int32 × G) (hf : f_X7_deaf S_t x1 = some out) : Cn E0 l yX7_deaf wsX7_deaf rmX7_deaf D cI [.ref o_t, .int x1] (gX7 o_t a_t cI S_t) (some (.int out.1)) (gX7 o_t a_t cI out.2) := by
  refine Cn.mk (cc := cX7_deaf) (maxL := 2) (ret := (some .int)) (by decide) rfl (Nat.le_of_ble_eq_true rfl) ?_
  intro p e s m below meth c A ls Q hx hb hml hown hts hK hA hP hD hS hl hr hlk hnm hE hQ
  have hown : s.vm.findClass RX7 = some m.cls := hown
  unfold f_X7_deaf at hf
  have hl : lv_has ls 2 [(0, .ref o_t), (1, .int x1)] := hl
  obtain ⟨H, hHe⟩ : ∃ H : Heap, H = s.heap := ⟨_, rfl⟩
  obtain ⟨locs, hle⟩ : ∃ q : List Loc, q = [] := ⟨_, rfl⟩
  have hS : va_S A s.heap H locs := by rw [hHe, hle]; exact hS
  rw [← hHe] at hP
  suffices hgo : W p l e rmX7_deaf s m ([.ref o_t, .int x1] : List Value).toArray below meth c H locs 0 0 Q (F0 m 0 ls []) by rw [hHe, hle] at hgo; exact hgo
  clear hHe hle
  refine lv_aload_n hx hb dX7_deaf_0 rfl (lv_at hl 0 rfl) ?_
  refine lv_iload_n hx hb dX7_deaf_1 rfl (lv_at hl 1 rfl) ?_
  obtain ⟨r2, u2, h2, hf⟩ := bd_some hf
  refine calX0 (runV E0.b E0.n (As := [.int x1]) (rest := []) ⟨hx, hb, hml, hown, hts⟩ (c_X7_isOne l D cI o_t a_t S_t x1 _ h2) gX7_deaf_X7_isOne rfl rfl rfl hdX7_isOne ⟨by decide, by decide⟩ hK hP hD 0 rfl rfl rfl hl.1 rfl (Nat.le_of_ble_eq_true rfl) dX7_deaf_2 ⟨Nat.zero_le _, Nat.zero_le _⟩) hD hS hA (fun H locs hP hD hS => ?_)
  have hP : va_P D vwCl (gX7 o_t a_t cI u2) H := hP
  have hD : va_D A (gX7 o_t a_t cI u2) := hD
  refine W.eq (g2 := F0 m 5 ls [.int r2]) rfl ?_
  refine lv_if_eq (tgt := 16) hx hb dX7_deaf_5 (by decide) (fun c5 => ?_) (fun c5 => ?_)
  · replace hf := it_t c5 hf
    refine lv_aload_n hx hb dX7_deaf_16 rfl (lv_at hl 0 rfl) ?_
    refine lv_iconst (v := (-1 : Int32)) hx hb dX7_deaf_17 (by decide) ?_
    obtain ⟨r18, u18, h18, hf⟩ := bd_some hf
    refine calX0 (runV E0.b E0.n (As := [.int (-1 : Int32)]) (rest := []) ⟨hx, hb, hml, hown, hts⟩ (c_X7_no l D cI o_t a_t u2 (-1 : Int32) _ h18) gX7_deaf_X7_no rfl rfl rfl hdX7_no ⟨by decide, by decide⟩ hK hP hD 0 rfl rfl rfl hl.1 rfl (Nat.le_of_ble_eq_true rfl) dX7_deaf_18 ⟨Nat.zero_le _, Nat.zero_le _⟩) hD hS hA (fun H locs hP hD hS => ?_)
    have hP : va_P D vwCl (gX7 o_t a_t cI u18) H := hP
    have hD : va_D A (gX7 o_t a_t cI u18) := hD
    refine W.eq (g2 := F0 m 21 ls [.int r18]) rfl ?_
    have e := so_some hf
    subst e
    exact ri hx hb hK hr hlk hQ dX7_deaf_21 hP hD hS
  · replace hf := it_f c5 hf
    refine lv_aload_n hx hb dX7_deaf_8 rfl (lv_at hl 0 rfl) ?_
    refine lv_iload_n hx hb dX7_deaf_9 rfl (lv_at hl 1 rfl) ?_
    obtain ⟨r10, u10, h10, hf⟩ := bd_some hf
    refine calX0 (runV E0.b E0.n (As := [.int x1]) (rest := []) ⟨hx, hb, hml, hown, hts⟩ (c_X7_deafAt l D cI o_t a_t u2 x1 _ h10) gX7_deaf_X7_deafAt rfl rfl rfl hdX7_deafAt ⟨by decide, by decide⟩ hK hP hD 0 rfl rfl rfl hl.1 rfl (Nat.le_of_ble_eq_true rfl) dX7_deaf_10 ⟨Nat.zero_le _, Nat.zero_le _⟩) hD hS hA (fun H locs hP hD hS => ?_)
    have hP : va_P D vwCl (gX7 o_t a_t cI u10) H := hP
    have hD : va_D A (gX7 o_t a_t cI u10) := hD
    refine W.eq (g2 := F0 m 13 ls [.int r10]) rfl ?_
    refine lv_goto (tgt := 21) hx hb dX7_deaf_13 (by decide) ?_
    have e := so_some hf
    subst e
    exact ri hx hb hK hr hlk hQ dX7_deaf_21 hP hD hS
abbrev rmX7_lostAt : Room := { frames := 3, cells := 0, slots := 0, locals := 68 }
set_option maxHeartbeats 4000000 in
set_option maxRecDepth 100000 in
theorem c_X7_lostAt (l : Launch) (D : va_G) (cI : ClassId) (o_t : Nat) (a_t : Nat → Nat) (S_t : G) (x1 : Int32) (out : Int32 × G) (hf : f_X7_lostAt S_t x1 = some out) : Cn E0 l yX7_lostAt wsX7_lostAt rmX7_lostAt D cI [.ref o_t, .int x1] (gX7 o_t a_t cI S_t) (some (.int out.1)) (gX7 o_t a_t cI out.2) := by
  refine Cn.mk (cc := cX7_lostAt) (maxL := 4) (ret := (some .int)) (by decide) rfl (Nat.le_of_ble_eq_true rfl) ?_
  intro p e s m below meth c A ls Q hx hb hml hown hts hK hA hP hD hS hl hr hlk hnm hE hQ
  have hown : s.vm.findClass RX7 = some m.cls := hown
  have j56 : ∀ (S_t : G) (l2 : Int32) (H : Heap) (locs : List Loc) (ls : Array Slot), f_X7_lostAt_56 S_t l2 = some out → va_P D vwCl (gX7 o_t a_t cI S_t) H → va_D A (gX7 o_t a_t cI S_t) → va_S A s.heap H locs → lv_has ls 4 [(0, .ref o_t), (2, .int l2)] → W p l e rmX7_lostAt s m ([.ref o_t, .int x1] : List Value).toArray below meth c H locs 0 0 Q (F0 m 56 ls []) := by
    intro S_t l2 H locs ls hf hP hD hS hl
    unfold f_X7_lostAt_56 at hf
    refine lv_aload_n hx hb dX7_lostAt_56 rfl (lv_at hl 0 rfl) ?_
    obtain ⟨r57, u57, h57, hf⟩ := bd_some hf
    refine calX0 (runV E0.b E0.n (As := []) (rest := []) ⟨hx, hb, hml, hown, hts⟩ (c_X7_forgets l D cI o_t a_t S_t _ h57) gX7_lostAt_X7_forgets rfl rfl rfl hdX7_forgets ⟨by decide, by decide⟩ hK hP hD 0 rfl rfl rfl hl.1 rfl (Nat.le_of_ble_eq_true rfl) dX7_lostAt_57 ⟨Nat.zero_le _, Nat.zero_le _⟩) hD hS hA (fun H locs hP hD hS => ?_)
    have hP : va_P D vwCl (gX7 o_t a_t cI u57) H := hP
    have hD : va_D A (gX7 o_t a_t cI u57) := hD
    refine W.eq (g2 := F0 m 60 ls []) rfl ?_
    refine lv_iload_n hx hb dX7_lostAt_60 rfl (lv_at hl 1 rfl) ?_
    have e := so_some hf
    subst e
    exact ri hx hb hK hr hlk hQ dX7_lostAt_61 hP hD hS
  have j20 : ∀ (n20 : Nat) (S_t : G) (l1 : Int32) (l2 : Int32) (l3 : Int32) (H : Heap) (locs : List Loc) (ls : Array Slot), f_X7_lostAt_20 n20 S_t l1 l2 l3 = some out → va_P D vwCl (gX7 o_t a_t cI S_t) H → va_D A (gX7 o_t a_t cI S_t) → va_S A s.heap H locs → lv_has ls 4 [(0, .ref o_t), (1, .int l1), (2, .int l2), (3, .int l3)] → W p l e rmX7_lostAt s m ([.ref o_t, .int x1] : List Value).toArray below meth c H locs 0 0 Q (F0 m 20 ls []) := by
    intro n20
    induction n20 with
    | zero =>
      intro S_t l1 l2 l3 H locs ls hf
      exact no_some hf
    | succ n20 ih20 =>
      have j44 : ∀ (S_t : G) (l1 : Int32) (l3 : Int32) (s0 : Int32) (H : Heap) (locs : List Loc) (ls : Array Slot), f_X7_lostAt_44 (f_X7_lostAt_20 n20) S_t l1 l3 s0 = some out → va_P D vwCl (gX7 o_t a_t cI S_t) H → va_D A (gX7 o_t a_t cI S_t) → va_S A s.heap H locs → lv_has ls 4 [(0, .ref o_t), (1, .int l1), (3, .int l3)] → W p l e rmX7_lostAt s m ([.ref o_t, .int x1] : List Value).toArray below meth c H locs 0 0 Q (F0 m 44 ls [.int s0]) := by
        intro S_t l1 l3 s0 H locs ls hf hP hD hS hl
        unfold f_X7_lostAt_44 at hf
        refine lv_istore_n (lv' := [(2, .int s0), (0, .ref o_t), (1, .int l1), (3, .int l3)]) hx hb dX7_lostAt_44 rfl hl (by decide) rfl (fun ls hl => ?_)
        refine lv_aload_n hx hb dX7_lostAt_45 rfl (lv_at hl 1 rfl) ?_
        refine lv_iconst (v := (0 : Int32)) hx hb dX7_lostAt_46 (by decide) ?_
        obtain ⟨r47, u47, h47, hf⟩ := bd_some hf
        refine calX0 (runV E0.b E0.n (As := [.int (0 : Int32)]) (rest := []) ⟨hx, hb, hml, hown, hts⟩ (c_X7_goesDay l D cI o_t a_t S_t (0 : Int32) _ h47) gX7_lostAt_X7_goesDay rfl rfl rfl hdX7_goesDay ⟨by decide, by decide⟩ hK hP hD 0 rfl rfl rfl hl.1 rfl (Nat.le_of_ble_eq_true rfl) dX7_lostAt_47 ⟨Nat.zero_le _, Nat.zero_le _⟩) hD hS hA (fun H locs hP hD hS => ?_)
        have hP : va_P D vwCl (gX7 o_t a_t cI u47) H := hP
        have hD : va_D A (gX7 o_t a_t cI u47) := hD
        refine W.eq (g2 := F0 m 50 ls []) rfl ?_
        refine lv_iinc (v := l3 + (1 : Int32)) (lv' := [(3, .int (l3 + (1 : Int32))), (2, .int s0), (0, .ref o_t), (1, .int l1)]) hx hb dX7_lostAt_50 hl (k := 3) rfl rfl (by decide) rfl (fun ls hl => ?_)
        refine lv_goto (tgt := 20) hx hb dX7_lostAt_53 (by decide) ?_
        exact ih20 u47 l1 s0 (l3 + (1 : Int32)) H locs ls hf hP hD hS (lv_sub hl [2, 3, 1, 0] rfl)
      intro S_t l1 l2 l3 H locs ls hf hP hD hS hl
      replace hf : b_X7_lostAt_20 (f_X7_lostAt_20 n20) S_t l1 l2 l3 = some out := hf
      unfold b_X7_lostAt_20 at hf
      refine lv_iload_n hx hb dX7_lostAt_20 rfl (lv_at hl 3 rfl) ?_
      refine lv_bipush (v := (99 : Int32)) hx hb dX7_lostAt_21 (by decide) ?_
      refine lv_icmp_gt (tgt := 56) hx hb dX7_lostAt_23 (by decide) (fun c23 => ?_) (fun c23 => ?_)
      · replace hf := it_t c23 hf
        exact j56 S_t l2 H locs ls hf hP hD hS (lv_sub hl [0, 2] rfl)
      · replace hf := it_f c23 hf
        refine lv_iload_n hx hb dX7_lostAt_26 rfl (lv_at hl 2 rfl) ?_
        refine lv_if_ge (tgt := 56) hx hb dX7_lostAt_27 (by decide) (fun c27 => ?_) (fun c27 => ?_)
        · replace hf := it_t c27 hf
          exact j56 S_t l2 H locs ls hf hP hD hS (lv_sub hl [0, 2] rfl)
        · replace hf := it_f c27 hf
          refine lv_aload_n hx hb dX7_lostAt_30 rfl (lv_at hl 0 rfl) ?_
          refine lv_iload_n hx hb dX7_lostAt_31 rfl (lv_at hl 1 rfl) ?_
          obtain ⟨r32, u32, h32, hf⟩ := bd_some hf
          refine calX0 (runV E0.b E0.n (As := [.int l1]) (rest := []) ⟨hx, hb, hml, hown, hts⟩ (c_X7_hearers l D cI o_t a_t S_t l1 _ h32) gX7_lostAt_X7_hearers rfl rfl rfl hdX7_hearers ⟨by decide, by decide⟩ hK hP hD 0 rfl rfl rfl hl.1 rfl (Nat.le_of_ble_eq_true rfl) dX7_lostAt_32 ⟨Nat.zero_le _, Nat.zero_le _⟩) hD hS hA (fun H locs hP hD hS => ?_)
          have hP : va_P D vwCl (gX7 o_t a_t cI u32) H := hP
          have hD : va_D A (gX7 o_t a_t cI u32) := hD
          refine W.eq (g2 := F0 m 35 ls [.int r32]) rfl ?_
          refine lv_if_ne (tgt := 42) hx hb dX7_lostAt_35 (by decide) (fun c35 => ?_) (fun c35 => ?_)
          · replace hf := it_f c35 hf
            refine lv_bipush (v := (-9 : Int32)) hx hb dX7_lostAt_42 (by decide) ?_
            exact j44 u32 l1 l3 (-9 : Int32) H locs ls hf hP hD hS (lv_sub hl [0, 1, 3] rfl)
          · replace hf := it_t c35 hf
            refine lv_iload_n hx hb dX7_lostAt_38 rfl (lv_at hl 3 rfl) ?_
            refine lv_goto (tgt := 44) hx hb dX7_lostAt_39 (by decide) ?_
            exact j44 u32 l1 l3 l3 H locs ls hf hP hD hS (lv_sub hl [0, 1, 3] rfl)
  unfold f_X7_lostAt at hf
  have hl : lv_has ls 4 [(0, .ref o_t), (1, .int x1)] := hl
  obtain ⟨H, hHe⟩ : ∃ H : Heap, H = s.heap := ⟨_, rfl⟩
  obtain ⟨locs, hle⟩ : ∃ q : List Loc, q = [] := ⟨_, rfl⟩
  have hS : va_S A s.heap H locs := by rw [hHe, hle]; exact hS
  rw [← hHe] at hP
  suffices hgo : W p l e rmX7_lostAt s m ([.ref o_t, .int x1] : List Value).toArray below meth c H locs 0 0 Q (F0 m 0 ls []) by rw [hHe, hle] at hgo; exact hgo
  clear hHe hle
  refine lv_aload_n hx hb dX7_lostAt_0 rfl (lv_at hl 0 rfl) ?_
  refine lv_iload_n hx hb dX7_lostAt_1 rfl (lv_at hl 1 rfl) ?_
  obtain ⟨r2, u2, h2, hf⟩ := bd_some hf
  refine calX0 (runV E0.b E0.n (As := [.int x1]) (rest := []) ⟨hx, hb, hml, hown, hts⟩ (c_X7_hearers l D cI o_t a_t S_t x1 _ h2) gX7_lostAt_X7_hearers rfl rfl rfl hdX7_hearers ⟨by decide, by decide⟩ hK hP hD 0 rfl rfl rfl hl.1 rfl (Nat.le_of_ble_eq_true rfl) dX7_lostAt_2 ⟨Nat.zero_le _, Nat.zero_le _⟩) hD hS hA (fun H locs hP hD hS => ?_)
  have hP : va_P D vwCl (gX7 o_t a_t cI u2) H := hP
  have hD : va_D A (gX7 o_t a_t cI u2) := hD
  refine W.eq (g2 := F0 m 5 ls [.int r2]) rfl ?_
  refine lv_if_ne (tgt := 11) hx hb dX7_lostAt_5 (by decide) (fun c5 => ?_) (fun c5 => ?_)
  · replace hf := it_f c5 hf
    refine lv_aload_n hx hb dX7_lostAt_11 rfl (lv_at hl 0 rfl) ?_
    obtain ⟨r12, u12, h12, hf⟩ := bd_some hf
    refine calX0 (runV E0.b E0.n (As := []) (rest := []) ⟨hx, hb, hml, hown, hts⟩ (c_X7_thinks l D cI o_t a_t u2 _ h12) gX7_lostAt_X7_thinks rfl rfl rfl hdX7_thinks ⟨by decide, by decide⟩ hK hP hD 0 rfl rfl rfl hl.1 rfl (Nat.le_of_ble_eq_true rfl) dX7_lostAt_12 ⟨Nat.zero_le _, Nat.zero_le _⟩) hD hS hA (fun H locs hP hD hS => ?_)
    have hP : va_P D vwCl (gX7 o_t a_t cI u12) H := hP
    have hD : va_D A (gX7 o_t a_t cI u12) := hD
    refine W.eq (g2 := F0 m 15 ls []) rfl ?_
    refine lv_bipush (v := (-9 : Int32)) hx hb dX7_lostAt_15 (by decide) ?_
    refine lv_istore_n (lv' := [(2, .int (-9 : Int32)), (0, .ref o_t), (1, .int x1)]) hx hb dX7_lostAt_17 rfl hl (by decide) rfl (fun ls hl => ?_)
    refine lv_iconst (v := (0 : Int32)) hx hb dX7_lostAt_18 (by decide) ?_
    refine lv_istore_n (lv' := [(3, .int (0 : Int32)), (2, .int (-9 : Int32)), (0, .ref o_t), (1, .int x1)]) hx hb dX7_lostAt_19 rfl hl (by decide) rfl (fun ls hl => ?_)
    exact j20 1000 u12 x1 (-9 : Int32) (0 : Int32) H locs ls hf hP hD hS (lv_sub hl [2, 3, 1, 0] rfl)
  · replace hf := it_t c5 hf
    refine lv_bipush (v := (-9 : Int32)) hx hb dX7_lostAt_8 (by decide) ?_
    have e := so_some hf
    subst e
    exact ri hx hb hK hr hlk hQ dX7_lostAt_10 hP hD hS
abbrev rmX7_lost : Room := { frames := 4, cells := 0, slots := 0, locals := 91 }
set_option maxHeartbeats 4000000 in
set_option maxRecDepth 100000 in
theorem c_X7_lost (l : Launch) (D : va_G) (cI : ClassId) (o_t : Nat) (a_t : Nat → Nat) (S_t : G) (x1 : Int32) (out : Int32 × G) (hf : f_X7_lost S_t x1 = some out) : Cn E0 l yX7_lost wsX7_lost rmX7_lost D cI [.ref o_t, .int x1] (gX7 o_t a_t cI S_t) (some (.int out.1)) (gX7 o_t a_t cI out.2) := by
  refine Cn.mk (cc := cX7_lost) (maxL := 6) (ret := (some .int)) (by decide) rfl (Nat.le_of_ble_eq_true rfl) ?_
  intro p e s m below meth c A ls Q hx hb hml hown hts hK hA hP hD hS hl hr hlk hnm hE hQ
  have hown : s.vm.findClass RX7 = some m.cls := hown
  have hinX7 : ∀ w ∈ u_ws RX7 TX7 26, w ∈ wsX7_lost := by decide +kernel
  have j25 : ∀ (n25 : Nat) (S_t : G) (l1 : Int32) (l2 : Int32) (l3 : Int32) (l4 : Int32) (H : Heap) (locs : List Loc) (ls : Array Slot), f_X7_lost_25 n25 S_t l1 l2 l3 l4 = some out → va_P D vwCl (gX7 o_t a_t cI S_t) H → va_D A (gX7 o_t a_t cI S_t) → va_S A s.heap H locs → lv_has ls 6 [(0, .ref o_t), (1, .int l1), (2, .int l2), (3, .int l3), (4, .int l4)] → W p l e rmX7_lost s m ([.ref o_t, .int x1] : List Value).toArray below meth c H locs 0 0 Q (F0 m 25 ls []) := by
    intro n25
    induction n25 with
    | zero =>
      intro S_t l1 l2 l3 l4 H locs ls hf
      exact no_some hf
    | succ n25 ih25 =>
      intro S_t l1 l2 l3 l4 H locs ls hf hP hD hS hl
      replace hf : b_X7_lost_25 (f_X7_lost_25 n25) S_t l1 l2 l3 l4 = some out := hf
      unfold b_X7_lost_25 at hf
      refine lv_iload hx hb dX7_lost_25 (lv_at hl 4 rfl) ?_
      refine lv_aload_n hx hb dX7_lost_27 rfl (lv_at hl 0 rfl) ?_
      refine va_get (D := D) (ci := 7) (v := .int (S_t.1 7)) (C := RX7) (T := TX7) (N := 26) hx hb hts hinX7 hown hK hP 0 rfl rfl 7 (by decide) (hts (.fieldLink RX7 62 "OnlyStrangersHearModel" "bells" "I") (by decide +kernel)) (fun _ h9 => h9) rfl dX7_lost_28 ?_
      refine lv_icmp_ge (tgt := 72) hx hb dX7_lost_31 (by decide) (fun c31 => ?_) (fun c31 => ?_)
      · replace hf := it_t c31 hf
        refine lv_iload_n hx hb dX7_lost_72 rfl (lv_at hl 1 rfl) ?_
        refine lv_if_ne (tgt := 80) hx hb dX7_lost_73 (by decide) (fun c73 => ?_) (fun c73 => ?_)
        · replace hf := it_f c73 hf
          refine lv_iload_n hx hb dX7_lost_80 rfl (lv_at hl 3 rfl) ?_
          have e := so_some hf
          subst e
          exact ri hx hb hK hr hlk hQ dX7_lost_81 hP hD hS
        · replace hf := it_t c73 hf
          refine lv_iload_n hx hb dX7_lost_76 rfl (lv_at hl 2 rfl) ?_
          refine lv_goto (tgt := 81) hx hb dX7_lost_77 (by decide) ?_
          have e := so_some hf
          subst e
          exact ri hx hb hK hr hlk hQ dX7_lost_81 hP hD hS
      · replace hf := it_f c31 hf
        refine lv_aload_n hx hb dX7_lost_34 rfl (lv_at hl 0 rfl) ?_
        refine lv_iload hx hb dX7_lost_35 (lv_at hl 4 rfl) ?_
        obtain ⟨r37, u37, h37, hf⟩ := bd_some hf
        refine calX0 (runV E0.b E0.n (As := [.int l4]) (rest := []) ⟨hx, hb, hml, hown, hts⟩ (c_X7_lostAt l D cI o_t a_t S_t l4 _ h37) gX7_lost_X7_lostAt rfl rfl rfl hdX7_lostAt ⟨by decide, by decide⟩ hK hP hD 0 rfl rfl rfl hl.1 rfl (Nat.le_of_ble_eq_true rfl) dX7_lost_37 ⟨Nat.zero_le _, Nat.zero_le _⟩) hD hS hA (fun H locs hP hD hS => ?_)
        have hP : va_P D vwCl (gX7 o_t a_t cI u37) H := hP
        have hD : va_D A (gX7 o_t a_t cI u37) := hD
        refine W.eq (g2 := F0 m 40 ls [.int r37]) rfl ?_
        refine lv_istore (lv' := [(5, .int r37), (0, .ref o_t), (1, .int l1), (2, .int l2), (3, .int l3), (4, .int l4)]) hx hb dX7_lost_40 hl (by decide) rfl (fun ls hl => ?_)
        refine lv_iload hx hb dX7_lost_42 (lv_at hl 0 rfl) ?_
        refine lv_if_lt (tgt := 66) hx hb dX7_lost_44 (by decide) (fun c44 => ?_) (fun c44 => ?_)
        · replace hf := it_t c44 hf
          refine lv_iinc (v := l4 + (1 : Int32)) (lv' := [(4, .int (l4 + (1 : Int32))), (5, .int r37), (0, .ref o_t), (1, .int l1), (2, .int l2), (3, .int l3)]) hx hb dX7_lost_66 hl (k := 5) rfl rfl (by decide) rfl (fun ls hl => ?_)
          refine lv_goto (tgt := 25) hx hb dX7_lost_69 (by decide) ?_
          exact ih25 u37 l1 l2 l3 (l4 + (1 : Int32)) H locs ls hf hP hD hS (lv_sub hl [2, 3, 4, 5, 0] rfl)
        · replace hf := it_f c44 hf
          refine lv_iload_n hx hb dX7_lost_47 rfl (lv_at hl 3 rfl) ?_
          refine lv_if_lt (tgt := 60) hx hb dX7_lost_48 (by decide) (fun c48 => ?_) (fun c48 => ?_)
          · replace hf := it_t c48 hf
            refine lv_iload hx hb dX7_lost_60 (lv_at hl 5 rfl) ?_
            refine lv_istore_n (lv' := [(2, .int l4), (5, .int r37), (0, .ref o_t), (1, .int l1), (3, .int l3), (4, .int l4)]) hx hb dX7_lost_62 rfl hl (by decide) rfl (fun ls hl => ?_)
            refine lv_iload hx hb dX7_lost_63 (lv_at hl 1 rfl) ?_
            refine lv_istore_n (lv' := [(3, .int r37), (2, .int l4), (5, .int r37), (0, .ref o_t), (1, .int l1), (4, .int l4)]) hx hb dX7_lost_65 rfl hl (by decide) rfl (fun ls hl => ?_)
            refine lv_iinc (v := l4 + (1 : Int32)) (lv' := [(4, .int (l4 + (1 : Int32))), (3, .int r37), (2, .int l4), (5, .int r37), (0, .ref o_t), (1, .int l1)]) hx hb dX7_lost_66 hl (k := 5) rfl rfl (by decide) rfl (fun ls hl => ?_)
            refine lv_goto (tgt := 25) hx hb dX7_lost_69 (by decide) ?_
            exact ih25 u37 l1 l4 r37 (l4 + (1 : Int32)) H locs ls hf hP hD hS (lv_sub hl [4, 5, 2, 1, 0] rfl)
          · replace hf := it_f c48 hf
            refine lv_iload hx hb dX7_lost_51 (lv_at hl 0 rfl) ?_
            refine lv_iload_n hx hb dX7_lost_53 rfl (lv_at hl 4 rfl) ?_
            refine lv_icmp_lt (tgt := 60) hx hb dX7_lost_54 (by decide) (fun c54 => ?_) (fun c54 => ?_)
            · replace hf := it_t c54 hf
              refine lv_iload hx hb dX7_lost_60 (lv_at hl 5 rfl) ?_
              refine lv_istore_n (lv' := [(2, .int l4), (5, .int r37), (0, .ref o_t), (1, .int l1), (3, .int l3), (4, .int l4)]) hx hb dX7_lost_62 rfl hl (by decide) rfl (fun ls hl => ?_)
              refine lv_iload hx hb dX7_lost_63 (lv_at hl 1 rfl) ?_
              refine lv_istore_n (lv' := [(3, .int r37), (2, .int l4), (5, .int r37), (0, .ref o_t), (1, .int l1), (4, .int l4)]) hx hb dX7_lost_65 rfl hl (by decide) rfl (fun ls hl => ?_)
              refine lv_iinc (v := l4 + (1 : Int32)) (lv' := [(4, .int (l4 + (1 : Int32))), (3, .int r37), (2, .int l4), (5, .int r37), (0, .ref o_t), (1, .int l1)]) hx hb dX7_lost_66 hl (k := 5) rfl rfl (by decide) rfl (fun ls hl => ?_)
              refine lv_goto (tgt := 25) hx hb dX7_lost_69 (by decide) ?_
              exact ih25 u37 l1 l4 r37 (l4 + (1 : Int32)) H locs ls hf hP hD hS (lv_sub hl [4, 5, 2, 1, 0] rfl)
            · replace hf := it_f c54 hf
              refine lv_goto (tgt := 66) hx hb dX7_lost_57 (by decide) ?_
              refine lv_iinc (v := l4 + (1 : Int32)) (lv' := [(4, .int (l4 + (1 : Int32))), (5, .int r37), (0, .ref o_t), (1, .int l1), (2, .int l2), (3, .int l3)]) hx hb dX7_lost_66 hl (k := 5) rfl rfl (by decide) rfl (fun ls hl => ?_)
              refine lv_goto (tgt := 25) hx hb dX7_lost_69 (by decide) ?_
              exact ih25 u37 l1 l2 l3 (l4 + (1 : Int32)) H locs ls hf hP hD hS (lv_sub hl [2, 3, 4, 5, 0] rfl)
  unfold f_X7_lost at hf
  have hl : lv_has ls 6 [(0, .ref o_t), (1, .int x1)] := hl
  obtain ⟨H, hHe⟩ : ∃ H : Heap, H = s.heap := ⟨_, rfl⟩
  obtain ⟨locs, hle⟩ : ∃ q : List Loc, q = [] := ⟨_, rfl⟩
  have hS : va_S A s.heap H locs := by rw [hHe, hle]; exact hS
  rw [← hHe] at hP
  suffices hgo : W p l e rmX7_lost s m ([.ref o_t, .int x1] : List Value).toArray below meth c H locs 0 0 Q (F0 m 0 ls []) by rw [hHe, hle] at hgo; exact hgo
  clear hHe hle
  refine lv_iload_n hx hb dX7_lost_0 rfl (lv_at hl 1 rfl) ?_
  refine lv_iconst (v := (0 : Int32)) hx hb dX7_lost_1 (by decide) ?_
  refine lv_iconst (v := (1 : Int32)) hx hb dX7_lost_2 (by decide) ?_
  obtain ⟨r3, u3, h3, hf⟩ := bd_some hf
  have hPc : va_P D vwCl [] H := hP.sub (ws' := []) [] rfl
  have hDc : va_D A [] := hD.sub (ws' := []) [] (by decide) rfl
  refine calXe (runS E0.b E0.n (As := [.int x1, .int (0 : Int32), .int (1 : Int32)]) (rest := []) ⟨hx, hb, hml, hown, hts⟩ (c_X7_isIn l D cI x1 (0 : Int32) (1 : Int32) _ h3) gX7_lost_X7_isIn rfl rfl rfl hdX7_isIn ⟨by decide, by decide⟩ hK hPc hDc rfl hl.1 rfl (Nat.le_of_ble_eq_true rfl) dX7_lost_3 ⟨Nat.zero_le _, Nat.zero_le _⟩) hP hD hS hA (fun H locs hP hD hS => ?_)
  have hP : va_P D vwCl (gX7 o_t a_t cI S_t) H := hP
  have hD : va_D A (gX7 o_t a_t cI S_t) := hD
  refine W.eq (g2 := F0 m 6 ls [.int r3]) rfl ?_
  refine lv_if_ne (tgt := 16) hx hb dX7_lost_6 (by decide) (fun c6 => ?_) (fun c6 => ?_)
  · replace hf := it_f c6 hf
    refine lv_bipush (v := (-9 : Int32)) hx hb dX7_lost_16 (by decide) ?_
    refine lv_istore_n (lv' := [(2, .int (-9 : Int32)), (0, .ref o_t), (1, .int x1)]) hx hb dX7_lost_18 rfl hl (by decide) rfl (fun ls hl => ?_)
    refine lv_bipush (v := (-9 : Int32)) hx hb dX7_lost_19 (by decide) ?_
    refine lv_istore_n (lv' := [(3, .int (-9 : Int32)), (2, .int (-9 : Int32)), (0, .ref o_t), (1, .int x1)]) hx hb dX7_lost_21 rfl hl (by decide) rfl (fun ls hl => ?_)
    refine lv_iconst (v := (0 : Int32)) hx hb dX7_lost_22 (by decide) ?_
    refine lv_istore (lv' := [(4, .int (0 : Int32)), (3, .int (-9 : Int32)), (2, .int (-9 : Int32)), (0, .ref o_t), (1, .int x1)]) hx hb dX7_lost_23 hl (by decide) rfl (fun ls hl => ?_)
    exact j25 1000 S_t x1 (-9 : Int32) (-9 : Int32) (0 : Int32) H locs ls hf hP hD hS (lv_sub hl [3, 4, 2, 1, 0] rfl)
  · replace hf := it_t c6 hf
    refine lv_aload_n hx hb dX7_lost_9 rfl (lv_at hl 0 rfl) ?_
    refine lv_bipush (v := (-2 : Int32)) hx hb dX7_lost_10 (by decide) ?_
    obtain ⟨r12, u12, h12, hf⟩ := bd_some hf
    refine calX0 (runV E0.b E0.n (As := [.int (-2 : Int32)]) (rest := []) ⟨hx, hb, hml, hown, hts⟩ (c_X7_no l D cI o_t a_t S_t (-2 : Int32) _ h12) gX7_lost_X7_no rfl rfl rfl hdX7_no ⟨by decide, by decide⟩ hK hP hD 0 rfl rfl rfl hl.1 rfl (Nat.le_of_ble_eq_true rfl) dX7_lost_12 ⟨Nat.zero_le _, Nat.zero_le _⟩) hD hS hA (fun H locs hP hD hS => ?_)
    have hP : va_P D vwCl (gX7 o_t a_t cI u12) H := hP
    have hD : va_D A (gX7 o_t a_t cI u12) := hD
    refine W.eq (g2 := F0 m 15 ls [.int r12]) rfl ?_
    have e := so_some hf
    subst e
    exact ri hx hb hK hr hlk hQ dX7_lost_15 hP hD hS
abbrev rmX7_ringing : Room := { frames := 6, cells := 0, slots := 0, locals := 133 }
set_option maxHeartbeats 4000000 in
set_option maxRecDepth 100000 in
theorem c_X7_ringing (l : Launch) (D : va_G) (cI : ClassId) (o_t : Nat) (a_t : Nat → Nat) (S_t : G) (x1 : Int32) (x2 : Int32) (x3 : Int32) (out : Int32 × G) (hf : f_X7_ringing S_t x1 x2 x3 = some out) : Cn E0 l yX7_ringing wsX7_ringing rmX7_ringing D cI [.ref o_t, .int x1, .int x2, .int x3] (gX7 o_t a_t cI S_t) (some (.int out.1)) (gX7 o_t a_t cI out.2) := by
  refine Cn.mk (cc := cX7_ringing) (maxL := 6) (ret := (some .int)) (by decide) rfl (Nat.le_of_ble_eq_true rfl) ?_
  intro p e s m below meth c A ls Q hx hb hml hown hts hK hA hP hD hS hl hr hlk hnm hE hQ
  have hown : s.vm.findClass RX7 = some m.cls := hown
  have j10 : ∀ (n10 : Nat) (S_t : G) (l1 : Int32) (l2 : Int32) (l3 : Int32) (l4 : Int32) (l5 : Int32) (H : Heap) (locs : List Loc) (ls : Array Slot), f_X7_ringing_10 n10 S_t l1 l2 l3 l4 l5 = some out → va_P D vwCl (gX7 o_t a_t cI S_t) H → va_D A (gX7 o_t a_t cI S_t) → va_S A s.heap H locs → lv_has ls 6 [(0, .ref o_t), (1, .int l1), (2, .int l2), (3, .int l3), (4, .int l4), (5, .int l5)] → W p l e rmX7_ringing s m ([.ref o_t, .int x1, .int x2, .int x3] : List Value).toArray below meth c H locs 0 0 Q (F0 m 10 ls []) := by
    intro n10
    induction n10 with
    | zero =>
      intro S_t l1 l2 l3 l4 l5 H locs ls hf
      exact no_some hf
    | succ n10 ih10 =>
      intro S_t l1 l2 l3 l4 l5 H locs ls hf hP hD hS hl
      replace hf : b_X7_ringing_10 (f_X7_ringing_10 n10) S_t l1 l2 l3 l4 l5 = some out := hf
      unfold b_X7_ringing_10 at hf
      refine lv_iload hx hb dX7_ringing_10 (lv_at hl 5 rfl) ?_
      refine lv_iload_n hx hb dX7_ringing_12 rfl (lv_at hl 2 rfl) ?_
      refine lv_icmp_ge (tgt := 68) hx hb dX7_ringing_13 (by decide) (fun c13 => ?_) (fun c13 => ?_)
      · replace hf := it_t c13 hf
        refine lv_aload_n hx hb dX7_ringing_68 rfl (lv_at hl 0 rfl) ?_
        obtain ⟨r69, u69, h69, hf⟩ := bd_some hf
        refine calX0 (runV E0.b E0.n (As := []) (rest := []) ⟨hx, hb, hml, hown, hts⟩ (c_X7_forgets l D cI o_t a_t S_t _ h69) gX7_ringing_X7_forgets rfl rfl rfl hdX7_forgets ⟨by decide, by decide⟩ hK hP hD 0 rfl rfl rfl hl.1 rfl (Nat.le_of_ble_eq_true rfl) dX7_ringing_69 ⟨Nat.zero_le _, Nat.zero_le _⟩) hD hS hA (fun H locs hP hD hS => ?_)
        have hP : va_P D vwCl (gX7 o_t a_t cI u69) H := hP
        have hD : va_D A (gX7 o_t a_t cI u69) := hD
        refine W.eq (g2 := F0 m 72 ls []) rfl ?_
        refine lv_iload hx hb dX7_ringing_72 (lv_at hl 4 rfl) ?_
        have e := so_some hf
        subst e
        exact ri hx hb hK hr hlk hQ dX7_ringing_74 hP hD hS
      · replace hf := it_f c13 hf
        refine lv_aload_n hx hb dX7_ringing_16 rfl (lv_at hl 0 rfl) ?_
        refine lv_iconst (v := (0 : Int32)) hx hb dX7_ringing_17 (by decide) ?_
        obtain ⟨r18, u18, h18, hf⟩ := bd_some hf
        refine calX0 (runV E0.b E0.n (As := [.int (0 : Int32)]) (rest := []) ⟨hx, hb, hml, hown, hts⟩ (c_X7_goesDay l D cI o_t a_t S_t (0 : Int32) _ h18) gX7_ringing_X7_goesDay rfl rfl rfl hdX7_goesDay ⟨by decide, by decide⟩ hK hP hD 0 rfl rfl rfl hl.1 rfl (Nat.le_of_ble_eq_true rfl) dX7_ringing_18 ⟨Nat.zero_le _, Nat.zero_le _⟩) hD hS hA (fun H locs hP hD hS => ?_)
        have hP : va_P D vwCl (gX7 o_t a_t cI u18) H := hP
        have hD : va_D A (gX7 o_t a_t cI u18) := hD
        refine W.eq (g2 := F0 m 21 ls []) rfl ?_
        refine lv_aload_n hx hb dX7_ringing_21 rfl (lv_at hl 0 rfl) ?_
        refine lv_iload_n hx hb dX7_ringing_22 rfl (lv_at hl 1 rfl) ?_
        obtain ⟨r23, u23, h23, hf⟩ := bd_some hf
        refine calX0 (runV E0.b E0.n (As := [.int l1]) (rest := []) ⟨hx, hb, hml, hown, hts⟩ (c_X7_ringsNow l D cI o_t a_t u18 l1 _ h23) gX7_ringing_X7_ringsNow rfl rfl rfl hdX7_ringsNow ⟨by decide, by decide⟩ hK hP hD 0 rfl rfl rfl hl.1 rfl (Nat.le_of_ble_eq_true rfl) dX7_ringing_23 ⟨Nat.zero_le _, Nat.zero_le _⟩) hD hS hA (fun H locs hP hD hS => ?_)
        have hP : va_P D vwCl (gX7 o_t a_t cI u23) H := hP
        have hD : va_D A (gX7 o_t a_t cI u23) := hD
        refine W.eq (g2 := F0 m 26 ls [.int r23]) rfl ?_
        refine lv_if_eq (tgt := 62) hx hb dX7_ringing_26 (by decide) (fun c26 => ?_) (fun c26 => ?_)
        · replace hf := it_t c26 hf
          refine lv_iinc (v := l5 + (1 : Int32)) (lv' := [(5, .int (l5 + (1 : Int32))), (0, .ref o_t), (1, .int l1), (2, .int l2), (3, .int l3), (4, .int l4)]) hx hb dX7_ringing_62 hl (k := 5) rfl rfl (by decide) rfl (fun ls hl => ?_)
          refine lv_goto (tgt := 10) hx hb dX7_ringing_65 (by decide) ?_
          exact ih10 u23 l1 l2 l3 l4 (l5 + (1 : Int32)) H locs ls hf hP hD hS (lv_sub hl [1, 2, 3, 4, 5, 0] rfl)
        · replace hf := it_f c26 hf
          refine lv_iload hx hb dX7_ringing_29 (lv_at hl 4 rfl) ?_
          refine lv_iload_n hx hb dX7_ringing_31 rfl (lv_at hl 3 rfl) ?_
          refine lv_if_eq (tgt := 46) hx hb dX7_ringing_32 (by decide) (fun c32 => ?_) (fun c32 => ?_)
          · replace hf := it_t c32 hf
            refine lv_aload_n hx hb dX7_ringing_46 rfl (lv_at hl 0 rfl) ?_
            refine lv_iload_n hx hb dX7_ringing_47 rfl (lv_at hl 1 rfl) ?_
            obtain ⟨r48, u48, h48, hf⟩ := bd_some hf
            refine calX0 (runV E0.b E0.n (As := [.int l1]) (rest := [.int l4]) ⟨hx, hb, hml, hown, hts⟩ (c_X7_hearers l D cI o_t a_t u23 l1 _ h48) gX7_ringing_X7_hearers rfl rfl rfl hdX7_hearers ⟨by decide, by decide⟩ hK hP hD 0 rfl rfl rfl hl.1 rfl (Nat.le_of_ble_eq_true rfl) dX7_ringing_48 ⟨Nat.zero_le _, Nat.zero_le _⟩) hD hS hA (fun H locs hP hD hS => ?_)
            have hP : va_P D vwCl (gX7 o_t a_t cI u48) H := hP
            have hD : va_D A (gX7 o_t a_t cI u48) := hD
            refine W.eq (g2 := F0 m 51 ls [.int r48, .int l4]) rfl ?_
            refine lv_if_ne (tgt := 58) hx hb dX7_ringing_51 (by decide) (fun c51 => ?_) (fun c51 => ?_)
            · replace hf := it_f c51 hf
              refine lv_iconst (v := (0 : Int32)) hx hb dX7_ringing_58 (by decide) ?_
              refine lv_iadd hx hb dX7_ringing_59 ?_
              refine lv_istore (lv' := [(4, .int (l4 + (0 : Int32))), (0, .ref o_t), (1, .int l1), (2, .int l2), (3, .int l3), (5, .int l5)]) hx hb dX7_ringing_60 hl (by decide) rfl (fun ls hl => ?_)
              refine lv_iinc (v := l5 + (1 : Int32)) (lv' := [(5, .int (l5 + (1 : Int32))), (4, .int (l4 + (0 : Int32))), (0, .ref o_t), (1, .int l1), (2, .int l2), (3, .int l3)]) hx hb dX7_ringing_62 hl (k := 5) rfl rfl (by decide) rfl (fun ls hl => ?_)
              refine lv_goto (tgt := 10) hx hb dX7_ringing_65 (by decide) ?_
              exact ih10 u48 l1 l2 l3 (l4 + (0 : Int32)) (l5 + (1 : Int32)) H locs ls hf hP hD hS (lv_sub hl [2, 3, 4, 5, 1, 0] rfl)
            · replace hf := it_t c51 hf
              refine lv_iconst (v := (1 : Int32)) hx hb dX7_ringing_54 (by decide) ?_
              refine lv_goto (tgt := 59) hx hb dX7_ringing_55 (by decide) ?_
              refine lv_iadd hx hb dX7_ringing_59 ?_
              refine lv_istore (lv' := [(4, .int (l4 + (1 : Int32))), (0, .ref o_t), (1, .int l1), (2, .int l2), (3, .int l3), (5, .int l5)]) hx hb dX7_ringing_60 hl (by decide) rfl (fun ls hl => ?_)
              refine lv_iinc (v := l5 + (1 : Int32)) (lv' := [(5, .int (l5 + (1 : Int32))), (4, .int (l4 + (1 : Int32))), (0, .ref o_t), (1, .int l1), (2, .int l2), (3, .int l3)]) hx hb dX7_ringing_62 hl (k := 5) rfl rfl (by decide) rfl (fun ls hl => ?_)
              refine lv_goto (tgt := 10) hx hb dX7_ringing_65 (by decide) ?_
              exact ih10 u48 l1 l2 l3 (l4 + (1 : Int32)) (l5 + (1 : Int32)) H locs ls hf hP hD hS (lv_sub hl [2, 3, 4, 5, 1, 0] rfl)
          · replace hf := it_f c32 hf
            refine lv_aload_n hx hb dX7_ringing_35 rfl (lv_at hl 0 rfl) ?_
            refine lv_iload_n hx hb dX7_ringing_36 rfl (lv_at hl 1 rfl) ?_
            obtain ⟨r37, u37, h37, hf⟩ := bd_some hf
            refine calX0 (runV E0.b E0.n (As := [.int l1]) (rest := [.int l4]) ⟨hx, hb, hml, hown, hts⟩ (c_X7_isTrue l D cI o_t a_t u23 l1 _ h37) gX7_ringing_X7_isTrue rfl rfl rfl hdX7_isTrue ⟨by decide, by decide⟩ hK hP hD 0 rfl rfl rfl hl.1 rfl (Nat.le_of_ble_eq_true rfl) dX7_ringing_37 ⟨Nat.zero_le _, Nat.zero_le _⟩) hD hS hA (fun H locs hP hD hS => ?_)
            have hP : va_P D vwCl (gX7 o_t a_t cI u37) H := hP
            have hD : va_D A (gX7 o_t a_t cI u37) := hD
            refine W.eq (g2 := F0 m 40 ls [.int r37, .int l4]) rfl ?_
            refine lv_if_eq (tgt := 58) hx hb dX7_ringing_40 (by decide) (fun c40 => ?_) (fun c40 => ?_)
            · replace hf := it_t c40 hf
              refine lv_iconst (v := (0 : Int32)) hx hb dX7_ringing_58 (by decide) ?_
              refine lv_iadd hx hb dX7_ringing_59 ?_
              refine lv_istore (lv' := [(4, .int (l4 + (0 : Int32))), (0, .ref o_t), (1, .int l1), (2, .int l2), (3, .int l3), (5, .int l5)]) hx hb dX7_ringing_60 hl (by decide) rfl (fun ls hl => ?_)
              refine lv_iinc (v := l5 + (1 : Int32)) (lv' := [(5, .int (l5 + (1 : Int32))), (4, .int (l4 + (0 : Int32))), (0, .ref o_t), (1, .int l1), (2, .int l2), (3, .int l3)]) hx hb dX7_ringing_62 hl (k := 5) rfl rfl (by decide) rfl (fun ls hl => ?_)
              refine lv_goto (tgt := 10) hx hb dX7_ringing_65 (by decide) ?_
              exact ih10 u37 l1 l2 l3 (l4 + (0 : Int32)) (l5 + (1 : Int32)) H locs ls hf hP hD hS (lv_sub hl [2, 3, 4, 5, 1, 0] rfl)
            · replace hf := it_f c40 hf
              refine lv_goto (tgt := 54) hx hb dX7_ringing_43 (by decide) ?_
              refine lv_iconst (v := (1 : Int32)) hx hb dX7_ringing_54 (by decide) ?_
              refine lv_goto (tgt := 59) hx hb dX7_ringing_55 (by decide) ?_
              refine lv_iadd hx hb dX7_ringing_59 ?_
              refine lv_istore (lv' := [(4, .int (l4 + (1 : Int32))), (0, .ref o_t), (1, .int l1), (2, .int l2), (3, .int l3), (5, .int l5)]) hx hb dX7_ringing_60 hl (by decide) rfl (fun ls hl => ?_)
              refine lv_iinc (v := l5 + (1 : Int32)) (lv' := [(5, .int (l5 + (1 : Int32))), (4, .int (l4 + (1 : Int32))), (0, .ref o_t), (1, .int l1), (2, .int l2), (3, .int l3)]) hx hb dX7_ringing_62 hl (k := 5) rfl rfl (by decide) rfl (fun ls hl => ?_)
              refine lv_goto (tgt := 10) hx hb dX7_ringing_65 (by decide) ?_
              exact ih10 u37 l1 l2 l3 (l4 + (1 : Int32)) (l5 + (1 : Int32)) H locs ls hf hP hD hS (lv_sub hl [2, 3, 4, 5, 1, 0] rfl)
  unfold f_X7_ringing at hf
  have hl : lv_has ls 6 [(0, .ref o_t), (1, .int x1), (2, .int x2), (3, .int x3)] := hl
  obtain ⟨H, hHe⟩ : ∃ H : Heap, H = s.heap := ⟨_, rfl⟩
  obtain ⟨locs, hle⟩ : ∃ q : List Loc, q = [] := ⟨_, rfl⟩
  have hS : va_S A s.heap H locs := by rw [hHe, hle]; exact hS
  rw [← hHe] at hP
  suffices hgo : W p l e rmX7_ringing s m ([.ref o_t, .int x1, .int x2, .int x3] : List Value).toArray below meth c H locs 0 0 Q (F0 m 0 ls []) by rw [hHe, hle] at hgo; exact hgo
  clear hHe hle
  refine lv_aload_n hx hb dX7_ringing_0 rfl (lv_at hl 0 rfl) ?_
  obtain ⟨r1, u1, h1, hf⟩ := bd_some hf
  refine calX0 (runV E0.b E0.n (As := []) (rest := []) ⟨hx, hb, hml, hown, hts⟩ (c_X7_thinks l D cI o_t a_t S_t _ h1) gX7_ringing_X7_thinks rfl rfl rfl hdX7_thinks ⟨by decide, by decide⟩ hK hP hD 0 rfl rfl rfl hl.1 rfl (Nat.le_of_ble_eq_true rfl) dX7_ringing_1 ⟨Nat.zero_le _, Nat.zero_le _⟩) hD hS hA (fun H locs hP hD hS => ?_)
  have hP : va_P D vwCl (gX7 o_t a_t cI u1) H := hP
  have hD : va_D A (gX7 o_t a_t cI u1) := hD
  refine W.eq (g2 := F0 m 4 ls []) rfl ?_
  refine lv_iconst (v := (0 : Int32)) hx hb dX7_ringing_4 (by decide) ?_
  refine lv_istore (lv' := [(4, .int (0 : Int32)), (0, .ref o_t), (1, .int x1), (2, .int x2), (3, .int x3)]) hx hb dX7_ringing_5 hl (by decide) rfl (fun ls hl => ?_)
  refine lv_iconst (v := (0 : Int32)) hx hb dX7_ringing_7 (by decide) ?_
  refine lv_istore (lv' := [(5, .int (0 : Int32)), (4, .int (0 : Int32)), (0, .ref o_t), (1, .int x1), (2, .int x2), (3, .int x3)]) hx hb dX7_ringing_8 hl (by decide) rfl (fun ls hl => ?_)
  exact j10 1000 u1 x1 x2 x3 (0 : Int32) (0 : Int32) H locs ls hf hP hD hS (lv_sub hl [2, 3, 4, 5, 1, 0] rfl)
