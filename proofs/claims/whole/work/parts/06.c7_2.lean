abbrev rmX7_passesAll : Room := { frames := 1, cells := 0, slots := 0, locals := 22 }
set_option maxHeartbeats 4000000 in
set_option maxRecDepth 100000 in
theorem c_X7_passesAll (l : Launch) (D : va_G) (cI : ClassId) (o_t : Nat) (a_t : Nat → Nat) (S_t : G) (x1 : Int32) (x2 : Int32) (out : Unit × G) (hf : f_X7_passesAll S_t x1 x2 = some out) : Cn E0 l yX7_passesAll wsX7_passesAll rmX7_passesAll D cI [.ref o_t, .int x1, .int x2] (gX7 o_t a_t cI S_t) none (gX7 o_t a_t cI out.2) := by
  refine Cn.mk (cc := cX7_passesAll) (maxL := 3) (ret := none) (by decide) rfl (Nat.le_of_ble_eq_true rfl) ?_
  intro p e s m below meth c A ls Q hx hb hml hown hts hK hA hP hD hS hl hr hlk hnm hE hQ
  have hown : s.vm.findClass RX7 = some m.cls := hown
  have hinX7 : ∀ w ∈ u_ws RX7 TX7 26, w ∈ wsX7_passesAll := by decide +kernel
  unfold f_X7_passesAll at hf
  have hl : lv_has ls 3 [(0, .ref o_t), (1, .int x1), (2, .int x2)] := hl
  obtain ⟨H, hHe⟩ : ∃ H : Heap, H = s.heap := ⟨_, rfl⟩
  obtain ⟨locs, hle⟩ : ∃ q : List Loc, q = [] := ⟨_, rfl⟩
  have hS : va_S A s.heap H locs := by rw [hHe, hle]; exact hS
  rw [← hHe] at hP
  suffices hgo : W p l e rmX7_passesAll s m ([.ref o_t, .int x1, .int x2] : List Value).toArray below meth c H locs 0 0 Q (F0 m 0 ls []) by rw [hHe, hle] at hgo; exact hgo
  clear hHe hle
  refine lv_aload_n hx hb dX7_passesAll_0 rfl (lv_at hl 0 rfl) ?_
  refine lv_bipush (v := (48 : Int32)) hx hb dX7_passesAll_1 (by decide) ?_
  refine lv_iload_n hx hb dX7_passesAll_3 rfl (lv_at hl 1 rfl) ?_
  refine lv_imul hx hb dX7_passesAll_4 ?_
  refine va_put (D := D) (ci := 7) (v := .int ((48 : Int32) * x1)) (ty := .int) (C := RX7) (T := TX7) (N := 26) hx hb hts hinX7 tyX7 tyX7_ok nmX7 hown hK hP hD hS 0 rfl rfl 22 (by decide) (hts (.fieldLink RX7 141 "OnlyStrangersHearModel" "cursor" "I") (by decide +kernel)) (fun _ h9 => h9) rfl (by decide +kernel) rfl rfl (Nat.le_of_ble_eq_true rfl) dX7_passesAll_5 (fun H locs hP hD hS => ?_)
  have hP : va_P D vwCl (gX7 o_t a_t cI (pF S_t 22 ((48 : Int32) * x1))) H := hP
  have hD : va_D A (gX7 o_t a_t cI (pF S_t 22 ((48 : Int32) * x1))) := hD
  obtain ⟨g5, e5, hf⟩ := lt_some hf
  rw [← e5] at hP hD
  refine lv_aload_n hx hb dX7_passesAll_8 rfl (lv_at hl 0 rfl) ?_
  refine lv_iload_n hx hb dX7_passesAll_9 rfl (lv_at hl 2 rfl) ?_
  obtain ⟨z10, hf⟩ := zb_some hf
  refine va_put (D := D) (ci := 7) (v := .int x2) (ty := .boolean) (C := RX7) (T := TX7) (N := 26) hx hb hts hinX7 tyX7 tyX7_ok nmX7 hown hK hP hD hS 0 rfl rfl 21 (by decide) (hts (.fieldLink RX7 137 "OnlyStrangersHearModel" "isKeeping" "Z") (by decide +kernel)) (fun _ h9 => h9) rfl (by decide +kernel) (zb_nar z10) (zb_fit z10) (Nat.le_of_ble_eq_true rfl) dX7_passesAll_10 (fun H locs hP hD hS => ?_)
  have hP : va_P D vwCl (gX7 o_t a_t cI (pF g5 21 x2)) H := hP
  have hD : va_D A (gX7 o_t a_t cI (pF g5 21 x2)) := hD
  obtain ⟨g10, e10, hf⟩ := lt_some hf
  rw [← e10] at hP hD
  refine lv_aload_n hx hb dX7_passesAll_13 rfl (lv_at hl 0 rfl) ?_
  refine lv_aload_n hx hb dX7_passesAll_14 rfl (lv_at hl 0 rfl) ?_
  refine va_get (D := D) (ci := 7) (v := .ref (a_t 1)) (C := RX7) (T := TX7) (N := 26) hx hb hts hinX7 hown hK hP 0 rfl rfl 1 (by decide) (hts (.fieldLink RX7 13 "OnlyStrangersHearModel" "hour" "[I") (by decide +kernel)) (fun _ h9 => h9) rfl dX7_passesAll_15 ?_
  obtain ⟨r18, u18, h18, hf⟩ := bd_some hf
  refine calX0 (runV E0.b E0.n (As := [.ref (a_t 1)]) (rest := []) ⟨hx, hb, hml, hown, hts⟩ (c_X7_passes_s1 l D cI o_t a_t g10 _ h18) gX7_passesAll_X7_passes rfl rfl rfl hdX7_passes ⟨by decide, by decide⟩ hK hP hD 0 rfl rfl rfl hl.1 rfl (Nat.le_of_ble_eq_true rfl) dX7_passesAll_18 ⟨Nat.zero_le _, Nat.zero_le _⟩) hD hS hA (fun H locs hP hD hS => ?_)
  have hP : va_P D vwCl (gX7 o_t a_t cI u18) H := hP
  have hD : va_D A (gX7 o_t a_t cI u18) := hD
  refine W.eq (g2 := F0 m 21 ls []) rfl ?_
  refine lv_aload_n hx hb dX7_passesAll_21 rfl (lv_at hl 0 rfl) ?_
  refine lv_aload_n hx hb dX7_passesAll_22 rfl (lv_at hl 0 rfl) ?_
  refine va_get (D := D) (ci := 7) (v := .ref (a_t 2)) (C := RX7) (T := TX7) (N := 26) hx hb hts hinX7 hown hK hP 0 rfl rfl 2 (by decide) (hts (.fieldLink RX7 16 "OnlyStrangersHearModel" "every" "[I") (by decide +kernel)) (fun _ h9 => h9) rfl dX7_passesAll_23 ?_
  obtain ⟨r26, u26, h26, hf⟩ := bd_some hf
  refine calX0 (runV E0.b E0.n (As := [.ref (a_t 2)]) (rest := []) ⟨hx, hb, hml, hown, hts⟩ (c_X7_passes_s2 l D cI o_t a_t u18 _ h26) gX7_passesAll_X7_passes rfl rfl rfl hdX7_passes ⟨by decide, by decide⟩ hK hP hD 0 rfl rfl rfl hl.1 rfl (Nat.le_of_ble_eq_true rfl) dX7_passesAll_26 ⟨Nat.zero_le _, Nat.zero_le _⟩) hD hS hA (fun H locs hP hD hS => ?_)
  have hP : va_P D vwCl (gX7 o_t a_t cI u26) H := hP
  have hD : va_D A (gX7 o_t a_t cI u26) := hD
  refine W.eq (g2 := F0 m 29 ls []) rfl ?_
  refine lv_aload_n hx hb dX7_passesAll_29 rfl (lv_at hl 0 rfl) ?_
  refine lv_aload_n hx hb dX7_passesAll_30 rfl (lv_at hl 0 rfl) ?_
  refine va_get (D := D) (ci := 7) (v := .ref (a_t 3)) (C := RX7) (T := TX7) (N := 26) hx hb hts hinX7 hown hK hP 0 rfl rfl 3 (by decide) (hts (.fieldLink RX7 19 "OnlyStrangersHearModel" "kind" "[I") (by decide +kernel)) (fun _ h9 => h9) rfl dX7_passesAll_31 ?_
  obtain ⟨r34, u34, h34, hf⟩ := bd_some hf
  refine calX0 (runV E0.b E0.n (As := [.ref (a_t 3)]) (rest := []) ⟨hx, hb, hml, hown, hts⟩ (c_X7_passes_s3 l D cI o_t a_t u26 _ h34) gX7_passesAll_X7_passes rfl rfl rfl hdX7_passes ⟨by decide, by decide⟩ hK hP hD 0 rfl rfl rfl hl.1 rfl (Nat.le_of_ble_eq_true rfl) dX7_passesAll_34 ⟨Nat.zero_le _, Nat.zero_le _⟩) hD hS hA (fun H locs hP hD hS => ?_)
  have hP : va_P D vwCl (gX7 o_t a_t cI u34) H := hP
  have hD : va_D A (gX7 o_t a_t cI u34) := hD
  refine W.eq (g2 := F0 m 37 ls []) rfl ?_
  refine lv_aload_n hx hb dX7_passesAll_37 rfl (lv_at hl 0 rfl) ?_
  refine lv_aload_n hx hb dX7_passesAll_38 rfl (lv_at hl 0 rfl) ?_
  refine va_get (D := D) (ci := 7) (v := .ref (a_t 4)) (C := RX7) (T := TX7) (N := 26) hx hb hts hinX7 hown hK hP 0 rfl rfl 4 (by decide) (hts (.fieldLink RX7 22 "OnlyStrangersHearModel" "figure" "[I") (by decide +kernel)) (fun _ h9 => h9) rfl dX7_passesAll_39 ?_
  obtain ⟨r42, u42, h42, hf⟩ := bd_some hf
  refine calX0 (runV E0.b E0.n (As := [.ref (a_t 4)]) (rest := []) ⟨hx, hb, hml, hown, hts⟩ (c_X7_passes_s4 l D cI o_t a_t u34 _ h42) gX7_passesAll_X7_passes rfl rfl rfl hdX7_passes ⟨by decide, by decide⟩ hK hP hD 0 rfl rfl rfl hl.1 rfl (Nat.le_of_ble_eq_true rfl) dX7_passesAll_42 ⟨Nat.zero_le _, Nat.zero_le _⟩) hD hS hA (fun H locs hP hD hS => ?_)
  have hP : va_P D vwCl (gX7 o_t a_t cI u42) H := hP
  have hD : va_D A (gX7 o_t a_t cI u42) := hD
  refine W.eq (g2 := F0 m 45 ls []) rfl ?_
  refine lv_aload_n hx hb dX7_passesAll_45 rfl (lv_at hl 0 rfl) ?_
  refine lv_aload_n hx hb dX7_passesAll_46 rfl (lv_at hl 0 rfl) ?_
  refine va_get (D := D) (ci := 7) (v := .ref (a_t 5)) (C := RX7) (T := TX7) (N := 26) hx hb hts hinX7 hown hK hP 0 rfl rfl 5 (by decide) (hts (.fieldLink RX7 25 "OnlyStrangersHearModel" "slept" "[I") (by decide +kernel)) (fun _ h9 => h9) rfl dX7_passesAll_47 ?_
  obtain ⟨r50, u50, h50, hf⟩ := bd_some hf
  refine calX0 (runV E0.b E0.n (As := [.ref (a_t 5)]) (rest := []) ⟨hx, hb, hml, hown, hts⟩ (c_X7_passes_s5 l D cI o_t a_t u42 _ h50) gX7_passesAll_X7_passes rfl rfl rfl hdX7_passes ⟨by decide, by decide⟩ hK hP hD 0 rfl rfl rfl hl.1 rfl (Nat.le_of_ble_eq_true rfl) dX7_passesAll_50 ⟨Nat.zero_le _, Nat.zero_le _⟩) hD hS hA (fun H locs hP hD hS => ?_)
  have hP : va_P D vwCl (gX7 o_t a_t cI u50) H := hP
  have hD : va_D A (gX7 o_t a_t cI u50) := hD
  refine W.eq (g2 := F0 m 53 ls []) rfl ?_
  refine lv_aload_n hx hb dX7_passesAll_53 rfl (lv_at hl 0 rfl) ?_
  refine lv_aload_n hx hb dX7_passesAll_54 rfl (lv_at hl 0 rfl) ?_
  refine va_get (D := D) (ci := 7) (v := .ref (a_t 6)) (C := RX7) (T := TX7) (N := 26) hx hb hts hinX7 hown hK hP 0 rfl rfl 6 (by decide) (hts (.fieldLink RX7 28 "OnlyStrangersHearModel" "away" "[I") (by decide +kernel)) (fun _ h9 => h9) rfl dX7_passesAll_55 ?_
  obtain ⟨r58, u58, h58, hf⟩ := bd_some hf
  refine calX0 (runV E0.b E0.n (As := [.ref (a_t 6)]) (rest := []) ⟨hx, hb, hml, hown, hts⟩ (c_X7_passes_s6 l D cI o_t a_t u50 _ h58) gX7_passesAll_X7_passes rfl rfl rfl hdX7_passes ⟨by decide, by decide⟩ hK hP hD 0 rfl rfl rfl hl.1 rfl (Nat.le_of_ble_eq_true rfl) dX7_passesAll_58 ⟨Nat.zero_le _, Nat.zero_le _⟩) hD hS hA (fun H locs hP hD hS => ?_)
  have hP : va_P D vwCl (gX7 o_t a_t cI u58) H := hP
  have hD : va_D A (gX7 o_t a_t cI u58) := hD
  refine W.eq (g2 := F0 m 61 ls []) rfl ?_
  refine lv_aload_n hx hb dX7_passesAll_61 rfl (lv_at hl 0 rfl) ?_
  refine lv_aload_n hx hb dX7_passesAll_62 rfl (lv_at hl 0 rfl) ?_
  refine lv_aload_n hx hb dX7_passesAll_63 rfl (lv_at hl 0 rfl) ?_
  refine va_get (D := D) (ci := 7) (v := .int (u58.1 7)) (C := RX7) (T := TX7) (N := 26) hx hb hts hinX7 hown hK hP 0 rfl rfl 7 (by decide) (hts (.fieldLink RX7 62 "OnlyStrangersHearModel" "bells" "I") (by decide +kernel)) (fun _ h9 => h9) rfl dX7_passesAll_64 ?_
  obtain ⟨r67, u67, h67, hf⟩ := bd_some hf
  refine calX0 (runV E0.b E0.n (As := [.int (u58.1 7)]) (rest := [.ref o_t]) ⟨hx, hb, hml, hown, hts⟩ (c_X7_passOne l D cI o_t a_t u58 (u58.1 7) _ h67) gX7_passesAll_X7_passOne rfl rfl rfl hdX7_passOne ⟨by decide, by decide⟩ hK hP hD 0 rfl rfl rfl hl.1 rfl (Nat.le_of_ble_eq_true rfl) dX7_passesAll_67 ⟨Nat.zero_le _, Nat.zero_le _⟩) hD hS hA (fun H locs hP hD hS => ?_)
  have hP : va_P D vwCl (gX7 o_t a_t cI u67) H := hP
  have hD : va_D A (gX7 o_t a_t cI u67) := hD
  refine W.eq (g2 := F0 m 70 ls [.int r67, .ref o_t]) rfl ?_
  refine va_put (D := D) (ci := 7) (v := .int r67) (ty := .int) (C := RX7) (T := TX7) (N := 26) hx hb hts hinX7 tyX7 tyX7_ok nmX7 hown hK hP hD hS 0 rfl rfl 7 (by decide) (hts (.fieldLink RX7 62 "OnlyStrangersHearModel" "bells" "I") (by decide +kernel)) (fun _ h9 => h9) rfl (by decide +kernel) rfl rfl (Nat.le_of_ble_eq_true rfl) dX7_passesAll_70 (fun H locs hP hD hS => ?_)
  have hP : va_P D vwCl (gX7 o_t a_t cI (pF u67 7 r67)) H := hP
  have hD : va_D A (gX7 o_t a_t cI (pF u67 7 r67)) := hD
  obtain ⟨g70, e70, hf⟩ := lt_some hf
  rw [← e70] at hP hD
  refine lv_aload_n hx hb dX7_passesAll_73 rfl (lv_at hl 0 rfl) ?_
  refine lv_aload_n hx hb dX7_passesAll_74 rfl (lv_at hl 0 rfl) ?_
  refine lv_aload_n hx hb dX7_passesAll_75 rfl (lv_at hl 0 rfl) ?_
  refine va_get (D := D) (ci := 7) (v := .int (g70.1 8)) (C := RX7) (T := TX7) (N := 26) hx hb hts hinX7 hown hK hP 0 rfl rfl 8 (by decide) (hts (.fieldLink RX7 65 "OnlyStrangersHearModel" "people" "I") (by decide +kernel)) (fun _ h9 => h9) rfl dX7_passesAll_76 ?_
  obtain ⟨r79, u79, h79, hf⟩ := bd_some hf
  refine calX0 (runV E0.b E0.n (As := [.int (g70.1 8)]) (rest := [.ref o_t]) ⟨hx, hb, hml, hown, hts⟩ (c_X7_passOne l D cI o_t a_t g70 (g70.1 8) _ h79) gX7_passesAll_X7_passOne rfl rfl rfl hdX7_passOne ⟨by decide, by decide⟩ hK hP hD 0 rfl rfl rfl hl.1 rfl (Nat.le_of_ble_eq_true rfl) dX7_passesAll_79 ⟨Nat.zero_le _, Nat.zero_le _⟩) hD hS hA (fun H locs hP hD hS => ?_)
  have hP : va_P D vwCl (gX7 o_t a_t cI u79) H := hP
  have hD : va_D A (gX7 o_t a_t cI u79) := hD
  refine W.eq (g2 := F0 m 82 ls [.int r79, .ref o_t]) rfl ?_
  refine va_put (D := D) (ci := 7) (v := .int r79) (ty := .int) (C := RX7) (T := TX7) (N := 26) hx hb hts hinX7 tyX7 tyX7_ok nmX7 hown hK hP hD hS 0 rfl rfl 8 (by decide) (hts (.fieldLink RX7 65 "OnlyStrangersHearModel" "people" "I") (by decide +kernel)) (fun _ h9 => h9) rfl (by decide +kernel) rfl rfl (Nat.le_of_ble_eq_true rfl) dX7_passesAll_82 (fun H locs hP hD hS => ?_)
  have hP : va_P D vwCl (gX7 o_t a_t cI (pF u79 8 r79)) H := hP
  have hD : va_D A (gX7 o_t a_t cI (pF u79 8 r79)) := hD
  obtain ⟨g82, e82, hf⟩ := lt_some hf
  rw [← e82] at hP hD
  refine lv_aload_n hx hb dX7_passesAll_85 rfl (lv_at hl 0 rfl) ?_
  refine lv_aload_n hx hb dX7_passesAll_86 rfl (lv_at hl 0 rfl) ?_
  refine lv_aload_n hx hb dX7_passesAll_87 rfl (lv_at hl 0 rfl) ?_
  refine va_get (D := D) (ci := 7) (v := .int (g82.1 9)) (C := RX7) (T := TX7) (N := 26) hx hb hts hinX7 hown hK hP 0 rfl rfl 9 (by decide) (hts (.fieldLink RX7 107 "OnlyStrangersHearModel" "day" "I") (by decide +kernel)) (fun _ h9 => h9) rfl dX7_passesAll_88 ?_
  obtain ⟨r91, u91, h91, hf⟩ := bd_some hf
  refine calX0 (runV E0.b E0.n (As := [.int (g82.1 9)]) (rest := [.ref o_t]) ⟨hx, hb, hml, hown, hts⟩ (c_X7_passOne l D cI o_t a_t g82 (g82.1 9) _ h91) gX7_passesAll_X7_passOne rfl rfl rfl hdX7_passOne ⟨by decide, by decide⟩ hK hP hD 0 rfl rfl rfl hl.1 rfl (Nat.le_of_ble_eq_true rfl) dX7_passesAll_91 ⟨Nat.zero_le _, Nat.zero_le _⟩) hD hS hA (fun H locs hP hD hS => ?_)
  have hP : va_P D vwCl (gX7 o_t a_t cI u91) H := hP
  have hD : va_D A (gX7 o_t a_t cI u91) := hD
  refine W.eq (g2 := F0 m 94 ls [.int r91, .ref o_t]) rfl ?_
  refine va_put (D := D) (ci := 7) (v := .int r91) (ty := .int) (C := RX7) (T := TX7) (N := 26) hx hb hts hinX7 tyX7 tyX7_ok nmX7 hown hK hP hD hS 0 rfl rfl 9 (by decide) (hts (.fieldLink RX7 107 "OnlyStrangersHearModel" "day" "I") (by decide +kernel)) (fun _ h9 => h9) rfl (by decide +kernel) rfl rfl (Nat.le_of_ble_eq_true rfl) dX7_passesAll_94 (fun H locs hP hD hS => ?_)
  have hP : va_P D vwCl (gX7 o_t a_t cI (pF u91 9 r91)) H := hP
  have hD : va_D A (gX7 o_t a_t cI (pF u91 9 r91)) := hD
  obtain ⟨g94, e94, hf⟩ := lt_some hf
  rw [← e94] at hP hD
  refine lv_aload_n hx hb dX7_passesAll_97 rfl (lv_at hl 0 rfl) ?_
  refine lv_aload_n hx hb dX7_passesAll_98 rfl (lv_at hl 0 rfl) ?_
  refine lv_aload_n hx hb dX7_passesAll_99 rfl (lv_at hl 0 rfl) ?_
  refine va_get (D := D) (ci := 7) (v := .int (g94.1 10)) (C := RX7) (T := TX7) (N := 26) hx hb hts hinX7 hown hK hP 0 rfl rfl 10 (by decide) (hts (.fieldLink RX7 56 "OnlyStrangersHearModel" "beds" "I") (by decide +kernel)) (fun _ h9 => h9) rfl dX7_passesAll_100 ?_
  obtain ⟨r103, u103, h103, hf⟩ := bd_some hf
  refine calX0 (runV E0.b E0.n (As := [.int (g94.1 10)]) (rest := [.ref o_t]) ⟨hx, hb, hml, hown, hts⟩ (c_X7_passOne l D cI o_t a_t g94 (g94.1 10) _ h103) gX7_passesAll_X7_passOne rfl rfl rfl hdX7_passOne ⟨by decide, by decide⟩ hK hP hD 0 rfl rfl rfl hl.1 rfl (Nat.le_of_ble_eq_true rfl) dX7_passesAll_103 ⟨Nat.zero_le _, Nat.zero_le _⟩) hD hS hA (fun H locs hP hD hS => ?_)
  have hP : va_P D vwCl (gX7 o_t a_t cI u103) H := hP
  have hD : va_D A (gX7 o_t a_t cI u103) := hD
  refine W.eq (g2 := F0 m 106 ls [.int r103, .ref o_t]) rfl ?_
  refine va_put (D := D) (ci := 7) (v := .int r103) (ty := .int) (C := RX7) (T := TX7) (N := 26) hx hb hts hinX7 tyX7 tyX7_ok nmX7 hown hK hP hD hS 0 rfl rfl 10 (by decide) (hts (.fieldLink RX7 56 "OnlyStrangersHearModel" "beds" "I") (by decide +kernel)) (fun _ h9 => h9) rfl (by decide +kernel) rfl rfl (Nat.le_of_ble_eq_true rfl) dX7_passesAll_106 (fun H locs hP hD hS => ?_)
  have hP : va_P D vwCl (gX7 o_t a_t cI (pF u103 10 r103)) H := hP
  have hD : va_D A (gX7 o_t a_t cI (pF u103 10 r103)) := hD
  obtain ⟨g106, e106, hf⟩ := lt_some hf
  rw [← e106] at hP hD
  have e := so_some hf
  subst e
  exact rv hx hb hK hr hlk hQ dX7_passesAll_109 hP hD hS
abbrev rmX7_town : Room := { frames := 6, cells := 0, slots := 0, locals := 133 }
set_option maxHeartbeats 4000000 in
set_option maxRecDepth 100000 in
theorem c_X7_town (l : Launch) (D : va_G) (cI : ClassId) (o_t : Nat) (a_t : Nat → Nat) (S_t : G) (out : Int32 × G) (hf : f_X7_town S_t = some out) : Cn E0 l yX7_town wsX7_town rmX7_town D cI [.ref o_t] (gX7 o_t a_t cI S_t) (some (.int out.1)) (gX7 o_t a_t cI out.2) := by
  refine Cn.mk (cc := cX7_town) (maxL := 3) (ret := (some .int)) (by decide) rfl (Nat.le_of_ble_eq_true rfl) ?_
  intro p e s m below meth c A ls Q hx hb hml hown hts hK hA hP hD hS hl hr hlk hnm hE hQ
  have hown : s.vm.findClass RX7 = some m.cls := hown
  have hinX7 : ∀ w ∈ u_ws RX7 TX7 26, w ∈ wsX7_town := by decide +kernel
  have j86 : ∀ (n86 : Nat) (S_t : G) (l2 : Int32) (H : Heap) (locs : List Loc) (ls : Array Slot), f_X7_town_86 n86 S_t l2 = some out → va_P D vwCl (gX7 o_t a_t cI S_t) H → va_D A (gX7 o_t a_t cI S_t) → va_S A s.heap H locs → lv_has ls 3 [(0, .ref o_t), (2, .int l2)] → W p l e rmX7_town s m ([.ref o_t] : List Value).toArray below meth c H locs 0 0 Q (F0 m 86 ls []) := by
    intro n86
    induction n86 with
    | zero =>
      intro S_t l2 H locs ls hf
      exact no_some hf
    | succ n86 ih86 =>
      intro S_t l2 H locs ls hf hP hD hS hl
      replace hf : b_X7_town_86 (f_X7_town_86 n86) S_t l2 = some out := hf
      unfold b_X7_town_86 at hf
      refine lv_iload_n hx hb dX7_town_86 rfl (lv_at hl 1 rfl) ?_
      refine lv_aload_n hx hb dX7_town_87 rfl (lv_at hl 0 rfl) ?_
      refine va_get (D := D) (ci := 7) (v := .int (S_t.1 18)) (C := RX7) (T := TX7) (N := 26) hx hb hts hinX7 hown hK hP 0 rfl rfl 18 (by decide) (hts (.fieldLink RX7 101 "OnlyStrangersHearModel" "statements" "I") (by decide +kernel)) (fun _ h9 => h9) rfl dX7_town_88 ?_
      refine lv_icmp_ge (tgt := 128) hx hb dX7_town_91 (by decide) (fun c91 => ?_) (fun c91 => ?_)
      · replace hf := it_t c91 hf
        refine lv_aload_n hx hb dX7_town_128 rfl (lv_at hl 0 rfl) ?_
        refine va_get (D := D) (ci := 7) (v := .int (S_t.1 18)) (C := RX7) (T := TX7) (N := 26) hx hb hts hinX7 hown hK hP 0 rfl rfl 18 (by decide) (hts (.fieldLink RX7 101 "OnlyStrangersHearModel" "statements" "I") (by decide +kernel)) (fun _ h9 => h9) rfl dX7_town_129 ?_
        have e := so_some hf
        subst e
        exact ri hx hb hK hr hlk hQ dX7_town_132 hP hD hS
      · replace hf := it_f c91 hf
        refine lv_aload_n hx hb dX7_town_94 rfl (lv_at hl 0 rfl) ?_
        refine lv_iload_n hx hb dX7_town_95 rfl (lv_at hl 1 rfl) ?_
        obtain ⟨r96, u96, h96, hf⟩ := bd_some hf
        refine calX0 (runV E0.b E0.n (As := [.int l2]) (rest := []) ⟨hx, hb, hml, hown, hts⟩ (c_X7_comes l D cI o_t a_t S_t l2 _ h96) gX7_town_X7_comes rfl rfl rfl hdX7_comes ⟨by decide, by decide⟩ hK hP hD 0 rfl rfl rfl hl.1 rfl (Nat.le_of_ble_eq_true rfl) dX7_town_96 ⟨Nat.zero_le _, Nat.zero_le _⟩) hD hS hA (fun H locs hP hD hS => ?_)
        have hP : va_P D vwCl (gX7 o_t a_t cI u96) H := hP
        have hD : va_D A (gX7 o_t a_t cI u96) := hD
        refine W.eq (g2 := F0 m 99 ls [.int r96]) rfl ?_
        refine lv_if_eq (tgt := 105) hx hb dX7_town_99 (by decide) (fun c99 => ?_) (fun c99 => ?_)
        · replace hf := it_t c99 hf
          refine lv_aload_n hx hb dX7_town_105 rfl (lv_at hl 0 rfl) ?_
          refine lv_iconst (v := (1 : Int32)) hx hb dX7_town_106 (by decide) ?_
          refine lv_iconst (v := (0 : Int32)) hx hb dX7_town_107 (by decide) ?_
          obtain ⟨r108, u108, h108, hf⟩ := bd_some hf
          refine calX0 (runV E0.b E0.n (As := [.int (1 : Int32), .int (0 : Int32)]) (rest := []) ⟨hx, hb, hml, hown, hts⟩ (c_X7_passesAll l D cI o_t a_t u96 (1 : Int32) (0 : Int32) _ h108) gX7_town_X7_passesAll rfl rfl rfl hdX7_passesAll ⟨by decide, by decide⟩ hK hP hD 0 rfl rfl rfl hl.1 rfl (Nat.le_of_ble_eq_true rfl) dX7_town_108 ⟨Nat.zero_le _, Nat.zero_le _⟩) hD hS hA (fun H locs hP hD hS => ?_)
          have hP : va_P D vwCl (gX7 o_t a_t cI u108) H := hP
          have hD : va_D A (gX7 o_t a_t cI u108) := hD
          refine W.eq (g2 := F0 m 111 ls []) rfl ?_
          refine lv_sipush (v := (-2000 : Int32)) hx hb dX7_town_111 (by decide) ?_
          refine lv_aload_n hx hb dX7_town_114 rfl (lv_at hl 0 rfl) ?_
          refine va_get (D := D) (ci := 7) (v := .ref (a_t 14)) (C := RX7) (T := TX7) (N := 26) hx hb hts hinX7 hown hK hP 0 rfl rfl 14 (by decide) (hts (.fieldLink RX7 41 "OnlyStrangersHearModel" "letterAt" "[I") (by decide +kernel)) (fun _ h9 => h9) rfl dX7_town_115 ?_
          refine lv_iload_n hx hb dX7_town_118 rfl (lv_at hl 1 rfl) ?_
          obtain ⟨b119, hf⟩ := ck_some hf
          refine va_iald hx hb hK hP 10 0 rfl rfl b119 dX7_town_119 ?_
          refine lv_isub hx hb dX7_town_120 ?_
          have e := so_some hf
          subst e
          exact ri hx hb hK hr hlk hQ dX7_town_121 hP hD hS
        · replace hf := it_f c99 hf
          refine lv_goto (tgt := 122) hx hb dX7_town_102 (by decide) ?_
          refine lv_iinc (v := l2 + (1 : Int32)) (lv' := [(2, .int (l2 + (1 : Int32))), (0, .ref o_t)]) hx hb dX7_town_122 hl (k := 1) rfl rfl (by decide) rfl (fun ls hl => ?_)
          refine lv_goto (tgt := 86) hx hb dX7_town_125 (by decide) ?_
          exact ih86 u96 (l2 + (1 : Int32)) H locs ls hf hP hD hS (lv_sub hl [1, 0] rfl)
  have j60 : ∀ (S_t : G) (l1 : Int32) (H : Heap) (locs : List Loc) (ls : Array Slot), f_X7_town_60 S_t l1 = some out → va_P D vwCl (gX7 o_t a_t cI S_t) H → va_D A (gX7 o_t a_t cI S_t) → va_S A s.heap H locs → lv_has ls 3 [(0, .ref o_t), (1, .int l1)] → W p l e rmX7_town s m ([.ref o_t] : List Value).toArray below meth c H locs 0 0 Q (F0 m 60 ls []) := by
    intro S_t l1 H locs ls hf hP hD hS hl
    unfold f_X7_town_60 at hf
    refine lv_aload_n hx hb dX7_town_60 rfl (lv_at hl 0 rfl) ?_
    refine lv_iconst (v := (0 : Int32)) hx hb dX7_town_61 (by decide) ?_
    refine va_put (D := D) (ci := 7) (v := .int (0 : Int32)) (ty := .int) (C := RX7) (T := TX7) (N := 26) hx hb hts hinX7 tyX7 tyX7_ok nmX7 hown hK hP hD hS 0 rfl rfl 16 (by decide) (hts (.fieldLink RX7 72 "OnlyStrangersHearModel" "taped" "I") (by decide +kernel)) (fun _ h9 => h9) rfl (by decide +kernel) rfl rfl (Nat.le_of_ble_eq_true rfl) dX7_town_62 (fun H locs hP hD hS => ?_)
    have hP : va_P D vwCl (gX7 o_t a_t cI (pF S_t 16 (0 : Int32))) H := hP
    have hD : va_D A (gX7 o_t a_t cI (pF S_t 16 (0 : Int32))) := hD
    obtain ⟨g62, e62, hf⟩ := lt_some hf
    rw [← e62] at hP hD
    refine lv_iload_n hx hb dX7_town_65 rfl (lv_at hl 1 rfl) ?_
    refine lv_if_ne (tgt := 78) hx hb dX7_town_66 (by decide) (fun c66 => ?_) (fun c66 => ?_)
    · replace hf := it_f c66 hf
      refine lv_aload_n hx hb dX7_town_78 rfl (lv_at hl 0 rfl) ?_
      refine lv_iconst (v := (1 : Int32)) hx hb dX7_town_79 (by decide) ?_
      refine lv_iconst (v := (1 : Int32)) hx hb dX7_town_80 (by decide) ?_
      obtain ⟨r81, u81, h81, hf⟩ := bd_some hf
      refine calX0 (runV E0.b E0.n (As := [.int (1 : Int32), .int (1 : Int32)]) (rest := []) ⟨hx, hb, hml, hown, hts⟩ (c_X7_passesAll l D cI o_t a_t g62 (1 : Int32) (1 : Int32) _ h81) gX7_town_X7_passesAll rfl rfl rfl hdX7_passesAll ⟨by decide, by decide⟩ hK hP hD 0 rfl rfl rfl hl.1 rfl (Nat.le_of_ble_eq_true rfl) dX7_town_81 ⟨Nat.zero_le _, Nat.zero_le _⟩) hD hS hA (fun H locs hP hD hS => ?_)
      have hP : va_P D vwCl (gX7 o_t a_t cI u81) H := hP
      have hD : va_D A (gX7 o_t a_t cI u81) := hD
      refine W.eq (g2 := F0 m 84 ls []) rfl ?_
      refine lv_iconst (v := (0 : Int32)) hx hb dX7_town_84 (by decide) ?_
      refine lv_istore_n (lv' := [(2, .int (0 : Int32)), (0, .ref o_t), (1, .int l1)]) hx hb dX7_town_85 rfl hl (by decide) rfl (fun ls hl => ?_)
      exact j86 1000 u81 (0 : Int32) H locs ls hf hP hD hS (lv_sub hl [1, 0] rfl)
    · replace hf := it_t c66 hf
      refine lv_sipush (v := (-1000 : Int32)) hx hb dX7_town_69 (by decide) ?_
      refine lv_aload_n hx hb dX7_town_72 rfl (lv_at hl 0 rfl) ?_
      refine va_get (D := D) (ci := 7) (v := .int (g62.1 17)) (C := RX7) (T := TX7) (N := 26) hx hb hts hinX7 hown hK hP 0 rfl rfl 17 (by decide) (hts (.fieldLink RX7 79 "OnlyStrangersHearModel" "at" "I") (by decide +kernel)) (fun _ h9 => h9) rfl dX7_town_73 ?_
      refine lv_isub hx hb dX7_town_76 ?_
      have e := so_some hf
      subst e
      exact ri hx hb hK hr hlk hQ dX7_town_77 hP hD hS
  have j12 : ∀ (n12 : Nat) (S_t : G) (l1 : Int32) (H : Heap) (locs : List Loc) (ls : Array Slot), f_X7_town_12 n12 S_t l1 = some out → va_P D vwCl (gX7 o_t a_t cI S_t) H → va_D A (gX7 o_t a_t cI S_t) → va_S A s.heap H locs → lv_has ls 3 [(0, .ref o_t), (1, .int l1)] → W p l e rmX7_town s m ([.ref o_t] : List Value).toArray below meth c H locs 0 0 Q (F0 m 12 ls []) := by
    intro n12
    induction n12 with
    | zero =>
      intro S_t l1 H locs ls hf
      exact no_some hf
    | succ n12 ih12 =>
      have j34 : ∀ (S_t : G) (H : Heap) (locs : List Loc) (ls : Array Slot), f_X7_town_34 (f_X7_town_12 n12) S_t = some out → va_P D vwCl (gX7 o_t a_t cI S_t) H → va_D A (gX7 o_t a_t cI S_t) → va_S A s.heap H locs → lv_has ls 3 [(0, .ref o_t)] → W p l e rmX7_town s m ([.ref o_t] : List Value).toArray below meth c H locs 0 0 Q (F0 m 34 ls []) := by
        intro S_t H locs ls hf hP hD hS hl
        unfold f_X7_town_34 at hf
        refine lv_aload_n hx hb dX7_town_34 rfl (lv_at hl 0 rfl) ?_
        obtain ⟨r35, u35, h35, hf⟩ := bd_some hf
        refine calX0 (runV E0.b E0.n (As := []) (rest := []) ⟨hx, hb, hml, hown, hts⟩ (c_X7_statement l D cI o_t a_t S_t _ h35) gX7_town_X7_statement rfl rfl rfl hdX7_statement ⟨by decide, by decide⟩ hK hP hD 0 rfl rfl rfl hl.1 rfl (Nat.le_of_ble_eq_true rfl) dX7_town_35 ⟨Nat.zero_le _, Nat.zero_le _⟩) hD hS hA (fun H locs hP hD hS => ?_)
        have hP : va_P D vwCl (gX7 o_t a_t cI u35) H := hP
        have hD : va_D A (gX7 o_t a_t cI u35) := hD
        refine W.eq (g2 := F0 m 38 ls [.int r35]) rfl ?_
        refine lv_istore_n (lv' := [(1, .int r35), (0, .ref o_t)]) hx hb dX7_town_38 rfl hl (by decide) rfl (fun ls hl => ?_)
        refine lv_aload_n hx hb dX7_town_39 rfl (lv_at hl 1 rfl) ?_
        refine lv_dup hx hb dX7_town_40 rfl ?_
        refine va_get (D := D) (ci := 7) (v := .int (u35.1 18)) (C := RX7) (T := TX7) (N := 26) hx hb hts hinX7 hown hK hP 0 rfl rfl 18 (by decide) (hts (.fieldLink RX7 101 "OnlyStrangersHearModel" "statements" "I") (by decide +kernel)) (fun _ h9 => h9) rfl dX7_town_41 ?_
        refine lv_iload_n hx hb dX7_town_44 rfl (lv_at hl 0 rfl) ?_
        refine lv_if_eq (tgt := 52) hx hb dX7_town_45 (by decide) (fun c45 => ?_) (fun c45 => ?_)
        · replace hf := it_t c45 hf
          refine lv_iconst (v := (0 : Int32)) hx hb dX7_town_52 (by decide) ?_
          refine lv_iadd hx hb dX7_town_53 ?_
          refine va_put (D := D) (ci := 7) (v := .int ((u35.1 18) + (0 : Int32))) (ty := .int) (C := RX7) (T := TX7) (N := 26) hx hb hts hinX7 tyX7 tyX7_ok nmX7 hown hK hP hD hS 0 rfl rfl 18 (by decide) (hts (.fieldLink RX7 101 "OnlyStrangersHearModel" "statements" "I") (by decide +kernel)) (fun _ h9 => h9) rfl (by decide +kernel) rfl rfl (Nat.le_of_ble_eq_true rfl) dX7_town_54 (fun H locs hP hD hS => ?_)
          have hP : va_P D vwCl (gX7 o_t a_t cI (pF u35 18 ((u35.1 18) + (0 : Int32)))) H := hP
          have hD : va_D A (gX7 o_t a_t cI (pF u35 18 ((u35.1 18) + (0 : Int32)))) := hD
          obtain ⟨g54, e54, hf⟩ := lt_some hf
          rw [← e54] at hP hD
          refine lv_goto (tgt := 12) hx hb dX7_town_57 (by decide) ?_
          exact ih12 g54 r35 H locs ls hf hP hD hS (lv_sub hl [1, 0] rfl)
        · replace hf := it_f c45 hf
          refine lv_iconst (v := (1 : Int32)) hx hb dX7_town_48 (by decide) ?_
          refine lv_goto (tgt := 53) hx hb dX7_town_49 (by decide) ?_
          refine lv_iadd hx hb dX7_town_53 ?_
          refine va_put (D := D) (ci := 7) (v := .int ((u35.1 18) + (1 : Int32))) (ty := .int) (C := RX7) (T := TX7) (N := 26) hx hb hts hinX7 tyX7 tyX7_ok nmX7 hown hK hP hD hS 0 rfl rfl 18 (by decide) (hts (.fieldLink RX7 101 "OnlyStrangersHearModel" "statements" "I") (by decide +kernel)) (fun _ h9 => h9) rfl (by decide +kernel) rfl rfl (Nat.le_of_ble_eq_true rfl) dX7_town_54 (fun H locs hP hD hS => ?_)
          have hP : va_P D vwCl (gX7 o_t a_t cI (pF u35 18 ((u35.1 18) + (1 : Int32)))) H := hP
          have hD : va_D A (gX7 o_t a_t cI (pF u35 18 ((u35.1 18) + (1 : Int32)))) := hD
          obtain ⟨g54, e54, hf⟩ := lt_some hf
          rw [← e54] at hP hD
          refine lv_goto (tgt := 12) hx hb dX7_town_57 (by decide) ?_
          exact ih12 g54 r35 H locs ls hf hP hD hS (lv_sub hl [1, 0] rfl)
      intro S_t l1 H locs ls hf hP hD hS hl
      replace hf : b_X7_town_12 (f_X7_town_12 n12) S_t l1 = some out := hf
      unfold b_X7_town_12 at hf
      refine lv_iload_n hx hb dX7_town_12 rfl (lv_at hl 1 rfl) ?_
      refine lv_if_eq (tgt := 60) hx hb dX7_town_13 (by decide) (fun c13 => ?_) (fun c13 => ?_)
      · replace hf := it_t c13 hf
        exact j60 S_t l1 H locs ls hf hP hD hS (lv_sub hl [0, 1] rfl)
      · replace hf := it_f c13 hf
        refine lv_aload_n hx hb dX7_town_16 rfl (lv_at hl 0 rfl) ?_
        refine va_get (D := D) (ci := 7) (v := .int (S_t.1 17)) (C := RX7) (T := TX7) (N := 26) hx hb hts hinX7 hown hK hP 0 rfl rfl 17 (by decide) (hts (.fieldLink RX7 79 "OnlyStrangersHearModel" "at" "I") (by decide +kernel)) (fun _ h9 => h9) rfl dX7_town_17 ?_
        refine lv_aload_n hx hb dX7_town_20 rfl (lv_at hl 0 rfl) ?_
        refine va_get (D := D) (ci := 7) (v := .int (S_t.1 16)) (C := RX7) (T := TX7) (N := 26) hx hb hts hinX7 hown hK hP 0 rfl rfl 16 (by decide) (hts (.fieldLink RX7 72 "OnlyStrangersHearModel" "taped" "I") (by decide +kernel)) (fun _ h9 => h9) rfl dX7_town_21 ?_
        refine lv_icmp_lt (tgt := 34) hx hb dX7_town_24 (by decide) (fun c24 => ?_) (fun c24 => ?_)
        · replace hf := it_t c24 hf
          exact j34 S_t H locs ls hf hP hD hS (lv_sub hl [0] rfl)
        · replace hf := it_f c24 hf
          refine lv_aload_n hx hb dX7_town_27 rfl (lv_at hl 0 rfl) ?_
          refine va_get (D := D) (ci := 7) (v := .int (S_t.1 18)) (C := RX7) (T := TX7) (N := 26) hx hb hts hinX7 hown hK hP 0 rfl rfl 18 (by decide) (hts (.fieldLink RX7 101 "OnlyStrangersHearModel" "statements" "I") (by decide +kernel)) (fun _ h9 => h9) rfl dX7_town_28 ?_
          refine lv_if_ne (tgt := 60) hx hb dX7_town_31 (by decide) (fun c31 => ?_) (fun c31 => ?_)
          · replace hf := it_f c31 hf
            exact j60 S_t l1 H locs ls hf hP hD hS (lv_sub hl [0, 1] rfl)
          · replace hf := it_t c31 hf
            exact j34 S_t H locs ls hf hP hD hS (lv_sub hl [0] rfl)
  unfold f_X7_town at hf
  have hl : lv_has ls 3 [(0, .ref o_t)] := hl
  obtain ⟨H, hHe⟩ : ∃ H : Heap, H = s.heap := ⟨_, rfl⟩
  obtain ⟨locs, hle⟩ : ∃ q : List Loc, q = [] := ⟨_, rfl⟩
  have hS : va_S A s.heap H locs := by rw [hHe, hle]; exact hS
  rw [← hHe] at hP
  suffices hgo : W p l e rmX7_town s m ([.ref o_t] : List Value).toArray below meth c H locs 0 0 Q (F0 m 0 ls []) by rw [hHe, hle] at hgo; exact hgo
  clear hHe hle
  refine lv_aload_n hx hb dX7_town_0 rfl (lv_at hl 0 rfl) ?_
  refine lv_iconst (v := (0 : Int32)) hx hb dX7_town_1 (by decide) ?_
  refine va_put (D := D) (ci := 7) (v := .int (0 : Int32)) (ty := .int) (C := RX7) (T := TX7) (N := 26) hx hb hts hinX7 tyX7 tyX7_ok nmX7 hown hK hP hD hS 0 rfl rfl 17 (by decide) (hts (.fieldLink RX7 79 "OnlyStrangersHearModel" "at" "I") (by decide +kernel)) (fun _ h9 => h9) rfl (by decide +kernel) rfl rfl (Nat.le_of_ble_eq_true rfl) dX7_town_2 (fun H locs hP hD hS => ?_)
  have hP : va_P D vwCl (gX7 o_t a_t cI (pF S_t 17 (0 : Int32))) H := hP
  have hD : va_D A (gX7 o_t a_t cI (pF S_t 17 (0 : Int32))) := hD
  obtain ⟨g2, e2, hf⟩ := lt_some hf
  rw [← e2] at hP hD
  refine lv_aload_n hx hb dX7_town_5 rfl (lv_at hl 0 rfl) ?_
  refine lv_iconst (v := (0 : Int32)) hx hb dX7_town_6 (by decide) ?_
  refine va_put (D := D) (ci := 7) (v := .int (0 : Int32)) (ty := .int) (C := RX7) (T := TX7) (N := 26) hx hb hts hinX7 tyX7 tyX7_ok nmX7 hown hK hP hD hS 0 rfl rfl 18 (by decide) (hts (.fieldLink RX7 101 "OnlyStrangersHearModel" "statements" "I") (by decide +kernel)) (fun _ h9 => h9) rfl (by decide +kernel) rfl rfl (Nat.le_of_ble_eq_true rfl) dX7_town_7 (fun H locs hP hD hS => ?_)
  have hP : va_P D vwCl (gX7 o_t a_t cI (pF g2 18 (0 : Int32))) H := hP
  have hD : va_D A (gX7 o_t a_t cI (pF g2 18 (0 : Int32))) := hD
  obtain ⟨g7, e7, hf⟩ := lt_some hf
  rw [← e7] at hP hD
  refine lv_iconst (v := (1 : Int32)) hx hb dX7_town_10 (by decide) ?_
  refine lv_istore_n (lv' := [(1, .int (1 : Int32)), (0, .ref o_t)]) hx hb dX7_town_11 rfl hl (by decide) rfl (fun ls hl => ?_)
  exact j12 1000 g7 (1 : Int32) H locs ls hf hP hD hS (lv_sub hl [1, 0] rfl)
abbrev rmX7_thinks : Room := { frames := 2, cells := 0, slots := 0, locals := 44 }
set_option maxHeartbeats 4000000 in
set_option maxRecDepth 100000 in
theorem c_X7_thinks (l : Launch) (D : va_G) (cI : ClassId) (o_t : Nat) (a_t : Nat → Nat) (S_t : G) (out : Unit × G) (hf : f_X7_thinks S_t = some out) : Cn E0 l yX7_thinks wsX7_thinks rmX7_thinks D cI [.ref o_t] (gX7 o_t a_t cI S_t) none (gX7 o_t a_t cI out.2) := by
  refine Cn.mk (cc := cX7_thinks) (maxL := 1) (ret := none) (by decide) rfl (Nat.le_of_ble_eq_true rfl) ?_
  intro p e s m below meth c A ls Q hx hb hml hown hts hK hA hP hD hS hl hr hlk hnm hE hQ
  have hown : s.vm.findClass RX7 = some m.cls := hown
  unfold f_X7_thinks at hf
  have hl : lv_has ls 1 [(0, .ref o_t)] := hl
  obtain ⟨H, hHe⟩ : ∃ H : Heap, H = s.heap := ⟨_, rfl⟩
  obtain ⟨locs, hle⟩ : ∃ q : List Loc, q = [] := ⟨_, rfl⟩
  have hS : va_S A s.heap H locs := by rw [hHe, hle]; exact hS
  rw [← hHe] at hP
  suffices hgo : W p l e rmX7_thinks s m ([.ref o_t] : List Value).toArray below meth c H locs 0 0 Q (F0 m 0 ls []) by rw [hHe, hle] at hgo; exact hgo
  clear hHe hle
  refine lv_aload_n hx hb dX7_thinks_0 rfl (lv_at hl 0 rfl) ?_
  refine lv_iconst (v := (2 : Int32)) hx hb dX7_thinks_1 (by decide) ?_
  refine lv_iconst (v := (1 : Int32)) hx hb dX7_thinks_2 (by decide) ?_
  obtain ⟨r3, u3, h3, hf⟩ := bd_some hf
  refine calX0 (runV E0.b E0.n (As := [.int (2 : Int32), .int (1 : Int32)]) (rest := []) ⟨hx, hb, hml, hown, hts⟩ (c_X7_passesAll l D cI o_t a_t S_t (2 : Int32) (1 : Int32) _ h3) gX7_thinks_X7_passesAll rfl rfl rfl hdX7_passesAll ⟨by decide, by decide⟩ hK hP hD 0 rfl rfl rfl hl.1 rfl (Nat.le_of_ble_eq_true rfl) dX7_thinks_3 ⟨Nat.zero_le _, Nat.zero_le _⟩) hD hS hA (fun H locs hP hD hS => ?_)
  have hP : va_P D vwCl (gX7 o_t a_t cI u3) H := hP
  have hD : va_D A (gX7 o_t a_t cI u3) := hD
  refine W.eq (g2 := F0 m 6 ls []) rfl ?_
  have e := so_some hf
  subst e
  exact rv hx hb hK hr hlk hQ dX7_thinks_6 hP hD hS
abbrev rmX7_forgets : Room := { frames := 2, cells := 0, slots := 0, locals := 44 }
set_option maxHeartbeats 4000000 in
set_option maxRecDepth 100000 in
theorem c_X7_forgets (l : Launch) (D : va_G) (cI : ClassId) (o_t : Nat) (a_t : Nat → Nat) (S_t : G) (out : Unit × G) (hf : f_X7_forgets S_t = some out) : Cn E0 l yX7_forgets wsX7_forgets rmX7_forgets D cI [.ref o_t] (gX7 o_t a_t cI S_t) none (gX7 o_t a_t cI out.2) := by
  refine Cn.mk (cc := cX7_forgets) (maxL := 1) (ret := none) (by decide) rfl (Nat.le_of_ble_eq_true rfl) ?_
  intro p e s m below meth c A ls Q hx hb hml hown hts hK hA hP hD hS hl hr hlk hnm hE hQ
  have hown : s.vm.findClass RX7 = some m.cls := hown
  unfold f_X7_forgets at hf
  have hl : lv_has ls 1 [(0, .ref o_t)] := hl
  obtain ⟨H, hHe⟩ : ∃ H : Heap, H = s.heap := ⟨_, rfl⟩
  obtain ⟨locs, hle⟩ : ∃ q : List Loc, q = [] := ⟨_, rfl⟩
  have hS : va_S A s.heap H locs := by rw [hHe, hle]; exact hS
  rw [← hHe] at hP
  suffices hgo : W p l e rmX7_forgets s m ([.ref o_t] : List Value).toArray below meth c H locs 0 0 Q (F0 m 0 ls []) by rw [hHe, hle] at hgo; exact hgo
  clear hHe hle
  refine lv_aload_n hx hb dX7_forgets_0 rfl (lv_at hl 0 rfl) ?_
  refine lv_iconst (v := (2 : Int32)) hx hb dX7_forgets_1 (by decide) ?_
  refine lv_iconst (v := (0 : Int32)) hx hb dX7_forgets_2 (by decide) ?_
  obtain ⟨r3, u3, h3, hf⟩ := bd_some hf
  refine calX0 (runV E0.b E0.n (As := [.int (2 : Int32), .int (0 : Int32)]) (rest := []) ⟨hx, hb, hml, hown, hts⟩ (c_X7_passesAll l D cI o_t a_t S_t (2 : Int32) (0 : Int32) _ h3) gX7_forgets_X7_passesAll rfl rfl rfl hdX7_passesAll ⟨by decide, by decide⟩ hK hP hD 0 rfl rfl rfl hl.1 rfl (Nat.le_of_ble_eq_true rfl) dX7_forgets_3 ⟨Nat.zero_le _, Nat.zero_le _⟩) hD hS hA (fun H locs hP hD hS => ?_)
  have hP : va_P D vwCl (gX7 o_t a_t cI u3) H := hP
  have hD : va_D A (gX7 o_t a_t cI u3) := hD
  refine W.eq (g2 := F0 m 6 ls []) rfl ?_
  have e := so_some hf
  subst e
  exact rv hx hb hK hr hlk hQ dX7_forgets_6 hP hD hS
abbrev rmX7_changes : Room := { frames := 2, cells := 0, slots := 0, locals := 44 }
set_option maxHeartbeats 4000000 in
set_option maxRecDepth 100000 in
theorem c_X7_changes (l : Launch) (D : va_G) (cI : ClassId) (o_t : Nat) (a_t : Nat → Nat) (S_t : G) (out : Unit × G) (hf : f_X7_changes S_t = some out) : Cn E0 l yX7_changes wsX7_changes rmX7_changes D cI [.ref o_t] (gX7 o_t a_t cI S_t) none (gX7 o_t a_t cI out.2) := by
  refine Cn.mk (cc := cX7_changes) (maxL := 1) (ret := none) (by decide) rfl (Nat.le_of_ble_eq_true rfl) ?_
  intro p e s m below meth c A ls Q hx hb hml hown hts hK hA hP hD hS hl hr hlk hnm hE hQ
  have hown : s.vm.findClass RX7 = some m.cls := hown
  unfold f_X7_changes at hf
  have hl : lv_has ls 1 [(0, .ref o_t)] := hl
  obtain ⟨H, hHe⟩ : ∃ H : Heap, H = s.heap := ⟨_, rfl⟩
  obtain ⟨locs, hle⟩ : ∃ q : List Loc, q = [] := ⟨_, rfl⟩
  have hS : va_S A s.heap H locs := by rw [hHe, hle]; exact hS
  rw [← hHe] at hP
  suffices hgo : W p l e rmX7_changes s m ([.ref o_t] : List Value).toArray below meth c H locs 0 0 Q (F0 m 0 ls []) by rw [hHe, hle] at hgo; exact hgo
  clear hHe hle
  refine lv_aload_n hx hb dX7_changes_0 rfl (lv_at hl 0 rfl) ?_
  refine lv_iconst (v := (1 : Int32)) hx hb dX7_changes_1 (by decide) ?_
  refine lv_iconst (v := (1 : Int32)) hx hb dX7_changes_2 (by decide) ?_
  obtain ⟨r3, u3, h3, hf⟩ := bd_some hf
  refine calX0 (runV E0.b E0.n (As := [.int (1 : Int32), .int (1 : Int32)]) (rest := []) ⟨hx, hb, hml, hown, hts⟩ (c_X7_passesAll l D cI o_t a_t S_t (1 : Int32) (1 : Int32) _ h3) gX7_changes_X7_passesAll rfl rfl rfl hdX7_passesAll ⟨by decide, by decide⟩ hK hP hD 0 rfl rfl rfl hl.1 rfl (Nat.le_of_ble_eq_true rfl) dX7_changes_3 ⟨Nat.zero_le _, Nat.zero_le _⟩) hD hS hA (fun H locs hP hD hS => ?_)
  have hP : va_P D vwCl (gX7 o_t a_t cI u3) H := hP
  have hD : va_D A (gX7 o_t a_t cI u3) := hD
  refine W.eq (g2 := F0 m 6 ls []) rfl ?_
  have e := so_some hf
  subst e
  exact rv hx hb hK hr hlk hQ dX7_changes_6 hP hD hS
abbrev rmX7_changesBack : Room := { frames := 2, cells := 0, slots := 0, locals := 44 }
set_option maxHeartbeats 4000000 in
set_option maxRecDepth 100000 in
theorem c_X7_changesBack (l : Launch) (D : va_G) (cI : ClassId) (o_t : Nat) (a_t : Nat → Nat) (S_t : G) (out : Unit × G) (hf : f_X7_changesBack S_t = some out) : Cn E0 l yX7_changesBack wsX7_changesBack rmX7_changesBack D cI [.ref o_t] (gX7 o_t a_t cI S_t) none (gX7 o_t a_t cI out.2) := by
  refine Cn.mk (cc := cX7_changesBack) (maxL := 1) (ret := none) (by decide) rfl (Nat.le_of_ble_eq_true rfl) ?_
  intro p e s m below meth c A ls Q hx hb hml hown hts hK hA hP hD hS hl hr hlk hnm hE hQ
  have hown : s.vm.findClass RX7 = some m.cls := hown
  unfold f_X7_changesBack at hf
  have hl : lv_has ls 1 [(0, .ref o_t)] := hl
  obtain ⟨H, hHe⟩ : ∃ H : Heap, H = s.heap := ⟨_, rfl⟩
  obtain ⟨locs, hle⟩ : ∃ q : List Loc, q = [] := ⟨_, rfl⟩
  have hS : va_S A s.heap H locs := by rw [hHe, hle]; exact hS
  rw [← hHe] at hP
  suffices hgo : W p l e rmX7_changesBack s m ([.ref o_t] : List Value).toArray below meth c H locs 0 0 Q (F0 m 0 ls []) by rw [hHe, hle] at hgo; exact hgo
  clear hHe hle
  refine lv_aload_n hx hb dX7_changesBack_0 rfl (lv_at hl 0 rfl) ?_
  refine lv_iconst (v := (1 : Int32)) hx hb dX7_changesBack_1 (by decide) ?_
  refine lv_iconst (v := (0 : Int32)) hx hb dX7_changesBack_2 (by decide) ?_
  obtain ⟨r3, u3, h3, hf⟩ := bd_some hf
  refine calX0 (runV E0.b E0.n (As := [.int (1 : Int32), .int (0 : Int32)]) (rest := []) ⟨hx, hb, hml, hown, hts⟩ (c_X7_passesAll l D cI o_t a_t S_t (1 : Int32) (0 : Int32) _ h3) gX7_changesBack_X7_passesAll rfl rfl rfl hdX7_passesAll ⟨by decide, by decide⟩ hK hP hD 0 rfl rfl rfl hl.1 rfl (Nat.le_of_ble_eq_true rfl) dX7_changesBack_3 ⟨Nat.zero_le _, Nat.zero_le _⟩) hD hS hA (fun H locs hP hD hS => ?_)
  have hP : va_P D vwCl (gX7 o_t a_t cI u3) H := hP
  have hD : va_D A (gX7 o_t a_t cI u3) := hD
  refine W.eq (g2 := F0 m 6 ls []) rfl ?_
  have e := so_some hf
  subst e
  exact rv hx hb hK hr hlk hQ dX7_changesBack_6 hP hD hS
abbrev rmX7_image : Room := { frames := 2, cells := 0, slots := 0, locals := 44 }
set_option maxHeartbeats 4000000 in
set_option maxRecDepth 100000 in
theorem c_X7_image (l : Launch) (D : va_G) (cI : ClassId) (o_t : Nat) (a_t : Nat → Nat) (S_t : G) (out : Int32 × G) (hf : f_X7_image S_t = some out) : Cn E0 l yX7_image wsX7_image rmX7_image D cI [.ref o_t] (gX7 o_t a_t cI S_t) (some (.int out.1)) (gX7 o_t a_t cI out.2) := by
  refine Cn.mk (cc := cX7_image) (maxL := 1) (ret := (some .int)) (by decide) rfl (Nat.le_of_ble_eq_true rfl) ?_
  intro p e s m below meth c A ls Q hx hb hml hown hts hK hA hP hD hS hl hr hlk hnm hE hQ
  have hown : s.vm.findClass RX7 = some m.cls := hown
  have hinX7 : ∀ w ∈ u_ws RX7 TX7 26, w ∈ wsX7_image := by decide +kernel
  unfold f_X7_image at hf
  have hl : lv_has ls 1 [(0, .ref o_t)] := hl
  obtain ⟨H, hHe⟩ : ∃ H : Heap, H = s.heap := ⟨_, rfl⟩
  obtain ⟨locs, hle⟩ : ∃ q : List Loc, q = [] := ⟨_, rfl⟩
  have hS : va_S A s.heap H locs := by rw [hHe, hle]; exact hS
  rw [← hHe] at hP
  suffices hgo : W p l e rmX7_image s m ([.ref o_t] : List Value).toArray below meth c H locs 0 0 Q (F0 m 0 ls []) by rw [hHe, hle] at hgo; exact hgo
  clear hHe hle
  refine lv_aload_n hx hb dX7_image_0 rfl (lv_at hl 0 rfl) ?_
  refine lv_iconst (v := (1 : Int32)) hx hb dX7_image_1 (by decide) ?_
  refine va_put (D := D) (ci := 7) (v := .int (1 : Int32)) (ty := .boolean) (C := RX7) (T := TX7) (N := 26) hx hb hts hinX7 tyX7 tyX7_ok nmX7 hown hK hP hD hS 0 rfl rfl 20 (by decide) (hts (.fieldLink RX7 151 "OnlyStrangersHearModel" "hasImage" "Z") (by decide +kernel)) (fun _ h9 => h9) rfl (by decide +kernel) rfl rfl (Nat.le_of_ble_eq_true rfl) dX7_image_2 (fun H locs hP hD hS => ?_)
  have hP : va_P D vwCl (gX7 o_t a_t cI (pF S_t 20 (1 : Int32))) H := hP
  have hD : va_D A (gX7 o_t a_t cI (pF S_t 20 (1 : Int32))) := hD
  obtain ⟨g2, e2, hf⟩ := lt_some hf
  rw [← e2] at hP hD
  refine lv_aload_n hx hb dX7_image_5 rfl (lv_at hl 0 rfl) ?_
  refine lv_iconst (v := (0 : Int32)) hx hb dX7_image_6 (by decide) ?_
  refine lv_iconst (v := (1 : Int32)) hx hb dX7_image_7 (by decide) ?_
  obtain ⟨r8, u8, h8, hf⟩ := bd_some hf
  refine calX0 (runV E0.b E0.n (As := [.int (0 : Int32), .int (1 : Int32)]) (rest := []) ⟨hx, hb, hml, hown, hts⟩ (c_X7_passesAll l D cI o_t a_t g2 (0 : Int32) (1 : Int32) _ h8) gX7_image_X7_passesAll rfl rfl rfl hdX7_passesAll ⟨by decide, by decide⟩ hK hP hD 0 rfl rfl rfl hl.1 rfl (Nat.le_of_ble_eq_true rfl) dX7_image_8 ⟨Nat.zero_le _, Nat.zero_le _⟩) hD hS hA (fun H locs hP hD hS => ?_)
  have hP : va_P D vwCl (gX7 o_t a_t cI u8) H := hP
  have hD : va_D A (gX7 o_t a_t cI u8) := hD
  refine W.eq (g2 := F0 m 11 ls []) rfl ?_
  refine lv_aload_n hx hb dX7_image_11 rfl (lv_at hl 0 rfl) ?_
  refine va_get (D := D) (ci := 7) (v := .int (u8.1 9)) (C := RX7) (T := TX7) (N := 26) hx hb hts hinX7 hown hK hP 0 rfl rfl 9 (by decide) (hts (.fieldLink RX7 107 "OnlyStrangersHearModel" "day" "I") (by decide +kernel)) (fun _ h9 => h9) rfl dX7_image_12 ?_
  have e := so_some hf
  subst e
  exact ri hx hb hK hr hlk hQ dX7_image_15 hP hD hS
abbrev rmX7_on : Room := { frames := 2, cells := 0, slots := 0, locals := 44 }
set_option maxHeartbeats 4000000 in
set_option maxRecDepth 100000 in
theorem c_X7_on (l : Launch) (D : va_G) (cI : ClassId) (o_t : Nat) (a_t : Nat → Nat) (S_t : G) (out : Int32 × G) (hf : f_X7_on S_t = some out) : Cn E0 l yX7_on wsX7_on rmX7_on D cI [.ref o_t] (gX7 o_t a_t cI S_t) (some (.int out.1)) (gX7 o_t a_t cI out.2) := by
  refine Cn.mk (cc := cX7_on) (maxL := 1) (ret := (some .int)) (by decide) rfl (Nat.le_of_ble_eq_true rfl) ?_
  intro p e s m below meth c A ls Q hx hb hml hown hts hK hA hP hD hS hl hr hlk hnm hE hQ
  have hown : s.vm.findClass RX7 = some m.cls := hown
  have hinX7 : ∀ w ∈ u_ws RX7 TX7 26, w ∈ wsX7_on := by decide +kernel
  unfold f_X7_on at hf
  have hl : lv_has ls 1 [(0, .ref o_t)] := hl
  obtain ⟨H, hHe⟩ : ∃ H : Heap, H = s.heap := ⟨_, rfl⟩
  obtain ⟨locs, hle⟩ : ∃ q : List Loc, q = [] := ⟨_, rfl⟩
  have hS : va_S A s.heap H locs := by rw [hHe, hle]; exact hS
  rw [← hHe] at hP
  suffices hgo : W p l e rmX7_on s m ([.ref o_t] : List Value).toArray below meth c H locs 0 0 Q (F0 m 0 ls []) by rw [hHe, hle] at hgo; exact hgo
  clear hHe hle
  refine lv_aload_n hx hb dX7_on_0 rfl (lv_at hl 0 rfl) ?_
  refine va_get (D := D) (ci := 7) (v := .int (S_t.1 20)) (C := RX7) (T := TX7) (N := 26) hx hb hts hinX7 hown hK hP 0 rfl rfl 20 (by decide) (hts (.fieldLink RX7 151 "OnlyStrangersHearModel" "hasImage" "Z") (by decide +kernel)) (fun _ h9 => h9) rfl dX7_on_1 ?_
  refine lv_if_ne (tgt := 14) hx hb dX7_on_4 (by decide) (fun c4 => ?_) (fun c4 => ?_)
  · replace hf := it_f c4 hf
    refine lv_aload_n hx hb dX7_on_14 rfl (lv_at hl 0 rfl) ?_
    refine lv_iconst (v := (0 : Int32)) hx hb dX7_on_15 (by decide) ?_
    refine lv_iconst (v := (0 : Int32)) hx hb dX7_on_16 (by decide) ?_
    obtain ⟨r17, u17, h17, hf⟩ := bd_some hf
    refine calX0 (runV E0.b E0.n (As := [.int (0 : Int32), .int (0 : Int32)]) (rest := []) ⟨hx, hb, hml, hown, hts⟩ (c_X7_passesAll l D cI o_t a_t S_t (0 : Int32) (0 : Int32) _ h17) gX7_on_X7_passesAll rfl rfl rfl hdX7_passesAll ⟨by decide, by decide⟩ hK hP hD 0 rfl rfl rfl hl.1 rfl (Nat.le_of_ble_eq_true rfl) dX7_on_17 ⟨Nat.zero_le _, Nat.zero_le _⟩) hD hS hA (fun H locs hP hD hS => ?_)
    have hP : va_P D vwCl (gX7 o_t a_t cI u17) H := hP
    have hD : va_D A (gX7 o_t a_t cI u17) := hD
    refine W.eq (g2 := F0 m 20 ls []) rfl ?_
    refine lv_aload_n hx hb dX7_on_20 rfl (lv_at hl 0 rfl) ?_
    refine va_get (D := D) (ci := 7) (v := .int (u17.1 9)) (C := RX7) (T := TX7) (N := 26) hx hb hts hinX7 hown hK hP 0 rfl rfl 9 (by decide) (hts (.fieldLink RX7 107 "OnlyStrangersHearModel" "day" "I") (by decide +kernel)) (fun _ h9 => h9) rfl dX7_on_21 ?_
    have e := so_some hf
    subst e
    exact ri hx hb hK hr hlk hQ dX7_on_24 hP hD hS
  · replace hf := it_t c4 hf
    refine lv_aload_n hx hb dX7_on_7 rfl (lv_at hl 0 rfl) ?_
    refine lv_bipush (v := (-3 : Int32)) hx hb dX7_on_8 (by decide) ?_
    obtain ⟨r10, u10, h10, hf⟩ := bd_some hf
    refine calX0 (runV E0.b E0.n (As := [.int (-3 : Int32)]) (rest := []) ⟨hx, hb, hml, hown, hts⟩ (c_X7_no l D cI o_t a_t S_t (-3 : Int32) _ h10) gX7_on_X7_no rfl rfl rfl hdX7_no ⟨by decide, by decide⟩ hK hP hD 0 rfl rfl rfl hl.1 rfl (Nat.le_of_ble_eq_true rfl) dX7_on_10 ⟨Nat.zero_le _, Nat.zero_le _⟩) hD hS hA (fun H locs hP hD hS => ?_)
    have hP : va_P D vwCl (gX7 o_t a_t cI u10) H := hP
    have hD : va_D A (gX7 o_t a_t cI u10) := hD
    refine W.eq (g2 := F0 m 13 ls [.int r10]) rfl ?_
    have e := so_some hf
    subst e
    exact ri hx hb hK hr hlk hQ dX7_on_13 hP hD hS
abbrev rmX7_nightsOf : Room := { frames := 0, cells := 0, slots := 0, locals := 0 }
set_option maxHeartbeats 4000000 in
set_option maxRecDepth 100000 in
theorem c_X7_nightsOf (l : Launch) (D : va_G) (cI : ClassId) (o_t : Nat) (a_t : Nat → Nat) (S_t : G) (x1 : Int32) (out : Int32 × G) (hf : f_X7_nightsOf S_t x1 = some out) : Cn E0 l yX7_nightsOf wsX7_nightsOf rmX7_nightsOf D cI [.ref o_t, .int x1] (gX7 o_t a_t cI S_t) (some (.int out.1)) (gX7 o_t a_t cI out.2) := by
  refine Cn.mk (cc := cX7_nightsOf) (maxL := 2) (ret := (some .int)) (by decide) rfl (Nat.le_of_ble_eq_true rfl) ?_
  intro p e s m below meth c A ls Q hx hb hml hown hts hK hA hP hD hS hl hr hlk hnm hE hQ
  have hown : s.vm.findClass RX7 = some m.cls := hown
  have hinX7 : ∀ w ∈ u_ws RX7 TX7 26, w ∈ wsX7_nightsOf := by decide +kernel
  unfold f_X7_nightsOf at hf
  have hl : lv_has ls 2 [(0, .ref o_t), (1, .int x1)] := hl
  obtain ⟨H, hHe⟩ : ∃ H : Heap, H = s.heap := ⟨_, rfl⟩
  obtain ⟨locs, hle⟩ : ∃ q : List Loc, q = [] := ⟨_, rfl⟩
  have hS : va_S A s.heap H locs := by rw [hHe, hle]; exact hS
  rw [← hHe] at hP
  suffices hgo : W p l e rmX7_nightsOf s m ([.ref o_t, .int x1] : List Value).toArray below meth c H locs 0 0 Q (F0 m 0 ls []) by rw [hHe, hle] at hgo; exact hgo
  clear hHe hle
  refine lv_aload_n hx hb dX7_nightsOf_0 rfl (lv_at hl 0 rfl) ?_
  refine va_get (D := D) (ci := 7) (v := .ref (a_t 3)) (C := RX7) (T := TX7) (N := 26) hx hb hts hinX7 hown hK hP 0 rfl rfl 3 (by decide) (hts (.fieldLink RX7 19 "OnlyStrangersHearModel" "kind" "[I") (by decide +kernel)) (fun _ h9 => h9) rfl dX7_nightsOf_1 ?_
  refine lv_iload_n hx hb dX7_nightsOf_4 rfl (lv_at hl 1 rfl) ?_
  obtain ⟨b5, hf⟩ := ck_some hf
  refine va_iald hx hb hK hP 4 0 rfl rfl b5 dX7_nightsOf_5 ?_
  by_cases ck1 : (S_t.2 3 x1.toNatClampNeg) = (1 : Int32)
  · replace hf := it_t ck1 hf
    refine lv_tableIn (off := 34) (tgt := 40) hx hb dX7_nightsOf_6 (by rw [ck1]; decide) (by rw [ck1]; decide) (by rw [ck1]; decide) (by decide) ?_
    refine lv_iconst (v := (0 : Int32)) hx hb dX7_nightsOf_40 (by decide) ?_
    have e := so_some hf
    subst e
    exact ri hx hb hK hr hlk hQ dX7_nightsOf_41 hP hD hS
  · replace hf := it_f ck1 hf
    by_cases ck2 : (S_t.2 3 x1.toNatClampNeg) = (2 : Int32)
    · replace hf := it_t ck2 hf
      refine lv_tableIn (off := 36) (tgt := 42) hx hb dX7_nightsOf_6 (by rw [ck2]; decide) (by rw [ck2]; decide) (by rw [ck2]; decide) (by decide) ?_
      refine lv_bipush (v := (9 : Int32)) hx hb dX7_nightsOf_42 (by decide) ?_
      refine lv_aload_n hx hb dX7_nightsOf_44 rfl (lv_at hl 0 rfl) ?_
      refine va_get (D := D) (ci := 7) (v := .ref (a_t 4)) (C := RX7) (T := TX7) (N := 26) hx hb hts hinX7 hown hK hP 0 rfl rfl 4 (by decide) (hts (.fieldLink RX7 22 "OnlyStrangersHearModel" "figure" "[I") (by decide +kernel)) (fun _ h9 => h9) rfl dX7_nightsOf_45 ?_
      refine lv_iload_n hx hb dX7_nightsOf_48 rfl (lv_at hl 1 rfl) ?_
      obtain ⟨b49, hf⟩ := ck_some hf
      refine va_iald hx hb hK hP 5 0 rfl rfl b49 dX7_nightsOf_49 ?_
      refine lv_iadd hx hb dX7_nightsOf_50 ?_
      have e := so_some hf
      subst e
      exact ri hx hb hK hr hlk hQ dX7_nightsOf_51 hP hD hS
    · replace hf := it_f ck2 hf
      by_cases ck3 : (S_t.2 3 x1.toNatClampNeg) = (3 : Int32)
      · replace hf := it_t ck3 hf
        refine lv_tableIn (off := 46) (tgt := 52) hx hb dX7_nightsOf_6 (by rw [ck3]; decide) (by rw [ck3]; decide) (by rw [ck3]; decide) (by decide) ?_
        refine lv_iconst (v := (2 : Int32)) hx hb dX7_nightsOf_52 (by decide) ?_
        refine lv_bipush (v := (9 : Int32)) hx hb dX7_nightsOf_53 (by decide) ?_
        refine lv_aload_n hx hb dX7_nightsOf_55 rfl (lv_at hl 0 rfl) ?_
        refine va_get (D := D) (ci := 7) (v := .ref (a_t 4)) (C := RX7) (T := TX7) (N := 26) hx hb hts hinX7 hown hK hP 0 rfl rfl 4 (by decide) (hts (.fieldLink RX7 22 "OnlyStrangersHearModel" "figure" "[I") (by decide +kernel)) (fun _ h9 => h9) rfl dX7_nightsOf_56 ?_
        refine lv_iload_n hx hb dX7_nightsOf_59 rfl (lv_at hl 1 rfl) ?_
        obtain ⟨b60, hf⟩ := ck_some hf
        refine va_iald hx hb hK hP 5 0 rfl rfl b60 dX7_nightsOf_60 ?_
        refine lv_iadd hx hb dX7_nightsOf_61 ?_
        refine lv_imul hx hb dX7_nightsOf_62 ?_
        have e := so_some hf
        subst e
        exact ri hx hb hK hr hlk hQ dX7_nightsOf_63 hP hD hS
      · replace hf := it_f ck3 hf
        by_cases ck5 : (S_t.2 3 x1.toNatClampNeg) = (5 : Int32)
        · replace hf := it_t ck5 hf
          refine lv_tableIn (off := 34) (tgt := 40) hx hb dX7_nightsOf_6 (by rw [ck5]; decide) (by rw [ck5]; decide) (by rw [ck5]; decide) (by decide) ?_
          refine lv_iconst (v := (0 : Int32)) hx hb dX7_nightsOf_40 (by decide) ?_
          have e := so_some hf
          subst e
          exact ri hx hb hK hr hlk hQ dX7_nightsOf_41 hP hD hS
        · replace hf := it_f ck5 hf
          by_cases clo : (S_t.2 3 x1.toNatClampNeg).toInt < 1
          · refine lv_tableOut (tgt := 64) hx hb dX7_nightsOf_6 (Or.inl clo) (by decide) ?_
            refine lv_bipush (v := (9 : Int32)) hx hb dX7_nightsOf_64 (by decide) ?_
            have e := so_some hf
            subst e
            exact ri hx hb hK hr hlk hQ dX7_nightsOf_66 hP hD hS
          by_cases chi : 5 < (S_t.2 3 x1.toNatClampNeg).toInt
          · refine lv_tableOut (tgt := 64) hx hb dX7_nightsOf_6 (Or.inr chi) (by decide) ?_
            refine lv_bipush (v := (9 : Int32)) hx hb dX7_nightsOf_64 (by decide) ?_
            have e := so_some hf
            subst e
            exact ri hx hb hK hr hlk hQ dX7_nightsOf_66 hP hD hS
          by_cases cd4 : (S_t.2 3 x1.toNatClampNeg) = (4 : Int32)
          · refine lv_tableIn (off := 58) (tgt := 64) hx hb dX7_nightsOf_6 clo chi (by rw [cd4]; decide) (by decide) ?_
            refine lv_bipush (v := (9 : Int32)) hx hb dX7_nightsOf_64 (by decide) ?_
            have e := so_some hf
            subst e
            exact ri hx hb hK hr hlk hQ dX7_nightsOf_66 hP hD hS
          exact (sw_no (x := (S_t.2 3 x1.toNatClampNeg)) (lo := 1) (hi := 5) clo chi (ks := [1, 2, 3, 4, 5]) (by decide) (List.forall_mem_cons.mpr ⟨lv_neT (k := 1) (a := 1) ck1 (by decide), (List.forall_mem_cons.mpr ⟨lv_neT (k := 2) (a := 2) ck2 (by decide), (List.forall_mem_cons.mpr ⟨lv_neT (k := 3) (a := 3) ck3 (by decide), (List.forall_mem_cons.mpr ⟨lv_neT (k := 4) (a := 4) cd4 (by decide), (List.forall_mem_cons.mpr ⟨lv_neT (k := 5) (a := 5) ck5 (by decide), (fun _ h => absurd h List.not_mem_nil)⟩)⟩)⟩)⟩)⟩)).elim
abbrev rmX7_hears : Room := { frames := 1, cells := 0, slots := 0, locals := 21 }
set_option maxHeartbeats 4000000 in
set_option maxRecDepth 100000 in
theorem c_X7_hears (l : Launch) (D : va_G) (cI : ClassId) (o_t : Nat) (a_t : Nat → Nat) (S_t : G) (x1 : Int32) (x2 : Int32) (out : Int32 × G) (hf : f_X7_hears S_t x1 x2 = some out) : Cn E0 l yX7_hears wsX7_hears rmX7_hears D cI [.ref o_t, .int x1, .int x2] (gX7 o_t a_t cI S_t) (some (.int out.1)) (gX7 o_t a_t cI out.2) := by
  refine Cn.mk (cc := cX7_hears) (maxL := 3) (ret := (some .boolean)) (by decide) rfl (Nat.le_of_ble_eq_true rfl) ?_
  intro p e s m below meth c A ls Q hx hb hml hown hts hK hA hP hD hS hl hr hlk hnm hE hQ
  have hown : s.vm.findClass RX7 = some m.cls := hown
  have hinX7 : ∀ w ∈ u_ws RX7 TX7 26, w ∈ wsX7_hears := by decide +kernel
  unfold f_X7_hears at hf
  have hl : lv_has ls 3 [(0, .ref o_t), (1, .int x1), (2, .int x2)] := hl
  obtain ⟨H, hHe⟩ : ∃ H : Heap, H = s.heap := ⟨_, rfl⟩
  obtain ⟨locs, hle⟩ : ∃ q : List Loc, q = [] := ⟨_, rfl⟩
  have hS : va_S A s.heap H locs := by rw [hHe, hle]; exact hS
  rw [← hHe] at hP
  suffices hgo : W p l e rmX7_hears s m ([.ref o_t, .int x1, .int x2] : List Value).toArray below meth c H locs 0 0 Q (F0 m 0 ls []) by rw [hHe, hle] at hgo; exact hgo
  clear hHe hle
  refine lv_iload_n hx hb dX7_hears_0 rfl (lv_at hl 1 rfl) ?_
  refine lv_aload_n hx hb dX7_hears_1 rfl (lv_at hl 0 rfl) ?_
  refine va_get (D := D) (ci := 7) (v := .int (S_t.1 11)) (C := RX7) (T := TX7) (N := 26) hx hb hts hinX7 hown hK hP 0 rfl rfl 11 (by decide) (hts (.fieldLink RX7 31 "OnlyStrangersHearModel" "out" "I") (by decide +kernel)) (fun _ h9 => h9) rfl dX7_hears_2 ?_
  refine lv_icmp_eq (tgt := 17) hx hb dX7_hears_5 (by decide) (fun c5 => ?_) (fun c5 => ?_)
  · replace hf := it_t c5 hf
    refine lv_iconst (v := (0 : Int32)) hx hb dX7_hears_17 (by decide) ?_
    have e := so_some hf
    subst e
    exact rz hx hb hK hr hlk (Or.inl rfl) hQ dX7_hears_18 hP hD hS
  · replace hf := it_f c5 hf
    refine lv_aload_n hx hb dX7_hears_8 rfl (lv_at hl 0 rfl) ?_
    refine va_get (D := D) (ci := 7) (v := .ref (a_t 6)) (C := RX7) (T := TX7) (N := 26) hx hb hts hinX7 hown hK hP 0 rfl rfl 6 (by decide) (hts (.fieldLink RX7 28 "OnlyStrangersHearModel" "away" "[I") (by decide +kernel)) (fun _ h9 => h9) rfl dX7_hears_9 ?_
    refine lv_iload_n hx hb dX7_hears_12 rfl (lv_at hl 1 rfl) ?_
    obtain ⟨b13, hf⟩ := ck_some hf
    refine va_iald hx hb hK hP 7 0 rfl rfl b13 dX7_hears_13 ?_
    refine lv_if_le (tgt := 19) hx hb dX7_hears_14 (by decide) (fun c14 => ?_) (fun c14 => ?_)
    · replace hf := it_t c14 hf
      refine lv_aload_n hx hb dX7_hears_19 rfl (lv_at hl 0 rfl) ?_
      refine va_get (D := D) (ci := 7) (v := .ref (a_t 5)) (C := RX7) (T := TX7) (N := 26) hx hb hts hinX7 hown hK hP 0 rfl rfl 5 (by decide) (hts (.fieldLink RX7 25 "OnlyStrangersHearModel" "slept" "[I") (by decide +kernel)) (fun _ h9 => h9) rfl dX7_hears_20 ?_
      refine lv_iload_n hx hb dX7_hears_23 rfl (lv_at hl 1 rfl) ?_
      obtain ⟨b24, hf⟩ := ck_some hf
      refine va_iald hx hb hK hP 6 0 rfl rfl b24 dX7_hears_24 ?_
      refine lv_aload_n hx hb dX7_hears_25 rfl (lv_at hl 0 rfl) ?_
      refine lv_iload_n hx hb dX7_hears_26 rfl (lv_at hl 1 rfl) ?_
      obtain ⟨r27, u27, h27, hf⟩ := bd_some hf
      refine calX0 (runV E0.b E0.n (As := [.int x1]) (rest := [.int (S_t.2 5 x1.toNatClampNeg)]) ⟨hx, hb, hml, hown, hts⟩ (c_X7_nightsOf l D cI o_t a_t S_t x1 _ h27) gX7_hears_X7_nightsOf rfl rfl rfl hdX7_nightsOf ⟨by decide, by decide⟩ hK hP hD 0 rfl rfl rfl hl.1 rfl (Nat.le_of_ble_eq_true rfl) dX7_hears_27 ⟨Nat.zero_le _, Nat.zero_le _⟩) hD hS hA (fun H locs hP hD hS => ?_)
      have hP : va_P D vwCl (gX7 o_t a_t cI u27) H := hP
      have hD : va_D A (gX7 o_t a_t cI u27) := hD
      refine W.eq (g2 := F0 m 30 ls [.int r27, .int (S_t.2 5 x1.toNatClampNeg)]) rfl ?_
      refine lv_icmp_lt (tgt := 53) hx hb dX7_hears_30 (by decide) (fun c30 => ?_) (fun c30 => ?_)
      · replace hf := it_t c30 hf
        refine lv_iconst (v := (1 : Int32)) hx hb dX7_hears_53 (by decide) ?_
        refine lv_goto (tgt := 58) hx hb dX7_hears_54 (by decide) ?_
        have e := so_some hf
        subst e
        exact rz hx hb hK hr hlk (Or.inr rfl) hQ dX7_hears_58 hP hD hS
      · replace hf := it_f c30 hf
        refine lv_aload_n hx hb dX7_hears_33 rfl (lv_at hl 0 rfl) ?_
        refine va_get (D := D) (ci := 7) (v := .ref (a_t 3)) (C := RX7) (T := TX7) (N := 26) hx hb hts hinX7 hown hK hP 0 rfl rfl 3 (by decide) (hts (.fieldLink RX7 19 "OnlyStrangersHearModel" "kind" "[I") (by decide +kernel)) (fun _ h9 => h9) rfl dX7_hears_34 ?_
        refine lv_iload_n hx hb dX7_hears_37 rfl (lv_at hl 1 rfl) ?_
        obtain ⟨b38, hf⟩ := ck_some hf
        refine va_iald hx hb hK hP 4 0 rfl rfl b38 dX7_hears_38 ?_
        refine lv_iconst (v := (5 : Int32)) hx hb dX7_hears_39 (by decide) ?_
        refine lv_icmp_ne (tgt := 57) hx hb dX7_hears_40 (by decide) (fun c40 => ?_) (fun c40 => ?_)
        · replace hf := it_f c40 hf
          refine lv_iconst (v := (0 : Int32)) hx hb dX7_hears_57 (by decide) ?_
          have e := so_some hf
          subst e
          exact rz hx hb hK hr hlk (Or.inl rfl) hQ dX7_hears_58 hP hD hS
        · replace hf := it_t c40 hf
          refine lv_aload_n hx hb dX7_hears_43 rfl (lv_at hl 0 rfl) ?_
          refine va_get (D := D) (ci := 7) (v := .ref (a_t 1)) (C := RX7) (T := TX7) (N := 26) hx hb hts hinX7 hown hK hP 0 rfl rfl 1 (by decide) (hts (.fieldLink RX7 13 "OnlyStrangersHearModel" "hour" "[I") (by decide +kernel)) (fun _ h9 => h9) rfl dX7_hears_44 ?_
          refine lv_iload_n hx hb dX7_hears_47 rfl (lv_at hl 2 rfl) ?_
          obtain ⟨b48, hf⟩ := ck_some hf
          refine va_iald hx hb hK hP 2 0 rfl rfl b48 dX7_hears_48 ?_
          refine lv_iconst (v := (4 : Int32)) hx hb dX7_hears_49 (by decide) ?_
          refine lv_icmp_ne (tgt := 57) hx hb dX7_hears_50 (by decide) (fun c50 => ?_) (fun c50 => ?_)
          · replace hf := it_f c50 hf
            refine lv_iconst (v := (0 : Int32)) hx hb dX7_hears_57 (by decide) ?_
            have e := so_some hf
            subst e
            exact rz hx hb hK hr hlk (Or.inl rfl) hQ dX7_hears_58 hP hD hS
          · replace hf := it_t c50 hf
            refine lv_iconst (v := (1 : Int32)) hx hb dX7_hears_53 (by decide) ?_
            refine lv_goto (tgt := 58) hx hb dX7_hears_54 (by decide) ?_
            have e := so_some hf
            subst e
            exact rz hx hb hK hr hlk (Or.inr rfl) hQ dX7_hears_58 hP hD hS
    · replace hf := it_f c14 hf
      refine lv_iconst (v := (0 : Int32)) hx hb dX7_hears_17 (by decide) ?_
      have e := so_some hf
      subst e
      exact rz hx hb hK hr hlk (Or.inl rfl) hQ dX7_hears_18 hP hD hS
abbrev rmX7_saysOf : Room := { frames := 2, cells := 0, slots := 0, locals := 43 }
set_option maxHeartbeats 4000000 in
set_option maxRecDepth 100000 in
theorem c_X7_saysOf (l : Launch) (D : va_G) (cI : ClassId) (o_t : Nat) (a_t : Nat → Nat) (S_t : G) (x1 : Int32) (x2 : Int32) (out : Int32 × G) (hf : f_X7_saysOf S_t x1 x2 = some out) : Cn E0 l yX7_saysOf wsX7_saysOf rmX7_saysOf D cI [.ref o_t, .int x1, .int x2] (gX7 o_t a_t cI S_t) (some (.int out.1)) (gX7 o_t a_t cI out.2) := by
  refine Cn.mk (cc := cX7_saysOf) (maxL := 3) (ret := (some .int)) (by decide) rfl (Nat.le_of_ble_eq_true rfl) ?_
  intro p e s m below meth c A ls Q hx hb hml hown hts hK hA hP hD hS hl hr hlk hnm hE hQ
  have hown : s.vm.findClass RX7 = some m.cls := hown
  have hinX7 : ∀ w ∈ u_ws RX7 TX7 26, w ∈ wsX7_saysOf := by decide +kernel
  unfold f_X7_saysOf at hf
  have hl : lv_has ls 3 [(0, .ref o_t), (1, .int x1), (2, .int x2)] := hl
  obtain ⟨H, hHe⟩ : ∃ H : Heap, H = s.heap := ⟨_, rfl⟩
  obtain ⟨locs, hle⟩ : ∃ q : List Loc, q = [] := ⟨_, rfl⟩
  have hS : va_S A s.heap H locs := by rw [hHe, hle]; exact hS
  rw [← hHe] at hP
  suffices hgo : W p l e rmX7_saysOf s m ([.ref o_t, .int x1, .int x2] : List Value).toArray below meth c H locs 0 0 Q (F0 m 0 ls []) by rw [hHe, hle] at hgo; exact hgo
  clear hHe hle
  refine lv_aload_n hx hb dX7_saysOf_0 rfl (lv_at hl 0 rfl) ?_
  refine lv_iload_n hx hb dX7_saysOf_1 rfl (lv_at hl 1 rfl) ?_
  refine lv_iload_n hx hb dX7_saysOf_2 rfl (lv_at hl 2 rfl) ?_
  obtain ⟨r3, u3, h3, hf⟩ := bd_some hf
  refine calX0 (runV E0.b E0.n (As := [.int x1, .int x2]) (rest := []) ⟨hx, hb, hml, hown, hts⟩ (c_X7_hears l D cI o_t a_t S_t x1 x2 _ h3) gX7_saysOf_X7_hears rfl rfl rfl hdX7_hears ⟨by decide, by decide⟩ hK hP hD 0 rfl rfl rfl hl.1 rfl (Nat.le_of_ble_eq_true rfl) dX7_saysOf_3 ⟨Nat.zero_le _, Nat.zero_le _⟩) hD hS hA (fun H locs hP hD hS => ?_)
  have hP : va_P D vwCl (gX7 o_t a_t cI u3) H := hP
  have hD : va_D A (gX7 o_t a_t cI u3) := hD
  refine W.eq (g2 := F0 m 6 ls [.int r3]) rfl ?_
  refine lv_if_ne (tgt := 12) hx hb dX7_saysOf_6 (by decide) (fun c6 => ?_) (fun c6 => ?_)
  · replace hf := it_f c6 hf
    refine lv_aload_n hx hb dX7_saysOf_12 rfl (lv_at hl 0 rfl) ?_
    refine va_get (D := D) (ci := 7) (v := .ref (a_t 3)) (C := RX7) (T := TX7) (N := 26) hx hb hts hinX7 hown hK hP 0 rfl rfl 3 (by decide) (hts (.fieldLink RX7 19 "OnlyStrangersHearModel" "kind" "[I") (by decide +kernel)) (fun _ h9 => h9) rfl dX7_saysOf_13 ?_
    refine lv_iload_n hx hb dX7_saysOf_16 rfl (lv_at hl 1 rfl) ?_
    obtain ⟨b17, hf⟩ := ck_some hf
    refine va_iald hx hb hK hP 4 0 rfl rfl b17 dX7_saysOf_17 ?_
    refine lv_iconst (v := (3 : Int32)) hx hb dX7_saysOf_18 (by decide) ?_
    refine lv_icmp_ne (tgt := 36) hx hb dX7_saysOf_19 (by decide) (fun c19 => ?_) (fun c19 => ?_)
    · replace hf := it_f c19 hf
      refine lv_aload_n hx hb dX7_saysOf_36 rfl (lv_at hl 0 rfl) ?_
      refine va_get (D := D) (ci := 7) (v := .ref (a_t 3)) (C := RX7) (T := TX7) (N := 26) hx hb hts hinX7 hown hK hP 0 rfl rfl 3 (by decide) (hts (.fieldLink RX7 19 "OnlyStrangersHearModel" "kind" "[I") (by decide +kernel)) (fun _ h9 => h9) rfl dX7_saysOf_37 ?_
      refine lv_iload_n hx hb dX7_saysOf_40 rfl (lv_at hl 1 rfl) ?_
      obtain ⟨b41, hf⟩ := ck_some hf
      refine va_iald hx hb hK hP 4 0 rfl rfl b41 dX7_saysOf_41 ?_
      refine lv_iconst (v := (4 : Int32)) hx hb dX7_saysOf_42 (by decide) ?_
      refine lv_icmp_ne (tgt := 65) hx hb dX7_saysOf_43 (by decide) (fun c43 => ?_) (fun c43 => ?_)
      · replace hf := it_f c43 hf
        refine lv_aload_n hx hb dX7_saysOf_65 rfl (lv_at hl 0 rfl) ?_
        refine va_get (D := D) (ci := 7) (v := .ref (a_t 1)) (C := RX7) (T := TX7) (N := 26) hx hb hts hinX7 hown hK hP 0 rfl rfl 1 (by decide) (hts (.fieldLink RX7 13 "OnlyStrangersHearModel" "hour" "[I") (by decide +kernel)) (fun _ h9 => h9) rfl dX7_saysOf_66 ?_
        refine lv_iload_n hx hb dX7_saysOf_69 rfl (lv_at hl 2 rfl) ?_
        obtain ⟨b70, hf⟩ := ck_some hf
        refine va_iald hx hb hK hP 2 0 rfl rfl b70 dX7_saysOf_70 ?_
        have e := so_some hf
        subst e
        exact ri hx hb hK hr hlk hQ dX7_saysOf_71 hP hD hS
      · replace hf := it_t c43 hf
        refine lv_aload_n hx hb dX7_saysOf_46 rfl (lv_at hl 0 rfl) ?_
        refine va_get (D := D) (ci := 7) (v := .ref (a_t 1)) (C := RX7) (T := TX7) (N := 26) hx hb hts hinX7 hown hK hP 0 rfl rfl 1 (by decide) (hts (.fieldLink RX7 13 "OnlyStrangersHearModel" "hour" "[I") (by decide +kernel)) (fun _ h9 => h9) rfl dX7_saysOf_47 ?_
        refine lv_iload_n hx hb dX7_saysOf_50 rfl (lv_at hl 2 rfl) ?_
        obtain ⟨b51, hf⟩ := ck_some hf
        refine va_iald hx hb hK hP 2 0 rfl rfl b51 dX7_saysOf_51 ?_
        refine lv_aload_n hx hb dX7_saysOf_52 rfl (lv_at hl 0 rfl) ?_
        refine va_get (D := D) (ci := 7) (v := .ref (a_t 4)) (C := RX7) (T := TX7) (N := 26) hx hb hts hinX7 hown hK hP 0 rfl rfl 4 (by decide) (hts (.fieldLink RX7 22 "OnlyStrangersHearModel" "figure" "[I") (by decide +kernel)) (fun _ h9 => h9) rfl dX7_saysOf_53 ?_
        refine lv_iload_n hx hb dX7_saysOf_56 rfl (lv_at hl 1 rfl) ?_
        obtain ⟨b57, hf⟩ := ck_some hf
        refine va_iald hx hb hK hP 5 0 rfl rfl b57 dX7_saysOf_57 ?_
        refine lv_iadd hx hb dX7_saysOf_58 ?_
        refine lv_bipush (v := (24 : Int32)) hx hb dX7_saysOf_59 (by decide) ?_
        obtain ⟨z61, hf⟩ := nz_some hf
        refine lv_irem hx hb dX7_saysOf_61 z61 ?_
        refine lv_goto (tgt := 71) hx hb dX7_saysOf_62 (by decide) ?_
        have e := so_some hf
        subst e
        exact ri hx hb hK hr hlk hQ dX7_saysOf_71 hP hD hS
    · replace hf := it_t c19 hf
      refine lv_aload_n hx hb dX7_saysOf_22 rfl (lv_at hl 0 rfl) ?_
      refine va_get (D := D) (ci := 7) (v := .ref (a_t 1)) (C := RX7) (T := TX7) (N := 26) hx hb hts hinX7 hown hK hP 0 rfl rfl 1 (by decide) (hts (.fieldLink RX7 13 "OnlyStrangersHearModel" "hour" "[I") (by decide +kernel)) (fun _ h9 => h9) rfl dX7_saysOf_23 ?_
      refine lv_iload_n hx hb dX7_saysOf_26 rfl (lv_at hl 2 rfl) ?_
      obtain ⟨b27, hf⟩ := ck_some hf
      refine va_iald hx hb hK hP 2 0 rfl rfl b27 dX7_saysOf_27 ?_
      refine lv_iconst (v := (1 : Int32)) hx hb dX7_saysOf_28 (by decide) ?_
      refine lv_iadd hx hb dX7_saysOf_29 ?_
      refine lv_bipush (v := (24 : Int32)) hx hb dX7_saysOf_30 (by decide) ?_
      obtain ⟨z32, hf⟩ := nz_some hf
      refine lv_irem hx hb dX7_saysOf_32 z32 ?_
      refine lv_goto (tgt := 71) hx hb dX7_saysOf_33 (by decide) ?_
      have e := so_some hf
      subst e
      exact ri hx hb hK hr hlk hQ dX7_saysOf_71 hP hD hS
  · replace hf := it_t c6 hf
    refine lv_bipush (v := (-9 : Int32)) hx hb dX7_saysOf_9 (by decide) ?_
    have e := so_some hf
    subst e
    exact ri hx hb hK hr hlk hQ dX7_saysOf_11 hP hD hS
abbrev rmX7_hearers : Room := { frames := 2, cells := 0, slots := 0, locals := 43 }
set_option maxHeartbeats 4000000 in
set_option maxRecDepth 100000 in
theorem c_X7_hearers (l : Launch) (D : va_G) (cI : ClassId) (o_t : Nat) (a_t : Nat → Nat) (S_t : G) (x1 : Int32) (out : Int32 × G) (hf : f_X7_hearers S_t x1 = some out) : Cn E0 l yX7_hearers wsX7_hearers rmX7_hearers D cI [.ref o_t, .int x1] (gX7 o_t a_t cI S_t) (some (.int out.1)) (gX7 o_t a_t cI out.2) := by
  refine Cn.mk (cc := cX7_hearers) (maxL := 4) (ret := (some .int)) (by decide) rfl (Nat.le_of_ble_eq_true rfl) ?_
  intro p e s m below meth c A ls Q hx hb hml hown hts hK hA hP hD hS hl hr hlk hnm hE hQ
  have hown : s.vm.findClass RX7 = some m.cls := hown
  have hinX7 : ∀ w ∈ u_ws RX7 TX7 26, w ∈ wsX7_hearers := by decide +kernel
  have j4 : ∀ (n4 : Nat) (S_t : G) (l1 : Int32) (l2 : Int32) (l3 : Int32) (H : Heap) (locs : List Loc) (ls : Array Slot), f_X7_hearers_4 n4 S_t l1 l2 l3 = some out → va_P D vwCl (gX7 o_t a_t cI S_t) H → va_D A (gX7 o_t a_t cI S_t) → va_S A s.heap H locs → lv_has ls 4 [(0, .ref o_t), (1, .int l1), (2, .int l2), (3, .int l3)] → W p l e rmX7_hearers s m ([.ref o_t, .int x1] : List Value).toArray below meth c H locs 0 0 Q (F0 m 4 ls []) := by
    intro n4
    induction n4 with
    | zero =>
      intro S_t l1 l2 l3 H locs ls hf
      exact no_some hf
    | succ n4 ih4 =>
      intro S_t l1 l2 l3 H locs ls hf hP hD hS hl
      replace hf : b_X7_hearers_4 (f_X7_hearers_4 n4) S_t l1 l2 l3 = some out := hf
      unfold b_X7_hearers_4 at hf
      refine lv_iload_n hx hb dX7_hearers_4 rfl (lv_at hl 3 rfl) ?_
      refine lv_aload_n hx hb dX7_hearers_5 rfl (lv_at hl 0 rfl) ?_
      refine va_get (D := D) (ci := 7) (v := .int (S_t.1 8)) (C := RX7) (T := TX7) (N := 26) hx hb hts hinX7 hown hK hP 0 rfl rfl 8 (by decide) (hts (.fieldLink RX7 65 "OnlyStrangersHearModel" "people" "I") (by decide +kernel)) (fun _ h9 => h9) rfl dX7_hearers_6 ?_
      refine lv_icmp_ge (tgt := 37) hx hb dX7_hearers_9 (by decide) (fun c9 => ?_) (fun c9 => ?_)
      · replace hf := it_t c9 hf
        refine lv_iload_n hx hb dX7_hearers_37 rfl (lv_at hl 2 rfl) ?_
        have e := so_some hf
        subst e
        exact ri hx hb hK hr hlk hQ dX7_hearers_38 hP hD hS
      · replace hf := it_f c9 hf
        refine lv_iload_n hx hb dX7_hearers_12 rfl (lv_at hl 2 rfl) ?_
        refine lv_aload_n hx hb dX7_hearers_13 rfl (lv_at hl 0 rfl) ?_
        refine lv_iload_n hx hb dX7_hearers_14 rfl (lv_at hl 3 rfl) ?_
        refine lv_iload_n hx hb dX7_hearers_15 rfl (lv_at hl 1 rfl) ?_
        obtain ⟨r16, u16, h16, hf⟩ := bd_some hf
        refine calX0 (runV E0.b E0.n (As := [.int l3, .int l1]) (rest := [.int l2]) ⟨hx, hb, hml, hown, hts⟩ (c_X7_hears l D cI o_t a_t S_t l3 l1 _ h16) gX7_hearers_X7_hears rfl rfl rfl hdX7_hears ⟨by decide, by decide⟩ hK hP hD 0 rfl rfl rfl hl.1 rfl (Nat.le_of_ble_eq_true rfl) dX7_hearers_16 ⟨Nat.zero_le _, Nat.zero_le _⟩) hD hS hA (fun H locs hP hD hS => ?_)
        have hP : va_P D vwCl (gX7 o_t a_t cI u16) H := hP
        have hD : va_D A (gX7 o_t a_t cI u16) := hD
        refine W.eq (g2 := F0 m 19 ls [.int r16, .int l2]) rfl ?_
        refine lv_if_eq (tgt := 28) hx hb dX7_hearers_19 (by decide) (fun c19 => ?_) (fun c19 => ?_)
        · replace hf := it_t c19 hf
          refine lv_iconst (v := (0 : Int32)) hx hb dX7_hearers_28 (by decide) ?_
          refine lv_ior hx hb dX7_hearers_29 ?_
          refine lv_istore_n (lv' := [(2, .int (l2 ||| (0 : Int32))), (0, .ref o_t), (1, .int l1), (3, .int l3)]) hx hb dX7_hearers_30 rfl hl (by decide) rfl (fun ls hl => ?_)
          refine lv_iinc (v := l3 + (1 : Int32)) (lv' := [(3, .int (l3 + (1 : Int32))), (2, .int (l2 ||| (0 : Int32))), (0, .ref o_t), (1, .int l1)]) hx hb dX7_hearers_31 hl (k := 3) rfl rfl (by decide) rfl (fun ls hl => ?_)
          refine lv_goto (tgt := 4) hx hb dX7_hearers_34 (by decide) ?_
          exact ih4 u16 l1 (l2 ||| (0 : Int32)) (l3 + (1 : Int32)) H locs ls hf hP hD hS (lv_sub hl [2, 3, 1, 0] rfl)
        · replace hf := it_f c19 hf
          refine lv_iconst (v := (1 : Int32)) hx hb dX7_hearers_22 (by decide) ?_
          refine lv_iload_n hx hb dX7_hearers_23 rfl (lv_at hl 3 rfl) ?_
          refine lv_ishl hx hb dX7_hearers_24 ?_
          refine lv_goto (tgt := 29) hx hb dX7_hearers_25 (by decide) ?_
          refine lv_ior hx hb dX7_hearers_29 ?_
          refine lv_topi (fun v30 e30 => ?_)
          replace hf := lt_at e30 hf
          refine lv_istore_n (lv' := [(2, .int v30), (0, .ref o_t), (1, .int l1), (3, .int l3)]) hx hb dX7_hearers_30 rfl hl (by decide) rfl (fun ls hl => ?_)
          refine lv_iinc (v := l3 + (1 : Int32)) (lv' := [(3, .int (l3 + (1 : Int32))), (2, .int v30), (0, .ref o_t), (1, .int l1)]) hx hb dX7_hearers_31 hl (k := 3) rfl rfl (by decide) rfl (fun ls hl => ?_)
          refine lv_goto (tgt := 4) hx hb dX7_hearers_34 (by decide) ?_
          exact ih4 u16 l1 v30 (l3 + (1 : Int32)) H locs ls hf hP hD hS (lv_sub hl [2, 3, 1, 0] rfl)
  unfold f_X7_hearers at hf
  have hl : lv_has ls 4 [(0, .ref o_t), (1, .int x1)] := hl
  obtain ⟨H, hHe⟩ : ∃ H : Heap, H = s.heap := ⟨_, rfl⟩
  obtain ⟨locs, hle⟩ : ∃ q : List Loc, q = [] := ⟨_, rfl⟩
  have hS : va_S A s.heap H locs := by rw [hHe, hle]; exact hS
  rw [← hHe] at hP
  suffices hgo : W p l e rmX7_hearers s m ([.ref o_t, .int x1] : List Value).toArray below meth c H locs 0 0 Q (F0 m 0 ls []) by rw [hHe, hle] at hgo; exact hgo
  clear hHe hle
  refine lv_iconst (v := (0 : Int32)) hx hb dX7_hearers_0 (by decide) ?_
  refine lv_istore_n (lv' := [(2, .int (0 : Int32)), (0, .ref o_t), (1, .int x1)]) hx hb dX7_hearers_1 rfl hl (by decide) rfl (fun ls hl => ?_)
  refine lv_iconst (v := (0 : Int32)) hx hb dX7_hearers_2 (by decide) ?_
  refine lv_istore_n (lv' := [(3, .int (0 : Int32)), (2, .int (0 : Int32)), (0, .ref o_t), (1, .int x1)]) hx hb dX7_hearers_3 rfl hl (by decide) rfl (fun ls hl => ?_)
  exact j4 1000 S_t x1 (0 : Int32) (0 : Int32) H locs ls hf hP hD hS (lv_sub hl [2, 3, 1, 0] rfl)
abbrev rmX7_manySay : Room := { frames := 3, cells := 0, slots := 0, locals := 65 }
set_option maxHeartbeats 4000000 in
set_option maxRecDepth 100000 in
theorem c_X7_manySay (l : Launch) (D : va_G) (cI : ClassId) (o_t : Nat) (a_t : Nat → Nat) (S_t : G) (x1 : Int32) (x2 : Int32) (out : Int32 × G) (hf : f_X7_manySay S_t x1 x2 = some out) : Cn E0 l yX7_manySay wsX7_manySay rmX7_manySay D cI [.ref o_t, .int x1, .int x2] (gX7 o_t a_t cI S_t) (some (.int out.1)) (gX7 o_t a_t cI out.2) := by
  refine Cn.mk (cc := cX7_manySay) (maxL := 5) (ret := (some .int)) (by decide) rfl (Nat.le_of_ble_eq_true rfl) ?_
  intro p e s m below meth c A ls Q hx hb hml hown hts hK hA hP hD hS hl hr hlk hnm hE hQ
  have hown : s.vm.findClass RX7 = some m.cls := hown
  have hinX7 : ∀ w ∈ u_ws RX7 TX7 26, w ∈ wsX7_manySay := by decide +kernel
  have j5 : ∀ (n5 : Nat) (S_t : G) (l1 : Int32) (l2 : Int32) (l3 : Int32) (l4 : Int32) (H : Heap) (locs : List Loc) (ls : Array Slot), f_X7_manySay_5 n5 S_t l1 l2 l3 l4 = some out → va_P D vwCl (gX7 o_t a_t cI S_t) H → va_D A (gX7 o_t a_t cI S_t) → va_S A s.heap H locs → lv_has ls 5 [(0, .ref o_t), (1, .int l1), (2, .int l2), (3, .int l3), (4, .int l4)] → W p l e rmX7_manySay s m ([.ref o_t, .int x1, .int x2] : List Value).toArray below meth c H locs 0 0 Q (F0 m 5 ls []) := by
    intro n5
    induction n5 with
    | zero =>
      intro S_t l1 l2 l3 l4 H locs ls hf
      exact no_some hf
    | succ n5 ih5 =>
      intro S_t l1 l2 l3 l4 H locs ls hf hP hD hS hl
      replace hf : b_X7_manySay_5 (f_X7_manySay_5 n5) S_t l1 l2 l3 l4 = some out := hf
      unfold b_X7_manySay_5 at hf
      refine lv_iload hx hb dX7_manySay_5 (lv_at hl 4 rfl) ?_
      refine lv_aload_n hx hb dX7_manySay_7 rfl (lv_at hl 0 rfl) ?_
      refine va_get (D := D) (ci := 7) (v := .int (S_t.1 8)) (C := RX7) (T := TX7) (N := 26) hx hb hts hinX7 hown hK hP 0 rfl rfl 8 (by decide) (hts (.fieldLink RX7 65 "OnlyStrangersHearModel" "people" "I") (by decide +kernel)) (fun _ h9 => h9) rfl dX7_manySay_8 ?_
      refine lv_icmp_ge (tgt := 39) hx hb dX7_manySay_11 (by decide) (fun c11 => ?_) (fun c11 => ?_)
      · replace hf := it_t c11 hf
        refine lv_iload_n hx hb dX7_manySay_39 rfl (lv_at hl 3 rfl) ?_
        have e := so_some hf
        subst e
        exact ri hx hb hK hr hlk hQ dX7_manySay_40 hP hD hS
      · replace hf := it_f c11 hf
        refine lv_iload_n hx hb dX7_manySay_14 rfl (lv_at hl 3 rfl) ?_
        refine lv_aload_n hx hb dX7_manySay_15 rfl (lv_at hl 0 rfl) ?_
        refine lv_iload hx hb dX7_manySay_16 (lv_at hl 4 rfl) ?_
        refine lv_iload_n hx hb dX7_manySay_18 rfl (lv_at hl 1 rfl) ?_
        obtain ⟨r19, u19, h19, hf⟩ := bd_some hf
        refine calX0 (runV E0.b E0.n (As := [.int l4, .int l1]) (rest := [.int l3]) ⟨hx, hb, hml, hown, hts⟩ (c_X7_saysOf l D cI o_t a_t S_t l4 l1 _ h19) gX7_manySay_X7_saysOf rfl rfl rfl hdX7_saysOf ⟨by decide, by decide⟩ hK hP hD 0 rfl rfl rfl hl.1 rfl (Nat.le_of_ble_eq_true rfl) dX7_manySay_19 ⟨Nat.zero_le _, Nat.zero_le _⟩) hD hS hA (fun H locs hP hD hS => ?_)
        have hP : va_P D vwCl (gX7 o_t a_t cI u19) H := hP
        have hD : va_D A (gX7 o_t a_t cI u19) := hD
        refine W.eq (g2 := F0 m 22 ls [.int r19, .int l3]) rfl ?_
        refine lv_iload_n hx hb dX7_manySay_22 rfl (lv_at hl 2 rfl) ?_
        refine lv_icmp_ne (tgt := 30) hx hb dX7_manySay_23 (by decide) (fun c23 => ?_) (fun c23 => ?_)
        · replace hf := it_f c23 hf
          refine lv_iconst (v := (0 : Int32)) hx hb dX7_manySay_30 (by decide) ?_
          refine lv_iadd hx hb dX7_manySay_31 ?_
          refine lv_istore_n (lv' := [(3, .int (l3 + (0 : Int32))), (0, .ref o_t), (1, .int l1), (2, .int l2), (4, .int l4)]) hx hb dX7_manySay_32 rfl hl (by decide) rfl (fun ls hl => ?_)
          refine lv_iinc (v := l4 + (1 : Int32)) (lv' := [(4, .int (l4 + (1 : Int32))), (3, .int (l3 + (0 : Int32))), (0, .ref o_t), (1, .int l1), (2, .int l2)]) hx hb dX7_manySay_33 hl (k := 4) rfl rfl (by decide) rfl (fun ls hl => ?_)
          refine lv_goto (tgt := 5) hx hb dX7_manySay_36 (by decide) ?_
          exact ih5 u19 l1 l2 (l3 + (0 : Int32)) (l4 + (1 : Int32)) H locs ls hf hP hD hS (lv_sub hl [2, 3, 4, 1, 0] rfl)
        · replace hf := it_t c23 hf
          refine lv_iconst (v := (1 : Int32)) hx hb dX7_manySay_26 (by decide) ?_
          refine lv_goto (tgt := 31) hx hb dX7_manySay_27 (by decide) ?_
          refine lv_iadd hx hb dX7_manySay_31 ?_
          refine lv_istore_n (lv' := [(3, .int (l3 + (1 : Int32))), (0, .ref o_t), (1, .int l1), (2, .int l2), (4, .int l4)]) hx hb dX7_manySay_32 rfl hl (by decide) rfl (fun ls hl => ?_)
          refine lv_iinc (v := l4 + (1 : Int32)) (lv' := [(4, .int (l4 + (1 : Int32))), (3, .int (l3 + (1 : Int32))), (0, .ref o_t), (1, .int l1), (2, .int l2)]) hx hb dX7_manySay_33 hl (k := 4) rfl rfl (by decide) rfl (fun ls hl => ?_)
          refine lv_goto (tgt := 5) hx hb dX7_manySay_36 (by decide) ?_
          exact ih5 u19 l1 l2 (l3 + (1 : Int32)) (l4 + (1 : Int32)) H locs ls hf hP hD hS (lv_sub hl [2, 3, 4, 1, 0] rfl)
  unfold f_X7_manySay at hf
  have hl : lv_has ls 5 [(0, .ref o_t), (1, .int x1), (2, .int x2)] := hl
  obtain ⟨H, hHe⟩ : ∃ H : Heap, H = s.heap := ⟨_, rfl⟩
  obtain ⟨locs, hle⟩ : ∃ q : List Loc, q = [] := ⟨_, rfl⟩
  have hS : va_S A s.heap H locs := by rw [hHe, hle]; exact hS
  rw [← hHe] at hP
  suffices hgo : W p l e rmX7_manySay s m ([.ref o_t, .int x1, .int x2] : List Value).toArray below meth c H locs 0 0 Q (F0 m 0 ls []) by rw [hHe, hle] at hgo; exact hgo
  clear hHe hle
  refine lv_iconst (v := (0 : Int32)) hx hb dX7_manySay_0 (by decide) ?_
  refine lv_istore_n (lv' := [(3, .int (0 : Int32)), (0, .ref o_t), (1, .int x1), (2, .int x2)]) hx hb dX7_manySay_1 rfl hl (by decide) rfl (fun ls hl => ?_)
  refine lv_iconst (v := (0 : Int32)) hx hb dX7_manySay_2 (by decide) ?_
  refine lv_istore (lv' := [(4, .int (0 : Int32)), (3, .int (0 : Int32)), (0, .ref o_t), (1, .int x1), (2, .int x2)]) hx hb dX7_manySay_3 hl (by decide) rfl (fun ls hl => ?_)
  exact j5 1000 S_t x1 x2 (0 : Int32) (0 : Int32) H locs ls hf hP hD hS (lv_sub hl [2, 3, 4, 1, 0] rfl)
abbrev rmX7_saidOf : Room := { frames := 4, cells := 0, slots := 0, locals := 89 }
set_option maxHeartbeats 4000000 in
set_option maxRecDepth 100000 in
theorem c_X7_saidOf (l : Launch) (D : va_G) (cI : ClassId) (o_t : Nat) (a_t : Nat → Nat) (S_t : G) (x1 : Int32) (out : Int32 × G) (hf : f_X7_saidOf S_t x1 = some out) : Cn E0 l yX7_saidOf wsX7_saidOf rmX7_saidOf D cI [.ref o_t, .int x1] (gX7 o_t a_t cI S_t) (some (.int out.1)) (gX7 o_t a_t cI out.2) := by
  refine Cn.mk (cc := cX7_saidOf) (maxL := 4) (ret := (some .int)) (by decide) rfl (Nat.le_of_ble_eq_true rfl) ?_
  intro p e s m below meth c A ls Q hx hb hml hown hts hK hA hP hD hS hl hr hlk hnm hE hQ
  have hown : s.vm.findClass RX7 = some m.cls := hown
  have j4 : ∀ (n4 : Nat) (S_t : G) (l1 : Int32) (l2 : Int32) (l3 : Int32) (H : Heap) (locs : List Loc) (ls : Array Slot), f_X7_saidOf_4 n4 S_t l1 l2 l3 = some out → va_P D vwCl (gX7 o_t a_t cI S_t) H → va_D A (gX7 o_t a_t cI S_t) → va_S A s.heap H locs → lv_has ls 4 [(0, .ref o_t), (1, .int l1), (2, .int l2), (3, .int l3)] → W p l e rmX7_saidOf s m ([.ref o_t, .int x1] : List Value).toArray below meth c H locs 0 0 Q (F0 m 4 ls []) := by
    intro n4
    induction n4 with
    | zero =>
      intro S_t l1 l2 l3 H locs ls hf
      exact no_some hf
    | succ n4 ih4 =>
      intro S_t l1 l2 l3 H locs ls hf hP hD hS hl
      replace hf : b_X7_saidOf_4 (f_X7_saidOf_4 n4) S_t l1 l2 l3 = some out := hf
      unfold b_X7_saidOf_4 at hf
      refine lv_iload_n hx hb dX7_saidOf_4 rfl (lv_at hl 3 rfl) ?_
      refine lv_bipush (v := (24 : Int32)) hx hb dX7_saidOf_5 (by decide) ?_
      refine lv_icmp_ge (tgt := 37) hx hb dX7_saidOf_7 (by decide) (fun c7 => ?_) (fun c7 => ?_)
      · replace hf := it_t c7 hf
        refine lv_aload_n hx hb dX7_saidOf_37 rfl (lv_at hl 0 rfl) ?_
        refine lv_iload_n hx hb dX7_saidOf_38 rfl (lv_at hl 1 rfl) ?_
        obtain ⟨r39, u39, h39, hf⟩ := bd_some hf
        refine calX0 (runV E0.b E0.n (As := [.int l1]) (rest := []) ⟨hx, hb, hml, hown, hts⟩ (c_X7_hearers l D cI o_t a_t S_t l1 _ h39) gX7_saidOf_X7_hearers rfl rfl rfl hdX7_hearers ⟨by decide, by decide⟩ hK hP hD 0 rfl rfl rfl hl.1 rfl (Nat.le_of_ble_eq_true rfl) dX7_saidOf_39 ⟨Nat.zero_le _, Nat.zero_le _⟩) hD hS hA (fun H locs hP hD hS => ?_)
        have hP : va_P D vwCl (gX7 o_t a_t cI u39) H := hP
        have hD : va_D A (gX7 o_t a_t cI u39) := hD
        refine W.eq (g2 := F0 m 42 ls [.int r39]) rfl ?_
        refine lv_if_ne (tgt := 50) hx hb dX7_saidOf_42 (by decide) (fun c42 => ?_) (fun c42 => ?_)
        · replace hf := it_f c42 hf
          refine lv_iload_n hx hb dX7_saidOf_50 rfl (lv_at hl 2 rfl) ?_
          have e := so_some hf
          subst e
          exact ri hx hb hK hr hlk hQ dX7_saidOf_51 hP hD hS
        · replace hf := it_t c42 hf
          refine lv_bipush (v := (-9 : Int32)) hx hb dX7_saidOf_45 (by decide) ?_
          refine lv_goto (tgt := 51) hx hb dX7_saidOf_47 (by decide) ?_
          have e := so_some hf
          subst e
          exact ri hx hb hK hr hlk hQ dX7_saidOf_51 hP hD hS
      · replace hf := it_f c7 hf
        refine lv_aload_n hx hb dX7_saidOf_10 rfl (lv_at hl 0 rfl) ?_
        refine lv_iload_n hx hb dX7_saidOf_11 rfl (lv_at hl 1 rfl) ?_
        refine lv_iload_n hx hb dX7_saidOf_12 rfl (lv_at hl 3 rfl) ?_
        obtain ⟨r13, u13, h13, hf⟩ := bd_some hf
        refine calX0 (runV E0.b E0.n (As := [.int l1, .int l3]) (rest := []) ⟨hx, hb, hml, hown, hts⟩ (c_X7_manySay l D cI o_t a_t S_t l1 l3 _ h13) gX7_saidOf_X7_manySay rfl rfl rfl hdX7_manySay ⟨by decide, by decide⟩ hK hP hD 0 rfl rfl rfl hl.1 rfl (Nat.le_of_ble_eq_true rfl) dX7_saidOf_13 ⟨Nat.zero_le _, Nat.zero_le _⟩) hD hS hA (fun H locs hP hD hS => ?_)
        have hP : va_P D vwCl (gX7 o_t a_t cI u13) H := hP
        have hD : va_D A (gX7 o_t a_t cI u13) := hD
        refine W.eq (g2 := F0 m 16 ls [.int r13]) rfl ?_
        refine lv_aload_n hx hb dX7_saidOf_16 rfl (lv_at hl 0 rfl) ?_
        refine lv_iload_n hx hb dX7_saidOf_17 rfl (lv_at hl 1 rfl) ?_
        refine lv_iload_n hx hb dX7_saidOf_18 rfl (lv_at hl 2 rfl) ?_
        obtain ⟨r19, u19, h19, hf⟩ := bd_some hf
        refine calX0 (runV E0.b E0.n (As := [.int l1, .int l2]) (rest := [.int r13]) ⟨hx, hb, hml, hown, hts⟩ (c_X7_manySay l D cI o_t a_t u13 l1 l2 _ h19) gX7_saidOf_X7_manySay rfl rfl rfl hdX7_manySay ⟨by decide, by decide⟩ hK hP hD 0 rfl rfl rfl hl.1 rfl (Nat.le_of_ble_eq_true rfl) dX7_saidOf_19 ⟨Nat.zero_le _, Nat.zero_le _⟩) hD hS hA (fun H locs hP hD hS => ?_)
        have hP : va_P D vwCl (gX7 o_t a_t cI u19) H := hP
        have hD : va_D A (gX7 o_t a_t cI u19) := hD
        refine W.eq (g2 := F0 m 22 ls [.int r19, .int r13]) rfl ?_
        refine lv_icmp_le (tgt := 29) hx hb dX7_saidOf_22 (by decide) (fun c22 => ?_) (fun c22 => ?_)
        · replace hf := it_t c22 hf
          refine lv_iload_n hx hb dX7_saidOf_29 rfl (lv_at hl 2 rfl) ?_
          refine lv_istore_n (lv' := [(2, .int l2), (0, .ref o_t), (1, .int l1), (3, .int l3)]) hx hb dX7_saidOf_30 rfl hl (by decide) rfl (fun ls hl => ?_)
          refine lv_iinc (v := l3 + (1 : Int32)) (lv' := [(3, .int (l3 + (1 : Int32))), (2, .int l2), (0, .ref o_t), (1, .int l1)]) hx hb dX7_saidOf_31 hl (k := 3) rfl rfl (by decide) rfl (fun ls hl => ?_)
          refine lv_goto (tgt := 4) hx hb dX7_saidOf_34 (by decide) ?_
          exact ih4 u19 l1 l2 (l3 + (1 : Int32)) H locs ls hf hP hD hS (lv_sub hl [2, 3, 1, 0] rfl)
        · replace hf := it_f c22 hf
          refine lv_iload_n hx hb dX7_saidOf_25 rfl (lv_at hl 3 rfl) ?_
          refine lv_goto (tgt := 30) hx hb dX7_saidOf_26 (by decide) ?_
          refine lv_istore_n (lv' := [(2, .int l3), (0, .ref o_t), (1, .int l1), (3, .int l3)]) hx hb dX7_saidOf_30 rfl hl (by decide) rfl (fun ls hl => ?_)
          refine lv_iinc (v := l3 + (1 : Int32)) (lv' := [(3, .int (l3 + (1 : Int32))), (2, .int l3), (0, .ref o_t), (1, .int l1)]) hx hb dX7_saidOf_31 hl (k := 3) rfl rfl (by decide) rfl (fun ls hl => ?_)
          refine lv_goto (tgt := 4) hx hb dX7_saidOf_34 (by decide) ?_
          exact ih4 u19 l1 l3 (l3 + (1 : Int32)) H locs ls hf hP hD hS (lv_sub hl [2, 3, 1, 0] rfl)
  unfold f_X7_saidOf at hf
  have hl : lv_has ls 4 [(0, .ref o_t), (1, .int x1)] := hl
  obtain ⟨H, hHe⟩ : ∃ H : Heap, H = s.heap := ⟨_, rfl⟩
  obtain ⟨locs, hle⟩ : ∃ q : List Loc, q = [] := ⟨_, rfl⟩
  have hS : va_S A s.heap H locs := by rw [hHe, hle]; exact hS
  rw [← hHe] at hP
  suffices hgo : W p l e rmX7_saidOf s m ([.ref o_t, .int x1] : List Value).toArray below meth c H locs 0 0 Q (F0 m 0 ls []) by rw [hHe, hle] at hgo; exact hgo
  clear hHe hle
  refine lv_iconst (v := (0 : Int32)) hx hb dX7_saidOf_0 (by decide) ?_
  refine lv_istore_n (lv' := [(2, .int (0 : Int32)), (0, .ref o_t), (1, .int x1)]) hx hb dX7_saidOf_1 rfl hl (by decide) rfl (fun ls hl => ?_)
  refine lv_iconst (v := (1 : Int32)) hx hb dX7_saidOf_2 (by decide) ?_
  refine lv_istore_n (lv' := [(3, .int (1 : Int32)), (2, .int (0 : Int32)), (0, .ref o_t), (1, .int x1)]) hx hb dX7_saidOf_3 rfl hl (by decide) rfl (fun ls hl => ?_)
  exact j4 1000 S_t x1 (0 : Int32) (1 : Int32) H locs ls hf hP hD hS (lv_sub hl [2, 3, 1, 0] rfl)
abbrev rmX7_isTrue : Room := { frames := 5, cells := 0, slots := 0, locals := 112 }
set_option maxHeartbeats 4000000 in
set_option maxRecDepth 100000 in
theorem c_X7_isTrue (l : Launch) (D : va_G) (cI : ClassId) (o_t : Nat) (a_t : Nat → Nat) (S_t : G) (x1 : Int32) (out : Int32 × G) (hf : f_X7_isTrue S_t x1 = some out) : Cn E0 l yX7_isTrue wsX7_isTrue rmX7_isTrue D cI [.ref o_t, .int x1] (gX7 o_t a_t cI S_t) (some (.int out.1)) (gX7 o_t a_t cI out.2) := by
  refine Cn.mk (cc := cX7_isTrue) (maxL := 2) (ret := (some .boolean)) (by decide) rfl (Nat.le_of_ble_eq_true rfl) ?_
  intro p e s m below meth c A ls Q hx hb hml hown hts hK hA hP hD hS hl hr hlk hnm hE hQ
  have hown : s.vm.findClass RX7 = some m.cls := hown
  have hinX7 : ∀ w ∈ u_ws RX7 TX7 26, w ∈ wsX7_isTrue := by decide +kernel
  unfold f_X7_isTrue at hf
  have hl : lv_has ls 2 [(0, .ref o_t), (1, .int x1)] := hl
  obtain ⟨H, hHe⟩ : ∃ H : Heap, H = s.heap := ⟨_, rfl⟩
  obtain ⟨locs, hle⟩ : ∃ q : List Loc, q = [] := ⟨_, rfl⟩
  have hS : va_S A s.heap H locs := by rw [hHe, hle]; exact hS
  rw [← hHe] at hP
  suffices hgo : W p l e rmX7_isTrue s m ([.ref o_t, .int x1] : List Value).toArray below meth c H locs 0 0 Q (F0 m 0 ls []) by rw [hHe, hle] at hgo; exact hgo
  clear hHe hle
  refine lv_aload_n hx hb dX7_isTrue_0 rfl (lv_at hl 0 rfl) ?_
  refine lv_iload_n hx hb dX7_isTrue_1 rfl (lv_at hl 1 rfl) ?_
  obtain ⟨r2, u2, h2, hf⟩ := bd_some hf
  refine calX0 (runV E0.b E0.n (As := [.int x1]) (rest := []) ⟨hx, hb, hml, hown, hts⟩ (c_X7_saidOf l D cI o_t a_t S_t x1 _ h2) gX7_isTrue_X7_saidOf rfl rfl rfl hdX7_saidOf ⟨by decide, by decide⟩ hK hP hD 0 rfl rfl rfl hl.1 rfl (Nat.le_of_ble_eq_true rfl) dX7_isTrue_2 ⟨Nat.zero_le _, Nat.zero_le _⟩) hD hS hA (fun H locs hP hD hS => ?_)
  have hP : va_P D vwCl (gX7 o_t a_t cI u2) H := hP
  have hD : va_D A (gX7 o_t a_t cI u2) := hD
  refine W.eq (g2 := F0 m 5 ls [.int r2]) rfl ?_
  refine lv_aload_n hx hb dX7_isTrue_5 rfl (lv_at hl 0 rfl) ?_
  refine va_get (D := D) (ci := 7) (v := .ref (a_t 1)) (C := RX7) (T := TX7) (N := 26) hx hb hts hinX7 hown hK hP 0 rfl rfl 1 (by decide) (hts (.fieldLink RX7 13 "OnlyStrangersHearModel" "hour" "[I") (by decide +kernel)) (fun _ h9 => h9) rfl dX7_isTrue_6 ?_
  refine lv_iload_n hx hb dX7_isTrue_9 rfl (lv_at hl 1 rfl) ?_
  obtain ⟨b10, hf⟩ := ck_some hf
  refine va_iald hx hb hK hP 2 0 rfl rfl b10 dX7_isTrue_10 ?_
  refine lv_icmp_ne (tgt := 18) hx hb dX7_isTrue_11 (by decide) (fun c11 => ?_) (fun c11 => ?_)
  · replace hf := it_f c11 hf
    refine lv_iconst (v := (0 : Int32)) hx hb dX7_isTrue_18 (by decide) ?_
    have e := so_some hf
    subst e
    exact rz hx hb hK hr hlk (Or.inl rfl) hQ dX7_isTrue_19 hP hD hS
  · replace hf := it_t c11 hf
    refine lv_iconst (v := (1 : Int32)) hx hb dX7_isTrue_14 (by decide) ?_
    refine lv_goto (tgt := 19) hx hb dX7_isTrue_15 (by decide) ?_
    have e := so_some hf
    subst e
    exact rz hx hb hK hr hlk (Or.inr rfl) hQ dX7_isTrue_19 hP hD hS
abbrev rmX7_ringsNow : Room := { frames := 0, cells := 0, slots := 0, locals := 0 }
set_option maxHeartbeats 4000000 in
set_option maxRecDepth 100000 in
theorem c_X7_ringsNow (l : Launch) (D : va_G) (cI : ClassId) (o_t : Nat) (a_t : Nat → Nat) (S_t : G) (x1 : Int32) (out : Int32 × G) (hf : f_X7_ringsNow S_t x1 = some out) : Cn E0 l yX7_ringsNow wsX7_ringsNow rmX7_ringsNow D cI [.ref o_t, .int x1] (gX7 o_t a_t cI S_t) (some (.int out.1)) (gX7 o_t a_t cI out.2) := by
  refine Cn.mk (cc := cX7_ringsNow) (maxL := 2) (ret := (some .boolean)) (by decide) rfl (Nat.le_of_ble_eq_true rfl) ?_
  intro p e s m below meth c A ls Q hx hb hml hown hts hK hA hP hD hS hl hr hlk hnm hE hQ
  have hown : s.vm.findClass RX7 = some m.cls := hown
  have hinX7 : ∀ w ∈ u_ws RX7 TX7 26, w ∈ wsX7_ringsNow := by decide +kernel
  unfold f_X7_ringsNow at hf
  have hl : lv_has ls 2 [(0, .ref o_t), (1, .int x1)] := hl
  obtain ⟨H, hHe⟩ : ∃ H : Heap, H = s.heap := ⟨_, rfl⟩
  obtain ⟨locs, hle⟩ : ∃ q : List Loc, q = [] := ⟨_, rfl⟩
  have hS : va_S A s.heap H locs := by rw [hHe, hle]; exact hS
  rw [← hHe] at hP
  suffices hgo : W p l e rmX7_ringsNow s m ([.ref o_t, .int x1] : List Value).toArray below meth c H locs 0 0 Q (F0 m 0 ls []) by rw [hHe, hle] at hgo; exact hgo
  clear hHe hle
  refine lv_aload_n hx hb dX7_ringsNow_0 rfl (lv_at hl 0 rfl) ?_
  refine va_get (D := D) (ci := 7) (v := .int (S_t.1 9)) (C := RX7) (T := TX7) (N := 26) hx hb hts hinX7 hown hK hP 0 rfl rfl 9 (by decide) (hts (.fieldLink RX7 107 "OnlyStrangersHearModel" "day" "I") (by decide +kernel)) (fun _ h9 => h9) rfl dX7_ringsNow_1 ?_
  refine lv_aload_n hx hb dX7_ringsNow_4 rfl (lv_at hl 0 rfl) ?_
  refine va_get (D := D) (ci := 7) (v := .ref (a_t 2)) (C := RX7) (T := TX7) (N := 26) hx hb hts hinX7 hown hK hP 0 rfl rfl 2 (by decide) (hts (.fieldLink RX7 16 "OnlyStrangersHearModel" "every" "[I") (by decide +kernel)) (fun _ h9 => h9) rfl dX7_ringsNow_5 ?_
  refine lv_iload_n hx hb dX7_ringsNow_8 rfl (lv_at hl 1 rfl) ?_
  obtain ⟨b9, hf⟩ := ck_some hf
  refine va_iald hx hb hK hP 3 0 rfl rfl b9 dX7_ringsNow_9 ?_
  obtain ⟨z10, hf⟩ := nz_some hf
  refine lv_irem hx hb dX7_ringsNow_10 z10 ?_
  refine lv_if_ne (tgt := 18) hx hb dX7_ringsNow_11 (by decide) (fun c11 => ?_) (fun c11 => ?_)
  · replace hf := it_f c11 hf
    refine lv_iconst (v := (0 : Int32)) hx hb dX7_ringsNow_18 (by decide) ?_
    have e := so_some hf
    subst e
    exact rz hx hb hK hr hlk (Or.inl rfl) hQ dX7_ringsNow_19 hP hD hS
  · replace hf := it_t c11 hf
    refine lv_iconst (v := (1 : Int32)) hx hb dX7_ringsNow_14 (by decide) ?_
    refine lv_goto (tgt := 19) hx hb dX7_ringsNow_15 (by decide) ?_
    have e := so_some hf
    subst e
    exact rz hx hb hK hr hlk (Or.inr rfl) hQ dX7_ringsNow_19 hP hD hS
abbrev rmX7_hearsSome : Room := { frames := 2, cells := 0, slots := 0, locals := 43 }
set_option maxHeartbeats 4000000 in
set_option maxRecDepth 100000 in
theorem c_X7_hearsSome (l : Launch) (D : va_G) (cI : ClassId) (o_t : Nat) (a_t : Nat → Nat) (S_t : G) (x1 : Int32) (out : Int32 × G) (hf : f_X7_hearsSome S_t x1 = some out) : Cn E0 l yX7_hearsSome wsX7_hearsSome rmX7_hearsSome D cI [.ref o_t, .int x1] (gX7 o_t a_t cI S_t) (some (.int out.1)) (gX7 o_t a_t cI out.2) := by
  refine Cn.mk (cc := cX7_hearsSome) (maxL := 3) (ret := (some .boolean)) (by decide) rfl (Nat.le_of_ble_eq_true rfl) ?_
  intro p e s m below meth c A ls Q hx hb hml hown hts hK hA hP hD hS hl hr hlk hnm hE hQ
  have hown : s.vm.findClass RX7 = some m.cls := hown
  have hinX7 : ∀ w ∈ u_ws RX7 TX7 26, w ∈ wsX7_hearsSome := by decide +kernel
  have j2 : ∀ (n2 : Nat) (S_t : G) (l1 : Int32) (l2 : Int32) (H : Heap) (locs : List Loc) (ls : Array Slot), f_X7_hearsSome_2 n2 S_t l1 l2 = some out → va_P D vwCl (gX7 o_t a_t cI S_t) H → va_D A (gX7 o_t a_t cI S_t) → va_S A s.heap H locs → lv_has ls 3 [(0, .ref o_t), (1, .int l1), (2, .int l2)] → W p l e rmX7_hearsSome s m ([.ref o_t, .int x1] : List Value).toArray below meth c H locs 0 0 Q (F0 m 2 ls []) := by
    intro n2
    induction n2 with
    | zero =>
      intro S_t l1 l2 H locs ls hf
      exact no_some hf
    | succ n2 ih2 =>
      intro S_t l1 l2 H locs ls hf hP hD hS hl
      replace hf : b_X7_hearsSome_2 (f_X7_hearsSome_2 n2) S_t l1 l2 = some out := hf
      unfold b_X7_hearsSome_2 at hf
      refine lv_iload_n hx hb dX7_hearsSome_2 rfl (lv_at hl 2 rfl) ?_
      refine lv_aload_n hx hb dX7_hearsSome_3 rfl (lv_at hl 0 rfl) ?_
      refine va_get (D := D) (ci := 7) (v := .int (S_t.1 7)) (C := RX7) (T := TX7) (N := 26) hx hb hts hinX7 hown hK hP 0 rfl rfl 7 (by decide) (hts (.fieldLink RX7 62 "OnlyStrangersHearModel" "bells" "I") (by decide +kernel)) (fun _ h9 => h9) rfl dX7_hearsSome_4 ?_
      refine lv_icmp_ge (tgt := 27) hx hb dX7_hearsSome_7 (by decide) (fun c7 => ?_) (fun c7 => ?_)
      · replace hf := it_t c7 hf
        refine lv_iconst (v := (0 : Int32)) hx hb dX7_hearsSome_27 (by decide) ?_
        have e := so_some hf
        subst e
        exact rz hx hb hK hr hlk (Or.inl rfl) hQ dX7_hearsSome_28 hP hD hS
      · replace hf := it_f c7 hf
        refine lv_aload_n hx hb dX7_hearsSome_10 rfl (lv_at hl 0 rfl) ?_
        refine lv_iload_n hx hb dX7_hearsSome_11 rfl (lv_at hl 1 rfl) ?_
        refine lv_iload_n hx hb dX7_hearsSome_12 rfl (lv_at hl 2 rfl) ?_
        obtain ⟨r13, u13, h13, hf⟩ := bd_some hf
        refine calX0 (runV E0.b E0.n (As := [.int l1, .int l2]) (rest := []) ⟨hx, hb, hml, hown, hts⟩ (c_X7_hears l D cI o_t a_t S_t l1 l2 _ h13) gX7_hearsSome_X7_hears rfl rfl rfl hdX7_hears ⟨by decide, by decide⟩ hK hP hD 0 rfl rfl rfl hl.1 rfl (Nat.le_of_ble_eq_true rfl) dX7_hearsSome_13 ⟨Nat.zero_le _, Nat.zero_le _⟩) hD hS hA (fun H locs hP hD hS => ?_)
        have hP : va_P D vwCl (gX7 o_t a_t cI u13) H := hP
        have hD : va_D A (gX7 o_t a_t cI u13) := hD
        refine W.eq (g2 := F0 m 16 ls [.int r13]) rfl ?_
        refine lv_if_eq (tgt := 21) hx hb dX7_hearsSome_16 (by decide) (fun c16 => ?_) (fun c16 => ?_)
        · replace hf := it_t c16 hf
          refine lv_iinc (v := l2 + (1 : Int32)) (lv' := [(2, .int (l2 + (1 : Int32))), (0, .ref o_t), (1, .int l1)]) hx hb dX7_hearsSome_21 hl (k := 2) rfl rfl (by decide) rfl (fun ls hl => ?_)
          refine lv_goto (tgt := 2) hx hb dX7_hearsSome_24 (by decide) ?_
          exact ih2 u13 l1 (l2 + (1 : Int32)) H locs ls hf hP hD hS (lv_sub hl [1, 2, 0] rfl)
        · replace hf := it_f c16 hf
          refine lv_iconst (v := (1 : Int32)) hx hb dX7_hearsSome_19 (by decide) ?_
          have e := so_some hf
          subst e
          exact rz hx hb hK hr hlk (Or.inr rfl) hQ dX7_hearsSome_20 hP hD hS
  unfold f_X7_hearsSome at hf
  have hl : lv_has ls 3 [(0, .ref o_t), (1, .int x1)] := hl
  obtain ⟨H, hHe⟩ : ∃ H : Heap, H = s.heap := ⟨_, rfl⟩
  obtain ⟨locs, hle⟩ : ∃ q : List Loc, q = [] := ⟨_, rfl⟩
  have hS : va_S A s.heap H locs := by rw [hHe, hle]; exact hS
  rw [← hHe] at hP
  suffices hgo : W p l e rmX7_hearsSome s m ([.ref o_t, .int x1] : List Value).toArray below meth c H locs 0 0 Q (F0 m 0 ls []) by rw [hHe, hle] at hgo; exact hgo
  clear hHe hle
  refine lv_iconst (v := (0 : Int32)) hx hb dX7_hearsSome_0 (by decide) ?_
  refine lv_istore_n (lv' := [(2, .int (0 : Int32)), (0, .ref o_t), (1, .int x1)]) hx hb dX7_hearsSome_1 rfl hl (by decide) rfl (fun ls hl => ?_)
  exact j2 1000 S_t x1 (0 : Int32) H locs ls hf hP hD hS (lv_sub hl [1, 2, 0] rfl)
abbrev rmX7_manyHear : Room := { frames := 3, cells := 0, slots := 0, locals := 65 }
set_option maxHeartbeats 4000000 in
set_option maxRecDepth 100000 in
theorem c_X7_manyHear (l : Launch) (D : va_G) (cI : ClassId) (o_t : Nat) (a_t : Nat → Nat) (S_t : G) (out : Int32 × G) (hf : f_X7_manyHear S_t = some out) : Cn E0 l yX7_manyHear wsX7_manyHear rmX7_manyHear D cI [.ref o_t] (gX7 o_t a_t cI S_t) (some (.int out.1)) (gX7 o_t a_t cI out.2) := by
  refine Cn.mk (cc := cX7_manyHear) (maxL := 3) (ret := (some .int)) (by decide) rfl (Nat.le_of_ble_eq_true rfl) ?_
  intro p e s m below meth c A ls Q hx hb hml hown hts hK hA hP hD hS hl hr hlk hnm hE hQ
  have hown : s.vm.findClass RX7 = some m.cls := hown
  have hinX7 : ∀ w ∈ u_ws RX7 TX7 26, w ∈ wsX7_manyHear := by decide +kernel
  have j4 : ∀ (n4 : Nat) (S_t : G) (l1 : Int32) (l2 : Int32) (H : Heap) (locs : List Loc) (ls : Array Slot), f_X7_manyHear_4 n4 S_t l1 l2 = some out → va_P D vwCl (gX7 o_t a_t cI S_t) H → va_D A (gX7 o_t a_t cI S_t) → va_S A s.heap H locs → lv_has ls 3 [(0, .ref o_t), (1, .int l1), (2, .int l2)] → W p l e rmX7_manyHear s m ([.ref o_t] : List Value).toArray below meth c H locs 0 0 Q (F0 m 4 ls []) := by
    intro n4
    induction n4 with
    | zero =>
      intro S_t l1 l2 H locs ls hf
      exact no_some hf
    | succ n4 ih4 =>
      intro S_t l1 l2 H locs ls hf hP hD hS hl
      replace hf : b_X7_manyHear_4 (f_X7_manyHear_4 n4) S_t l1 l2 = some out := hf
      unfold b_X7_manyHear_4 at hf
      refine lv_iload_n hx hb dX7_manyHear_4 rfl (lv_at hl 2 rfl) ?_
      refine lv_aload_n hx hb dX7_manyHear_5 rfl (lv_at hl 0 rfl) ?_
      refine va_get (D := D) (ci := 7) (v := .int (S_t.1 8)) (C := RX7) (T := TX7) (N := 26) hx hb hts hinX7 hown hK hP 0 rfl rfl 8 (by decide) (hts (.fieldLink RX7 65 "OnlyStrangersHearModel" "people" "I") (by decide +kernel)) (fun _ h9 => h9) rfl dX7_manyHear_6 ?_
      refine lv_icmp_ge (tgt := 34) hx hb dX7_manyHear_9 (by decide) (fun c9 => ?_) (fun c9 => ?_)
      · replace hf := it_t c9 hf
        refine lv_iload_n hx hb dX7_manyHear_34 rfl (lv_at hl 1 rfl) ?_
        have e := so_some hf
        subst e
        exact ri hx hb hK hr hlk hQ dX7_manyHear_35 hP hD hS
      · replace hf := it_f c9 hf
        refine lv_iload_n hx hb dX7_manyHear_12 rfl (lv_at hl 1 rfl) ?_
        refine lv_aload_n hx hb dX7_manyHear_13 rfl (lv_at hl 0 rfl) ?_
        refine lv_iload_n hx hb dX7_manyHear_14 rfl (lv_at hl 2 rfl) ?_
        obtain ⟨r15, u15, h15, hf⟩ := bd_some hf
        refine calX0 (runV E0.b E0.n (As := [.int l2]) (rest := [.int l1]) ⟨hx, hb, hml, hown, hts⟩ (c_X7_hearsSome l D cI o_t a_t S_t l2 _ h15) gX7_manyHear_X7_hearsSome rfl rfl rfl hdX7_hearsSome ⟨by decide, by decide⟩ hK hP hD 0 rfl rfl rfl hl.1 rfl (Nat.le_of_ble_eq_true rfl) dX7_manyHear_15 ⟨Nat.zero_le _, Nat.zero_le _⟩) hD hS hA (fun H locs hP hD hS => ?_)
        have hP : va_P D vwCl (gX7 o_t a_t cI u15) H := hP
        have hD : va_D A (gX7 o_t a_t cI u15) := hD
        refine W.eq (g2 := F0 m 18 ls [.int r15, .int l1]) rfl ?_
        refine lv_if_eq (tgt := 25) hx hb dX7_manyHear_18 (by decide) (fun c18 => ?_) (fun c18 => ?_)
        · replace hf := it_t c18 hf
          refine lv_iconst (v := (0 : Int32)) hx hb dX7_manyHear_25 (by decide) ?_
          refine lv_iadd hx hb dX7_manyHear_26 ?_
          refine lv_istore_n (lv' := [(1, .int (l1 + (0 : Int32))), (0, .ref o_t), (2, .int l2)]) hx hb dX7_manyHear_27 rfl hl (by decide) rfl (fun ls hl => ?_)
          refine lv_iinc (v := l2 + (1 : Int32)) (lv' := [(2, .int (l2 + (1 : Int32))), (1, .int (l1 + (0 : Int32))), (0, .ref o_t)]) hx hb dX7_manyHear_28 hl (k := 2) rfl rfl (by decide) rfl (fun ls hl => ?_)
          refine lv_goto (tgt := 4) hx hb dX7_manyHear_31 (by decide) ?_
          exact ih4 u15 (l1 + (0 : Int32)) (l2 + (1 : Int32)) H locs ls hf hP hD hS (lv_sub hl [2, 1, 0] rfl)
        · replace hf := it_f c18 hf
          refine lv_iconst (v := (1 : Int32)) hx hb dX7_manyHear_21 (by decide) ?_
          refine lv_goto (tgt := 26) hx hb dX7_manyHear_22 (by decide) ?_
          refine lv_iadd hx hb dX7_manyHear_26 ?_
          refine lv_istore_n (lv' := [(1, .int (l1 + (1 : Int32))), (0, .ref o_t), (2, .int l2)]) hx hb dX7_manyHear_27 rfl hl (by decide) rfl (fun ls hl => ?_)
          refine lv_iinc (v := l2 + (1 : Int32)) (lv' := [(2, .int (l2 + (1 : Int32))), (1, .int (l1 + (1 : Int32))), (0, .ref o_t)]) hx hb dX7_manyHear_28 hl (k := 2) rfl rfl (by decide) rfl (fun ls hl => ?_)
          refine lv_goto (tgt := 4) hx hb dX7_manyHear_31 (by decide) ?_
          exact ih4 u15 (l1 + (1 : Int32)) (l2 + (1 : Int32)) H locs ls hf hP hD hS (lv_sub hl [2, 1, 0] rfl)
  unfold f_X7_manyHear at hf
  have hl : lv_has ls 3 [(0, .ref o_t)] := hl
  obtain ⟨H, hHe⟩ : ∃ H : Heap, H = s.heap := ⟨_, rfl⟩
  obtain ⟨locs, hle⟩ : ∃ q : List Loc, q = [] := ⟨_, rfl⟩
  have hS : va_S A s.heap H locs := by rw [hHe, hle]; exact hS
  rw [← hHe] at hP
  suffices hgo : W p l e rmX7_manyHear s m ([.ref o_t] : List Value).toArray below meth c H locs 0 0 Q (F0 m 0 ls []) by rw [hHe, hle] at hgo; exact hgo
  clear hHe hle
  refine lv_iconst (v := (0 : Int32)) hx hb dX7_manyHear_0 (by decide) ?_
  refine lv_istore_n (lv' := [(1, .int (0 : Int32)), (0, .ref o_t)]) hx hb dX7_manyHear_1 rfl hl (by decide) rfl (fun ls hl => ?_)
  refine lv_iconst (v := (0 : Int32)) hx hb dX7_manyHear_2 (by decide) ?_
  refine lv_istore_n (lv' := [(2, .int (0 : Int32)), (1, .int (0 : Int32)), (0, .ref o_t)]) hx hb dX7_manyHear_3 rfl hl (by decide) rfl (fun ls hl => ?_)
  exact j4 1000 S_t (0 : Int32) (0 : Int32) H locs ls hf hP hD hS (lv_sub hl [2, 1, 0] rfl)
abbrev rmX7_bell : Room := { frames := 5, cells := 0, slots := 0, locals := 112 }
set_option maxHeartbeats 4000000 in
set_option maxRecDepth 100000 in
theorem c_X7_bell (l : Launch) (D : va_G) (cI : ClassId) (o_t : Nat) (a_t : Nat → Nat) (S_t : G) (x1 : Int32) (x2 : Int32) (out : Int32 × G) (hf : f_X7_bell S_t x1 x2 = some out) : Cn E0 l yX7_bell wsX7_bell rmX7_bell D cI [.ref o_t, .int x1, .int x2] (gX7 o_t a_t cI S_t) (some (.int out.1)) (gX7 o_t a_t cI out.2) := by
  refine Cn.mk (cc := cX7_bell) (maxL := 3) (ret := (some .int)) (by decide) rfl (Nat.le_of_ble_eq_true rfl) ?_
  intro p e s m below meth c A ls Q hx hb hml hown hts hK hA hP hD hS hl hr hlk hnm hE hQ
  have hown : s.vm.findClass RX7 = some m.cls := hown
  have hinX7 : ∀ w ∈ u_ws RX7 TX7 26, w ∈ wsX7_bell := by decide +kernel
  unfold f_X7_bell at hf
  have hl : lv_has ls 3 [(0, .ref o_t), (1, .int x1), (2, .int x2)] := hl
  obtain ⟨H, hHe⟩ : ∃ H : Heap, H = s.heap := ⟨_, rfl⟩
  obtain ⟨locs, hle⟩ : ∃ q : List Loc, q = [] := ⟨_, rfl⟩
  have hS : va_S A s.heap H locs := by rw [hHe, hle]; exact hS
  rw [← hHe] at hP
  suffices hgo : W p l e rmX7_bell s m ([.ref o_t, .int x1, .int x2] : List Value).toArray below meth c H locs 0 0 Q (F0 m 0 ls []) by rw [hHe, hle] at hgo; exact hgo
  clear hHe hle
  refine lv_aload_n hx hb dX7_bell_0 rfl (lv_at hl 0 rfl) ?_
  refine lv_iload_n hx hb dX7_bell_1 rfl (lv_at hl 1 rfl) ?_
  obtain ⟨r2, u2, h2, hf⟩ := bd_some hf
  refine calX0 (runV E0.b E0.n (As := [.int x1]) (rest := []) ⟨hx, hb, hml, hown, hts⟩ (c_X7_isBell l D cI o_t a_t S_t x1 _ h2) gX7_bell_X7_isBell rfl rfl rfl hdX7_isBell ⟨by decide, by decide⟩ hK hP hD 0 rfl rfl rfl hl.1 rfl (Nat.le_of_ble_eq_true rfl) dX7_bell_2 ⟨Nat.zero_le _, Nat.zero_le _⟩) hD hS hA (fun H locs hP hD hS => ?_)
  have hP : va_P D vwCl (gX7 o_t a_t cI u2) H := hP
  have hD : va_D A (gX7 o_t a_t cI u2) := hD
  refine W.eq (g2 := F0 m 5 ls [.int r2]) rfl ?_
  refine lv_if_ne (tgt := 14) hx hb dX7_bell_5 (by decide) (fun c5 => ?_) (fun c5 => ?_)
  · replace hf := it_f c5 hf
    refine lv_iload_n hx hb dX7_bell_14 rfl (lv_at hl 2 rfl) ?_
    by_cases ck0 : x2 = (0 : Int32)
    · replace hf := it_t ck0 hf
      refine lv_tableIn (off := 29) (tgt := 44) hx hb dX7_bell_15 (by rw [ck0]; decide) (by rw [ck0]; decide) (by rw [ck0]; decide) (by decide) ?_
      refine lv_aload_n hx hb dX7_bell_44 rfl (lv_at hl 0 rfl) ?_
      refine va_get (D := D) (ci := 7) (v := .ref (a_t 1)) (C := RX7) (T := TX7) (N := 26) hx hb hts hinX7 hown hK hP 0 rfl rfl 1 (by decide) (hts (.fieldLink RX7 13 "OnlyStrangersHearModel" "hour" "[I") (by decide +kernel)) (fun _ h9 => h9) rfl dX7_bell_45 ?_
      refine lv_iload_n hx hb dX7_bell_48 rfl (lv_at hl 1 rfl) ?_
      obtain ⟨b49, hf⟩ := ck_some hf
      refine va_iald hx hb hK hP 2 0 rfl rfl b49 dX7_bell_49 ?_
      have e := so_some hf
      subst e
      exact ri hx hb hK hr hlk hQ dX7_bell_50 hP hD hS
    · replace hf := it_f ck0 hf
      by_cases ck1 : x2 = (1 : Int32)
      · replace hf := it_t ck1 hf
        refine lv_tableIn (off := 36) (tgt := 51) hx hb dX7_bell_15 (by rw [ck1]; decide) (by rw [ck1]; decide) (by rw [ck1]; decide) (by decide) ?_
        refine lv_aload_n hx hb dX7_bell_51 rfl (lv_at hl 0 rfl) ?_
        refine va_get (D := D) (ci := 7) (v := .ref (a_t 2)) (C := RX7) (T := TX7) (N := 26) hx hb hts hinX7 hown hK hP 0 rfl rfl 2 (by decide) (hts (.fieldLink RX7 16 "OnlyStrangersHearModel" "every" "[I") (by decide +kernel)) (fun _ h9 => h9) rfl dX7_bell_52 ?_
        refine lv_iload_n hx hb dX7_bell_55 rfl (lv_at hl 1 rfl) ?_
        obtain ⟨b56, hf⟩ := ck_some hf
        refine va_iald hx hb hK hP 3 0 rfl rfl b56 dX7_bell_56 ?_
        have e := so_some hf
        subst e
        exact ri hx hb hK hr hlk hQ dX7_bell_57 hP hD hS
      · replace hf := it_f ck1 hf
        by_cases ck2 : x2 = (2 : Int32)
        · replace hf := it_t ck2 hf
          refine lv_tableIn (off := 43) (tgt := 58) hx hb dX7_bell_15 (by rw [ck2]; decide) (by rw [ck2]; decide) (by rw [ck2]; decide) (by decide) ?_
          refine lv_aload_n hx hb dX7_bell_58 rfl (lv_at hl 0 rfl) ?_
          refine lv_iload_n hx hb dX7_bell_59 rfl (lv_at hl 1 rfl) ?_
          obtain ⟨r60, u60, h60, hf⟩ := bd_some hf
          refine calX0 (runV E0.b E0.n (As := [.int x1]) (rest := []) ⟨hx, hb, hml, hown, hts⟩ (c_X7_hearers l D cI o_t a_t u2 x1 _ h60) gX7_bell_X7_hearers rfl rfl rfl hdX7_hearers ⟨by decide, by decide⟩ hK hP hD 0 rfl rfl rfl hl.1 rfl (Nat.le_of_ble_eq_true rfl) dX7_bell_60 ⟨Nat.zero_le _, Nat.zero_le _⟩) hD hS hA (fun H locs hP hD hS => ?_)
          have hP : va_P D vwCl (gX7 o_t a_t cI u60) H := hP
          have hD : va_D A (gX7 o_t a_t cI u60) := hD
          refine W.eq (g2 := F0 m 63 ls [.int r60]) rfl ?_
          have e := so_some hf
          subst e
          exact ri hx hb hK hr hlk hQ dX7_bell_63 hP hD hS
        · replace hf := it_f ck2 hf
          by_cases ck3 : x2 = (3 : Int32)
          · replace hf := it_t ck3 hf
            refine lv_tableIn (off := 49) (tgt := 64) hx hb dX7_bell_15 (by rw [ck3]; decide) (by rw [ck3]; decide) (by rw [ck3]; decide) (by decide) ?_
            refine lv_aload_n hx hb dX7_bell_64 rfl (lv_at hl 0 rfl) ?_
            refine lv_iload_n hx hb dX7_bell_65 rfl (lv_at hl 1 rfl) ?_
            obtain ⟨r66, u66, h66, hf⟩ := bd_some hf
            refine calX0 (runV E0.b E0.n (As := [.int x1]) (rest := []) ⟨hx, hb, hml, hown, hts⟩ (c_X7_saidOf l D cI o_t a_t u2 x1 _ h66) gX7_bell_X7_saidOf rfl rfl rfl hdX7_saidOf ⟨by decide, by decide⟩ hK hP hD 0 rfl rfl rfl hl.1 rfl (Nat.le_of_ble_eq_true rfl) dX7_bell_66 ⟨Nat.zero_le _, Nat.zero_le _⟩) hD hS hA (fun H locs hP hD hS => ?_)
            have hP : va_P D vwCl (gX7 o_t a_t cI u66) H := hP
            have hD : va_D A (gX7 o_t a_t cI u66) := hD
            refine W.eq (g2 := F0 m 69 ls [.int r66]) rfl ?_
            have e := so_some hf
            subst e
            exact ri hx hb hK hr hlk hQ dX7_bell_69 hP hD hS
          · replace hf := it_f ck3 hf
            by_cases clo : x2.toInt < 0
            · refine lv_tableOut (tgt := 70) hx hb dX7_bell_15 (Or.inl clo) (by decide) ?_
              refine lv_aload_n hx hb dX7_bell_70 rfl (lv_at hl 0 rfl) ?_
              refine lv_bipush (v := (-2 : Int32)) hx hb dX7_bell_71 (by decide) ?_
              obtain ⟨r73, u73, h73, hf⟩ := bd_some hf
              refine calX0 (runV E0.b E0.n (As := [.int (-2 : Int32)]) (rest := []) ⟨hx, hb, hml, hown, hts⟩ (c_X7_no l D cI o_t a_t u2 (-2 : Int32) _ h73) gX7_bell_X7_no rfl rfl rfl hdX7_no ⟨by decide, by decide⟩ hK hP hD 0 rfl rfl rfl hl.1 rfl (Nat.le_of_ble_eq_true rfl) dX7_bell_73 ⟨Nat.zero_le _, Nat.zero_le _⟩) hD hS hA (fun H locs hP hD hS => ?_)
              have hP : va_P D vwCl (gX7 o_t a_t cI u73) H := hP
              have hD : va_D A (gX7 o_t a_t cI u73) := hD
              refine W.eq (g2 := F0 m 76 ls [.int r73]) rfl ?_
              have e := so_some hf
              subst e
              exact ri hx hb hK hr hlk hQ dX7_bell_76 hP hD hS
            by_cases chi : 3 < x2.toInt
            · refine lv_tableOut (tgt := 70) hx hb dX7_bell_15 (Or.inr chi) (by decide) ?_
              refine lv_aload_n hx hb dX7_bell_70 rfl (lv_at hl 0 rfl) ?_
              refine lv_bipush (v := (-2 : Int32)) hx hb dX7_bell_71 (by decide) ?_
              obtain ⟨r73, u73, h73, hf⟩ := bd_some hf
              refine calX0 (runV E0.b E0.n (As := [.int (-2 : Int32)]) (rest := []) ⟨hx, hb, hml, hown, hts⟩ (c_X7_no l D cI o_t a_t u2 (-2 : Int32) _ h73) gX7_bell_X7_no rfl rfl rfl hdX7_no ⟨by decide, by decide⟩ hK hP hD 0 rfl rfl rfl hl.1 rfl (Nat.le_of_ble_eq_true rfl) dX7_bell_73 ⟨Nat.zero_le _, Nat.zero_le _⟩) hD hS hA (fun H locs hP hD hS => ?_)
              have hP : va_P D vwCl (gX7 o_t a_t cI u73) H := hP
              have hD : va_D A (gX7 o_t a_t cI u73) := hD
              refine W.eq (g2 := F0 m 76 ls [.int r73]) rfl ?_
              have e := so_some hf
              subst e
              exact ri hx hb hK hr hlk hQ dX7_bell_76 hP hD hS
            exact (sw_no (x := x2) (lo := 0) (hi := 3) clo chi (ks := [0, 1, 2, 3]) (by decide) (List.forall_mem_cons.mpr ⟨lv_neT (k := 0) (a := 0) ck0 (by decide), (List.forall_mem_cons.mpr ⟨lv_neT (k := 1) (a := 1) ck1 (by decide), (List.forall_mem_cons.mpr ⟨lv_neT (k := 2) (a := 2) ck2 (by decide), (List.forall_mem_cons.mpr ⟨lv_neT (k := 3) (a := 3) ck3 (by decide), (fun _ h => absurd h List.not_mem_nil)⟩)⟩)⟩)⟩)).elim
  · replace hf := it_t c5 hf
    refine lv_aload_n hx hb dX7_bell_8 rfl (lv_at hl 0 rfl) ?_
    refine lv_iconst (v := (-1 : Int32)) hx hb dX7_bell_9 (by decide) ?_
    obtain ⟨r10, u10, h10, hf⟩ := bd_some hf
    refine calX0 (runV E0.b E0.n (As := [.int (-1 : Int32)]) (rest := []) ⟨hx, hb, hml, hown, hts⟩ (c_X7_no l D cI o_t a_t u2 (-1 : Int32) _ h10) gX7_bell_X7_no rfl rfl rfl hdX7_no ⟨by decide, by decide⟩ hK hP hD 0 rfl rfl rfl hl.1 rfl (Nat.le_of_ble_eq_true rfl) dX7_bell_10 ⟨Nat.zero_le _, Nat.zero_le _⟩) hD hS hA (fun H locs hP hD hS => ?_)
    have hP : va_P D vwCl (gX7 o_t a_t cI u10) H := hP
    have hD : va_D A (gX7 o_t a_t cI u10) := hD
    refine W.eq (g2 := F0 m 13 ls [.int r10]) rfl ?_
    have e := so_some hf
    subst e
    exact ri hx hb hK hr hlk hQ dX7_bell_13 hP hD hS
