abbrev rmX4_become : Room := { frames := 1, cells := 0, slots := 0, locals := 40 }
set_option maxHeartbeats 4000000 in
set_option maxRecDepth 100000 in
theorem c_X4_become (l : Launch) (D : va_G) (cI : ClassId) (o_t : Nat) (a_t : Nat → Nat) (o_p1 : Nat) (a_p1 : Nat → Nat) (S_t : G) (S_p1 : G) (out : Unit × G × G) (hf : f_X4_become S_t S_p1 = some out) : Cn E0 l yX4_become wsX4_become rmX4_become D cI [.ref o_t, .ref o_p1] (gX4 o_t a_t cI S_t ++ gX4 o_p1 a_p1 cI S_p1) none (gX4 o_t a_t cI out.2.1 ++ gX4 o_p1 a_p1 cI out.2.2) := by
  refine Cn.mk (cc := cX4_become) (maxL := 2) (ret := none) (by decide) rfl (Nat.le_of_ble_eq_true rfl) ?_
  intro p e s m below meth c A ls Q hx hb hml hown hts hK hA hP hD hS hl hr hlk hnm hE hQ
  have hown : s.vm.findClass RX4 = some m.cls := hown
  have hinX4 : ∀ w ∈ u_ws RX4 TX4 10, w ∈ wsX4_become := by decide +kernel
  unfold f_X4_become at hf
  have hl : lv_has ls 2 [(0, .ref o_t), (1, .ref o_p1)] := hl
  obtain ⟨H, hHe⟩ : ∃ H : Heap, H = s.heap := ⟨_, rfl⟩
  obtain ⟨locs, hle⟩ : ∃ q : List Loc, q = [] := ⟨_, rfl⟩
  have hS : va_S A s.heap H locs := by rw [hHe, hle]; exact hS
  rw [← hHe] at hP
  suffices hgo : W p l e rmX4_become s m ([.ref o_t, .ref o_p1] : List Value).toArray below meth c H locs 0 0 Q (F0 m 0 ls []) by rw [hHe, hle] at hgo; exact hgo
  clear hHe hle
  refine lv_aload_n hx hb dX4_become_0 rfl (lv_at hl 0 rfl) ?_
  refine lv_aload_n hx hb dX4_become_1 rfl (lv_at hl 1 rfl) ?_
  refine va_get (D := D) (ci := 4) (v := .int (S_p1.1 0)) (C := RX4) (T := TX4) (N := 10) hx hb hts hinX4 hown hK hP 7 rfl rfl 0 (by decide) (hts (.fieldLink RX4 34 "OnlyStrangersHear$Town" "bells" "I") (by decide +kernel)) (fun _ h9 => h9) rfl dX4_become_2 ?_
  refine va_put (D := D) (ci := 4) (v := .int (S_p1.1 0)) (ty := .int) (C := RX4) (T := TX4) (N := 10) hx hb hts hinX4 tyX4 tyX4_ok nmX4 hown hK hP hD hS 0 rfl rfl 0 (by decide) (hts (.fieldLink RX4 34 "OnlyStrangersHear$Town" "bells" "I") (by decide +kernel)) (fun _ h9 => h9) rfl (by decide +kernel) rfl rfl (Nat.le_of_ble_eq_true rfl) dX4_become_5 (fun H locs hP hD hS => ?_)
  have hP : va_P D vwCl (gX4 o_t a_t cI (pF S_t 0 (S_p1.1 0)) ++ gX4 o_p1 a_p1 cI S_p1) H := hP
  have hD : va_D A (gX4 o_t a_t cI (pF S_t 0 (S_p1.1 0)) ++ gX4 o_p1 a_p1 cI S_p1) := hD
  obtain ⟨g5, e5, hf⟩ := lt_some hf
  rw [← e5] at hP hD
  refine lv_aload_n hx hb dX4_become_8 rfl (lv_at hl 1 rfl) ?_
  refine va_get (D := D) (ci := 4) (v := .ref (a_p1 1)) (C := RX4) (T := TX4) (N := 10) hx hb hts hinX4 hown hK hP 7 rfl rfl 1 (by decide) (hts (.fieldLink RX4 9 "OnlyStrangersHear$Town" "hour" "[I") (by decide +kernel)) (fun _ h9 => h9) rfl dX4_become_9 ?_
  refine lv_iconst (v := (0 : Int32)) hx hb dX4_become_12 (by decide) ?_
  refine lv_aload_n hx hb dX4_become_13 rfl (lv_at hl 0 rfl) ?_
  refine va_get (D := D) (ci := 4) (v := .ref (a_t 1)) (C := RX4) (T := TX4) (N := 10) hx hb hts hinX4 hown hK hP 0 rfl rfl 1 (by decide) (hts (.fieldLink RX4 9 "OnlyStrangersHear$Town" "hour" "[I") (by decide +kernel)) (fun _ h9 => h9) rfl dX4_become_14 ?_
  refine lv_iconst (v := (0 : Int32)) hx hb dX4_become_17 (by decide) ?_
  refine lv_bipush (v := (6 : Int32)) hx hb dX4_become_18 (by decide) ?_
  refine va_copyi hx hb (by rw [hml]; exact hl.1.symm) hown (hts (.methodLink RX4 37 arraycopyName) (by decide +kernel)) (hts (.native arraycopyName) (by decide +kernel)) (hts (.static arraycopyName) (by decide +kernel)) (hts (.initialized "java/lang/System") (by decide +kernel)) hK hP hD hS 8 1 0 0 rfl rfl rfl rfl rfl (by decide) (by decide) (by decide) (by decide) (by decide) (fun _ _ => rfl) (by decide) (by decide +kernel) dX4_become_20 (fun H locs hP hD hS => ?_)
  have hP : va_P D vwCl (gX4 o_t a_t cI (pC g5 1 (va_cpy (S_p1.2 1) (g5.2 1) 0 0 6)) ++ gX4 o_p1 a_p1 cI S_p1) H := hP
  have hD : va_D A (gX4 o_t a_t cI (pC g5 1 (va_cpy (S_p1.2 1) (g5.2 1) 0 0 6)) ++ gX4 o_p1 a_p1 cI S_p1) := hD
  obtain ⟨g20, e20, hf⟩ := lt_some hf
  rw [← e20] at hP hD
  refine lv_aload_n hx hb dX4_become_23 rfl (lv_at hl 1 rfl) ?_
  refine va_get (D := D) (ci := 4) (v := .ref (a_p1 2)) (C := RX4) (T := TX4) (N := 10) hx hb hts hinX4 hown hK hP 7 rfl rfl 2 (by decide) (hts (.fieldLink RX4 15 "OnlyStrangersHear$Town" "every" "[I") (by decide +kernel)) (fun _ h9 => h9) rfl dX4_become_24 ?_
  refine lv_iconst (v := (0 : Int32)) hx hb dX4_become_27 (by decide) ?_
  refine lv_aload_n hx hb dX4_become_28 rfl (lv_at hl 0 rfl) ?_
  refine va_get (D := D) (ci := 4) (v := .ref (a_t 2)) (C := RX4) (T := TX4) (N := 10) hx hb hts hinX4 hown hK hP 0 rfl rfl 2 (by decide) (hts (.fieldLink RX4 15 "OnlyStrangersHear$Town" "every" "[I") (by decide +kernel)) (fun _ h9 => h9) rfl dX4_become_29 ?_
  refine lv_iconst (v := (0 : Int32)) hx hb dX4_become_32 (by decide) ?_
  refine lv_bipush (v := (6 : Int32)) hx hb dX4_become_33 (by decide) ?_
  refine va_copyi hx hb (by rw [hml]; exact hl.1.symm) hown (hts (.methodLink RX4 37 arraycopyName) (by decide +kernel)) (hts (.native arraycopyName) (by decide +kernel)) (hts (.static arraycopyName) (by decide +kernel)) (hts (.initialized "java/lang/System") (by decide +kernel)) hK hP hD hS 9 2 0 0 rfl rfl rfl rfl rfl (by decide) (by decide) (by decide) (by decide) (by decide) (fun _ _ => rfl) (by decide) (by decide +kernel) dX4_become_35 (fun H locs hP hD hS => ?_)
  have hP : va_P D vwCl (gX4 o_t a_t cI (pC g20 2 (va_cpy (S_p1.2 2) (g20.2 2) 0 0 6)) ++ gX4 o_p1 a_p1 cI S_p1) H := hP
  have hD : va_D A (gX4 o_t a_t cI (pC g20 2 (va_cpy (S_p1.2 2) (g20.2 2) 0 0 6)) ++ gX4 o_p1 a_p1 cI S_p1) := hD
  obtain ⟨g35, e35, hf⟩ := lt_some hf
  rw [← e35] at hP hD
  refine lv_aload_n hx hb dX4_become_38 rfl (lv_at hl 0 rfl) ?_
  refine lv_aload_n hx hb dX4_become_39 rfl (lv_at hl 1 rfl) ?_
  refine va_get (D := D) (ci := 4) (v := .int (S_p1.1 3)) (C := RX4) (T := TX4) (N := 10) hx hb hts hinX4 hown hK hP 7 rfl rfl 3 (by decide) (hts (.fieldLink RX4 43 "OnlyStrangersHear$Town" "people" "I") (by decide +kernel)) (fun _ h9 => h9) rfl dX4_become_40 ?_
  refine va_put (D := D) (ci := 4) (v := .int (S_p1.1 3)) (ty := .int) (C := RX4) (T := TX4) (N := 10) hx hb hts hinX4 tyX4 tyX4_ok nmX4 hown hK hP hD hS 0 rfl rfl 3 (by decide) (hts (.fieldLink RX4 43 "OnlyStrangersHear$Town" "people" "I") (by decide +kernel)) (fun _ h9 => h9) rfl (by decide +kernel) rfl rfl (Nat.le_of_ble_eq_true rfl) dX4_become_43 (fun H locs hP hD hS => ?_)
  have hP : va_P D vwCl (gX4 o_t a_t cI (pF g35 3 (S_p1.1 3)) ++ gX4 o_p1 a_p1 cI S_p1) H := hP
  have hD : va_D A (gX4 o_t a_t cI (pF g35 3 (S_p1.1 3)) ++ gX4 o_p1 a_p1 cI S_p1) := hD
  obtain ⟨g43, e43, hf⟩ := lt_some hf
  rw [← e43] at hP hD
  refine lv_aload_n hx hb dX4_become_46 rfl (lv_at hl 1 rfl) ?_
  refine va_get (D := D) (ci := 4) (v := .ref (a_p1 4)) (C := RX4) (T := TX4) (N := 10) hx hb hts hinX4 hown hK hP 7 rfl rfl 4 (by decide) (hts (.fieldLink RX4 18 "OnlyStrangersHear$Town" "kind" "[I") (by decide +kernel)) (fun _ h9 => h9) rfl dX4_become_47 ?_
  refine lv_iconst (v := (0 : Int32)) hx hb dX4_become_50 (by decide) ?_
  refine lv_aload_n hx hb dX4_become_51 rfl (lv_at hl 0 rfl) ?_
  refine va_get (D := D) (ci := 4) (v := .ref (a_t 4)) (C := RX4) (T := TX4) (N := 10) hx hb hts hinX4 hown hK hP 0 rfl rfl 4 (by decide) (hts (.fieldLink RX4 18 "OnlyStrangersHear$Town" "kind" "[I") (by decide +kernel)) (fun _ h9 => h9) rfl dX4_become_52 ?_
  refine lv_iconst (v := (0 : Int32)) hx hb dX4_become_55 (by decide) ?_
  refine lv_bipush (v := (8 : Int32)) hx hb dX4_become_56 (by decide) ?_
  refine va_copyi hx hb (by rw [hml]; exact hl.1.symm) hown (hts (.methodLink RX4 37 arraycopyName) (by decide +kernel)) (hts (.native arraycopyName) (by decide +kernel)) (hts (.static arraycopyName) (by decide +kernel)) (hts (.initialized "java/lang/System") (by decide +kernel)) hK hP hD hS 10 3 0 0 rfl rfl rfl rfl rfl (by decide) (by decide) (by decide) (by decide) (by decide) (fun _ _ => rfl) (by decide) (by decide +kernel) dX4_become_58 (fun H locs hP hD hS => ?_)
  have hP : va_P D vwCl (gX4 o_t a_t cI (pC g43 4 (va_cpy (S_p1.2 4) (g43.2 4) 0 0 8)) ++ gX4 o_p1 a_p1 cI S_p1) H := hP
  have hD : va_D A (gX4 o_t a_t cI (pC g43 4 (va_cpy (S_p1.2 4) (g43.2 4) 0 0 8)) ++ gX4 o_p1 a_p1 cI S_p1) := hD
  obtain ⟨g58, e58, hf⟩ := lt_some hf
  rw [← e58] at hP hD
  refine lv_aload_n hx hb dX4_become_61 rfl (lv_at hl 1 rfl) ?_
  refine va_get (D := D) (ci := 4) (v := .ref (a_p1 5)) (C := RX4) (T := TX4) (N := 10) hx hb hts hinX4 hown hK hP 7 rfl rfl 5 (by decide) (hts (.fieldLink RX4 21 "OnlyStrangersHear$Town" "figure" "[I") (by decide +kernel)) (fun _ h9 => h9) rfl dX4_become_62 ?_
  refine lv_iconst (v := (0 : Int32)) hx hb dX4_become_65 (by decide) ?_
  refine lv_aload_n hx hb dX4_become_66 rfl (lv_at hl 0 rfl) ?_
  refine va_get (D := D) (ci := 4) (v := .ref (a_t 5)) (C := RX4) (T := TX4) (N := 10) hx hb hts hinX4 hown hK hP 0 rfl rfl 5 (by decide) (hts (.fieldLink RX4 21 "OnlyStrangersHear$Town" "figure" "[I") (by decide +kernel)) (fun _ h9 => h9) rfl dX4_become_67 ?_
  refine lv_iconst (v := (0 : Int32)) hx hb dX4_become_70 (by decide) ?_
  refine lv_bipush (v := (8 : Int32)) hx hb dX4_become_71 (by decide) ?_
  refine va_copyi hx hb (by rw [hml]; exact hl.1.symm) hown (hts (.methodLink RX4 37 arraycopyName) (by decide +kernel)) (hts (.native arraycopyName) (by decide +kernel)) (hts (.static arraycopyName) (by decide +kernel)) (hts (.initialized "java/lang/System") (by decide +kernel)) hK hP hD hS 11 4 0 0 rfl rfl rfl rfl rfl (by decide) (by decide) (by decide) (by decide) (by decide) (fun _ _ => rfl) (by decide) (by decide +kernel) dX4_become_73 (fun H locs hP hD hS => ?_)
  have hP : va_P D vwCl (gX4 o_t a_t cI (pC g58 5 (va_cpy (S_p1.2 5) (g58.2 5) 0 0 8)) ++ gX4 o_p1 a_p1 cI S_p1) H := hP
  have hD : va_D A (gX4 o_t a_t cI (pC g58 5 (va_cpy (S_p1.2 5) (g58.2 5) 0 0 8)) ++ gX4 o_p1 a_p1 cI S_p1) := hD
  obtain ⟨g73, e73, hf⟩ := lt_some hf
  rw [← e73] at hP hD
  refine lv_aload_n hx hb dX4_become_76 rfl (lv_at hl 1 rfl) ?_
  refine va_get (D := D) (ci := 4) (v := .ref (a_p1 6)) (C := RX4) (T := TX4) (N := 10) hx hb hts hinX4 hown hK hP 7 rfl rfl 6 (by decide) (hts (.fieldLink RX4 24 "OnlyStrangersHear$Town" "slept" "[I") (by decide +kernel)) (fun _ h9 => h9) rfl dX4_become_77 ?_
  refine lv_iconst (v := (0 : Int32)) hx hb dX4_become_80 (by decide) ?_
  refine lv_aload_n hx hb dX4_become_81 rfl (lv_at hl 0 rfl) ?_
  refine va_get (D := D) (ci := 4) (v := .ref (a_t 6)) (C := RX4) (T := TX4) (N := 10) hx hb hts hinX4 hown hK hP 0 rfl rfl 6 (by decide) (hts (.fieldLink RX4 24 "OnlyStrangersHear$Town" "slept" "[I") (by decide +kernel)) (fun _ h9 => h9) rfl dX4_become_82 ?_
  refine lv_iconst (v := (0 : Int32)) hx hb dX4_become_85 (by decide) ?_
  refine lv_bipush (v := (8 : Int32)) hx hb dX4_become_86 (by decide) ?_
  refine va_copyi hx hb (by rw [hml]; exact hl.1.symm) hown (hts (.methodLink RX4 37 arraycopyName) (by decide +kernel)) (hts (.native arraycopyName) (by decide +kernel)) (hts (.static arraycopyName) (by decide +kernel)) (hts (.initialized "java/lang/System") (by decide +kernel)) hK hP hD hS 12 5 0 0 rfl rfl rfl rfl rfl (by decide) (by decide) (by decide) (by decide) (by decide) (fun _ _ => rfl) (by decide) (by decide +kernel) dX4_become_88 (fun H locs hP hD hS => ?_)
  have hP : va_P D vwCl (gX4 o_t a_t cI (pC g73 6 (va_cpy (S_p1.2 6) (g73.2 6) 0 0 8)) ++ gX4 o_p1 a_p1 cI S_p1) H := hP
  have hD : va_D A (gX4 o_t a_t cI (pC g73 6 (va_cpy (S_p1.2 6) (g73.2 6) 0 0 8)) ++ gX4 o_p1 a_p1 cI S_p1) := hD
  obtain ⟨g88, e88, hf⟩ := lt_some hf
  rw [← e88] at hP hD
  refine lv_aload_n hx hb dX4_become_91 rfl (lv_at hl 1 rfl) ?_
  refine va_get (D := D) (ci := 4) (v := .ref (a_p1 7)) (C := RX4) (T := TX4) (N := 10) hx hb hts hinX4 hown hK hP 7 rfl rfl 7 (by decide) (hts (.fieldLink RX4 27 "OnlyStrangersHear$Town" "away" "[I") (by decide +kernel)) (fun _ h9 => h9) rfl dX4_become_92 ?_
  refine lv_iconst (v := (0 : Int32)) hx hb dX4_become_95 (by decide) ?_
  refine lv_aload_n hx hb dX4_become_96 rfl (lv_at hl 0 rfl) ?_
  refine va_get (D := D) (ci := 4) (v := .ref (a_t 7)) (C := RX4) (T := TX4) (N := 10) hx hb hts hinX4 hown hK hP 0 rfl rfl 7 (by decide) (hts (.fieldLink RX4 27 "OnlyStrangersHear$Town" "away" "[I") (by decide +kernel)) (fun _ h9 => h9) rfl dX4_become_97 ?_
  refine lv_iconst (v := (0 : Int32)) hx hb dX4_become_100 (by decide) ?_
  refine lv_bipush (v := (8 : Int32)) hx hb dX4_become_101 (by decide) ?_
  refine va_copyi hx hb (by rw [hml]; exact hl.1.symm) hown (hts (.methodLink RX4 37 arraycopyName) (by decide +kernel)) (hts (.native arraycopyName) (by decide +kernel)) (hts (.static arraycopyName) (by decide +kernel)) (hts (.initialized "java/lang/System") (by decide +kernel)) hK hP hD hS 13 6 0 0 rfl rfl rfl rfl rfl (by decide) (by decide) (by decide) (by decide) (by decide) (fun _ _ => rfl) (by decide) (by decide +kernel) dX4_become_103 (fun H locs hP hD hS => ?_)
  have hP : va_P D vwCl (gX4 o_t a_t cI (pC g88 7 (va_cpy (S_p1.2 7) (g88.2 7) 0 0 8)) ++ gX4 o_p1 a_p1 cI S_p1) H := hP
  have hD : va_D A (gX4 o_t a_t cI (pC g88 7 (va_cpy (S_p1.2 7) (g88.2 7) 0 0 8)) ++ gX4 o_p1 a_p1 cI S_p1) := hD
  obtain ⟨g103, e103, hf⟩ := lt_some hf
  rw [← e103] at hP hD
  refine lv_aload_n hx hb dX4_become_106 rfl (lv_at hl 0 rfl) ?_
  refine lv_aload_n hx hb dX4_become_107 rfl (lv_at hl 1 rfl) ?_
  refine va_get (D := D) (ci := 4) (v := .int (S_p1.1 8)) (C := RX4) (T := TX4) (N := 10) hx hb hts hinX4 hown hK hP 7 rfl rfl 8 (by decide) (hts (.fieldLink RX4 46 "OnlyStrangersHear$Town" "day" "I") (by decide +kernel)) (fun _ h9 => h9) rfl dX4_become_108 ?_
  refine va_put (D := D) (ci := 4) (v := .int (S_p1.1 8)) (ty := .int) (C := RX4) (T := TX4) (N := 10) hx hb hts hinX4 tyX4 tyX4_ok nmX4 hown hK hP hD hS 0 rfl rfl 8 (by decide) (hts (.fieldLink RX4 46 "OnlyStrangersHear$Town" "day" "I") (by decide +kernel)) (fun _ h9 => h9) rfl (by decide +kernel) rfl rfl (Nat.le_of_ble_eq_true rfl) dX4_become_111 (fun H locs hP hD hS => ?_)
  have hP : va_P D vwCl (gX4 o_t a_t cI (pF g103 8 (S_p1.1 8)) ++ gX4 o_p1 a_p1 cI S_p1) H := hP
  have hD : va_D A (gX4 o_t a_t cI (pF g103 8 (S_p1.1 8)) ++ gX4 o_p1 a_p1 cI S_p1) := hD
  obtain ⟨g111, e111, hf⟩ := lt_some hf
  rw [← e111] at hP hD
  refine lv_aload_n hx hb dX4_become_114 rfl (lv_at hl 0 rfl) ?_
  refine lv_aload_n hx hb dX4_become_115 rfl (lv_at hl 1 rfl) ?_
  refine va_get (D := D) (ci := 4) (v := .int (S_p1.1 9)) (C := RX4) (T := TX4) (N := 10) hx hb hts hinX4 hown hK hP 7 rfl rfl 9 (by decide) (hts (.fieldLink RX4 30 "OnlyStrangersHear$Town" "bedCount" "I") (by decide +kernel)) (fun _ h9 => h9) rfl dX4_become_116 ?_
  refine va_put (D := D) (ci := 4) (v := .int (S_p1.1 9)) (ty := .int) (C := RX4) (T := TX4) (N := 10) hx hb hts hinX4 tyX4 tyX4_ok nmX4 hown hK hP hD hS 0 rfl rfl 9 (by decide) (hts (.fieldLink RX4 30 "OnlyStrangersHear$Town" "bedCount" "I") (by decide +kernel)) (fun _ h9 => h9) rfl (by decide +kernel) rfl rfl (Nat.le_of_ble_eq_true rfl) dX4_become_119 (fun H locs hP hD hS => ?_)
  have hP : va_P D vwCl (gX4 o_t a_t cI (pF g111 9 (S_p1.1 9)) ++ gX4 o_p1 a_p1 cI S_p1) H := hP
  have hD : va_D A (gX4 o_t a_t cI (pF g111 9 (S_p1.1 9)) ++ gX4 o_p1 a_p1 cI S_p1) := hD
  obtain ⟨g119, e119, hf⟩ := lt_some hf
  rw [← e119] at hP hD
  have e := so_some hf
  subst e
  exact rv hx hb hK hr hlk hQ dX4_become_122 hP hD hS
abbrev rmX4_addBell : Room := { frames := 0, cells := 0, slots := 0, locals := 0 }
set_option maxHeartbeats 4000000 in
set_option maxRecDepth 100000 in
theorem c_X4_addBell (l : Launch) (D : va_G) (cI : ClassId) (o_t : Nat) (a_t : Nat → Nat) (S_t : G) (x1 : Int32) (x2 : Int32) (out : Int32 × G) (hf : f_X4_addBell S_t x1 x2 = some out) : Cn E0 l yX4_addBell wsX4_addBell rmX4_addBell D cI [.ref o_t, .int x1, .int x2] (gX4 o_t a_t cI S_t) (some (.int out.1)) (gX4 o_t a_t cI out.2) := by
  refine Cn.mk (cc := cX4_addBell) (maxL := 3) (ret := (some .boolean)) (by decide) rfl (Nat.le_of_ble_eq_true rfl) ?_
  intro p e s m below meth c A ls Q hx hb hml hown hts hK hA hP hD hS hl hr hlk hnm hE hQ
  have hown : s.vm.findClass RX4 = some m.cls := hown
  have hinX4 : ∀ w ∈ u_ws RX4 TX4 10, w ∈ wsX4_addBell := by decide +kernel
  unfold f_X4_addBell at hf
  have hl : lv_has ls 3 [(0, .ref o_t), (1, .int x1), (2, .int x2)] := hl
  obtain ⟨H, hHe⟩ : ∃ H : Heap, H = s.heap := ⟨_, rfl⟩
  obtain ⟨locs, hle⟩ : ∃ q : List Loc, q = [] := ⟨_, rfl⟩
  have hS : va_S A s.heap H locs := by rw [hHe, hle]; exact hS
  rw [← hHe] at hP
  suffices hgo : W p l e rmX4_addBell s m ([.ref o_t, .int x1, .int x2] : List Value).toArray below meth c H locs 0 0 Q (F0 m 0 ls []) by rw [hHe, hle] at hgo; exact hgo
  clear hHe hle
  refine lv_aload_n hx hb dX4_addBell_0 rfl (lv_at hl 0 rfl) ?_
  refine va_get (D := D) (ci := 4) (v := .int (S_t.1 0)) (C := RX4) (T := TX4) (N := 10) hx hb hts hinX4 hown hK hP 0 rfl rfl 0 (by decide) (hts (.fieldLink RX4 34 "OnlyStrangersHear$Town" "bells" "I") (by decide +kernel)) (fun _ h9 => h9) rfl dX4_addBell_1 ?_
  refine lv_bipush (v := (6 : Int32)) hx hb dX4_addBell_4 (by decide) ?_
  refine lv_icmp_ge (tgt := 20) hx hb dX4_addBell_6 (by decide) (fun c6 => ?_) (fun c6 => ?_)
  · replace hf := it_t c6 hf
    refine lv_iconst (v := (0 : Int32)) hx hb dX4_addBell_20 (by decide) ?_
    have e := so_some hf
    subst e
    exact rz hx hb hK hr hlk (Or.inl rfl) hQ dX4_addBell_21 hP hD hS
  · replace hf := it_f c6 hf
    refine lv_iload_n hx hb dX4_addBell_9 rfl (lv_at hl 1 rfl) ?_
    refine lv_bipush (v := (24 : Int32)) hx hb dX4_addBell_10 (by decide) ?_
    refine lv_icmp_ge (tgt := 20) hx hb dX4_addBell_12 (by decide) (fun c12 => ?_) (fun c12 => ?_)
    · replace hf := it_t c12 hf
      refine lv_iconst (v := (0 : Int32)) hx hb dX4_addBell_20 (by decide) ?_
      have e := so_some hf
      subst e
      exact rz hx hb hK hr hlk (Or.inl rfl) hQ dX4_addBell_21 hP hD hS
    · replace hf := it_f c12 hf
      refine lv_iload_n hx hb dX4_addBell_15 rfl (lv_at hl 2 rfl) ?_
      refine lv_iconst (v := (1 : Int32)) hx hb dX4_addBell_16 (by decide) ?_
      refine lv_icmp_ge (tgt := 22) hx hb dX4_addBell_17 (by decide) (fun c17 => ?_) (fun c17 => ?_)
      · replace hf := it_t c17 hf
        refine lv_aload_n hx hb dX4_addBell_22 rfl (lv_at hl 0 rfl) ?_
        refine va_get (D := D) (ci := 4) (v := .ref (a_t 1)) (C := RX4) (T := TX4) (N := 10) hx hb hts hinX4 hown hK hP 0 rfl rfl 1 (by decide) (hts (.fieldLink RX4 9 "OnlyStrangersHear$Town" "hour" "[I") (by decide +kernel)) (fun _ h9 => h9) rfl dX4_addBell_23 ?_
        refine lv_aload_n hx hb dX4_addBell_26 rfl (lv_at hl 0 rfl) ?_
        refine va_get (D := D) (ci := 4) (v := .int (S_t.1 0)) (C := RX4) (T := TX4) (N := 10) hx hb hts hinX4 hown hK hP 0 rfl rfl 0 (by decide) (hts (.fieldLink RX4 34 "OnlyStrangersHear$Town" "bells" "I") (by decide +kernel)) (fun _ h9 => h9) rfl dX4_addBell_27 ?_
        refine lv_iload_n hx hb dX4_addBell_30 rfl (lv_at hl 1 rfl) ?_
        obtain ⟨b31, hf⟩ := ck_some hf
        refine va_iast hx hb hK hP hD hS 1 0 rfl rfl b31 dX4_addBell_31 (fun H locs hP hD hS => ?_)
        have hP : va_P D vwCl (gX4 o_t a_t cI (pA S_t 1 (S_t.1 0).toNatClampNeg x1)) H := hP
        have hD : va_D A (gX4 o_t a_t cI (pA S_t 1 (S_t.1 0).toNatClampNeg x1)) := hD
        obtain ⟨g31, e31, hf⟩ := lt_some hf
        rw [← e31] at hP hD
        refine lv_aload_n hx hb dX4_addBell_32 rfl (lv_at hl 0 rfl) ?_
        refine va_get (D := D) (ci := 4) (v := .ref (a_t 2)) (C := RX4) (T := TX4) (N := 10) hx hb hts hinX4 hown hK hP 0 rfl rfl 2 (by decide) (hts (.fieldLink RX4 15 "OnlyStrangersHear$Town" "every" "[I") (by decide +kernel)) (fun _ h9 => h9) rfl dX4_addBell_33 ?_
        refine lv_aload_n hx hb dX4_addBell_36 rfl (lv_at hl 0 rfl) ?_
        refine va_get (D := D) (ci := 4) (v := .int (g31.1 0)) (C := RX4) (T := TX4) (N := 10) hx hb hts hinX4 hown hK hP 0 rfl rfl 0 (by decide) (hts (.fieldLink RX4 34 "OnlyStrangersHear$Town" "bells" "I") (by decide +kernel)) (fun _ h9 => h9) rfl dX4_addBell_37 ?_
        refine lv_iload_n hx hb dX4_addBell_40 rfl (lv_at hl 2 rfl) ?_
        obtain ⟨b41, hf⟩ := ck_some hf
        refine va_iast hx hb hK hP hD hS 2 0 rfl rfl b41 dX4_addBell_41 (fun H locs hP hD hS => ?_)
        have hP : va_P D vwCl (gX4 o_t a_t cI (pA g31 2 (g31.1 0).toNatClampNeg x2)) H := hP
        have hD : va_D A (gX4 o_t a_t cI (pA g31 2 (g31.1 0).toNatClampNeg x2)) := hD
        obtain ⟨g41, e41, hf⟩ := lt_some hf
        rw [← e41] at hP hD
        refine lv_aload_n hx hb dX4_addBell_42 rfl (lv_at hl 0 rfl) ?_
        refine lv_dup hx hb dX4_addBell_43 rfl ?_
        refine va_get (D := D) (ci := 4) (v := .int (g41.1 0)) (C := RX4) (T := TX4) (N := 10) hx hb hts hinX4 hown hK hP 0 rfl rfl 0 (by decide) (hts (.fieldLink RX4 34 "OnlyStrangersHear$Town" "bells" "I") (by decide +kernel)) (fun _ h9 => h9) rfl dX4_addBell_44 ?_
        refine lv_iconst (v := (1 : Int32)) hx hb dX4_addBell_47 (by decide) ?_
        refine lv_iadd hx hb dX4_addBell_48 ?_
        refine va_put (D := D) (ci := 4) (v := .int ((g41.1 0) + (1 : Int32))) (ty := .int) (C := RX4) (T := TX4) (N := 10) hx hb hts hinX4 tyX4 tyX4_ok nmX4 hown hK hP hD hS 0 rfl rfl 0 (by decide) (hts (.fieldLink RX4 34 "OnlyStrangersHear$Town" "bells" "I") (by decide +kernel)) (fun _ h9 => h9) rfl (by decide +kernel) rfl rfl (Nat.le_of_ble_eq_true rfl) dX4_addBell_49 (fun H locs hP hD hS => ?_)
        have hP : va_P D vwCl (gX4 o_t a_t cI (pF g41 0 ((g41.1 0) + (1 : Int32)))) H := hP
        have hD : va_D A (gX4 o_t a_t cI (pF g41 0 ((g41.1 0) + (1 : Int32)))) := hD
        obtain ⟨g49, e49, hf⟩ := lt_some hf
        rw [← e49] at hP hD
        refine lv_iconst (v := (1 : Int32)) hx hb dX4_addBell_52 (by decide) ?_
        have e := so_some hf
        subst e
        exact rz hx hb hK hr hlk (Or.inr rfl) hQ dX4_addBell_53 hP hD hS
      · replace hf := it_f c17 hf
        refine lv_iconst (v := (0 : Int32)) hx hb dX4_addBell_20 (by decide) ?_
        have e := so_some hf
        subst e
        exact rz hx hb hK hr hlk (Or.inl rfl) hQ dX4_addBell_21 hP hD hS
abbrev rmX4_addPerson : Room := { frames := 0, cells := 0, slots := 0, locals := 0 }
set_option maxHeartbeats 4000000 in
set_option maxRecDepth 100000 in
theorem c_X4_addPerson (l : Launch) (D : va_G) (cI : ClassId) (o_t : Nat) (a_t : Nat → Nat) (S_t : G) (x1 : Int32) (x2 : Int32) (x3 : Int32) (out : Int32 × G) (hf : f_X4_addPerson S_t x1 x2 x3 = some out) : Cn E0 l yX4_addPerson wsX4_addPerson rmX4_addPerson D cI [.ref o_t, .int x1, .int x2, .int x3] (gX4 o_t a_t cI S_t) (some (.int out.1)) (gX4 o_t a_t cI out.2) := by
  refine Cn.mk (cc := cX4_addPerson) (maxL := 4) (ret := (some .boolean)) (by decide) rfl (Nat.le_of_ble_eq_true rfl) ?_
  intro p e s m below meth c A ls Q hx hb hml hown hts hK hA hP hD hS hl hr hlk hnm hE hQ
  have hown : s.vm.findClass RX4 = some m.cls := hown
  have hinX4 : ∀ w ∈ u_ws RX4 TX4 10, w ∈ wsX4_addPerson := by decide +kernel
  unfold f_X4_addPerson at hf
  have hl : lv_has ls 4 [(0, .ref o_t), (1, .int x1), (2, .int x2), (3, .int x3)] := hl
  obtain ⟨H, hHe⟩ : ∃ H : Heap, H = s.heap := ⟨_, rfl⟩
  obtain ⟨locs, hle⟩ : ∃ q : List Loc, q = [] := ⟨_, rfl⟩
  have hS : va_S A s.heap H locs := by rw [hHe, hle]; exact hS
  rw [← hHe] at hP
  suffices hgo : W p l e rmX4_addPerson s m ([.ref o_t, .int x1, .int x2, .int x3] : List Value).toArray below meth c H locs 0 0 Q (F0 m 0 ls []) by rw [hHe, hle] at hgo; exact hgo
  clear hHe hle
  refine lv_aload_n hx hb dX4_addPerson_0 rfl (lv_at hl 0 rfl) ?_
  refine va_get (D := D) (ci := 4) (v := .int (S_t.1 3)) (C := RX4) (T := TX4) (N := 10) hx hb hts hinX4 hown hK hP 0 rfl rfl 3 (by decide) (hts (.fieldLink RX4 43 "OnlyStrangersHear$Town" "people" "I") (by decide +kernel)) (fun _ h9 => h9) rfl dX4_addPerson_1 ?_
  refine lv_bipush (v := (8 : Int32)) hx hb dX4_addPerson_4 (by decide) ?_
  refine lv_icmp_lt (tgt := 11) hx hb dX4_addPerson_6 (by decide) (fun c6 => ?_) (fun c6 => ?_)
  · replace hf := it_t c6 hf
    refine lv_aload_n hx hb dX4_addPerson_11 rfl (lv_at hl 0 rfl) ?_
    refine va_get (D := D) (ci := 4) (v := .ref (a_t 4)) (C := RX4) (T := TX4) (N := 10) hx hb hts hinX4 hown hK hP 0 rfl rfl 4 (by decide) (hts (.fieldLink RX4 18 "OnlyStrangersHear$Town" "kind" "[I") (by decide +kernel)) (fun _ h9 => h9) rfl dX4_addPerson_12 ?_
    refine lv_aload_n hx hb dX4_addPerson_15 rfl (lv_at hl 0 rfl) ?_
    refine va_get (D := D) (ci := 4) (v := .int (S_t.1 3)) (C := RX4) (T := TX4) (N := 10) hx hb hts hinX4 hown hK hP 0 rfl rfl 3 (by decide) (hts (.fieldLink RX4 43 "OnlyStrangersHear$Town" "people" "I") (by decide +kernel)) (fun _ h9 => h9) rfl dX4_addPerson_16 ?_
    refine lv_iload_n hx hb dX4_addPerson_19 rfl (lv_at hl 1 rfl) ?_
    obtain ⟨b20, hf⟩ := ck_some hf
    refine va_iast hx hb hK hP hD hS 3 0 rfl rfl b20 dX4_addPerson_20 (fun H locs hP hD hS => ?_)
    have hP : va_P D vwCl (gX4 o_t a_t cI (pA S_t 4 (S_t.1 3).toNatClampNeg x1)) H := hP
    have hD : va_D A (gX4 o_t a_t cI (pA S_t 4 (S_t.1 3).toNatClampNeg x1)) := hD
    obtain ⟨g20, e20, hf⟩ := lt_some hf
    rw [← e20] at hP hD
    refine lv_aload_n hx hb dX4_addPerson_21 rfl (lv_at hl 0 rfl) ?_
    refine va_get (D := D) (ci := 4) (v := .ref (a_t 5)) (C := RX4) (T := TX4) (N := 10) hx hb hts hinX4 hown hK hP 0 rfl rfl 5 (by decide) (hts (.fieldLink RX4 21 "OnlyStrangersHear$Town" "figure" "[I") (by decide +kernel)) (fun _ h9 => h9) rfl dX4_addPerson_22 ?_
    refine lv_aload_n hx hb dX4_addPerson_25 rfl (lv_at hl 0 rfl) ?_
    refine va_get (D := D) (ci := 4) (v := .int (g20.1 3)) (C := RX4) (T := TX4) (N := 10) hx hb hts hinX4 hown hK hP 0 rfl rfl 3 (by decide) (hts (.fieldLink RX4 43 "OnlyStrangersHear$Town" "people" "I") (by decide +kernel)) (fun _ h9 => h9) rfl dX4_addPerson_26 ?_
    refine lv_iload_n hx hb dX4_addPerson_29 rfl (lv_at hl 2 rfl) ?_
    obtain ⟨b30, hf⟩ := ck_some hf
    refine va_iast hx hb hK hP hD hS 4 0 rfl rfl b30 dX4_addPerson_30 (fun H locs hP hD hS => ?_)
    have hP : va_P D vwCl (gX4 o_t a_t cI (pA g20 5 (g20.1 3).toNatClampNeg x2)) H := hP
    have hD : va_D A (gX4 o_t a_t cI (pA g20 5 (g20.1 3).toNatClampNeg x2)) := hD
    obtain ⟨g30, e30, hf⟩ := lt_some hf
    rw [← e30] at hP hD
    refine lv_aload_n hx hb dX4_addPerson_31 rfl (lv_at hl 0 rfl) ?_
    refine va_get (D := D) (ci := 4) (v := .ref (a_t 6)) (C := RX4) (T := TX4) (N := 10) hx hb hts hinX4 hown hK hP 0 rfl rfl 6 (by decide) (hts (.fieldLink RX4 24 "OnlyStrangersHear$Town" "slept" "[I") (by decide +kernel)) (fun _ h9 => h9) rfl dX4_addPerson_32 ?_
    refine lv_aload_n hx hb dX4_addPerson_35 rfl (lv_at hl 0 rfl) ?_
    refine va_get (D := D) (ci := 4) (v := .int (g30.1 3)) (C := RX4) (T := TX4) (N := 10) hx hb hts hinX4 hown hK hP 0 rfl rfl 3 (by decide) (hts (.fieldLink RX4 43 "OnlyStrangersHear$Town" "people" "I") (by decide +kernel)) (fun _ h9 => h9) rfl dX4_addPerson_36 ?_
    refine lv_iload_n hx hb dX4_addPerson_39 rfl (lv_at hl 3 rfl) ?_
    obtain ⟨b40, hf⟩ := ck_some hf
    refine va_iast hx hb hK hP hD hS 5 0 rfl rfl b40 dX4_addPerson_40 (fun H locs hP hD hS => ?_)
    have hP : va_P D vwCl (gX4 o_t a_t cI (pA g30 6 (g30.1 3).toNatClampNeg x3)) H := hP
    have hD : va_D A (gX4 o_t a_t cI (pA g30 6 (g30.1 3).toNatClampNeg x3)) := hD
    obtain ⟨g40, e40, hf⟩ := lt_some hf
    rw [← e40] at hP hD
    refine lv_aload_n hx hb dX4_addPerson_41 rfl (lv_at hl 0 rfl) ?_
    refine va_get (D := D) (ci := 4) (v := .ref (a_t 7)) (C := RX4) (T := TX4) (N := 10) hx hb hts hinX4 hown hK hP 0 rfl rfl 7 (by decide) (hts (.fieldLink RX4 27 "OnlyStrangersHear$Town" "away" "[I") (by decide +kernel)) (fun _ h9 => h9) rfl dX4_addPerson_42 ?_
    refine lv_aload_n hx hb dX4_addPerson_45 rfl (lv_at hl 0 rfl) ?_
    refine va_get (D := D) (ci := 4) (v := .int (g40.1 3)) (C := RX4) (T := TX4) (N := 10) hx hb hts hinX4 hown hK hP 0 rfl rfl 3 (by decide) (hts (.fieldLink RX4 43 "OnlyStrangersHear$Town" "people" "I") (by decide +kernel)) (fun _ h9 => h9) rfl dX4_addPerson_46 ?_
    refine lv_iconst (v := (0 : Int32)) hx hb dX4_addPerson_49 (by decide) ?_
    obtain ⟨b50, hf⟩ := ck_some hf
    refine va_iast hx hb hK hP hD hS 6 0 rfl rfl b50 dX4_addPerson_50 (fun H locs hP hD hS => ?_)
    have hP : va_P D vwCl (gX4 o_t a_t cI (pA g40 7 (g40.1 3).toNatClampNeg (0 : Int32))) H := hP
    have hD : va_D A (gX4 o_t a_t cI (pA g40 7 (g40.1 3).toNatClampNeg (0 : Int32))) := hD
    obtain ⟨g50, e50, hf⟩ := lt_some hf
    rw [← e50] at hP hD
    refine lv_aload_n hx hb dX4_addPerson_51 rfl (lv_at hl 0 rfl) ?_
    refine lv_dup hx hb dX4_addPerson_52 rfl ?_
    refine va_get (D := D) (ci := 4) (v := .int (g50.1 3)) (C := RX4) (T := TX4) (N := 10) hx hb hts hinX4 hown hK hP 0 rfl rfl 3 (by decide) (hts (.fieldLink RX4 43 "OnlyStrangersHear$Town" "people" "I") (by decide +kernel)) (fun _ h9 => h9) rfl dX4_addPerson_53 ?_
    refine lv_iconst (v := (1 : Int32)) hx hb dX4_addPerson_56 (by decide) ?_
    refine lv_iadd hx hb dX4_addPerson_57 ?_
    refine va_put (D := D) (ci := 4) (v := .int ((g50.1 3) + (1 : Int32))) (ty := .int) (C := RX4) (T := TX4) (N := 10) hx hb hts hinX4 tyX4 tyX4_ok nmX4 hown hK hP hD hS 0 rfl rfl 3 (by decide) (hts (.fieldLink RX4 43 "OnlyStrangersHear$Town" "people" "I") (by decide +kernel)) (fun _ h9 => h9) rfl (by decide +kernel) rfl rfl (Nat.le_of_ble_eq_true rfl) dX4_addPerson_58 (fun H locs hP hD hS => ?_)
    have hP : va_P D vwCl (gX4 o_t a_t cI (pF g50 3 ((g50.1 3) + (1 : Int32)))) H := hP
    have hD : va_D A (gX4 o_t a_t cI (pF g50 3 ((g50.1 3) + (1 : Int32)))) := hD
    obtain ⟨g58, e58, hf⟩ := lt_some hf
    rw [← e58] at hP hD
    refine lv_iconst (v := (1 : Int32)) hx hb dX4_addPerson_61 (by decide) ?_
    have e := so_some hf
    subst e
    exact rz hx hb hK hr hlk (Or.inr rfl) hQ dX4_addPerson_62 hP hD hS
  · replace hf := it_f c6 hf
    refine lv_iconst (v := (0 : Int32)) hx hb dX4_addPerson_9 (by decide) ?_
    have e := so_some hf
    subst e
    exact rz hx hb hK hr hlk (Or.inl rfl) hQ dX4_addPerson_10 hP hD hS
abbrev rmX4_daysTillReturn : Room := { frames := 0, cells := 0, slots := 0, locals := 0 }
set_option maxHeartbeats 4000000 in
set_option maxRecDepth 100000 in
theorem c_X4_daysTillReturn (l : Launch) (D : va_G) (cI : ClassId) (o_t : Nat) (a_t : Nat → Nat) (S_t : G) (x1 : Int32) (out : Int32 × G) (hf : f_X4_daysTillReturn S_t x1 = some out) : Cn E0 l yX4_daysTillReturn wsX4_daysTillReturn rmX4_daysTillReturn D cI [.ref o_t, .int x1] (gX4 o_t a_t cI S_t) (some (.int out.1)) (gX4 o_t a_t cI out.2) := by
  refine Cn.mk (cc := cX4_daysTillReturn) (maxL := 4) (ret := (some .int)) (by decide) rfl (Nat.le_of_ble_eq_true rfl) ?_
  intro p e s m below meth c A ls Q hx hb hml hown hts hK hA hP hD hS hl hr hlk hnm hE hQ
  have hown : s.vm.findClass RX4 = some m.cls := hown
  have hinX4 : ∀ w ∈ u_ws RX4 TX4 10, w ∈ wsX4_daysTillReturn := by decide +kernel
  have j4 : ∀ (n4 : Nat) (S_t : G) (l2 : Int32) (l3 : Int32) (H : Heap) (locs : List Loc) (ls : Array Slot), f_X4_daysTillReturn_4 n4 S_t l2 l3 = some out → va_P D vwCl (gX4 o_t a_t cI S_t) H → va_D A (gX4 o_t a_t cI S_t) → va_S A s.heap H locs → lv_has ls 4 [(0, .ref o_t), (2, .int l2), (3, .int l3)] → W p l e rmX4_daysTillReturn s m ([.ref o_t, .int x1] : List Value).toArray below meth c H locs 0 0 Q (F0 m 4 ls []) := by
    intro n4
    induction n4 with
    | zero =>
      intro S_t l2 l3 H locs ls hf
      exact no_some hf
    | succ n4 ih4 =>
      intro S_t l2 l3 H locs ls hf hP hD hS hl
      replace hf : b_X4_daysTillReturn_4 (f_X4_daysTillReturn_4 n4) S_t l2 l3 = some out := hf
      unfold b_X4_daysTillReturn_4 at hf
      refine lv_iload_n hx hb dX4_daysTillReturn_4 rfl (lv_at hl 2 rfl) ?_
      refine lv_aload_n hx hb dX4_daysTillReturn_5 rfl (lv_at hl 0 rfl) ?_
      refine va_get (D := D) (ci := 4) (v := .int (S_t.1 3)) (C := RX4) (T := TX4) (N := 10) hx hb hts hinX4 hown hK hP 0 rfl rfl 3 (by decide) (hts (.fieldLink RX4 43 "OnlyStrangersHear$Town" "people" "I") (by decide +kernel)) (fun _ h9 => h9) rfl dX4_daysTillReturn_6 ?_
      refine lv_icmp_ge (tgt := 44) hx hb dX4_daysTillReturn_9 (by decide) (fun c9 => ?_) (fun c9 => ?_)
      · replace hf := it_t c9 hf
        refine lv_iload_n hx hb dX4_daysTillReturn_44 rfl (lv_at hl 1 rfl) ?_
        have e := so_some hf
        subst e
        exact ri hx hb hK hr hlk hQ dX4_daysTillReturn_45 hP hD hS
      · replace hf := it_f c9 hf
        refine lv_aload_n hx hb dX4_daysTillReturn_12 rfl (lv_at hl 0 rfl) ?_
        refine va_get (D := D) (ci := 4) (v := .ref (a_t 7)) (C := RX4) (T := TX4) (N := 10) hx hb hts hinX4 hown hK hP 0 rfl rfl 7 (by decide) (hts (.fieldLink RX4 27 "OnlyStrangersHear$Town" "away" "[I") (by decide +kernel)) (fun _ h9 => h9) rfl dX4_daysTillReturn_13 ?_
        refine lv_iload_n hx hb dX4_daysTillReturn_16 rfl (lv_at hl 2 rfl) ?_
        obtain ⟨b17, hf⟩ := ck_some hf
        refine va_iald hx hb hK hP 6 0 rfl rfl b17 dX4_daysTillReturn_17 ?_
        refine lv_if_le (tgt := 38) hx hb dX4_daysTillReturn_18 (by decide) (fun c18 => ?_) (fun c18 => ?_)
        · replace hf := it_t c18 hf
          refine lv_iinc (v := l3 + (1 : Int32)) (lv' := [(3, .int (l3 + (1 : Int32))), (0, .ref o_t), (2, .int l2)]) hx hb dX4_daysTillReturn_38 hl (k := 2) rfl rfl (by decide) rfl (fun ls hl => ?_)
          refine lv_goto (tgt := 4) hx hb dX4_daysTillReturn_41 (by decide) ?_
          exact ih4 S_t l2 (l3 + (1 : Int32)) H locs ls hf hP hD hS (lv_sub hl [1, 2, 0] rfl)
        · replace hf := it_f c18 hf
          refine lv_aload_n hx hb dX4_daysTillReturn_21 rfl (lv_at hl 0 rfl) ?_
          refine va_get (D := D) (ci := 4) (v := .ref (a_t 7)) (C := RX4) (T := TX4) (N := 10) hx hb hts hinX4 hown hK hP 0 rfl rfl 7 (by decide) (hts (.fieldLink RX4 27 "OnlyStrangersHear$Town" "away" "[I") (by decide +kernel)) (fun _ h9 => h9) rfl dX4_daysTillReturn_22 ?_
          refine lv_iload_n hx hb dX4_daysTillReturn_25 rfl (lv_at hl 2 rfl) ?_
          obtain ⟨b26, hf⟩ := ck_some hf
          refine va_iald hx hb hK hP 6 0 rfl rfl b26 dX4_daysTillReturn_26 ?_
          refine lv_iload_n hx hb dX4_daysTillReturn_27 rfl (lv_at hl 1 rfl) ?_
          refine lv_icmp_ge (tgt := 38) hx hb dX4_daysTillReturn_28 (by decide) (fun c28 => ?_) (fun c28 => ?_)
          · replace hf := it_t c28 hf
            refine lv_iinc (v := l3 + (1 : Int32)) (lv' := [(3, .int (l3 + (1 : Int32))), (0, .ref o_t), (2, .int l2)]) hx hb dX4_daysTillReturn_38 hl (k := 2) rfl rfl (by decide) rfl (fun ls hl => ?_)
            refine lv_goto (tgt := 4) hx hb dX4_daysTillReturn_41 (by decide) ?_
            exact ih4 S_t l2 (l3 + (1 : Int32)) H locs ls hf hP hD hS (lv_sub hl [1, 2, 0] rfl)
          · replace hf := it_f c28 hf
            refine lv_aload_n hx hb dX4_daysTillReturn_31 rfl (lv_at hl 0 rfl) ?_
            refine va_get (D := D) (ci := 4) (v := .ref (a_t 7)) (C := RX4) (T := TX4) (N := 10) hx hb hts hinX4 hown hK hP 0 rfl rfl 7 (by decide) (hts (.fieldLink RX4 27 "OnlyStrangersHear$Town" "away" "[I") (by decide +kernel)) (fun _ h9 => h9) rfl dX4_daysTillReturn_32 ?_
            refine lv_iload_n hx hb dX4_daysTillReturn_35 rfl (lv_at hl 2 rfl) ?_
            obtain ⟨b36, hf⟩ := ck_some hf
            refine va_iald hx hb hK hP 6 0 rfl rfl b36 dX4_daysTillReturn_36 ?_
            refine lv_istore_n (lv' := [(2, .int (S_t.2 7 l3.toNatClampNeg)), (0, .ref o_t), (3, .int l3)]) hx hb dX4_daysTillReturn_37 rfl hl (by decide) rfl (fun ls hl => ?_)
            refine lv_iinc (v := l3 + (1 : Int32)) (lv' := [(3, .int (l3 + (1 : Int32))), (2, .int (S_t.2 7 l3.toNatClampNeg)), (0, .ref o_t)]) hx hb dX4_daysTillReturn_38 hl (k := 2) rfl rfl (by decide) rfl (fun ls hl => ?_)
            refine lv_goto (tgt := 4) hx hb dX4_daysTillReturn_41 (by decide) ?_
            exact ih4 S_t (S_t.2 7 l3.toNatClampNeg) (l3 + (1 : Int32)) H locs ls hf hP hD hS (lv_sub hl [2, 1, 0] rfl)
  unfold f_X4_daysTillReturn at hf
  have hl : lv_has ls 4 [(0, .ref o_t), (1, .int x1)] := hl
  obtain ⟨H, hHe⟩ : ∃ H : Heap, H = s.heap := ⟨_, rfl⟩
  obtain ⟨locs, hle⟩ : ∃ q : List Loc, q = [] := ⟨_, rfl⟩
  have hS : va_S A s.heap H locs := by rw [hHe, hle]; exact hS
  rw [← hHe] at hP
  suffices hgo : W p l e rmX4_daysTillReturn s m ([.ref o_t, .int x1] : List Value).toArray below meth c H locs 0 0 Q (F0 m 0 ls []) by rw [hHe, hle] at hgo; exact hgo
  clear hHe hle
  refine lv_iload_n hx hb dX4_daysTillReturn_0 rfl (lv_at hl 1 rfl) ?_
  refine lv_istore_n (lv' := [(2, .int x1), (0, .ref o_t), (1, .int x1)]) hx hb dX4_daysTillReturn_1 rfl hl (by decide) rfl (fun ls hl => ?_)
  refine lv_iconst (v := (0 : Int32)) hx hb dX4_daysTillReturn_2 (by decide) ?_
  refine lv_istore_n (lv' := [(3, .int (0 : Int32)), (2, .int x1), (0, .ref o_t), (1, .int x1)]) hx hb dX4_daysTillReturn_3 rfl hl (by decide) rfl (fun ls hl => ?_)
  exact j4 1000 S_t x1 (0 : Int32) H locs ls hf hP hD hS (lv_sub hl [2, 1, 0] rfl)
abbrev rmX4_passAlike : Room := { frames := 1, cells := 0, slots := 0, locals := 21 }
set_option maxHeartbeats 4000000 in
set_option maxRecDepth 100000 in
theorem c_X4_passAlike (l : Launch) (D : va_G) (cI : ClassId) (o_t : Nat) (a_t : Nat → Nat) (S_t : G) (x1 : Int32) (out : Unit × G) (hf : f_X4_passAlike S_t x1 = some out) : Cn E0 l yX4_passAlike wsX4_passAlike rmX4_passAlike D cI [.ref o_t, .int x1] (gX4 o_t a_t cI S_t) none (gX4 o_t a_t cI out.2) := by
  refine Cn.mk (cc := cX4_passAlike) (maxL := 4) (ret := none) (by decide) rfl (Nat.le_of_ble_eq_true rfl) ?_
  intro p e s m below meth c A ls Q hx hb hml hown hts hK hA hP hD hS hl hr hlk hnm hE hQ
  have hown : s.vm.findClass RX4 = some m.cls := hown
  have hinX4 : ∀ w ∈ u_ws RX4 TX4 10, w ∈ wsX4_passAlike := by decide +kernel
  have j17 : ∀ (n17 : Nat) (S_t : G) (l1 : Int32) (l2 : Int32) (l3 : Int32) (H : Heap) (locs : List Loc) (ls : Array Slot), f_X4_passAlike_17 n17 S_t l1 l2 l3 = some out → va_P D vwCl (gX4 o_t a_t cI S_t) H → va_D A (gX4 o_t a_t cI S_t) → va_S A s.heap H locs → lv_has ls 4 [(0, .ref o_t), (1, .int l1), (2, .int l2), (3, .int l3)] → W p l e rmX4_passAlike s m ([.ref o_t, .int x1] : List Value).toArray below meth c H locs 0 0 Q (F0 m 17 ls []) := by
    intro n17
    induction n17 with
    | zero =>
      intro S_t l1 l2 l3 H locs ls hf
      exact no_some hf
    | succ n17 ih17 =>
      intro S_t l1 l2 l3 H locs ls hf hP hD hS hl
      replace hf : b_X4_passAlike_17 (f_X4_passAlike_17 n17) S_t l1 l2 l3 = some out := hf
      unfold b_X4_passAlike_17 at hf
      refine lv_iload_n hx hb dX4_passAlike_17 rfl (lv_at hl 3 rfl) ?_
      refine lv_aload_n hx hb dX4_passAlike_18 rfl (lv_at hl 0 rfl) ?_
      refine va_get (D := D) (ci := 4) (v := .int (S_t.1 3)) (C := RX4) (T := TX4) (N := 10) hx hb hts hinX4 hown hK hP 0 rfl rfl 3 (by decide) (hts (.fieldLink RX4 43 "OnlyStrangersHear$Town" "people" "I") (by decide +kernel)) (fun _ h9 => h9) rfl dX4_passAlike_19 ?_
      refine lv_icmp_ge (tgt := 120) hx hb dX4_passAlike_22 (by decide) (fun c22 => ?_) (fun c22 => ?_)
      · replace hf := it_t c22 hf
        have e := so_some hf
        subst e
        exact rv hx hb hK hr hlk hQ dX4_passAlike_120 hP hD hS
      · replace hf := it_f c22 hf
        refine lv_aload_n hx hb dX4_passAlike_25 rfl (lv_at hl 0 rfl) ?_
        refine va_get (D := D) (ci := 4) (v := .ref (a_t 7)) (C := RX4) (T := TX4) (N := 10) hx hb hts hinX4 hown hK hP 0 rfl rfl 7 (by decide) (hts (.fieldLink RX4 27 "OnlyStrangersHear$Town" "away" "[I") (by decide +kernel)) (fun _ h9 => h9) rfl dX4_passAlike_26 ?_
        refine lv_iload_n hx hb dX4_passAlike_29 rfl (lv_at hl 3 rfl) ?_
        obtain ⟨b30, hf⟩ := ck_some hf
        refine va_iald hx hb hK hP 6 0 rfl rfl b30 dX4_passAlike_30 ?_
        refine lv_if_le (tgt := 67) hx hb dX4_passAlike_31 (by decide) (fun c31 => ?_) (fun c31 => ?_)
        · replace hf := it_t c31 hf
          refine lv_iload_n hx hb dX4_passAlike_67 rfl (lv_at hl 2 rfl) ?_
          refine lv_if_le (tgt := 96) hx hb dX4_passAlike_68 (by decide) (fun c68 => ?_) (fun c68 => ?_)
          · replace hf := it_t c68 hf
            refine lv_aload_n hx hb dX4_passAlike_96 rfl (lv_at hl 0 rfl) ?_
            refine va_get (D := D) (ci := 4) (v := .ref (a_t 6)) (C := RX4) (T := TX4) (N := 10) hx hb hts hinX4 hown hK hP 0 rfl rfl 6 (by decide) (hts (.fieldLink RX4 24 "OnlyStrangersHear$Town" "slept" "[I") (by decide +kernel)) (fun _ h9 => h9) rfl dX4_passAlike_97 ?_
            refine lv_iload_n hx hb dX4_passAlike_100 rfl (lv_at hl 3 rfl) ?_
            refine lv_iconst (v := (0 : Int32)) hx hb dX4_passAlike_101 (by decide) ?_
            refine lv_aload_n hx hb dX4_passAlike_102 rfl (lv_at hl 0 rfl) ?_
            refine va_get (D := D) (ci := 4) (v := .ref (a_t 6)) (C := RX4) (T := TX4) (N := 10) hx hb hts hinX4 hown hK hP 0 rfl rfl 6 (by decide) (hts (.fieldLink RX4 24 "OnlyStrangersHear$Town" "slept" "[I") (by decide +kernel)) (fun _ h9 => h9) rfl dX4_passAlike_103 ?_
            refine lv_iload_n hx hb dX4_passAlike_106 rfl (lv_at hl 3 rfl) ?_
            obtain ⟨b107, hf⟩ := ck_some hf
            refine va_iald hx hb hK hP 5 0 rfl rfl b107 dX4_passAlike_107 ?_
            refine lv_iload_n hx hb dX4_passAlike_108 rfl (lv_at hl 1 rfl) ?_
            refine lv_isub hx hb dX4_passAlike_109 ?_
            refine va_mmax hx hb (by rw [hml]; exact hl.1.symm) hown (hts (.methodLink RX4 57 Lib.Math.max.name) (by decide +kernel)) (hts (.static Lib.Math.max.name) (by decide +kernel)) (hts (.initialized "java/lang/Math") (by decide +kernel)) (hts (.code Lib.Math.max.name Lib.Math.max.code 2 (some .int)) (by decide +kernel)) (by decide) (Nat.le_of_ble_eq_true rfl) (Nat.zero_le _) (Nat.zero_le _) dX4_passAlike_110 ?_
            obtain ⟨b113, hf⟩ := ck_some hf
            refine va_iast hx hb hK hP hD hS 5 0 rfl rfl b113 dX4_passAlike_113 (fun H locs hP hD hS => ?_)
            have hP : va_P D vwCl (gX4 o_t a_t cI (pA S_t 6 l3.toNatClampNeg (if (0 : Int32) < ((S_t.2 6 l3.toNatClampNeg) - l1) then ((S_t.2 6 l3.toNatClampNeg) - l1) else (0 : Int32)))) H := hP
            have hD : va_D A (gX4 o_t a_t cI (pA S_t 6 l3.toNatClampNeg (if (0 : Int32) < ((S_t.2 6 l3.toNatClampNeg) - l1) then ((S_t.2 6 l3.toNatClampNeg) - l1) else (0 : Int32)))) := hD
            obtain ⟨g113, e113, hf⟩ := lt_some hf
            rw [← e113] at hP hD
            refine lv_iinc (v := l3 + (1 : Int32)) (lv' := [(3, .int (l3 + (1 : Int32))), (0, .ref o_t), (1, .int l1), (2, .int l2)]) hx hb dX4_passAlike_114 hl (k := 3) rfl rfl (by decide) rfl (fun ls hl => ?_)
            refine lv_goto (tgt := 17) hx hb dX4_passAlike_117 (by decide) ?_
            exact ih17 g113 l1 l2 (l3 + (1 : Int32)) H locs ls hf hP hD hS (lv_sub hl [1, 2, 3, 0] rfl)
          · replace hf := it_f c68 hf
            refine lv_aload_n hx hb dX4_passAlike_71 rfl (lv_at hl 0 rfl) ?_
            refine va_get (D := D) (ci := 4) (v := .ref (a_t 6)) (C := RX4) (T := TX4) (N := 10) hx hb hts hinX4 hown hK hP 0 rfl rfl 6 (by decide) (hts (.fieldLink RX4 24 "OnlyStrangersHear$Town" "slept" "[I") (by decide +kernel)) (fun _ h9 => h9) rfl dX4_passAlike_72 ?_
            refine lv_iload_n hx hb dX4_passAlike_75 rfl (lv_at hl 3 rfl) ?_
            refine lv_bipush (v := (99 : Int32)) hx hb dX4_passAlike_76 (by decide) ?_
            refine lv_aload_n hx hb dX4_passAlike_78 rfl (lv_at hl 0 rfl) ?_
            refine va_get (D := D) (ci := 4) (v := .ref (a_t 6)) (C := RX4) (T := TX4) (N := 10) hx hb hts hinX4 hown hK hP 0 rfl rfl 6 (by decide) (hts (.fieldLink RX4 24 "OnlyStrangersHear$Town" "slept" "[I") (by decide +kernel)) (fun _ h9 => h9) rfl dX4_passAlike_79 ?_
            refine lv_iload_n hx hb dX4_passAlike_82 rfl (lv_at hl 3 rfl) ?_
            obtain ⟨b83, hf⟩ := ck_some hf
            refine va_iald hx hb hK hP 5 0 rfl rfl b83 dX4_passAlike_83 ?_
            refine lv_iload_n hx hb dX4_passAlike_84 rfl (lv_at hl 1 rfl) ?_
            refine lv_iadd hx hb dX4_passAlike_85 ?_
            refine va_mmin hx hb (by rw [hml]; exact hl.1.symm) hown (hts (.methodLink RX4 63 Lib.Math.min.name) (by decide +kernel)) (hts (.static Lib.Math.min.name) (by decide +kernel)) (hts (.initialized "java/lang/Math") (by decide +kernel)) (hts (.code Lib.Math.min.name Lib.Math.min.code 2 (some .int)) (by decide +kernel)) (by decide) (Nat.le_of_ble_eq_true rfl) (Nat.zero_le _) (Nat.zero_le _) dX4_passAlike_86 ?_
            obtain ⟨b89, hf⟩ := ck_some hf
            refine va_iast hx hb hK hP hD hS 5 0 rfl rfl b89 dX4_passAlike_89 (fun H locs hP hD hS => ?_)
            have hP : va_P D vwCl (gX4 o_t a_t cI (pA S_t 6 l3.toNatClampNeg (if ((S_t.2 6 l3.toNatClampNeg) + l1) < (99 : Int32) then ((S_t.2 6 l3.toNatClampNeg) + l1) else (99 : Int32)))) H := hP
            have hD : va_D A (gX4 o_t a_t cI (pA S_t 6 l3.toNatClampNeg (if ((S_t.2 6 l3.toNatClampNeg) + l1) < (99 : Int32) then ((S_t.2 6 l3.toNatClampNeg) + l1) else (99 : Int32)))) := hD
            obtain ⟨g89, e89, hf⟩ := lt_some hf
            rw [← e89] at hP hD
            refine lv_iinc (v := l2 + (-1 : Int32)) (lv' := [(2, .int (l2 + (-1 : Int32))), (0, .ref o_t), (1, .int l1), (3, .int l3)]) hx hb dX4_passAlike_90 hl (k := 2) rfl rfl (by decide) rfl (fun ls hl => ?_)
            refine lv_goto (tgt := 114) hx hb dX4_passAlike_93 (by decide) ?_
            refine lv_iinc (v := l3 + (1 : Int32)) (lv' := [(3, .int (l3 + (1 : Int32))), (2, .int (l2 + (-1 : Int32))), (0, .ref o_t), (1, .int l1)]) hx hb dX4_passAlike_114 hl (k := 3) rfl rfl (by decide) rfl (fun ls hl => ?_)
            refine lv_goto (tgt := 17) hx hb dX4_passAlike_117 (by decide) ?_
            exact ih17 g89 l1 (l2 + (-1 : Int32)) (l3 + (1 : Int32)) H locs ls hf hP hD hS (lv_sub hl [2, 3, 1, 0] rfl)
        · replace hf := it_f c31 hf
          refine lv_aload_n hx hb dX4_passAlike_34 rfl (lv_at hl 0 rfl) ?_
          refine va_get (D := D) (ci := 4) (v := .ref (a_t 6)) (C := RX4) (T := TX4) (N := 10) hx hb hts hinX4 hown hK hP 0 rfl rfl 6 (by decide) (hts (.fieldLink RX4 24 "OnlyStrangersHear$Town" "slept" "[I") (by decide +kernel)) (fun _ h9 => h9) rfl dX4_passAlike_35 ?_
          refine lv_iload_n hx hb dX4_passAlike_38 rfl (lv_at hl 3 rfl) ?_
          refine lv_iconst (v := (0 : Int32)) hx hb dX4_passAlike_39 (by decide) ?_
          refine lv_aload_n hx hb dX4_passAlike_40 rfl (lv_at hl 0 rfl) ?_
          refine va_get (D := D) (ci := 4) (v := .ref (a_t 6)) (C := RX4) (T := TX4) (N := 10) hx hb hts hinX4 hown hK hP 0 rfl rfl 6 (by decide) (hts (.fieldLink RX4 24 "OnlyStrangersHear$Town" "slept" "[I") (by decide +kernel)) (fun _ h9 => h9) rfl dX4_passAlike_41 ?_
          refine lv_iload_n hx hb dX4_passAlike_44 rfl (lv_at hl 3 rfl) ?_
          obtain ⟨b45, hf⟩ := ck_some hf
          refine va_iald hx hb hK hP 5 0 rfl rfl b45 dX4_passAlike_45 ?_
          refine lv_iconst (v := (2 : Int32)) hx hb dX4_passAlike_46 (by decide) ?_
          refine lv_iload_n hx hb dX4_passAlike_47 rfl (lv_at hl 1 rfl) ?_
          refine lv_imul hx hb dX4_passAlike_48 ?_
          refine lv_isub hx hb dX4_passAlike_49 ?_
          refine va_mmax hx hb (by rw [hml]; exact hl.1.symm) hown (hts (.methodLink RX4 57 Lib.Math.max.name) (by decide +kernel)) (hts (.static Lib.Math.max.name) (by decide +kernel)) (hts (.initialized "java/lang/Math") (by decide +kernel)) (hts (.code Lib.Math.max.name Lib.Math.max.code 2 (some .int)) (by decide +kernel)) (by decide) (Nat.le_of_ble_eq_true rfl) (Nat.zero_le _) (Nat.zero_le _) dX4_passAlike_50 ?_
          obtain ⟨b53, hf⟩ := ck_some hf
          refine va_iast hx hb hK hP hD hS 5 0 rfl rfl b53 dX4_passAlike_53 (fun H locs hP hD hS => ?_)
          have hP : va_P D vwCl (gX4 o_t a_t cI (pA S_t 6 l3.toNatClampNeg (if (0 : Int32) < ((S_t.2 6 l3.toNatClampNeg) - ((2 : Int32) * l1)) then ((S_t.2 6 l3.toNatClampNeg) - ((2 : Int32) * l1)) else (0 : Int32)))) H := hP
          have hD : va_D A (gX4 o_t a_t cI (pA S_t 6 l3.toNatClampNeg (if (0 : Int32) < ((S_t.2 6 l3.toNatClampNeg) - ((2 : Int32) * l1)) then ((S_t.2 6 l3.toNatClampNeg) - ((2 : Int32) * l1)) else (0 : Int32)))) := hD
          obtain ⟨g53, e53, hf⟩ := lt_some hf
          rw [← e53] at hP hD
          refine lv_aload_n hx hb dX4_passAlike_54 rfl (lv_at hl 0 rfl) ?_
          refine va_get (D := D) (ci := 4) (v := .ref (a_t 7)) (C := RX4) (T := TX4) (N := 10) hx hb hts hinX4 hown hK hP 0 rfl rfl 7 (by decide) (hts (.fieldLink RX4 27 "OnlyStrangersHear$Town" "away" "[I") (by decide +kernel)) (fun _ h9 => h9) rfl dX4_passAlike_55 ?_
          refine lv_iload_n hx hb dX4_passAlike_58 rfl (lv_at hl 3 rfl) ?_
          refine lv_dup2_11 hx hb dX4_passAlike_59 rfl rfl ?_
          obtain ⟨b60, hf⟩ := ck_some hf
          refine va_iald hx hb hK hP 6 0 rfl rfl b60 dX4_passAlike_60 ?_
          refine lv_iload_n hx hb dX4_passAlike_61 rfl (lv_at hl 1 rfl) ?_
          refine lv_isub hx hb dX4_passAlike_62 ?_
          obtain ⟨b63, hf⟩ := ck_some hf
          refine va_iast hx hb hK hP hD hS 6 0 rfl rfl b63 dX4_passAlike_63 (fun H locs hP hD hS => ?_)
          have hP : va_P D vwCl (gX4 o_t a_t cI (pA g53 7 l3.toNatClampNeg ((g53.2 7 l3.toNatClampNeg) - l1))) H := hP
          have hD : va_D A (gX4 o_t a_t cI (pA g53 7 l3.toNatClampNeg ((g53.2 7 l3.toNatClampNeg) - l1))) := hD
          obtain ⟨g63, e63, hf⟩ := lt_some hf
          rw [← e63] at hP hD
          refine lv_goto (tgt := 114) hx hb dX4_passAlike_64 (by decide) ?_
          refine lv_iinc (v := l3 + (1 : Int32)) (lv' := [(3, .int (l3 + (1 : Int32))), (0, .ref o_t), (1, .int l1), (2, .int l2)]) hx hb dX4_passAlike_114 hl (k := 3) rfl rfl (by decide) rfl (fun ls hl => ?_)
          refine lv_goto (tgt := 17) hx hb dX4_passAlike_117 (by decide) ?_
          exact ih17 g63 l1 l2 (l3 + (1 : Int32)) H locs ls hf hP hD hS (lv_sub hl [1, 2, 3, 0] rfl)
  unfold f_X4_passAlike at hf
  have hl : lv_has ls 4 [(0, .ref o_t), (1, .int x1)] := hl
  obtain ⟨H, hHe⟩ : ∃ H : Heap, H = s.heap := ⟨_, rfl⟩
  obtain ⟨locs, hle⟩ : ∃ q : List Loc, q = [] := ⟨_, rfl⟩
  have hS : va_S A s.heap H locs := by rw [hHe, hle]; exact hS
  rw [← hHe] at hP
  suffices hgo : W p l e rmX4_passAlike s m ([.ref o_t, .int x1] : List Value).toArray below meth c H locs 0 0 Q (F0 m 0 ls []) by rw [hHe, hle] at hgo; exact hgo
  clear hHe hle
  refine lv_aload_n hx hb dX4_passAlike_0 rfl (lv_at hl 0 rfl) ?_
  refine lv_dup hx hb dX4_passAlike_1 rfl ?_
  refine va_get (D := D) (ci := 4) (v := .int (S_t.1 8)) (C := RX4) (T := TX4) (N := 10) hx hb hts hinX4 hown hK hP 0 rfl rfl 8 (by decide) (hts (.fieldLink RX4 46 "OnlyStrangersHear$Town" "day" "I") (by decide +kernel)) (fun _ h9 => h9) rfl dX4_passAlike_2 ?_
  refine lv_iload_n hx hb dX4_passAlike_5 rfl (lv_at hl 1 rfl) ?_
  refine lv_iadd hx hb dX4_passAlike_6 ?_
  refine va_put (D := D) (ci := 4) (v := .int ((S_t.1 8) + x1)) (ty := .int) (C := RX4) (T := TX4) (N := 10) hx hb hts hinX4 tyX4 tyX4_ok nmX4 hown hK hP hD hS 0 rfl rfl 8 (by decide) (hts (.fieldLink RX4 46 "OnlyStrangersHear$Town" "day" "I") (by decide +kernel)) (fun _ h9 => h9) rfl (by decide +kernel) rfl rfl (Nat.le_of_ble_eq_true rfl) dX4_passAlike_7 (fun H locs hP hD hS => ?_)
  have hP : va_P D vwCl (gX4 o_t a_t cI (pF S_t 8 ((S_t.1 8) + x1))) H := hP
  have hD : va_D A (gX4 o_t a_t cI (pF S_t 8 ((S_t.1 8) + x1))) := hD
  obtain ⟨g7, e7, hf⟩ := lt_some hf
  rw [← e7] at hP hD
  refine lv_aload_n hx hb dX4_passAlike_10 rfl (lv_at hl 0 rfl) ?_
  refine va_get (D := D) (ci := 4) (v := .int (g7.1 9)) (C := RX4) (T := TX4) (N := 10) hx hb hts hinX4 hown hK hP 0 rfl rfl 9 (by decide) (hts (.fieldLink RX4 30 "OnlyStrangersHear$Town" "bedCount" "I") (by decide +kernel)) (fun _ h9 => h9) rfl dX4_passAlike_11 ?_
  refine lv_istore_n (lv' := [(2, .int (g7.1 9)), (0, .ref o_t), (1, .int x1)]) hx hb dX4_passAlike_14 rfl hl (by decide) rfl (fun ls hl => ?_)
  refine lv_iconst (v := (0 : Int32)) hx hb dX4_passAlike_15 (by decide) ?_
  refine lv_istore_n (lv' := [(3, .int (0 : Int32)), (2, .int (g7.1 9)), (0, .ref o_t), (1, .int x1)]) hx hb dX4_passAlike_16 rfl hl (by decide) rfl (fun ls hl => ?_)
  exact j17 1000 g7 x1 (g7.1 9) (0 : Int32) H locs ls hf hP hD hS (lv_sub hl [2, 3, 1, 0] rfl)
abbrev rmX4_pass : Room := { frames := 2, cells := 0, slots := 0, locals := 44 }
set_option maxHeartbeats 4000000 in
set_option maxRecDepth 100000 in
theorem c_X4_pass (l : Launch) (D : va_G) (cI : ClassId) (o_t : Nat) (a_t : Nat → Nat) (S_t : G) (x1 : Int32) (out : Unit × G) (hf : f_X4_pass S_t x1 = some out) : Cn E0 l yX4_pass wsX4_pass rmX4_pass D cI [.ref o_t, .int x1] (gX4 o_t a_t cI S_t) none (gX4 o_t a_t cI out.2) := by
  refine Cn.mk (cc := cX4_pass) (maxL := 5) (ret := none) (by decide) rfl (Nat.le_of_ble_eq_true rfl) ?_
  intro p e s m below meth c A ls Q hx hb hml hown hts hK hA hP hD hS hl hr hlk hnm hE hQ
  have hown : s.vm.findClass RX4 = some m.cls := hown
  have j4 : ∀ (n4 : Nat) (S_t : G) (l1 : Int32) (l2 : Int32) (l3 : Int32) (H : Heap) (locs : List Loc) (ls : Array Slot), f_X4_pass_4 n4 S_t l1 l2 l3 = some out → va_P D vwCl (gX4 o_t a_t cI S_t) H → va_D A (gX4 o_t a_t cI S_t) → va_S A s.heap H locs → lv_has ls 5 [(0, .ref o_t), (1, .int l1), (2, .int l2), (3, .int l3)] → W p l e rmX4_pass s m ([.ref o_t, .int x1] : List Value).toArray below meth c H locs 0 0 Q (F0 m 4 ls []) := by
    intro n4
    induction n4 with
    | zero =>
      intro S_t l1 l2 l3 H locs ls hf
      exact no_some hf
    | succ n4 ih4 =>
      intro S_t l1 l2 l3 H locs ls hf hP hD hS hl
      replace hf : b_X4_pass_4 (f_X4_pass_4 n4) S_t l1 l2 l3 = some out := hf
      unfold b_X4_pass_4 at hf
      refine lv_iload_n hx hb dX4_pass_4 rfl (lv_at hl 3 rfl) ?_
      refine lv_iload_n hx hb dX4_pass_5 rfl (lv_at hl 1 rfl) ?_
      refine lv_icmp_ge (tgt := 37) hx hb dX4_pass_6 (by decide) (fun c6 => ?_) (fun c6 => ?_)
      · replace hf := it_t c6 hf
        have e := so_some hf
        subst e
        exact rv hx hb hK hr hlk hQ dX4_pass_37 hP hD hS
      · replace hf := it_f c6 hf
        refine lv_iload_n hx hb dX4_pass_9 rfl (lv_at hl 2 rfl) ?_
        refine lv_if_le (tgt := 37) hx hb dX4_pass_10 (by decide) (fun c10 => ?_) (fun c10 => ?_)
        · replace hf := it_t c10 hf
          have e := so_some hf
          subst e
          exact rv hx hb hK hr hlk hQ dX4_pass_37 hP hD hS
        · replace hf := it_f c10 hf
          refine lv_aload_n hx hb dX4_pass_13 rfl (lv_at hl 0 rfl) ?_
          refine lv_iload_n hx hb dX4_pass_14 rfl (lv_at hl 2 rfl) ?_
          obtain ⟨r15, u15, h15, hf⟩ := bd_some hf
          refine calX0 (runV E0.b E0.n (As := [.int l2]) (rest := []) ⟨hx, hb, hml, hown, hts⟩ (c_X4_daysTillReturn l D cI o_t a_t S_t l2 _ h15) gX4_pass_X4_daysTillReturn rfl rfl rfl hdX4_daysTillReturn ⟨by decide, by decide⟩ hK hP hD 0 rfl rfl rfl hl.1 rfl (Nat.le_of_ble_eq_true rfl) dX4_pass_15 ⟨Nat.zero_le _, Nat.zero_le _⟩) hD hS hA (fun H locs hP hD hS => ?_)
          have hP : va_P D vwCl (gX4 o_t a_t cI u15) H := hP
          have hD : va_D A (gX4 o_t a_t cI u15) := hD
          refine W.eq (g2 := F0 m 18 ls [.int r15]) rfl ?_
          refine lv_istore (lv' := [(4, .int r15), (0, .ref o_t), (1, .int l1), (2, .int l2), (3, .int l3)]) hx hb dX4_pass_18 hl (by decide) rfl (fun ls hl => ?_)
          refine lv_aload_n hx hb dX4_pass_20 rfl (lv_at hl 1 rfl) ?_
          refine lv_iload hx hb dX4_pass_21 (lv_at hl 0 rfl) ?_
          obtain ⟨r23, u23, h23, hf⟩ := bd_some hf
          refine calX0 (runV E0.b E0.n (As := [.int r15]) (rest := []) ⟨hx, hb, hml, hown, hts⟩ (c_X4_passAlike l D cI o_t a_t u15 r15 _ h23) gX4_pass_X4_passAlike rfl rfl rfl hdX4_passAlike ⟨by decide, by decide⟩ hK hP hD 0 rfl rfl rfl hl.1 rfl (Nat.le_of_ble_eq_true rfl) dX4_pass_23 ⟨Nat.zero_le _, Nat.zero_le _⟩) hD hS hA (fun H locs hP hD hS => ?_)
          have hP : va_P D vwCl (gX4 o_t a_t cI u23) H := hP
          have hD : va_D A (gX4 o_t a_t cI u23) := hD
          refine W.eq (g2 := F0 m 26 ls []) rfl ?_
          refine lv_iload_n hx hb dX4_pass_26 rfl (lv_at hl 3 rfl) ?_
          refine lv_iload hx hb dX4_pass_27 (lv_at hl 0 rfl) ?_
          refine lv_isub hx hb dX4_pass_29 ?_
          refine lv_istore_n (lv' := [(2, .int (l2 - r15)), (4, .int r15), (0, .ref o_t), (1, .int l1), (3, .int l3)]) hx hb dX4_pass_30 rfl hl (by decide) rfl (fun ls hl => ?_)
          refine lv_iinc (v := l3 + (1 : Int32)) (lv' := [(3, .int (l3 + (1 : Int32))), (2, .int (l2 - r15)), (4, .int r15), (0, .ref o_t), (1, .int l1)]) hx hb dX4_pass_31 hl (k := 4) rfl rfl (by decide) rfl (fun ls hl => ?_)
          refine lv_goto (tgt := 4) hx hb dX4_pass_34 (by decide) ?_
          exact ih4 u23 l1 (l2 - r15) (l3 + (1 : Int32)) H locs ls hf hP hD hS (lv_sub hl [3, 4, 1, 0] rfl)
  unfold f_X4_pass at hf
  have hl : lv_has ls 5 [(0, .ref o_t), (1, .int x1)] := hl
  obtain ⟨H, hHe⟩ : ∃ H : Heap, H = s.heap := ⟨_, rfl⟩
  obtain ⟨locs, hle⟩ : ∃ q : List Loc, q = [] := ⟨_, rfl⟩
  have hS : va_S A s.heap H locs := by rw [hHe, hle]; exact hS
  rw [← hHe] at hP
  suffices hgo : W p l e rmX4_pass s m ([.ref o_t, .int x1] : List Value).toArray below meth c H locs 0 0 Q (F0 m 0 ls []) by rw [hHe, hle] at hgo; exact hgo
  clear hHe hle
  refine lv_iload_n hx hb dX4_pass_0 rfl (lv_at hl 1 rfl) ?_
  refine lv_istore_n (lv' := [(2, .int x1), (0, .ref o_t), (1, .int x1)]) hx hb dX4_pass_1 rfl hl (by decide) rfl (fun ls hl => ?_)
  refine lv_iconst (v := (0 : Int32)) hx hb dX4_pass_2 (by decide) ?_
  refine lv_istore_n (lv' := [(3, .int (0 : Int32)), (2, .int x1), (0, .ref o_t), (1, .int x1)]) hx hb dX4_pass_3 rfl hl (by decide) rfl (fun ls hl => ?_)
  exact j4 1000 S_t x1 x1 (0 : Int32) H locs ls hf hP hD hS (lv_sub hl [2, 3, 1, 0] rfl)
abbrev rmX4_nightsOf : Room := { frames := 0, cells := 0, slots := 0, locals := 0 }
set_option maxHeartbeats 4000000 in
set_option maxRecDepth 100000 in
theorem c_X4_nightsOf (l : Launch) (D : va_G) (cI : ClassId) (o_t : Nat) (a_t : Nat → Nat) (S_t : G) (x1 : Int32) (out : Int32 × G) (hf : f_X4_nightsOf S_t x1 = some out) : Cn E0 l yX4_nightsOf wsX4_nightsOf rmX4_nightsOf D cI [.ref o_t, .int x1] (gX4 o_t a_t cI S_t) (some (.int out.1)) (gX4 o_t a_t cI out.2) := by
  refine Cn.mk (cc := cX4_nightsOf) (maxL := 2) (ret := (some .int)) (by decide) rfl (Nat.le_of_ble_eq_true rfl) ?_
  intro p e s m below meth c A ls Q hx hb hml hown hts hK hA hP hD hS hl hr hlk hnm hE hQ
  have hown : s.vm.findClass RX4 = some m.cls := hown
  have hinX4 : ∀ w ∈ u_ws RX4 TX4 10, w ∈ wsX4_nightsOf := by decide +kernel
  unfold f_X4_nightsOf at hf
  have hl : lv_has ls 2 [(0, .ref o_t), (1, .int x1)] := hl
  obtain ⟨H, hHe⟩ : ∃ H : Heap, H = s.heap := ⟨_, rfl⟩
  obtain ⟨locs, hle⟩ : ∃ q : List Loc, q = [] := ⟨_, rfl⟩
  have hS : va_S A s.heap H locs := by rw [hHe, hle]; exact hS
  rw [← hHe] at hP
  suffices hgo : W p l e rmX4_nightsOf s m ([.ref o_t, .int x1] : List Value).toArray below meth c H locs 0 0 Q (F0 m 0 ls []) by rw [hHe, hle] at hgo; exact hgo
  clear hHe hle
  refine lv_aload_n hx hb dX4_nightsOf_0 rfl (lv_at hl 0 rfl) ?_
  refine va_get (D := D) (ci := 4) (v := .ref (a_t 4)) (C := RX4) (T := TX4) (N := 10) hx hb hts hinX4 hown hK hP 0 rfl rfl 4 (by decide) (hts (.fieldLink RX4 18 "OnlyStrangersHear$Town" "kind" "[I") (by decide +kernel)) (fun _ h9 => h9) rfl dX4_nightsOf_1 ?_
  refine lv_iload_n hx hb dX4_nightsOf_4 rfl (lv_at hl 1 rfl) ?_
  obtain ⟨b5, hf⟩ := ck_some hf
  refine va_iald hx hb hK hP 3 0 rfl rfl b5 dX4_nightsOf_5 ?_
  by_cases ck1 : (S_t.2 4 x1.toNatClampNeg) = (1 : Int32)
  · replace hf := it_t ck1 hf
    refine lv_tableIn (off := 34) (tgt := 40) hx hb dX4_nightsOf_6 (by rw [ck1]; decide) (by rw [ck1]; decide) (by rw [ck1]; decide) (by decide) ?_
    refine lv_iconst (v := (0 : Int32)) hx hb dX4_nightsOf_40 (by decide) ?_
    have e := so_some hf
    subst e
    exact ri hx hb hK hr hlk hQ dX4_nightsOf_41 hP hD hS
  · replace hf := it_f ck1 hf
    by_cases ck2 : (S_t.2 4 x1.toNatClampNeg) = (2 : Int32)
    · replace hf := it_t ck2 hf
      refine lv_tableIn (off := 36) (tgt := 42) hx hb dX4_nightsOf_6 (by rw [ck2]; decide) (by rw [ck2]; decide) (by rw [ck2]; decide) (by decide) ?_
      refine lv_bipush (v := (9 : Int32)) hx hb dX4_nightsOf_42 (by decide) ?_
      refine lv_aload_n hx hb dX4_nightsOf_44 rfl (lv_at hl 0 rfl) ?_
      refine va_get (D := D) (ci := 4) (v := .ref (a_t 5)) (C := RX4) (T := TX4) (N := 10) hx hb hts hinX4 hown hK hP 0 rfl rfl 5 (by decide) (hts (.fieldLink RX4 21 "OnlyStrangersHear$Town" "figure" "[I") (by decide +kernel)) (fun _ h9 => h9) rfl dX4_nightsOf_45 ?_
      refine lv_iload_n hx hb dX4_nightsOf_48 rfl (lv_at hl 1 rfl) ?_
      obtain ⟨b49, hf⟩ := ck_some hf
      refine va_iald hx hb hK hP 4 0 rfl rfl b49 dX4_nightsOf_49 ?_
      refine lv_iadd hx hb dX4_nightsOf_50 ?_
      have e := so_some hf
      subst e
      exact ri hx hb hK hr hlk hQ dX4_nightsOf_51 hP hD hS
    · replace hf := it_f ck2 hf
      by_cases ck3 : (S_t.2 4 x1.toNatClampNeg) = (3 : Int32)
      · replace hf := it_t ck3 hf
        refine lv_tableIn (off := 46) (tgt := 52) hx hb dX4_nightsOf_6 (by rw [ck3]; decide) (by rw [ck3]; decide) (by rw [ck3]; decide) (by decide) ?_
        refine lv_iconst (v := (2 : Int32)) hx hb dX4_nightsOf_52 (by decide) ?_
        refine lv_bipush (v := (9 : Int32)) hx hb dX4_nightsOf_53 (by decide) ?_
        refine lv_aload_n hx hb dX4_nightsOf_55 rfl (lv_at hl 0 rfl) ?_
        refine va_get (D := D) (ci := 4) (v := .ref (a_t 5)) (C := RX4) (T := TX4) (N := 10) hx hb hts hinX4 hown hK hP 0 rfl rfl 5 (by decide) (hts (.fieldLink RX4 21 "OnlyStrangersHear$Town" "figure" "[I") (by decide +kernel)) (fun _ h9 => h9) rfl dX4_nightsOf_56 ?_
        refine lv_iload_n hx hb dX4_nightsOf_59 rfl (lv_at hl 1 rfl) ?_
        obtain ⟨b60, hf⟩ := ck_some hf
        refine va_iald hx hb hK hP 4 0 rfl rfl b60 dX4_nightsOf_60 ?_
        refine lv_iadd hx hb dX4_nightsOf_61 ?_
        refine lv_imul hx hb dX4_nightsOf_62 ?_
        have e := so_some hf
        subst e
        exact ri hx hb hK hr hlk hQ dX4_nightsOf_63 hP hD hS
      · replace hf := it_f ck3 hf
        by_cases ck5 : (S_t.2 4 x1.toNatClampNeg) = (5 : Int32)
        · replace hf := it_t ck5 hf
          refine lv_tableIn (off := 34) (tgt := 40) hx hb dX4_nightsOf_6 (by rw [ck5]; decide) (by rw [ck5]; decide) (by rw [ck5]; decide) (by decide) ?_
          refine lv_iconst (v := (0 : Int32)) hx hb dX4_nightsOf_40 (by decide) ?_
          have e := so_some hf
          subst e
          exact ri hx hb hK hr hlk hQ dX4_nightsOf_41 hP hD hS
        · replace hf := it_f ck5 hf
          by_cases clo : (S_t.2 4 x1.toNatClampNeg).toInt < 1
          · refine lv_tableOut (tgt := 64) hx hb dX4_nightsOf_6 (Or.inl clo) (by decide) ?_
            refine lv_bipush (v := (9 : Int32)) hx hb dX4_nightsOf_64 (by decide) ?_
            have e := so_some hf
            subst e
            exact ri hx hb hK hr hlk hQ dX4_nightsOf_66 hP hD hS
          by_cases chi : 5 < (S_t.2 4 x1.toNatClampNeg).toInt
          · refine lv_tableOut (tgt := 64) hx hb dX4_nightsOf_6 (Or.inr chi) (by decide) ?_
            refine lv_bipush (v := (9 : Int32)) hx hb dX4_nightsOf_64 (by decide) ?_
            have e := so_some hf
            subst e
            exact ri hx hb hK hr hlk hQ dX4_nightsOf_66 hP hD hS
          by_cases cd4 : (S_t.2 4 x1.toNatClampNeg) = (4 : Int32)
          · refine lv_tableIn (off := 58) (tgt := 64) hx hb dX4_nightsOf_6 clo chi (by rw [cd4]; decide) (by decide) ?_
            refine lv_bipush (v := (9 : Int32)) hx hb dX4_nightsOf_64 (by decide) ?_
            have e := so_some hf
            subst e
            exact ri hx hb hK hr hlk hQ dX4_nightsOf_66 hP hD hS
          exact (sw_no (x := (S_t.2 4 x1.toNatClampNeg)) (lo := 1) (hi := 5) clo chi (ks := [1, 2, 3, 4, 5]) (by decide) (List.forall_mem_cons.mpr ⟨lv_neT (k := 1) (a := 1) ck1 (by decide), (List.forall_mem_cons.mpr ⟨lv_neT (k := 2) (a := 2) ck2 (by decide), (List.forall_mem_cons.mpr ⟨lv_neT (k := 3) (a := 3) ck3 (by decide), (List.forall_mem_cons.mpr ⟨lv_neT (k := 4) (a := 4) cd4 (by decide), (List.forall_mem_cons.mpr ⟨lv_neT (k := 5) (a := 5) ck5 (by decide), (fun _ h => absurd h List.not_mem_nil)⟩)⟩)⟩)⟩)⟩)).elim
abbrev rmX4_hearsIt : Room := { frames := 1, cells := 0, slots := 0, locals := 21 }
set_option maxHeartbeats 4000000 in
set_option maxRecDepth 100000 in
theorem c_X4_hearsIt (l : Launch) (D : va_G) (cI : ClassId) (o_t : Nat) (a_t : Nat → Nat) (S_t : G) (x1 : Int32) (x2 : Int32) (out : Int32 × G) (hf : f_X4_hearsIt S_t x1 x2 = some out) : Cn E0 l yX4_hearsIt wsX4_hearsIt rmX4_hearsIt D cI [.ref o_t, .int x1, .int x2] (gX4 o_t a_t cI S_t) (some (.int out.1)) (gX4 o_t a_t cI out.2) := by
  refine Cn.mk (cc := cX4_hearsIt) (maxL := 3) (ret := (some .boolean)) (by decide) rfl (Nat.le_of_ble_eq_true rfl) ?_
  intro p e s m below meth c A ls Q hx hb hml hown hts hK hA hP hD hS hl hr hlk hnm hE hQ
  have hown : s.vm.findClass RX4 = some m.cls := hown
  have hinX4 : ∀ w ∈ u_ws RX4 TX4 10, w ∈ wsX4_hearsIt := by decide +kernel
  unfold f_X4_hearsIt at hf
  have hl : lv_has ls 3 [(0, .ref o_t), (1, .int x1), (2, .int x2)] := hl
  obtain ⟨H, hHe⟩ : ∃ H : Heap, H = s.heap := ⟨_, rfl⟩
  obtain ⟨locs, hle⟩ : ∃ q : List Loc, q = [] := ⟨_, rfl⟩
  have hS : va_S A s.heap H locs := by rw [hHe, hle]; exact hS
  rw [← hHe] at hP
  suffices hgo : W p l e rmX4_hearsIt s m ([.ref o_t, .int x1, .int x2] : List Value).toArray below meth c H locs 0 0 Q (F0 m 0 ls []) by rw [hHe, hle] at hgo; exact hgo
  clear hHe hle
  refine lv_aload_n hx hb dX4_hearsIt_0 rfl (lv_at hl 0 rfl) ?_
  refine va_get (D := D) (ci := 4) (v := .ref (a_t 7)) (C := RX4) (T := TX4) (N := 10) hx hb hts hinX4 hown hK hP 0 rfl rfl 7 (by decide) (hts (.fieldLink RX4 27 "OnlyStrangersHear$Town" "away" "[I") (by decide +kernel)) (fun _ h9 => h9) rfl dX4_hearsIt_1 ?_
  refine lv_iload_n hx hb dX4_hearsIt_4 rfl (lv_at hl 1 rfl) ?_
  obtain ⟨b5, hf⟩ := ck_some hf
  refine va_iald hx hb hK hP 6 0 rfl rfl b5 dX4_hearsIt_5 ?_
  refine lv_if_le (tgt := 11) hx hb dX4_hearsIt_6 (by decide) (fun c6 => ?_) (fun c6 => ?_)
  · replace hf := it_t c6 hf
    refine lv_aload_n hx hb dX4_hearsIt_11 rfl (lv_at hl 0 rfl) ?_
    refine va_get (D := D) (ci := 4) (v := .ref (a_t 6)) (C := RX4) (T := TX4) (N := 10) hx hb hts hinX4 hown hK hP 0 rfl rfl 6 (by decide) (hts (.fieldLink RX4 24 "OnlyStrangersHear$Town" "slept" "[I") (by decide +kernel)) (fun _ h9 => h9) rfl dX4_hearsIt_12 ?_
    refine lv_iload_n hx hb dX4_hearsIt_15 rfl (lv_at hl 1 rfl) ?_
    obtain ⟨b16, hf⟩ := ck_some hf
    refine va_iald hx hb hK hP 5 0 rfl rfl b16 dX4_hearsIt_16 ?_
    refine lv_aload_n hx hb dX4_hearsIt_17 rfl (lv_at hl 0 rfl) ?_
    refine lv_iload_n hx hb dX4_hearsIt_18 rfl (lv_at hl 1 rfl) ?_
    obtain ⟨r19, u19, h19, hf⟩ := bd_some hf
    refine calX0 (runV E0.b E0.n (As := [.int x1]) (rest := [.int (S_t.2 6 x1.toNatClampNeg)]) ⟨hx, hb, hml, hown, hts⟩ (c_X4_nightsOf l D cI o_t a_t S_t x1 _ h19) gX4_hearsIt_X4_nightsOf rfl rfl rfl hdX4_nightsOf ⟨by decide, by decide⟩ hK hP hD 0 rfl rfl rfl hl.1 rfl (Nat.le_of_ble_eq_true rfl) dX4_hearsIt_19 ⟨Nat.zero_le _, Nat.zero_le _⟩) hD hS hA (fun H locs hP hD hS => ?_)
    have hP : va_P D vwCl (gX4 o_t a_t cI u19) H := hP
    have hD : va_D A (gX4 o_t a_t cI u19) := hD
    refine W.eq (g2 := F0 m 22 ls [.int r19, .int (S_t.2 6 x1.toNatClampNeg)]) rfl ?_
    refine lv_icmp_lt (tgt := 45) hx hb dX4_hearsIt_22 (by decide) (fun c22 => ?_) (fun c22 => ?_)
    · replace hf := it_t c22 hf
      refine lv_iconst (v := (1 : Int32)) hx hb dX4_hearsIt_45 (by decide) ?_
      refine lv_goto (tgt := 50) hx hb dX4_hearsIt_46 (by decide) ?_
      have e := so_some hf
      subst e
      exact rz hx hb hK hr hlk (Or.inr rfl) hQ dX4_hearsIt_50 hP hD hS
    · replace hf := it_f c22 hf
      refine lv_aload_n hx hb dX4_hearsIt_25 rfl (lv_at hl 0 rfl) ?_
      refine va_get (D := D) (ci := 4) (v := .ref (a_t 4)) (C := RX4) (T := TX4) (N := 10) hx hb hts hinX4 hown hK hP 0 rfl rfl 4 (by decide) (hts (.fieldLink RX4 18 "OnlyStrangersHear$Town" "kind" "[I") (by decide +kernel)) (fun _ h9 => h9) rfl dX4_hearsIt_26 ?_
      refine lv_iload_n hx hb dX4_hearsIt_29 rfl (lv_at hl 1 rfl) ?_
      obtain ⟨b30, hf⟩ := ck_some hf
      refine va_iald hx hb hK hP 3 0 rfl rfl b30 dX4_hearsIt_30 ?_
      refine lv_iconst (v := (5 : Int32)) hx hb dX4_hearsIt_31 (by decide) ?_
      refine lv_icmp_ne (tgt := 49) hx hb dX4_hearsIt_32 (by decide) (fun c32 => ?_) (fun c32 => ?_)
      · replace hf := it_f c32 hf
        refine lv_iconst (v := (0 : Int32)) hx hb dX4_hearsIt_49 (by decide) ?_
        have e := so_some hf
        subst e
        exact rz hx hb hK hr hlk (Or.inl rfl) hQ dX4_hearsIt_50 hP hD hS
      · replace hf := it_t c32 hf
        refine lv_aload_n hx hb dX4_hearsIt_35 rfl (lv_at hl 0 rfl) ?_
        refine va_get (D := D) (ci := 4) (v := .ref (a_t 1)) (C := RX4) (T := TX4) (N := 10) hx hb hts hinX4 hown hK hP 0 rfl rfl 1 (by decide) (hts (.fieldLink RX4 9 "OnlyStrangersHear$Town" "hour" "[I") (by decide +kernel)) (fun _ h9 => h9) rfl dX4_hearsIt_36 ?_
        refine lv_iload_n hx hb dX4_hearsIt_39 rfl (lv_at hl 2 rfl) ?_
        obtain ⟨b40, hf⟩ := ck_some hf
        refine va_iald hx hb hK hP 1 0 rfl rfl b40 dX4_hearsIt_40 ?_
        refine lv_iconst (v := (4 : Int32)) hx hb dX4_hearsIt_41 (by decide) ?_
        refine lv_icmp_ne (tgt := 49) hx hb dX4_hearsIt_42 (by decide) (fun c42 => ?_) (fun c42 => ?_)
        · replace hf := it_f c42 hf
          refine lv_iconst (v := (0 : Int32)) hx hb dX4_hearsIt_49 (by decide) ?_
          have e := so_some hf
          subst e
          exact rz hx hb hK hr hlk (Or.inl rfl) hQ dX4_hearsIt_50 hP hD hS
        · replace hf := it_t c42 hf
          refine lv_iconst (v := (1 : Int32)) hx hb dX4_hearsIt_45 (by decide) ?_
          refine lv_goto (tgt := 50) hx hb dX4_hearsIt_46 (by decide) ?_
          have e := so_some hf
          subst e
          exact rz hx hb hK hr hlk (Or.inr rfl) hQ dX4_hearsIt_50 hP hD hS
  · replace hf := it_f c6 hf
    refine lv_iconst (v := (0 : Int32)) hx hb dX4_hearsIt_9 (by decide) ?_
    have e := so_some hf
    subst e
    exact rz hx hb hK hr hlk (Or.inl rfl) hQ dX4_hearsIt_10 hP hD hS
abbrev rmX4_hearsSome : Room := { frames := 2, cells := 0, slots := 0, locals := 43 }
set_option maxHeartbeats 4000000 in
set_option maxRecDepth 100000 in
theorem c_X4_hearsSome (l : Launch) (D : va_G) (cI : ClassId) (o_t : Nat) (a_t : Nat → Nat) (S_t : G) (x1 : Int32) (out : Int32 × G) (hf : f_X4_hearsSome S_t x1 = some out) : Cn E0 l yX4_hearsSome wsX4_hearsSome rmX4_hearsSome D cI [.ref o_t, .int x1] (gX4 o_t a_t cI S_t) (some (.int out.1)) (gX4 o_t a_t cI out.2) := by
  refine Cn.mk (cc := cX4_hearsSome) (maxL := 3) (ret := (some .boolean)) (by decide) rfl (Nat.le_of_ble_eq_true rfl) ?_
  intro p e s m below meth c A ls Q hx hb hml hown hts hK hA hP hD hS hl hr hlk hnm hE hQ
  have hown : s.vm.findClass RX4 = some m.cls := hown
  have hinX4 : ∀ w ∈ u_ws RX4 TX4 10, w ∈ wsX4_hearsSome := by decide +kernel
  have j2 : ∀ (n2 : Nat) (S_t : G) (l1 : Int32) (l2 : Int32) (H : Heap) (locs : List Loc) (ls : Array Slot), f_X4_hearsSome_2 n2 S_t l1 l2 = some out → va_P D vwCl (gX4 o_t a_t cI S_t) H → va_D A (gX4 o_t a_t cI S_t) → va_S A s.heap H locs → lv_has ls 3 [(0, .ref o_t), (1, .int l1), (2, .int l2)] → W p l e rmX4_hearsSome s m ([.ref o_t, .int x1] : List Value).toArray below meth c H locs 0 0 Q (F0 m 2 ls []) := by
    intro n2
    induction n2 with
    | zero =>
      intro S_t l1 l2 H locs ls hf
      exact no_some hf
    | succ n2 ih2 =>
      intro S_t l1 l2 H locs ls hf hP hD hS hl
      replace hf : b_X4_hearsSome_2 (f_X4_hearsSome_2 n2) S_t l1 l2 = some out := hf
      unfold b_X4_hearsSome_2 at hf
      refine lv_iload_n hx hb dX4_hearsSome_2 rfl (lv_at hl 2 rfl) ?_
      refine lv_aload_n hx hb dX4_hearsSome_3 rfl (lv_at hl 0 rfl) ?_
      refine va_get (D := D) (ci := 4) (v := .int (S_t.1 0)) (C := RX4) (T := TX4) (N := 10) hx hb hts hinX4 hown hK hP 0 rfl rfl 0 (by decide) (hts (.fieldLink RX4 34 "OnlyStrangersHear$Town" "bells" "I") (by decide +kernel)) (fun _ h9 => h9) rfl dX4_hearsSome_4 ?_
      refine lv_icmp_ge (tgt := 27) hx hb dX4_hearsSome_7 (by decide) (fun c7 => ?_) (fun c7 => ?_)
      · replace hf := it_t c7 hf
        refine lv_iconst (v := (0 : Int32)) hx hb dX4_hearsSome_27 (by decide) ?_
        have e := so_some hf
        subst e
        exact rz hx hb hK hr hlk (Or.inl rfl) hQ dX4_hearsSome_28 hP hD hS
      · replace hf := it_f c7 hf
        refine lv_aload_n hx hb dX4_hearsSome_10 rfl (lv_at hl 0 rfl) ?_
        refine lv_iload_n hx hb dX4_hearsSome_11 rfl (lv_at hl 1 rfl) ?_
        refine lv_iload_n hx hb dX4_hearsSome_12 rfl (lv_at hl 2 rfl) ?_
        obtain ⟨r13, u13, h13, hf⟩ := bd_some hf
        refine calX0 (runV E0.b E0.n (As := [.int l1, .int l2]) (rest := []) ⟨hx, hb, hml, hown, hts⟩ (c_X4_hearsIt l D cI o_t a_t S_t l1 l2 _ h13) gX4_hearsSome_X4_hearsIt rfl rfl rfl hdX4_hearsIt ⟨by decide, by decide⟩ hK hP hD 0 rfl rfl rfl hl.1 rfl (Nat.le_of_ble_eq_true rfl) dX4_hearsSome_13 ⟨Nat.zero_le _, Nat.zero_le _⟩) hD hS hA (fun H locs hP hD hS => ?_)
        have hP : va_P D vwCl (gX4 o_t a_t cI u13) H := hP
        have hD : va_D A (gX4 o_t a_t cI u13) := hD
        refine W.eq (g2 := F0 m 16 ls [.int r13]) rfl ?_
        refine lv_if_eq (tgt := 21) hx hb dX4_hearsSome_16 (by decide) (fun c16 => ?_) (fun c16 => ?_)
        · replace hf := it_t c16 hf
          refine lv_iinc (v := l2 + (1 : Int32)) (lv' := [(2, .int (l2 + (1 : Int32))), (0, .ref o_t), (1, .int l1)]) hx hb dX4_hearsSome_21 hl (k := 2) rfl rfl (by decide) rfl (fun ls hl => ?_)
          refine lv_goto (tgt := 2) hx hb dX4_hearsSome_24 (by decide) ?_
          exact ih2 u13 l1 (l2 + (1 : Int32)) H locs ls hf hP hD hS (lv_sub hl [1, 2, 0] rfl)
        · replace hf := it_f c16 hf
          refine lv_iconst (v := (1 : Int32)) hx hb dX4_hearsSome_19 (by decide) ?_
          have e := so_some hf
          subst e
          exact rz hx hb hK hr hlk (Or.inr rfl) hQ dX4_hearsSome_20 hP hD hS
  unfold f_X4_hearsSome at hf
  have hl : lv_has ls 3 [(0, .ref o_t), (1, .int x1)] := hl
  obtain ⟨H, hHe⟩ : ∃ H : Heap, H = s.heap := ⟨_, rfl⟩
  obtain ⟨locs, hle⟩ : ∃ q : List Loc, q = [] := ⟨_, rfl⟩
  have hS : va_S A s.heap H locs := by rw [hHe, hle]; exact hS
  rw [← hHe] at hP
  suffices hgo : W p l e rmX4_hearsSome s m ([.ref o_t, .int x1] : List Value).toArray below meth c H locs 0 0 Q (F0 m 0 ls []) by rw [hHe, hle] at hgo; exact hgo
  clear hHe hle
  refine lv_iconst (v := (0 : Int32)) hx hb dX4_hearsSome_0 (by decide) ?_
  refine lv_istore_n (lv' := [(2, .int (0 : Int32)), (0, .ref o_t), (1, .int x1)]) hx hb dX4_hearsSome_1 rfl hl (by decide) rfl (fun ls hl => ?_)
  exact j2 1000 S_t x1 (0 : Int32) H locs ls hf hP hD hS (lv_sub hl [1, 2, 0] rfl)
abbrev rmX4_hearersOf : Room := { frames := 2, cells := 0, slots := 0, locals := 43 }
set_option maxHeartbeats 4000000 in
set_option maxRecDepth 100000 in
theorem c_X4_hearersOf (l : Launch) (D : va_G) (cI : ClassId) (o_t : Nat) (a_t : Nat → Nat) (S_t : G) (x1 : Int32) (out : Int32 × G) (hf : f_X4_hearersOf S_t x1 = some out) : Cn E0 l yX4_hearersOf wsX4_hearersOf rmX4_hearersOf D cI [.ref o_t, .int x1] (gX4 o_t a_t cI S_t) (some (.int out.1)) (gX4 o_t a_t cI out.2) := by
  refine Cn.mk (cc := cX4_hearersOf) (maxL := 4) (ret := (some .int)) (by decide) rfl (Nat.le_of_ble_eq_true rfl) ?_
  intro p e s m below meth c A ls Q hx hb hml hown hts hK hA hP hD hS hl hr hlk hnm hE hQ
  have hown : s.vm.findClass RX4 = some m.cls := hown
  have hinX4 : ∀ w ∈ u_ws RX4 TX4 10, w ∈ wsX4_hearersOf := by decide +kernel
  have j4 : ∀ (n4 : Nat) (S_t : G) (l1 : Int32) (l2 : Int32) (l3 : Int32) (H : Heap) (locs : List Loc) (ls : Array Slot), f_X4_hearersOf_4 n4 S_t l1 l2 l3 = some out → va_P D vwCl (gX4 o_t a_t cI S_t) H → va_D A (gX4 o_t a_t cI S_t) → va_S A s.heap H locs → lv_has ls 4 [(0, .ref o_t), (1, .int l1), (2, .int l2), (3, .int l3)] → W p l e rmX4_hearersOf s m ([.ref o_t, .int x1] : List Value).toArray below meth c H locs 0 0 Q (F0 m 4 ls []) := by
    intro n4
    induction n4 with
    | zero =>
      intro S_t l1 l2 l3 H locs ls hf
      exact no_some hf
    | succ n4 ih4 =>
      intro S_t l1 l2 l3 H locs ls hf hP hD hS hl
      replace hf : b_X4_hearersOf_4 (f_X4_hearersOf_4 n4) S_t l1 l2 l3 = some out := hf
      unfold b_X4_hearersOf_4 at hf
      refine lv_iload_n hx hb dX4_hearersOf_4 rfl (lv_at hl 3 rfl) ?_
      refine lv_aload_n hx hb dX4_hearersOf_5 rfl (lv_at hl 0 rfl) ?_
      refine va_get (D := D) (ci := 4) (v := .int (S_t.1 3)) (C := RX4) (T := TX4) (N := 10) hx hb hts hinX4 hown hK hP 0 rfl rfl 3 (by decide) (hts (.fieldLink RX4 43 "OnlyStrangersHear$Town" "people" "I") (by decide +kernel)) (fun _ h9 => h9) rfl dX4_hearersOf_6 ?_
      refine lv_icmp_ge (tgt := 33) hx hb dX4_hearersOf_9 (by decide) (fun c9 => ?_) (fun c9 => ?_)
      · replace hf := it_t c9 hf
        refine lv_iload_n hx hb dX4_hearersOf_33 rfl (lv_at hl 2 rfl) ?_
        have e := so_some hf
        subst e
        exact ri hx hb hK hr hlk hQ dX4_hearersOf_34 hP hD hS
      · replace hf := it_f c9 hf
        refine lv_aload_n hx hb dX4_hearersOf_12 rfl (lv_at hl 0 rfl) ?_
        refine lv_iload_n hx hb dX4_hearersOf_13 rfl (lv_at hl 3 rfl) ?_
        refine lv_iload_n hx hb dX4_hearersOf_14 rfl (lv_at hl 1 rfl) ?_
        obtain ⟨r15, u15, h15, hf⟩ := bd_some hf
        refine calX0 (runV E0.b E0.n (As := [.int l3, .int l1]) (rest := []) ⟨hx, hb, hml, hown, hts⟩ (c_X4_hearsIt l D cI o_t a_t S_t l3 l1 _ h15) gX4_hearersOf_X4_hearsIt rfl rfl rfl hdX4_hearsIt ⟨by decide, by decide⟩ hK hP hD 0 rfl rfl rfl hl.1 rfl (Nat.le_of_ble_eq_true rfl) dX4_hearersOf_15 ⟨Nat.zero_le _, Nat.zero_le _⟩) hD hS hA (fun H locs hP hD hS => ?_)
        have hP : va_P D vwCl (gX4 o_t a_t cI u15) H := hP
        have hD : va_D A (gX4 o_t a_t cI u15) := hD
        refine W.eq (g2 := F0 m 18 ls [.int r15]) rfl ?_
        refine lv_if_eq (tgt := 27) hx hb dX4_hearersOf_18 (by decide) (fun c18 => ?_) (fun c18 => ?_)
        · replace hf := it_t c18 hf
          refine lv_iinc (v := l3 + (1 : Int32)) (lv' := [(3, .int (l3 + (1 : Int32))), (0, .ref o_t), (1, .int l1), (2, .int l2)]) hx hb dX4_hearersOf_27 hl (k := 3) rfl rfl (by decide) rfl (fun ls hl => ?_)
          refine lv_goto (tgt := 4) hx hb dX4_hearersOf_30 (by decide) ?_
          exact ih4 u15 l1 l2 (l3 + (1 : Int32)) H locs ls hf hP hD hS (lv_sub hl [1, 2, 3, 0] rfl)
        · replace hf := it_f c18 hf
          refine lv_iload_n hx hb dX4_hearersOf_21 rfl (lv_at hl 2 rfl) ?_
          refine lv_iconst (v := (1 : Int32)) hx hb dX4_hearersOf_22 (by decide) ?_
          refine lv_iload_n hx hb dX4_hearersOf_23 rfl (lv_at hl 3 rfl) ?_
          refine lv_ishl hx hb dX4_hearersOf_24 ?_
          refine lv_ior hx hb dX4_hearersOf_25 ?_
          refine lv_topi (fun v26 e26 => ?_)
          replace hf := lt_at e26 hf
          refine lv_istore_n (lv' := [(2, .int v26), (0, .ref o_t), (1, .int l1), (3, .int l3)]) hx hb dX4_hearersOf_26 rfl hl (by decide) rfl (fun ls hl => ?_)
          refine lv_iinc (v := l3 + (1 : Int32)) (lv' := [(3, .int (l3 + (1 : Int32))), (2, .int v26), (0, .ref o_t), (1, .int l1)]) hx hb dX4_hearersOf_27 hl (k := 3) rfl rfl (by decide) rfl (fun ls hl => ?_)
          refine lv_goto (tgt := 4) hx hb dX4_hearersOf_30 (by decide) ?_
          exact ih4 u15 l1 v26 (l3 + (1 : Int32)) H locs ls hf hP hD hS (lv_sub hl [2, 3, 1, 0] rfl)
  unfold f_X4_hearersOf at hf
  have hl : lv_has ls 4 [(0, .ref o_t), (1, .int x1)] := hl
  obtain ⟨H, hHe⟩ : ∃ H : Heap, H = s.heap := ⟨_, rfl⟩
  obtain ⟨locs, hle⟩ : ∃ q : List Loc, q = [] := ⟨_, rfl⟩
  have hS : va_S A s.heap H locs := by rw [hHe, hle]; exact hS
  rw [← hHe] at hP
  suffices hgo : W p l e rmX4_hearersOf s m ([.ref o_t, .int x1] : List Value).toArray below meth c H locs 0 0 Q (F0 m 0 ls []) by rw [hHe, hle] at hgo; exact hgo
  clear hHe hle
  refine lv_iconst (v := (0 : Int32)) hx hb dX4_hearersOf_0 (by decide) ?_
  refine lv_istore_n (lv' := [(2, .int (0 : Int32)), (0, .ref o_t), (1, .int x1)]) hx hb dX4_hearersOf_1 rfl hl (by decide) rfl (fun ls hl => ?_)
  refine lv_iconst (v := (0 : Int32)) hx hb dX4_hearersOf_2 (by decide) ?_
  refine lv_istore_n (lv' := [(3, .int (0 : Int32)), (2, .int (0 : Int32)), (0, .ref o_t), (1, .int x1)]) hx hb dX4_hearersOf_3 rfl hl (by decide) rfl (fun ls hl => ?_)
  exact j4 1000 S_t x1 (0 : Int32) (0 : Int32) H locs ls hf hP hD hS (lv_sub hl [2, 3, 1, 0] rfl)
abbrev rmX4_silentBells : Room := { frames := 3, cells := 0, slots := 0, locals := 66 }
set_option maxHeartbeats 4000000 in
set_option maxRecDepth 100000 in
theorem c_X4_silentBells (l : Launch) (D : va_G) (cI : ClassId) (o_t : Nat) (a_t : Nat → Nat) (S_t : G) (out : Int32 × G) (hf : f_X4_silentBells S_t = some out) : Cn E0 l yX4_silentBells wsX4_silentBells rmX4_silentBells D cI [.ref o_t] (gX4 o_t a_t cI S_t) (some (.int out.1)) (gX4 o_t a_t cI out.2) := by
  refine Cn.mk (cc := cX4_silentBells) (maxL := 3) (ret := (some .int)) (by decide) rfl (Nat.le_of_ble_eq_true rfl) ?_
  intro p e s m below meth c A ls Q hx hb hml hown hts hK hA hP hD hS hl hr hlk hnm hE hQ
  have hown : s.vm.findClass RX4 = some m.cls := hown
  have hinX4 : ∀ w ∈ u_ws RX4 TX4 10, w ∈ wsX4_silentBells := by decide +kernel
  have j4 : ∀ (n4 : Nat) (S_t : G) (l1 : Int32) (l2 : Int32) (H : Heap) (locs : List Loc) (ls : Array Slot), f_X4_silentBells_4 n4 S_t l1 l2 = some out → va_P D vwCl (gX4 o_t a_t cI S_t) H → va_D A (gX4 o_t a_t cI S_t) → va_S A s.heap H locs → lv_has ls 3 [(0, .ref o_t), (1, .int l1), (2, .int l2)] → W p l e rmX4_silentBells s m ([.ref o_t] : List Value).toArray below meth c H locs 0 0 Q (F0 m 4 ls []) := by
    intro n4
    induction n4 with
    | zero =>
      intro S_t l1 l2 H locs ls hf
      exact no_some hf
    | succ n4 ih4 =>
      intro S_t l1 l2 H locs ls hf hP hD hS hl
      replace hf : b_X4_silentBells_4 (f_X4_silentBells_4 n4) S_t l1 l2 = some out := hf
      unfold b_X4_silentBells_4 at hf
      refine lv_iload_n hx hb dX4_silentBells_4 rfl (lv_at hl 2 rfl) ?_
      refine lv_aload_n hx hb dX4_silentBells_5 rfl (lv_at hl 0 rfl) ?_
      refine va_get (D := D) (ci := 4) (v := .int (S_t.1 0)) (C := RX4) (T := TX4) (N := 10) hx hb hts hinX4 hown hK hP 0 rfl rfl 0 (by decide) (hts (.fieldLink RX4 34 "OnlyStrangersHear$Town" "bells" "I") (by decide +kernel)) (fun _ h9 => h9) rfl dX4_silentBells_6 ?_
      refine lv_icmp_ge (tgt := 32) hx hb dX4_silentBells_9 (by decide) (fun c9 => ?_) (fun c9 => ?_)
      · replace hf := it_t c9 hf
        refine lv_iload_n hx hb dX4_silentBells_32 rfl (lv_at hl 1 rfl) ?_
        have e := so_some hf
        subst e
        exact ri hx hb hK hr hlk hQ dX4_silentBells_33 hP hD hS
      · replace hf := it_f c9 hf
        refine lv_aload_n hx hb dX4_silentBells_12 rfl (lv_at hl 0 rfl) ?_
        refine lv_iload_n hx hb dX4_silentBells_13 rfl (lv_at hl 2 rfl) ?_
        obtain ⟨r14, u14, h14, hf⟩ := bd_some hf
        refine calX0 (runV E0.b E0.n (As := [.int l2]) (rest := []) ⟨hx, hb, hml, hown, hts⟩ (c_X4_hearersOf l D cI o_t a_t S_t l2 _ h14) gX4_silentBells_X4_hearersOf rfl rfl rfl hdX4_hearersOf ⟨by decide, by decide⟩ hK hP hD 0 rfl rfl rfl hl.1 rfl (Nat.le_of_ble_eq_true rfl) dX4_silentBells_14 ⟨Nat.zero_le _, Nat.zero_le _⟩) hD hS hA (fun H locs hP hD hS => ?_)
        have hP : va_P D vwCl (gX4 o_t a_t cI u14) H := hP
        have hD : va_D A (gX4 o_t a_t cI u14) := hD
        refine W.eq (g2 := F0 m 17 ls [.int r14]) rfl ?_
        refine lv_if_ne (tgt := 26) hx hb dX4_silentBells_17 (by decide) (fun c17 => ?_) (fun c17 => ?_)
        · replace hf := it_f c17 hf
          refine lv_iinc (v := l2 + (1 : Int32)) (lv' := [(2, .int (l2 + (1 : Int32))), (0, .ref o_t), (1, .int l1)]) hx hb dX4_silentBells_26 hl (k := 2) rfl rfl (by decide) rfl (fun ls hl => ?_)
          refine lv_goto (tgt := 4) hx hb dX4_silentBells_29 (by decide) ?_
          exact ih4 u14 l1 (l2 + (1 : Int32)) H locs ls hf hP hD hS (lv_sub hl [1, 2, 0] rfl)
        · replace hf := it_t c17 hf
          refine lv_iload_n hx hb dX4_silentBells_20 rfl (lv_at hl 1 rfl) ?_
          refine lv_iconst (v := (1 : Int32)) hx hb dX4_silentBells_21 (by decide) ?_
          refine lv_iload_n hx hb dX4_silentBells_22 rfl (lv_at hl 2 rfl) ?_
          refine lv_ishl hx hb dX4_silentBells_23 ?_
          refine lv_ior hx hb dX4_silentBells_24 ?_
          refine lv_topi (fun v25 e25 => ?_)
          replace hf := lt_at e25 hf
          refine lv_istore_n (lv' := [(1, .int v25), (0, .ref o_t), (2, .int l2)]) hx hb dX4_silentBells_25 rfl hl (by decide) rfl (fun ls hl => ?_)
          refine lv_iinc (v := l2 + (1 : Int32)) (lv' := [(2, .int (l2 + (1 : Int32))), (1, .int v25), (0, .ref o_t)]) hx hb dX4_silentBells_26 hl (k := 2) rfl rfl (by decide) rfl (fun ls hl => ?_)
          refine lv_goto (tgt := 4) hx hb dX4_silentBells_29 (by decide) ?_
          exact ih4 u14 v25 (l2 + (1 : Int32)) H locs ls hf hP hD hS (lv_sub hl [2, 1, 0] rfl)
  unfold f_X4_silentBells at hf
  have hl : lv_has ls 3 [(0, .ref o_t)] := hl
  obtain ⟨H, hHe⟩ : ∃ H : Heap, H = s.heap := ⟨_, rfl⟩
  obtain ⟨locs, hle⟩ : ∃ q : List Loc, q = [] := ⟨_, rfl⟩
  have hS : va_S A s.heap H locs := by rw [hHe, hle]; exact hS
  rw [← hHe] at hP
  suffices hgo : W p l e rmX4_silentBells s m ([.ref o_t] : List Value).toArray below meth c H locs 0 0 Q (F0 m 0 ls []) by rw [hHe, hle] at hgo; exact hgo
  clear hHe hle
  refine lv_iconst (v := (0 : Int32)) hx hb dX4_silentBells_0 (by decide) ?_
  refine lv_istore_n (lv' := [(1, .int (0 : Int32)), (0, .ref o_t)]) hx hb dX4_silentBells_1 rfl hl (by decide) rfl (fun ls hl => ?_)
  refine lv_iconst (v := (0 : Int32)) hx hb dX4_silentBells_2 (by decide) ?_
  refine lv_istore_n (lv' := [(2, .int (0 : Int32)), (1, .int (0 : Int32)), (0, .ref o_t)]) hx hb dX4_silentBells_3 rfl hl (by decide) rfl (fun ls hl => ?_)
  exact j4 1000 S_t (0 : Int32) (0 : Int32) H locs ls hf hP hD hS (lv_sub hl [2, 1, 0] rfl)
abbrev rmX4_isRinging : Room := { frames := 0, cells := 0, slots := 0, locals := 0 }
set_option maxHeartbeats 4000000 in
set_option maxRecDepth 100000 in
theorem c_X4_isRinging (l : Launch) (D : va_G) (cI : ClassId) (o_t : Nat) (a_t : Nat → Nat) (S_t : G) (x1 : Int32) (out : Int32 × G) (hf : f_X4_isRinging S_t x1 = some out) : Cn E0 l yX4_isRinging wsX4_isRinging rmX4_isRinging D cI [.ref o_t, .int x1] (gX4 o_t a_t cI S_t) (some (.int out.1)) (gX4 o_t a_t cI out.2) := by
  refine Cn.mk (cc := cX4_isRinging) (maxL := 2) (ret := (some .boolean)) (by decide) rfl (Nat.le_of_ble_eq_true rfl) ?_
  intro p e s m below meth c A ls Q hx hb hml hown hts hK hA hP hD hS hl hr hlk hnm hE hQ
  have hown : s.vm.findClass RX4 = some m.cls := hown
  have hinX4 : ∀ w ∈ u_ws RX4 TX4 10, w ∈ wsX4_isRinging := by decide +kernel
  unfold f_X4_isRinging at hf
  have hl : lv_has ls 2 [(0, .ref o_t), (1, .int x1)] := hl
  obtain ⟨H, hHe⟩ : ∃ H : Heap, H = s.heap := ⟨_, rfl⟩
  obtain ⟨locs, hle⟩ : ∃ q : List Loc, q = [] := ⟨_, rfl⟩
  have hS : va_S A s.heap H locs := by rw [hHe, hle]; exact hS
  rw [← hHe] at hP
  suffices hgo : W p l e rmX4_isRinging s m ([.ref o_t, .int x1] : List Value).toArray below meth c H locs 0 0 Q (F0 m 0 ls []) by rw [hHe, hle] at hgo; exact hgo
  clear hHe hle
  refine lv_aload_n hx hb dX4_isRinging_0 rfl (lv_at hl 0 rfl) ?_
  refine va_get (D := D) (ci := 4) (v := .ref (a_t 2)) (C := RX4) (T := TX4) (N := 10) hx hb hts hinX4 hown hK hP 0 rfl rfl 2 (by decide) (hts (.fieldLink RX4 15 "OnlyStrangersHear$Town" "every" "[I") (by decide +kernel)) (fun _ h9 => h9) rfl dX4_isRinging_1 ?_
  refine lv_iload_n hx hb dX4_isRinging_4 rfl (lv_at hl 1 rfl) ?_
  obtain ⟨b5, hf⟩ := ck_some hf
  refine va_iald hx hb hK hP 2 0 rfl rfl b5 dX4_isRinging_5 ?_
  refine lv_if_le (tgt := 27) hx hb dX4_isRinging_6 (by decide) (fun c6 => ?_) (fun c6 => ?_)
  · replace hf := it_t c6 hf
    refine lv_iconst (v := (0 : Int32)) hx hb dX4_isRinging_27 (by decide) ?_
    have e := so_some hf
    subst e
    exact rz hx hb hK hr hlk (Or.inl rfl) hQ dX4_isRinging_28 hP hD hS
  · replace hf := it_f c6 hf
    refine lv_aload_n hx hb dX4_isRinging_9 rfl (lv_at hl 0 rfl) ?_
    refine va_get (D := D) (ci := 4) (v := .int (S_t.1 8)) (C := RX4) (T := TX4) (N := 10) hx hb hts hinX4 hown hK hP 0 rfl rfl 8 (by decide) (hts (.fieldLink RX4 46 "OnlyStrangersHear$Town" "day" "I") (by decide +kernel)) (fun _ h9 => h9) rfl dX4_isRinging_10 ?_
    refine lv_aload_n hx hb dX4_isRinging_13 rfl (lv_at hl 0 rfl) ?_
    refine va_get (D := D) (ci := 4) (v := .ref (a_t 2)) (C := RX4) (T := TX4) (N := 10) hx hb hts hinX4 hown hK hP 0 rfl rfl 2 (by decide) (hts (.fieldLink RX4 15 "OnlyStrangersHear$Town" "every" "[I") (by decide +kernel)) (fun _ h9 => h9) rfl dX4_isRinging_14 ?_
    refine lv_iload_n hx hb dX4_isRinging_17 rfl (lv_at hl 1 rfl) ?_
    obtain ⟨b18, hf⟩ := ck_some hf
    refine va_iald hx hb hK hP 2 0 rfl rfl b18 dX4_isRinging_18 ?_
    obtain ⟨z19, hf⟩ := nz_some hf
    refine lv_irem hx hb dX4_isRinging_19 z19 ?_
    refine lv_if_ne (tgt := 27) hx hb dX4_isRinging_20 (by decide) (fun c20 => ?_) (fun c20 => ?_)
    · replace hf := it_f c20 hf
      refine lv_iconst (v := (0 : Int32)) hx hb dX4_isRinging_27 (by decide) ?_
      have e := so_some hf
      subst e
      exact rz hx hb hK hr hlk (Or.inl rfl) hQ dX4_isRinging_28 hP hD hS
    · replace hf := it_t c20 hf
      refine lv_iconst (v := (1 : Int32)) hx hb dX4_isRinging_23 (by decide) ?_
      refine lv_goto (tgt := 28) hx hb dX4_isRinging_24 (by decide) ?_
      have e := so_some hf
      subst e
      exact rz hx hb hK hr hlk (Or.inr rfl) hQ dX4_isRinging_28 hP hD hS
abbrev rmX4_hoursLater : Room := { frames := 0, cells := 0, slots := 0, locals := 0 }
set_option maxHeartbeats 4000000 in
set_option maxRecDepth 100000 in
theorem c_X4_hoursLater (l : Launch) (D : va_G) (cI : ClassId) (o_t : Nat) (a_t : Nat → Nat) (S_t : G) (x1 : Int32) (out : Int32 × G) (hf : f_X4_hoursLater S_t x1 = some out) : Cn E0 l yX4_hoursLater wsX4_hoursLater rmX4_hoursLater D cI [.ref o_t, .int x1] (gX4 o_t a_t cI S_t) (some (.int out.1)) (gX4 o_t a_t cI out.2) := by
  refine Cn.mk (cc := cX4_hoursLater) (maxL := 2) (ret := (some .int)) (by decide) rfl (Nat.le_of_ble_eq_true rfl) ?_
  intro p e s m below meth c A ls Q hx hb hml hown hts hK hA hP hD hS hl hr hlk hnm hE hQ
  have hown : s.vm.findClass RX4 = some m.cls := hown
  have hinX4 : ∀ w ∈ u_ws RX4 TX4 10, w ∈ wsX4_hoursLater := by decide +kernel
  unfold f_X4_hoursLater at hf
  have hl : lv_has ls 2 [(0, .ref o_t), (1, .int x1)] := hl
  obtain ⟨H, hHe⟩ : ∃ H : Heap, H = s.heap := ⟨_, rfl⟩
  obtain ⟨locs, hle⟩ : ∃ q : List Loc, q = [] := ⟨_, rfl⟩
  have hS : va_S A s.heap H locs := by rw [hHe, hle]; exact hS
  rw [← hHe] at hP
  suffices hgo : W p l e rmX4_hoursLater s m ([.ref o_t, .int x1] : List Value).toArray below meth c H locs 0 0 Q (F0 m 0 ls []) by rw [hHe, hle] at hgo; exact hgo
  clear hHe hle
  refine lv_aload_n hx hb dX4_hoursLater_0 rfl (lv_at hl 0 rfl) ?_
  refine va_get (D := D) (ci := 4) (v := .ref (a_t 4)) (C := RX4) (T := TX4) (N := 10) hx hb hts hinX4 hown hK hP 0 rfl rfl 4 (by decide) (hts (.fieldLink RX4 18 "OnlyStrangersHear$Town" "kind" "[I") (by decide +kernel)) (fun _ h9 => h9) rfl dX4_hoursLater_1 ?_
  refine lv_iload_n hx hb dX4_hoursLater_4 rfl (lv_at hl 1 rfl) ?_
  obtain ⟨b5, hf⟩ := ck_some hf
  refine va_iald hx hb hK hP 3 0 rfl rfl b5 dX4_hoursLater_5 ?_
  by_cases ck3 : (S_t.2 4 x1.toNatClampNeg) = (3 : Int32)
  · replace hf := it_t ck3 hf
    refine lv_lookup (off := 26) (tgt := 32) hx hb dX4_hoursLater_6 (by decide) (by rw [ck3]; decide) (by decide) ?_
    refine lv_iconst (v := (1 : Int32)) hx hb dX4_hoursLater_32 (by decide) ?_
    have e := so_some hf
    subst e
    exact ri hx hb hK hr hlk hQ dX4_hoursLater_33 hP hD hS
  · replace hf := it_f ck3 hf
    by_cases ck4 : (S_t.2 4 x1.toNatClampNeg) = (4 : Int32)
    · replace hf := it_t ck4 hf
      refine lv_lookup (off := 28) (tgt := 34) hx hb dX4_hoursLater_6 (by decide) (by rw [ck4]; decide) (by decide) ?_
      refine lv_aload_n hx hb dX4_hoursLater_34 rfl (lv_at hl 0 rfl) ?_
      refine va_get (D := D) (ci := 4) (v := .ref (a_t 5)) (C := RX4) (T := TX4) (N := 10) hx hb hts hinX4 hown hK hP 0 rfl rfl 5 (by decide) (hts (.fieldLink RX4 21 "OnlyStrangersHear$Town" "figure" "[I") (by decide +kernel)) (fun _ h9 => h9) rfl dX4_hoursLater_35 ?_
      refine lv_iload_n hx hb dX4_hoursLater_38 rfl (lv_at hl 1 rfl) ?_
      obtain ⟨b39, hf⟩ := ck_some hf
      refine va_iald hx hb hK hP 4 0 rfl rfl b39 dX4_hoursLater_39 ?_
      have e := so_some hf
      subst e
      exact ri hx hb hK hr hlk hQ dX4_hoursLater_40 hP hD hS
    · replace hf := it_f ck4 hf
      refine lv_lookup (off := 35) (tgt := 41) hx hb dX4_hoursLater_6 (by decide) (by rw [lv_osw (k := 3) (a := 3) ck3 (by decide)]; rw [lv_osw (k := 4) (a := 4) ck4 (by decide)]; rfl) (by decide) ?_
      refine lv_iconst (v := (0 : Int32)) hx hb dX4_hoursLater_41 (by decide) ?_
      have e := so_some hf
      subst e
      exact ri hx hb hK hr hlk hQ dX4_hoursLater_42 hP hD hS
abbrev rmX4_saidOf : Room := { frames := 1, cells := 0, slots := 0, locals := 21 }
set_option maxHeartbeats 4000000 in
set_option maxRecDepth 100000 in
theorem c_X4_saidOf (l : Launch) (D : va_G) (cI : ClassId) (o_t : Nat) (a_t : Nat → Nat) (S_t : G) (x1 : Int32) (x2 : Int32) (out : Int32 × G) (hf : f_X4_saidOf S_t x1 x2 = some out) : Cn E0 l yX4_saidOf wsX4_saidOf rmX4_saidOf D cI [.ref o_t, .int x1, .int x2] (gX4 o_t a_t cI S_t) (some (.int out.1)) (gX4 o_t a_t cI out.2) := by
  refine Cn.mk (cc := cX4_saidOf) (maxL := 10) (ret := (some .int)) (by decide) rfl (Nat.le_of_ble_eq_true rfl) ?_
  intro p e s m below meth c A ls Q hx hb hml hown hts hK hA hP hD hS hl hr hlk hnm hE hQ
  have hown : s.vm.findClass RX4 = some m.cls := hown
  have hinX4 : ∀ w ∈ u_ws RX4 TX4 10, w ∈ wsX4_saidOf := by decide +kernel
  have j52 : ∀ (n52 : Nat) (S_t : G) (l1 : Int32) (l3 : Int64) (l5 : Int32) (l6 : Int32) (l7 : Int32) (H : Heap) (locs : List Loc) (ls : Array Slot), f_X4_saidOf_52 n52 S_t l1 l3 l5 l6 l7 = some out → va_P D vwCl (gX4 o_t a_t cI S_t) H → va_D A (gX4 o_t a_t cI S_t) → va_S A s.heap H locs → lv_has ls 10 [(0, .ref o_t), (1, .int l1), (3, .long l3), (5, .int l5), (6, .int l6), (7, .int l7)] → W p l e rmX4_saidOf s m ([.ref o_t, .int x1, .int x2] : List Value).toArray below meth c H locs 0 0 Q (F0 m 52 ls []) := by
    intro n52
    induction n52 with
    | zero =>
      intro S_t l1 l3 l5 l6 l7 H locs ls hf
      exact no_some hf
    | succ n52 ih52 =>
      intro S_t l1 l3 l5 l6 l7 H locs ls hf hP hD hS hl
      replace hf : b_X4_saidOf_52 (f_X4_saidOf_52 n52) S_t l1 l3 l5 l6 l7 = some out := hf
      unfold b_X4_saidOf_52 at hf
      refine lv_iload hx hb dX4_saidOf_52 (lv_at hl 5 rfl) ?_
      refine lv_bipush (v := (9 : Int32)) hx hb dX4_saidOf_54 (by decide) ?_
      refine lv_icmp_gt (tgt := 120) hx hb dX4_saidOf_56 (by decide) (fun c56 => ?_) (fun c56 => ?_)
      · replace hf := it_t c56 hf
        refine lv_iload hx hb dX4_saidOf_120 (lv_at hl 3 rfl) ?_
        have e := so_some hf
        subst e
        exact ri hx hb hK hr hlk hQ dX4_saidOf_122 hP hD hS
      · replace hf := it_f c56 hf
        refine lv_lload_n hx hb dX4_saidOf_59 rfl (lv_at hl 2 rfl) ?_
        refine lv_iconst (v := (4 : Int32)) hx hb dX4_saidOf_60 (by decide) ?_
        refine lv_iload hx hb dX4_saidOf_61 (lv_at hl 5 rfl) ?_
        refine lv_imul hx hb dX4_saidOf_63 ?_
        refine lv_lshr (v := l3 >>> (((4 : Int32) * l7).toInt64 &&& 63)) hx hb dX4_saidOf_64 rfl ?_
        refine lv_l2i (v := (l3 >>> (((4 : Int32) * l7).toInt64 &&& 63)).toInt32) hx hb dX4_saidOf_65 rfl ?_
        refine lv_bipush (v := (15 : Int32)) hx hb dX4_saidOf_66 (by decide) ?_
        refine lv_iand hx hb dX4_saidOf_68 ?_
        refine lv_topi (fun v69 e69 => ?_)
        replace hf := lt_at e69 hf
        refine lv_istore (lv' := [(8, .int v69), (0, .ref o_t), (1, .int l1), (3, .long l3), (5, .int l5), (6, .int l6), (7, .int l7)]) hx hb dX4_saidOf_69 hl (by decide) rfl (fun ls hl => ?_)
        refine lv_aload_n hx hb dX4_saidOf_71 rfl (lv_at hl 1 rfl) ?_
        refine va_get (D := D) (ci := 4) (v := .ref (a_t 1)) (C := RX4) (T := TX4) (N := 10) hx hb hts hinX4 hown hK hP 0 rfl rfl 1 (by decide) (hts (.fieldLink RX4 9 "OnlyStrangersHear$Town" "hour" "[I") (by decide +kernel)) (fun _ h9 => h9) rfl dX4_saidOf_72 ?_
        refine lv_iload_n hx hb dX4_saidOf_75 rfl (lv_at hl 2 rfl) ?_
        obtain ⟨b76, hf⟩ := ck_some hf
        refine va_iald hx hb hK hP 1 0 rfl rfl b76 dX4_saidOf_76 ?_
        refine lv_iload hx hb dX4_saidOf_77 (lv_at hl 6 rfl) ?_
        refine lv_iadd hx hb dX4_saidOf_79 ?_
        refine lv_bipush (v := (24 : Int32)) hx hb dX4_saidOf_80 (by decide) ?_
        obtain ⟨z82, hf⟩ := nz_some hf
        refine lv_irem hx hb dX4_saidOf_82 z82 ?_
        refine lv_topi (fun v83 e83 => ?_)
        replace hf := lt_at e83 hf
        refine lv_istore (lv' := [(9, .int v83), (8, .int v69), (0, .ref o_t), (1, .int l1), (3, .long l3), (5, .int l5), (6, .int l6), (7, .int l7)]) hx hb dX4_saidOf_83 hl (by decide) rfl (fun ls hl => ?_)
        refine lv_iload hx hb dX4_saidOf_85 (lv_at hl 1 rfl) ?_
        refine lv_iload hx hb dX4_saidOf_87 (lv_at hl 6 rfl) ?_
        refine lv_icmp_gt (tgt := 106) hx hb dX4_saidOf_89 (by decide) (fun c89 => ?_) (fun c89 => ?_)
        · replace hf := it_t c89 hf
          refine lv_iload hx hb dX4_saidOf_106 (lv_at hl 1 rfl) ?_
          refine lv_istore (lv' := [(6, .int v69), (9, .int v83), (8, .int v69), (0, .ref o_t), (1, .int l1), (3, .long l3), (5, .int l5), (7, .int l7)]) hx hb dX4_saidOf_108 hl (by decide) rfl (fun ls hl => ?_)
          refine lv_iload hx hb dX4_saidOf_110 (lv_at hl 1 rfl) ?_
          refine lv_istore (lv' := [(5, .int v83), (6, .int v69), (9, .int v83), (8, .int v69), (0, .ref o_t), (1, .int l1), (3, .long l3), (7, .int l7)]) hx hb dX4_saidOf_112 hl (by decide) rfl (fun ls hl => ?_)
          refine lv_iinc (v := l7 + (1 : Int32)) (lv' := [(7, .int (l7 + (1 : Int32))), (5, .int v83), (6, .int v69), (9, .int v83), (8, .int v69), (0, .ref o_t), (1, .int l1), (3, .long l3)]) hx hb dX4_saidOf_114 hl (k := 7) rfl rfl (by decide) rfl (fun ls hl => ?_)
          refine lv_goto (tgt := 52) hx hb dX4_saidOf_117 (by decide) ?_
          exact ih52 S_t l1 l3 v83 v69 (l7 + (1 : Int32)) H locs ls hf hP hD hS (lv_sub hl [5, 6, 7, 1, 2, 0] rfl)
        · replace hf := it_f c89 hf
          refine lv_iload hx hb dX4_saidOf_92 (lv_at hl 1 rfl) ?_
          refine lv_iload hx hb dX4_saidOf_94 (lv_at hl 6 rfl) ?_
          refine lv_icmp_ne (tgt := 114) hx hb dX4_saidOf_96 (by decide) (fun c96 => ?_) (fun c96 => ?_)
          · replace hf := it_f c96 hf
            refine lv_iinc (v := l7 + (1 : Int32)) (lv' := [(7, .int (l7 + (1 : Int32))), (9, .int v83), (8, .int v69), (0, .ref o_t), (1, .int l1), (3, .long l3), (5, .int l5), (6, .int l6)]) hx hb dX4_saidOf_114 hl (k := 7) rfl rfl (by decide) rfl (fun ls hl => ?_)
            refine lv_goto (tgt := 52) hx hb dX4_saidOf_117 (by decide) ?_
            exact ih52 S_t l1 l3 l5 l6 (l7 + (1 : Int32)) H locs ls hf hP hD hS (lv_sub hl [3, 4, 5, 6, 7, 0] rfl)
          · replace hf := it_t c96 hf
            refine lv_iload hx hb dX4_saidOf_99 (lv_at hl 0 rfl) ?_
            refine lv_iload hx hb dX4_saidOf_101 (lv_at hl 5 rfl) ?_
            refine lv_icmp_ge (tgt := 114) hx hb dX4_saidOf_103 (by decide) (fun c103 => ?_) (fun c103 => ?_)
            · replace hf := it_t c103 hf
              refine lv_iinc (v := l7 + (1 : Int32)) (lv' := [(7, .int (l7 + (1 : Int32))), (9, .int v83), (8, .int v69), (0, .ref o_t), (1, .int l1), (3, .long l3), (5, .int l5), (6, .int l6)]) hx hb dX4_saidOf_114 hl (k := 7) rfl rfl (by decide) rfl (fun ls hl => ?_)
              refine lv_goto (tgt := 52) hx hb dX4_saidOf_117 (by decide) ?_
              exact ih52 S_t l1 l3 l5 l6 (l7 + (1 : Int32)) H locs ls hf hP hD hS (lv_sub hl [3, 4, 5, 6, 7, 0] rfl)
            · replace hf := it_f c103 hf
              refine lv_iload hx hb dX4_saidOf_106 (lv_at hl 1 rfl) ?_
              refine lv_istore (lv' := [(6, .int v69), (9, .int v83), (8, .int v69), (0, .ref o_t), (1, .int l1), (3, .long l3), (5, .int l5), (7, .int l7)]) hx hb dX4_saidOf_108 hl (by decide) rfl (fun ls hl => ?_)
              refine lv_iload hx hb dX4_saidOf_110 (lv_at hl 1 rfl) ?_
              refine lv_istore (lv' := [(5, .int v83), (6, .int v69), (9, .int v83), (8, .int v69), (0, .ref o_t), (1, .int l1), (3, .long l3), (7, .int l7)]) hx hb dX4_saidOf_112 hl (by decide) rfl (fun ls hl => ?_)
              refine lv_iinc (v := l7 + (1 : Int32)) (lv' := [(7, .int (l7 + (1 : Int32))), (5, .int v83), (6, .int v69), (9, .int v83), (8, .int v69), (0, .ref o_t), (1, .int l1), (3, .long l3)]) hx hb dX4_saidOf_114 hl (k := 7) rfl rfl (by decide) rfl (fun ls hl => ?_)
              refine lv_goto (tgt := 52) hx hb dX4_saidOf_117 (by decide) ?_
              exact ih52 S_t l1 l3 v83 v69 (l7 + (1 : Int32)) H locs ls hf hP hD hS (lv_sub hl [5, 6, 7, 1, 2, 0] rfl)
  have j5 : ∀ (n5 : Nat) (S_t : G) (l1 : Int32) (l2 : Int32) (l3 : Int64) (l5 : Int32) (H : Heap) (locs : List Loc) (ls : Array Slot), f_X4_saidOf_5 n5 S_t l1 l2 l3 l5 = some out → va_P D vwCl (gX4 o_t a_t cI S_t) H → va_D A (gX4 o_t a_t cI S_t) → va_S A s.heap H locs → lv_has ls 10 [(0, .ref o_t), (1, .int l1), (2, .int l2), (3, .long l3), (5, .int l5)] → W p l e rmX4_saidOf s m ([.ref o_t, .int x1, .int x2] : List Value).toArray below meth c H locs 0 0 Q (F0 m 5 ls []) := by
    intro n5
    induction n5 with
    | zero =>
      intro S_t l1 l2 l3 l5 H locs ls hf
      exact no_some hf
    | succ n5 ih5 =>
      intro S_t l1 l2 l3 l5 H locs ls hf hP hD hS hl
      replace hf : b_X4_saidOf_5 (f_X4_saidOf_5 n5) S_t l1 l2 l3 l5 = some out := hf
      unfold b_X4_saidOf_5 at hf
      refine lv_iload hx hb dX4_saidOf_5 (lv_at hl 4 rfl) ?_
      refine lv_aload_n hx hb dX4_saidOf_7 rfl (lv_at hl 0 rfl) ?_
      refine va_get (D := D) (ci := 4) (v := .int (S_t.1 3)) (C := RX4) (T := TX4) (N := 10) hx hb hts hinX4 hown hK hP 0 rfl rfl 3 (by decide) (hts (.fieldLink RX4 43 "OnlyStrangersHear$Town" "people" "I") (by decide +kernel)) (fun _ h9 => h9) rfl dX4_saidOf_8 ?_
      refine lv_icmp_ge (tgt := 42) hx hb dX4_saidOf_11 (by decide) (fun c11 => ?_) (fun c11 => ?_)
      · replace hf := it_t c11 hf
        refine lv_bipush (v := (-9 : Int32)) hx hb dX4_saidOf_42 (by decide) ?_
        refine lv_istore (lv' := [(5, .int (-9 : Int32)), (0, .ref o_t), (1, .int l1), (2, .int l2), (3, .long l3)]) hx hb dX4_saidOf_44 hl (by decide) rfl (fun ls hl => ?_)
        refine lv_iconst (v := (0 : Int32)) hx hb dX4_saidOf_46 (by decide) ?_
        refine lv_istore (lv' := [(6, .int (0 : Int32)), (5, .int (-9 : Int32)), (0, .ref o_t), (1, .int l1), (2, .int l2), (3, .long l3)]) hx hb dX4_saidOf_47 hl (by decide) rfl (fun ls hl => ?_)
        refine lv_iconst (v := (0 : Int32)) hx hb dX4_saidOf_49 (by decide) ?_
        refine lv_istore (lv' := [(7, .int (0 : Int32)), (6, .int (0 : Int32)), (5, .int (-9 : Int32)), (0, .ref o_t), (1, .int l1), (2, .int l2), (3, .long l3)]) hx hb dX4_saidOf_50 hl (by decide) rfl (fun ls hl => ?_)
        exact j52 1000 S_t l1 l3 (-9 : Int32) (0 : Int32) (0 : Int32) H locs ls hf hP hD hS (lv_sub hl [3, 4, 6, 2, 1, 0] rfl)
      · replace hf := it_f c11 hf
        refine lv_iload_n hx hb dX4_saidOf_14 rfl (lv_at hl 2 rfl) ?_
        refine lv_iload hx hb dX4_saidOf_15 (lv_at hl 4 rfl) ?_
        refine lv_ishr hx hb dX4_saidOf_17 ?_
        refine lv_iconst (v := (1 : Int32)) hx hb dX4_saidOf_18 (by decide) ?_
        refine lv_iand hx hb dX4_saidOf_19 ?_
        refine lv_if_eq (tgt := 36) hx hb dX4_saidOf_20 (by decide) (fun c20 => ?_) (fun c20 => ?_)
        · replace hf := it_t c20 hf
          refine lv_iinc (v := l5 + (1 : Int32)) (lv' := [(5, .int (l5 + (1 : Int32))), (0, .ref o_t), (1, .int l1), (2, .int l2), (3, .long l3)]) hx hb dX4_saidOf_36 hl (k := 4) rfl rfl (by decide) rfl (fun ls hl => ?_)
          refine lv_goto (tgt := 5) hx hb dX4_saidOf_39 (by decide) ?_
          exact ih5 S_t l1 l2 l3 (l5 + (1 : Int32)) H locs ls hf hP hD hS (lv_sub hl [1, 2, 3, 4, 0] rfl)
        · replace hf := it_f c20 hf
          refine lv_lload_n hx hb dX4_saidOf_23 rfl (lv_at hl 3 rfl) ?_
          refine lv_lconst (v := (1 : Int64)) hx hb dX4_saidOf_24 (by decide) ?_
          refine lv_iconst (v := (4 : Int32)) hx hb dX4_saidOf_25 (by decide) ?_
          refine lv_aload_n hx hb dX4_saidOf_26 rfl (lv_at hl 0 rfl) ?_
          refine lv_iload hx hb dX4_saidOf_27 (lv_at hl 4 rfl) ?_
          obtain ⟨r29, u29, h29, hf⟩ := bd_some hf
          refine calX0 (runV E0.b E0.n (As := [.int l5]) (rest := [.int (4 : Int32), .long (1 : Int64), .long l3]) ⟨hx, hb, hml, hown, hts⟩ (c_X4_hoursLater l D cI o_t a_t S_t l5 _ h29) gX4_saidOf_X4_hoursLater rfl rfl rfl hdX4_hoursLater ⟨by decide, by decide⟩ hK hP hD 0 rfl rfl rfl hl.1 rfl (Nat.le_of_ble_eq_true rfl) dX4_saidOf_29 ⟨Nat.zero_le _, Nat.zero_le _⟩) hD hS hA (fun H locs hP hD hS => ?_)
          have hP : va_P D vwCl (gX4 o_t a_t cI u29) H := hP
          have hD : va_D A (gX4 o_t a_t cI u29) := hD
          refine W.eq (g2 := F0 m 32 ls [.int r29, .int (4 : Int32), .long (1 : Int64), .long l3]) rfl ?_
          refine lv_imul hx hb dX4_saidOf_32 ?_
          refine lv_lshl (v := (1 : Int64) <<< (((4 : Int32) * r29).toInt64 &&& 63)) hx hb dX4_saidOf_33 rfl ?_
          refine lv_ladd hx hb dX4_saidOf_34 ?_
          refine lv_topl (fun v35 e35 => ?_)
          replace hf := lt_at e35 hf
          refine lv_lstore_n (lv' := [(3, .long v35), (0, .ref o_t), (1, .int l1), (2, .int l2), (5, .int l5)]) hx hb dX4_saidOf_35 rfl hl (by decide) rfl (fun ls hl => ?_)
          refine lv_iinc (v := l5 + (1 : Int32)) (lv' := [(5, .int (l5 + (1 : Int32))), (3, .long v35), (0, .ref o_t), (1, .int l1), (2, .int l2)]) hx hb dX4_saidOf_36 hl (k := 4) rfl rfl (by decide) rfl (fun ls hl => ?_)
          refine lv_goto (tgt := 5) hx hb dX4_saidOf_39 (by decide) ?_
          exact ih5 u29 l1 l2 v35 (l5 + (1 : Int32)) H locs ls hf hP hD hS (lv_sub hl [2, 3, 4, 1, 0] rfl)
  unfold f_X4_saidOf at hf
  have hl : lv_has ls 10 [(0, .ref o_t), (1, .int x1), (2, .int x2)] := hl
  obtain ⟨H, hHe⟩ : ∃ H : Heap, H = s.heap := ⟨_, rfl⟩
  obtain ⟨locs, hle⟩ : ∃ q : List Loc, q = [] := ⟨_, rfl⟩
  have hS : va_S A s.heap H locs := by rw [hHe, hle]; exact hS
  rw [← hHe] at hP
  suffices hgo : W p l e rmX4_saidOf s m ([.ref o_t, .int x1, .int x2] : List Value).toArray below meth c H locs 0 0 Q (F0 m 0 ls []) by rw [hHe, hle] at hgo; exact hgo
  clear hHe hle
  refine lv_lconst (v := (0 : Int64)) hx hb dX4_saidOf_0 (by decide) ?_
  refine lv_lstore_n (lv' := [(3, .long (0 : Int64)), (0, .ref o_t), (1, .int x1), (2, .int x2)]) hx hb dX4_saidOf_1 rfl hl (by decide) rfl (fun ls hl => ?_)
  refine lv_iconst (v := (0 : Int32)) hx hb dX4_saidOf_2 (by decide) ?_
  refine lv_istore (lv' := [(5, .int (0 : Int32)), (3, .long (0 : Int64)), (0, .ref o_t), (1, .int x1), (2, .int x2)]) hx hb dX4_saidOf_3 hl (by decide) rfl (fun ls hl => ?_)
  exact j5 1000 S_t x1 x2 (0 : Int64) (0 : Int32) H locs ls hf hP hD hS (lv_sub hl [2, 3, 4, 1, 0] rfl)
