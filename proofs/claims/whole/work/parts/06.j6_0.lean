abbrev rmX6_refused : Room := { frames := 0, cells := 0, slots := 0, locals := 0 }
set_option maxHeartbeats 4000000 in
set_option maxRecDepth 100000 in
theorem c_X6_refused (l : Launch) (D : va_G) (cI : ClassId) (o_t : Nat) (a_t : Nat → Nat) (S_t : G) (x1 : Int32) (out : Int32 × G) (hf : f_X6_refused S_t x1 = some out) : Cn E0 l yX6_refused wsX6_refused rmX6_refused D cI [.ref o_t, .int x1] (gX6 o_t a_t cI S_t) (some (.int out.1)) (gX6 o_t a_t cI out.2) := by
  refine Cn.mk (cc := cX6_refused) (maxL := 2) (ret := (some .int)) (by decide) rfl (Nat.le_of_ble_eq_true rfl) ?_
  intro p e s m below meth c A ls Q hx hb hml hown hts hK hA hP hD hS hl hr hlk hnm hE hQ
  have hown : s.vm.findClass RX6 = some m.cls := hown
  have hinX6 : ∀ w ∈ u_ws RX6 TX6 9, w ∈ wsX6_refused := by decide +kernel
  unfold f_X6_refused at hf
  have hl : lv_has ls 2 [(0, .ref o_t), (1, .int x1)] := hl
  obtain ⟨H, hHe⟩ : ∃ H : Heap, H = s.heap := ⟨_, rfl⟩
  obtain ⟨locs, hle⟩ : ∃ q : List Loc, q = [] := ⟨_, rfl⟩
  have hS : va_S A s.heap H locs := by rw [hHe, hle]; exact hS
  rw [← hHe] at hP
  suffices hgo : W p l e rmX6_refused s m ([.ref o_t, .int x1] : List Value).toArray below meth c H locs 0 0 Q (F0 m 0 ls []) by rw [hHe, hle] at hgo; exact hgo
  clear hHe hle
  refine lv_iload_n hx hb dX6_refused_0 rfl (lv_at hl 1 rfl) ?_
  refine lv_if_ge (tgt := 21) hx hb dX6_refused_1 (by decide) (fun c1 => ?_) (fun c1 => ?_)
  · replace hf := it_t c1 hf
    refine lv_iload_n hx hb dX6_refused_21 rfl (lv_at hl 1 rfl) ?_
    have e := so_some hf
    subst e
    exact ri hx hb hK hr hlk hQ dX6_refused_22 hP hD hS
  · replace hf := it_f c1 hf
    refine lv_iload_n hx hb dX6_refused_4 rfl (lv_at hl 1 rfl) ?_
    refine lv_bipush (v := (-6 : Int32)) hx hb dX6_refused_5 (by decide) ?_
    refine lv_icmp_lt (tgt := 21) hx hb dX6_refused_7 (by decide) (fun c7 => ?_) (fun c7 => ?_)
    · replace hf := it_t c7 hf
      refine lv_iload_n hx hb dX6_refused_21 rfl (lv_at hl 1 rfl) ?_
      have e := so_some hf
      subst e
      exact ri hx hb hK hr hlk hQ dX6_refused_22 hP hD hS
    · replace hf := it_f c7 hf
      refine lv_aload_n hx hb dX6_refused_10 rfl (lv_at hl 0 rfl) ?_
      refine va_get (D := D) (ci := 6) (v := .ref (a_t 8)) (C := RX6) (T := TX6) (N := 9) hx hb hts hinX6 hown hK hP 0 rfl rfl 8 (by decide) (hts (.fieldLink RX6 54 "OnlyStrangersHear" "refusals" "[I") (by decide +kernel)) (fun _ h9 => h9) rfl dX6_refused_11 ?_
      refine lv_iload_n hx hb dX6_refused_14 rfl (lv_at hl 1 rfl) ?_
      refine lv_ineg hx hb dX6_refused_15 ?_
      refine lv_dup2_11 hx hb dX6_refused_16 rfl rfl ?_
      obtain ⟨b17, hf⟩ := ck_some hf
      refine va_iald hx hb hK hP 1 0 rfl rfl b17 dX6_refused_17 ?_
      refine lv_iconst (v := (1 : Int32)) hx hb dX6_refused_18 (by decide) ?_
      refine lv_iadd hx hb dX6_refused_19 ?_
      obtain ⟨b20, hf⟩ := ck_some hf
      refine va_iast hx hb hK hP hD hS 1 0 rfl rfl b20 dX6_refused_20 (fun H locs hP hD hS => ?_)
      have hP : va_P D vwCl (gX6 o_t a_t cI (pA S_t 8 (-x1).toNatClampNeg ((S_t.2 8 (-x1).toNatClampNeg) + (1 : Int32)))) H := hP
      have hD : va_D A (gX6 o_t a_t cI (pA S_t 8 (-x1).toNatClampNeg ((S_t.2 8 (-x1).toNatClampNeg) + (1 : Int32)))) := hD
      obtain ⟨g20, e20, hf⟩ := lt_some hf
      rw [← e20] at hP hD
      refine lv_iload_n hx hb dX6_refused_21 rfl (lv_at hl 1 rfl) ?_
      have e := so_some hf
      subst e
      exact ri hx hb hK hr hlk hQ dX6_refused_22 hP hD hS
abbrev rmX6_letter : Room := { frames := 1, cells := 0, slots := 0, locals := 22 }
set_option maxHeartbeats 4000000 in
set_option maxRecDepth 100000 in
theorem c_X6_letter (l : Launch) (D : va_G) (cI : ClassId) (o_t : Nat) (a_t : Nat → Nat) (a_t_3 : Nat → Nat) (S_t : G) (S_t_3 : G) (x1 : Int32) (out : Int32 × G × G) (hf : f_X6_letter S_t S_t_3 x1 = some out) : Cn E0 l yX6_letter wsX6_letter rmX6_letter D cI [.ref o_t, .int x1] (gX6 o_t a_t cI S_t ++ gX0 (a_t 3) a_t_3 cI S_t_3) (some (.int out.1)) (gX6 o_t a_t cI out.2.1 ++ gX0 (a_t 3) a_t_3 cI out.2.2) := by
  refine Cn.mk (cc := cX6_letter) (maxL := 3) (ret := (some .int)) (by decide) rfl (Nat.le_of_ble_eq_true rfl) ?_
  intro p e s m below meth c A ls Q hx hb hml hown hts hK hA hP hD hS hl hr hlk hnm hE hQ
  have hown : s.vm.findClass RX6 = some m.cls := hown
  have hinX0 : ∀ w ∈ u_ws RX0 TX0 3, w ∈ wsX6_letter := by decide +kernel
  have hinX6 : ∀ w ∈ u_ws RX6 TX6 9, w ∈ wsX6_letter := by decide +kernel
  have j26 : ∀ (S_t : G) (S_t_3 : G) (l1 : Int32) (s0 : Int32) (s1 : Int32) (H : Heap) (locs : List Loc) (ls : Array Slot), f_X6_letter_26 S_t S_t_3 l1 s0 s1 = some out → va_P D vwCl (gX6 o_t a_t cI S_t ++ gX0 (a_t 3) a_t_3 cI S_t_3) H → va_D A (gX6 o_t a_t cI S_t ++ gX0 (a_t 3) a_t_3 cI S_t_3) → va_S A s.heap H locs → lv_has ls 3 [(0, .ref o_t), (1, .int l1)] → W p l e rmX6_letter s m ([.ref o_t, .int x1] : List Value).toArray below meth c H locs 0 0 Q (F0 m 26 ls [.int s1, .int s0]) := by
    intro S_t S_t_3 l1 s0 s1 H locs ls hf hP hD hS hl
    unfold f_X6_letter_26 at hf
    obtain ⟨r26, u26, h26, hf⟩ := bd_some hf
    have hPc : va_P D vwCl [] H := hP.sub (ws' := []) [] rfl
    have hDc : va_D A [] := hD.sub (ws' := []) [] (by decide) rfl
    refine calXe (runS E0.b E0.n (As := [.int s0, .int s1]) (rest := []) ⟨hx, hb, hml, hown, hts⟩ (c_X6_first l D cI s0 s1 _ h26) gX6_letter_X6_first rfl rfl rfl hdX6_first ⟨by decide, by decide⟩ hK hPc hDc rfl hl.1 rfl (Nat.le_of_ble_eq_true rfl) dX6_letter_26 ⟨Nat.zero_le _, Nat.zero_le _⟩) hP hD hS hA (fun H locs hP hD hS => ?_)
    have hP : va_P D vwCl (gX6 o_t a_t cI S_t ++ gX0 (a_t 3) a_t_3 cI S_t_3) H := hP
    have hD : va_D A (gX6 o_t a_t cI S_t ++ gX0 (a_t 3) a_t_3 cI S_t_3) := hD
    refine W.eq (g2 := F0 m 29 ls [.int r26]) rfl ?_
    refine lv_istore_n (lv' := [(2, .int r26), (0, .ref o_t), (1, .int l1)]) hx hb dX6_letter_29 rfl hl (by decide) rfl (fun ls hl => ?_)
    refine lv_iload_n hx hb dX6_letter_30 rfl (lv_at hl 0 rfl) ?_
    refine lv_if_eq (tgt := 40) hx hb dX6_letter_31 (by decide) (fun c31 => ?_) (fun c31 => ?_)
    · replace hf := it_t c31 hf
      refine lv_aload_n hx hb dX6_letter_40 rfl (lv_at hl 1 rfl) ?_
      refine va_get (D := D) (ci := 6) (v := .ref (a_t 3)) (C := RX6) (T := TX6) (N := 9) hx hb hts hinX6 hown hK hP 0 rfl rfl 3 (by decide) (hts (.fieldLink RX6 22 "OnlyStrangersHear" "letters" "LOnlyStrangersHear$Letters;") (by decide +kernel)) (fun _ h9 => h9) rfl dX6_letter_41 ?_
      refine lv_iload_n hx hb dX6_letter_44 rfl (lv_at hl 2 rfl) ?_
      obtain ⟨r45, u45, h45, hf⟩ := bd_some hf
      have hPc := hP.sub (ws' := gX0 (a_t 3) a_t_3 cI S_t_3) [2, 3] rfl
      have hDc := hD.sub (ws' := gX0 (a_t 3) a_t_3 cI S_t_3) [2, 3] (by decide) rfl
      refine calX (runV E0.b E0.n (As := [.int l1]) (rest := []) ⟨hx, hb, hml, hown, hts⟩ (c_X0_add l D cI (a_t 3) a_t_3 S_t_3 l1 _ h45) gX6_letter_X0_add rfl rfl rfl hdX0_add ⟨by decide, by decide⟩ hK hPc hDc 0 rfl rfl rfl hl.1 rfl (Nat.le_of_ble_eq_true rfl) dX6_letter_45 ⟨Nat.zero_le _, Nat.zero_le _⟩) hP hD hS hA [2, 3] [0, 1] [0, 1, 2, 3] (wr := gX6 o_t a_t cI S_t) (wn := gX6 o_t a_t cI S_t ++ gX0 (a_t 3) a_t_3 cI u45) rfl rfl (by decide) (by decide) rfl (by decide) (fun H locs hP hD hS => ?_)
      have hP : va_P D vwCl (gX6 o_t a_t cI S_t ++ gX0 (a_t 3) a_t_3 cI u45) H := hP
      have hD : va_D A (gX6 o_t a_t cI S_t ++ gX0 (a_t 3) a_t_3 cI u45) := hD
      refine W.eq (g2 := F0 m 48 ls []) rfl ?_
      refine lv_aload_n hx hb dX6_letter_48 rfl (lv_at hl 1 rfl) ?_
      refine va_get (D := D) (ci := 6) (v := .ref (a_t 3)) (C := RX6) (T := TX6) (N := 9) hx hb hts hinX6 hown hK hP 0 rfl rfl 3 (by decide) (hts (.fieldLink RX6 22 "OnlyStrangersHear" "letters" "LOnlyStrangersHear$Letters;") (by decide +kernel)) (fun _ h9 => h9) rfl dX6_letter_49 ?_
      refine va_get (D := D) (ci := 0) (v := .int (u45.1 2)) (C := RX0) (T := TX0) (N := 3) hx hb hts hinX0 hown hK hP 2 rfl rfl 2 (by decide) (hts (.fieldLink RX6 62 "OnlyStrangersHear$Letters" "told" "I") (by decide +kernel)) (fun _ h9 => h9) rfl dX6_letter_52 ?_
      have e := so_some hf
      subst e
      exact ri hx hb hK hr hlk hQ dX6_letter_55 hP hD hS
    · replace hf := it_f c31 hf
      refine lv_aload_n hx hb dX6_letter_34 rfl (lv_at hl 1 rfl) ?_
      refine lv_iload_n hx hb dX6_letter_35 rfl (lv_at hl 0 rfl) ?_
      obtain ⟨r36, u36, h36, hf⟩ := bd_some hf
      have hPc := hP.sub (ws' := gX6 o_t a_t cI S_t) [0, 1] rfl
      have hDc := hD.sub (ws' := gX6 o_t a_t cI S_t) [0, 1] (by decide) rfl
      refine calX (runV E0.b E0.n (As := [.int r26]) (rest := []) ⟨hx, hb, hml, hown, hts⟩ (c_X6_refused l D cI o_t a_t S_t r26 _ h36) gX6_letter_X6_refused rfl rfl rfl hdX6_refused ⟨by decide, by decide⟩ hK hPc hDc 0 rfl rfl rfl hl.1 rfl (Nat.le_of_ble_eq_true rfl) dX6_letter_36 ⟨Nat.zero_le _, Nat.zero_le _⟩) hP hD hS hA [0, 1] [2, 3] [2, 3, 0, 1] (wr := gX0 (a_t 3) a_t_3 cI S_t_3) (wn := gX6 o_t a_t cI u36 ++ gX0 (a_t 3) a_t_3 cI S_t_3) rfl rfl (by decide) (by decide) rfl (by decide) (fun H locs hP hD hS => ?_)
      have hP : va_P D vwCl (gX6 o_t a_t cI u36 ++ gX0 (a_t 3) a_t_3 cI S_t_3) H := hP
      have hD : va_D A (gX6 o_t a_t cI u36 ++ gX0 (a_t 3) a_t_3 cI S_t_3) := hD
      refine W.eq (g2 := F0 m 39 ls [.int r36]) rfl ?_
      have e := so_some hf
      subst e
      exact ri hx hb hK hr hlk hQ dX6_letter_39 hP hD hS
  unfold f_X6_letter at hf
  have hl : lv_has ls 3 [(0, .ref o_t), (1, .int x1)] := hl
  obtain ⟨H, hHe⟩ : ∃ H : Heap, H = s.heap := ⟨_, rfl⟩
  obtain ⟨locs, hle⟩ : ∃ q : List Loc, q = [] := ⟨_, rfl⟩
  have hS : va_S A s.heap H locs := by rw [hHe, hle]; exact hS
  rw [← hHe] at hP
  suffices hgo : W p l e rmX6_letter s m ([.ref o_t, .int x1] : List Value).toArray below meth c H locs 0 0 Q (F0 m 0 ls []) by rw [hHe, hle] at hgo; exact hgo
  clear hHe hle
  refine lv_iload_n hx hb dX6_letter_0 rfl (lv_at hl 1 rfl) ?_
  refine lv_iconst (v := (0 : Int32)) hx hb dX6_letter_1 (by decide) ?_
  refine lv_sipush (v := (255 : Int32)) hx hb dX6_letter_2 (by decide) ?_
  obtain ⟨r5, u5, h5, hf⟩ := bd_some hf
  have hPc : va_P D vwCl [] H := hP.sub (ws' := []) [] rfl
  have hDc : va_D A [] := hD.sub (ws' := []) [] (by decide) rfl
  refine calXe (runS E0.b E0.n (As := [.int x1, .int (0 : Int32), .int (255 : Int32)]) (rest := []) ⟨hx, hb, hml, hown, hts⟩ (c_X6_range l D cI x1 (0 : Int32) (255 : Int32) _ h5) gX6_letter_X6_range rfl rfl rfl hdX6_range ⟨by decide, by decide⟩ hK hPc hDc rfl hl.1 rfl (Nat.le_of_ble_eq_true rfl) dX6_letter_5 ⟨Nat.zero_le _, Nat.zero_le _⟩) hP hD hS hA (fun H locs hP hD hS => ?_)
  have hP : va_P D vwCl (gX6 o_t a_t cI S_t ++ gX0 (a_t 3) a_t_3 cI S_t_3) H := hP
  have hD : va_D A (gX6 o_t a_t cI S_t ++ gX0 (a_t 3) a_t_3 cI S_t_3) := hD
  refine W.eq (g2 := F0 m 8 ls [.int r5]) rfl ?_
  refine lv_aload_n hx hb dX6_letter_8 rfl (lv_at hl 0 rfl) ?_
  refine va_get (D := D) (ci := 6) (v := .ref (a_t 3)) (C := RX6) (T := TX6) (N := 9) hx hb hts hinX6 hown hK hP 0 rfl rfl 3 (by decide) (hts (.fieldLink RX6 22 "OnlyStrangersHear" "letters" "LOnlyStrangersHear$Letters;") (by decide +kernel)) (fun _ h9 => h9) rfl dX6_letter_9 ?_
  refine va_get (D := D) (ci := 0) (v := .int (S_t_3.1 2)) (C := RX0) (T := TX0) (N := 3) hx hb hts hinX0 hown hK hP 2 rfl rfl 2 (by decide) (hts (.fieldLink RX6 62 "OnlyStrangersHear$Letters" "told" "I") (by decide +kernel)) (fun _ h9 => h9) rfl dX6_letter_12 ?_
  refine lv_bipush (v := (96 : Int32)) hx hb dX6_letter_15 (by decide) ?_
  refine lv_icmp_ge (tgt := 24) hx hb dX6_letter_17 (by decide) (fun c17 => ?_) (fun c17 => ?_)
  · replace hf := it_t c17 hf
    refine lv_bipush (v := (-6 : Int32)) hx hb dX6_letter_24 (by decide) ?_
    exact j26 S_t S_t_3 x1 r5 (-6 : Int32) H locs ls hf hP hD hS (lv_sub hl [0, 1] rfl)
  · replace hf := it_f c17 hf
    refine lv_iconst (v := (0 : Int32)) hx hb dX6_letter_20 (by decide) ?_
    refine lv_goto (tgt := 26) hx hb dX6_letter_21 (by decide) ?_
    exact j26 S_t S_t_3 x1 r5 (0 : Int32) H locs ls hf hP hD hS (lv_sub hl [0, 1] rfl)
abbrev rmX6_town : Room := { frames := 7, cells := 0, slots := 0, locals := 160 }
set_option maxHeartbeats 4000000 in
set_option maxRecDepth 100000 in
theorem c_X6_town (l : Launch) (D : va_G) (cI : ClassId) (o_t : Nat) (a_t : Nat → Nat) (a_t_0 : Nat → Nat) (a_t_3 : Nat → Nat) (a_t_3_1 : Nat → Nat) (S_t : G) (S_t_0 : G) (S_t_3 : G) (S_t_3_1 : G) (out : Int32 × G × G × G × G) (hf : f_X6_town S_t S_t_0 S_t_3 S_t_3_1 = some out) : Cn EX l yX6_town wsX6_town rmX6_town D cI [.ref o_t] (gX6 o_t a_t cI S_t ++ (gX4 (a_t 0) a_t_0 cI S_t_0 ++ (gX0 (a_t 3) a_t_3 cI S_t_3 ++ gX4 (a_t_3 1) a_t_3_1 cI S_t_3_1))) (some (.int out.1)) (gX6 o_t a_t cI out.2.1 ++ (gX4 (a_t 0) a_t_0 cI out.2.2.1 ++ (gX0 (a_t 3) a_t_3 cI out.2.2.2.1 ++ gX4 (a_t_3 1) a_t_3_1 cI out.2.2.2.2))) := by
  refine Cn.mk (cc := cX6_town) (maxL := 2) (ret := (some .int)) (by decide) rfl (Nat.le_of_ble_eq_true rfl) ?_
  intro p e s m below meth c A ls Q hx hb hml hown hts hK hA hP hD hS hl hr hlk hnm hE hQ
  have hown : s.vm.findClass RX6 = some m.cls := hown
  have hinX6 : ∀ w ∈ u_ws RX6 TX6 9, w ∈ wsX6_town := by decide +kernel
  unfold f_X6_town at hf
  have hl : lv_has ls 2 [(0, .ref o_t)] := hl
  obtain ⟨H, hHe⟩ : ∃ H : Heap, H = s.heap := ⟨_, rfl⟩
  obtain ⟨locs, hle⟩ : ∃ q : List Loc, q = [] := ⟨_, rfl⟩
  have hS : va_S A s.heap H locs := by rw [hHe, hle]; exact hS
  rw [← hHe] at hP
  suffices hgo : W p l e rmX6_town s m ([.ref o_t] : List Value).toArray below meth c H locs 0 0 Q (F0 m 0 ls []) by rw [hHe, hle] at hgo; exact hgo
  clear hHe hle
  refine lv_aload_n hx hb dX6_town_0 rfl (lv_at hl 0 rfl) ?_
  refine va_get (D := D) (ci := 6) (v := .ref (a_t 3)) (C := RX6) (T := TX6) (N := 9) hx hb hts hinX6 hown hK hP 0 rfl rfl 3 (by decide) (hts (.fieldLink RX6 22 "OnlyStrangersHear" "letters" "LOnlyStrangersHear$Letters;") (by decide +kernel)) (fun _ h9 => h9) rfl dX6_town_1 ?_
  refine lv_aload_n hx hb dX6_town_4 rfl (lv_at hl 0 rfl) ?_
  refine va_get (D := D) (ci := 6) (v := .ref (a_t 0)) (C := RX6) (T := TX6) (N := 9) hx hb hts hinX6 hown hK hP 0 rfl rfl 0 (by decide) (hts (.fieldLink RX6 10 "OnlyStrangersHear" "now" "LOnlyStrangersHear$Town;") (by decide +kernel)) (fun _ h9 => h9) rfl dX6_town_5 ?_
  obtain ⟨r8, u8, h8, hf⟩ := bd_some hf
  have hPc := hP.sub (ws' := gX0 (a_t 3) a_t_3 cI S_t_3 ++ (gX4 (a_t_3 1) a_t_3_1 cI S_t_3_1 ++ gX4 (a_t 0) a_t_0 cI S_t_0)) [9, 10, 11, 12, 13, 14, 15, 16, 17, 2, 3, 4, 5, 6, 7, 8] rfl
  have hDc := hD.sub (ws' := gX0 (a_t 3) a_t_3 cI S_t_3 ++ (gX4 (a_t_3 1) a_t_3_1 cI S_t_3_1 ++ gX4 (a_t 0) a_t_0 cI S_t_0)) [9, 10, 11, 12, 13, 14, 15, 16, 17, 2, 3, 4, 5, 6, 7, 8] (by decide) rfl
  refine calX (runV EX.b (EX.n hE hS (va_free (wc := gX0 (a_t 3) a_t_3 cI S_t_3 ++ (gX4 (a_t_3 1) a_t_3_1 cI S_t_3_1 ++ gX4 (a_t 0) a_t_0 cI S_t_0)) hD hS hA [9, 10, 11, 12, 13, 14, 15, 16, 17, 2, 3, 4, 5, 6, 7, 8] rfl)) (As := [.ref (a_t 0)]) (rest := []) ⟨hx, hb, hml, hown, hts⟩ (c_X0_tell l D cI (a_t 3) a_t_3 a_t_3_1 (a_t 0) a_t_0 S_t_3 S_t_3_1 S_t_0 _ h8) gX6_town_X0_tell rfl rfl rfl hdX0_tell ⟨by decide, by decide⟩ hK hPc hDc 0 rfl rfl rfl hl.1 rfl (Nat.le_of_ble_eq_true rfl) dX6_town_8 ⟨Nat.zero_le _, Nat.zero_le _⟩) hP hD hS hA [9, 10, 11, 12, 13, 14, 15, 16, 17, 2, 3, 4, 5, 6, 7, 8] [0, 1] [0, 1, 11, 12, 13, 14, 15, 16, 17, 2, 3, 4, 5, 6, 7, 8, 9, 10] (wr := gX6 o_t a_t cI S_t) (wn := gX6 o_t a_t cI S_t ++ (gX4 (a_t 0) a_t_0 cI u8.2.2 ++ (gX0 (a_t 3) a_t_3 cI u8.1 ++ gX4 (a_t_3 1) a_t_3_1 cI u8.2.1))) rfl rfl (by decide) (by decide) rfl (by decide) (fun H locs hP hD hS => ?_)
  have hP : va_P D vwCl (gX6 o_t a_t cI S_t ++ (gX4 (a_t 0) a_t_0 cI u8.2.2 ++ (gX0 (a_t 3) a_t_3 cI u8.1 ++ gX4 (a_t_3 1) a_t_3_1 cI u8.2.1))) H := hP
  have hD : va_D A (gX6 o_t a_t cI S_t ++ (gX4 (a_t 0) a_t_0 cI u8.2.2 ++ (gX0 (a_t 3) a_t_3 cI u8.1 ++ gX4 (a_t_3 1) a_t_3_1 cI u8.2.1))) := hD
  refine W.eq (g2 := F0 m 11 ls [.int r8]) rfl ?_
  refine lv_istore_n (lv' := [(1, .int r8), (0, .ref o_t)]) hx hb dX6_town_11 rfl hl (by decide) rfl (fun ls hl => ?_)
  refine lv_aload_n hx hb dX6_town_12 rfl (lv_at hl 1 rfl) ?_
  refine va_get (D := D) (ci := 6) (v := .ref (a_t 3)) (C := RX6) (T := TX6) (N := 9) hx hb hts hinX6 hown hK hP 0 rfl rfl 3 (by decide) (hts (.fieldLink RX6 22 "OnlyStrangersHear" "letters" "LOnlyStrangersHear$Letters;") (by decide +kernel)) (fun _ h9 => h9) rfl dX6_town_13 ?_
  obtain ⟨r16, u16, h16, hf⟩ := bd_some hf
  have hPc := hP.sub (ws' := gX0 (a_t 3) a_t_3 cI u8.1) [9, 10] rfl
  have hDc := hD.sub (ws' := gX0 (a_t 3) a_t_3 cI u8.1) [9, 10] (by decide) rfl
  refine calX (runV E0.b E0.n (As := []) (rest := []) ⟨hx, hb, hml, hown, hts⟩ (c_X0_forget l D cI (a_t 3) a_t_3 u8.1 _ h16) gX6_town_X0_forget rfl rfl rfl hdX0_forget ⟨by decide, by decide⟩ hK hPc hDc 0 rfl rfl rfl hl.1 rfl (Nat.le_of_ble_eq_true rfl) dX6_town_16 ⟨Nat.zero_le _, Nat.zero_le _⟩) hP hD hS hA [9, 10] [0, 1, 2, 3, 4, 5, 6, 7, 8, 11, 12, 13, 14, 15, 16, 17] [0, 1, 2, 3, 4, 5, 6, 7, 8, 16, 17, 9, 10, 11, 12, 13, 14, 15] (wr := gX6 o_t a_t cI S_t ++ (gX4 (a_t 0) a_t_0 cI u8.2.2 ++ gX4 (a_t_3 1) a_t_3_1 cI u8.2.1)) (wn := gX6 o_t a_t cI S_t ++ (gX4 (a_t 0) a_t_0 cI u8.2.2 ++ (gX0 (a_t 3) a_t_3 cI u16 ++ gX4 (a_t_3 1) a_t_3_1 cI u8.2.1))) rfl rfl (by decide) (by decide) rfl (by decide) (fun H locs hP hD hS => ?_)
  have hP : va_P D vwCl (gX6 o_t a_t cI S_t ++ (gX4 (a_t 0) a_t_0 cI u8.2.2 ++ (gX0 (a_t 3) a_t_3 cI u16 ++ gX4 (a_t_3 1) a_t_3_1 cI u8.2.1))) H := hP
  have hD : va_D A (gX6 o_t a_t cI S_t ++ (gX4 (a_t 0) a_t_0 cI u8.2.2 ++ (gX0 (a_t 3) a_t_3 cI u16 ++ gX4 (a_t_3 1) a_t_3_1 cI u8.2.1))) := hD
  refine W.eq (g2 := F0 m 19 ls []) rfl ?_
  refine lv_iload_n hx hb dX6_town_19 rfl (lv_at hl 0 rfl) ?_
  have e := so_some hf
  subst e
  exact ri hx hb hK hr hlk hQ dX6_town_20 hP hD hS
abbrev rmX6_noBell : Room := { frames := 0, cells := 0, slots := 0, locals := 0 }
set_option maxHeartbeats 4000000 in
set_option maxRecDepth 100000 in
theorem c_X6_noBell (l : Launch) (D : va_G) (cI : ClassId) (o_t : Nat) (a_t : Nat → Nat) (a_t_0 : Nat → Nat) (S_t : G) (S_t_0 : G) (x1 : Int32) (out : Int32 × G × G) (hf : f_X6_noBell S_t S_t_0 x1 = some out) : Cn E0 l yX6_noBell wsX6_noBell rmX6_noBell D cI [.ref o_t, .int x1] (gX6 o_t a_t cI S_t ++ gX4 (a_t 0) a_t_0 cI S_t_0) (some (.int out.1)) (gX6 o_t a_t cI out.2.1 ++ gX4 (a_t 0) a_t_0 cI out.2.2) := by
  refine Cn.mk (cc := cX6_noBell) (maxL := 2) (ret := (some .int)) (by decide) rfl (Nat.le_of_ble_eq_true rfl) ?_
  intro p e s m below meth c A ls Q hx hb hml hown hts hK hA hP hD hS hl hr hlk hnm hE hQ
  have hown : s.vm.findClass RX6 = some m.cls := hown
  have hinX4 : ∀ w ∈ u_ws RX4 TX4 10, w ∈ wsX6_noBell := by decide +kernel
  have hinX6 : ∀ w ∈ u_ws RX6 TX6 9, w ∈ wsX6_noBell := by decide +kernel
  unfold f_X6_noBell at hf
  have hl : lv_has ls 2 [(0, .ref o_t), (1, .int x1)] := hl
  obtain ⟨H, hHe⟩ : ∃ H : Heap, H = s.heap := ⟨_, rfl⟩
  obtain ⟨locs, hle⟩ : ∃ q : List Loc, q = [] := ⟨_, rfl⟩
  have hS : va_S A s.heap H locs := by rw [hHe, hle]; exact hS
  rw [← hHe] at hP
  suffices hgo : W p l e rmX6_noBell s m ([.ref o_t, .int x1] : List Value).toArray below meth c H locs 0 0 Q (F0 m 0 ls []) by rw [hHe, hle] at hgo; exact hgo
  clear hHe hle
  refine lv_iload_n hx hb dX6_noBell_0 rfl (lv_at hl 1 rfl) ?_
  refine lv_if_lt (tgt := 19) hx hb dX6_noBell_1 (by decide) (fun c1 => ?_) (fun c1 => ?_)
  · replace hf := it_t c1 hf
    refine lv_iconst (v := (-1 : Int32)) hx hb dX6_noBell_19 (by decide) ?_
    have e := so_some hf
    subst e
    exact ri hx hb hK hr hlk hQ dX6_noBell_20 hP hD hS
  · replace hf := it_f c1 hf
    refine lv_iload_n hx hb dX6_noBell_4 rfl (lv_at hl 1 rfl) ?_
    refine lv_aload_n hx hb dX6_noBell_5 rfl (lv_at hl 0 rfl) ?_
    refine va_get (D := D) (ci := 6) (v := .ref (a_t 0)) (C := RX6) (T := TX6) (N := 9) hx hb hts hinX6 hown hK hP 0 rfl rfl 0 (by decide) (hts (.fieldLink RX6 10 "OnlyStrangersHear" "now" "LOnlyStrangersHear$Town;") (by decide +kernel)) (fun _ h9 => h9) rfl dX6_noBell_6 ?_
    refine va_get (D := D) (ci := 4) (v := .int (S_t_0.1 0)) (C := RX4) (T := TX4) (N := 10) hx hb hts hinX4 hown hK hP 2 rfl rfl 0 (by decide) (hts (.fieldLink RX6 286 "OnlyStrangersHear$Town" "bells" "I") (by decide +kernel)) (fun _ h9 => h9) rfl dX6_noBell_9 ?_
    refine lv_icmp_ge (tgt := 19) hx hb dX6_noBell_12 (by decide) (fun c12 => ?_) (fun c12 => ?_)
    · replace hf := it_t c12 hf
      refine lv_iconst (v := (-1 : Int32)) hx hb dX6_noBell_19 (by decide) ?_
      have e := so_some hf
      subst e
      exact ri hx hb hK hr hlk hQ dX6_noBell_20 hP hD hS
    · replace hf := it_f c12 hf
      refine lv_iconst (v := (0 : Int32)) hx hb dX6_noBell_15 (by decide) ?_
      refine lv_goto (tgt := 20) hx hb dX6_noBell_16 (by decide) ?_
      have e := so_some hf
      subst e
      exact ri hx hb hK hr hlk hQ dX6_noBell_20 hP hD hS
abbrev rmX6_bell : Room := { frames := 3, cells := 0, slots := 0, locals := 66 }
set_option maxHeartbeats 4000000 in
set_option maxRecDepth 100000 in
theorem c_X6_bell (l : Launch) (D : va_G) (cI : ClassId) (o_t : Nat) (a_t : Nat → Nat) (a_t_0 : Nat → Nat) (S_t : G) (S_t_0 : G) (x1 : Int32) (x2 : Int32) (out : Int32 × G × G) (hf : f_X6_bell S_t S_t_0 x1 x2 = some out) : Cn E0 l yX6_bell wsX6_bell rmX6_bell D cI [.ref o_t, .int x1, .int x2] (gX6 o_t a_t cI S_t ++ gX4 (a_t 0) a_t_0 cI S_t_0) (some (.int out.1)) (gX6 o_t a_t cI out.2.1 ++ gX4 (a_t 0) a_t_0 cI out.2.2) := by
  refine Cn.mk (cc := cX6_bell) (maxL := 4) (ret := (some .int)) (by decide) rfl (Nat.le_of_ble_eq_true rfl) ?_
  intro p e s m below meth c A ls Q hx hb hml hown hts hK hA hP hD hS hl hr hlk hnm hE hQ
  have hown : s.vm.findClass RX6 = some m.cls := hown
  have hinX4 : ∀ w ∈ u_ws RX4 TX4 10, w ∈ wsX6_bell := by decide +kernel
  have hinX6 : ∀ w ∈ u_ws RX6 TX6 9, w ∈ wsX6_bell := by decide +kernel
  unfold f_X6_bell at hf
  have hl : lv_has ls 4 [(0, .ref o_t), (1, .int x1), (2, .int x2)] := hl
  obtain ⟨H, hHe⟩ : ∃ H : Heap, H = s.heap := ⟨_, rfl⟩
  obtain ⟨locs, hle⟩ : ∃ q : List Loc, q = [] := ⟨_, rfl⟩
  have hS : va_S A s.heap H locs := by rw [hHe, hle]; exact hS
  rw [← hHe] at hP
  suffices hgo : W p l e rmX6_bell s m ([.ref o_t, .int x1, .int x2] : List Value).toArray below meth c H locs 0 0 Q (F0 m 0 ls []) by rw [hHe, hle] at hgo; exact hgo
  clear hHe hle
  refine lv_aload_n hx hb dX6_bell_0 rfl (lv_at hl 0 rfl) ?_
  refine lv_iload_n hx hb dX6_bell_1 rfl (lv_at hl 1 rfl) ?_
  obtain ⟨r2, u2, h2, hf⟩ := bd_some hf
  refine calX0 (runV E0.b E0.n (As := [.int x1]) (rest := []) ⟨hx, hb, hml, hown, hts⟩ (c_X6_noBell l D cI o_t a_t a_t_0 S_t S_t_0 x1 _ h2) gX6_bell_X6_noBell rfl rfl rfl hdX6_noBell ⟨by decide, by decide⟩ hK hP hD 0 rfl rfl rfl hl.1 rfl (Nat.le_of_ble_eq_true rfl) dX6_bell_2 ⟨Nat.zero_le _, Nat.zero_le _⟩) hD hS hA (fun H locs hP hD hS => ?_)
  have hP : va_P D vwCl (gX6 o_t a_t cI u2.1 ++ gX4 (a_t 0) a_t_0 cI u2.2) H := hP
  have hD : va_D A (gX6 o_t a_t cI u2.1 ++ gX4 (a_t 0) a_t_0 cI u2.2) := hD
  refine W.eq (g2 := F0 m 5 ls [.int r2]) rfl ?_
  refine lv_iload_n hx hb dX6_bell_5 rfl (lv_at hl 2 rfl) ?_
  refine lv_iconst (v := (4 : Int32)) hx hb dX6_bell_6 (by decide) ?_
  obtain ⟨r7, u7, h7, hf⟩ := bd_some hf
  have hPc : va_P D vwCl [] H := hP.sub (ws' := []) [] rfl
  have hDc : va_D A [] := hD.sub (ws' := []) [] (by decide) rfl
  refine calXe (runS E0.b E0.n (As := [.int x2, .int (4 : Int32)]) (rest := [.int r2]) ⟨hx, hb, hml, hown, hts⟩ (c_X6_choice l D cI x2 (4 : Int32) _ h7) gX6_bell_X6_choice rfl rfl rfl hdX6_choice ⟨by decide, by decide⟩ hK hPc hDc rfl hl.1 rfl (Nat.le_of_ble_eq_true rfl) dX6_bell_7 ⟨Nat.zero_le _, Nat.zero_le _⟩) hP hD hS hA (fun H locs hP hD hS => ?_)
  have hP : va_P D vwCl (gX6 o_t a_t cI u2.1 ++ gX4 (a_t 0) a_t_0 cI u2.2) H := hP
  have hD : va_D A (gX6 o_t a_t cI u2.1 ++ gX4 (a_t 0) a_t_0 cI u2.2) := hD
  refine W.eq (g2 := F0 m 10 ls [.int r7, .int r2]) rfl ?_
  obtain ⟨r10, u10, h10, hf⟩ := bd_some hf
  have hPc : va_P D vwCl [] H := hP.sub (ws' := []) [] rfl
  have hDc : va_D A [] := hD.sub (ws' := []) [] (by decide) rfl
  refine calXe (runS E0.b E0.n (As := [.int r2, .int r7]) (rest := []) ⟨hx, hb, hml, hown, hts⟩ (c_X6_first l D cI r2 r7 _ h10) gX6_bell_X6_first rfl rfl rfl hdX6_first ⟨by decide, by decide⟩ hK hPc hDc rfl hl.1 rfl (Nat.le_of_ble_eq_true rfl) dX6_bell_10 ⟨Nat.zero_le _, Nat.zero_le _⟩) hP hD hS hA (fun H locs hP hD hS => ?_)
  have hP : va_P D vwCl (gX6 o_t a_t cI u2.1 ++ gX4 (a_t 0) a_t_0 cI u2.2) H := hP
  have hD : va_D A (gX6 o_t a_t cI u2.1 ++ gX4 (a_t 0) a_t_0 cI u2.2) := hD
  refine W.eq (g2 := F0 m 13 ls [.int r10]) rfl ?_
  refine lv_istore_n (lv' := [(3, .int r10), (0, .ref o_t), (1, .int x1), (2, .int x2)]) hx hb dX6_bell_13 rfl hl (by decide) rfl (fun ls hl => ?_)
  refine lv_iload_n hx hb dX6_bell_14 rfl (lv_at hl 0 rfl) ?_
  refine lv_if_eq (tgt := 24) hx hb dX6_bell_15 (by decide) (fun c15 => ?_) (fun c15 => ?_)
  · replace hf := it_t c15 hf
    refine lv_iload_n hx hb dX6_bell_24 rfl (lv_at hl 3 rfl) ?_
    by_cases ck0 : x2 = (0 : Int32)
    · replace hf := it_t ck0 hf
      refine lv_tableIn (off := 27) (tgt := 52) hx hb dX6_bell_25 (by rw [ck0]; decide) (by rw [ck0]; decide) (by rw [ck0]; decide) (by decide) ?_
      refine lv_aload_n hx hb dX6_bell_52 rfl (lv_at hl 1 rfl) ?_
      refine va_get (D := D) (ci := 6) (v := .ref (a_t 0)) (C := RX6) (T := TX6) (N := 9) hx hb hts hinX6 hown hK hP 0 rfl rfl 0 (by decide) (hts (.fieldLink RX6 10 "OnlyStrangersHear" "now" "LOnlyStrangersHear$Town;") (by decide +kernel)) (fun _ h9 => h9) rfl dX6_bell_53 ?_
      refine va_get (D := D) (ci := 4) (v := .ref (a_t_0 1)) (C := RX4) (T := TX4) (N := 10) hx hb hts hinX4 hown hK hP 2 rfl rfl 1 (by decide) (hts (.fieldLink RX6 91 "OnlyStrangersHear$Town" "hour" "[I") (by decide +kernel)) (fun _ h9 => h9) rfl dX6_bell_56 ?_
      refine lv_iload_n hx hb dX6_bell_59 rfl (lv_at hl 2 rfl) ?_
      obtain ⟨b60, hf⟩ := ck_some hf
      refine va_iald hx hb hK hP 3 0 rfl rfl b60 dX6_bell_60 ?_
      have e := so_some hf
      subst e
      exact ri hx hb hK hr hlk hQ dX6_bell_61 hP hD hS
    · replace hf := it_f ck0 hf
      by_cases ck1 : x2 = (1 : Int32)
      · replace hf := it_t ck1 hf
        refine lv_tableIn (off := 37) (tgt := 62) hx hb dX6_bell_25 (by rw [ck1]; decide) (by rw [ck1]; decide) (by rw [ck1]; decide) (by decide) ?_
        refine lv_aload_n hx hb dX6_bell_62 rfl (lv_at hl 1 rfl) ?_
        refine va_get (D := D) (ci := 6) (v := .ref (a_t 0)) (C := RX6) (T := TX6) (N := 9) hx hb hts hinX6 hown hK hP 0 rfl rfl 0 (by decide) (hts (.fieldLink RX6 10 "OnlyStrangersHear" "now" "LOnlyStrangersHear$Town;") (by decide +kernel)) (fun _ h9 => h9) rfl dX6_bell_63 ?_
        refine va_get (D := D) (ci := 4) (v := .ref (a_t_0 2)) (C := RX4) (T := TX4) (N := 10) hx hb hts hinX4 hown hK hP 2 rfl rfl 2 (by decide) (hts (.fieldLink RX6 94 "OnlyStrangersHear$Town" "every" "[I") (by decide +kernel)) (fun _ h9 => h9) rfl dX6_bell_66 ?_
        refine lv_iload_n hx hb dX6_bell_69 rfl (lv_at hl 2 rfl) ?_
        obtain ⟨b70, hf⟩ := ck_some hf
        refine va_iald hx hb hK hP 4 0 rfl rfl b70 dX6_bell_70 ?_
        have e := so_some hf
        subst e
        exact ri hx hb hK hr hlk hQ dX6_bell_71 hP hD hS
      · replace hf := it_f ck1 hf
        by_cases ck2 : x2 = (2 : Int32)
        · replace hf := it_t ck2 hf
          refine lv_tableIn (off := 47) (tgt := 72) hx hb dX6_bell_25 (by rw [ck2]; decide) (by rw [ck2]; decide) (by rw [ck2]; decide) (by decide) ?_
          refine lv_aload_n hx hb dX6_bell_72 rfl (lv_at hl 1 rfl) ?_
          refine va_get (D := D) (ci := 6) (v := .ref (a_t 0)) (C := RX6) (T := TX6) (N := 9) hx hb hts hinX6 hown hK hP 0 rfl rfl 0 (by decide) (hts (.fieldLink RX6 10 "OnlyStrangersHear" "now" "LOnlyStrangersHear$Town;") (by decide +kernel)) (fun _ h9 => h9) rfl dX6_bell_73 ?_
          refine lv_iload_n hx hb dX6_bell_76 rfl (lv_at hl 2 rfl) ?_
          obtain ⟨r77, u77, h77, hf⟩ := bd_some hf
          have hPc := hP.sub (ws' := gX4 (a_t 0) a_t_0 cI u2.2) [2, 3, 4, 5, 6, 7, 8] rfl
          have hDc := hD.sub (ws' := gX4 (a_t 0) a_t_0 cI u2.2) [2, 3, 4, 5, 6, 7, 8] (by decide) rfl
          refine calX (runV E0.b E0.n (As := [.int x1]) (rest := []) ⟨hx, hb, hml, hown, hts⟩ (c_X4_hearersOf l D cI (a_t 0) a_t_0 u2.2 x1 _ h77) gX6_bell_X4_hearersOf rfl rfl rfl hdX4_hearersOf ⟨by decide, by decide⟩ hK hPc hDc 0 rfl rfl rfl hl.1 rfl (Nat.le_of_ble_eq_true rfl) dX6_bell_77 ⟨Nat.zero_le _, Nat.zero_le _⟩) hP hD hS hA [2, 3, 4, 5, 6, 7, 8] [0, 1] [0, 1, 2, 3, 4, 5, 6, 7, 8] (wr := gX6 o_t a_t cI u2.1) (wn := gX6 o_t a_t cI u2.1 ++ gX4 (a_t 0) a_t_0 cI u77) rfl rfl (by decide) (by decide) rfl (by decide) (fun H locs hP hD hS => ?_)
          have hP : va_P D vwCl (gX6 o_t a_t cI u2.1 ++ gX4 (a_t 0) a_t_0 cI u77) H := hP
          have hD : va_D A (gX6 o_t a_t cI u2.1 ++ gX4 (a_t 0) a_t_0 cI u77) := hD
          refine W.eq (g2 := F0 m 80 ls [.int r77]) rfl ?_
          have e := so_some hf
          subst e
          exact ri hx hb hK hr hlk hQ dX6_bell_80 hP hD hS
        · replace hf := it_f ck2 hf
          by_cases clo : x2.toInt < 0
          · refine lv_tableOut (tgt := 81) hx hb dX6_bell_25 (Or.inl clo) (by decide) ?_
            refine lv_aload_n hx hb dX6_bell_81 rfl (lv_at hl 1 rfl) ?_
            refine va_get (D := D) (ci := 6) (v := .ref (a_t 0)) (C := RX6) (T := TX6) (N := 9) hx hb hts hinX6 hown hK hP 0 rfl rfl 0 (by decide) (hts (.fieldLink RX6 10 "OnlyStrangersHear" "now" "LOnlyStrangersHear$Town;") (by decide +kernel)) (fun _ h9 => h9) rfl dX6_bell_82 ?_
            refine lv_iload_n hx hb dX6_bell_85 rfl (lv_at hl 2 rfl) ?_
            refine lv_aload_n hx hb dX6_bell_86 rfl (lv_at hl 1 rfl) ?_
            refine va_get (D := D) (ci := 6) (v := .ref (a_t 0)) (C := RX6) (T := TX6) (N := 9) hx hb hts hinX6 hown hK hP 0 rfl rfl 0 (by decide) (hts (.fieldLink RX6 10 "OnlyStrangersHear" "now" "LOnlyStrangersHear$Town;") (by decide +kernel)) (fun _ h9 => h9) rfl dX6_bell_87 ?_
            refine lv_iload_n hx hb dX6_bell_90 rfl (lv_at hl 2 rfl) ?_
            obtain ⟨r91, u91, h91, hf⟩ := bd_some hf
            have hPc := hP.sub (ws' := gX4 (a_t 0) a_t_0 cI u2.2) [2, 3, 4, 5, 6, 7, 8] rfl
            have hDc := hD.sub (ws' := gX4 (a_t 0) a_t_0 cI u2.2) [2, 3, 4, 5, 6, 7, 8] (by decide) rfl
            refine calX (runV E0.b E0.n (As := [.int x1]) (rest := [.int x1, .ref (a_t 0)]) ⟨hx, hb, hml, hown, hts⟩ (c_X4_hearersOf l D cI (a_t 0) a_t_0 u2.2 x1 _ h91) gX6_bell_X4_hearersOf rfl rfl rfl hdX4_hearersOf ⟨by decide, by decide⟩ hK hPc hDc 0 rfl rfl rfl hl.1 rfl (Nat.le_of_ble_eq_true rfl) dX6_bell_91 ⟨Nat.zero_le _, Nat.zero_le _⟩) hP hD hS hA [2, 3, 4, 5, 6, 7, 8] [0, 1] [0, 1, 2, 3, 4, 5, 6, 7, 8] (wr := gX6 o_t a_t cI u2.1) (wn := gX6 o_t a_t cI u2.1 ++ gX4 (a_t 0) a_t_0 cI u91) rfl rfl (by decide) (by decide) rfl (by decide) (fun H locs hP hD hS => ?_)
            have hP : va_P D vwCl (gX6 o_t a_t cI u2.1 ++ gX4 (a_t 0) a_t_0 cI u91) H := hP
            have hD : va_D A (gX6 o_t a_t cI u2.1 ++ gX4 (a_t 0) a_t_0 cI u91) := hD
            refine W.eq (g2 := F0 m 94 ls [.int r91, .int x1, .ref (a_t 0)]) rfl ?_
            obtain ⟨r94, u94, h94, hf⟩ := bd_some hf
            have hPc := hP.sub (ws' := gX4 (a_t 0) a_t_0 cI u91) [2, 3, 4, 5, 6, 7, 8] rfl
            have hDc := hD.sub (ws' := gX4 (a_t 0) a_t_0 cI u91) [2, 3, 4, 5, 6, 7, 8] (by decide) rfl
            refine calX (runV E0.b E0.n (As := [.int x1, .int r91]) (rest := []) ⟨hx, hb, hml, hown, hts⟩ (c_X4_saidOf l D cI (a_t 0) a_t_0 u91 x1 r91 _ h94) gX6_bell_X4_saidOf rfl rfl rfl hdX4_saidOf ⟨by decide, by decide⟩ hK hPc hDc 0 rfl rfl rfl hl.1 rfl (Nat.le_of_ble_eq_true rfl) dX6_bell_94 ⟨Nat.zero_le _, Nat.zero_le _⟩) hP hD hS hA [2, 3, 4, 5, 6, 7, 8] [0, 1] [0, 1, 2, 3, 4, 5, 6, 7, 8] (wr := gX6 o_t a_t cI u2.1) (wn := gX6 o_t a_t cI u2.1 ++ gX4 (a_t 0) a_t_0 cI u94) rfl rfl (by decide) (by decide) rfl (by decide) (fun H locs hP hD hS => ?_)
            have hP : va_P D vwCl (gX6 o_t a_t cI u2.1 ++ gX4 (a_t 0) a_t_0 cI u94) H := hP
            have hD : va_D A (gX6 o_t a_t cI u2.1 ++ gX4 (a_t 0) a_t_0 cI u94) := hD
            refine W.eq (g2 := F0 m 97 ls [.int r94]) rfl ?_
            have e := so_some hf
            subst e
            exact ri hx hb hK hr hlk hQ dX6_bell_97 hP hD hS
          by_cases chi : 2 < x2.toInt
          · refine lv_tableOut (tgt := 81) hx hb dX6_bell_25 (Or.inr chi) (by decide) ?_
            refine lv_aload_n hx hb dX6_bell_81 rfl (lv_at hl 1 rfl) ?_
            refine va_get (D := D) (ci := 6) (v := .ref (a_t 0)) (C := RX6) (T := TX6) (N := 9) hx hb hts hinX6 hown hK hP 0 rfl rfl 0 (by decide) (hts (.fieldLink RX6 10 "OnlyStrangersHear" "now" "LOnlyStrangersHear$Town;") (by decide +kernel)) (fun _ h9 => h9) rfl dX6_bell_82 ?_
            refine lv_iload_n hx hb dX6_bell_85 rfl (lv_at hl 2 rfl) ?_
            refine lv_aload_n hx hb dX6_bell_86 rfl (lv_at hl 1 rfl) ?_
            refine va_get (D := D) (ci := 6) (v := .ref (a_t 0)) (C := RX6) (T := TX6) (N := 9) hx hb hts hinX6 hown hK hP 0 rfl rfl 0 (by decide) (hts (.fieldLink RX6 10 "OnlyStrangersHear" "now" "LOnlyStrangersHear$Town;") (by decide +kernel)) (fun _ h9 => h9) rfl dX6_bell_87 ?_
            refine lv_iload_n hx hb dX6_bell_90 rfl (lv_at hl 2 rfl) ?_
            obtain ⟨r91, u91, h91, hf⟩ := bd_some hf
            have hPc := hP.sub (ws' := gX4 (a_t 0) a_t_0 cI u2.2) [2, 3, 4, 5, 6, 7, 8] rfl
            have hDc := hD.sub (ws' := gX4 (a_t 0) a_t_0 cI u2.2) [2, 3, 4, 5, 6, 7, 8] (by decide) rfl
            refine calX (runV E0.b E0.n (As := [.int x1]) (rest := [.int x1, .ref (a_t 0)]) ⟨hx, hb, hml, hown, hts⟩ (c_X4_hearersOf l D cI (a_t 0) a_t_0 u2.2 x1 _ h91) gX6_bell_X4_hearersOf rfl rfl rfl hdX4_hearersOf ⟨by decide, by decide⟩ hK hPc hDc 0 rfl rfl rfl hl.1 rfl (Nat.le_of_ble_eq_true rfl) dX6_bell_91 ⟨Nat.zero_le _, Nat.zero_le _⟩) hP hD hS hA [2, 3, 4, 5, 6, 7, 8] [0, 1] [0, 1, 2, 3, 4, 5, 6, 7, 8] (wr := gX6 o_t a_t cI u2.1) (wn := gX6 o_t a_t cI u2.1 ++ gX4 (a_t 0) a_t_0 cI u91) rfl rfl (by decide) (by decide) rfl (by decide) (fun H locs hP hD hS => ?_)
            have hP : va_P D vwCl (gX6 o_t a_t cI u2.1 ++ gX4 (a_t 0) a_t_0 cI u91) H := hP
            have hD : va_D A (gX6 o_t a_t cI u2.1 ++ gX4 (a_t 0) a_t_0 cI u91) := hD
            refine W.eq (g2 := F0 m 94 ls [.int r91, .int x1, .ref (a_t 0)]) rfl ?_
            obtain ⟨r94, u94, h94, hf⟩ := bd_some hf
            have hPc := hP.sub (ws' := gX4 (a_t 0) a_t_0 cI u91) [2, 3, 4, 5, 6, 7, 8] rfl
            have hDc := hD.sub (ws' := gX4 (a_t 0) a_t_0 cI u91) [2, 3, 4, 5, 6, 7, 8] (by decide) rfl
            refine calX (runV E0.b E0.n (As := [.int x1, .int r91]) (rest := []) ⟨hx, hb, hml, hown, hts⟩ (c_X4_saidOf l D cI (a_t 0) a_t_0 u91 x1 r91 _ h94) gX6_bell_X4_saidOf rfl rfl rfl hdX4_saidOf ⟨by decide, by decide⟩ hK hPc hDc 0 rfl rfl rfl hl.1 rfl (Nat.le_of_ble_eq_true rfl) dX6_bell_94 ⟨Nat.zero_le _, Nat.zero_le _⟩) hP hD hS hA [2, 3, 4, 5, 6, 7, 8] [0, 1] [0, 1, 2, 3, 4, 5, 6, 7, 8] (wr := gX6 o_t a_t cI u2.1) (wn := gX6 o_t a_t cI u2.1 ++ gX4 (a_t 0) a_t_0 cI u94) rfl rfl (by decide) (by decide) rfl (by decide) (fun H locs hP hD hS => ?_)
            have hP : va_P D vwCl (gX6 o_t a_t cI u2.1 ++ gX4 (a_t 0) a_t_0 cI u94) H := hP
            have hD : va_D A (gX6 o_t a_t cI u2.1 ++ gX4 (a_t 0) a_t_0 cI u94) := hD
            refine W.eq (g2 := F0 m 97 ls [.int r94]) rfl ?_
            have e := so_some hf
            subst e
            exact ri hx hb hK hr hlk hQ dX6_bell_97 hP hD hS
          exact (sw_no (x := x2) (lo := 0) (hi := 2) clo chi (ks := [0, 1, 2]) (by decide) (List.forall_mem_cons.mpr ⟨lv_neT (k := 0) (a := 0) ck0 (by decide), (List.forall_mem_cons.mpr ⟨lv_neT (k := 1) (a := 1) ck1 (by decide), (List.forall_mem_cons.mpr ⟨lv_neT (k := 2) (a := 2) ck2 (by decide), (fun _ h => absurd h List.not_mem_nil)⟩)⟩)⟩)).elim
  · replace hf := it_f c15 hf
    refine lv_aload_n hx hb dX6_bell_18 rfl (lv_at hl 1 rfl) ?_
    refine lv_iload_n hx hb dX6_bell_19 rfl (lv_at hl 0 rfl) ?_
    obtain ⟨r20, u20, h20, hf⟩ := bd_some hf
    have hPc := hP.sub (ws' := gX6 o_t a_t cI u2.1) [0, 1] rfl
    have hDc := hD.sub (ws' := gX6 o_t a_t cI u2.1) [0, 1] (by decide) rfl
    refine calX (runV E0.b E0.n (As := [.int r10]) (rest := []) ⟨hx, hb, hml, hown, hts⟩ (c_X6_refused l D cI o_t a_t u2.1 r10 _ h20) gX6_bell_X6_refused rfl rfl rfl hdX6_refused ⟨by decide, by decide⟩ hK hPc hDc 0 rfl rfl rfl hl.1 rfl (Nat.le_of_ble_eq_true rfl) dX6_bell_20 ⟨Nat.zero_le _, Nat.zero_le _⟩) hP hD hS hA [0, 1] [2, 3, 4, 5, 6, 7, 8] [7, 8, 0, 1, 2, 3, 4, 5, 6] (wr := gX4 (a_t 0) a_t_0 cI u2.2) (wn := gX6 o_t a_t cI u20 ++ gX4 (a_t 0) a_t_0 cI u2.2) rfl rfl (by decide) (by decide) rfl (by decide) (fun H locs hP hD hS => ?_)
    have hP : va_P D vwCl (gX6 o_t a_t cI u20 ++ gX4 (a_t 0) a_t_0 cI u2.2) H := hP
    have hD : va_D A (gX6 o_t a_t cI u20 ++ gX4 (a_t 0) a_t_0 cI u2.2) := hD
    refine W.eq (g2 := F0 m 23 ls [.int r20]) rfl ?_
    have e := so_some hf
    subst e
    exact ri hx hb hK hr hlk hQ dX6_bell_23 hP hD hS
abbrev rmX6_noPerson : Room := { frames := 0, cells := 0, slots := 0, locals := 0 }
set_option maxHeartbeats 4000000 in
set_option maxRecDepth 100000 in
theorem c_X6_noPerson (l : Launch) (D : va_G) (cI : ClassId) (o_t : Nat) (a_t : Nat → Nat) (a_t_0 : Nat → Nat) (S_t : G) (S_t_0 : G) (x1 : Int32) (out : Int32 × G × G) (hf : f_X6_noPerson S_t S_t_0 x1 = some out) : Cn E0 l yX6_noPerson wsX6_noPerson rmX6_noPerson D cI [.ref o_t, .int x1] (gX6 o_t a_t cI S_t ++ gX4 (a_t 0) a_t_0 cI S_t_0) (some (.int out.1)) (gX6 o_t a_t cI out.2.1 ++ gX4 (a_t 0) a_t_0 cI out.2.2) := by
  refine Cn.mk (cc := cX6_noPerson) (maxL := 2) (ret := (some .int)) (by decide) rfl (Nat.le_of_ble_eq_true rfl) ?_
  intro p e s m below meth c A ls Q hx hb hml hown hts hK hA hP hD hS hl hr hlk hnm hE hQ
  have hown : s.vm.findClass RX6 = some m.cls := hown
  have hinX4 : ∀ w ∈ u_ws RX4 TX4 10, w ∈ wsX6_noPerson := by decide +kernel
  have hinX6 : ∀ w ∈ u_ws RX6 TX6 9, w ∈ wsX6_noPerson := by decide +kernel
  unfold f_X6_noPerson at hf
  have hl : lv_has ls 2 [(0, .ref o_t), (1, .int x1)] := hl
  obtain ⟨H, hHe⟩ : ∃ H : Heap, H = s.heap := ⟨_, rfl⟩
  obtain ⟨locs, hle⟩ : ∃ q : List Loc, q = [] := ⟨_, rfl⟩
  have hS : va_S A s.heap H locs := by rw [hHe, hle]; exact hS
  rw [← hHe] at hP
  suffices hgo : W p l e rmX6_noPerson s m ([.ref o_t, .int x1] : List Value).toArray below meth c H locs 0 0 Q (F0 m 0 ls []) by rw [hHe, hle] at hgo; exact hgo
  clear hHe hle
  refine lv_iload_n hx hb dX6_noPerson_0 rfl (lv_at hl 1 rfl) ?_
  refine lv_if_lt (tgt := 19) hx hb dX6_noPerson_1 (by decide) (fun c1 => ?_) (fun c1 => ?_)
  · replace hf := it_t c1 hf
    refine lv_iconst (v := (-1 : Int32)) hx hb dX6_noPerson_19 (by decide) ?_
    have e := so_some hf
    subst e
    exact ri hx hb hK hr hlk hQ dX6_noPerson_20 hP hD hS
  · replace hf := it_f c1 hf
    refine lv_iload_n hx hb dX6_noPerson_4 rfl (lv_at hl 1 rfl) ?_
    refine lv_aload_n hx hb dX6_noPerson_5 rfl (lv_at hl 0 rfl) ?_
    refine va_get (D := D) (ci := 6) (v := .ref (a_t 0)) (C := RX6) (T := TX6) (N := 9) hx hb hts hinX6 hown hK hP 0 rfl rfl 0 (by decide) (hts (.fieldLink RX6 10 "OnlyStrangersHear" "now" "LOnlyStrangersHear$Town;") (by decide +kernel)) (fun _ h9 => h9) rfl dX6_noPerson_6 ?_
    refine va_get (D := D) (ci := 4) (v := .int (S_t_0.1 3)) (C := RX4) (T := TX4) (N := 10) hx hb hts hinX4 hown hK hP 2 rfl rfl 3 (by decide) (hts (.fieldLink RX6 250 "OnlyStrangersHear$Town" "people" "I") (by decide +kernel)) (fun _ h9 => h9) rfl dX6_noPerson_9 ?_
    refine lv_icmp_ge (tgt := 19) hx hb dX6_noPerson_12 (by decide) (fun c12 => ?_) (fun c12 => ?_)
    · replace hf := it_t c12 hf
      refine lv_iconst (v := (-1 : Int32)) hx hb dX6_noPerson_19 (by decide) ?_
      have e := so_some hf
      subst e
      exact ri hx hb hK hr hlk hQ dX6_noPerson_20 hP hD hS
    · replace hf := it_f c12 hf
      refine lv_iconst (v := (0 : Int32)) hx hb dX6_noPerson_15 (by decide) ?_
      refine lv_goto (tgt := 20) hx hb dX6_noPerson_16 (by decide) ?_
      have e := so_some hf
      subst e
      exact ri hx hb hK hr hlk hQ dX6_noPerson_20 hP hD hS
abbrev rmX6_person : Room := { frames := 1, cells := 0, slots := 0, locals := 21 }
set_option maxHeartbeats 4000000 in
set_option maxRecDepth 100000 in
theorem c_X6_person (l : Launch) (D : va_G) (cI : ClassId) (o_t : Nat) (a_t : Nat → Nat) (a_t_0 : Nat → Nat) (S_t : G) (S_t_0 : G) (x1 : Int32) (x2 : Int32) (out : Int32 × G × G) (hf : f_X6_person S_t S_t_0 x1 x2 = some out) : Cn E0 l yX6_person wsX6_person rmX6_person D cI [.ref o_t, .int x1, .int x2] (gX6 o_t a_t cI S_t ++ gX4 (a_t 0) a_t_0 cI S_t_0) (some (.int out.1)) (gX6 o_t a_t cI out.2.1 ++ gX4 (a_t 0) a_t_0 cI out.2.2) := by
  refine Cn.mk (cc := cX6_person) (maxL := 4) (ret := (some .int)) (by decide) rfl (Nat.le_of_ble_eq_true rfl) ?_
  intro p e s m below meth c A ls Q hx hb hml hown hts hK hA hP hD hS hl hr hlk hnm hE hQ
  have hown : s.vm.findClass RX6 = some m.cls := hown
  have hinX4 : ∀ w ∈ u_ws RX4 TX4 10, w ∈ wsX6_person := by decide +kernel
  have hinX6 : ∀ w ∈ u_ws RX6 TX6 9, w ∈ wsX6_person := by decide +kernel
  unfold f_X6_person at hf
  have hl : lv_has ls 4 [(0, .ref o_t), (1, .int x1), (2, .int x2)] := hl
  obtain ⟨H, hHe⟩ : ∃ H : Heap, H = s.heap := ⟨_, rfl⟩
  obtain ⟨locs, hle⟩ : ∃ q : List Loc, q = [] := ⟨_, rfl⟩
  have hS : va_S A s.heap H locs := by rw [hHe, hle]; exact hS
  rw [← hHe] at hP
  suffices hgo : W p l e rmX6_person s m ([.ref o_t, .int x1, .int x2] : List Value).toArray below meth c H locs 0 0 Q (F0 m 0 ls []) by rw [hHe, hle] at hgo; exact hgo
  clear hHe hle
  refine lv_aload_n hx hb dX6_person_0 rfl (lv_at hl 0 rfl) ?_
  refine lv_iload_n hx hb dX6_person_1 rfl (lv_at hl 1 rfl) ?_
  obtain ⟨r2, u2, h2, hf⟩ := bd_some hf
  refine calX0 (runV E0.b E0.n (As := [.int x1]) (rest := []) ⟨hx, hb, hml, hown, hts⟩ (c_X6_noPerson l D cI o_t a_t a_t_0 S_t S_t_0 x1 _ h2) gX6_person_X6_noPerson rfl rfl rfl hdX6_noPerson ⟨by decide, by decide⟩ hK hP hD 0 rfl rfl rfl hl.1 rfl (Nat.le_of_ble_eq_true rfl) dX6_person_2 ⟨Nat.zero_le _, Nat.zero_le _⟩) hD hS hA (fun H locs hP hD hS => ?_)
  have hP : va_P D vwCl (gX6 o_t a_t cI u2.1 ++ gX4 (a_t 0) a_t_0 cI u2.2) H := hP
  have hD : va_D A (gX6 o_t a_t cI u2.1 ++ gX4 (a_t 0) a_t_0 cI u2.2) := hD
  refine W.eq (g2 := F0 m 5 ls [.int r2]) rfl ?_
  refine lv_iload_n hx hb dX6_person_5 rfl (lv_at hl 2 rfl) ?_
  refine lv_iconst (v := (5 : Int32)) hx hb dX6_person_6 (by decide) ?_
  obtain ⟨r7, u7, h7, hf⟩ := bd_some hf
  have hPc : va_P D vwCl [] H := hP.sub (ws' := []) [] rfl
  have hDc : va_D A [] := hD.sub (ws' := []) [] (by decide) rfl
  refine calXe (runS E0.b E0.n (As := [.int x2, .int (5 : Int32)]) (rest := [.int r2]) ⟨hx, hb, hml, hown, hts⟩ (c_X6_choice l D cI x2 (5 : Int32) _ h7) gX6_person_X6_choice rfl rfl rfl hdX6_choice ⟨by decide, by decide⟩ hK hPc hDc rfl hl.1 rfl (Nat.le_of_ble_eq_true rfl) dX6_person_7 ⟨Nat.zero_le _, Nat.zero_le _⟩) hP hD hS hA (fun H locs hP hD hS => ?_)
  have hP : va_P D vwCl (gX6 o_t a_t cI u2.1 ++ gX4 (a_t 0) a_t_0 cI u2.2) H := hP
  have hD : va_D A (gX6 o_t a_t cI u2.1 ++ gX4 (a_t 0) a_t_0 cI u2.2) := hD
  refine W.eq (g2 := F0 m 10 ls [.int r7, .int r2]) rfl ?_
  obtain ⟨r10, u10, h10, hf⟩ := bd_some hf
  have hPc : va_P D vwCl [] H := hP.sub (ws' := []) [] rfl
  have hDc : va_D A [] := hD.sub (ws' := []) [] (by decide) rfl
  refine calXe (runS E0.b E0.n (As := [.int r2, .int r7]) (rest := []) ⟨hx, hb, hml, hown, hts⟩ (c_X6_first l D cI r2 r7 _ h10) gX6_person_X6_first rfl rfl rfl hdX6_first ⟨by decide, by decide⟩ hK hPc hDc rfl hl.1 rfl (Nat.le_of_ble_eq_true rfl) dX6_person_10 ⟨Nat.zero_le _, Nat.zero_le _⟩) hP hD hS hA (fun H locs hP hD hS => ?_)
  have hP : va_P D vwCl (gX6 o_t a_t cI u2.1 ++ gX4 (a_t 0) a_t_0 cI u2.2) H := hP
  have hD : va_D A (gX6 o_t a_t cI u2.1 ++ gX4 (a_t 0) a_t_0 cI u2.2) := hD
  refine W.eq (g2 := F0 m 13 ls [.int r10]) rfl ?_
  refine lv_istore_n (lv' := [(3, .int r10), (0, .ref o_t), (1, .int x1), (2, .int x2)]) hx hb dX6_person_13 rfl hl (by decide) rfl (fun ls hl => ?_)
  refine lv_iload_n hx hb dX6_person_14 rfl (lv_at hl 0 rfl) ?_
  refine lv_if_eq (tgt := 24) hx hb dX6_person_15 (by decide) (fun c15 => ?_) (fun c15 => ?_)
  · replace hf := it_t c15 hf
    refine lv_iload_n hx hb dX6_person_24 rfl (lv_at hl 3 rfl) ?_
    by_cases ck0 : x2 = (0 : Int32)
    · replace hf := it_t ck0 hf
      refine lv_tableIn (off := 31) (tgt := 56) hx hb dX6_person_25 (by rw [ck0]; decide) (by rw [ck0]; decide) (by rw [ck0]; decide) (by decide) ?_
      refine lv_aload_n hx hb dX6_person_56 rfl (lv_at hl 1 rfl) ?_
      refine va_get (D := D) (ci := 6) (v := .ref (a_t 0)) (C := RX6) (T := TX6) (N := 9) hx hb hts hinX6 hown hK hP 0 rfl rfl 0 (by decide) (hts (.fieldLink RX6 10 "OnlyStrangersHear" "now" "LOnlyStrangersHear$Town;") (by decide +kernel)) (fun _ h9 => h9) rfl dX6_person_57 ?_
      refine va_get (D := D) (ci := 4) (v := .ref (a_t_0 4)) (C := RX4) (T := TX4) (N := 10) hx hb hts hinX4 hown hK hP 2 rfl rfl 4 (by decide) (hts (.fieldLink RX6 106 "OnlyStrangersHear$Town" "kind" "[I") (by decide +kernel)) (fun _ h9 => h9) rfl dX6_person_60 ?_
      refine lv_iload_n hx hb dX6_person_63 rfl (lv_at hl 2 rfl) ?_
      obtain ⟨b64, hf⟩ := ck_some hf
      refine va_iald hx hb hK hP 5 0 rfl rfl b64 dX6_person_64 ?_
      have e := so_some hf
      subst e
      exact ri hx hb hK hr hlk hQ dX6_person_65 hP hD hS
    · replace hf := it_f ck0 hf
      by_cases ck1 : x2 = (1 : Int32)
      · replace hf := it_t ck1 hf
        refine lv_tableIn (off := 41) (tgt := 66) hx hb dX6_person_25 (by rw [ck1]; decide) (by rw [ck1]; decide) (by rw [ck1]; decide) (by decide) ?_
        refine lv_aload_n hx hb dX6_person_66 rfl (lv_at hl 1 rfl) ?_
        refine va_get (D := D) (ci := 6) (v := .ref (a_t 0)) (C := RX6) (T := TX6) (N := 9) hx hb hts hinX6 hown hK hP 0 rfl rfl 0 (by decide) (hts (.fieldLink RX6 10 "OnlyStrangersHear" "now" "LOnlyStrangersHear$Town;") (by decide +kernel)) (fun _ h9 => h9) rfl dX6_person_67 ?_
        refine va_get (D := D) (ci := 4) (v := .ref (a_t_0 5)) (C := RX4) (T := TX4) (N := 10) hx hb hts hinX4 hown hK hP 2 rfl rfl 5 (by decide) (hts (.fieldLink RX6 109 "OnlyStrangersHear$Town" "figure" "[I") (by decide +kernel)) (fun _ h9 => h9) rfl dX6_person_70 ?_
        refine lv_iload_n hx hb dX6_person_73 rfl (lv_at hl 2 rfl) ?_
        obtain ⟨b74, hf⟩ := ck_some hf
        refine va_iald hx hb hK hP 6 0 rfl rfl b74 dX6_person_74 ?_
        have e := so_some hf
        subst e
        exact ri hx hb hK hr hlk hQ dX6_person_75 hP hD hS
      · replace hf := it_f ck1 hf
        by_cases ck2 : x2 = (2 : Int32)
        · replace hf := it_t ck2 hf
          refine lv_tableIn (off := 51) (tgt := 76) hx hb dX6_person_25 (by rw [ck2]; decide) (by rw [ck2]; decide) (by rw [ck2]; decide) (by decide) ?_
          refine lv_aload_n hx hb dX6_person_76 rfl (lv_at hl 1 rfl) ?_
          refine va_get (D := D) (ci := 6) (v := .ref (a_t 0)) (C := RX6) (T := TX6) (N := 9) hx hb hts hinX6 hown hK hP 0 rfl rfl 0 (by decide) (hts (.fieldLink RX6 10 "OnlyStrangersHear" "now" "LOnlyStrangersHear$Town;") (by decide +kernel)) (fun _ h9 => h9) rfl dX6_person_77 ?_
          refine va_get (D := D) (ci := 4) (v := .ref (a_t_0 6)) (C := RX4) (T := TX4) (N := 10) hx hb hts hinX4 hown hK hP 2 rfl rfl 6 (by decide) (hts (.fieldLink RX6 112 "OnlyStrangersHear$Town" "slept" "[I") (by decide +kernel)) (fun _ h9 => h9) rfl dX6_person_80 ?_
          refine lv_iload_n hx hb dX6_person_83 rfl (lv_at hl 2 rfl) ?_
          obtain ⟨b84, hf⟩ := ck_some hf
          refine va_iald hx hb hK hP 7 0 rfl rfl b84 dX6_person_84 ?_
          have e := so_some hf
          subst e
          exact ri hx hb hK hr hlk hQ dX6_person_85 hP hD hS
        · replace hf := it_f ck2 hf
          by_cases ck3 : x2 = (3 : Int32)
          · replace hf := it_t ck3 hf
            refine lv_tableIn (off := 61) (tgt := 86) hx hb dX6_person_25 (by rw [ck3]; decide) (by rw [ck3]; decide) (by rw [ck3]; decide) (by decide) ?_
            refine lv_aload_n hx hb dX6_person_86 rfl (lv_at hl 1 rfl) ?_
            refine va_get (D := D) (ci := 6) (v := .ref (a_t 0)) (C := RX6) (T := TX6) (N := 9) hx hb hts hinX6 hown hK hP 0 rfl rfl 0 (by decide) (hts (.fieldLink RX6 10 "OnlyStrangersHear" "now" "LOnlyStrangersHear$Town;") (by decide +kernel)) (fun _ h9 => h9) rfl dX6_person_87 ?_
            refine va_get (D := D) (ci := 4) (v := .ref (a_t_0 7)) (C := RX4) (T := TX4) (N := 10) hx hb hts hinX4 hown hK hP 2 rfl rfl 7 (by decide) (hts (.fieldLink RX6 115 "OnlyStrangersHear$Town" "away" "[I") (by decide +kernel)) (fun _ h9 => h9) rfl dX6_person_90 ?_
            refine lv_iload_n hx hb dX6_person_93 rfl (lv_at hl 2 rfl) ?_
            obtain ⟨b94, hf⟩ := ck_some hf
            refine va_iald hx hb hK hP 8 0 rfl rfl b94 dX6_person_94 ?_
            have e := so_some hf
            subst e
            exact ri hx hb hK hr hlk hQ dX6_person_95 hP hD hS
          · replace hf := it_f ck3 hf
            by_cases clo : x2.toInt < 0
            · refine lv_tableOut (tgt := 96) hx hb dX6_person_25 (Or.inl clo) (by decide) ?_
              refine lv_aload_n hx hb dX6_person_96 rfl (lv_at hl 1 rfl) ?_
              refine va_get (D := D) (ci := 6) (v := .ref (a_t 0)) (C := RX6) (T := TX6) (N := 9) hx hb hts hinX6 hown hK hP 0 rfl rfl 0 (by decide) (hts (.fieldLink RX6 10 "OnlyStrangersHear" "now" "LOnlyStrangersHear$Town;") (by decide +kernel)) (fun _ h9 => h9) rfl dX6_person_97 ?_
              refine lv_iload_n hx hb dX6_person_100 rfl (lv_at hl 2 rfl) ?_
              obtain ⟨r101, u101, h101, hf⟩ := bd_some hf
              have hPc := hP.sub (ws' := gX4 (a_t 0) a_t_0 cI u2.2) [2, 3, 4, 5, 6, 7, 8] rfl
              have hDc := hD.sub (ws' := gX4 (a_t 0) a_t_0 cI u2.2) [2, 3, 4, 5, 6, 7, 8] (by decide) rfl
              refine calX (runV E0.b E0.n (As := [.int x1]) (rest := []) ⟨hx, hb, hml, hown, hts⟩ (c_X4_nightsOf l D cI (a_t 0) a_t_0 u2.2 x1 _ h101) gX6_person_X4_nightsOf rfl rfl rfl hdX4_nightsOf ⟨by decide, by decide⟩ hK hPc hDc 0 rfl rfl rfl hl.1 rfl (Nat.le_of_ble_eq_true rfl) dX6_person_101 ⟨Nat.zero_le _, Nat.zero_le _⟩) hP hD hS hA [2, 3, 4, 5, 6, 7, 8] [0, 1] [0, 1, 2, 3, 4, 5, 6, 7, 8] (wr := gX6 o_t a_t cI u2.1) (wn := gX6 o_t a_t cI u2.1 ++ gX4 (a_t 0) a_t_0 cI u101) rfl rfl (by decide) (by decide) rfl (by decide) (fun H locs hP hD hS => ?_)
              have hP : va_P D vwCl (gX6 o_t a_t cI u2.1 ++ gX4 (a_t 0) a_t_0 cI u101) H := hP
              have hD : va_D A (gX6 o_t a_t cI u2.1 ++ gX4 (a_t 0) a_t_0 cI u101) := hD
              refine W.eq (g2 := F0 m 104 ls [.int r101]) rfl ?_
              have e := so_some hf
              subst e
              exact ri hx hb hK hr hlk hQ dX6_person_104 hP hD hS
            by_cases chi : 3 < x2.toInt
            · refine lv_tableOut (tgt := 96) hx hb dX6_person_25 (Or.inr chi) (by decide) ?_
              refine lv_aload_n hx hb dX6_person_96 rfl (lv_at hl 1 rfl) ?_
              refine va_get (D := D) (ci := 6) (v := .ref (a_t 0)) (C := RX6) (T := TX6) (N := 9) hx hb hts hinX6 hown hK hP 0 rfl rfl 0 (by decide) (hts (.fieldLink RX6 10 "OnlyStrangersHear" "now" "LOnlyStrangersHear$Town;") (by decide +kernel)) (fun _ h9 => h9) rfl dX6_person_97 ?_
              refine lv_iload_n hx hb dX6_person_100 rfl (lv_at hl 2 rfl) ?_
              obtain ⟨r101, u101, h101, hf⟩ := bd_some hf
              have hPc := hP.sub (ws' := gX4 (a_t 0) a_t_0 cI u2.2) [2, 3, 4, 5, 6, 7, 8] rfl
              have hDc := hD.sub (ws' := gX4 (a_t 0) a_t_0 cI u2.2) [2, 3, 4, 5, 6, 7, 8] (by decide) rfl
              refine calX (runV E0.b E0.n (As := [.int x1]) (rest := []) ⟨hx, hb, hml, hown, hts⟩ (c_X4_nightsOf l D cI (a_t 0) a_t_0 u2.2 x1 _ h101) gX6_person_X4_nightsOf rfl rfl rfl hdX4_nightsOf ⟨by decide, by decide⟩ hK hPc hDc 0 rfl rfl rfl hl.1 rfl (Nat.le_of_ble_eq_true rfl) dX6_person_101 ⟨Nat.zero_le _, Nat.zero_le _⟩) hP hD hS hA [2, 3, 4, 5, 6, 7, 8] [0, 1] [0, 1, 2, 3, 4, 5, 6, 7, 8] (wr := gX6 o_t a_t cI u2.1) (wn := gX6 o_t a_t cI u2.1 ++ gX4 (a_t 0) a_t_0 cI u101) rfl rfl (by decide) (by decide) rfl (by decide) (fun H locs hP hD hS => ?_)
              have hP : va_P D vwCl (gX6 o_t a_t cI u2.1 ++ gX4 (a_t 0) a_t_0 cI u101) H := hP
              have hD : va_D A (gX6 o_t a_t cI u2.1 ++ gX4 (a_t 0) a_t_0 cI u101) := hD
              refine W.eq (g2 := F0 m 104 ls [.int r101]) rfl ?_
              have e := so_some hf
              subst e
              exact ri hx hb hK hr hlk hQ dX6_person_104 hP hD hS
            exact (sw_no (x := x2) (lo := 0) (hi := 3) clo chi (ks := [0, 1, 2, 3]) (by decide) (List.forall_mem_cons.mpr ⟨lv_neT (k := 0) (a := 0) ck0 (by decide), (List.forall_mem_cons.mpr ⟨lv_neT (k := 1) (a := 1) ck1 (by decide), (List.forall_mem_cons.mpr ⟨lv_neT (k := 2) (a := 2) ck2 (by decide), (List.forall_mem_cons.mpr ⟨lv_neT (k := 3) (a := 3) ck3 (by decide), (fun _ h => absurd h List.not_mem_nil)⟩)⟩)⟩)⟩)).elim
  · replace hf := it_f c15 hf
    refine lv_aload_n hx hb dX6_person_18 rfl (lv_at hl 1 rfl) ?_
    refine lv_iload_n hx hb dX6_person_19 rfl (lv_at hl 0 rfl) ?_
    obtain ⟨r20, u20, h20, hf⟩ := bd_some hf
    have hPc := hP.sub (ws' := gX6 o_t a_t cI u2.1) [0, 1] rfl
    have hDc := hD.sub (ws' := gX6 o_t a_t cI u2.1) [0, 1] (by decide) rfl
    refine calX (runV E0.b E0.n (As := [.int r10]) (rest := []) ⟨hx, hb, hml, hown, hts⟩ (c_X6_refused l D cI o_t a_t u2.1 r10 _ h20) gX6_person_X6_refused rfl rfl rfl hdX6_refused ⟨by decide, by decide⟩ hK hPc hDc 0 rfl rfl rfl hl.1 rfl (Nat.le_of_ble_eq_true rfl) dX6_person_20 ⟨Nat.zero_le _, Nat.zero_le _⟩) hP hD hS hA [0, 1] [2, 3, 4, 5, 6, 7, 8] [7, 8, 0, 1, 2, 3, 4, 5, 6] (wr := gX4 (a_t 0) a_t_0 cI u2.2) (wn := gX6 o_t a_t cI u20 ++ gX4 (a_t 0) a_t_0 cI u2.2) rfl rfl (by decide) (by decide) rfl (by decide) (fun H locs hP hD hS => ?_)
    have hP : va_P D vwCl (gX6 o_t a_t cI u20 ++ gX4 (a_t 0) a_t_0 cI u2.2) H := hP
    have hD : va_D A (gX6 o_t a_t cI u20 ++ gX4 (a_t 0) a_t_0 cI u2.2) := hD
    refine W.eq (g2 := F0 m 23 ls [.int r20]) rfl ?_
    have e := so_some hf
    subst e
    exact ri hx hb hK hr hlk hQ dX6_person_23 hP hD hS
abbrev rmX6_says : Room := { frames := 2, cells := 0, slots := 0, locals := 43 }
set_option maxHeartbeats 4000000 in
set_option maxRecDepth 100000 in
theorem c_X6_says (l : Launch) (D : va_G) (cI : ClassId) (o_t : Nat) (a_t : Nat → Nat) (a_t_0 : Nat → Nat) (S_t : G) (S_t_0 : G) (x1 : Int32) (x2 : Int32) (out : Int32 × G × G) (hf : f_X6_says S_t S_t_0 x1 x2 = some out) : Cn E0 l yX6_says wsX6_says rmX6_says D cI [.ref o_t, .int x1, .int x2] (gX6 o_t a_t cI S_t ++ gX4 (a_t 0) a_t_0 cI S_t_0) (some (.int out.1)) (gX6 o_t a_t cI out.2.1 ++ gX4 (a_t 0) a_t_0 cI out.2.2) := by
  refine Cn.mk (cc := cX6_says) (maxL := 4) (ret := (some .int)) (by decide) rfl (Nat.le_of_ble_eq_true rfl) ?_
  intro p e s m below meth c A ls Q hx hb hml hown hts hK hA hP hD hS hl hr hlk hnm hE hQ
  have hown : s.vm.findClass RX6 = some m.cls := hown
  have hinX6 : ∀ w ∈ u_ws RX6 TX6 9, w ∈ wsX6_says := by decide +kernel
  unfold f_X6_says at hf
  have hl : lv_has ls 4 [(0, .ref o_t), (1, .int x1), (2, .int x2)] := hl
  obtain ⟨H, hHe⟩ : ∃ H : Heap, H = s.heap := ⟨_, rfl⟩
  obtain ⟨locs, hle⟩ : ∃ q : List Loc, q = [] := ⟨_, rfl⟩
  have hS : va_S A s.heap H locs := by rw [hHe, hle]; exact hS
  rw [← hHe] at hP
  suffices hgo : W p l e rmX6_says s m ([.ref o_t, .int x1, .int x2] : List Value).toArray below meth c H locs 0 0 Q (F0 m 0 ls []) by rw [hHe, hle] at hgo; exact hgo
  clear hHe hle
  refine lv_aload_n hx hb dX6_says_0 rfl (lv_at hl 0 rfl) ?_
  refine lv_iload_n hx hb dX6_says_1 rfl (lv_at hl 1 rfl) ?_
  obtain ⟨r2, u2, h2, hf⟩ := bd_some hf
  refine calX0 (runV E0.b E0.n (As := [.int x1]) (rest := []) ⟨hx, hb, hml, hown, hts⟩ (c_X6_noPerson l D cI o_t a_t a_t_0 S_t S_t_0 x1 _ h2) gX6_says_X6_noPerson rfl rfl rfl hdX6_noPerson ⟨by decide, by decide⟩ hK hP hD 0 rfl rfl rfl hl.1 rfl (Nat.le_of_ble_eq_true rfl) dX6_says_2 ⟨Nat.zero_le _, Nat.zero_le _⟩) hD hS hA (fun H locs hP hD hS => ?_)
  have hP : va_P D vwCl (gX6 o_t a_t cI u2.1 ++ gX4 (a_t 0) a_t_0 cI u2.2) H := hP
  have hD : va_D A (gX6 o_t a_t cI u2.1 ++ gX4 (a_t 0) a_t_0 cI u2.2) := hD
  refine W.eq (g2 := F0 m 5 ls [.int r2]) rfl ?_
  refine lv_aload_n hx hb dX6_says_5 rfl (lv_at hl 0 rfl) ?_
  refine lv_iload_n hx hb dX6_says_6 rfl (lv_at hl 2 rfl) ?_
  obtain ⟨r7, u7, h7, hf⟩ := bd_some hf
  refine calX0 (runV E0.b E0.n (As := [.int x2]) (rest := [.int r2]) ⟨hx, hb, hml, hown, hts⟩ (c_X6_noBell l D cI o_t a_t a_t_0 u2.1 u2.2 x2 _ h7) gX6_says_X6_noBell rfl rfl rfl hdX6_noBell ⟨by decide, by decide⟩ hK hP hD 0 rfl rfl rfl hl.1 rfl (Nat.le_of_ble_eq_true rfl) dX6_says_7 ⟨Nat.zero_le _, Nat.zero_le _⟩) hD hS hA (fun H locs hP hD hS => ?_)
  have hP : va_P D vwCl (gX6 o_t a_t cI u7.1 ++ gX4 (a_t 0) a_t_0 cI u7.2) H := hP
  have hD : va_D A (gX6 o_t a_t cI u7.1 ++ gX4 (a_t 0) a_t_0 cI u7.2) := hD
  refine W.eq (g2 := F0 m 10 ls [.int r7, .int r2]) rfl ?_
  obtain ⟨r10, u10, h10, hf⟩ := bd_some hf
  have hPc : va_P D vwCl [] H := hP.sub (ws' := []) [] rfl
  have hDc : va_D A [] := hD.sub (ws' := []) [] (by decide) rfl
  refine calXe (runS E0.b E0.n (As := [.int r2, .int r7]) (rest := []) ⟨hx, hb, hml, hown, hts⟩ (c_X6_first l D cI r2 r7 _ h10) gX6_says_X6_first rfl rfl rfl hdX6_first ⟨by decide, by decide⟩ hK hPc hDc rfl hl.1 rfl (Nat.le_of_ble_eq_true rfl) dX6_says_10 ⟨Nat.zero_le _, Nat.zero_le _⟩) hP hD hS hA (fun H locs hP hD hS => ?_)
  have hP : va_P D vwCl (gX6 o_t a_t cI u7.1 ++ gX4 (a_t 0) a_t_0 cI u7.2) H := hP
  have hD : va_D A (gX6 o_t a_t cI u7.1 ++ gX4 (a_t 0) a_t_0 cI u7.2) := hD
  refine W.eq (g2 := F0 m 13 ls [.int r10]) rfl ?_
  refine lv_istore_n (lv' := [(3, .int r10), (0, .ref o_t), (1, .int x1), (2, .int x2)]) hx hb dX6_says_13 rfl hl (by decide) rfl (fun ls hl => ?_)
  refine lv_iload_n hx hb dX6_says_14 rfl (lv_at hl 0 rfl) ?_
  refine lv_if_eq (tgt := 24) hx hb dX6_says_15 (by decide) (fun c15 => ?_) (fun c15 => ?_)
  · replace hf := it_t c15 hf
    refine lv_aload_n hx hb dX6_says_24 rfl (lv_at hl 1 rfl) ?_
    refine va_get (D := D) (ci := 6) (v := .ref (a_t 0)) (C := RX6) (T := TX6) (N := 9) hx hb hts hinX6 hown hK hP 0 rfl rfl 0 (by decide) (hts (.fieldLink RX6 10 "OnlyStrangersHear" "now" "LOnlyStrangersHear$Town;") (by decide +kernel)) (fun _ h9 => h9) rfl dX6_says_25 ?_
    refine lv_iload_n hx hb dX6_says_28 rfl (lv_at hl 2 rfl) ?_
    refine lv_iload_n hx hb dX6_says_29 rfl (lv_at hl 3 rfl) ?_
    obtain ⟨r30, u30, h30, hf⟩ := bd_some hf
    have hPc := hP.sub (ws' := gX4 (a_t 0) a_t_0 cI u7.2) [2, 3, 4, 5, 6, 7, 8] rfl
    have hDc := hD.sub (ws' := gX4 (a_t 0) a_t_0 cI u7.2) [2, 3, 4, 5, 6, 7, 8] (by decide) rfl
    refine calX (runV E0.b E0.n (As := [.int x1, .int x2]) (rest := []) ⟨hx, hb, hml, hown, hts⟩ (c_X4_hearsIt l D cI (a_t 0) a_t_0 u7.2 x1 x2 _ h30) gX6_says_X4_hearsIt rfl rfl rfl hdX4_hearsIt ⟨by decide, by decide⟩ hK hPc hDc 0 rfl rfl rfl hl.1 rfl (Nat.le_of_ble_eq_true rfl) dX6_says_30 ⟨Nat.zero_le _, Nat.zero_le _⟩) hP hD hS hA [2, 3, 4, 5, 6, 7, 8] [0, 1] [0, 1, 2, 3, 4, 5, 6, 7, 8] (wr := gX6 o_t a_t cI u7.1) (wn := gX6 o_t a_t cI u7.1 ++ gX4 (a_t 0) a_t_0 cI u30) rfl rfl (by decide) (by decide) rfl (by decide) (fun H locs hP hD hS => ?_)
    have hP : va_P D vwCl (gX6 o_t a_t cI u7.1 ++ gX4 (a_t 0) a_t_0 cI u30) H := hP
    have hD : va_D A (gX6 o_t a_t cI u7.1 ++ gX4 (a_t 0) a_t_0 cI u30) := hD
    refine W.eq (g2 := F0 m 33 ls [.int r30]) rfl ?_
    refine lv_if_eq (tgt := 48) hx hb dX6_says_33 (by decide) (fun c33 => ?_) (fun c33 => ?_)
    · replace hf := it_t c33 hf
      refine lv_bipush (v := (-9 : Int32)) hx hb dX6_says_48 (by decide) ?_
      have e := so_some hf
      subst e
      exact ri hx hb hK hr hlk hQ dX6_says_50 hP hD hS
    · replace hf := it_f c33 hf
      refine lv_aload_n hx hb dX6_says_36 rfl (lv_at hl 1 rfl) ?_
      refine va_get (D := D) (ci := 6) (v := .ref (a_t 0)) (C := RX6) (T := TX6) (N := 9) hx hb hts hinX6 hown hK hP 0 rfl rfl 0 (by decide) (hts (.fieldLink RX6 10 "OnlyStrangersHear" "now" "LOnlyStrangersHear$Town;") (by decide +kernel)) (fun _ h9 => h9) rfl dX6_says_37 ?_
      refine lv_iload_n hx hb dX6_says_40 rfl (lv_at hl 2 rfl) ?_
      refine lv_iload_n hx hb dX6_says_41 rfl (lv_at hl 3 rfl) ?_
      obtain ⟨r42, u42, h42, hf⟩ := bd_some hf
      have hPc := hP.sub (ws' := gX4 (a_t 0) a_t_0 cI u30) [2, 3, 4, 5, 6, 7, 8] rfl
      have hDc := hD.sub (ws' := gX4 (a_t 0) a_t_0 cI u30) [2, 3, 4, 5, 6, 7, 8] (by decide) rfl
      refine calX (runV E0.b E0.n (As := [.int x1, .int x2]) (rest := []) ⟨hx, hb, hml, hown, hts⟩ (c_X4_hourBy l D cI (a_t 0) a_t_0 u30 x1 x2 _ h42) gX6_says_X4_hourBy rfl rfl rfl hdX4_hourBy ⟨by decide, by decide⟩ hK hPc hDc 0 rfl rfl rfl hl.1 rfl (Nat.le_of_ble_eq_true rfl) dX6_says_42 ⟨Nat.zero_le _, Nat.zero_le _⟩) hP hD hS hA [2, 3, 4, 5, 6, 7, 8] [0, 1] [0, 1, 2, 3, 4, 5, 6, 7, 8] (wr := gX6 o_t a_t cI u7.1) (wn := gX6 o_t a_t cI u7.1 ++ gX4 (a_t 0) a_t_0 cI u42) rfl rfl (by decide) (by decide) rfl (by decide) (fun H locs hP hD hS => ?_)
      have hP : va_P D vwCl (gX6 o_t a_t cI u7.1 ++ gX4 (a_t 0) a_t_0 cI u42) H := hP
      have hD : va_D A (gX6 o_t a_t cI u7.1 ++ gX4 (a_t 0) a_t_0 cI u42) := hD
      refine W.eq (g2 := F0 m 45 ls [.int r42]) rfl ?_
      refine lv_goto (tgt := 50) hx hb dX6_says_45 (by decide) ?_
      have e := so_some hf
      subst e
      exact ri hx hb hK hr hlk hQ dX6_says_50 hP hD hS
  · replace hf := it_f c15 hf
    refine lv_aload_n hx hb dX6_says_18 rfl (lv_at hl 1 rfl) ?_
    refine lv_iload_n hx hb dX6_says_19 rfl (lv_at hl 0 rfl) ?_
    obtain ⟨r20, u20, h20, hf⟩ := bd_some hf
    have hPc := hP.sub (ws' := gX6 o_t a_t cI u7.1) [0, 1] rfl
    have hDc := hD.sub (ws' := gX6 o_t a_t cI u7.1) [0, 1] (by decide) rfl
    refine calX (runV E0.b E0.n (As := [.int r10]) (rest := []) ⟨hx, hb, hml, hown, hts⟩ (c_X6_refused l D cI o_t a_t u7.1 r10 _ h20) gX6_says_X6_refused rfl rfl rfl hdX6_refused ⟨by decide, by decide⟩ hK hPc hDc 0 rfl rfl rfl hl.1 rfl (Nat.le_of_ble_eq_true rfl) dX6_says_20 ⟨Nat.zero_le _, Nat.zero_le _⟩) hP hD hS hA [0, 1] [2, 3, 4, 5, 6, 7, 8] [7, 8, 0, 1, 2, 3, 4, 5, 6] (wr := gX4 (a_t 0) a_t_0 cI u7.2) (wn := gX6 o_t a_t cI u20 ++ gX4 (a_t 0) a_t_0 cI u7.2) rfl rfl (by decide) (by decide) rfl (by decide) (fun H locs hP hD hS => ?_)
    have hP : va_P D vwCl (gX6 o_t a_t cI u20 ++ gX4 (a_t 0) a_t_0 cI u7.2) H := hP
    have hD : va_D A (gX6 o_t a_t cI u20 ++ gX4 (a_t 0) a_t_0 cI u7.2) := hD
    refine W.eq (g2 := F0 m 23 ls [.int r20]) rfl ?_
    have e := so_some hf
    subst e
    exact ri hx hb hK hr hlk hQ dX6_says_23 hP hD hS
abbrev rmX6_goes : Room := { frames := 1, cells := 0, slots := 0, locals := 22 }
set_option maxHeartbeats 4000000 in
set_option maxRecDepth 100000 in
theorem c_X6_goes (l : Launch) (D : va_G) (cI : ClassId) (o_t : Nat) (a_t : Nat → Nat) (a_t_0 : Nat → Nat) (S_t : G) (S_t_0 : G) (x1 : Int32) (x2 : Int32) (out : Int32 × G × G) (hf : f_X6_goes S_t S_t_0 x1 x2 = some out) : Cn E0 l yX6_goes wsX6_goes rmX6_goes D cI [.ref o_t, .int x1, .int x2] (gX6 o_t a_t cI S_t ++ gX4 (a_t 0) a_t_0 cI S_t_0) (some (.int out.1)) (gX6 o_t a_t cI out.2.1 ++ gX4 (a_t 0) a_t_0 cI out.2.2) := by
  refine Cn.mk (cc := cX6_goes) (maxL := 5) (ret := (some .int)) (by decide) rfl (Nat.le_of_ble_eq_true rfl) ?_
  intro p e s m below meth c A ls Q hx hb hml hown hts hK hA hP hD hS hl hr hlk hnm hE hQ
  have hown : s.vm.findClass RX6 = some m.cls := hown
  have hinX4 : ∀ w ∈ u_ws RX4 TX4 10, w ∈ wsX6_goes := by decide +kernel
  have hinX6 : ∀ w ∈ u_ws RX6 TX6 9, w ∈ wsX6_goes := by decide +kernel
  unfold f_X6_goes at hf
  have hl : lv_has ls 5 [(0, .ref o_t), (1, .int x1), (2, .int x2)] := hl
  obtain ⟨H, hHe⟩ : ∃ H : Heap, H = s.heap := ⟨_, rfl⟩
  obtain ⟨locs, hle⟩ : ∃ q : List Loc, q = [] := ⟨_, rfl⟩
  have hS : va_S A s.heap H locs := by rw [hHe, hle]; exact hS
  rw [← hHe] at hP
  suffices hgo : W p l e rmX6_goes s m ([.ref o_t, .int x1, .int x2] : List Value).toArray below meth c H locs 0 0 Q (F0 m 0 ls []) by rw [hHe, hle] at hgo; exact hgo
  clear hHe hle
  refine lv_aload_n hx hb dX6_goes_0 rfl (lv_at hl 0 rfl) ?_
  refine lv_iload_n hx hb dX6_goes_1 rfl (lv_at hl 1 rfl) ?_
  obtain ⟨r2, u2, h2, hf⟩ := bd_some hf
  refine calX0 (runV E0.b E0.n (As := [.int x1]) (rest := []) ⟨hx, hb, hml, hown, hts⟩ (c_X6_noPerson l D cI o_t a_t a_t_0 S_t S_t_0 x1 _ h2) gX6_goes_X6_noPerson rfl rfl rfl hdX6_noPerson ⟨by decide, by decide⟩ hK hP hD 0 rfl rfl rfl hl.1 rfl (Nat.le_of_ble_eq_true rfl) dX6_goes_2 ⟨Nat.zero_le _, Nat.zero_le _⟩) hD hS hA (fun H locs hP hD hS => ?_)
  have hP : va_P D vwCl (gX6 o_t a_t cI u2.1 ++ gX4 (a_t 0) a_t_0 cI u2.2) H := hP
  have hD : va_D A (gX6 o_t a_t cI u2.1 ++ gX4 (a_t 0) a_t_0 cI u2.2) := hD
  refine W.eq (g2 := F0 m 5 ls [.int r2]) rfl ?_
  refine lv_iload_n hx hb dX6_goes_5 rfl (lv_at hl 2 rfl) ?_
  refine lv_iconst (v := (0 : Int32)) hx hb dX6_goes_6 (by decide) ?_
  refine lv_bipush (v := (9 : Int32)) hx hb dX6_goes_7 (by decide) ?_
  obtain ⟨r9, u9, h9, hf⟩ := bd_some hf
  have hPc : va_P D vwCl [] H := hP.sub (ws' := []) [] rfl
  have hDc : va_D A [] := hD.sub (ws' := []) [] (by decide) rfl
  refine calXe (runS E0.b E0.n (As := [.int x2, .int (0 : Int32), .int (9 : Int32)]) (rest := [.int r2]) ⟨hx, hb, hml, hown, hts⟩ (c_X6_range l D cI x2 (0 : Int32) (9 : Int32) _ h9) gX6_goes_X6_range rfl rfl rfl hdX6_range ⟨by decide, by decide⟩ hK hPc hDc rfl hl.1 rfl (Nat.le_of_ble_eq_true rfl) dX6_goes_9 ⟨Nat.zero_le _, Nat.zero_le _⟩) hP hD hS hA (fun H locs hP hD hS => ?_)
  have hP : va_P D vwCl (gX6 o_t a_t cI u2.1 ++ gX4 (a_t 0) a_t_0 cI u2.2) H := hP
  have hD : va_D A (gX6 o_t a_t cI u2.1 ++ gX4 (a_t 0) a_t_0 cI u2.2) := hD
  refine W.eq (g2 := F0 m 12 ls [.int r9, .int r2]) rfl ?_
  obtain ⟨r12, u12, h12, hf⟩ := bd_some hf
  have hPc : va_P D vwCl [] H := hP.sub (ws' := []) [] rfl
  have hDc : va_D A [] := hD.sub (ws' := []) [] (by decide) rfl
  refine calXe (runS E0.b E0.n (As := [.int r2, .int r9]) (rest := []) ⟨hx, hb, hml, hown, hts⟩ (c_X6_first l D cI r2 r9 _ h12) gX6_goes_X6_first rfl rfl rfl hdX6_first ⟨by decide, by decide⟩ hK hPc hDc rfl hl.1 rfl (Nat.le_of_ble_eq_true rfl) dX6_goes_12 ⟨Nat.zero_le _, Nat.zero_le _⟩) hP hD hS hA (fun H locs hP hD hS => ?_)
  have hP : va_P D vwCl (gX6 o_t a_t cI u2.1 ++ gX4 (a_t 0) a_t_0 cI u2.2) H := hP
  have hD : va_D A (gX6 o_t a_t cI u2.1 ++ gX4 (a_t 0) a_t_0 cI u2.2) := hD
  refine W.eq (g2 := F0 m 15 ls [.int r12]) rfl ?_
  refine lv_istore_n (lv' := [(3, .int r12), (0, .ref o_t), (1, .int x1), (2, .int x2)]) hx hb dX6_goes_15 rfl hl (by decide) rfl (fun ls hl => ?_)
  refine lv_iload_n hx hb dX6_goes_16 rfl (lv_at hl 0 rfl) ?_
  refine lv_if_eq (tgt := 26) hx hb dX6_goes_17 (by decide) (fun c17 => ?_) (fun c17 => ?_)
  · replace hf := it_t c17 hf
    refine lv_aload_n hx hb dX6_goes_26 rfl (lv_at hl 1 rfl) ?_
    refine va_get (D := D) (ci := 6) (v := .ref (a_t 0)) (C := RX6) (T := TX6) (N := 9) hx hb hts hinX6 hown hK hP 0 rfl rfl 0 (by decide) (hts (.fieldLink RX6 10 "OnlyStrangersHear" "now" "LOnlyStrangersHear$Town;") (by decide +kernel)) (fun _ h9 => h9) rfl dX6_goes_27 ?_
    refine va_get (D := D) (ci := 4) (v := .ref (a_t_0 7)) (C := RX4) (T := TX4) (N := 10) hx hb hts hinX4 hown hK hP 2 rfl rfl 7 (by decide) (hts (.fieldLink RX6 115 "OnlyStrangersHear$Town" "away" "[I") (by decide +kernel)) (fun _ h9 => h9) rfl dX6_goes_30 ?_
    refine lv_iload_n hx hb dX6_goes_33 rfl (lv_at hl 2 rfl) ?_
    obtain ⟨b34, hf⟩ := ck_some hf
    refine va_iald hx hb hK hP 8 0 rfl rfl b34 dX6_goes_34 ?_
    refine lv_istore (lv' := [(4, .int (u2.2.2 7 x1.toNatClampNeg)), (3, .int r12), (0, .ref o_t), (1, .int x1), (2, .int x2)]) hx hb dX6_goes_35 hl (by decide) rfl (fun ls hl => ?_)
    refine lv_aload_n hx hb dX6_goes_37 rfl (lv_at hl 2 rfl) ?_
    refine va_get (D := D) (ci := 6) (v := .ref (a_t 0)) (C := RX6) (T := TX6) (N := 9) hx hb hts hinX6 hown hK hP 0 rfl rfl 0 (by decide) (hts (.fieldLink RX6 10 "OnlyStrangersHear" "now" "LOnlyStrangersHear$Town;") (by decide +kernel)) (fun _ h9 => h9) rfl dX6_goes_38 ?_
    refine va_get (D := D) (ci := 4) (v := .ref (a_t_0 7)) (C := RX4) (T := TX4) (N := 10) hx hb hts hinX4 hown hK hP 2 rfl rfl 7 (by decide) (hts (.fieldLink RX6 115 "OnlyStrangersHear$Town" "away" "[I") (by decide +kernel)) (fun _ h9 => h9) rfl dX6_goes_41 ?_
    refine lv_iload_n hx hb dX6_goes_44 rfl (lv_at hl 3 rfl) ?_
    refine lv_iload_n hx hb dX6_goes_45 rfl (lv_at hl 4 rfl) ?_
    obtain ⟨b46, hf⟩ := ck_some hf
    refine va_iast hx hb hK hP hD hS 8 0 rfl rfl b46 dX6_goes_46 (fun H locs hP hD hS => ?_)
    have hP : va_P D vwCl (gX6 o_t a_t cI u2.1 ++ gX4 (a_t 0) a_t_0 cI (pA u2.2 7 x1.toNatClampNeg x2)) H := hP
    have hD : va_D A (gX6 o_t a_t cI u2.1 ++ gX4 (a_t 0) a_t_0 cI (pA u2.2 7 x1.toNatClampNeg x2)) := hD
    obtain ⟨g46, e46, hf⟩ := lt_some hf
    rw [← e46] at hP hD
    refine lv_iload hx hb dX6_goes_47 (lv_at hl 0 rfl) ?_
    have e := so_some hf
    subst e
    exact ri hx hb hK hr hlk hQ dX6_goes_49 hP hD hS
  · replace hf := it_f c17 hf
    refine lv_aload_n hx hb dX6_goes_20 rfl (lv_at hl 1 rfl) ?_
    refine lv_iload_n hx hb dX6_goes_21 rfl (lv_at hl 0 rfl) ?_
    obtain ⟨r22, u22, h22, hf⟩ := bd_some hf
    have hPc := hP.sub (ws' := gX6 o_t a_t cI u2.1) [0, 1] rfl
    have hDc := hD.sub (ws' := gX6 o_t a_t cI u2.1) [0, 1] (by decide) rfl
    refine calX (runV E0.b E0.n (As := [.int r12]) (rest := []) ⟨hx, hb, hml, hown, hts⟩ (c_X6_refused l D cI o_t a_t u2.1 r12 _ h22) gX6_goes_X6_refused rfl rfl rfl hdX6_refused ⟨by decide, by decide⟩ hK hPc hDc 0 rfl rfl rfl hl.1 rfl (Nat.le_of_ble_eq_true rfl) dX6_goes_22 ⟨Nat.zero_le _, Nat.zero_le _⟩) hP hD hS hA [0, 1] [2, 3, 4, 5, 6, 7, 8] [7, 8, 0, 1, 2, 3, 4, 5, 6] (wr := gX4 (a_t 0) a_t_0 cI u2.2) (wn := gX6 o_t a_t cI u22 ++ gX4 (a_t 0) a_t_0 cI u2.2) rfl rfl (by decide) (by decide) rfl (by decide) (fun H locs hP hD hS => ?_)
    have hP : va_P D vwCl (gX6 o_t a_t cI u22 ++ gX4 (a_t 0) a_t_0 cI u2.2) H := hP
    have hD : va_D A (gX6 o_t a_t cI u22 ++ gX4 (a_t 0) a_t_0 cI u2.2) := hD
    refine W.eq (g2 := F0 m 25 ls [.int r22]) rfl ?_
    have e := so_some hf
    subst e
    exact ri hx hb hK hr hlk hQ dX6_goes_25 hP hD hS
abbrev rmX6_sleeps : Room := { frames := 1, cells := 0, slots := 0, locals := 22 }
set_option maxHeartbeats 4000000 in
set_option maxRecDepth 100000 in
theorem c_X6_sleeps (l : Launch) (D : va_G) (cI : ClassId) (o_t : Nat) (a_t : Nat → Nat) (a_t_0 : Nat → Nat) (S_t : G) (S_t_0 : G) (x1 : Int32) (x2 : Int32) (out : Int32 × G × G) (hf : f_X6_sleeps S_t S_t_0 x1 x2 = some out) : Cn E0 l yX6_sleeps wsX6_sleeps rmX6_sleeps D cI [.ref o_t, .int x1, .int x2] (gX6 o_t a_t cI S_t ++ gX4 (a_t 0) a_t_0 cI S_t_0) (some (.int out.1)) (gX6 o_t a_t cI out.2.1 ++ gX4 (a_t 0) a_t_0 cI out.2.2) := by
  refine Cn.mk (cc := cX6_sleeps) (maxL := 5) (ret := (some .int)) (by decide) rfl (Nat.le_of_ble_eq_true rfl) ?_
  intro p e s m below meth c A ls Q hx hb hml hown hts hK hA hP hD hS hl hr hlk hnm hE hQ
  have hown : s.vm.findClass RX6 = some m.cls := hown
  have hinX4 : ∀ w ∈ u_ws RX4 TX4 10, w ∈ wsX6_sleeps := by decide +kernel
  have hinX6 : ∀ w ∈ u_ws RX6 TX6 9, w ∈ wsX6_sleeps := by decide +kernel
  unfold f_X6_sleeps at hf
  have hl : lv_has ls 5 [(0, .ref o_t), (1, .int x1), (2, .int x2)] := hl
  obtain ⟨H, hHe⟩ : ∃ H : Heap, H = s.heap := ⟨_, rfl⟩
  obtain ⟨locs, hle⟩ : ∃ q : List Loc, q = [] := ⟨_, rfl⟩
  have hS : va_S A s.heap H locs := by rw [hHe, hle]; exact hS
  rw [← hHe] at hP
  suffices hgo : W p l e rmX6_sleeps s m ([.ref o_t, .int x1, .int x2] : List Value).toArray below meth c H locs 0 0 Q (F0 m 0 ls []) by rw [hHe, hle] at hgo; exact hgo
  clear hHe hle
  refine lv_aload_n hx hb dX6_sleeps_0 rfl (lv_at hl 0 rfl) ?_
  refine lv_iload_n hx hb dX6_sleeps_1 rfl (lv_at hl 1 rfl) ?_
  obtain ⟨r2, u2, h2, hf⟩ := bd_some hf
  refine calX0 (runV E0.b E0.n (As := [.int x1]) (rest := []) ⟨hx, hb, hml, hown, hts⟩ (c_X6_noPerson l D cI o_t a_t a_t_0 S_t S_t_0 x1 _ h2) gX6_sleeps_X6_noPerson rfl rfl rfl hdX6_noPerson ⟨by decide, by decide⟩ hK hP hD 0 rfl rfl rfl hl.1 rfl (Nat.le_of_ble_eq_true rfl) dX6_sleeps_2 ⟨Nat.zero_le _, Nat.zero_le _⟩) hD hS hA (fun H locs hP hD hS => ?_)
  have hP : va_P D vwCl (gX6 o_t a_t cI u2.1 ++ gX4 (a_t 0) a_t_0 cI u2.2) H := hP
  have hD : va_D A (gX6 o_t a_t cI u2.1 ++ gX4 (a_t 0) a_t_0 cI u2.2) := hD
  refine W.eq (g2 := F0 m 5 ls [.int r2]) rfl ?_
  refine lv_iload_n hx hb dX6_sleeps_5 rfl (lv_at hl 2 rfl) ?_
  refine lv_iconst (v := (0 : Int32)) hx hb dX6_sleeps_6 (by decide) ?_
  refine lv_bipush (v := (99 : Int32)) hx hb dX6_sleeps_7 (by decide) ?_
  obtain ⟨r9, u9, h9, hf⟩ := bd_some hf
  have hPc : va_P D vwCl [] H := hP.sub (ws' := []) [] rfl
  have hDc : va_D A [] := hD.sub (ws' := []) [] (by decide) rfl
  refine calXe (runS E0.b E0.n (As := [.int x2, .int (0 : Int32), .int (99 : Int32)]) (rest := [.int r2]) ⟨hx, hb, hml, hown, hts⟩ (c_X6_range l D cI x2 (0 : Int32) (99 : Int32) _ h9) gX6_sleeps_X6_range rfl rfl rfl hdX6_range ⟨by decide, by decide⟩ hK hPc hDc rfl hl.1 rfl (Nat.le_of_ble_eq_true rfl) dX6_sleeps_9 ⟨Nat.zero_le _, Nat.zero_le _⟩) hP hD hS hA (fun H locs hP hD hS => ?_)
  have hP : va_P D vwCl (gX6 o_t a_t cI u2.1 ++ gX4 (a_t 0) a_t_0 cI u2.2) H := hP
  have hD : va_D A (gX6 o_t a_t cI u2.1 ++ gX4 (a_t 0) a_t_0 cI u2.2) := hD
  refine W.eq (g2 := F0 m 12 ls [.int r9, .int r2]) rfl ?_
  obtain ⟨r12, u12, h12, hf⟩ := bd_some hf
  have hPc : va_P D vwCl [] H := hP.sub (ws' := []) [] rfl
  have hDc : va_D A [] := hD.sub (ws' := []) [] (by decide) rfl
  refine calXe (runS E0.b E0.n (As := [.int r2, .int r9]) (rest := []) ⟨hx, hb, hml, hown, hts⟩ (c_X6_first l D cI r2 r9 _ h12) gX6_sleeps_X6_first rfl rfl rfl hdX6_first ⟨by decide, by decide⟩ hK hPc hDc rfl hl.1 rfl (Nat.le_of_ble_eq_true rfl) dX6_sleeps_12 ⟨Nat.zero_le _, Nat.zero_le _⟩) hP hD hS hA (fun H locs hP hD hS => ?_)
  have hP : va_P D vwCl (gX6 o_t a_t cI u2.1 ++ gX4 (a_t 0) a_t_0 cI u2.2) H := hP
  have hD : va_D A (gX6 o_t a_t cI u2.1 ++ gX4 (a_t 0) a_t_0 cI u2.2) := hD
  refine W.eq (g2 := F0 m 15 ls [.int r12]) rfl ?_
  refine lv_istore_n (lv' := [(3, .int r12), (0, .ref o_t), (1, .int x1), (2, .int x2)]) hx hb dX6_sleeps_15 rfl hl (by decide) rfl (fun ls hl => ?_)
  refine lv_iload_n hx hb dX6_sleeps_16 rfl (lv_at hl 0 rfl) ?_
  refine lv_if_eq (tgt := 26) hx hb dX6_sleeps_17 (by decide) (fun c17 => ?_) (fun c17 => ?_)
  · replace hf := it_t c17 hf
    refine lv_aload_n hx hb dX6_sleeps_26 rfl (lv_at hl 1 rfl) ?_
    refine va_get (D := D) (ci := 6) (v := .ref (a_t 0)) (C := RX6) (T := TX6) (N := 9) hx hb hts hinX6 hown hK hP 0 rfl rfl 0 (by decide) (hts (.fieldLink RX6 10 "OnlyStrangersHear" "now" "LOnlyStrangersHear$Town;") (by decide +kernel)) (fun _ h9 => h9) rfl dX6_sleeps_27 ?_
    refine va_get (D := D) (ci := 4) (v := .ref (a_t_0 6)) (C := RX4) (T := TX4) (N := 10) hx hb hts hinX4 hown hK hP 2 rfl rfl 6 (by decide) (hts (.fieldLink RX6 112 "OnlyStrangersHear$Town" "slept" "[I") (by decide +kernel)) (fun _ h9 => h9) rfl dX6_sleeps_30 ?_
    refine lv_iload_n hx hb dX6_sleeps_33 rfl (lv_at hl 2 rfl) ?_
    obtain ⟨b34, hf⟩ := ck_some hf
    refine va_iald hx hb hK hP 7 0 rfl rfl b34 dX6_sleeps_34 ?_
    refine lv_istore (lv' := [(4, .int (u2.2.2 6 x1.toNatClampNeg)), (3, .int r12), (0, .ref o_t), (1, .int x1), (2, .int x2)]) hx hb dX6_sleeps_35 hl (by decide) rfl (fun ls hl => ?_)
    refine lv_aload_n hx hb dX6_sleeps_37 rfl (lv_at hl 2 rfl) ?_
    refine va_get (D := D) (ci := 6) (v := .ref (a_t 0)) (C := RX6) (T := TX6) (N := 9) hx hb hts hinX6 hown hK hP 0 rfl rfl 0 (by decide) (hts (.fieldLink RX6 10 "OnlyStrangersHear" "now" "LOnlyStrangersHear$Town;") (by decide +kernel)) (fun _ h9 => h9) rfl dX6_sleeps_38 ?_
    refine va_get (D := D) (ci := 4) (v := .ref (a_t_0 6)) (C := RX4) (T := TX4) (N := 10) hx hb hts hinX4 hown hK hP 2 rfl rfl 6 (by decide) (hts (.fieldLink RX6 112 "OnlyStrangersHear$Town" "slept" "[I") (by decide +kernel)) (fun _ h9 => h9) rfl dX6_sleeps_41 ?_
    refine lv_iload_n hx hb dX6_sleeps_44 rfl (lv_at hl 3 rfl) ?_
    refine lv_iload_n hx hb dX6_sleeps_45 rfl (lv_at hl 4 rfl) ?_
    obtain ⟨b46, hf⟩ := ck_some hf
    refine va_iast hx hb hK hP hD hS 7 0 rfl rfl b46 dX6_sleeps_46 (fun H locs hP hD hS => ?_)
    have hP : va_P D vwCl (gX6 o_t a_t cI u2.1 ++ gX4 (a_t 0) a_t_0 cI (pA u2.2 6 x1.toNatClampNeg x2)) H := hP
    have hD : va_D A (gX6 o_t a_t cI u2.1 ++ gX4 (a_t 0) a_t_0 cI (pA u2.2 6 x1.toNatClampNeg x2)) := hD
    obtain ⟨g46, e46, hf⟩ := lt_some hf
    rw [← e46] at hP hD
    refine lv_iload hx hb dX6_sleeps_47 (lv_at hl 0 rfl) ?_
    have e := so_some hf
    subst e
    exact ri hx hb hK hr hlk hQ dX6_sleeps_49 hP hD hS
  · replace hf := it_f c17 hf
    refine lv_aload_n hx hb dX6_sleeps_20 rfl (lv_at hl 1 rfl) ?_
    refine lv_iload_n hx hb dX6_sleeps_21 rfl (lv_at hl 0 rfl) ?_
    obtain ⟨r22, u22, h22, hf⟩ := bd_some hf
    have hPc := hP.sub (ws' := gX6 o_t a_t cI u2.1) [0, 1] rfl
    have hDc := hD.sub (ws' := gX6 o_t a_t cI u2.1) [0, 1] (by decide) rfl
    refine calX (runV E0.b E0.n (As := [.int r12]) (rest := []) ⟨hx, hb, hml, hown, hts⟩ (c_X6_refused l D cI o_t a_t u2.1 r12 _ h22) gX6_sleeps_X6_refused rfl rfl rfl hdX6_refused ⟨by decide, by decide⟩ hK hPc hDc 0 rfl rfl rfl hl.1 rfl (Nat.le_of_ble_eq_true rfl) dX6_sleeps_22 ⟨Nat.zero_le _, Nat.zero_le _⟩) hP hD hS hA [0, 1] [2, 3, 4, 5, 6, 7, 8] [7, 8, 0, 1, 2, 3, 4, 5, 6] (wr := gX4 (a_t 0) a_t_0 cI u2.2) (wn := gX6 o_t a_t cI u22 ++ gX4 (a_t 0) a_t_0 cI u2.2) rfl rfl (by decide) (by decide) rfl (by decide) (fun H locs hP hD hS => ?_)
    have hP : va_P D vwCl (gX6 o_t a_t cI u22 ++ gX4 (a_t 0) a_t_0 cI u2.2) H := hP
    have hD : va_D A (gX6 o_t a_t cI u22 ++ gX4 (a_t 0) a_t_0 cI u2.2) := hD
    refine W.eq (g2 := F0 m 25 ls [.int r22]) rfl ?_
    have e := so_some hf
    subst e
    exact ri hx hb hK hr hlk hQ dX6_sleeps_25 hP hD hS
abbrev rmX6_beds : Room := { frames := 1, cells := 0, slots := 0, locals := 22 }
set_option maxHeartbeats 4000000 in
set_option maxRecDepth 100000 in
theorem c_X6_beds (l : Launch) (D : va_G) (cI : ClassId) (o_t : Nat) (a_t : Nat → Nat) (a_t_0 : Nat → Nat) (S_t : G) (S_t_0 : G) (x1 : Int32) (out : Int32 × G × G) (hf : f_X6_beds S_t S_t_0 x1 = some out) : Cn E0 l yX6_beds wsX6_beds rmX6_beds D cI [.ref o_t, .int x1] (gX6 o_t a_t cI S_t ++ gX4 (a_t 0) a_t_0 cI S_t_0) (some (.int out.1)) (gX6 o_t a_t cI out.2.1 ++ gX4 (a_t 0) a_t_0 cI out.2.2) := by
  refine Cn.mk (cc := cX6_beds) (maxL := 4) (ret := (some .int)) (by decide) rfl (Nat.le_of_ble_eq_true rfl) ?_
  intro p e s m below meth c A ls Q hx hb hml hown hts hK hA hP hD hS hl hr hlk hnm hE hQ
  have hown : s.vm.findClass RX6 = some m.cls := hown
  have hinX4 : ∀ w ∈ u_ws RX4 TX4 10, w ∈ wsX6_beds := by decide +kernel
  have hinX6 : ∀ w ∈ u_ws RX6 TX6 9, w ∈ wsX6_beds := by decide +kernel
  unfold f_X6_beds at hf
  have hl : lv_has ls 4 [(0, .ref o_t), (1, .int x1)] := hl
  obtain ⟨H, hHe⟩ : ∃ H : Heap, H = s.heap := ⟨_, rfl⟩
  obtain ⟨locs, hle⟩ : ∃ q : List Loc, q = [] := ⟨_, rfl⟩
  have hS : va_S A s.heap H locs := by rw [hHe, hle]; exact hS
  rw [← hHe] at hP
  suffices hgo : W p l e rmX6_beds s m ([.ref o_t, .int x1] : List Value).toArray below meth c H locs 0 0 Q (F0 m 0 ls []) by rw [hHe, hle] at hgo; exact hgo
  clear hHe hle
  refine lv_iload_n hx hb dX6_beds_0 rfl (lv_at hl 1 rfl) ?_
  refine lv_iconst (v := (1 : Int32)) hx hb dX6_beds_1 (by decide) ?_
  refine lv_bipush (v := (8 : Int32)) hx hb dX6_beds_2 (by decide) ?_
  obtain ⟨r4, u4, h4, hf⟩ := bd_some hf
  have hPc : va_P D vwCl [] H := hP.sub (ws' := []) [] rfl
  have hDc : va_D A [] := hD.sub (ws' := []) [] (by decide) rfl
  refine calXe (runS E0.b E0.n (As := [.int x1, .int (1 : Int32), .int (8 : Int32)]) (rest := []) ⟨hx, hb, hml, hown, hts⟩ (c_X6_range l D cI x1 (1 : Int32) (8 : Int32) _ h4) gX6_beds_X6_range rfl rfl rfl hdX6_range ⟨by decide, by decide⟩ hK hPc hDc rfl hl.1 rfl (Nat.le_of_ble_eq_true rfl) dX6_beds_4 ⟨Nat.zero_le _, Nat.zero_le _⟩) hP hD hS hA (fun H locs hP hD hS => ?_)
  have hP : va_P D vwCl (gX6 o_t a_t cI S_t ++ gX4 (a_t 0) a_t_0 cI S_t_0) H := hP
  have hD : va_D A (gX6 o_t a_t cI S_t ++ gX4 (a_t 0) a_t_0 cI S_t_0) := hD
  refine W.eq (g2 := F0 m 7 ls [.int r4]) rfl ?_
  refine lv_istore_n (lv' := [(2, .int r4), (0, .ref o_t), (1, .int x1)]) hx hb dX6_beds_7 rfl hl (by decide) rfl (fun ls hl => ?_)
  refine lv_iload_n hx hb dX6_beds_8 rfl (lv_at hl 0 rfl) ?_
  refine lv_if_eq (tgt := 18) hx hb dX6_beds_9 (by decide) (fun c9 => ?_) (fun c9 => ?_)
  · replace hf := it_t c9 hf
    refine lv_aload_n hx hb dX6_beds_18 rfl (lv_at hl 1 rfl) ?_
    refine va_get (D := D) (ci := 6) (v := .ref (a_t 0)) (C := RX6) (T := TX6) (N := 9) hx hb hts hinX6 hown hK hP 0 rfl rfl 0 (by decide) (hts (.fieldLink RX6 10 "OnlyStrangersHear" "now" "LOnlyStrangersHear$Town;") (by decide +kernel)) (fun _ h9 => h9) rfl dX6_beds_19 ?_
    refine va_get (D := D) (ci := 4) (v := .int (S_t_0.1 9)) (C := RX4) (T := TX4) (N := 10) hx hb hts hinX4 hown hK hP 2 rfl rfl 9 (by decide) (hts (.fieldLink RX6 128 "OnlyStrangersHear$Town" "bedCount" "I") (by decide +kernel)) (fun _ h9 => h9) rfl dX6_beds_22 ?_
    refine lv_istore_n (lv' := [(3, .int (S_t_0.1 9)), (2, .int r4), (0, .ref o_t), (1, .int x1)]) hx hb dX6_beds_25 rfl hl (by decide) rfl (fun ls hl => ?_)
    refine lv_aload_n hx hb dX6_beds_26 rfl (lv_at hl 2 rfl) ?_
    refine va_get (D := D) (ci := 6) (v := .ref (a_t 0)) (C := RX6) (T := TX6) (N := 9) hx hb hts hinX6 hown hK hP 0 rfl rfl 0 (by decide) (hts (.fieldLink RX6 10 "OnlyStrangersHear" "now" "LOnlyStrangersHear$Town;") (by decide +kernel)) (fun _ h9 => h9) rfl dX6_beds_27 ?_
    refine lv_iload_n hx hb dX6_beds_30 rfl (lv_at hl 3 rfl) ?_
    refine va_put (D := D) (ci := 4) (v := .int x1) (ty := .int) (C := RX4) (T := TX4) (N := 10) hx hb hts hinX4 tyX4 tyX4_ok nmX4 hown hK hP hD hS 2 rfl rfl 9 (by decide) (hts (.fieldLink RX6 128 "OnlyStrangersHear$Town" "bedCount" "I") (by decide +kernel)) (fun _ h9 => h9) rfl (by decide +kernel) rfl rfl (Nat.le_of_ble_eq_true rfl) dX6_beds_31 (fun H locs hP hD hS => ?_)
    have hP : va_P D vwCl (gX6 o_t a_t cI S_t ++ gX4 (a_t 0) a_t_0 cI (pF S_t_0 9 x1)) H := hP
    have hD : va_D A (gX6 o_t a_t cI S_t ++ gX4 (a_t 0) a_t_0 cI (pF S_t_0 9 x1)) := hD
    obtain ⟨g31, e31, hf⟩ := lt_some hf
    rw [← e31] at hP hD
    refine lv_iload_n hx hb dX6_beds_34 rfl (lv_at hl 0 rfl) ?_
    have e := so_some hf
    subst e
    exact ri hx hb hK hr hlk hQ dX6_beds_35 hP hD hS
  · replace hf := it_f c9 hf
    refine lv_aload_n hx hb dX6_beds_12 rfl (lv_at hl 1 rfl) ?_
    refine lv_iload_n hx hb dX6_beds_13 rfl (lv_at hl 0 rfl) ?_
    obtain ⟨r14, u14, h14, hf⟩ := bd_some hf
    have hPc := hP.sub (ws' := gX6 o_t a_t cI S_t) [0, 1] rfl
    have hDc := hD.sub (ws' := gX6 o_t a_t cI S_t) [0, 1] (by decide) rfl
    refine calX (runV E0.b E0.n (As := [.int r4]) (rest := []) ⟨hx, hb, hml, hown, hts⟩ (c_X6_refused l D cI o_t a_t S_t r4 _ h14) gX6_beds_X6_refused rfl rfl rfl hdX6_refused ⟨by decide, by decide⟩ hK hPc hDc 0 rfl rfl rfl hl.1 rfl (Nat.le_of_ble_eq_true rfl) dX6_beds_14 ⟨Nat.zero_le _, Nat.zero_le _⟩) hP hD hS hA [0, 1] [2, 3, 4, 5, 6, 7, 8] [7, 8, 0, 1, 2, 3, 4, 5, 6] (wr := gX4 (a_t 0) a_t_0 cI S_t_0) (wn := gX6 o_t a_t cI u14 ++ gX4 (a_t 0) a_t_0 cI S_t_0) rfl rfl (by decide) (by decide) rfl (by decide) (fun H locs hP hD hS => ?_)
    have hP : va_P D vwCl (gX6 o_t a_t cI u14 ++ gX4 (a_t 0) a_t_0 cI S_t_0) H := hP
    have hD : va_D A (gX6 o_t a_t cI u14 ++ gX4 (a_t 0) a_t_0 cI S_t_0) := hD
    refine W.eq (g2 := F0 m 17 ls [.int r14]) rfl ?_
    have e := so_some hf
    subst e
    exact ri hx hb hK hr hlk hQ dX6_beds_17 hP hD hS
abbrev rmX6_turn : Room := { frames := 1, cells := 0, slots := 0, locals := 23 }
set_option maxHeartbeats 4000000 in
set_option maxRecDepth 100000 in
theorem c_X6_turn (l : Launch) (D : va_G) (cI : ClassId) (o_t : Nat) (a_t : Nat → Nat) (a_t_0 : Nat → Nat) (S_t : G) (S_t_0 : G) (x1 : Int32) (x2 : Int32) (x3 : Int32) (out : Int32 × G × G) (hf : f_X6_turn S_t S_t_0 x1 x2 x3 = some out) : Cn E0 l yX6_turn wsX6_turn rmX6_turn D cI [.ref o_t, .int x1, .int x2, .int x3] (gX6 o_t a_t cI S_t ++ gX4 (a_t 0) a_t_0 cI S_t_0) (some (.int out.1)) (gX6 o_t a_t cI out.2.1 ++ gX4 (a_t 0) a_t_0 cI out.2.2) := by
  refine Cn.mk (cc := cX6_turn) (maxL := 6) (ret := (some .int)) (by decide) rfl (Nat.le_of_ble_eq_true rfl) ?_
  intro p e s m below meth c A ls Q hx hb hml hown hts hK hA hP hD hS hl hr hlk hnm hE hQ
  have hown : s.vm.findClass RX6 = some m.cls := hown
  have hinX4 : ∀ w ∈ u_ws RX4 TX4 10, w ∈ wsX6_turn := by decide +kernel
  have hinX6 : ∀ w ∈ u_ws RX6 TX6 9, w ∈ wsX6_turn := by decide +kernel
  unfold f_X6_turn at hf
  have hl : lv_has ls 6 [(0, .ref o_t), (1, .int x1), (2, .int x2), (3, .int x3)] := hl
  obtain ⟨H, hHe⟩ : ∃ H : Heap, H = s.heap := ⟨_, rfl⟩
  obtain ⟨locs, hle⟩ : ∃ q : List Loc, q = [] := ⟨_, rfl⟩
  have hS : va_S A s.heap H locs := by rw [hHe, hle]; exact hS
  rw [← hHe] at hP
  suffices hgo : W p l e rmX6_turn s m ([.ref o_t, .int x1, .int x2, .int x3] : List Value).toArray below meth c H locs 0 0 Q (F0 m 0 ls []) by rw [hHe, hle] at hgo; exact hgo
  clear hHe hle
  refine lv_aload_n hx hb dX6_turn_0 rfl (lv_at hl 0 rfl) ?_
  refine lv_iload_n hx hb dX6_turn_1 rfl (lv_at hl 1 rfl) ?_
  obtain ⟨r2, u2, h2, hf⟩ := bd_some hf
  refine calX0 (runV E0.b E0.n (As := [.int x1]) (rest := []) ⟨hx, hb, hml, hown, hts⟩ (c_X6_noPerson l D cI o_t a_t a_t_0 S_t S_t_0 x1 _ h2) gX6_turn_X6_noPerson rfl rfl rfl hdX6_noPerson ⟨by decide, by decide⟩ hK hP hD 0 rfl rfl rfl hl.1 rfl (Nat.le_of_ble_eq_true rfl) dX6_turn_2 ⟨Nat.zero_le _, Nat.zero_le _⟩) hD hS hA (fun H locs hP hD hS => ?_)
  have hP : va_P D vwCl (gX6 o_t a_t cI u2.1 ++ gX4 (a_t 0) a_t_0 cI u2.2) H := hP
  have hD : va_D A (gX6 o_t a_t cI u2.1 ++ gX4 (a_t 0) a_t_0 cI u2.2) := hD
  refine W.eq (g2 := F0 m 5 ls [.int r2]) rfl ?_
  refine lv_iload_n hx hb dX6_turn_5 rfl (lv_at hl 2 rfl) ?_
  refine lv_bipush (v := (6 : Int32)) hx hb dX6_turn_6 (by decide) ?_
  obtain ⟨r8, u8, h8, hf⟩ := bd_some hf
  have hPc : va_P D vwCl [] H := hP.sub (ws' := []) [] rfl
  have hDc : va_D A [] := hD.sub (ws' := []) [] (by decide) rfl
  refine calXe (runS E0.b E0.n (As := [.int x2, .int (6 : Int32)]) (rest := [.int r2]) ⟨hx, hb, hml, hown, hts⟩ (c_X6_choice l D cI x2 (6 : Int32) _ h8) gX6_turn_X6_choice rfl rfl rfl hdX6_choice ⟨by decide, by decide⟩ hK hPc hDc rfl hl.1 rfl (Nat.le_of_ble_eq_true rfl) dX6_turn_8 ⟨Nat.zero_le _, Nat.zero_le _⟩) hP hD hS hA (fun H locs hP hD hS => ?_)
  have hP : va_P D vwCl (gX6 o_t a_t cI u2.1 ++ gX4 (a_t 0) a_t_0 cI u2.2) H := hP
  have hD : va_D A (gX6 o_t a_t cI u2.1 ++ gX4 (a_t 0) a_t_0 cI u2.2) := hD
  refine W.eq (g2 := F0 m 11 ls [.int r8, .int r2]) rfl ?_
  obtain ⟨r11, u11, h11, hf⟩ := bd_some hf
  have hPc : va_P D vwCl [] H := hP.sub (ws' := []) [] rfl
  have hDc : va_D A [] := hD.sub (ws' := []) [] (by decide) rfl
  refine calXe (runS E0.b E0.n (As := [.int r2, .int r8]) (rest := []) ⟨hx, hb, hml, hown, hts⟩ (c_X6_first l D cI r2 r8 _ h11) gX6_turn_X6_first rfl rfl rfl hdX6_first ⟨by decide, by decide⟩ hK hPc hDc rfl hl.1 rfl (Nat.le_of_ble_eq_true rfl) dX6_turn_11 ⟨Nat.zero_le _, Nat.zero_le _⟩) hP hD hS hA (fun H locs hP hD hS => ?_)
  have hP : va_P D vwCl (gX6 o_t a_t cI u2.1 ++ gX4 (a_t 0) a_t_0 cI u2.2) H := hP
  have hD : va_D A (gX6 o_t a_t cI u2.1 ++ gX4 (a_t 0) a_t_0 cI u2.2) := hD
  refine W.eq (g2 := F0 m 14 ls [.int r11]) rfl ?_
  refine lv_istore (lv' := [(4, .int r11), (0, .ref o_t), (1, .int x1), (2, .int x2), (3, .int x3)]) hx hb dX6_turn_14 hl (by decide) rfl (fun ls hl => ?_)
  refine lv_iload hx hb dX6_turn_16 (lv_at hl 0 rfl) ?_
  refine lv_iload_n hx hb dX6_turn_18 rfl (lv_at hl 4 rfl) ?_
  refine lv_iconst (v := (0 : Int32)) hx hb dX6_turn_19 (by decide) ?_
  refine lv_bipush (v := (9 : Int32)) hx hb dX6_turn_20 (by decide) ?_
  obtain ⟨r22, u22, h22, hf⟩ := bd_some hf
  have hPc : va_P D vwCl [] H := hP.sub (ws' := []) [] rfl
  have hDc : va_D A [] := hD.sub (ws' := []) [] (by decide) rfl
  refine calXe (runS E0.b E0.n (As := [.int x3, .int (0 : Int32), .int (9 : Int32)]) (rest := [.int r11]) ⟨hx, hb, hml, hown, hts⟩ (c_X6_range l D cI x3 (0 : Int32) (9 : Int32) _ h22) gX6_turn_X6_range rfl rfl rfl hdX6_range ⟨by decide, by decide⟩ hK hPc hDc rfl hl.1 rfl (Nat.le_of_ble_eq_true rfl) dX6_turn_22 ⟨Nat.zero_le _, Nat.zero_le _⟩) hP hD hS hA (fun H locs hP hD hS => ?_)
  have hP : va_P D vwCl (gX6 o_t a_t cI u2.1 ++ gX4 (a_t 0) a_t_0 cI u2.2) H := hP
  have hD : va_D A (gX6 o_t a_t cI u2.1 ++ gX4 (a_t 0) a_t_0 cI u2.2) := hD
  refine W.eq (g2 := F0 m 25 ls [.int r22, .int r11]) rfl ?_
  obtain ⟨r25, u25, h25, hf⟩ := bd_some hf
  have hPc : va_P D vwCl [] H := hP.sub (ws' := []) [] rfl
  have hDc : va_D A [] := hD.sub (ws' := []) [] (by decide) rfl
  refine calXe (runS E0.b E0.n (As := [.int r11, .int r22]) (rest := []) ⟨hx, hb, hml, hown, hts⟩ (c_X6_first l D cI r11 r22 _ h25) gX6_turn_X6_first rfl rfl rfl hdX6_first ⟨by decide, by decide⟩ hK hPc hDc rfl hl.1 rfl (Nat.le_of_ble_eq_true rfl) dX6_turn_25 ⟨Nat.zero_le _, Nat.zero_le _⟩) hP hD hS hA (fun H locs hP hD hS => ?_)
  have hP : va_P D vwCl (gX6 o_t a_t cI u2.1 ++ gX4 (a_t 0) a_t_0 cI u2.2) H := hP
  have hD : va_D A (gX6 o_t a_t cI u2.1 ++ gX4 (a_t 0) a_t_0 cI u2.2) := hD
  refine W.eq (g2 := F0 m 28 ls [.int r25]) rfl ?_
  refine lv_istore (lv' := [(4, .int r25), (0, .ref o_t), (1, .int x1), (2, .int x2), (3, .int x3)]) hx hb dX6_turn_28 hl (by decide) rfl (fun ls hl => ?_)
  refine lv_iload hx hb dX6_turn_30 (lv_at hl 0 rfl) ?_
  refine lv_if_eq (tgt := 42) hx hb dX6_turn_32 (by decide) (fun c32 => ?_) (fun c32 => ?_)
  · replace hf := it_t c32 hf
    refine lv_bipush (v := (10 : Int32)) hx hb dX6_turn_42 (by decide) ?_
    refine lv_aload_n hx hb dX6_turn_44 rfl (lv_at hl 1 rfl) ?_
    refine va_get (D := D) (ci := 6) (v := .ref (a_t 0)) (C := RX6) (T := TX6) (N := 9) hx hb hts hinX6 hown hK hP 0 rfl rfl 0 (by decide) (hts (.fieldLink RX6 10 "OnlyStrangersHear" "now" "LOnlyStrangersHear$Town;") (by decide +kernel)) (fun _ h9 => h9) rfl dX6_turn_45 ?_
    refine va_get (D := D) (ci := 4) (v := .ref (a_t_0 4)) (C := RX4) (T := TX4) (N := 10) hx hb hts hinX4 hown hK hP 2 rfl rfl 4 (by decide) (hts (.fieldLink RX6 106 "OnlyStrangersHear$Town" "kind" "[I") (by decide +kernel)) (fun _ h9 => h9) rfl dX6_turn_48 ?_
    refine lv_iload_n hx hb dX6_turn_51 rfl (lv_at hl 2 rfl) ?_
    obtain ⟨b52, hf⟩ := ck_some hf
    refine va_iald hx hb hK hP 5 0 rfl rfl b52 dX6_turn_52 ?_
    refine lv_imul hx hb dX6_turn_53 ?_
    refine lv_aload_n hx hb dX6_turn_54 rfl (lv_at hl 1 rfl) ?_
    refine va_get (D := D) (ci := 6) (v := .ref (a_t 0)) (C := RX6) (T := TX6) (N := 9) hx hb hts hinX6 hown hK hP 0 rfl rfl 0 (by decide) (hts (.fieldLink RX6 10 "OnlyStrangersHear" "now" "LOnlyStrangersHear$Town;") (by decide +kernel)) (fun _ h9 => h9) rfl dX6_turn_55 ?_
    refine va_get (D := D) (ci := 4) (v := .ref (a_t_0 5)) (C := RX4) (T := TX4) (N := 10) hx hb hts hinX4 hown hK hP 2 rfl rfl 5 (by decide) (hts (.fieldLink RX6 109 "OnlyStrangersHear$Town" "figure" "[I") (by decide +kernel)) (fun _ h9 => h9) rfl dX6_turn_58 ?_
    refine lv_iload_n hx hb dX6_turn_61 rfl (lv_at hl 2 rfl) ?_
    obtain ⟨b62, hf⟩ := ck_some hf
    refine va_iald hx hb hK hP 6 0 rfl rfl b62 dX6_turn_62 ?_
    refine lv_iadd hx hb dX6_turn_63 ?_
    refine lv_topi (fun v64 e64 => ?_)
    replace hf := lt_at e64 hf
    refine lv_istore (lv' := [(5, .int v64), (4, .int r25), (0, .ref o_t), (1, .int x1), (2, .int x2), (3, .int x3)]) hx hb dX6_turn_64 hl (by decide) rfl (fun ls hl => ?_)
    refine lv_aload_n hx hb dX6_turn_66 rfl (lv_at hl 2 rfl) ?_
    refine va_get (D := D) (ci := 6) (v := .ref (a_t 0)) (C := RX6) (T := TX6) (N := 9) hx hb hts hinX6 hown hK hP 0 rfl rfl 0 (by decide) (hts (.fieldLink RX6 10 "OnlyStrangersHear" "now" "LOnlyStrangersHear$Town;") (by decide +kernel)) (fun _ h9 => h9) rfl dX6_turn_67 ?_
    refine lv_iload_n hx hb dX6_turn_70 rfl (lv_at hl 3 rfl) ?_
    refine lv_iload_n hx hb dX6_turn_71 rfl (lv_at hl 4 rfl) ?_
    refine lv_iload_n hx hb dX6_turn_72 rfl (lv_at hl 5 rfl) ?_
    obtain ⟨r73, u73, h73, hf⟩ := bd_some hf
    have hPc := hP.sub (ws' := gX4 (a_t 0) a_t_0 cI u2.2) [2, 3, 4, 5, 6, 7, 8] rfl
    have hDc := hD.sub (ws' := gX4 (a_t 0) a_t_0 cI u2.2) [2, 3, 4, 5, 6, 7, 8] (by decide) rfl
    refine calX (runV E0.b E0.n (As := [.int x1, .int x2, .int x3]) (rest := []) ⟨hx, hb, hml, hown, hts⟩ (c_X4_makeKind l D cI (a_t 0) a_t_0 u2.2 x1 x2 x3 _ h73) gX6_turn_X4_makeKind rfl rfl rfl hdX4_makeKind ⟨by decide, by decide⟩ hK hPc hDc 0 rfl rfl rfl hl.1 rfl (Nat.le_of_ble_eq_true rfl) dX6_turn_73 ⟨Nat.zero_le _, Nat.zero_le _⟩) hP hD hS hA [2, 3, 4, 5, 6, 7, 8] [0, 1] [0, 1, 2, 3, 4, 5, 6, 7, 8] (wr := gX6 o_t a_t cI u2.1) (wn := gX6 o_t a_t cI u2.1 ++ gX4 (a_t 0) a_t_0 cI u73) rfl rfl (by decide) (by decide) rfl (by decide) (fun H locs hP hD hS => ?_)
    have hP : va_P D vwCl (gX6 o_t a_t cI u2.1 ++ gX4 (a_t 0) a_t_0 cI u73) H := hP
    have hD : va_D A (gX6 o_t a_t cI u2.1 ++ gX4 (a_t 0) a_t_0 cI u73) := hD
    refine W.eq (g2 := F0 m 76 ls []) rfl ?_
    refine lv_iload hx hb dX6_turn_76 (lv_at hl 0 rfl) ?_
    have e := so_some hf
    subst e
    exact ri hx hb hK hr hlk hQ dX6_turn_78 hP hD hS
  · replace hf := it_f c32 hf
    refine lv_aload_n hx hb dX6_turn_35 rfl (lv_at hl 1 rfl) ?_
    refine lv_iload hx hb dX6_turn_36 (lv_at hl 0 rfl) ?_
    obtain ⟨r38, u38, h38, hf⟩ := bd_some hf
    have hPc := hP.sub (ws' := gX6 o_t a_t cI u2.1) [0, 1] rfl
    have hDc := hD.sub (ws' := gX6 o_t a_t cI u2.1) [0, 1] (by decide) rfl
    refine calX (runV E0.b E0.n (As := [.int r25]) (rest := []) ⟨hx, hb, hml, hown, hts⟩ (c_X6_refused l D cI o_t a_t u2.1 r25 _ h38) gX6_turn_X6_refused rfl rfl rfl hdX6_refused ⟨by decide, by decide⟩ hK hPc hDc 0 rfl rfl rfl hl.1 rfl (Nat.le_of_ble_eq_true rfl) dX6_turn_38 ⟨Nat.zero_le _, Nat.zero_le _⟩) hP hD hS hA [0, 1] [2, 3, 4, 5, 6, 7, 8] [7, 8, 0, 1, 2, 3, 4, 5, 6] (wr := gX4 (a_t 0) a_t_0 cI u2.2) (wn := gX6 o_t a_t cI u38 ++ gX4 (a_t 0) a_t_0 cI u2.2) rfl rfl (by decide) (by decide) rfl (by decide) (fun H locs hP hD hS => ?_)
    have hP : va_P D vwCl (gX6 o_t a_t cI u38 ++ gX4 (a_t 0) a_t_0 cI u2.2) H := hP
    have hD : va_D A (gX6 o_t a_t cI u38 ++ gX4 (a_t 0) a_t_0 cI u2.2) := hD
    refine W.eq (g2 := F0 m 41 ls [.int r38]) rfl ?_
    have e := so_some hf
    subst e
    exact ri hx hb hK hr hlk hQ dX6_turn_41 hP hD hS
abbrev rmX6_days : Room := { frames := 4, cells := 0, slots := 0, locals := 87 }
set_option maxHeartbeats 4000000 in
set_option maxRecDepth 100000 in
theorem c_X6_days (l : Launch) (D : va_G) (cI : ClassId) (o_t : Nat) (a_t : Nat → Nat) (a_t_0 : Nat → Nat) (S_t : G) (S_t_0 : G) (x1 : Int32) (out : Int32 × G × G) (hf : f_X6_days S_t S_t_0 x1 = some out) : Cn E0 l yX6_days wsX6_days rmX6_days D cI [.ref o_t, .int x1] (gX6 o_t a_t cI S_t ++ gX4 (a_t 0) a_t_0 cI S_t_0) (some (.int out.1)) (gX6 o_t a_t cI out.2.1 ++ gX4 (a_t 0) a_t_0 cI out.2.2) := by
  refine Cn.mk (cc := cX6_days) (maxL := 3) (ret := (some .int)) (by decide) rfl (Nat.le_of_ble_eq_true rfl) ?_
  intro p e s m below meth c A ls Q hx hb hml hown hts hK hA hP hD hS hl hr hlk hnm hE hQ
  have hown : s.vm.findClass RX6 = some m.cls := hown
  have hinX4 : ∀ w ∈ u_ws RX4 TX4 10, w ∈ wsX6_days := by decide +kernel
  have hinX6 : ∀ w ∈ u_ws RX6 TX6 9, w ∈ wsX6_days := by decide +kernel
  have j30 : ∀ (S_t : G) (S_t_0 : G) (l1 : Int32) (s0 : Int32) (s1 : Int32) (H : Heap) (locs : List Loc) (ls : Array Slot), f_X6_days_30 S_t S_t_0 l1 s0 s1 = some out → va_P D vwCl (gX6 o_t a_t cI S_t ++ gX4 (a_t 0) a_t_0 cI S_t_0) H → va_D A (gX6 o_t a_t cI S_t ++ gX4 (a_t 0) a_t_0 cI S_t_0) → va_S A s.heap H locs → lv_has ls 3 [(0, .ref o_t), (1, .int l1)] → W p l e rmX6_days s m ([.ref o_t, .int x1] : List Value).toArray below meth c H locs 0 0 Q (F0 m 30 ls [.int s1, .int s0]) := by
    intro S_t S_t_0 l1 s0 s1 H locs ls hf hP hD hS hl
    unfold f_X6_days_30 at hf
    obtain ⟨r30, u30, h30, hf⟩ := bd_some hf
    have hPc : va_P D vwCl [] H := hP.sub (ws' := []) [] rfl
    have hDc : va_D A [] := hD.sub (ws' := []) [] (by decide) rfl
    refine calXe (runS E0.b E0.n (As := [.int s0, .int s1]) (rest := []) ⟨hx, hb, hml, hown, hts⟩ (c_X6_first l D cI s0 s1 _ h30) gX6_days_X6_first rfl rfl rfl hdX6_first ⟨by decide, by decide⟩ hK hPc hDc rfl hl.1 rfl (Nat.le_of_ble_eq_true rfl) dX6_days_30 ⟨Nat.zero_le _, Nat.zero_le _⟩) hP hD hS hA (fun H locs hP hD hS => ?_)
    have hP : va_P D vwCl (gX6 o_t a_t cI S_t ++ gX4 (a_t 0) a_t_0 cI S_t_0) H := hP
    have hD : va_D A (gX6 o_t a_t cI S_t ++ gX4 (a_t 0) a_t_0 cI S_t_0) := hD
    refine W.eq (g2 := F0 m 33 ls [.int r30]) rfl ?_
    refine lv_istore_n (lv' := [(2, .int r30), (0, .ref o_t), (1, .int l1)]) hx hb dX6_days_33 rfl hl (by decide) rfl (fun ls hl => ?_)
    refine lv_iload_n hx hb dX6_days_34 rfl (lv_at hl 0 rfl) ?_
    refine lv_if_eq (tgt := 44) hx hb dX6_days_35 (by decide) (fun c35 => ?_) (fun c35 => ?_)
    · replace hf := it_t c35 hf
      refine lv_aload_n hx hb dX6_days_44 rfl (lv_at hl 1 rfl) ?_
      refine va_get (D := D) (ci := 6) (v := .ref (a_t 0)) (C := RX6) (T := TX6) (N := 9) hx hb hts hinX6 hown hK hP 0 rfl rfl 0 (by decide) (hts (.fieldLink RX6 10 "OnlyStrangersHear" "now" "LOnlyStrangersHear$Town;") (by decide +kernel)) (fun _ h9 => h9) rfl dX6_days_45 ?_
      refine lv_iload_n hx hb dX6_days_48 rfl (lv_at hl 2 rfl) ?_
      obtain ⟨r49, u49, h49, hf⟩ := bd_some hf
      have hPc := hP.sub (ws' := gX4 (a_t 0) a_t_0 cI S_t_0) [2, 3, 4, 5, 6, 7, 8] rfl
      have hDc := hD.sub (ws' := gX4 (a_t 0) a_t_0 cI S_t_0) [2, 3, 4, 5, 6, 7, 8] (by decide) rfl
      refine calX (runV E0.b E0.n (As := [.int l1]) (rest := []) ⟨hx, hb, hml, hown, hts⟩ (c_X4_pass l D cI (a_t 0) a_t_0 S_t_0 l1 _ h49) gX6_days_X4_pass rfl rfl rfl hdX4_pass ⟨by decide, by decide⟩ hK hPc hDc 0 rfl rfl rfl hl.1 rfl (Nat.le_of_ble_eq_true rfl) dX6_days_49 ⟨Nat.zero_le _, Nat.zero_le _⟩) hP hD hS hA [2, 3, 4, 5, 6, 7, 8] [0, 1] [0, 1, 2, 3, 4, 5, 6, 7, 8] (wr := gX6 o_t a_t cI S_t) (wn := gX6 o_t a_t cI S_t ++ gX4 (a_t 0) a_t_0 cI u49) rfl rfl (by decide) (by decide) rfl (by decide) (fun H locs hP hD hS => ?_)
      have hP : va_P D vwCl (gX6 o_t a_t cI S_t ++ gX4 (a_t 0) a_t_0 cI u49) H := hP
      have hD : va_D A (gX6 o_t a_t cI S_t ++ gX4 (a_t 0) a_t_0 cI u49) := hD
      refine W.eq (g2 := F0 m 52 ls []) rfl ?_
      refine lv_aload_n hx hb dX6_days_52 rfl (lv_at hl 1 rfl) ?_
      refine va_get (D := D) (ci := 6) (v := .ref (a_t 0)) (C := RX6) (T := TX6) (N := 9) hx hb hts hinX6 hown hK hP 0 rfl rfl 0 (by decide) (hts (.fieldLink RX6 10 "OnlyStrangersHear" "now" "LOnlyStrangersHear$Town;") (by decide +kernel)) (fun _ h9 => h9) rfl dX6_days_53 ?_
      obtain ⟨r56, u56, h56, hf⟩ := bd_some hf
      have hPc := hP.sub (ws' := gX4 (a_t 0) a_t_0 cI u49) [2, 3, 4, 5, 6, 7, 8] rfl
      have hDc := hD.sub (ws' := gX4 (a_t 0) a_t_0 cI u49) [2, 3, 4, 5, 6, 7, 8] (by decide) rfl
      refine calX (runV E0.b E0.n (As := []) (rest := []) ⟨hx, hb, hml, hown, hts⟩ (c_X4_hearersOfSome l D cI (a_t 0) a_t_0 u49 _ h56) gX6_days_X4_hearersOfSome rfl rfl rfl hdX4_hearersOfSome ⟨by decide, by decide⟩ hK hPc hDc 0 rfl rfl rfl hl.1 rfl (Nat.le_of_ble_eq_true rfl) dX6_days_56 ⟨Nat.zero_le _, Nat.zero_le _⟩) hP hD hS hA [2, 3, 4, 5, 6, 7, 8] [0, 1] [0, 1, 2, 3, 4, 5, 6, 7, 8] (wr := gX6 o_t a_t cI S_t) (wn := gX6 o_t a_t cI S_t ++ gX4 (a_t 0) a_t_0 cI u56) rfl rfl (by decide) (by decide) rfl (by decide) (fun H locs hP hD hS => ?_)
      have hP : va_P D vwCl (gX6 o_t a_t cI S_t ++ gX4 (a_t 0) a_t_0 cI u56) H := hP
      have hD : va_D A (gX6 o_t a_t cI S_t ++ gX4 (a_t 0) a_t_0 cI u56) := hD
      refine W.eq (g2 := F0 m 59 ls [.int r56]) rfl ?_
      obtain ⟨r59, u59, h59, hf⟩ := bd_some hf
      have hPc : va_P D vwCl [] H := hP.sub (ws' := []) [] rfl
      have hDc : va_D A [] := hD.sub (ws' := []) [] (by decide) rfl
      refine calXe (runS E0.b E0.n (As := [.int r56]) (rest := []) ⟨hx, hb, hml, hown, hts⟩ (c_J6_bitCount_0f7a4 l D cI r56 _ h59) gX6_days_J6_bitCount_0f7a4 rfl rfl rfl hdJ6_bitCount_0f7a4 ⟨by decide, by decide⟩ hK hPc hDc rfl hl.1 rfl (Nat.le_of_ble_eq_true rfl) dX6_days_59 ⟨Nat.zero_le _, Nat.zero_le _⟩) hP hD hS hA (fun H locs hP hD hS => ?_)
      have hP : va_P D vwCl (gX6 o_t a_t cI S_t ++ gX4 (a_t 0) a_t_0 cI u56) H := hP
      have hD : va_D A (gX6 o_t a_t cI S_t ++ gX4 (a_t 0) a_t_0 cI u56) := hD
      refine W.eq (g2 := F0 m 62 ls [.int r59]) rfl ?_
      have e := so_some hf
      subst e
      exact ri hx hb hK hr hlk hQ dX6_days_62 hP hD hS
    · replace hf := it_f c35 hf
      refine lv_aload_n hx hb dX6_days_38 rfl (lv_at hl 1 rfl) ?_
      refine lv_iload_n hx hb dX6_days_39 rfl (lv_at hl 0 rfl) ?_
      obtain ⟨r40, u40, h40, hf⟩ := bd_some hf
      have hPc := hP.sub (ws' := gX6 o_t a_t cI S_t) [0, 1] rfl
      have hDc := hD.sub (ws' := gX6 o_t a_t cI S_t) [0, 1] (by decide) rfl
      refine calX (runV E0.b E0.n (As := [.int r30]) (rest := []) ⟨hx, hb, hml, hown, hts⟩ (c_X6_refused l D cI o_t a_t S_t r30 _ h40) gX6_days_X6_refused rfl rfl rfl hdX6_refused ⟨by decide, by decide⟩ hK hPc hDc 0 rfl rfl rfl hl.1 rfl (Nat.le_of_ble_eq_true rfl) dX6_days_40 ⟨Nat.zero_le _, Nat.zero_le _⟩) hP hD hS hA [0, 1] [2, 3, 4, 5, 6, 7, 8] [7, 8, 0, 1, 2, 3, 4, 5, 6] (wr := gX4 (a_t 0) a_t_0 cI S_t_0) (wn := gX6 o_t a_t cI u40 ++ gX4 (a_t 0) a_t_0 cI S_t_0) rfl rfl (by decide) (by decide) rfl (by decide) (fun H locs hP hD hS => ?_)
      have hP : va_P D vwCl (gX6 o_t a_t cI u40 ++ gX4 (a_t 0) a_t_0 cI S_t_0) H := hP
      have hD : va_D A (gX6 o_t a_t cI u40 ++ gX4 (a_t 0) a_t_0 cI S_t_0) := hD
      refine W.eq (g2 := F0 m 43 ls [.int r40]) rfl ?_
      have e := so_some hf
      subst e
      exact ri hx hb hK hr hlk hQ dX6_days_43 hP hD hS
  unfold f_X6_days at hf
  have hl : lv_has ls 3 [(0, .ref o_t), (1, .int x1)] := hl
  obtain ⟨H, hHe⟩ : ∃ H : Heap, H = s.heap := ⟨_, rfl⟩
  obtain ⟨locs, hle⟩ : ∃ q : List Loc, q = [] := ⟨_, rfl⟩
  have hS : va_S A s.heap H locs := by rw [hHe, hle]; exact hS
  rw [← hHe] at hP
  suffices hgo : W p l e rmX6_days s m ([.ref o_t, .int x1] : List Value).toArray below meth c H locs 0 0 Q (F0 m 0 ls []) by rw [hHe, hle] at hgo; exact hgo
  clear hHe hle
  refine lv_iload_n hx hb dX6_days_0 rfl (lv_at hl 1 rfl) ?_
  refine lv_iconst (v := (1 : Int32)) hx hb dX6_days_1 (by decide) ?_
  refine lv_bipush (v := (60 : Int32)) hx hb dX6_days_2 (by decide) ?_
  obtain ⟨r4, u4, h4, hf⟩ := bd_some hf
  have hPc : va_P D vwCl [] H := hP.sub (ws' := []) [] rfl
  have hDc : va_D A [] := hD.sub (ws' := []) [] (by decide) rfl
  refine calXe (runS E0.b E0.n (As := [.int x1, .int (1 : Int32), .int (60 : Int32)]) (rest := []) ⟨hx, hb, hml, hown, hts⟩ (c_X6_range l D cI x1 (1 : Int32) (60 : Int32) _ h4) gX6_days_X6_range rfl rfl rfl hdX6_range ⟨by decide, by decide⟩ hK hPc hDc rfl hl.1 rfl (Nat.le_of_ble_eq_true rfl) dX6_days_4 ⟨Nat.zero_le _, Nat.zero_le _⟩) hP hD hS hA (fun H locs hP hD hS => ?_)
  have hP : va_P D vwCl (gX6 o_t a_t cI S_t ++ gX4 (a_t 0) a_t_0 cI S_t_0) H := hP
  have hD : va_D A (gX6 o_t a_t cI S_t ++ gX4 (a_t 0) a_t_0 cI S_t_0) := hD
  refine W.eq (g2 := F0 m 7 ls [.int r4]) rfl ?_
  refine lv_istore_n (lv' := [(2, .int r4), (0, .ref o_t), (1, .int x1)]) hx hb dX6_days_7 rfl hl (by decide) rfl (fun ls hl => ?_)
  refine lv_iload_n hx hb dX6_days_8 rfl (lv_at hl 0 rfl) ?_
  refine lv_iload_n hx hb dX6_days_9 rfl (lv_at hl 2 rfl) ?_
  refine lv_sipush (v := (999 : Int32)) hx hb dX6_days_10 (by decide) ?_
  refine lv_aload_n hx hb dX6_days_13 rfl (lv_at hl 1 rfl) ?_
  refine va_get (D := D) (ci := 6) (v := .ref (a_t 0)) (C := RX6) (T := TX6) (N := 9) hx hb hts hinX6 hown hK hP 0 rfl rfl 0 (by decide) (hts (.fieldLink RX6 10 "OnlyStrangersHear" "now" "LOnlyStrangersHear$Town;") (by decide +kernel)) (fun _ h9 => h9) rfl dX6_days_14 ?_
  refine va_get (D := D) (ci := 4) (v := .int (S_t_0.1 8)) (C := RX4) (T := TX4) (N := 10) hx hb hts hinX4 hown hK hP 2 rfl rfl 8 (by decide) (hts (.fieldLink RX6 135 "OnlyStrangersHear$Town" "day" "I") (by decide +kernel)) (fun _ h9 => h9) rfl dX6_days_17 ?_
  refine lv_isub hx hb dX6_days_20 ?_
  refine lv_icmp_gt (tgt := 28) hx hb dX6_days_21 (by decide) (fun c21 => ?_) (fun c21 => ?_)
  · replace hf := it_t c21 hf
    refine lv_bipush (v := (-6 : Int32)) hx hb dX6_days_28 (by decide) ?_
    exact j30 S_t S_t_0 x1 r4 (-6 : Int32) H locs ls hf hP hD hS (lv_sub hl [1, 2] rfl)
  · replace hf := it_f c21 hf
    refine lv_iconst (v := (0 : Int32)) hx hb dX6_days_24 (by decide) ?_
    refine lv_goto (tgt := 30) hx hb dX6_days_25 (by decide) ?_
    exact j30 S_t S_t_0 x1 r4 (0 : Int32) H locs ls hf hP hD hS (lv_sub hl [1, 2] rfl)
abbrev rmX6_personThen : Room := { frames := 4, cells := 0, slots := 0, locals := 90 }
set_option maxHeartbeats 4000000 in
set_option maxRecDepth 100000 in
theorem c_X6_personThen (l : Launch) (D : va_G) (cI : ClassId) (o_t : Nat) (a_t : Nat → Nat) (a_t_0 : Nat → Nat) (a_t_6 : Nat → Nat) (a_t_6_0 : Nat → Nat) (S_t : G) (S_t_0 : G) (S_t_6_0 : G) (x1 : Int32) (x2 : Int32) (x3 : Int32) (out : Int32 × G × G × G) (hf : f_X6_personThen S_t S_t_0 S_t_6_0 x1 x2 x3 = some out) : Cn E0 l yX6_personThen wsX6_personThen rmX6_personThen D cI [.ref o_t, .int x1, .int x2, .int x3] (gX6 o_t a_t cI S_t ++ (gX4 (a_t 0) a_t_0 cI S_t_0 ++ (gX1 (a_t 6) a_t_6 ++ gX4 (a_t_6 0) a_t_6_0 cI S_t_6_0))) (some (.int out.1)) (gX6 o_t a_t cI out.2.1 ++ (gX4 (a_t 0) a_t_0 cI out.2.2.1 ++ (gX1 (a_t 6) a_t_6 ++ gX4 (a_t_6 0) a_t_6_0 cI out.2.2.2))) := by
  refine Cn.mk (cc := cX6_personThen) (maxL := 6) (ret := (some .int)) (by decide) rfl (Nat.le_of_ble_eq_true rfl) ?_
  intro p e s m below meth c A ls Q hx hb hml hown hts hK hA hP hD hS hl hr hlk hnm hE hQ
  have hown : s.vm.findClass RX6 = some m.cls := hown
  have hinX4 : ∀ w ∈ u_ws RX4 TX4 10, w ∈ wsX6_personThen := by decide +kernel
  have hinX6 : ∀ w ∈ u_ws RX6 TX6 9, w ∈ wsX6_personThen := by decide +kernel
  unfold f_X6_personThen at hf
  have hl : lv_has ls 6 [(0, .ref o_t), (1, .int x1), (2, .int x2), (3, .int x3)] := hl
  obtain ⟨H, hHe⟩ : ∃ H : Heap, H = s.heap := ⟨_, rfl⟩
  obtain ⟨locs, hle⟩ : ∃ q : List Loc, q = [] := ⟨_, rfl⟩
  have hS : va_S A s.heap H locs := by rw [hHe, hle]; exact hS
  rw [← hHe] at hP
  suffices hgo : W p l e rmX6_personThen s m ([.ref o_t, .int x1, .int x2, .int x3] : List Value).toArray below meth c H locs 0 0 Q (F0 m 0 ls []) by rw [hHe, hle] at hgo; exact hgo
  clear hHe hle
  refine lv_aload_n hx hb dX6_personThen_0 rfl (lv_at hl 0 rfl) ?_
  refine lv_iload_n hx hb dX6_personThen_1 rfl (lv_at hl 1 rfl) ?_
  obtain ⟨r2, u2, h2, hf⟩ := bd_some hf
  have hPc := hP.sub (ws' := gX6 o_t a_t cI S_t ++ gX4 (a_t 0) a_t_0 cI S_t_0) [0, 1, 2, 3, 4, 5, 6, 7, 8] rfl
  have hDc := hD.sub (ws' := gX6 o_t a_t cI S_t ++ gX4 (a_t 0) a_t_0 cI S_t_0) [0, 1, 2, 3, 4, 5, 6, 7, 8] (by decide) rfl
  refine calX (runV E0.b E0.n (As := [.int x1]) (rest := []) ⟨hx, hb, hml, hown, hts⟩ (c_X6_noPerson l D cI o_t a_t a_t_0 S_t S_t_0 x1 _ h2) gX6_personThen_X6_noPerson rfl rfl rfl hdX6_noPerson ⟨by decide, by decide⟩ hK hPc hDc 0 rfl rfl rfl hl.1 rfl (Nat.le_of_ble_eq_true rfl) dX6_personThen_2 ⟨Nat.zero_le _, Nat.zero_le _⟩) hP hD hS hA [0, 1, 2, 3, 4, 5, 6, 7, 8] [9, 10, 11, 12, 13, 14, 15, 16] [8, 9, 10, 11, 12, 13, 14, 15, 16, 0, 1, 2, 3, 4, 5, 6, 7] (wr := gX1 (a_t 6) a_t_6 ++ gX4 (a_t_6 0) a_t_6_0 cI S_t_6_0) (wn := gX6 o_t a_t cI u2.1 ++ (gX4 (a_t 0) a_t_0 cI u2.2 ++ (gX1 (a_t 6) a_t_6 ++ gX4 (a_t_6 0) a_t_6_0 cI S_t_6_0))) rfl rfl (by decide) (by decide) rfl (by decide) (fun H locs hP hD hS => ?_)
  have hP : va_P D vwCl (gX6 o_t a_t cI u2.1 ++ (gX4 (a_t 0) a_t_0 cI u2.2 ++ (gX1 (a_t 6) a_t_6 ++ gX4 (a_t_6 0) a_t_6_0 cI S_t_6_0))) H := hP
  have hD : va_D A (gX6 o_t a_t cI u2.1 ++ (gX4 (a_t 0) a_t_0 cI u2.2 ++ (gX1 (a_t 6) a_t_6 ++ gX4 (a_t_6 0) a_t_6_0 cI S_t_6_0))) := hD
  refine W.eq (g2 := F0 m 5 ls [.int r2]) rfl ?_
  refine lv_iload_n hx hb dX6_personThen_5 rfl (lv_at hl 2 rfl) ?_
  refine lv_iconst (v := (0 : Int32)) hx hb dX6_personThen_6 (by decide) ?_
  refine lv_bipush (v := (99 : Int32)) hx hb dX6_personThen_7 (by decide) ?_
  obtain ⟨r9, u9, h9, hf⟩ := bd_some hf
  have hPc : va_P D vwCl [] H := hP.sub (ws' := []) [] rfl
  have hDc : va_D A [] := hD.sub (ws' := []) [] (by decide) rfl
  refine calXe (runS E0.b E0.n (As := [.int x2, .int (0 : Int32), .int (99 : Int32)]) (rest := [.int r2]) ⟨hx, hb, hml, hown, hts⟩ (c_X6_range l D cI x2 (0 : Int32) (99 : Int32) _ h9) gX6_personThen_X6_range rfl rfl rfl hdX6_range ⟨by decide, by decide⟩ hK hPc hDc rfl hl.1 rfl (Nat.le_of_ble_eq_true rfl) dX6_personThen_9 ⟨Nat.zero_le _, Nat.zero_le _⟩) hP hD hS hA (fun H locs hP hD hS => ?_)
  have hP : va_P D vwCl (gX6 o_t a_t cI u2.1 ++ (gX4 (a_t 0) a_t_0 cI u2.2 ++ (gX1 (a_t 6) a_t_6 ++ gX4 (a_t_6 0) a_t_6_0 cI S_t_6_0))) H := hP
  have hD : va_D A (gX6 o_t a_t cI u2.1 ++ (gX4 (a_t 0) a_t_0 cI u2.2 ++ (gX1 (a_t 6) a_t_6 ++ gX4 (a_t_6 0) a_t_6_0 cI S_t_6_0))) := hD
  refine W.eq (g2 := F0 m 12 ls [.int r9, .int r2]) rfl ?_
  obtain ⟨r12, u12, h12, hf⟩ := bd_some hf
  have hPc : va_P D vwCl [] H := hP.sub (ws' := []) [] rfl
  have hDc : va_D A [] := hD.sub (ws' := []) [] (by decide) rfl
  refine calXe (runS E0.b E0.n (As := [.int r2, .int r9]) (rest := []) ⟨hx, hb, hml, hown, hts⟩ (c_X6_first l D cI r2 r9 _ h12) gX6_personThen_X6_first rfl rfl rfl hdX6_first ⟨by decide, by decide⟩ hK hPc hDc rfl hl.1 rfl (Nat.le_of_ble_eq_true rfl) dX6_personThen_12 ⟨Nat.zero_le _, Nat.zero_le _⟩) hP hD hS hA (fun H locs hP hD hS => ?_)
  have hP : va_P D vwCl (gX6 o_t a_t cI u2.1 ++ (gX4 (a_t 0) a_t_0 cI u2.2 ++ (gX1 (a_t 6) a_t_6 ++ gX4 (a_t_6 0) a_t_6_0 cI S_t_6_0))) H := hP
  have hD : va_D A (gX6 o_t a_t cI u2.1 ++ (gX4 (a_t 0) a_t_0 cI u2.2 ++ (gX1 (a_t 6) a_t_6 ++ gX4 (a_t_6 0) a_t_6_0 cI S_t_6_0))) := hD
  refine W.eq (g2 := F0 m 15 ls [.int r12]) rfl ?_
  refine lv_istore (lv' := [(4, .int r12), (0, .ref o_t), (1, .int x1), (2, .int x2), (3, .int x3)]) hx hb dX6_personThen_15 hl (by decide) rfl (fun ls hl => ?_)
  refine lv_iload hx hb dX6_personThen_17 (lv_at hl 0 rfl) ?_
  refine lv_iload_n hx hb dX6_personThen_19 rfl (lv_at hl 4 rfl) ?_
  refine lv_iconst (v := (2 : Int32)) hx hb dX6_personThen_20 (by decide) ?_
  obtain ⟨r21, u21, h21, hf⟩ := bd_some hf
  have hPc : va_P D vwCl [] H := hP.sub (ws' := []) [] rfl
  have hDc : va_D A [] := hD.sub (ws' := []) [] (by decide) rfl
  refine calXe (runS E0.b E0.n (As := [.int x3, .int (2 : Int32)]) (rest := [.int r12]) ⟨hx, hb, hml, hown, hts⟩ (c_X6_choice l D cI x3 (2 : Int32) _ h21) gX6_personThen_X6_choice rfl rfl rfl hdX6_choice ⟨by decide, by decide⟩ hK hPc hDc rfl hl.1 rfl (Nat.le_of_ble_eq_true rfl) dX6_personThen_21 ⟨Nat.zero_le _, Nat.zero_le _⟩) hP hD hS hA (fun H locs hP hD hS => ?_)
  have hP : va_P D vwCl (gX6 o_t a_t cI u2.1 ++ (gX4 (a_t 0) a_t_0 cI u2.2 ++ (gX1 (a_t 6) a_t_6 ++ gX4 (a_t_6 0) a_t_6_0 cI S_t_6_0))) H := hP
  have hD : va_D A (gX6 o_t a_t cI u2.1 ++ (gX4 (a_t 0) a_t_0 cI u2.2 ++ (gX1 (a_t 6) a_t_6 ++ gX4 (a_t_6 0) a_t_6_0 cI S_t_6_0))) := hD
  refine W.eq (g2 := F0 m 24 ls [.int r21, .int r12]) rfl ?_
  obtain ⟨r24, u24, h24, hf⟩ := bd_some hf
  have hPc : va_P D vwCl [] H := hP.sub (ws' := []) [] rfl
  have hDc : va_D A [] := hD.sub (ws' := []) [] (by decide) rfl
  refine calXe (runS E0.b E0.n (As := [.int r12, .int r21]) (rest := []) ⟨hx, hb, hml, hown, hts⟩ (c_X6_first l D cI r12 r21 _ h24) gX6_personThen_X6_first rfl rfl rfl hdX6_first ⟨by decide, by decide⟩ hK hPc hDc rfl hl.1 rfl (Nat.le_of_ble_eq_true rfl) dX6_personThen_24 ⟨Nat.zero_le _, Nat.zero_le _⟩) hP hD hS hA (fun H locs hP hD hS => ?_)
  have hP : va_P D vwCl (gX6 o_t a_t cI u2.1 ++ (gX4 (a_t 0) a_t_0 cI u2.2 ++ (gX1 (a_t 6) a_t_6 ++ gX4 (a_t_6 0) a_t_6_0 cI S_t_6_0))) H := hP
  have hD : va_D A (gX6 o_t a_t cI u2.1 ++ (gX4 (a_t 0) a_t_0 cI u2.2 ++ (gX1 (a_t 6) a_t_6 ++ gX4 (a_t_6 0) a_t_6_0 cI S_t_6_0))) := hD
  refine W.eq (g2 := F0 m 27 ls [.int r24]) rfl ?_
  refine lv_istore (lv' := [(4, .int r24), (0, .ref o_t), (1, .int x1), (2, .int x2), (3, .int x3)]) hx hb dX6_personThen_27 hl (by decide) rfl (fun ls hl => ?_)
  refine lv_iload hx hb dX6_personThen_29 (lv_at hl 0 rfl) ?_
  refine lv_if_eq (tgt := 41) hx hb dX6_personThen_31 (by decide) (fun c31 => ?_) (fun c31 => ?_)
  · replace hf := it_t c31 hf
    refine lv_aload_n hx hb dX6_personThen_41 rfl (lv_at hl 1 rfl) ?_
    refine va_get (D := D) (ci := 6) (v := .ref (a_t 6)) (C := RX6) (T := TX6) (N := 9) hx hb hts hinX6 hown hK hP 0 rfl rfl 6 (by decide) (hts (.fieldLink RX6 43 "OnlyStrangersHear" "mind" "LOnlyStrangersHear$Mind;") (by decide +kernel)) (fun _ h9 => h9) rfl dX6_personThen_42 ?_
    refine lv_aload_n hx hb dX6_personThen_45 rfl (lv_at hl 1 rfl) ?_
    refine va_get (D := D) (ci := 6) (v := .ref (a_t 0)) (C := RX6) (T := TX6) (N := 9) hx hb hts hinX6 hown hK hP 0 rfl rfl 0 (by decide) (hts (.fieldLink RX6 10 "OnlyStrangersHear" "now" "LOnlyStrangersHear$Town;") (by decide +kernel)) (fun _ h9 => h9) rfl dX6_personThen_46 ?_
    refine lv_iload_n hx hb dX6_personThen_49 rfl (lv_at hl 3 rfl) ?_
    obtain ⟨r50, u50, h50, hf⟩ := bd_some hf
    have hPc := hP.sub (ws' := gX1 (a_t 6) a_t_6 ++ (gX4 (a_t_6 0) a_t_6_0 cI S_t_6_0 ++ gX4 (a_t 0) a_t_0 cI u2.2)) [9, 10, 11, 12, 13, 14, 15, 16, 2, 3, 4, 5, 6, 7, 8] rfl
    have hDc := hD.sub (ws' := gX1 (a_t 6) a_t_6 ++ (gX4 (a_t_6 0) a_t_6_0 cI S_t_6_0 ++ gX4 (a_t 0) a_t_0 cI u2.2)) [9, 10, 11, 12, 13, 14, 15, 16, 2, 3, 4, 5, 6, 7, 8] (by decide) rfl
    refine calX (runV E0.b E0.n (As := [.ref (a_t 0), .int x2]) (rest := []) ⟨hx, hb, hml, hown, hts⟩ (c_X1_after l D cI (a_t 6) a_t_6 a_t_6_0 (a_t 0) a_t_0 S_t_6_0 u2.2 x2 _ h50) gX6_personThen_X1_after rfl rfl rfl hdX1_after ⟨by decide, by decide⟩ hK hPc hDc 0 rfl rfl rfl hl.1 rfl (Nat.le_of_ble_eq_true rfl) dX6_personThen_50 ⟨Nat.zero_le _, Nat.zero_le _⟩) hP hD hS hA [9, 10, 11, 12, 13, 14, 15, 16, 2, 3, 4, 5, 6, 7, 8] [0, 1] [0, 1, 10, 11, 12, 13, 14, 15, 16, 2, 3, 4, 5, 6, 7, 8, 9] (wr := gX6 o_t a_t cI u2.1) (wn := gX6 o_t a_t cI u2.1 ++ (gX4 (a_t 0) a_t_0 cI u50.2 ++ (gX1 (a_t 6) a_t_6 ++ gX4 (a_t_6 0) a_t_6_0 cI u50.1))) rfl rfl (by decide) (by decide) rfl (by decide) (fun H locs hP hD hS => ?_)
    have hP : va_P D vwCl (gX6 o_t a_t cI u2.1 ++ (gX4 (a_t 0) a_t_0 cI u50.2 ++ (gX1 (a_t 6) a_t_6 ++ gX4 (a_t_6 0) a_t_6_0 cI u50.1))) H := hP
    have hD : va_D A (gX6 o_t a_t cI u2.1 ++ (gX4 (a_t 0) a_t_0 cI u50.2 ++ (gX1 (a_t 6) a_t_6 ++ gX4 (a_t_6 0) a_t_6_0 cI u50.1))) := hD
    refine W.eq (g2 := F0 m 53 ls [.ref (a_t_6 0)]) rfl ?_
    refine lv_astore (lv' := [(5, .ref (a_t_6 0)), (4, .int r24), (0, .ref o_t), (1, .int x1), (2, .int x2), (3, .int x3)]) hx hb dX6_personThen_53 hl (by decide) rfl (fun ls hl => ?_)
    refine lv_iload_n hx hb dX6_personThen_55 rfl (lv_at hl 5 rfl) ?_
    refine lv_if_ne (tgt := 69) hx hb dX6_personThen_56 (by decide) (fun c56 => ?_) (fun c56 => ?_)
    · replace hf := it_f c56 hf
      refine lv_aload hx hb dX6_personThen_69 (lv_at hl 0 rfl) ?_
      refine va_get (D := D) (ci := 4) (v := .ref (a_t_6_0 7)) (C := RX4) (T := TX4) (N := 10) hx hb hts hinX4 hown hK hP 10 rfl rfl 7 (by decide) (hts (.fieldLink RX6 115 "OnlyStrangersHear$Town" "away" "[I") (by decide +kernel)) (fun _ h9 => h9) rfl dX6_personThen_71 ?_
      refine lv_iload_n hx hb dX6_personThen_74 rfl (lv_at hl 3 rfl) ?_
      obtain ⟨b75, hf⟩ := ck_some hf
      refine va_iald hx hb hK hP 16 0 rfl rfl b75 dX6_personThen_75 ?_
      have e := so_some hf
      subst e
      exact ri hx hb hK hr hlk hQ dX6_personThen_76 hP hD hS
    · replace hf := it_t c56 hf
      refine lv_aload hx hb dX6_personThen_59 (lv_at hl 0 rfl) ?_
      refine va_get (D := D) (ci := 4) (v := .ref (a_t_6_0 6)) (C := RX4) (T := TX4) (N := 10) hx hb hts hinX4 hown hK hP 10 rfl rfl 6 (by decide) (hts (.fieldLink RX6 112 "OnlyStrangersHear$Town" "slept" "[I") (by decide +kernel)) (fun _ h9 => h9) rfl dX6_personThen_61 ?_
      refine lv_iload_n hx hb dX6_personThen_64 rfl (lv_at hl 3 rfl) ?_
      obtain ⟨b65, hf⟩ := ck_some hf
      refine va_iald hx hb hK hP 15 0 rfl rfl b65 dX6_personThen_65 ?_
      refine lv_goto (tgt := 76) hx hb dX6_personThen_66 (by decide) ?_
      have e := so_some hf
      subst e
      exact ri hx hb hK hr hlk hQ dX6_personThen_76 hP hD hS
  · replace hf := it_f c31 hf
    refine lv_aload_n hx hb dX6_personThen_34 rfl (lv_at hl 1 rfl) ?_
    refine lv_iload hx hb dX6_personThen_35 (lv_at hl 0 rfl) ?_
    obtain ⟨r37, u37, h37, hf⟩ := bd_some hf
    have hPc := hP.sub (ws' := gX6 o_t a_t cI u2.1) [0, 1] rfl
    have hDc := hD.sub (ws' := gX6 o_t a_t cI u2.1) [0, 1] (by decide) rfl
    refine calX (runV E0.b E0.n (As := [.int r24]) (rest := []) ⟨hx, hb, hml, hown, hts⟩ (c_X6_refused l D cI o_t a_t u2.1 r24 _ h37) gX6_personThen_X6_refused rfl rfl rfl hdX6_refused ⟨by decide, by decide⟩ hK hPc hDc 0 rfl rfl rfl hl.1 rfl (Nat.le_of_ble_eq_true rfl) dX6_personThen_37 ⟨Nat.zero_le _, Nat.zero_le _⟩) hP hD hS hA [0, 1] [2, 3, 4, 5, 6, 7, 8, 9, 10, 11, 12, 13, 14, 15, 16] [15, 16, 0, 1, 2, 3, 4, 5, 6, 7, 8, 9, 10, 11, 12, 13, 14] (wr := gX4 (a_t 0) a_t_0 cI u2.2 ++ (gX1 (a_t 6) a_t_6 ++ gX4 (a_t_6 0) a_t_6_0 cI S_t_6_0)) (wn := gX6 o_t a_t cI u37 ++ (gX4 (a_t 0) a_t_0 cI u2.2 ++ (gX1 (a_t 6) a_t_6 ++ gX4 (a_t_6 0) a_t_6_0 cI S_t_6_0))) rfl rfl (by decide) (by decide) rfl (by decide) (fun H locs hP hD hS => ?_)
    have hP : va_P D vwCl (gX6 o_t a_t cI u37 ++ (gX4 (a_t 0) a_t_0 cI u2.2 ++ (gX1 (a_t 6) a_t_6 ++ gX4 (a_t_6 0) a_t_6_0 cI S_t_6_0))) H := hP
    have hD : va_D A (gX6 o_t a_t cI u37 ++ (gX4 (a_t 0) a_t_0 cI u2.2 ++ (gX1 (a_t 6) a_t_6 ++ gX4 (a_t_6 0) a_t_6_0 cI S_t_6_0))) := hD
    refine W.eq (g2 := F0 m 40 ls [.int r37]) rfl ?_
    have e := so_some hf
    subst e
    exact ri hx hb hK hr hlk hQ dX6_personThen_40 hP hD hS
abbrev rmX6_bellThen : Room := { frames := 4, cells := 0, slots := 0, locals := 90 }
set_option maxHeartbeats 4000000 in
set_option maxRecDepth 100000 in
theorem c_X6_bellThen (l : Launch) (D : va_G) (cI : ClassId) (o_t : Nat) (a_t : Nat → Nat) (a_t_0 : Nat → Nat) (a_t_6 : Nat → Nat) (a_t_6_0 : Nat → Nat) (S_t : G) (S_t_0 : G) (S_t_6_0 : G) (x1 : Int32) (x2 : Int32) (x3 : Int32) (out : Int32 × G × G × G) (hf : f_X6_bellThen S_t S_t_0 S_t_6_0 x1 x2 x3 = some out) : Cn E0 l yX6_bellThen wsX6_bellThen rmX6_bellThen D cI [.ref o_t, .int x1, .int x2, .int x3] (gX6 o_t a_t cI S_t ++ (gX4 (a_t 0) a_t_0 cI S_t_0 ++ (gX1 (a_t 6) a_t_6 ++ gX4 (a_t_6 0) a_t_6_0 cI S_t_6_0))) (some (.int out.1)) (gX6 o_t a_t cI out.2.1 ++ (gX4 (a_t 0) a_t_0 cI out.2.2.1 ++ (gX1 (a_t 6) a_t_6 ++ gX4 (a_t_6 0) a_t_6_0 cI out.2.2.2))) := by
  refine Cn.mk (cc := cX6_bellThen) (maxL := 7) (ret := (some .int)) (by decide) rfl (Nat.le_of_ble_eq_true rfl) ?_
  intro p e s m below meth c A ls Q hx hb hml hown hts hK hA hP hD hS hl hr hlk hnm hE hQ
  have hown : s.vm.findClass RX6 = some m.cls := hown
  have hinX6 : ∀ w ∈ u_ws RX6 TX6 9, w ∈ wsX6_bellThen := by decide +kernel
  unfold f_X6_bellThen at hf
  have hl : lv_has ls 7 [(0, .ref o_t), (1, .int x1), (2, .int x2), (3, .int x3)] := hl
  obtain ⟨H, hHe⟩ : ∃ H : Heap, H = s.heap := ⟨_, rfl⟩
  obtain ⟨locs, hle⟩ : ∃ q : List Loc, q = [] := ⟨_, rfl⟩
  have hS : va_S A s.heap H locs := by rw [hHe, hle]; exact hS
  rw [← hHe] at hP
  suffices hgo : W p l e rmX6_bellThen s m ([.ref o_t, .int x1, .int x2, .int x3] : List Value).toArray below meth c H locs 0 0 Q (F0 m 0 ls []) by rw [hHe, hle] at hgo; exact hgo
  clear hHe hle
  refine lv_aload_n hx hb dX6_bellThen_0 rfl (lv_at hl 0 rfl) ?_
  refine lv_iload_n hx hb dX6_bellThen_1 rfl (lv_at hl 1 rfl) ?_
  obtain ⟨r2, u2, h2, hf⟩ := bd_some hf
  have hPc := hP.sub (ws' := gX6 o_t a_t cI S_t ++ gX4 (a_t 0) a_t_0 cI S_t_0) [0, 1, 2, 3, 4, 5, 6, 7, 8] rfl
  have hDc := hD.sub (ws' := gX6 o_t a_t cI S_t ++ gX4 (a_t 0) a_t_0 cI S_t_0) [0, 1, 2, 3, 4, 5, 6, 7, 8] (by decide) rfl
  refine calX (runV E0.b E0.n (As := [.int x1]) (rest := []) ⟨hx, hb, hml, hown, hts⟩ (c_X6_noBell l D cI o_t a_t a_t_0 S_t S_t_0 x1 _ h2) gX6_bellThen_X6_noBell rfl rfl rfl hdX6_noBell ⟨by decide, by decide⟩ hK hPc hDc 0 rfl rfl rfl hl.1 rfl (Nat.le_of_ble_eq_true rfl) dX6_bellThen_2 ⟨Nat.zero_le _, Nat.zero_le _⟩) hP hD hS hA [0, 1, 2, 3, 4, 5, 6, 7, 8] [9, 10, 11, 12, 13, 14, 15, 16] [8, 9, 10, 11, 12, 13, 14, 15, 16, 0, 1, 2, 3, 4, 5, 6, 7] (wr := gX1 (a_t 6) a_t_6 ++ gX4 (a_t_6 0) a_t_6_0 cI S_t_6_0) (wn := gX6 o_t a_t cI u2.1 ++ (gX4 (a_t 0) a_t_0 cI u2.2 ++ (gX1 (a_t 6) a_t_6 ++ gX4 (a_t_6 0) a_t_6_0 cI S_t_6_0))) rfl rfl (by decide) (by decide) rfl (by decide) (fun H locs hP hD hS => ?_)
  have hP : va_P D vwCl (gX6 o_t a_t cI u2.1 ++ (gX4 (a_t 0) a_t_0 cI u2.2 ++ (gX1 (a_t 6) a_t_6 ++ gX4 (a_t_6 0) a_t_6_0 cI S_t_6_0))) H := hP
  have hD : va_D A (gX6 o_t a_t cI u2.1 ++ (gX4 (a_t 0) a_t_0 cI u2.2 ++ (gX1 (a_t 6) a_t_6 ++ gX4 (a_t_6 0) a_t_6_0 cI S_t_6_0))) := hD
  refine W.eq (g2 := F0 m 5 ls [.int r2]) rfl ?_
  refine lv_iload_n hx hb dX6_bellThen_5 rfl (lv_at hl 2 rfl) ?_
  refine lv_iconst (v := (0 : Int32)) hx hb dX6_bellThen_6 (by decide) ?_
  refine lv_bipush (v := (99 : Int32)) hx hb dX6_bellThen_7 (by decide) ?_
  obtain ⟨r9, u9, h9, hf⟩ := bd_some hf
  have hPc : va_P D vwCl [] H := hP.sub (ws' := []) [] rfl
  have hDc : va_D A [] := hD.sub (ws' := []) [] (by decide) rfl
  refine calXe (runS E0.b E0.n (As := [.int x2, .int (0 : Int32), .int (99 : Int32)]) (rest := [.int r2]) ⟨hx, hb, hml, hown, hts⟩ (c_X6_range l D cI x2 (0 : Int32) (99 : Int32) _ h9) gX6_bellThen_X6_range rfl rfl rfl hdX6_range ⟨by decide, by decide⟩ hK hPc hDc rfl hl.1 rfl (Nat.le_of_ble_eq_true rfl) dX6_bellThen_9 ⟨Nat.zero_le _, Nat.zero_le _⟩) hP hD hS hA (fun H locs hP hD hS => ?_)
  have hP : va_P D vwCl (gX6 o_t a_t cI u2.1 ++ (gX4 (a_t 0) a_t_0 cI u2.2 ++ (gX1 (a_t 6) a_t_6 ++ gX4 (a_t_6 0) a_t_6_0 cI S_t_6_0))) H := hP
  have hD : va_D A (gX6 o_t a_t cI u2.1 ++ (gX4 (a_t 0) a_t_0 cI u2.2 ++ (gX1 (a_t 6) a_t_6 ++ gX4 (a_t_6 0) a_t_6_0 cI S_t_6_0))) := hD
  refine W.eq (g2 := F0 m 12 ls [.int r9, .int r2]) rfl ?_
  obtain ⟨r12, u12, h12, hf⟩ := bd_some hf
  have hPc : va_P D vwCl [] H := hP.sub (ws' := []) [] rfl
  have hDc : va_D A [] := hD.sub (ws' := []) [] (by decide) rfl
  refine calXe (runS E0.b E0.n (As := [.int r2, .int r9]) (rest := []) ⟨hx, hb, hml, hown, hts⟩ (c_X6_first l D cI r2 r9 _ h12) gX6_bellThen_X6_first rfl rfl rfl hdX6_first ⟨by decide, by decide⟩ hK hPc hDc rfl hl.1 rfl (Nat.le_of_ble_eq_true rfl) dX6_bellThen_12 ⟨Nat.zero_le _, Nat.zero_le _⟩) hP hD hS hA (fun H locs hP hD hS => ?_)
  have hP : va_P D vwCl (gX6 o_t a_t cI u2.1 ++ (gX4 (a_t 0) a_t_0 cI u2.2 ++ (gX1 (a_t 6) a_t_6 ++ gX4 (a_t_6 0) a_t_6_0 cI S_t_6_0))) H := hP
  have hD : va_D A (gX6 o_t a_t cI u2.1 ++ (gX4 (a_t 0) a_t_0 cI u2.2 ++ (gX1 (a_t 6) a_t_6 ++ gX4 (a_t_6 0) a_t_6_0 cI S_t_6_0))) := hD
  refine W.eq (g2 := F0 m 15 ls [.int r12]) rfl ?_
  refine lv_istore (lv' := [(4, .int r12), (0, .ref o_t), (1, .int x1), (2, .int x2), (3, .int x3)]) hx hb dX6_bellThen_15 hl (by decide) rfl (fun ls hl => ?_)
  refine lv_iload hx hb dX6_bellThen_17 (lv_at hl 0 rfl) ?_
  refine lv_iload_n hx hb dX6_bellThen_19 rfl (lv_at hl 4 rfl) ?_
  refine lv_iconst (v := (2 : Int32)) hx hb dX6_bellThen_20 (by decide) ?_
  obtain ⟨r21, u21, h21, hf⟩ := bd_some hf
  have hPc : va_P D vwCl [] H := hP.sub (ws' := []) [] rfl
  have hDc : va_D A [] := hD.sub (ws' := []) [] (by decide) rfl
  refine calXe (runS E0.b E0.n (As := [.int x3, .int (2 : Int32)]) (rest := [.int r12]) ⟨hx, hb, hml, hown, hts⟩ (c_X6_choice l D cI x3 (2 : Int32) _ h21) gX6_bellThen_X6_choice rfl rfl rfl hdX6_choice ⟨by decide, by decide⟩ hK hPc hDc rfl hl.1 rfl (Nat.le_of_ble_eq_true rfl) dX6_bellThen_21 ⟨Nat.zero_le _, Nat.zero_le _⟩) hP hD hS hA (fun H locs hP hD hS => ?_)
  have hP : va_P D vwCl (gX6 o_t a_t cI u2.1 ++ (gX4 (a_t 0) a_t_0 cI u2.2 ++ (gX1 (a_t 6) a_t_6 ++ gX4 (a_t_6 0) a_t_6_0 cI S_t_6_0))) H := hP
  have hD : va_D A (gX6 o_t a_t cI u2.1 ++ (gX4 (a_t 0) a_t_0 cI u2.2 ++ (gX1 (a_t 6) a_t_6 ++ gX4 (a_t_6 0) a_t_6_0 cI S_t_6_0))) := hD
  refine W.eq (g2 := F0 m 24 ls [.int r21, .int r12]) rfl ?_
  obtain ⟨r24, u24, h24, hf⟩ := bd_some hf
  have hPc : va_P D vwCl [] H := hP.sub (ws' := []) [] rfl
  have hDc : va_D A [] := hD.sub (ws' := []) [] (by decide) rfl
  refine calXe (runS E0.b E0.n (As := [.int r12, .int r21]) (rest := []) ⟨hx, hb, hml, hown, hts⟩ (c_X6_first l D cI r12 r21 _ h24) gX6_bellThen_X6_first rfl rfl rfl hdX6_first ⟨by decide, by decide⟩ hK hPc hDc rfl hl.1 rfl (Nat.le_of_ble_eq_true rfl) dX6_bellThen_24 ⟨Nat.zero_le _, Nat.zero_le _⟩) hP hD hS hA (fun H locs hP hD hS => ?_)
  have hP : va_P D vwCl (gX6 o_t a_t cI u2.1 ++ (gX4 (a_t 0) a_t_0 cI u2.2 ++ (gX1 (a_t 6) a_t_6 ++ gX4 (a_t_6 0) a_t_6_0 cI S_t_6_0))) H := hP
  have hD : va_D A (gX6 o_t a_t cI u2.1 ++ (gX4 (a_t 0) a_t_0 cI u2.2 ++ (gX1 (a_t 6) a_t_6 ++ gX4 (a_t_6 0) a_t_6_0 cI S_t_6_0))) := hD
  refine W.eq (g2 := F0 m 27 ls [.int r24]) rfl ?_
  refine lv_istore (lv' := [(4, .int r24), (0, .ref o_t), (1, .int x1), (2, .int x2), (3, .int x3)]) hx hb dX6_bellThen_27 hl (by decide) rfl (fun ls hl => ?_)
  refine lv_iload hx hb dX6_bellThen_29 (lv_at hl 0 rfl) ?_
  refine lv_if_eq (tgt := 41) hx hb dX6_bellThen_31 (by decide) (fun c31 => ?_) (fun c31 => ?_)
  · replace hf := it_t c31 hf
    refine lv_aload_n hx hb dX6_bellThen_41 rfl (lv_at hl 1 rfl) ?_
    refine va_get (D := D) (ci := 6) (v := .ref (a_t 6)) (C := RX6) (T := TX6) (N := 9) hx hb hts hinX6 hown hK hP 0 rfl rfl 6 (by decide) (hts (.fieldLink RX6 43 "OnlyStrangersHear" "mind" "LOnlyStrangersHear$Mind;") (by decide +kernel)) (fun _ h9 => h9) rfl dX6_bellThen_42 ?_
    refine lv_aload_n hx hb dX6_bellThen_45 rfl (lv_at hl 1 rfl) ?_
    refine va_get (D := D) (ci := 6) (v := .ref (a_t 0)) (C := RX6) (T := TX6) (N := 9) hx hb hts hinX6 hown hK hP 0 rfl rfl 0 (by decide) (hts (.fieldLink RX6 10 "OnlyStrangersHear" "now" "LOnlyStrangersHear$Town;") (by decide +kernel)) (fun _ h9 => h9) rfl dX6_bellThen_46 ?_
    refine lv_iload_n hx hb dX6_bellThen_49 rfl (lv_at hl 3 rfl) ?_
    obtain ⟨r50, u50, h50, hf⟩ := bd_some hf
    have hPc := hP.sub (ws' := gX1 (a_t 6) a_t_6 ++ (gX4 (a_t_6 0) a_t_6_0 cI S_t_6_0 ++ gX4 (a_t 0) a_t_0 cI u2.2)) [9, 10, 11, 12, 13, 14, 15, 16, 2, 3, 4, 5, 6, 7, 8] rfl
    have hDc := hD.sub (ws' := gX1 (a_t 6) a_t_6 ++ (gX4 (a_t_6 0) a_t_6_0 cI S_t_6_0 ++ gX4 (a_t 0) a_t_0 cI u2.2)) [9, 10, 11, 12, 13, 14, 15, 16, 2, 3, 4, 5, 6, 7, 8] (by decide) rfl
    refine calX (runV E0.b E0.n (As := [.ref (a_t 0), .int x2]) (rest := []) ⟨hx, hb, hml, hown, hts⟩ (c_X1_after l D cI (a_t 6) a_t_6 a_t_6_0 (a_t 0) a_t_0 S_t_6_0 u2.2 x2 _ h50) gX6_bellThen_X1_after rfl rfl rfl hdX1_after ⟨by decide, by decide⟩ hK hPc hDc 0 rfl rfl rfl hl.1 rfl (Nat.le_of_ble_eq_true rfl) dX6_bellThen_50 ⟨Nat.zero_le _, Nat.zero_le _⟩) hP hD hS hA [9, 10, 11, 12, 13, 14, 15, 16, 2, 3, 4, 5, 6, 7, 8] [0, 1] [0, 1, 10, 11, 12, 13, 14, 15, 16, 2, 3, 4, 5, 6, 7, 8, 9] (wr := gX6 o_t a_t cI u2.1) (wn := gX6 o_t a_t cI u2.1 ++ (gX4 (a_t 0) a_t_0 cI u50.2 ++ (gX1 (a_t 6) a_t_6 ++ gX4 (a_t_6 0) a_t_6_0 cI u50.1))) rfl rfl (by decide) (by decide) rfl (by decide) (fun H locs hP hD hS => ?_)
    have hP : va_P D vwCl (gX6 o_t a_t cI u2.1 ++ (gX4 (a_t 0) a_t_0 cI u50.2 ++ (gX1 (a_t 6) a_t_6 ++ gX4 (a_t_6 0) a_t_6_0 cI u50.1))) H := hP
    have hD : va_D A (gX6 o_t a_t cI u2.1 ++ (gX4 (a_t 0) a_t_0 cI u50.2 ++ (gX1 (a_t 6) a_t_6 ++ gX4 (a_t_6 0) a_t_6_0 cI u50.1))) := hD
    refine W.eq (g2 := F0 m 53 ls [.ref (a_t_6 0)]) rfl ?_
    refine lv_astore (lv' := [(5, .ref (a_t_6 0)), (4, .int r24), (0, .ref o_t), (1, .int x1), (2, .int x2), (3, .int x3)]) hx hb dX6_bellThen_53 hl (by decide) rfl (fun ls hl => ?_)
    refine lv_aload hx hb dX6_bellThen_55 (lv_at hl 0 rfl) ?_
    refine lv_iload_n hx hb dX6_bellThen_57 rfl (lv_at hl 3 rfl) ?_
    obtain ⟨r58, u58, h58, hf⟩ := bd_some hf
    have hPc := hP.sub (ws' := gX4 (a_t_6 0) a_t_6_0 cI u50.1) [10, 11, 12, 13, 14, 15, 16] rfl
    have hDc := hD.sub (ws' := gX4 (a_t_6 0) a_t_6_0 cI u50.1) [10, 11, 12, 13, 14, 15, 16] (by decide) rfl
    refine calX (runV E0.b E0.n (As := [.int x1]) (rest := []) ⟨hx, hb, hml, hown, hts⟩ (c_X4_hearersOf l D cI (a_t_6 0) a_t_6_0 u50.1 x1 _ h58) gX6_bellThen_X4_hearersOf rfl rfl rfl hdX4_hearersOf ⟨by decide, by decide⟩ hK hPc hDc 0 rfl rfl rfl hl.1 rfl (Nat.le_of_ble_eq_true rfl) dX6_bellThen_58 ⟨Nat.zero_le _, Nat.zero_le _⟩) hP hD hS hA [10, 11, 12, 13, 14, 15, 16] [0, 1, 2, 3, 4, 5, 6, 7, 8, 9] [0, 1, 2, 3, 4, 5, 6, 7, 8, 9, 10, 11, 12, 13, 14, 15, 16] (wr := gX6 o_t a_t cI u2.1 ++ (gX4 (a_t 0) a_t_0 cI u50.2 ++ gX1 (a_t 6) a_t_6)) (wn := gX6 o_t a_t cI u2.1 ++ (gX4 (a_t 0) a_t_0 cI u50.2 ++ (gX1 (a_t 6) a_t_6 ++ gX4 (a_t_6 0) a_t_6_0 cI u58))) rfl rfl (by decide) (by decide) rfl (by decide) (fun H locs hP hD hS => ?_)
    have hP : va_P D vwCl (gX6 o_t a_t cI u2.1 ++ (gX4 (a_t 0) a_t_0 cI u50.2 ++ (gX1 (a_t 6) a_t_6 ++ gX4 (a_t_6 0) a_t_6_0 cI u58))) H := hP
    have hD : va_D A (gX6 o_t a_t cI u2.1 ++ (gX4 (a_t 0) a_t_0 cI u50.2 ++ (gX1 (a_t 6) a_t_6 ++ gX4 (a_t_6 0) a_t_6_0 cI u58))) := hD
    refine W.eq (g2 := F0 m 61 ls [.int r58]) rfl ?_
    refine lv_istore (lv' := [(6, .int r58), (5, .ref (a_t_6 0)), (4, .int r24), (0, .ref o_t), (1, .int x1), (2, .int x2), (3, .int x3)]) hx hb dX6_bellThen_61 hl (by decide) rfl (fun ls hl => ?_)
    refine lv_iload_n hx hb dX6_bellThen_63 rfl (lv_at hl 6 rfl) ?_
    refine lv_if_ne (tgt := 70) hx hb dX6_bellThen_64 (by decide) (fun c64 => ?_) (fun c64 => ?_)
    · replace hf := it_f c64 hf
      refine lv_aload hx hb dX6_bellThen_70 (lv_at hl 1 rfl) ?_
      refine lv_iload_n hx hb dX6_bellThen_72 rfl (lv_at hl 4 rfl) ?_
      obtain ⟨r73, u73, h73, hf⟩ := bd_some hf
      have hPc := hP.sub (ws' := gX4 (a_t_6 0) a_t_6_0 cI u58) [10, 11, 12, 13, 14, 15, 16] rfl
      have hDc := hD.sub (ws' := gX4 (a_t_6 0) a_t_6_0 cI u58) [10, 11, 12, 13, 14, 15, 16] (by decide) rfl
      refine calX (runV E0.b E0.n (As := [.int x1]) (rest := []) ⟨hx, hb, hml, hown, hts⟩ (c_X4_isRinging l D cI (a_t_6 0) a_t_6_0 u58 x1 _ h73) gX6_bellThen_X4_isRinging rfl rfl rfl hdX4_isRinging ⟨by decide, by decide⟩ hK hPc hDc 0 rfl rfl rfl hl.1 rfl (Nat.le_of_ble_eq_true rfl) dX6_bellThen_73 ⟨Nat.zero_le _, Nat.zero_le _⟩) hP hD hS hA [10, 11, 12, 13, 14, 15, 16] [0, 1, 2, 3, 4, 5, 6, 7, 8, 9] [0, 1, 2, 3, 4, 5, 6, 7, 8, 9, 10, 11, 12, 13, 14, 15, 16] (wr := gX6 o_t a_t cI u2.1 ++ (gX4 (a_t 0) a_t_0 cI u50.2 ++ gX1 (a_t 6) a_t_6)) (wn := gX6 o_t a_t cI u2.1 ++ (gX4 (a_t 0) a_t_0 cI u50.2 ++ (gX1 (a_t 6) a_t_6 ++ gX4 (a_t_6 0) a_t_6_0 cI u73))) rfl rfl (by decide) (by decide) rfl (by decide) (fun H locs hP hD hS => ?_)
      have hP : va_P D vwCl (gX6 o_t a_t cI u2.1 ++ (gX4 (a_t 0) a_t_0 cI u50.2 ++ (gX1 (a_t 6) a_t_6 ++ gX4 (a_t_6 0) a_t_6_0 cI u73))) H := hP
      have hD : va_D A (gX6 o_t a_t cI u2.1 ++ (gX4 (a_t 0) a_t_0 cI u50.2 ++ (gX1 (a_t 6) a_t_6 ++ gX4 (a_t_6 0) a_t_6_0 cI u73))) := hD
      refine W.eq (g2 := F0 m 76 ls [.int r73]) rfl ?_
      refine lv_if_eq (tgt := 90) hx hb dX6_bellThen_76 (by decide) (fun c76 => ?_) (fun c76 => ?_)
      · replace hf := it_t c76 hf
        refine lv_bipush (v := (-9 : Int32)) hx hb dX6_bellThen_90 (by decide) ?_
        have e := so_some hf
        subst e
        exact ri hx hb hK hr hlk hQ dX6_bellThen_92 hP hD hS
      · replace hf := it_f c76 hf
        refine lv_aload hx hb dX6_bellThen_79 (lv_at hl 1 rfl) ?_
        refine lv_iload_n hx hb dX6_bellThen_81 rfl (lv_at hl 4 rfl) ?_
        refine lv_iload hx hb dX6_bellThen_82 (lv_at hl 0 rfl) ?_
        obtain ⟨r84, u84, h84, hf⟩ := bd_some hf
        have hPc := hP.sub (ws' := gX4 (a_t_6 0) a_t_6_0 cI u73) [10, 11, 12, 13, 14, 15, 16] rfl
        have hDc := hD.sub (ws' := gX4 (a_t_6 0) a_t_6_0 cI u73) [10, 11, 12, 13, 14, 15, 16] (by decide) rfl
        refine calX (runV E0.b E0.n (As := [.int x1, .int r58]) (rest := []) ⟨hx, hb, hml, hown, hts⟩ (c_X4_saidOf l D cI (a_t_6 0) a_t_6_0 u73 x1 r58 _ h84) gX6_bellThen_X4_saidOf rfl rfl rfl hdX4_saidOf ⟨by decide, by decide⟩ hK hPc hDc 0 rfl rfl rfl hl.1 rfl (Nat.le_of_ble_eq_true rfl) dX6_bellThen_84 ⟨Nat.zero_le _, Nat.zero_le _⟩) hP hD hS hA [10, 11, 12, 13, 14, 15, 16] [0, 1, 2, 3, 4, 5, 6, 7, 8, 9] [0, 1, 2, 3, 4, 5, 6, 7, 8, 9, 10, 11, 12, 13, 14, 15, 16] (wr := gX6 o_t a_t cI u2.1 ++ (gX4 (a_t 0) a_t_0 cI u50.2 ++ gX1 (a_t 6) a_t_6)) (wn := gX6 o_t a_t cI u2.1 ++ (gX4 (a_t 0) a_t_0 cI u50.2 ++ (gX1 (a_t 6) a_t_6 ++ gX4 (a_t_6 0) a_t_6_0 cI u84))) rfl rfl (by decide) (by decide) rfl (by decide) (fun H locs hP hD hS => ?_)
        have hP : va_P D vwCl (gX6 o_t a_t cI u2.1 ++ (gX4 (a_t 0) a_t_0 cI u50.2 ++ (gX1 (a_t 6) a_t_6 ++ gX4 (a_t_6 0) a_t_6_0 cI u84))) H := hP
        have hD : va_D A (gX6 o_t a_t cI u2.1 ++ (gX4 (a_t 0) a_t_0 cI u50.2 ++ (gX1 (a_t 6) a_t_6 ++ gX4 (a_t_6 0) a_t_6_0 cI u84))) := hD
        refine W.eq (g2 := F0 m 87 ls [.int r84]) rfl ?_
        refine lv_goto (tgt := 92) hx hb dX6_bellThen_87 (by decide) ?_
        have e := so_some hf
        subst e
        exact ri hx hb hK hr hlk hQ dX6_bellThen_92 hP hD hS
    · replace hf := it_t c64 hf
      refine lv_iload hx hb dX6_bellThen_67 (lv_at hl 0 rfl) ?_
      have e := so_some hf
      subst e
      exact ri hx hb hK hr hlk hQ dX6_bellThen_69 hP hD hS
  · replace hf := it_f c31 hf
    refine lv_aload_n hx hb dX6_bellThen_34 rfl (lv_at hl 1 rfl) ?_
    refine lv_iload hx hb dX6_bellThen_35 (lv_at hl 0 rfl) ?_
    obtain ⟨r37, u37, h37, hf⟩ := bd_some hf
    have hPc := hP.sub (ws' := gX6 o_t a_t cI u2.1) [0, 1] rfl
    have hDc := hD.sub (ws' := gX6 o_t a_t cI u2.1) [0, 1] (by decide) rfl
    refine calX (runV E0.b E0.n (As := [.int r24]) (rest := []) ⟨hx, hb, hml, hown, hts⟩ (c_X6_refused l D cI o_t a_t u2.1 r24 _ h37) gX6_bellThen_X6_refused rfl rfl rfl hdX6_refused ⟨by decide, by decide⟩ hK hPc hDc 0 rfl rfl rfl hl.1 rfl (Nat.le_of_ble_eq_true rfl) dX6_bellThen_37 ⟨Nat.zero_le _, Nat.zero_le _⟩) hP hD hS hA [0, 1] [2, 3, 4, 5, 6, 7, 8, 9, 10, 11, 12, 13, 14, 15, 16] [15, 16, 0, 1, 2, 3, 4, 5, 6, 7, 8, 9, 10, 11, 12, 13, 14] (wr := gX4 (a_t 0) a_t_0 cI u2.2 ++ (gX1 (a_t 6) a_t_6 ++ gX4 (a_t_6 0) a_t_6_0 cI S_t_6_0)) (wn := gX6 o_t a_t cI u37 ++ (gX4 (a_t 0) a_t_0 cI u2.2 ++ (gX1 (a_t 6) a_t_6 ++ gX4 (a_t_6 0) a_t_6_0 cI S_t_6_0))) rfl rfl (by decide) (by decide) rfl (by decide) (fun H locs hP hD hS => ?_)
    have hP : va_P D vwCl (gX6 o_t a_t cI u37 ++ (gX4 (a_t 0) a_t_0 cI u2.2 ++ (gX1 (a_t 6) a_t_6 ++ gX4 (a_t_6 0) a_t_6_0 cI S_t_6_0))) H := hP
    have hD : va_D A (gX6 o_t a_t cI u37 ++ (gX4 (a_t 0) a_t_0 cI u2.2 ++ (gX1 (a_t 6) a_t_6 ++ gX4 (a_t_6 0) a_t_6_0 cI S_t_6_0))) := hD
    refine W.eq (g2 := F0 m 40 ls [.int r37]) rfl ?_
    have e := so_some hf
    subst e
    exact ri hx hb hK hr hlk hQ dX6_bellThen_40 hP hD hS
abbrev rmX6_deaf : Room := { frames := 4, cells := 0, slots := 0, locals := 91 }
set_option maxHeartbeats 4000000 in
set_option maxRecDepth 100000 in
theorem c_X6_deaf (l : Launch) (D : va_G) (cI : ClassId) (o_t : Nat) (a_t : Nat → Nat) (a_t_0 : Nat → Nat) (a_t_6 : Nat → Nat) (a_t_6_0 : Nat → Nat) (S_t : G) (S_t_0 : G) (S_t_6_0 : G) (x1 : Int32) (out : Int32 × G × G × G) (hf : f_X6_deaf S_t S_t_0 S_t_6_0 x1 = some out) : Cn E0 l yX6_deaf wsX6_deaf rmX6_deaf D cI [.ref o_t, .int x1] (gX6 o_t a_t cI S_t ++ (gX4 (a_t 0) a_t_0 cI S_t_0 ++ (gX1 (a_t 6) a_t_6 ++ gX4 (a_t_6 0) a_t_6_0 cI S_t_6_0))) (some (.int out.1)) (gX6 o_t a_t cI out.2.1 ++ (gX4 (a_t 0) a_t_0 cI out.2.2.1 ++ (gX1 (a_t 6) a_t_6 ++ gX4 (a_t_6 0) a_t_6_0 cI out.2.2.2))) := by
  refine Cn.mk (cc := cX6_deaf) (maxL := 3) (ret := (some .int)) (by decide) rfl (Nat.le_of_ble_eq_true rfl) ?_
  intro p e s m below meth c A ls Q hx hb hml hown hts hK hA hP hD hS hl hr hlk hnm hE hQ
  have hown : s.vm.findClass RX6 = some m.cls := hown
  have hinX6 : ∀ w ∈ u_ws RX6 TX6 9, w ∈ wsX6_deaf := by decide +kernel
  unfold f_X6_deaf at hf
  have hl : lv_has ls 3 [(0, .ref o_t), (1, .int x1)] := hl
  obtain ⟨H, hHe⟩ : ∃ H : Heap, H = s.heap := ⟨_, rfl⟩
  obtain ⟨locs, hle⟩ : ∃ q : List Loc, q = [] := ⟨_, rfl⟩
  have hS : va_S A s.heap H locs := by rw [hHe, hle]; exact hS
  rw [← hHe] at hP
  suffices hgo : W p l e rmX6_deaf s m ([.ref o_t, .int x1] : List Value).toArray below meth c H locs 0 0 Q (F0 m 0 ls []) by rw [hHe, hle] at hgo; exact hgo
  clear hHe hle
  refine lv_aload_n hx hb dX6_deaf_0 rfl (lv_at hl 0 rfl) ?_
  refine lv_iload_n hx hb dX6_deaf_1 rfl (lv_at hl 1 rfl) ?_
  obtain ⟨r2, u2, h2, hf⟩ := bd_some hf
  have hPc := hP.sub (ws' := gX6 o_t a_t cI S_t ++ gX4 (a_t 0) a_t_0 cI S_t_0) [0, 1, 2, 3, 4, 5, 6, 7, 8] rfl
  have hDc := hD.sub (ws' := gX6 o_t a_t cI S_t ++ gX4 (a_t 0) a_t_0 cI S_t_0) [0, 1, 2, 3, 4, 5, 6, 7, 8] (by decide) rfl
  refine calX (runV E0.b E0.n (As := [.int x1]) (rest := []) ⟨hx, hb, hml, hown, hts⟩ (c_X6_noPerson l D cI o_t a_t a_t_0 S_t S_t_0 x1 _ h2) gX6_deaf_X6_noPerson rfl rfl rfl hdX6_noPerson ⟨by decide, by decide⟩ hK hPc hDc 0 rfl rfl rfl hl.1 rfl (Nat.le_of_ble_eq_true rfl) dX6_deaf_2 ⟨Nat.zero_le _, Nat.zero_le _⟩) hP hD hS hA [0, 1, 2, 3, 4, 5, 6, 7, 8] [9, 10, 11, 12, 13, 14, 15, 16] [8, 9, 10, 11, 12, 13, 14, 15, 16, 0, 1, 2, 3, 4, 5, 6, 7] (wr := gX1 (a_t 6) a_t_6 ++ gX4 (a_t_6 0) a_t_6_0 cI S_t_6_0) (wn := gX6 o_t a_t cI u2.1 ++ (gX4 (a_t 0) a_t_0 cI u2.2 ++ (gX1 (a_t 6) a_t_6 ++ gX4 (a_t_6 0) a_t_6_0 cI S_t_6_0))) rfl rfl (by decide) (by decide) rfl (by decide) (fun H locs hP hD hS => ?_)
  have hP : va_P D vwCl (gX6 o_t a_t cI u2.1 ++ (gX4 (a_t 0) a_t_0 cI u2.2 ++ (gX1 (a_t 6) a_t_6 ++ gX4 (a_t_6 0) a_t_6_0 cI S_t_6_0))) H := hP
  have hD : va_D A (gX6 o_t a_t cI u2.1 ++ (gX4 (a_t 0) a_t_0 cI u2.2 ++ (gX1 (a_t 6) a_t_6 ++ gX4 (a_t_6 0) a_t_6_0 cI S_t_6_0))) := hD
  refine W.eq (g2 := F0 m 5 ls [.int r2]) rfl ?_
  refine lv_istore_n (lv' := [(2, .int r2), (0, .ref o_t), (1, .int x1)]) hx hb dX6_deaf_5 rfl hl (by decide) rfl (fun ls hl => ?_)
  refine lv_iload_n hx hb dX6_deaf_6 rfl (lv_at hl 0 rfl) ?_
  refine lv_if_eq (tgt := 16) hx hb dX6_deaf_7 (by decide) (fun c7 => ?_) (fun c7 => ?_)
  · replace hf := it_t c7 hf
    refine lv_aload_n hx hb dX6_deaf_16 rfl (lv_at hl 1 rfl) ?_
    refine va_get (D := D) (ci := 6) (v := .ref (a_t 6)) (C := RX6) (T := TX6) (N := 9) hx hb hts hinX6 hown hK hP 0 rfl rfl 6 (by decide) (hts (.fieldLink RX6 43 "OnlyStrangersHear" "mind" "LOnlyStrangersHear$Mind;") (by decide +kernel)) (fun _ h9 => h9) rfl dX6_deaf_17 ?_
    refine lv_aload_n hx hb dX6_deaf_20 rfl (lv_at hl 1 rfl) ?_
    refine va_get (D := D) (ci := 6) (v := .ref (a_t 0)) (C := RX6) (T := TX6) (N := 9) hx hb hts hinX6 hown hK hP 0 rfl rfl 0 (by decide) (hts (.fieldLink RX6 10 "OnlyStrangersHear" "now" "LOnlyStrangersHear$Town;") (by decide +kernel)) (fun _ h9 => h9) rfl dX6_deaf_21 ?_
    refine lv_iload_n hx hb dX6_deaf_24 rfl (lv_at hl 2 rfl) ?_
    obtain ⟨r25, u25, h25, hf⟩ := bd_some hf
    have hPc := hP.sub (ws' := gX1 (a_t 6) a_t_6 ++ (gX4 (a_t_6 0) a_t_6_0 cI S_t_6_0 ++ gX4 (a_t 0) a_t_0 cI u2.2)) [9, 10, 11, 12, 13, 14, 15, 16, 2, 3, 4, 5, 6, 7, 8] rfl
    have hDc := hD.sub (ws' := gX1 (a_t 6) a_t_6 ++ (gX4 (a_t_6 0) a_t_6_0 cI S_t_6_0 ++ gX4 (a_t 0) a_t_0 cI u2.2)) [9, 10, 11, 12, 13, 14, 15, 16, 2, 3, 4, 5, 6, 7, 8] (by decide) rfl
    refine calX (runV E0.b E0.n (As := [.ref (a_t 0), .int x1]) (rest := []) ⟨hx, hb, hml, hown, hts⟩ (c_X1_deafAfter l D cI (a_t 6) a_t_6 a_t_6_0 (a_t 0) a_t_0 S_t_6_0 u2.2 x1 _ h25) gX6_deaf_X1_deafAfter rfl rfl rfl hdX1_deafAfter ⟨by decide, by decide⟩ hK hPc hDc 0 rfl rfl rfl hl.1 rfl (Nat.le_of_ble_eq_true rfl) dX6_deaf_25 ⟨Nat.zero_le _, Nat.zero_le _⟩) hP hD hS hA [9, 10, 11, 12, 13, 14, 15, 16, 2, 3, 4, 5, 6, 7, 8] [0, 1] [0, 1, 10, 11, 12, 13, 14, 15, 16, 2, 3, 4, 5, 6, 7, 8, 9] (wr := gX6 o_t a_t cI u2.1) (wn := gX6 o_t a_t cI u2.1 ++ (gX4 (a_t 0) a_t_0 cI u25.2 ++ (gX1 (a_t 6) a_t_6 ++ gX4 (a_t_6 0) a_t_6_0 cI u25.1))) rfl rfl (by decide) (by decide) rfl (by decide) (fun H locs hP hD hS => ?_)
    have hP : va_P D vwCl (gX6 o_t a_t cI u2.1 ++ (gX4 (a_t 0) a_t_0 cI u25.2 ++ (gX1 (a_t 6) a_t_6 ++ gX4 (a_t_6 0) a_t_6_0 cI u25.1))) H := hP
    have hD : va_D A (gX6 o_t a_t cI u2.1 ++ (gX4 (a_t 0) a_t_0 cI u25.2 ++ (gX1 (a_t 6) a_t_6 ++ gX4 (a_t_6 0) a_t_6_0 cI u25.1))) := hD
    refine W.eq (g2 := F0 m 28 ls [.int r25]) rfl ?_
    have e := so_some hf
    subst e
    exact ri hx hb hK hr hlk hQ dX6_deaf_28 hP hD hS
  · replace hf := it_f c7 hf
    refine lv_aload_n hx hb dX6_deaf_10 rfl (lv_at hl 1 rfl) ?_
    refine lv_iload_n hx hb dX6_deaf_11 rfl (lv_at hl 0 rfl) ?_
    obtain ⟨r12, u12, h12, hf⟩ := bd_some hf
    have hPc := hP.sub (ws' := gX6 o_t a_t cI u2.1) [0, 1] rfl
    have hDc := hD.sub (ws' := gX6 o_t a_t cI u2.1) [0, 1] (by decide) rfl
    refine calX (runV E0.b E0.n (As := [.int r2]) (rest := []) ⟨hx, hb, hml, hown, hts⟩ (c_X6_refused l D cI o_t a_t u2.1 r2 _ h12) gX6_deaf_X6_refused rfl rfl rfl hdX6_refused ⟨by decide, by decide⟩ hK hPc hDc 0 rfl rfl rfl hl.1 rfl (Nat.le_of_ble_eq_true rfl) dX6_deaf_12 ⟨Nat.zero_le _, Nat.zero_le _⟩) hP hD hS hA [0, 1] [2, 3, 4, 5, 6, 7, 8, 9, 10, 11, 12, 13, 14, 15, 16] [15, 16, 0, 1, 2, 3, 4, 5, 6, 7, 8, 9, 10, 11, 12, 13, 14] (wr := gX4 (a_t 0) a_t_0 cI u2.2 ++ (gX1 (a_t 6) a_t_6 ++ gX4 (a_t_6 0) a_t_6_0 cI S_t_6_0)) (wn := gX6 o_t a_t cI u12 ++ (gX4 (a_t 0) a_t_0 cI u2.2 ++ (gX1 (a_t 6) a_t_6 ++ gX4 (a_t_6 0) a_t_6_0 cI S_t_6_0))) rfl rfl (by decide) (by decide) rfl (by decide) (fun H locs hP hD hS => ?_)
    have hP : va_P D vwCl (gX6 o_t a_t cI u12 ++ (gX4 (a_t 0) a_t_0 cI u2.2 ++ (gX1 (a_t 6) a_t_6 ++ gX4 (a_t_6 0) a_t_6_0 cI S_t_6_0))) H := hP
    have hD : va_D A (gX6 o_t a_t cI u12 ++ (gX4 (a_t 0) a_t_0 cI u2.2 ++ (gX1 (a_t 6) a_t_6 ++ gX4 (a_t_6 0) a_t_6_0 cI S_t_6_0))) := hD
    refine W.eq (g2 := F0 m 15 ls [.int r12]) rfl ?_
    have e := so_some hf
    subst e
    exact ri hx hb hK hr hlk hQ dX6_deaf_15 hP hD hS
