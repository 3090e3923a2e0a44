abbrev rmX6_row : Room := { frames := 1, cells := 0, slots := 0, locals := 22 }
set_option maxHeartbeats 4000000 in
set_option maxRecDepth 100000 in
theorem c_X6_row (l : Launch) (D : va_G) (cI : ClassId) (o_t : Nat) (a_t : Nat → Nat) (a_t_4 : Nat → Nat) (S_t : G) (S_t_4 : G) (x1 : Int32) (out : Int32 × G × G) (hf : f_X6_row S_t S_t_4 x1 = some out) : Cn E0 l yX6_row wsX6_row rmX6_row D cI [.ref o_t, .int x1] (gX6 o_t a_t cI S_t ++ gX2 (a_t 4) a_t_4 cI S_t_4) (some (.int out.1)) (gX6 o_t a_t cI out.2.1 ++ gX2 (a_t 4) a_t_4 cI out.2.2) := by
  refine Cn.mk (cc := cX6_row) (maxL := 3) (ret := (some .int)) (by decide) rfl (Nat.le_of_ble_eq_true rfl) ?_
  intro p e s m below meth c A ls Q hx hb hml hown hts hK hA hP hD hS hl hr hlk hnm hE hQ
  have hown : s.vm.findClass RX6 = some m.cls := hown
  have hinX2 : ∀ w ∈ u_ws RX2 TX2 2, w ∈ wsX6_row := by decide +kernel
  have hinX6 : ∀ w ∈ u_ws RX6 TX6 9, w ∈ wsX6_row := by decide +kernel
  have j25 : ∀ (S_t : G) (S_t_4 : G) (l1 : Int32) (s0 : Int32) (s1 : Int32) (H : Heap) (locs : List Loc) (ls : Array Slot), f_X6_row_25 S_t S_t_4 l1 s0 s1 = some out → va_P D vwCl (gX6 o_t a_t cI S_t ++ gX2 (a_t 4) a_t_4 cI S_t_4) H → va_D A (gX6 o_t a_t cI S_t ++ gX2 (a_t 4) a_t_4 cI S_t_4) → va_S A s.heap H locs → lv_has ls 3 [(0, .ref o_t), (1, .int l1)] → W p l e rmX6_row s m ([.ref o_t, .int x1] : List Value).toArray below meth c H locs 0 0 Q (F0 m 25 ls [.int s1, .int s0]) := by
    intro S_t S_t_4 l1 s0 s1 H locs ls hf hP hD hS hl
    unfold f_X6_row_25 at hf
    obtain ⟨r25, u25, h25, hf⟩ := bd_some hf
    have hPc : va_P D vwCl [] H := hP.sub (ws' := []) [] rfl
    have hDc : va_D A [] := hD.sub (ws' := []) [] (by decide) rfl
    refine calXe (runS E0.b E0.n (As := [.int s0, .int s1]) (rest := []) ⟨hx, hb, hml, hown, hts⟩ (c_X6_first l D cI s0 s1 _ h25) gX6_row_X6_first rfl rfl rfl hdX6_first ⟨by decide, by decide⟩ hK hPc hDc rfl hl.1 rfl (Nat.le_of_ble_eq_true rfl) dX6_row_25 ⟨Nat.zero_le _, Nat.zero_le _⟩) hP hD hS hA (fun H locs hP hD hS => ?_)
    have hP : va_P D vwCl (gX6 o_t a_t cI S_t ++ gX2 (a_t 4) a_t_4 cI S_t_4) H := hP
    have hD : va_D A (gX6 o_t a_t cI S_t ++ gX2 (a_t 4) a_t_4 cI S_t_4) := hD
    refine W.eq (g2 := F0 m 28 ls [.int r25]) rfl ?_
    refine lv_istore_n (lv' := [(2, .int r25), (0, .ref o_t), (1, .int l1)]) hx hb dX6_row_28 rfl hl (by decide) rfl (fun ls hl => ?_)
    refine lv_iload_n hx hb dX6_row_29 rfl (lv_at hl 0 rfl) ?_
    refine lv_if_eq (tgt := 39) hx hb dX6_row_30 (by decide) (fun c30 => ?_) (fun c30 => ?_)
    · replace hf := it_t c30 hf
      refine lv_aload_n hx hb dX6_row_39 rfl (lv_at hl 1 rfl) ?_
      refine va_get (D := D) (ci := 6) (v := .ref (a_t 4)) (C := RX6) (T := TX6) (N := 9) hx hb hts hinX6 hown hK hP 0 rfl rfl 4 (by decide) (hts (.fieldLink RX6 29 "OnlyStrangersHear" "numbers" "LOnlyStrangersHear$Numbers;") (by decide +kernel)) (fun _ h9 => h9) rfl dX6_row_40 ?_
      refine lv_iload_n hx hb dX6_row_43 rfl (lv_at hl 2 rfl) ?_
      obtain ⟨r44, u44, h44, hf⟩ := bd_some hf
      have hPc := hP.sub (ws' := gX2 (a_t 4) a_t_4 cI S_t_4) [2, 3] rfl
      have hDc := hD.sub (ws' := gX2 (a_t 4) a_t_4 cI S_t_4) [2, 3] (by decide) rfl
      refine calX (runV E0.b E0.n (As := [.int l1]) (rest := []) ⟨hx, hb, hml, hown, hts⟩ (c_X2_add l D cI (a_t 4) a_t_4 S_t_4 l1 _ h44) gX6_row_X2_add rfl rfl rfl hdX2_add ⟨by decide, by decide⟩ hK hPc hDc 0 rfl rfl rfl hl.1 rfl (Nat.le_of_ble_eq_true rfl) dX6_row_44 ⟨Nat.zero_le _, Nat.zero_le _⟩) hP hD hS hA [2, 3] [0, 1] [0, 1, 2, 3] (wr := gX6 o_t a_t cI S_t) (wn := gX6 o_t a_t cI S_t ++ gX2 (a_t 4) a_t_4 cI u44) rfl rfl (by decide) (by decide) rfl (by decide) (fun H locs hP hD hS => ?_)
      have hP : va_P D vwCl (gX6 o_t a_t cI S_t ++ gX2 (a_t 4) a_t_4 cI u44) H := hP
      have hD : va_D A (gX6 o_t a_t cI S_t ++ gX2 (a_t 4) a_t_4 cI u44) := hD
      refine W.eq (g2 := F0 m 47 ls []) rfl ?_
      refine lv_aload_n hx hb dX6_row_47 rfl (lv_at hl 1 rfl) ?_
      refine va_get (D := D) (ci := 6) (v := .ref (a_t 4)) (C := RX6) (T := TX6) (N := 9) hx hb hts hinX6 hown hK hP 0 rfl rfl 4 (by decide) (hts (.fieldLink RX6 29 "OnlyStrangersHear" "numbers" "LOnlyStrangersHear$Numbers;") (by decide +kernel)) (fun _ h9 => h9) rfl dX6_row_48 ?_
      refine va_get (D := D) (ci := 2) (v := .int (u44.1 1)) (C := RX2) (T := TX2) (N := 2) hx hb hts hinX2 hown hK hP 2 rfl rfl 1 (by decide) (hts (.fieldLink RX6 265 "OnlyStrangersHear$Numbers" "size" "I") (by decide +kernel)) (fun _ h9 => h9) rfl dX6_row_51 ?_
      have e := so_some hf
      subst e
      exact ri hx hb hK hr hlk hQ dX6_row_54 hP hD hS
    · replace hf := it_f c30 hf
      refine lv_aload_n hx hb dX6_row_33 rfl (lv_at hl 1 rfl) ?_
      refine lv_iload_n hx hb dX6_row_34 rfl (lv_at hl 0 rfl) ?_
      obtain ⟨r35, u35, h35, hf⟩ := bd_some hf
      have hPc := hP.sub (ws' := gX6 o_t a_t cI S_t) [0, 1] rfl
      have hDc := hD.sub (ws' := gX6 o_t a_t cI S_t) [0, 1] (by decide) rfl
      refine calX (runV E0.b E0.n (As := [.int r25]) (rest := []) ⟨hx, hb, hml, hown, hts⟩ (c_X6_refused l D cI o_t a_t S_t r25 _ h35) gX6_row_X6_refused rfl rfl rfl hdX6_refused ⟨by decide, by decide⟩ hK hPc hDc 0 rfl rfl rfl hl.1 rfl (Nat.le_of_ble_eq_true rfl) dX6_row_35 ⟨Nat.zero_le _, Nat.zero_le _⟩) hP hD hS hA [0, 1] [2, 3] [2, 3, 0, 1] (wr := gX2 (a_t 4) a_t_4 cI S_t_4) (wn := gX6 o_t a_t cI u35 ++ gX2 (a_t 4) a_t_4 cI S_t_4) rfl rfl (by decide) (by decide) rfl (by decide) (fun H locs hP hD hS => ?_)
      have hP : va_P D vwCl (gX6 o_t a_t cI u35 ++ gX2 (a_t 4) a_t_4 cI S_t_4) H := hP
      have hD : va_D A (gX6 o_t a_t cI u35 ++ gX2 (a_t 4) a_t_4 cI S_t_4) := hD
      refine W.eq (g2 := F0 m 38 ls [.int r35]) rfl ?_
      have e := so_some hf
      subst e
      exact ri hx hb hK hr hlk hQ dX6_row_38 hP hD hS
  unfold f_X6_row at hf
  have hl : lv_has ls 3 [(0, .ref o_t), (1, .int x1)] := hl
  obtain ⟨H, hHe⟩ : ∃ H : Heap, H = s.heap := ⟨_, rfl⟩
  obtain ⟨locs, hle⟩ : ∃ q : List Loc, q = [] := ⟨_, rfl⟩
  have hS : va_S A s.heap H locs := by rw [hHe, hle]; exact hS
  rw [← hHe] at hP
  suffices hgo : W p l e rmX6_row s m ([.ref o_t, .int x1] : List Value).toArray below meth c H locs 0 0 Q (F0 m 0 ls []) by rw [hHe, hle] at hgo; exact hgo
  clear hHe hle
  refine lv_iload_n hx hb dX6_row_0 rfl (lv_at hl 1 rfl) ?_
  refine lv_iconst (v := (0 : Int32)) hx hb dX6_row_1 (by decide) ?_
  refine lv_bipush (v := (99 : Int32)) hx hb dX6_row_2 (by decide) ?_
  obtain ⟨r4, u4, h4, hf⟩ := bd_some hf
  have hPc : va_P D vwCl [] H := hP.sub (ws' := []) [] rfl
  have hDc : va_D A [] := hD.sub (ws' := []) [] (by decide) rfl
  refine calXe (runS E0.b E0.n (As := [.int x1, .int (0 : Int32), .int (99 : Int32)]) (rest := []) ⟨hx, hb, hml, hown, hts⟩ (c_X6_range l D cI x1 (0 : Int32) (99 : Int32) _ h4) gX6_row_X6_range rfl rfl rfl hdX6_range ⟨by decide, by decide⟩ hK hPc hDc rfl hl.1 rfl (Nat.le_of_ble_eq_true rfl) dX6_row_4 ⟨Nat.zero_le _, Nat.zero_le _⟩) hP hD hS hA (fun H locs hP hD hS => ?_)
  have hP : va_P D vwCl (gX6 o_t a_t cI S_t ++ gX2 (a_t 4) a_t_4 cI S_t_4) H := hP
  have hD : va_D A (gX6 o_t a_t cI S_t ++ gX2 (a_t 4) a_t_4 cI S_t_4) := hD
  refine W.eq (g2 := F0 m 7 ls [.int r4]) rfl ?_
  refine lv_aload_n hx hb dX6_row_7 rfl (lv_at hl 0 rfl) ?_
  refine va_get (D := D) (ci := 6) (v := .ref (a_t 4)) (C := RX6) (T := TX6) (N := 9) hx hb hts hinX6 hown hK hP 0 rfl rfl 4 (by decide) (hts (.fieldLink RX6 29 "OnlyStrangersHear" "numbers" "LOnlyStrangersHear$Numbers;") (by decide +kernel)) (fun _ h9 => h9) rfl dX6_row_8 ?_
  refine va_get (D := D) (ci := 2) (v := .int (S_t_4.1 1)) (C := RX2) (T := TX2) (N := 2) hx hb hts hinX2 hown hK hP 2 rfl rfl 1 (by decide) (hts (.fieldLink RX6 265 "OnlyStrangersHear$Numbers" "size" "I") (by decide +kernel)) (fun _ h9 => h9) rfl dX6_row_11 ?_
  refine lv_bipush (v := (16 : Int32)) hx hb dX6_row_14 (by decide) ?_
  refine lv_icmp_ge (tgt := 23) hx hb dX6_row_16 (by decide) (fun c16 => ?_) (fun c16 => ?_)
  · replace hf := it_t c16 hf
    refine lv_bipush (v := (-6 : Int32)) hx hb dX6_row_23 (by decide) ?_
    exact j25 S_t S_t_4 x1 r4 (-6 : Int32) H locs ls hf hP hD hS (lv_sub hl [0, 1] rfl)
  · replace hf := it_f c16 hf
    refine lv_iconst (v := (0 : Int32)) hx hb dX6_row_19 (by decide) ?_
    refine lv_goto (tgt := 25) hx hb dX6_row_20 (by decide) ?_
    exact j25 S_t S_t_4 x1 r4 (0 : Int32) H locs ls hf hP hD hS (lv_sub hl [0, 1] rfl)
abbrev rmX6_judge : Room := { frames := 5, cells := 0, slots := 0, locals := 110 }
set_option maxHeartbeats 4000000 in
set_option maxRecDepth 100000 in
theorem c_X6_judge (l : Launch) (D : va_G) (cI : ClassId) (o_t : Nat) (a_t : Nat → Nat) (a_t_0 : Nat → Nat) (a_t_4 : Nat → Nat) (a_t_6 : Nat → Nat) (a_t_6_0 : Nat → Nat) (S_t : G) (S_t_0 : G) (S_t_4 : G) (S_t_6_0 : G) (out : Int32 × G × G × G × G) (hf : f_X6_judge S_t S_t_0 S_t_4 S_t_6_0 = some out) : Cn E0 l yX6_judge wsX6_judge rmX6_judge D cI [.ref o_t] (gX6 o_t a_t cI S_t ++ (gX4 (a_t 0) a_t_0 cI S_t_0 ++ (gX2 (a_t 4) a_t_4 cI S_t_4 ++ (gX1 (a_t 6) a_t_6 ++ gX4 (a_t_6 0) a_t_6_0 cI S_t_6_0)))) (some (.int out.1)) (gX6 o_t a_t cI out.2.1 ++ (gX4 (a_t 0) a_t_0 cI out.2.2.1 ++ (gX2 (a_t 4) a_t_4 cI out.2.2.2.1 ++ (gX1 (a_t 6) a_t_6 ++ gX4 (a_t_6 0) a_t_6_0 cI out.2.2.2.2)))) := by
  refine Cn.mk (cc := cX6_judge) (maxL := 2) (ret := (some .int)) (by decide) rfl (Nat.le_of_ble_eq_true rfl) ?_
  intro p e s m below meth c A ls Q hx hb hml hown hts hK hA hP hD hS hl hr hlk hnm hE hQ
  have hown : s.vm.findClass RX6 = some m.cls := hown
  have hinX6 : ∀ w ∈ u_ws RX6 TX6 9, w ∈ wsX6_judge := by decide +kernel
  unfold f_X6_judge at hf
  have hl : lv_has ls 2 [(0, .ref o_t)] := hl
  obtain ⟨H, hHe⟩ : ∃ H : Heap, H = s.heap := ⟨_, rfl⟩
  obtain ⟨locs, hle⟩ : ∃ q : List Loc, q = [] := ⟨_, rfl⟩
  have hS : va_S A s.heap H locs := by rw [hHe, hle]; exact hS
  rw [← hHe] at hP
  suffices hgo : W p l e rmX6_judge s m ([.ref o_t] : List Value).toArray below meth c H locs 0 0 Q (F0 m 0 ls []) by rw [hHe, hle] at hgo; exact hgo
  clear hHe hle
  refine lv_aload_n hx hb dX6_judge_0 rfl (lv_at hl 0 rfl) ?_
  refine va_get (D := D) (ci := 6) (v := .ref (a_t 6)) (C := RX6) (T := TX6) (N := 9) hx hb hts hinX6 hown hK hP 0 rfl rfl 6 (by decide) (hts (.fieldLink RX6 43 "OnlyStrangersHear" "mind" "LOnlyStrangersHear$Mind;") (by decide +kernel)) (fun _ h9 => h9) rfl dX6_judge_1 ?_
  refine lv_aload_n hx hb dX6_judge_4 rfl (lv_at hl 0 rfl) ?_
  refine va_get (D := D) (ci := 6) (v := .ref (a_t 0)) (C := RX6) (T := TX6) (N := 9) hx hb hts hinX6 hown hK hP 0 rfl rfl 0 (by decide) (hts (.fieldLink RX6 10 "OnlyStrangersHear" "now" "LOnlyStrangersHear$Town;") (by decide +kernel)) (fun _ h9 => h9) rfl dX6_judge_5 ?_
  refine lv_aload_n hx hb dX6_judge_8 rfl (lv_at hl 0 rfl) ?_
  refine va_get (D := D) (ci := 6) (v := .ref (a_t 4)) (C := RX6) (T := TX6) (N := 9) hx hb hts hinX6 hown hK hP 0 rfl rfl 4 (by decide) (hts (.fieldLink RX6 29 "OnlyStrangersHear" "numbers" "LOnlyStrangersHear$Numbers;") (by decide +kernel)) (fun _ h9 => h9) rfl dX6_judge_9 ?_
  obtain ⟨r12, u12, h12, hf⟩ := bd_some hf
  have hPc := hP.sub (ws' := gX1 (a_t 6) a_t_6 ++ (gX4 (a_t_6 0) a_t_6_0 cI S_t_6_0 ++ (gX4 (a_t 0) a_t_0 cI S_t_0 ++ gX2 (a_t 4) a_t_4 cI S_t_4))) [11, 12, 13, 14, 15, 16, 17, 18, 2, 3, 4, 5, 6, 7, 8, 9, 10] rfl
  have hDc := hD.sub (ws' := gX1 (a_t 6) a_t_6 ++ (gX4 (a_t_6 0) a_t_6_0 cI S_t_6_0 ++ (gX4 (a_t 0) a_t_0 cI S_t_0 ++ gX2 (a_t 4) a_t_4 cI S_t_4))) [11, 12, 13, 14, 15, 16, 17, 18, 2, 3, 4, 5, 6, 7, 8, 9, 10] (by decide) rfl
  refine calX (runV E0.b E0.n (As := [.ref (a_t 0), .ref (a_t 4)]) (rest := []) ⟨hx, hb, hml, hown, hts⟩ (c_X1_firstUntrue l D cI (a_t 6) a_t_6 a_t_6_0 (a_t 0) a_t_0 (a_t 4) a_t_4 S_t_6_0 S_t_0 S_t_4 _ h12) gX6_judge_X1_firstUntrue rfl rfl rfl hdX1_firstUntrue ⟨by decide, by decide⟩ hK hPc hDc 0 rfl rfl rfl hl.1 rfl (Nat.le_of_ble_eq_true rfl) dX6_judge_12 ⟨Nat.zero_le _, Nat.zero_le _⟩) hP hD hS hA [11, 12, 13, 14, 15, 16, 17, 18, 2, 3, 4, 5, 6, 7, 8, 9, 10] [0, 1] [0, 1, 10, 11, 12, 13, 14, 15, 16, 17, 18, 2, 3, 4, 5, 6, 7, 8, 9] (wr := gX6 o_t a_t cI S_t) (wn := gX6 o_t a_t cI S_t ++ (gX4 (a_t 0) a_t_0 cI u12.2.1 ++ (gX2 (a_t 4) a_t_4 cI u12.2.2 ++ (gX1 (a_t 6) a_t_6 ++ gX4 (a_t_6 0) a_t_6_0 cI u12.1)))) rfl rfl (by decide) (by decide) rfl (by decide) (fun H locs hP hD hS => ?_)
  have hP : va_P D vwCl (gX6 o_t a_t cI S_t ++ (gX4 (a_t 0) a_t_0 cI u12.2.1 ++ (gX2 (a_t 4) a_t_4 cI u12.2.2 ++ (gX1 (a_t 6) a_t_6 ++ gX4 (a_t_6 0) a_t_6_0 cI u12.1)))) H := hP
  have hD : va_D A (gX6 o_t a_t cI S_t ++ (gX4 (a_t 0) a_t_0 cI u12.2.1 ++ (gX2 (a_t 4) a_t_4 cI u12.2.2 ++ (gX1 (a_t 6) a_t_6 ++ gX4 (a_t_6 0) a_t_6_0 cI u12.1)))) := hD
  refine W.eq (g2 := F0 m 15 ls [.int r12]) rfl ?_
  refine lv_istore_n (lv' := [(1, .int r12), (0, .ref o_t)]) hx hb dX6_judge_15 rfl hl (by decide) rfl (fun ls hl => ?_)
  refine lv_aload_n hx hb dX6_judge_16 rfl (lv_at hl 1 rfl) ?_
  refine va_get (D := D) (ci := 6) (v := .ref (a_t 4)) (C := RX6) (T := TX6) (N := 9) hx hb hts hinX6 hown hK hP 0 rfl rfl 4 (by decide) (hts (.fieldLink RX6 29 "OnlyStrangersHear" "numbers" "LOnlyStrangersHear$Numbers;") (by decide +kernel)) (fun _ h9 => h9) rfl dX6_judge_17 ?_
  obtain ⟨r20, u20, h20, hf⟩ := bd_some hf
  have hPc := hP.sub (ws' := gX2 (a_t 4) a_t_4 cI u12.2.2) [9, 10] rfl
  have hDc := hD.sub (ws' := gX2 (a_t 4) a_t_4 cI u12.2.2) [9, 10] (by decide) rfl
  refine calX (runV E0.b E0.n (As := []) (rest := []) ⟨hx, hb, hml, hown, hts⟩ (c_X2_forget l D cI (a_t 4) a_t_4 u12.2.2 _ h20) gX6_judge_X2_forget rfl rfl rfl hdX2_forget ⟨by decide, by decide⟩ hK hPc hDc 0 rfl rfl rfl hl.1 rfl (Nat.le_of_ble_eq_true rfl) dX6_judge_20 ⟨Nat.zero_le _, Nat.zero_le _⟩) hP hD hS hA [9, 10] [0, 1, 2, 3, 4, 5, 6, 7, 8, 11, 12, 13, 14, 15, 16, 17, 18] [0, 1, 2, 3, 4, 5, 6, 7, 8, 17, 18, 9, 10, 11, 12, 13, 14, 15, 16] (wr := gX6 o_t a_t cI S_t ++ (gX4 (a_t 0) a_t_0 cI u12.2.1 ++ (gX1 (a_t 6) a_t_6 ++ gX4 (a_t_6 0) a_t_6_0 cI u12.1))) (wn := gX6 o_t a_t cI S_t ++ (gX4 (a_t 0) a_t_0 cI u12.2.1 ++ (gX2 (a_t 4) a_t_4 cI u20 ++ (gX1 (a_t 6) a_t_6 ++ gX4 (a_t_6 0) a_t_6_0 cI u12.1)))) rfl rfl (by decide) (by decide) rfl (by decide) (fun H locs hP hD hS => ?_)
  have hP : va_P D vwCl (gX6 o_t a_t cI S_t ++ (gX4 (a_t 0) a_t_0 cI u12.2.1 ++ (gX2 (a_t 4) a_t_4 cI u20 ++ (gX1 (a_t 6) a_t_6 ++ gX4 (a_t_6 0) a_t_6_0 cI u12.1)))) H := hP
  have hD : va_D A (gX6 o_t a_t cI S_t ++ (gX4 (a_t 0) a_t_0 cI u12.2.1 ++ (gX2 (a_t 4) a_t_4 cI u20 ++ (gX1 (a_t 6) a_t_6 ++ gX4 (a_t_6 0) a_t_6_0 cI u12.1)))) := hD
  refine W.eq (g2 := F0 m 23 ls []) rfl ?_
  refine lv_iload_n hx hb dX6_judge_23 rfl (lv_at hl 0 rfl) ?_
  have e := so_some hf
  subst e
  exact ri hx hb hK hr hlk hQ dX6_judge_24 hP hD hS
abbrev rmX6_clear : Room := { frames := 1, cells := 0, slots := 0, locals := 20 }
set_option maxHeartbeats 4000000 in
set_option maxRecDepth 100000 in
theorem c_X6_clear (l : Launch) (D : va_G) (cI : ClassId) (o_t : Nat) (a_t : Nat → Nat) (a_t_4 : Nat → Nat) (S_t : G) (S_t_4 : G) (out : Int32 × G × G) (hf : f_X6_clear S_t S_t_4 = some out) : Cn E0 l yX6_clear wsX6_clear rmX6_clear D cI [.ref o_t] (gX6 o_t a_t cI S_t ++ gX2 (a_t 4) a_t_4 cI S_t_4) (some (.int out.1)) (gX6 o_t a_t cI out.2.1 ++ gX2 (a_t 4) a_t_4 cI out.2.2) := by
  refine Cn.mk (cc := cX6_clear) (maxL := 2) (ret := (some .int)) (by decide) rfl (Nat.le_of_ble_eq_true rfl) ?_
  intro p e s m below meth c A ls Q hx hb hml hown hts hK hA hP hD hS hl hr hlk hnm hE hQ
  have hown : s.vm.findClass RX6 = some m.cls := hown
  have hinX2 : ∀ w ∈ u_ws RX2 TX2 2, w ∈ wsX6_clear := by decide +kernel
  have hinX6 : ∀ w ∈ u_ws RX6 TX6 9, w ∈ wsX6_clear := by decide +kernel
  unfold f_X6_clear at hf
  have hl : lv_has ls 2 [(0, .ref o_t)] := hl
  obtain ⟨H, hHe⟩ : ∃ H : Heap, H = s.heap := ⟨_, rfl⟩
  obtain ⟨locs, hle⟩ : ∃ q : List Loc, q = [] := ⟨_, rfl⟩
  have hS : va_S A s.heap H locs := by rw [hHe, hle]; exact hS
  rw [← hHe] at hP
  suffices hgo : W p l e rmX6_clear s m ([.ref o_t] : List Value).toArray below meth c H locs 0 0 Q (F0 m 0 ls []) by rw [hHe, hle] at hgo; exact hgo
  clear hHe hle
  refine lv_aload_n hx hb dX6_clear_0 rfl (lv_at hl 0 rfl) ?_
  refine va_get (D := D) (ci := 6) (v := .ref (a_t 4)) (C := RX6) (T := TX6) (N := 9) hx hb hts hinX6 hown hK hP 0 rfl rfl 4 (by decide) (hts (.fieldLink RX6 29 "OnlyStrangersHear" "numbers" "LOnlyStrangersHear$Numbers;") (by decide +kernel)) (fun _ h9 => h9) rfl dX6_clear_1 ?_
  refine va_get (D := D) (ci := 2) (v := .int (S_t_4.1 1)) (C := RX2) (T := TX2) (N := 2) hx hb hts hinX2 hown hK hP 2 rfl rfl 1 (by decide) (hts (.fieldLink RX6 265 "OnlyStrangersHear$Numbers" "size" "I") (by decide +kernel)) (fun _ h9 => h9) rfl dX6_clear_4 ?_
  refine lv_istore_n (lv' := [(1, .int (S_t_4.1 1)), (0, .ref o_t)]) hx hb dX6_clear_7 rfl hl (by decide) rfl (fun ls hl => ?_)
  refine lv_aload_n hx hb dX6_clear_8 rfl (lv_at hl 1 rfl) ?_
  refine va_get (D := D) (ci := 6) (v := .ref (a_t 4)) (C := RX6) (T := TX6) (N := 9) hx hb hts hinX6 hown hK hP 0 rfl rfl 4 (by decide) (hts (.fieldLink RX6 29 "OnlyStrangersHear" "numbers" "LOnlyStrangersHear$Numbers;") (by decide +kernel)) (fun _ h9 => h9) rfl dX6_clear_9 ?_
  obtain ⟨r12, u12, h12, hf⟩ := bd_some hf
  have hPc := hP.sub (ws' := gX2 (a_t 4) a_t_4 cI S_t_4) [2, 3] rfl
  have hDc := hD.sub (ws' := gX2 (a_t 4) a_t_4 cI S_t_4) [2, 3] (by decide) rfl
  refine calX (runV E0.b E0.n (As := []) (rest := []) ⟨hx, hb, hml, hown, hts⟩ (c_X2_forget l D cI (a_t 4) a_t_4 S_t_4 _ h12) gX6_clear_X2_forget rfl rfl rfl hdX2_forget ⟨by decide, by decide⟩ hK hPc hDc 0 rfl rfl rfl hl.1 rfl (Nat.le_of_ble_eq_true rfl) dX6_clear_12 ⟨Nat.zero_le _, Nat.zero_le _⟩) hP hD hS hA [2, 3] [0, 1] [0, 1, 2, 3] (wr := gX6 o_t a_t cI S_t) (wn := gX6 o_t a_t cI S_t ++ gX2 (a_t 4) a_t_4 cI u12) rfl rfl (by decide) (by decide) rfl (by decide) (fun H locs hP hD hS => ?_)
  have hP : va_P D vwCl (gX6 o_t a_t cI S_t ++ gX2 (a_t 4) a_t_4 cI u12) H := hP
  have hD : va_D A (gX6 o_t a_t cI S_t ++ gX2 (a_t 4) a_t_4 cI u12) := hD
  refine W.eq (g2 := F0 m 15 ls []) rfl ?_
  refine lv_iload_n hx hb dX6_clear_15 rfl (lv_at hl 0 rfl) ?_
  have e := so_some hf
  subst e
  exact ri hx hb hK hr hlk hQ dX6_clear_16 hP hD hS
abbrev rmX6_lots : Room := { frames := 5, cells := 0, slots := 0, locals := 115 }
set_option maxHeartbeats 4000000 in
set_option maxRecDepth 100000 in
theorem c_X6_lots (l : Launch) (D : va_G) (cI : ClassId) (o_t : Nat) (a_t : Nat → Nat) (a_t_0 : Nat → Nat) (a_t_6 : Nat → Nat) (a_t_6_0 : Nat → Nat) (S_t : G) (S_t_0 : G) (S_t_6_0 : G) (x1 : Int32) (x2 : Int32) (x3 : Int32) (out : Int32 × G × G × G) (hf : f_X6_lots S_t S_t_0 S_t_6_0 x1 x2 x3 = some out) : Cn E0 l yX6_lots wsX6_lots rmX6_lots D cI [.ref o_t, .int x1, .int x2, .int x3] (gX6 o_t a_t cI S_t ++ (gX4 (a_t 0) a_t_0 cI S_t_0 ++ (gX1 (a_t 6) a_t_6 ++ gX4 (a_t_6 0) a_t_6_0 cI S_t_6_0))) (some (.int out.1)) (gX6 o_t a_t cI out.2.1 ++ (gX4 (a_t 0) a_t_0 cI out.2.2.1 ++ (gX1 (a_t 6) a_t_6 ++ gX4 (a_t_6 0) a_t_6_0 cI out.2.2.2))) := by
  refine Cn.mk (cc := cX6_lots) (maxL := 5) (ret := (some .int)) (by decide) rfl (Nat.le_of_ble_eq_true rfl) ?_
  intro p e s m below meth c A ls Q hx hb hml hown hts hK hA hP hD hS hl hr hlk hnm hE hQ
  have hown : s.vm.findClass RX6 = some m.cls := hown
  have hinX6 : ∀ w ∈ u_ws RX6 TX6 9, w ∈ wsX6_lots := by decide +kernel
  have j48 : ∀ (S_t : G) (S_t_0 : G) (S_t_6_0 : G) (s2 : Int32) (s3 : Int32) (s4 : Int32) (H : Heap) (locs : List Loc) (ls : Array Slot), f_X6_lots_48 S_t S_t_0 S_t_6_0 s2 s3 s4 = some out → va_P D vwCl (gX6 o_t a_t cI S_t ++ (gX4 (a_t 0) a_t_0 cI S_t_0 ++ (gX1 (a_t 6) a_t_6 ++ gX4 (a_t_6 0) a_t_6_0 cI S_t_6_0))) H → va_D A (gX6 o_t a_t cI S_t ++ (gX4 (a_t 0) a_t_0 cI S_t_0 ++ (gX1 (a_t 6) a_t_6 ++ gX4 (a_t_6 0) a_t_6_0 cI S_t_6_0))) → va_S A s.heap H locs → lv_has ls 5 [] → W p l e rmX6_lots s m ([.ref o_t, .int x1, .int x2, .int x3] : List Value).toArray below meth c H locs 0 0 Q (F0 m 48 ls [.int s4, .int s3, .int s2, .ref (a_t 0), .ref (a_t 6)]) := by
    intro S_t S_t_0 S_t_6_0 s2 s3 s4 H locs ls hf hP hD hS hl
    unfold f_X6_lots_48 at hf
    obtain ⟨r48, u48, h48, hf⟩ := bd_some hf
    have hPc := hP.sub (ws' := gX1 (a_t 6) a_t_6 ++ (gX4 (a_t_6 0) a_t_6_0 cI S_t_6_0 ++ gX4 (a_t 0) a_t_0 cI S_t_0)) [9, 10, 11, 12, 13, 14, 15, 16, 2, 3, 4, 5, 6, 7, 8] rfl
    have hDc := hD.sub (ws' := gX1 (a_t 6) a_t_6 ++ (gX4 (a_t_6 0) a_t_6_0 cI S_t_6_0 ++ gX4 (a_t 0) a_t_0 cI S_t_0)) [9, 10, 11, 12, 13, 14, 15, 16, 2, 3, 4, 5, 6, 7, 8] (by decide) rfl
    refine calX (runV E0.b E0.n (As := [.ref (a_t 0), .int s2, .int s3, .int s4]) (rest := []) ⟨hx, hb, hml, hown, hts⟩ (c_X1_townsByLot l D cI (a_t 6) a_t_6 a_t_6_0 (a_t 0) a_t_0 S_t_6_0 S_t_0 s2 s3 s4 _ h48) gX6_lots_X1_townsByLot rfl rfl rfl hdX1_townsByLot ⟨by decide, by decide⟩ hK hPc hDc 0 rfl rfl rfl hl.1 rfl (Nat.le_of_ble_eq_true rfl) dX6_lots_48 ⟨Nat.zero_le _, Nat.zero_le _⟩) hP hD hS hA [9, 10, 11, 12, 13, 14, 15, 16, 2, 3, 4, 5, 6, 7, 8] [0, 1] [0, 1, 10, 11, 12, 13, 14, 15, 16, 2, 3, 4, 5, 6, 7, 8, 9] (wr := gX6 o_t a_t cI S_t) (wn := gX6 o_t a_t cI S_t ++ (gX4 (a_t 0) a_t_0 cI u48.2 ++ (gX1 (a_t 6) a_t_6 ++ gX4 (a_t_6 0) a_t_6_0 cI u48.1))) rfl rfl (by decide) (by decide) rfl (by decide) (fun H locs hP hD hS => ?_)
    have hP : va_P D vwCl (gX6 o_t a_t cI S_t ++ (gX4 (a_t 0) a_t_0 cI u48.2 ++ (gX1 (a_t 6) a_t_6 ++ gX4 (a_t_6 0) a_t_6_0 cI u48.1))) H := hP
    have hD : va_D A (gX6 o_t a_t cI S_t ++ (gX4 (a_t 0) a_t_0 cI u48.2 ++ (gX1 (a_t 6) a_t_6 ++ gX4 (a_t_6 0) a_t_6_0 cI u48.1))) := hD
    refine W.eq (g2 := F0 m 51 ls [.int r48]) rfl ?_
    have e := so_some hf
    subst e
    exact ri hx hb hK hr hlk hQ dX6_lots_51 hP hD hS
  unfold f_X6_lots at hf
  have hl : lv_has ls 5 [(0, .ref o_t), (1, .int x1), (2, .int x2), (3, .int x3)] := hl
  obtain ⟨H, hHe⟩ : ∃ H : Heap, H = s.heap := ⟨_, rfl⟩
  obtain ⟨locs, hle⟩ : ∃ q : List Loc, q = [] := ⟨_, rfl⟩
  have hS : va_S A s.heap H locs := by rw [hHe, hle]; exact hS
  rw [← hHe] at hP
  suffices hgo : W p l e rmX6_lots s m ([.ref o_t, .int x1, .int x2, .int x3] : List Value).toArray below meth c H locs 0 0 Q (F0 m 0 ls []) by rw [hHe, hle] at hgo; exact hgo
  clear hHe hle
  refine lv_iload_n hx hb dX6_lots_0 rfl (lv_at hl 1 rfl) ?_
  refine lv_iconst (v := (1 : Int32)) hx hb dX6_lots_1 (by decide) ?_
  refine lv_bipush (v := (20 : Int32)) hx hb dX6_lots_2 (by decide) ?_
  obtain ⟨r4, u4, h4, hf⟩ := bd_some hf
  have hPc : va_P D vwCl [] H := hP.sub (ws' := []) [] rfl
  have hDc : va_D A [] := hD.sub (ws' := []) [] (by decide) rfl
  refine calXe (runS E0.b E0.n (As := [.int x1, .int (1 : Int32), .int (20 : Int32)]) (rest := []) ⟨hx, hb, hml, hown, hts⟩ (c_X6_range l D cI x1 (1 : Int32) (20 : Int32) _ h4) gX6_lots_X6_range rfl rfl rfl hdX6_range ⟨by decide, by decide⟩ hK hPc hDc rfl hl.1 rfl (Nat.le_of_ble_eq_true rfl) dX6_lots_4 ⟨Nat.zero_le _, Nat.zero_le _⟩) hP hD hS hA (fun H locs hP hD hS => ?_)
  have hP : va_P D vwCl (gX6 o_t a_t cI S_t ++ (gX4 (a_t 0) a_t_0 cI S_t_0 ++ (gX1 (a_t 6) a_t_6 ++ gX4 (a_t_6 0) a_t_6_0 cI S_t_6_0))) H := hP
  have hD : va_D A (gX6 o_t a_t cI S_t ++ (gX4 (a_t 0) a_t_0 cI S_t_0 ++ (gX1 (a_t 6) a_t_6 ++ gX4 (a_t_6 0) a_t_6_0 cI S_t_6_0))) := hD
  refine W.eq (g2 := F0 m 7 ls [.int r4]) rfl ?_
  refine lv_iload_n hx hb dX6_lots_7 rfl (lv_at hl 3 rfl) ?_
  refine lv_iconst (v := (2 : Int32)) hx hb dX6_lots_8 (by decide) ?_
  obtain ⟨r9, u9, h9, hf⟩ := bd_some hf
  have hPc : va_P D vwCl [] H := hP.sub (ws' := []) [] rfl
  have hDc : va_D A [] := hD.sub (ws' := []) [] (by decide) rfl
  refine calXe (runS E0.b E0.n (As := [.int x3, .int (2 : Int32)]) (rest := [.int r4]) ⟨hx, hb, hml, hown, hts⟩ (c_X6_choice l D cI x3 (2 : Int32) _ h9) gX6_lots_X6_choice rfl rfl rfl hdX6_choice ⟨by decide, by decide⟩ hK hPc hDc rfl hl.1 rfl (Nat.le_of_ble_eq_true rfl) dX6_lots_9 ⟨Nat.zero_le _, Nat.zero_le _⟩) hP hD hS hA (fun H locs hP hD hS => ?_)
  have hP : va_P D vwCl (gX6 o_t a_t cI S_t ++ (gX4 (a_t 0) a_t_0 cI S_t_0 ++ (gX1 (a_t 6) a_t_6 ++ gX4 (a_t_6 0) a_t_6_0 cI S_t_6_0))) H := hP
  have hD : va_D A (gX6 o_t a_t cI S_t ++ (gX4 (a_t 0) a_t_0 cI S_t_0 ++ (gX1 (a_t 6) a_t_6 ++ gX4 (a_t_6 0) a_t_6_0 cI S_t_6_0))) := hD
  refine W.eq (g2 := F0 m 12 ls [.int r9, .int r4]) rfl ?_
  obtain ⟨r12, u12, h12, hf⟩ := bd_some hf
  have hPc : va_P D vwCl [] H := hP.sub (ws' := []) [] rfl
  have hDc : va_D A [] := hD.sub (ws' := []) [] (by decide) rfl
  refine calXe (runS E0.b E0.n (As := [.int r4, .int r9]) (rest := []) ⟨hx, hb, hml, hown, hts⟩ (c_X6_first l D cI r4 r9 _ h12) gX6_lots_X6_first rfl rfl rfl hdX6_first ⟨by decide, by decide⟩ hK hPc hDc rfl hl.1 rfl (Nat.le_of_ble_eq_true rfl) dX6_lots_12 ⟨Nat.zero_le _, Nat.zero_le _⟩) hP hD hS hA (fun H locs hP hD hS => ?_)
  have hP : va_P D vwCl (gX6 o_t a_t cI S_t ++ (gX4 (a_t 0) a_t_0 cI S_t_0 ++ (gX1 (a_t 6) a_t_6 ++ gX4 (a_t_6 0) a_t_6_0 cI S_t_6_0))) H := hP
  have hD : va_D A (gX6 o_t a_t cI S_t ++ (gX4 (a_t 0) a_t_0 cI S_t_0 ++ (gX1 (a_t 6) a_t_6 ++ gX4 (a_t_6 0) a_t_6_0 cI S_t_6_0))) := hD
  refine W.eq (g2 := F0 m 15 ls [.int r12]) rfl ?_
  refine lv_istore (lv' := [(4, .int r12), (0, .ref o_t), (1, .int x1), (2, .int x2), (3, .int x3)]) hx hb dX6_lots_15 hl (by decide) rfl (fun ls hl => ?_)
  refine lv_iload hx hb dX6_lots_17 (lv_at hl 0 rfl) ?_
  refine lv_if_eq (tgt := 29) hx hb dX6_lots_19 (by decide) (fun c19 => ?_) (fun c19 => ?_)
  · replace hf := it_t c19 hf
    refine lv_aload_n hx hb dX6_lots_29 rfl (lv_at hl 1 rfl) ?_
    refine va_get (D := D) (ci := 6) (v := .ref (a_t 6)) (C := RX6) (T := TX6) (N := 9) hx hb hts hinX6 hown hK hP 0 rfl rfl 6 (by decide) (hts (.fieldLink RX6 43 "OnlyStrangersHear" "mind" "LOnlyStrangersHear$Mind;") (by decide +kernel)) (fun _ h9 => h9) rfl dX6_lots_30 ?_
    refine lv_aload_n hx hb dX6_lots_33 rfl (lv_at hl 1 rfl) ?_
    refine va_get (D := D) (ci := 6) (v := .ref (a_t 0)) (C := RX6) (T := TX6) (N := 9) hx hb hts hinX6 hown hK hP 0 rfl rfl 0 (by decide) (hts (.fieldLink RX6 10 "OnlyStrangersHear" "now" "LOnlyStrangersHear$Town;") (by decide +kernel)) (fun _ h9 => h9) rfl dX6_lots_34 ?_
    refine lv_iload_n hx hb dX6_lots_37 rfl (lv_at hl 2 rfl) ?_
    refine lv_iload_n hx hb dX6_lots_38 rfl (lv_at hl 3 rfl) ?_
    refine lv_iload_n hx hb dX6_lots_39 rfl (lv_at hl 4 rfl) ?_
    refine lv_if_ne (tgt := 47) hx hb dX6_lots_40 (by decide) (fun c40 => ?_) (fun c40 => ?_)
    · replace hf := it_f c40 hf
      refine lv_iconst (v := (0 : Int32)) hx hb dX6_lots_47 (by decide) ?_
      exact j48 S_t S_t_0 S_t_6_0 x1 x2 (0 : Int32) H locs ls hf hP hD hS (lv_sub hl [] rfl)
    · replace hf := it_t c40 hf
      refine lv_iconst (v := (1 : Int32)) hx hb dX6_lots_43 (by decide) ?_
      refine lv_goto (tgt := 48) hx hb dX6_lots_44 (by decide) ?_
      exact j48 S_t S_t_0 S_t_6_0 x1 x2 (1 : Int32) H locs ls hf hP hD hS (lv_sub hl [] rfl)
  · replace hf := it_f c19 hf
    refine lv_aload_n hx hb dX6_lots_22 rfl (lv_at hl 1 rfl) ?_
    refine lv_iload hx hb dX6_lots_23 (lv_at hl 0 rfl) ?_
    obtain ⟨r25, u25, h25, hf⟩ := bd_some hf
    have hPc := hP.sub (ws' := gX6 o_t a_t cI S_t) [0, 1] rfl
    have hDc := hD.sub (ws' := gX6 o_t a_t cI S_t) [0, 1] (by decide) rfl
    refine calX (runV E0.b E0.n (As := [.int r12]) (rest := []) ⟨hx, hb, hml, hown, hts⟩ (c_X6_refused l D cI o_t a_t S_t r12 _ h25) gX6_lots_X6_refused rfl rfl rfl hdX6_refused ⟨by decide, by decide⟩ hK hPc hDc 0 rfl rfl rfl hl.1 rfl (Nat.le_of_ble_eq_true rfl) dX6_lots_25 ⟨Nat.zero_le _, Nat.zero_le _⟩) hP hD hS hA [0, 1] [2, 3, 4, 5, 6, 7, 8, 9, 10, 11, 12, 13, 14, 15, 16] [15, 16, 0, 1, 2, 3, 4, 5, 6, 7, 8, 9, 10, 11, 12, 13, 14] (wr := gX4 (a_t 0) a_t_0 cI S_t_0 ++ (gX1 (a_t 6) a_t_6 ++ gX4 (a_t_6 0) a_t_6_0 cI S_t_6_0)) (wn := gX6 o_t a_t cI u25 ++ (gX4 (a_t 0) a_t_0 cI S_t_0 ++ (gX1 (a_t 6) a_t_6 ++ gX4 (a_t_6 0) a_t_6_0 cI S_t_6_0))) rfl rfl (by decide) (by decide) rfl (by decide) (fun H locs hP hD hS => ?_)
    have hP : va_P D vwCl (gX6 o_t a_t cI u25 ++ (gX4 (a_t 0) a_t_0 cI S_t_0 ++ (gX1 (a_t 6) a_t_6 ++ gX4 (a_t_6 0) a_t_6_0 cI S_t_6_0))) H := hP
    have hD : va_D A (gX6 o_t a_t cI u25 ++ (gX4 (a_t 0) a_t_0 cI S_t_0 ++ (gX1 (a_t 6) a_t_6 ++ gX4 (a_t_6 0) a_t_6_0 cI S_t_6_0))) := hD
    refine W.eq (g2 := F0 m 28 ls [.int r25]) rfl ?_
    have e := so_some hf
    subst e
    exact ri hx hb hK hr hlk hQ dX6_lots_28 hP hD hS
abbrev rmX6_image : Room := { frames := 2, cells := 0, slots := 0, locals := 61 }
set_option maxHeartbeats 4000000 in
set_option maxRecDepth 100000 in
theorem c_X6_image (l : Launch) (D : va_G) (cI : ClassId) (o_t : Nat) (a_t : Nat → Nat) (a_t_0 : Nat → Nat) (a_t_1 : Nat → Nat) (S_t : G) (S_t_0 : G) (S_t_1 : G) (out : Int32 × G × G × G) (hf : f_X6_image S_t S_t_0 S_t_1 = some out) : Cn E0 l yX6_image wsX6_image rmX6_image D cI [.ref o_t] (gX6 o_t a_t cI S_t ++ (gX4 (a_t 0) a_t_0 cI S_t_0 ++ gX4 (a_t 1) a_t_1 cI S_t_1)) (some (.int out.1)) (gX6 o_t a_t cI out.2.1 ++ (gX4 (a_t 0) a_t_0 cI out.2.2.1 ++ gX4 (a_t 1) a_t_1 cI out.2.2.2)) := by
  refine Cn.mk (cc := cX6_image) (maxL := 1) (ret := (some .int)) (by decide) rfl (Nat.le_of_ble_eq_true rfl) ?_
  intro p e s m below meth c A ls Q hx hb hml hown hts hK hA hP hD hS hl hr hlk hnm hE hQ
  have hown : s.vm.findClass RX6 = some m.cls := hown
  have hinX4 : ∀ w ∈ u_ws RX4 TX4 10, w ∈ wsX6_image := by decide +kernel
  have hinX6 : ∀ w ∈ u_ws RX6 TX6 9, w ∈ wsX6_image := by decide +kernel
  unfold f_X6_image at hf
  have hl : lv_has ls 1 [(0, .ref o_t)] := hl
  obtain ⟨H, hHe⟩ : ∃ H : Heap, H = s.heap := ⟨_, rfl⟩
  obtain ⟨locs, hle⟩ : ∃ q : List Loc, q = [] := ⟨_, rfl⟩
  have hS : va_S A s.heap H locs := by rw [hHe, hle]; exact hS
  rw [← hHe] at hP
  suffices hgo : W p l e rmX6_image s m ([.ref o_t] : List Value).toArray below meth c H locs 0 0 Q (F0 m 0 ls []) by rw [hHe, hle] at hgo; exact hgo
  clear hHe hle
  refine lv_aload_n hx hb dX6_image_0 rfl (lv_at hl 0 rfl) ?_
  refine va_get (D := D) (ci := 6) (v := .ref (a_t 1)) (C := RX6) (T := TX6) (N := 9) hx hb hts hinX6 hown hK hP 0 rfl rfl 1 (by decide) (hts (.fieldLink RX6 16 "OnlyStrangersHear" "kept" "LOnlyStrangersHear$Town;") (by decide +kernel)) (fun _ h9 => h9) rfl dX6_image_1 ?_
  refine lv_aload_n hx hb dX6_image_4 rfl (lv_at hl 0 rfl) ?_
  refine va_get (D := D) (ci := 6) (v := .ref (a_t 0)) (C := RX6) (T := TX6) (N := 9) hx hb hts hinX6 hown hK hP 0 rfl rfl 0 (by decide) (hts (.fieldLink RX6 10 "OnlyStrangersHear" "now" "LOnlyStrangersHear$Town;") (by decide +kernel)) (fun _ h9 => h9) rfl dX6_image_5 ?_
  obtain ⟨r8, u8, h8, hf⟩ := bd_some hf
  have hPc := hP.sub (ws' := gX4 (a_t 1) a_t_1 cI S_t_1 ++ gX4 (a_t 0) a_t_0 cI S_t_0) [9, 10, 11, 12, 13, 14, 15, 2, 3, 4, 5, 6, 7, 8] rfl
  have hDc := hD.sub (ws' := gX4 (a_t 1) a_t_1 cI S_t_1 ++ gX4 (a_t 0) a_t_0 cI S_t_0) [9, 10, 11, 12, 13, 14, 15, 2, 3, 4, 5, 6, 7, 8] (by decide) rfl
  refine calX (runV E0.b E0.n (As := [.ref (a_t 0)]) (rest := []) ⟨hx, hb, hml, hown, hts⟩ (c_X4_become l D cI (a_t 1) a_t_1 (a_t 0) a_t_0 S_t_1 S_t_0 _ h8) gX6_image_X4_become rfl rfl rfl hdX4_become ⟨by decide, by decide⟩ hK hPc hDc 0 rfl rfl rfl hl.1 rfl (Nat.le_of_ble_eq_true rfl) dX6_image_8 ⟨Nat.zero_le _, Nat.zero_le _⟩) hP hD hS hA [9, 10, 11, 12, 13, 14, 15, 2, 3, 4, 5, 6, 7, 8] [0, 1] [0, 1, 9, 10, 11, 12, 13, 14, 15, 2, 3, 4, 5, 6, 7, 8] (wr := gX6 o_t a_t cI S_t) (wn := gX6 o_t a_t cI S_t ++ (gX4 (a_t 0) a_t_0 cI u8.2 ++ gX4 (a_t 1) a_t_1 cI u8.1)) rfl rfl (by decide) (by decide) rfl (by decide) (fun H locs hP hD hS => ?_)
  have hP : va_P D vwCl (gX6 o_t a_t cI S_t ++ (gX4 (a_t 0) a_t_0 cI u8.2 ++ gX4 (a_t 1) a_t_1 cI u8.1)) H := hP
  have hD : va_D A (gX6 o_t a_t cI S_t ++ (gX4 (a_t 0) a_t_0 cI u8.2 ++ gX4 (a_t 1) a_t_1 cI u8.1)) := hD
  refine W.eq (g2 := F0 m 11 ls []) rfl ?_
  refine lv_aload_n hx hb dX6_image_11 rfl (lv_at hl 0 rfl) ?_
  refine lv_iconst (v := (1 : Int32)) hx hb dX6_image_12 (by decide) ?_
  refine va_put (D := D) (ci := 6) (v := .int (1 : Int32)) (ty := .boolean) (C := RX6) (T := TX6) (N := 9) hx hb hts hinX6 tyX6 tyX6_ok nmX6 hown hK hP hD hS 0 rfl rfl 2 (by decide) (hts (.fieldLink RX6 282 "OnlyStrangersHear" "isKept" "Z") (by decide +kernel)) (fun _ h9 => h9) rfl (by decide +kernel) rfl rfl (Nat.le_of_ble_eq_true rfl) dX6_image_13 (fun H locs hP hD hS => ?_)
  have hP : va_P D vwCl (gX6 o_t a_t cI (pF S_t 2 (1 : Int32)) ++ (gX4 (a_t 0) a_t_0 cI u8.2 ++ gX4 (a_t 1) a_t_1 cI u8.1)) H := hP
  have hD : va_D A (gX6 o_t a_t cI (pF S_t 2 (1 : Int32)) ++ (gX4 (a_t 0) a_t_0 cI u8.2 ++ gX4 (a_t 1) a_t_1 cI u8.1)) := hD
  obtain ⟨g13, e13, hf⟩ := lt_some hf
  rw [← e13] at hP hD
  refine lv_aload_n hx hb dX6_image_16 rfl (lv_at hl 0 rfl) ?_
  refine va_get (D := D) (ci := 6) (v := .ref (a_t 0)) (C := RX6) (T := TX6) (N := 9) hx hb hts hinX6 hown hK hP 0 rfl rfl 0 (by decide) (hts (.fieldLink RX6 10 "OnlyStrangersHear" "now" "LOnlyStrangersHear$Town;") (by decide +kernel)) (fun _ h9 => h9) rfl dX6_image_17 ?_
  refine va_get (D := D) (ci := 4) (v := .int (u8.2.1 8)) (C := RX4) (T := TX4) (N := 10) hx hb hts hinX4 hown hK hP 2 rfl rfl 8 (by decide) (hts (.fieldLink RX6 135 "OnlyStrangersHear$Town" "day" "I") (by decide +kernel)) (fun _ h9 => h9) rfl dX6_image_20 ?_
  have e := so_some hf
  subst e
  exact ri hx hb hK hr hlk hQ dX6_image_23 hP hD hS
abbrev rmX6_on : Room := { frames := 2, cells := 0, slots := 0, locals := 61 }
set_option maxHeartbeats 4000000 in
set_option maxRecDepth 100000 in
theorem c_X6_on (l : Launch) (D : va_G) (cI : ClassId) (o_t : Nat) (a_t : Nat → Nat) (a_t_0 : Nat → Nat) (a_t_1 : Nat → Nat) (S_t : G) (S_t_0 : G) (S_t_1 : G) (out : Int32 × G × G × G) (hf : f_X6_on S_t S_t_0 S_t_1 = some out) : Cn E0 l yX6_on wsX6_on rmX6_on D cI [.ref o_t] (gX6 o_t a_t cI S_t ++ (gX4 (a_t 0) a_t_0 cI S_t_0 ++ gX4 (a_t 1) a_t_1 cI S_t_1)) (some (.int out.1)) (gX6 o_t a_t cI out.2.1 ++ (gX4 (a_t 0) a_t_0 cI out.2.2.1 ++ gX4 (a_t 1) a_t_1 cI out.2.2.2)) := by
  refine Cn.mk (cc := cX6_on) (maxL := 1) (ret := (some .int)) (by decide) rfl (Nat.le_of_ble_eq_true rfl) ?_
  intro p e s m below meth c A ls Q hx hb hml hown hts hK hA hP hD hS hl hr hlk hnm hE hQ
  have hown : s.vm.findClass RX6 = some m.cls := hown
  have hinX4 : ∀ w ∈ u_ws RX4 TX4 10, w ∈ wsX6_on := by decide +kernel
  have hinX6 : ∀ w ∈ u_ws RX6 TX6 9, w ∈ wsX6_on := by decide +kernel
  unfold f_X6_on at hf
  have hl : lv_has ls 1 [(0, .ref o_t)] := hl
  obtain ⟨H, hHe⟩ : ∃ H : Heap, H = s.heap := ⟨_, rfl⟩
  obtain ⟨locs, hle⟩ : ∃ q : List Loc, q = [] := ⟨_, rfl⟩
  have hS : va_S A s.heap H locs := by rw [hHe, hle]; exact hS
  rw [← hHe] at hP
  suffices hgo : W p l e rmX6_on s m ([.ref o_t] : List Value).toArray below meth c H locs 0 0 Q (F0 m 0 ls []) by rw [hHe, hle] at hgo; exact hgo
  clear hHe hle
  refine lv_aload_n hx hb dX6_on_0 rfl (lv_at hl 0 rfl) ?_
  refine va_get (D := D) (ci := 6) (v := .int (S_t.1 2)) (C := RX6) (T := TX6) (N := 9) hx hb hts hinX6 hown hK hP 0 rfl rfl 2 (by decide) (hts (.fieldLink RX6 282 "OnlyStrangersHear" "isKept" "Z") (by decide +kernel)) (fun _ h9 => h9) rfl dX6_on_1 ?_
  refine lv_if_ne (tgt := 14) hx hb dX6_on_4 (by decide) (fun c4 => ?_) (fun c4 => ?_)
  · replace hf := it_f c4 hf
    refine lv_aload_n hx hb dX6_on_14 rfl (lv_at hl 0 rfl) ?_
    refine va_get (D := D) (ci := 6) (v := .ref (a_t 0)) (C := RX6) (T := TX6) (N := 9) hx hb hts hinX6 hown hK hP 0 rfl rfl 0 (by decide) (hts (.fieldLink RX6 10 "OnlyStrangersHear" "now" "LOnlyStrangersHear$Town;") (by decide +kernel)) (fun _ h9 => h9) rfl dX6_on_15 ?_
    refine lv_aload_n hx hb dX6_on_18 rfl (lv_at hl 0 rfl) ?_
    refine va_get (D := D) (ci := 6) (v := .ref (a_t 1)) (C := RX6) (T := TX6) (N := 9) hx hb hts hinX6 hown hK hP 0 rfl rfl 1 (by decide) (hts (.fieldLink RX6 16 "OnlyStrangersHear" "kept" "LOnlyStrangersHear$Town;") (by decide +kernel)) (fun _ h9 => h9) rfl dX6_on_19 ?_
    obtain ⟨r22, u22, h22, hf⟩ := bd_some hf
    have hPc := hP.sub (ws' := gX4 (a_t 0) a_t_0 cI S_t_0 ++ gX4 (a_t 1) a_t_1 cI S_t_1) [2, 3, 4, 5, 6, 7, 8, 9, 10, 11, 12, 13, 14, 15] rfl
    have hDc := hD.sub (ws' := gX4 (a_t 0) a_t_0 cI S_t_0 ++ gX4 (a_t 1) a_t_1 cI S_t_1) [2, 3, 4, 5, 6, 7, 8, 9, 10, 11, 12, 13, 14, 15] (by decide) rfl
    refine calX (runV E0.b E0.n (As := [.ref (a_t 1)]) (rest := []) ⟨hx, hb, hml, hown, hts⟩ (c_X4_become l D cI (a_t 0) a_t_0 (a_t 1) a_t_1 S_t_0 S_t_1 _ h22) gX6_on_X4_become rfl rfl rfl hdX4_become ⟨by decide, by decide⟩ hK hPc hDc 0 rfl rfl rfl hl.1 rfl (Nat.le_of_ble_eq_true rfl) dX6_on_22 ⟨Nat.zero_le _, Nat.zero_le _⟩) hP hD hS hA [2, 3, 4, 5, 6, 7, 8, 9, 10, 11, 12, 13, 14, 15] [0, 1] [0, 1, 2, 3, 4, 5, 6, 7, 8, 9, 10, 11, 12, 13, 14, 15] (wr := gX6 o_t a_t cI S_t) (wn := gX6 o_t a_t cI S_t ++ (gX4 (a_t 0) a_t_0 cI u22.1 ++ gX4 (a_t 1) a_t_1 cI u22.2)) rfl rfl (by decide) (by decide) rfl (by decide) (fun H locs hP hD hS => ?_)
    have hP : va_P D vwCl (gX6 o_t a_t cI S_t ++ (gX4 (a_t 0) a_t_0 cI u22.1 ++ gX4 (a_t 1) a_t_1 cI u22.2)) H := hP
    have hD : va_D A (gX6 o_t a_t cI S_t ++ (gX4 (a_t 0) a_t_0 cI u22.1 ++ gX4 (a_t 1) a_t_1 cI u22.2)) := hD
    refine W.eq (g2 := F0 m 25 ls []) rfl ?_
    refine lv_aload_n hx hb dX6_on_25 rfl (lv_at hl 0 rfl) ?_
    refine va_get (D := D) (ci := 6) (v := .ref (a_t 0)) (C := RX6) (T := TX6) (N := 9) hx hb hts hinX6 hown hK hP 0 rfl rfl 0 (by decide) (hts (.fieldLink RX6 10 "OnlyStrangersHear" "now" "LOnlyStrangersHear$Town;") (by decide +kernel)) (fun _ h9 => h9) rfl dX6_on_26 ?_
    refine va_get (D := D) (ci := 4) (v := .int (u22.1.1 8)) (C := RX4) (T := TX4) (N := 10) hx hb hts hinX4 hown hK hP 2 rfl rfl 8 (by decide) (hts (.fieldLink RX6 135 "OnlyStrangersHear$Town" "day" "I") (by decide +kernel)) (fun _ h9 => h9) rfl dX6_on_29 ?_
    have e := so_some hf
    subst e
    exact ri hx hb hK hr hlk hQ dX6_on_32 hP hD hS
  · replace hf := it_t c4 hf
    refine lv_aload_n hx hb dX6_on_7 rfl (lv_at hl 0 rfl) ?_
    refine lv_bipush (v := (-3 : Int32)) hx hb dX6_on_8 (by decide) ?_
    obtain ⟨r10, u10, h10, hf⟩ := bd_some hf
    have hPc := hP.sub (ws' := gX6 o_t a_t cI S_t) [0, 1] rfl
    have hDc := hD.sub (ws' := gX6 o_t a_t cI S_t) [0, 1] (by decide) rfl
    refine calX (runV E0.b E0.n (As := [.int (-3 : Int32)]) (rest := []) ⟨hx, hb, hml, hown, hts⟩ (c_X6_refused l D cI o_t a_t S_t (-3 : Int32) _ h10) gX6_on_X6_refused rfl rfl rfl hdX6_refused ⟨by decide, by decide⟩ hK hPc hDc 0 rfl rfl rfl hl.1 rfl (Nat.le_of_ble_eq_true rfl) dX6_on_10 ⟨Nat.zero_le _, Nat.zero_le _⟩) hP hD hS hA [0, 1] [2, 3, 4, 5, 6, 7, 8, 9, 10, 11, 12, 13, 14, 15] [14, 15, 0, 1, 2, 3, 4, 5, 6, 7, 8, 9, 10, 11, 12, 13] (wr := gX4 (a_t 0) a_t_0 cI S_t_0 ++ gX4 (a_t 1) a_t_1 cI S_t_1) (wn := gX6 o_t a_t cI u10 ++ (gX4 (a_t 0) a_t_0 cI S_t_0 ++ gX4 (a_t 1) a_t_1 cI S_t_1)) rfl rfl (by decide) (by decide) rfl (by decide) (fun H locs hP hD hS => ?_)
    have hP : va_P D vwCl (gX6 o_t a_t cI u10 ++ (gX4 (a_t 0) a_t_0 cI S_t_0 ++ gX4 (a_t 1) a_t_1 cI S_t_1)) H := hP
    have hD : va_D A (gX6 o_t a_t cI u10 ++ (gX4 (a_t 0) a_t_0 cI S_t_0 ++ gX4 (a_t 1) a_t_1 cI S_t_1)) := hD
    refine W.eq (g2 := F0 m 13 ls [.int r10]) rfl ?_
    have e := so_some hf
    subst e
    exact ri hx hb hK hr hlk hQ dX6_on_13 hP hD hS
abbrev rmX6_count : Room := { frames := 4, cells := 0, slots := 0, locals := 87 }
set_option maxHeartbeats 4000000 in
set_option maxRecDepth 100000 in
theorem c_X6_count (l : Launch) (D : va_G) (cI : ClassId) (o_t : Nat) (a_t : Nat → Nat) (a_t_0 : Nat → Nat) (a_t_3 : Nat → Nat) (a_t_4 : Nat → Nat) (S_t : G) (S_t_0 : G) (S_t_3 : G) (S_t_4 : G) (x1 : Int32) (out : Int32 × G × G × G × G) (hf : f_X6_count S_t S_t_0 S_t_3 S_t_4 x1 = some out) : Cn E0 l yX6_count wsX6_count rmX6_count D cI [.ref o_t, .int x1] (gX6 o_t a_t cI S_t ++ (gX4 (a_t 0) a_t_0 cI S_t_0 ++ (gX0 (a_t 3) a_t_3 cI S_t_3 ++ gX2 (a_t 4) a_t_4 cI S_t_4))) (some (.int out.1)) (gX6 o_t a_t cI out.2.1 ++ (gX4 (a_t 0) a_t_0 cI out.2.2.1 ++ (gX0 (a_t 3) a_t_3 cI out.2.2.2.1 ++ gX2 (a_t 4) a_t_4 cI out.2.2.2.2))) := by
  refine Cn.mk (cc := cX6_count) (maxL := 2) (ret := (some .int)) (by decide) rfl (Nat.le_of_ble_eq_true rfl) ?_
  intro p e s m below meth c A ls Q hx hb hml hown hts hK hA hP hD hS hl hr hlk hnm hE hQ
  have hown : s.vm.findClass RX6 = some m.cls := hown
  have hinX0 : ∀ w ∈ u_ws RX0 TX0 3, w ∈ wsX6_count := by decide +kernel
  have hinX2 : ∀ w ∈ u_ws RX2 TX2 2, w ∈ wsX6_count := by decide +kernel
  have hinX4 : ∀ w ∈ u_ws RX4 TX4 10, w ∈ wsX6_count := by decide +kernel
  have hinX6 : ∀ w ∈ u_ws RX6 TX6 9, w ∈ wsX6_count := by decide +kernel
  unfold f_X6_count at hf
  have hl : lv_has ls 2 [(0, .ref o_t), (1, .int x1)] := hl
  obtain ⟨H, hHe⟩ : ∃ H : Heap, H = s.heap := ⟨_, rfl⟩
  obtain ⟨locs, hle⟩ : ∃ q : List Loc, q = [] := ⟨_, rfl⟩
  have hS : va_S A s.heap H locs := by rw [hHe, hle]; exact hS
  rw [← hHe] at hP
  suffices hgo : W p l e rmX6_count s m ([.ref o_t, .int x1] : List Value).toArray below meth c H locs 0 0 Q (F0 m 0 ls []) by rw [hHe, hle] at hgo; exact hgo
  clear hHe hle
  refine lv_iload_n hx hb dX6_count_0 rfl (lv_at hl 1 rfl) ?_
  by_cases ck0 : x1 = (0 : Int32)
  · replace hf := it_t ck0 hf
    refine lv_tableIn (off := 47) (tgt := 48) hx hb dX6_count_1 (by rw [ck0]; decide) (by rw [ck0]; decide) (by rw [ck0]; decide) (by decide) ?_
    refine lv_aload_n hx hb dX6_count_48 rfl (lv_at hl 0 rfl) ?_
    refine va_get (D := D) (ci := 6) (v := .ref (a_t 0)) (C := RX6) (T := TX6) (N := 9) hx hb hts hinX6 hown hK hP 0 rfl rfl 0 (by decide) (hts (.fieldLink RX6 10 "OnlyStrangersHear" "now" "LOnlyStrangersHear$Town;") (by decide +kernel)) (fun _ h9 => h9) rfl dX6_count_49 ?_
    refine va_get (D := D) (ci := 4) (v := .int (S_t_0.1 0)) (C := RX4) (T := TX4) (N := 10) hx hb hts hinX4 hown hK hP 2 rfl rfl 0 (by decide) (hts (.fieldLink RX6 286 "OnlyStrangersHear$Town" "bells" "I") (by decide +kernel)) (fun _ h9 => h9) rfl dX6_count_52 ?_
    have e := so_some hf
    subst e
    exact ri hx hb hK hr hlk hQ dX6_count_55 hP hD hS
  · replace hf := it_f ck0 hf
    by_cases ck1 : x1 = (1 : Int32)
    · replace hf := it_t ck1 hf
      refine lv_tableIn (off := 55) (tgt := 56) hx hb dX6_count_1 (by rw [ck1]; decide) (by rw [ck1]; decide) (by rw [ck1]; decide) (by decide) ?_
      refine lv_aload_n hx hb dX6_count_56 rfl (lv_at hl 0 rfl) ?_
      refine va_get (D := D) (ci := 6) (v := .ref (a_t 0)) (C := RX6) (T := TX6) (N := 9) hx hb hts hinX6 hown hK hP 0 rfl rfl 0 (by decide) (hts (.fieldLink RX6 10 "OnlyStrangersHear" "now" "LOnlyStrangersHear$Town;") (by decide +kernel)) (fun _ h9 => h9) rfl dX6_count_57 ?_
      refine va_get (D := D) (ci := 4) (v := .int (S_t_0.1 3)) (C := RX4) (T := TX4) (N := 10) hx hb hts hinX4 hown hK hP 2 rfl rfl 3 (by decide) (hts (.fieldLink RX6 250 "OnlyStrangersHear$Town" "people" "I") (by decide +kernel)) (fun _ h9 => h9) rfl dX6_count_60 ?_
      have e := so_some hf
      subst e
      exact ri hx hb hK hr hlk hQ dX6_count_63 hP hD hS
    · replace hf := it_f ck1 hf
      by_cases ck2 : x1 = (2 : Int32)
      · replace hf := it_t ck2 hf
        refine lv_tableIn (off := 63) (tgt := 64) hx hb dX6_count_1 (by rw [ck2]; decide) (by rw [ck2]; decide) (by rw [ck2]; decide) (by decide) ?_
        refine lv_aload_n hx hb dX6_count_64 rfl (lv_at hl 0 rfl) ?_
        refine va_get (D := D) (ci := 6) (v := .ref (a_t 0)) (C := RX6) (T := TX6) (N := 9) hx hb hts hinX6 hown hK hP 0 rfl rfl 0 (by decide) (hts (.fieldLink RX6 10 "OnlyStrangersHear" "now" "LOnlyStrangersHear$Town;") (by decide +kernel)) (fun _ h9 => h9) rfl dX6_count_65 ?_
        refine va_get (D := D) (ci := 4) (v := .int (S_t_0.1 8)) (C := RX4) (T := TX4) (N := 10) hx hb hts hinX4 hown hK hP 2 rfl rfl 8 (by decide) (hts (.fieldLink RX6 135 "OnlyStrangersHear$Town" "day" "I") (by decide +kernel)) (fun _ h9 => h9) rfl dX6_count_68 ?_
        have e := so_some hf
        subst e
        exact ri hx hb hK hr hlk hQ dX6_count_71 hP hD hS
      · replace hf := it_f ck2 hf
        by_cases ck3 : x1 = (3 : Int32)
        · replace hf := it_t ck3 hf
          refine lv_tableIn (off := 71) (tgt := 72) hx hb dX6_count_1 (by rw [ck3]; decide) (by rw [ck3]; decide) (by rw [ck3]; decide) (by decide) ?_
          refine lv_aload_n hx hb dX6_count_72 rfl (lv_at hl 0 rfl) ?_
          refine va_get (D := D) (ci := 6) (v := .ref (a_t 0)) (C := RX6) (T := TX6) (N := 9) hx hb hts hinX6 hown hK hP 0 rfl rfl 0 (by decide) (hts (.fieldLink RX6 10 "OnlyStrangersHear" "now" "LOnlyStrangersHear$Town;") (by decide +kernel)) (fun _ h9 => h9) rfl dX6_count_73 ?_
          refine va_get (D := D) (ci := 4) (v := .int (S_t_0.1 9)) (C := RX4) (T := TX4) (N := 10) hx hb hts hinX4 hown hK hP 2 rfl rfl 9 (by decide) (hts (.fieldLink RX6 128 "OnlyStrangersHear$Town" "bedCount" "I") (by decide +kernel)) (fun _ h9 => h9) rfl dX6_count_76 ?_
          have e := so_some hf
          subst e
          exact ri hx hb hK hr hlk hQ dX6_count_79 hP hD hS
        · replace hf := it_f ck3 hf
          by_cases ck4 : x1 = (4 : Int32)
          · replace hf := it_t ck4 hf
            refine lv_tableIn (off := 79) (tgt := 80) hx hb dX6_count_1 (by rw [ck4]; decide) (by rw [ck4]; decide) (by rw [ck4]; decide) (by decide) ?_
            refine lv_aload_n hx hb dX6_count_80 rfl (lv_at hl 0 rfl) ?_
            refine va_get (D := D) (ci := 6) (v := .ref (a_t 0)) (C := RX6) (T := TX6) (N := 9) hx hb hts hinX6 hown hK hP 0 rfl rfl 0 (by decide) (hts (.fieldLink RX6 10 "OnlyStrangersHear" "now" "LOnlyStrangersHear$Town;") (by decide +kernel)) (fun _ h9 => h9) rfl dX6_count_81 ?_
            obtain ⟨r84, u84, h84, hf⟩ := bd_some hf
            have hPc := hP.sub (ws' := gX4 (a_t 0) a_t_0 cI S_t_0) [2, 3, 4, 5, 6, 7, 8] rfl
            have hDc := hD.sub (ws' := gX4 (a_t 0) a_t_0 cI S_t_0) [2, 3, 4, 5, 6, 7, 8] (by decide) rfl
            refine calX (runV E0.b E0.n (As := []) (rest := []) ⟨hx, hb, hml, hown, hts⟩ (c_X4_hearersOfSome l D cI (a_t 0) a_t_0 S_t_0 _ h84) gX6_count_X4_hearersOfSome rfl rfl rfl hdX4_hearersOfSome ⟨by decide, by decide⟩ hK hPc hDc 0 rfl rfl rfl hl.1 rfl (Nat.le_of_ble_eq_true rfl) dX6_count_84 ⟨Nat.zero_le _, Nat.zero_le _⟩) hP hD hS hA [2, 3, 4, 5, 6, 7, 8] [0, 1, 9, 10, 11, 12] [0, 1, 6, 7, 8, 9, 10, 11, 12, 2, 3, 4, 5] (wr := gX6 o_t a_t cI S_t ++ (gX0 (a_t 3) a_t_3 cI S_t_3 ++ gX2 (a_t 4) a_t_4 cI S_t_4)) (wn := gX6 o_t a_t cI S_t ++ (gX4 (a_t 0) a_t_0 cI u84 ++ (gX0 (a_t 3) a_t_3 cI S_t_3 ++ gX2 (a_t 4) a_t_4 cI S_t_4))) rfl rfl (by decide) (by decide) rfl (by decide) (fun H locs hP hD hS => ?_)
            have hP : va_P D vwCl (gX6 o_t a_t cI S_t ++ (gX4 (a_t 0) a_t_0 cI u84 ++ (gX0 (a_t 3) a_t_3 cI S_t_3 ++ gX2 (a_t 4) a_t_4 cI S_t_4))) H := hP
            have hD : va_D A (gX6 o_t a_t cI S_t ++ (gX4 (a_t 0) a_t_0 cI u84 ++ (gX0 (a_t 3) a_t_3 cI S_t_3 ++ gX2 (a_t 4) a_t_4 cI S_t_4))) := hD
            refine W.eq (g2 := F0 m 87 ls [.int r84]) rfl ?_
            obtain ⟨r87, u87, h87, hf⟩ := bd_some hf
            have hPc : va_P D vwCl [] H := hP.sub (ws' := []) [] rfl
            have hDc : va_D A [] := hD.sub (ws' := []) [] (by decide) rfl
            refine calXe (runS E0.b E0.n (As := [.int r84]) (rest := []) ⟨hx, hb, hml, hown, hts⟩ (c_J6_bitCount_0f7a4 l D cI r84 _ h87) gX6_count_J6_bitCount_0f7a4 rfl rfl rfl hdJ6_bitCount_0f7a4 ⟨by decide, by decide⟩ hK hPc hDc rfl hl.1 rfl (Nat.le_of_ble_eq_true rfl) dX6_count_87 ⟨Nat.zero_le _, Nat.zero_le _⟩) hP hD hS hA (fun H locs hP hD hS => ?_)
            have hP : va_P D vwCl (gX6 o_t a_t cI S_t ++ (gX4 (a_t 0) a_t_0 cI u84 ++ (gX0 (a_t 3) a_t_3 cI S_t_3 ++ gX2 (a_t 4) a_t_4 cI S_t_4))) H := hP
            have hD : va_D A (gX6 o_t a_t cI S_t ++ (gX4 (a_t 0) a_t_0 cI u84 ++ (gX0 (a_t 3) a_t_3 cI S_t_3 ++ gX2 (a_t 4) a_t_4 cI S_t_4))) := hD
            refine W.eq (g2 := F0 m 90 ls [.int r87]) rfl ?_
            have e := so_some hf
            subst e
            exact ri hx hb hK hr hlk hQ dX6_count_90 hP hD hS
          · replace hf := it_f ck4 hf
            by_cases ck5 : x1 = (5 : Int32)
            · replace hf := it_t ck5 hf
              refine lv_tableIn (off := 90) (tgt := 91) hx hb dX6_count_1 (by rw [ck5]; decide) (by rw [ck5]; decide) (by rw [ck5]; decide) (by decide) ?_
              refine lv_aload_n hx hb dX6_count_91 rfl (lv_at hl 0 rfl) ?_
              refine va_get (D := D) (ci := 6) (v := .ref (a_t 0)) (C := RX6) (T := TX6) (N := 9) hx hb hts hinX6 hown hK hP 0 rfl rfl 0 (by decide) (hts (.fieldLink RX6 10 "OnlyStrangersHear" "now" "LOnlyStrangersHear$Town;") (by decide +kernel)) (fun _ h9 => h9) rfl dX6_count_92 ?_
              obtain ⟨r95, u95, h95, hf⟩ := bd_some hf
              have hPc := hP.sub (ws' := gX4 (a_t 0) a_t_0 cI S_t_0) [2, 3, 4, 5, 6, 7, 8] rfl
              have hDc := hD.sub (ws' := gX4 (a_t 0) a_t_0 cI S_t_0) [2, 3, 4, 5, 6, 7, 8] (by decide) rfl
              refine calX (runV E0.b E0.n (As := []) (rest := []) ⟨hx, hb, hml, hown, hts⟩ (c_X4_allSlept l D cI (a_t 0) a_t_0 S_t_0 _ h95) gX6_count_X4_allSlept rfl rfl rfl hdX4_allSlept ⟨by decide, by decide⟩ hK hPc hDc 0 rfl rfl rfl hl.1 rfl (Nat.le_of_ble_eq_true rfl) dX6_count_95 ⟨Nat.zero_le _, Nat.zero_le _⟩) hP hD hS hA [2, 3, 4, 5, 6, 7, 8] [0, 1, 9, 10, 11, 12] [0, 1, 6, 7, 8, 9, 10, 11, 12, 2, 3, 4, 5] (wr := gX6 o_t a_t cI S_t ++ (gX0 (a_t 3) a_t_3 cI S_t_3 ++ gX2 (a_t 4) a_t_4 cI S_t_4)) (wn := gX6 o_t a_t cI S_t ++ (gX4 (a_t 0) a_t_0 cI u95 ++ (gX0 (a_t 3) a_t_3 cI S_t_3 ++ gX2 (a_t 4) a_t_4 cI S_t_4))) rfl rfl (by decide) (by decide) rfl (by decide) (fun H locs hP hD hS => ?_)
              have hP : va_P D vwCl (gX6 o_t a_t cI S_t ++ (gX4 (a_t 0) a_t_0 cI u95 ++ (gX0 (a_t 3) a_t_3 cI S_t_3 ++ gX2 (a_t 4) a_t_4 cI S_t_4))) H := hP
              have hD : va_D A (gX6 o_t a_t cI S_t ++ (gX4 (a_t 0) a_t_0 cI u95 ++ (gX0 (a_t 3) a_t_3 cI S_t_3 ++ gX2 (a_t 4) a_t_4 cI S_t_4))) := hD
              refine W.eq (g2 := F0 m 98 ls [.int r95]) rfl ?_
              have e := so_some hf
              subst e
              exact ri hx hb hK hr hlk hQ dX6_count_98 hP hD hS
            · replace hf := it_f ck5 hf
              by_cases ck6 : x1 = (6 : Int32)
              · replace hf := it_t ck6 hf
                refine lv_tableIn (off := 98) (tgt := 99) hx hb dX6_count_1 (by rw [ck6]; decide) (by rw [ck6]; decide) (by rw [ck6]; decide) (by decide) ?_
                refine lv_aload_n hx hb dX6_count_99 rfl (lv_at hl 0 rfl) ?_
                refine va_get (D := D) (ci := 6) (v := .ref (a_t 4)) (C := RX6) (T := TX6) (N := 9) hx hb hts hinX6 hown hK hP 0 rfl rfl 4 (by decide) (hts (.fieldLink RX6 29 "OnlyStrangersHear" "numbers" "LOnlyStrangersHear$Numbers;") (by decide +kernel)) (fun _ h9 => h9) rfl dX6_count_100 ?_
                refine va_get (D := D) (ci := 2) (v := .int (S_t_4.1 1)) (C := RX2) (T := TX2) (N := 2) hx hb hts hinX2 hown hK hP 11 rfl rfl 1 (by decide) (hts (.fieldLink RX6 265 "OnlyStrangersHear$Numbers" "size" "I") (by decide +kernel)) (fun _ h9 => h9) rfl dX6_count_103 ?_
                have e := so_some hf
                subst e
                exact ri hx hb hK hr hlk hQ dX6_count_106 hP hD hS
              · replace hf := it_f ck6 hf
                by_cases ck7 : x1 = (7 : Int32)
                · replace hf := it_t ck7 hf
                  refine lv_tableIn (off := 106) (tgt := 107) hx hb dX6_count_1 (by rw [ck7]; decide) (by rw [ck7]; decide) (by rw [ck7]; decide) (by decide) ?_
                  refine lv_aload_n hx hb dX6_count_107 rfl (lv_at hl 0 rfl) ?_
                  refine va_get (D := D) (ci := 6) (v := .ref (a_t 3)) (C := RX6) (T := TX6) (N := 9) hx hb hts hinX6 hown hK hP 0 rfl rfl 3 (by decide) (hts (.fieldLink RX6 22 "OnlyStrangersHear" "letters" "LOnlyStrangersHear$Letters;") (by decide +kernel)) (fun _ h9 => h9) rfl dX6_count_108 ?_
                  refine va_get (D := D) (ci := 0) (v := .int (S_t_3.1 2)) (C := RX0) (T := TX0) (N := 3) hx hb hts hinX0 hown hK hP 9 rfl rfl 2 (by decide) (hts (.fieldLink RX6 62 "OnlyStrangersHear$Letters" "told" "I") (by decide +kernel)) (fun _ h9 => h9) rfl dX6_count_111 ?_
                  have e := so_some hf
                  subst e
                  exact ri hx hb hK hr hlk hQ dX6_count_114 hP hD hS
                · replace hf := it_f ck7 hf
                  by_cases clo : x1.toInt < 0
                  · refine lv_tableOut (tgt := 115) hx hb dX6_count_1 (Or.inl clo) (by decide) ?_
                    refine lv_iload_n hx hb dX6_count_115 rfl (lv_at hl 1 rfl) ?_
                    refine lv_bipush (v := (10 : Int32)) hx hb dX6_count_116 (by decide) ?_
                    refine lv_icmp_le (tgt := 139) hx hb dX6_count_118 (by decide) (fun c118 => ?_) (fun c118 => ?_)
                    · replace hf := it_t c118 hf
                      refine lv_bipush (v := (-9 : Int32)) hx hb dX6_count_139 (by decide) ?_
                      have e := so_some hf
                      subst e
                      exact ri hx hb hK hr hlk hQ dX6_count_141 hP hD hS
                    · replace hf := it_f c118 hf
                      refine lv_iload_n hx hb dX6_count_121 rfl (lv_at hl 1 rfl) ?_
                      refine lv_bipush (v := (16 : Int32)) hx hb dX6_count_122 (by decide) ?_
                      refine lv_icmp_gt (tgt := 139) hx hb dX6_count_124 (by decide) (fun c124 => ?_) (fun c124 => ?_)
                      · replace hf := it_t c124 hf
                        refine lv_bipush (v := (-9 : Int32)) hx hb dX6_count_139 (by decide) ?_
                        have e := so_some hf
                        subst e
                        exact ri hx hb hK hr hlk hQ dX6_count_141 hP hD hS
                      · replace hf := it_f c124 hf
                        refine lv_aload_n hx hb dX6_count_127 rfl (lv_at hl 0 rfl) ?_
                        refine va_get (D := D) (ci := 6) (v := .ref (a_t 8)) (C := RX6) (T := TX6) (N := 9) hx hb hts hinX6 hown hK hP 0 rfl rfl 8 (by decide) (hts (.fieldLink RX6 54 "OnlyStrangersHear" "refusals" "[I") (by decide +kernel)) (fun _ h9 => h9) rfl dX6_count_128 ?_
                        refine lv_iload_n hx hb dX6_count_131 rfl (lv_at hl 1 rfl) ?_
                        refine lv_bipush (v := (10 : Int32)) hx hb dX6_count_132 (by decide) ?_
                        refine lv_isub hx hb dX6_count_134 ?_
                        obtain ⟨b135, hf⟩ := ck_some hf
                        refine va_iald hx hb hK hP 1 0 rfl rfl b135 dX6_count_135 ?_
                        refine lv_goto (tgt := 141) hx hb dX6_count_136 (by decide) ?_
                        have e := so_some hf
                        subst e
                        exact ri hx hb hK hr hlk hQ dX6_count_141 hP hD hS
                  by_cases chi : 7 < x1.toInt
                  · refine lv_tableOut (tgt := 115) hx hb dX6_count_1 (Or.inr chi) (by decide) ?_
                    refine lv_iload_n hx hb dX6_count_115 rfl (lv_at hl 1 rfl) ?_
                    refine lv_bipush (v := (10 : Int32)) hx hb dX6_count_116 (by decide) ?_
                    refine lv_icmp_le (tgt := 139) hx hb dX6_count_118 (by decide) (fun c118 => ?_) (fun c118 => ?_)
                    · replace hf := it_t c118 hf
                      refine lv_bipush (v := (-9 : Int32)) hx hb dX6_count_139 (by decide) ?_
                      have e := so_some hf
                      subst e
                      exact ri hx hb hK hr hlk hQ dX6_count_141 hP hD hS
                    · replace hf := it_f c118 hf
                      refine lv_iload_n hx hb dX6_count_121 rfl (lv_at hl 1 rfl) ?_
                      refine lv_bipush (v := (16 : Int32)) hx hb dX6_count_122 (by decide) ?_
                      refine lv_icmp_gt (tgt := 139) hx hb dX6_count_124 (by decide) (fun c124 => ?_) (fun c124 => ?_)
                      · replace hf := it_t c124 hf
                        refine lv_bipush (v := (-9 : Int32)) hx hb dX6_count_139 (by decide) ?_
                        have e := so_some hf
                        subst e
                        exact ri hx hb hK hr hlk hQ dX6_count_141 hP hD hS
                      · replace hf := it_f c124 hf
                        refine lv_aload_n hx hb dX6_count_127 rfl (lv_at hl 0 rfl) ?_
                        refine va_get (D := D) (ci := 6) (v := .ref (a_t 8)) (C := RX6) (T := TX6) (N := 9) hx hb hts hinX6 hown hK hP 0 rfl rfl 8 (by decide) (hts (.fieldLink RX6 54 "OnlyStrangersHear" "refusals" "[I") (by decide +kernel)) (fun _ h9 => h9) rfl dX6_count_128 ?_
                        refine lv_iload_n hx hb dX6_count_131 rfl (lv_at hl 1 rfl) ?_
                        refine lv_bipush (v := (10 : Int32)) hx hb dX6_count_132 (by decide) ?_
                        refine lv_isub hx hb dX6_count_134 ?_
                        obtain ⟨b135, hf⟩ := ck_some hf
                        refine va_iald hx hb hK hP 1 0 rfl rfl b135 dX6_count_135 ?_
                        refine lv_goto (tgt := 141) hx hb dX6_count_136 (by decide) ?_
                        have e := so_some hf
                        subst e
                        exact ri hx hb hK hr hlk hQ dX6_count_141 hP hD hS
                  exact (sw_no (x := x1) (lo := 0) (hi := 7) clo chi (ks := [0, 1, 2, 3, 4, 5, 6, 7]) (by decide) (List.forall_mem_cons.mpr ⟨lv_neT (k := 0) (a := 0) ck0 (by decide), (List.forall_mem_cons.mpr ⟨lv_neT (k := 1) (a := 1) ck1 (by decide), (List.forall_mem_cons.mpr ⟨lv_neT (k := 2) (a := 2) ck2 (by decide), (List.forall_mem_cons.mpr ⟨lv_neT (k := 3) (a := 3) ck3 (by decide), (List.forall_mem_cons.mpr ⟨lv_neT (k := 4) (a := 4) ck4 (by decide), (List.forall_mem_cons.mpr ⟨lv_neT (k := 5) (a := 5) ck5 (by decide), (List.forall_mem_cons.mpr ⟨lv_neT (k := 6) (a := 6) ck6 (by decide), (List.forall_mem_cons.mpr ⟨lv_neT (k := 7) (a := 7) ck7 (by decide), (fun _ h => absurd h List.not_mem_nil)⟩)⟩)⟩)⟩)⟩)⟩)⟩)⟩)).elim
