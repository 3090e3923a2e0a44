abbrev rmX5_rightBells : Room := { frames := 3, cells := 0, slots := 0, locals := 66 }
set_option maxHeartbeats 4000000 in
set_option maxRecDepth 100000 in
theorem c_X5_rightBells (l : Launch) (D : va_G) (cI : ClassId) (o_t : Nat) (a_t : Nat → Nat) (o_p1 : Nat) (a_p1 : Nat → Nat) (S_t : G) (S_p1 : G) (x2 : Int32) (out : Int32 × G × G) (hf : f_X5_rightBells S_t S_p1 x2 = some out) : Cn E0 l yX5_rightBells wsX5_rightBells rmX5_rightBells D cI [.ref o_t, .ref o_p1, .int x2] (gX5 o_t a_t cI S_t ++ gX4 o_p1 a_p1 cI S_p1) (some (.int out.1)) (gX5 o_t a_t cI out.2.1 ++ gX4 o_p1 a_p1 cI out.2.2) := by
  refine Cn.mk (cc := cX5_rightBells) (maxL := 6) (ret := (some .int)) (by decide) rfl (Nat.le_of_ble_eq_true rfl) ?_
  intro p e s m below meth c A ls Q hx hb hml hown hts hK hA hP hD hS hl hr hlk hnm hE hQ
  have hown : s.vm.findClass RX5 = some m.cls := hown
  have hinX4 : ∀ w ∈ u_ws RX4 TX4 10, w ∈ wsX5_rightBells := by decide +kernel
  have j20 : ∀ (n20 : Nat) (S_t : G) (S_p1 : G) (l3 : Int32) (l4 : Int32) (l5 : Int32) (H : Heap) (locs : List Loc) (ls : Array Slot), f_X5_rightBells_20 n20 S_t S_p1 l3 l4 l5 = some out → va_P D vwCl (gX5 o_t a_t cI S_t ++ gX4 o_p1 a_p1 cI S_p1) H → va_D A (gX5 o_t a_t cI S_t ++ gX4 o_p1 a_p1 cI S_p1) → va_S A s.heap H locs → lv_has ls 6 [(1, .ref o_p1), (3, .int l3), (4, .int l4), (5, .int l5)] → W p l e rmX5_rightBells s m ([.ref o_t, .ref o_p1, .int x2] : List Value).toArray below meth c H locs 0 0 Q (F0 m 20 ls []) := by
    intro n20
    induction n20 with
    | zero =>
      intro S_t S_p1 l3 l4 l5 H locs ls hf
      exact no_some hf
    | succ n20 ih20 =>
      intro S_t S_p1 l3 l4 l5 H locs ls hf hP hD hS hl
      replace hf : b_X5_rightBells_20 (f_X5_rightBells_20 n20) S_t S_p1 l3 l4 l5 = some out := hf
      unfold b_X5_rightBells_20 at hf
      refine lv_iload hx hb dX5_rightBells_20 (lv_at hl 3 rfl) ?_
      refine lv_aload_n hx hb dX5_rightBells_22 rfl (lv_at hl 0 rfl) ?_
      refine va_get (D := D) (ci := 4) (v := .int (S_p1.1 0)) (C := RX4) (T := TX4) (N := 10) hx hb hts hinX4 hown hK hP 2 rfl rfl 0 (by decide) (hts (.fieldLink RX5 15 "OnlyStrangersHear$Town" "bells" "I") (by decide +kernel)) (fun _ h9 => h9) rfl dX5_rightBells_23 ?_
      refine lv_icmp_ge (tgt := 62) hx hb dX5_rightBells_26 (by decide) (fun c26 => ?_) (fun c26 => ?_)
      · replace hf := it_t c26 hf
        refine lv_iload hx hb dX5_rightBells_62 (lv_at hl 2 rfl) ?_
        have e := so_some hf
        subst e
        exact ri hx hb hK hr hlk hQ dX5_rightBells_64 hP hD hS
      · replace hf := it_f c26 hf
        refine lv_aload_n hx hb dX5_rightBells_29 rfl (lv_at hl 0 rfl) ?_
        refine lv_iload hx hb dX5_rightBells_30 (lv_at hl 3 rfl) ?_
        refine lv_aload_n hx hb dX5_rightBells_32 rfl (lv_at hl 0 rfl) ?_
        refine lv_iload hx hb dX5_rightBells_33 (lv_at hl 3 rfl) ?_
        obtain ⟨r35, u35, h35, hf⟩ := bd_some hf
        have hPc := hP.sub (ws' := gX4 o_p1 a_p1 cI S_p1) [2, 3, 4, 5, 6, 7, 8] rfl
        have hDc := hD.sub (ws' := gX4 o_p1 a_p1 cI S_p1) [2, 3, 4, 5, 6, 7, 8] (by decide) rfl
        refine calX (runV E0.b E0.n (As := [.int l5]) (rest := [.int l5, .ref o_p1]) ⟨hx, hb, hml, hown, hts⟩ (c_X4_hearersOf l D cI o_p1 a_p1 S_p1 l5 _ h35) gX5_rightBells_X4_hearersOf rfl rfl rfl hdX4_hearersOf ⟨by decide, by decide⟩ hK hPc hDc 0 rfl rfl rfl hl.1 rfl (Nat.le_of_ble_eq_true rfl) dX5_rightBells_35 ⟨Nat.zero_le _, Nat.zero_le _⟩) hP hD hS hA [2, 3, 4, 5, 6, 7, 8] [0, 1] [0, 1, 2, 3, 4, 5, 6, 7, 8] (wr := gX5 o_t a_t cI S_t) (wn := gX5 o_t a_t cI S_t ++ gX4 o_p1 a_p1 cI u35) rfl rfl (by decide) (by decide) rfl (by decide) (fun H locs hP hD hS => ?_)
        have hP : va_P D vwCl (gX5 o_t a_t cI S_t ++ gX4 o_p1 a_p1 cI u35) H := hP
        have hD : va_D A (gX5 o_t a_t cI S_t ++ gX4 o_p1 a_p1 cI u35) := hD
        refine W.eq (g2 := F0 m 38 ls [.int r35, .int l5, .ref o_p1]) rfl ?_
        refine lv_iload_n hx hb dX5_rightBells_38 rfl (lv_at hl 1 rfl) ?_
        refine lv_iand hx hb dX5_rightBells_39 ?_
        obtain ⟨r40, u40, h40, hf⟩ := bd_some hf
        have hPc := hP.sub (ws' := gX4 o_p1 a_p1 cI u35) [2, 3, 4, 5, 6, 7, 8] rfl
        have hDc := hD.sub (ws' := gX4 o_p1 a_p1 cI u35) [2, 3, 4, 5, 6, 7, 8] (by decide) rfl
        refine calX (runV E0.b E0.n (As := [.int l5, .int (r35 &&& l3)]) (rest := []) ⟨hx, hb, hml, hown, hts⟩ (c_X4_saidOf l D cI o_p1 a_p1 u35 l5 (r35 &&& l3) _ h40) gX5_rightBells_X4_saidOf rfl rfl rfl hdX4_saidOf ⟨by decide, by decide⟩ hK hPc hDc 0 rfl rfl rfl hl.1 rfl (Nat.le_of_ble_eq_true rfl) dX5_rightBells_40 ⟨Nat.zero_le _, Nat.zero_le _⟩) hP hD hS hA [2, 3, 4, 5, 6, 7, 8] [0, 1] [0, 1, 2, 3, 4, 5, 6, 7, 8] (wr := gX5 o_t a_t cI S_t) (wn := gX5 o_t a_t cI S_t ++ gX4 o_p1 a_p1 cI u40) rfl rfl (by decide) (by decide) rfl (by decide) (fun H locs hP hD hS => ?_)
        have hP : va_P D vwCl (gX5 o_t a_t cI S_t ++ gX4 o_p1 a_p1 cI u40) H := hP
        have hD : va_D A (gX5 o_t a_t cI S_t ++ gX4 o_p1 a_p1 cI u40) := hD
        refine W.eq (g2 := F0 m 43 ls [.int r40]) rfl ?_
        refine lv_aload_n hx hb dX5_rightBells_43 rfl (lv_at hl 0 rfl) ?_
        refine va_get (D := D) (ci := 4) (v := .ref (a_p1 1)) (C := RX4) (T := TX4) (N := 10) hx hb hts hinX4 hown hK hP 2 rfl rfl 1 (by decide) (hts (.fieldLink RX5 29 "OnlyStrangersHear$Town" "hour" "[I") (by decide +kernel)) (fun _ h9 => h9) rfl dX5_rightBells_44 ?_
        refine lv_iload hx hb dX5_rightBells_47 (lv_at hl 3 rfl) ?_
        obtain ⟨b49, hf⟩ := ck_some hf
        refine va_iald hx hb hK hP 3 0 rfl rfl b49 dX5_rightBells_49 ?_
        refine lv_icmp_ne (tgt := 56) hx hb dX5_rightBells_50 (by decide) (fun c50 => ?_) (fun c50 => ?_)
        · replace hf := it_f c50 hf
          refine lv_iinc (v := l5 + (1 : Int32)) (lv' := [(5, .int (l5 + (1 : Int32))), (1, .ref o_p1), (3, .int l3), (4, .int l4)]) hx hb dX5_rightBells_56 hl (k := 3) rfl rfl (by decide) rfl (fun ls hl => ?_)
          refine lv_goto (tgt := 20) hx hb dX5_rightBells_59 (by decide) ?_
          exact ih20 S_t u40 l3 l4 (l5 + (1 : Int32)) H locs ls hf hP hD hS (lv_sub hl [1, 2, 3, 0] rfl)
        · replace hf := it_t c50 hf
          refine lv_iinc (v := l4 + (1 : Int32)) (lv' := [(4, .int (l4 + (1 : Int32))), (1, .ref o_p1), (3, .int l3), (5, .int l5)]) hx hb dX5_rightBells_53 hl (k := 2) rfl rfl (by decide) rfl (fun ls hl => ?_)
          refine lv_iinc (v := l5 + (1 : Int32)) (lv' := [(5, .int (l5 + (1 : Int32))), (4, .int (l4 + (1 : Int32))), (1, .ref o_p1), (3, .int l3)]) hx hb dX5_rightBells_56 hl (k := 3) rfl rfl (by decide) rfl (fun ls hl => ?_)
          refine lv_goto (tgt := 20) hx hb dX5_rightBells_59 (by decide) ?_
          exact ih20 S_t u40 l3 (l4 + (1 : Int32)) (l5 + (1 : Int32)) H locs ls hf hP hD hS (lv_sub hl [2, 3, 1, 0] rfl)
  unfold f_X5_rightBells at hf
  have hl : lv_has ls 6 [(0, .ref o_t), (1, .ref o_p1), (2, .int x2)] := hl
  obtain ⟨H, hHe⟩ : ∃ H : Heap, H = s.heap := ⟨_, rfl⟩
  obtain ⟨locs, hle⟩ : ∃ q : List Loc, q = [] := ⟨_, rfl⟩
  have hS : va_S A s.heap H locs := by rw [hHe, hle]; exact hS
  rw [← hHe] at hP
  suffices hgo : W p l e rmX5_rightBells s m ([.ref o_t, .ref o_p1, .int x2] : List Value).toArray below meth c H locs 0 0 Q (F0 m 0 ls []) by rw [hHe, hle] at hgo; exact hgo
  clear hHe hle
  refine lv_iload_n hx hb dX5_rightBells_0 rfl (lv_at hl 2 rfl) ?_
  refine lv_if_lt (tgt := 12) hx hb dX5_rightBells_1 (by decide) (fun c1 => ?_) (fun c1 => ?_)
  · replace hf := it_t c1 hf
    refine lv_iconst (v := (-1 : Int32)) hx hb dX5_rightBells_12 (by decide) ?_
    refine lv_istore_n (lv' := [(3, .int (-1 : Int32)), (0, .ref o_t), (1, .ref o_p1), (2, .int x2)]) hx hb dX5_rightBells_13 rfl hl (by decide) rfl (fun ls hl => ?_)
    refine lv_iconst (v := (0 : Int32)) hx hb dX5_rightBells_14 (by decide) ?_
    refine lv_istore (lv' := [(4, .int (0 : Int32)), (3, .int (-1 : Int32)), (0, .ref o_t), (1, .ref o_p1), (2, .int x2)]) hx hb dX5_rightBells_15 hl (by decide) rfl (fun ls hl => ?_)
    refine lv_iconst (v := (0 : Int32)) hx hb dX5_rightBells_17 (by decide) ?_
    refine lv_istore (lv' := [(5, .int (0 : Int32)), (4, .int (0 : Int32)), (3, .int (-1 : Int32)), (0, .ref o_t), (1, .ref o_p1), (2, .int x2)]) hx hb dX5_rightBells_18 hl (by decide) rfl (fun ls hl => ?_)
    exact j20 1000 S_t S_p1 (-1 : Int32) (0 : Int32) (0 : Int32) H locs ls hf hP hD hS (lv_sub hl [4, 2, 1, 0] rfl)
  · replace hf := it_f c1 hf
    refine lv_iconst (v := (1 : Int32)) hx hb dX5_rightBells_4 (by decide) ?_
    refine lv_iload_n hx hb dX5_rightBells_5 rfl (lv_at hl 2 rfl) ?_
    refine lv_ishl hx hb dX5_rightBells_6 ?_
    refine lv_iconst (v := (-1 : Int32)) hx hb dX5_rightBells_7 (by decide) ?_
    refine lv_ixor hx hb dX5_rightBells_8 ?_
    refine lv_goto (tgt := 13) hx hb dX5_rightBells_9 (by decide) ?_
    refine lv_topi (fun v13 e13 => ?_)
    replace hf := lt_at e13 hf
    refine lv_istore_n (lv' := [(3, .int v13), (0, .ref o_t), (1, .ref o_p1), (2, .int x2)]) hx hb dX5_rightBells_13 rfl hl (by decide) rfl (fun ls hl => ?_)
    refine lv_iconst (v := (0 : Int32)) hx hb dX5_rightBells_14 (by decide) ?_
    refine lv_istore (lv' := [(4, .int (0 : Int32)), (3, .int v13), (0, .ref o_t), (1, .ref o_p1), (2, .int x2)]) hx hb dX5_rightBells_15 hl (by decide) rfl (fun ls hl => ?_)
    refine lv_iconst (v := (0 : Int32)) hx hb dX5_rightBells_17 (by decide) ?_
    refine lv_istore (lv' := [(5, .int (0 : Int32)), (4, .int (0 : Int32)), (3, .int v13), (0, .ref o_t), (1, .ref o_p1), (2, .int x2)]) hx hb dX5_rightBells_18 hl (by decide) rfl (fun ls hl => ?_)
    exact j20 1000 S_t S_p1 v13 (0 : Int32) (0 : Int32) H locs ls hf hP hD hS (lv_sub hl [4, 2, 1, 0] rfl)
abbrev rmX5_wrongBells : Room := { frames := 4, cells := 0, slots := 0, locals := 91 }
set_option maxHeartbeats 4000000 in
set_option maxRecDepth 100000 in
theorem c_X5_wrongBells (l : Launch) (D : va_G) (cI : ClassId) (o_t : Nat) (a_t : Nat → Nat) (o_p1 : Nat) (a_p1 : Nat → Nat) (S_t : G) (S_p1 : G) (out : Int32 × G × G) (hf : f_X5_wrongBells S_t S_p1 = some out) : Cn E0 l yX5_wrongBells wsX5_wrongBells rmX5_wrongBells D cI [.ref o_t, .ref o_p1] (gX5 o_t a_t cI S_t ++ gX4 o_p1 a_p1 cI S_p1) (some (.int out.1)) (gX5 o_t a_t cI out.2.1 ++ gX4 o_p1 a_p1 cI out.2.2) := by
  refine Cn.mk (cc := cX5_wrongBells) (maxL := 2) (ret := (some .int)) (by decide) rfl (Nat.le_of_ble_eq_true rfl) ?_
  intro p e s m below meth c A ls Q hx hb hml hown hts hK hA hP hD hS hl hr hlk hnm hE hQ
  have hown : s.vm.findClass RX5 = some m.cls := hown
  have hinX4 : ∀ w ∈ u_ws RX4 TX4 10, w ∈ wsX5_wrongBells := by decide +kernel
  unfold f_X5_wrongBells at hf
  have hl : lv_has ls 2 [(0, .ref o_t), (1, .ref o_p1)] := hl
  obtain ⟨H, hHe⟩ : ∃ H : Heap, H = s.heap := ⟨_, rfl⟩
  obtain ⟨locs, hle⟩ : ∃ q : List Loc, q = [] := ⟨_, rfl⟩
  have hS : va_S A s.heap H locs := by rw [hHe, hle]; exact hS
  rw [← hHe] at hP
  suffices hgo : W p l e rmX5_wrongBells s m ([.ref o_t, .ref o_p1] : List Value).toArray below meth c H locs 0 0 Q (F0 m 0 ls []) by rw [hHe, hle] at hgo; exact hgo
  clear hHe hle
  refine lv_aload_n hx hb dX5_wrongBells_0 rfl (lv_at hl 1 rfl) ?_
  refine va_get (D := D) (ci := 4) (v := .int (S_p1.1 0)) (C := RX4) (T := TX4) (N := 10) hx hb hts hinX4 hown hK hP 2 rfl rfl 0 (by decide) (hts (.fieldLink RX5 15 "OnlyStrangersHear$Town" "bells" "I") (by decide +kernel)) (fun _ h9 => h9) rfl dX5_wrongBells_1 ?_
  refine lv_aload_n hx hb dX5_wrongBells_4 rfl (lv_at hl 1 rfl) ?_
  obtain ⟨r5, u5, h5, hf⟩ := bd_some hf
  have hPc := hP.sub (ws' := gX4 o_p1 a_p1 cI S_p1) [2, 3, 4, 5, 6, 7, 8] rfl
  have hDc := hD.sub (ws' := gX4 o_p1 a_p1 cI S_p1) [2, 3, 4, 5, 6, 7, 8] (by decide) rfl
  refine calX (runV E0.b E0.n (As := []) (rest := [.int (S_p1.1 0)]) ⟨hx, hb, hml, hown, hts⟩ (c_X4_silentBells l D cI o_p1 a_p1 S_p1 _ h5) gX5_wrongBells_X4_silentBells rfl rfl rfl hdX4_silentBells ⟨by decide, by decide⟩ hK hPc hDc 0 rfl rfl rfl hl.1 rfl (Nat.le_of_ble_eq_true rfl) dX5_wrongBells_5 ⟨Nat.zero_le _, Nat.zero_le _⟩) hP hD hS hA [2, 3, 4, 5, 6, 7, 8] [0, 1] [0, 1, 2, 3, 4, 5, 6, 7, 8] (wr := gX5 o_t a_t cI S_t) (wn := gX5 o_t a_t cI S_t ++ gX4 o_p1 a_p1 cI u5) rfl rfl (by decide) (by decide) rfl (by decide) (fun H locs hP hD hS => ?_)
  have hP : va_P D vwCl (gX5 o_t a_t cI S_t ++ gX4 o_p1 a_p1 cI u5) H := hP
  have hD : va_D A (gX5 o_t a_t cI S_t ++ gX4 o_p1 a_p1 cI u5) := hD
  refine W.eq (g2 := F0 m 8 ls [.int r5, .int (S_p1.1 0)]) rfl ?_
  obtain ⟨r8, u8, h8, hf⟩ := bd_some hf
  have hPc : va_P D vwCl [] H := hP.sub (ws' := []) [] rfl
  have hDc : va_D A [] := hD.sub (ws' := []) [] (by decide) rfl
  refine calXe (runS E0.b E0.n (As := [.int r5]) (rest := [.int (S_p1.1 0)]) ⟨hx, hb, hml, hown, hts⟩ (c_J6_bitCount_0f7a4 l D cI r5 _ h8) gX5_wrongBells_J6_bitCount_0f7a4 rfl rfl rfl hdJ6_bitCount_0f7a4 ⟨by decide, by decide⟩ hK hPc hDc rfl hl.1 rfl (Nat.le_of_ble_eq_true rfl) dX5_wrongBells_8 ⟨Nat.zero_le _, Nat.zero_le _⟩) hP hD hS hA (fun H locs hP hD hS => ?_)
  have hP : va_P D vwCl (gX5 o_t a_t cI S_t ++ gX4 o_p1 a_p1 cI u5) H := hP
  have hD : va_D A (gX5 o_t a_t cI S_t ++ gX4 o_p1 a_p1 cI u5) := hD
  refine W.eq (g2 := F0 m 11 ls [.int r8, .int (S_p1.1 0)]) rfl ?_
  refine lv_isub hx hb dX5_wrongBells_11 ?_
  refine lv_aload_n hx hb dX5_wrongBells_12 rfl (lv_at hl 0 rfl) ?_
  refine lv_aload_n hx hb dX5_wrongBells_13 rfl (lv_at hl 1 rfl) ?_
  refine lv_bipush (v := (-9 : Int32)) hx hb dX5_wrongBells_14 (by decide) ?_
  obtain ⟨r16, u16, h16, hf⟩ := bd_some hf
  refine calX0 (runV E0.b E0.n (As := [.ref o_p1, .int (-9 : Int32)]) (rest := [.int ((S_p1.1 0) - r8)]) ⟨hx, hb, hml, hown, hts⟩ (c_X5_rightBells l D cI o_t a_t o_p1 a_p1 S_t u5 (-9 : Int32) _ h16) gX5_wrongBells_X5_rightBells rfl rfl rfl hdX5_rightBells ⟨by decide, by decide⟩ hK hP hD 0 rfl rfl rfl hl.1 rfl (Nat.le_of_ble_eq_true rfl) dX5_wrongBells_16 ⟨Nat.zero_le _, Nat.zero_le _⟩) hD hS hA (fun H locs hP hD hS => ?_)
  have hP : va_P D vwCl (gX5 o_t a_t cI u16.1 ++ gX4 o_p1 a_p1 cI u16.2) H := hP
  have hD : va_D A (gX5 o_t a_t cI u16.1 ++ gX4 o_p1 a_p1 cI u16.2) := hD
  refine W.eq (g2 := F0 m 19 ls [.int r16, .int ((S_p1.1 0) - r8)]) rfl ?_
  refine lv_isub hx hb dX5_wrongBells_19 ?_
  have e := so_some hf
  subst e
  exact ri hx hb hK hr hlk hQ dX5_wrongBells_20 hP hD hS
abbrev rmX5_whomToLeaveOut : Room := { frames := 4, cells := 0, slots := 0, locals := 91 }
set_option maxHeartbeats 4000000 in
set_option maxRecDepth 100000 in
theorem c_X5_whomToLeaveOut (l : Launch) (D : va_G) (cI : ClassId) (o_t : Nat) (a_t : Nat → Nat) (o_p1 : Nat) (a_p1 : Nat → Nat) (S_t : G) (S_p1 : G) (out : Int32 × G × G) (hf : f_X5_whomToLeaveOut S_t S_p1 = some out) : Cn E0 l yX5_whomToLeaveOut wsX5_whomToLeaveOut rmX5_whomToLeaveOut D cI [.ref o_t, .ref o_p1] (gX5 o_t a_t cI S_t ++ gX4 o_p1 a_p1 cI S_p1) (some (.int out.1)) (gX5 o_t a_t cI out.2.1 ++ gX4 o_p1 a_p1 cI out.2.2) := by
  refine Cn.mk (cc := cX5_whomToLeaveOut) (maxL := 6) (ret := (some .int)) (by decide) rfl (Nat.le_of_ble_eq_true rfl) ?_
  intro p e s m below meth c A ls Q hx hb hml hown hts hK hA hP hD hS hl hr hlk hnm hE hQ
  have hown : s.vm.findClass RX5 = some m.cls := hown
  have hinX4 : ∀ w ∈ u_ws RX4 TX4 10, w ∈ wsX5_whomToLeaveOut := by decide +kernel
  have j14 : ∀ (n14 : Nat) (S_t : G) (S_p1 : G) (l2 : Int32) (l3 : Int32) (l4 : Int32) (H : Heap) (locs : List Loc) (ls : Array Slot), f_X5_whomToLeaveOut_14 n14 S_t S_p1 l2 l3 l4 = some out → va_P D vwCl (gX5 o_t a_t cI S_t ++ gX4 o_p1 a_p1 cI S_p1) H → va_D A (gX5 o_t a_t cI S_t ++ gX4 o_p1 a_p1 cI S_p1) → va_S A s.heap H locs → lv_has ls 6 [(0, .ref o_t), (1, .ref o_p1), (2, .int l2), (3, .int l3), (4, .int l4)] → W p l e rmX5_whomToLeaveOut s m ([.ref o_t, .ref o_p1] : List Value).toArray below meth c H locs 0 0 Q (F0 m 14 ls []) := by
    intro n14
    induction n14 with
    | zero =>
      intro S_t S_p1 l2 l3 l4 H locs ls hf
      exact no_some hf
    | succ n14 ih14 =>
      intro S_t S_p1 l2 l3 l4 H locs ls hf hP hD hS hl
      replace hf : b_X5_whomToLeaveOut_14 (f_X5_whomToLeaveOut_14 n14) S_t S_p1 l2 l3 l4 = some out := hf
      unfold b_X5_whomToLeaveOut_14 at hf
      refine lv_iload hx hb dX5_whomToLeaveOut_14 (lv_at hl 4 rfl) ?_
      refine lv_aload_n hx hb dX5_whomToLeaveOut_16 rfl (lv_at hl 1 rfl) ?_
      refine va_get (D := D) (ci := 4) (v := .int (S_p1.1 3)) (C := RX4) (T := TX4) (N := 10) hx hb hts hinX4 hown hK hP 2 rfl rfl 3 (by decide) (hts (.fieldLink RX5 45 "OnlyStrangersHear$Town" "people" "I") (by decide +kernel)) (fun _ h9 => h9) rfl dX5_whomToLeaveOut_17 ?_
      refine lv_icmp_ge (tgt := 50) hx hb dX5_whomToLeaveOut_20 (by decide) (fun c20 => ?_) (fun c20 => ?_)
      · replace hf := it_t c20 hf
        refine lv_iload_n hx hb dX5_whomToLeaveOut_50 rfl (lv_at hl 2 rfl) ?_
        have e := so_some hf
        subst e
        exact ri hx hb hK hr hlk hQ dX5_whomToLeaveOut_51 hP hD hS
      · replace hf := it_f c20 hf
        refine lv_aload_n hx hb dX5_whomToLeaveOut_23 rfl (lv_at hl 0 rfl) ?_
        refine lv_aload_n hx hb dX5_whomToLeaveOut_24 rfl (lv_at hl 1 rfl) ?_
        refine lv_iload hx hb dX5_whomToLeaveOut_25 (lv_at hl 4 rfl) ?_
        obtain ⟨r27, u27, h27, hf⟩ := bd_some hf
        refine calX0 (runV E0.b E0.n (As := [.ref o_p1, .int l4]) (rest := []) ⟨hx, hb, hml, hown, hts⟩ (c_X5_rightBells l D cI o_t a_t o_p1 a_p1 S_t S_p1 l4 _ h27) gX5_whomToLeaveOut_X5_rightBells rfl rfl rfl hdX5_rightBells ⟨by decide, by decide⟩ hK hP hD 0 rfl rfl rfl hl.1 rfl (Nat.le_of_ble_eq_true rfl) dX5_whomToLeaveOut_27 ⟨Nat.zero_le _, Nat.zero_le _⟩) hD hS hA (fun H locs hP hD hS => ?_)
        have hP : va_P D vwCl (gX5 o_t a_t cI u27.1 ++ gX4 o_p1 a_p1 cI u27.2) H := hP
        have hD : va_D A (gX5 o_t a_t cI u27.1 ++ gX4 o_p1 a_p1 cI u27.2) := hD
        refine W.eq (g2 := F0 m 30 ls [.int r27]) rfl ?_
        refine lv_istore (lv' := [(5, .int r27), (0, .ref o_t), (1, .ref o_p1), (2, .int l2), (3, .int l3), (4, .int l4)]) hx hb dX5_whomToLeaveOut_30 hl (by decide) rfl (fun ls hl => ?_)
        refine lv_iload hx hb dX5_whomToLeaveOut_32 (lv_at hl 0 rfl) ?_
        refine lv_iload_n hx hb dX5_whomToLeaveOut_34 rfl (lv_at hl 4 rfl) ?_
        refine lv_icmp_le (tgt := 44) hx hb dX5_whomToLeaveOut_35 (by decide) (fun c35 => ?_) (fun c35 => ?_)
        · replace hf := it_t c35 hf
          refine lv_iinc (v := l4 + (1 : Int32)) (lv' := [(4, .int (l4 + (1 : Int32))), (5, .int r27), (0, .ref o_t), (1, .ref o_p1), (2, .int l2), (3, .int l3)]) hx hb dX5_whomToLeaveOut_44 hl (k := 5) rfl rfl (by decide) rfl (fun ls hl => ?_)
          refine lv_goto (tgt := 14) hx hb dX5_whomToLeaveOut_47 (by decide) ?_
          exact ih14 u27.1 u27.2 l2 l3 (l4 + (1 : Int32)) H locs ls hf hP hD hS (lv_sub hl [2, 3, 4, 5, 0] rfl)
        · replace hf := it_f c35 hf
          refine lv_iload hx hb dX5_whomToLeaveOut_38 (lv_at hl 0 rfl) ?_
          refine lv_istore_n (lv' := [(3, .int r27), (5, .int r27), (0, .ref o_t), (1, .ref o_p1), (2, .int l2), (4, .int l4)]) hx hb dX5_whomToLeaveOut_40 rfl hl (by decide) rfl (fun ls hl => ?_)
          refine lv_iload hx hb dX5_whomToLeaveOut_41 (lv_at hl 5 rfl) ?_
          refine lv_istore_n (lv' := [(2, .int l4), (3, .int r27), (5, .int r27), (0, .ref o_t), (1, .ref o_p1), (4, .int l4)]) hx hb dX5_whomToLeaveOut_43 rfl hl (by decide) rfl (fun ls hl => ?_)
          refine lv_iinc (v := l4 + (1 : Int32)) (lv' := [(4, .int (l4 + (1 : Int32))), (2, .int l4), (3, .int r27), (5, .int r27), (0, .ref o_t), (1, .ref o_p1)]) hx hb dX5_whomToLeaveOut_44 hl (k := 5) rfl rfl (by decide) rfl (fun ls hl => ?_)
          refine lv_goto (tgt := 14) hx hb dX5_whomToLeaveOut_47 (by decide) ?_
          exact ih14 u27.1 u27.2 l4 r27 (l4 + (1 : Int32)) H locs ls hf hP hD hS (lv_sub hl [4, 5, 1, 2, 0] rfl)
  unfold f_X5_whomToLeaveOut at hf
  have hl : lv_has ls 6 [(0, .ref o_t), (1, .ref o_p1)] := hl
  obtain ⟨H, hHe⟩ : ∃ H : Heap, H = s.heap := ⟨_, rfl⟩
  obtain ⟨locs, hle⟩ : ∃ q : List Loc, q = [] := ⟨_, rfl⟩
  have hS : va_S A s.heap H locs := by rw [hHe, hle]; exact hS
  rw [← hHe] at hP
  suffices hgo : W p l e rmX5_whomToLeaveOut s m ([.ref o_t, .ref o_p1] : List Value).toArray below meth c H locs 0 0 Q (F0 m 0 ls []) by rw [hHe, hle] at hgo; exact hgo
  clear hHe hle
  refine lv_bipush (v := (-9 : Int32)) hx hb dX5_whomToLeaveOut_0 (by decide) ?_
  refine lv_istore_n (lv' := [(2, .int (-9 : Int32)), (0, .ref o_t), (1, .ref o_p1)]) hx hb dX5_whomToLeaveOut_2 rfl hl (by decide) rfl (fun ls hl => ?_)
  refine lv_aload_n hx hb dX5_whomToLeaveOut_3 rfl (lv_at hl 1 rfl) ?_
  refine lv_aload_n hx hb dX5_whomToLeaveOut_4 rfl (lv_at hl 2 rfl) ?_
  refine lv_bipush (v := (-9 : Int32)) hx hb dX5_whomToLeaveOut_5 (by decide) ?_
  obtain ⟨r7, u7, h7, hf⟩ := bd_some hf
  refine calX0 (runV E0.b E0.n (As := [.ref o_p1, .int (-9 : Int32)]) (rest := []) ⟨hx, hb, hml, hown, hts⟩ (c_X5_rightBells l D cI o_t a_t o_p1 a_p1 S_t S_p1 (-9 : Int32) _ h7) gX5_whomToLeaveOut_X5_rightBells rfl rfl rfl hdX5_rightBells ⟨by decide, by decide⟩ hK hP hD 0 rfl rfl rfl hl.1 rfl (Nat.le_of_ble_eq_true rfl) dX5_whomToLeaveOut_7 ⟨Nat.zero_le _, Nat.zero_le _⟩) hD hS hA (fun H locs hP hD hS => ?_)
  have hP : va_P D vwCl (gX5 o_t a_t cI u7.1 ++ gX4 o_p1 a_p1 cI u7.2) H := hP
  have hD : va_D A (gX5 o_t a_t cI u7.1 ++ gX4 o_p1 a_p1 cI u7.2) := hD
  refine W.eq (g2 := F0 m 10 ls [.int r7]) rfl ?_
  refine lv_istore_n (lv' := [(3, .int r7), (2, .int (-9 : Int32)), (0, .ref o_t), (1, .ref o_p1)]) hx hb dX5_whomToLeaveOut_10 rfl hl (by decide) rfl (fun ls hl => ?_)
  refine lv_iconst (v := (0 : Int32)) hx hb dX5_whomToLeaveOut_11 (by decide) ?_
  refine lv_istore (lv' := [(4, .int (0 : Int32)), (3, .int r7), (2, .int (-9 : Int32)), (0, .ref o_t), (1, .ref o_p1)]) hx hb dX5_whomToLeaveOut_12 hl (by decide) rfl (fun ls hl => ?_)
  exact j14 1000 u7.1 u7.2 (-9 : Int32) r7 (0 : Int32) H locs ls hf hP hD hS (lv_sub hl [3, 4, 2, 1, 0] rfl)
abbrev rmX5_doClash : Room := { frames := 2, cells := 0, slots := 0, locals := 43 }
set_option maxHeartbeats 4000000 in
set_option maxRecDepth 100000 in
theorem c_X5_doClash (l : Launch) (D : va_G) (cI : ClassId) (o_p0 : Nat) (a_p0 : Nat → Nat) (S_p0 : G) (x1 : Int32) (x2 : Int32) (out : Int32 × G) (hf : f_X5_doClash S_p0 x1 x2 = some out) : Cn E0 l yX5_doClash wsX5_doClash rmX5_doClash D cI [.ref o_p0, .int x1, .int x2] (gX4 o_p0 a_p0 cI S_p0) (some (.int out.1)) (gX4 o_p0 a_p0 cI out.2) := by
  refine Cn.mk (cc := cX5_doClash) (maxL := 4) (ret := (some .boolean)) (by decide) rfl (Nat.le_of_ble_eq_true rfl) ?_
  intro p e s m below meth c A ls Q hx hb hml hown hts hK hA hP hD hS hl hr hlk hnm hE hQ
  have hown : s.vm.findClass RX5 = some m.cls := hown
  have hinX4 : ∀ w ∈ u_ws RX4 TX4 10, w ∈ wsX5_doClash := by decide +kernel
  have j17 : ∀ (n17 : Nat) (S_p0 : G) (l1 : Int32) (l2 : Int32) (l3 : Int32) (H : Heap) (locs : List Loc) (ls : Array Slot), f_X5_doClash_17 n17 S_p0 l1 l2 l3 = some out → va_P D vwCl (gX4 o_p0 a_p0 cI S_p0) H → va_D A (gX4 o_p0 a_p0 cI S_p0) → va_S A s.heap H locs → lv_has ls 4 [(0, .ref o_p0), (1, .int l1), (2, .int l2), (3, .int l3)] → W p l e rmX5_doClash s m ([.ref o_p0, .int x1, .int x2] : List Value).toArray below meth c H locs 0 0 Q (F0 m 17 ls []) := by
    intro n17
    induction n17 with
    | zero =>
      intro S_p0 l1 l2 l3 H locs ls hf
      exact no_some hf
    | succ n17 ih17 =>
      intro S_p0 l1 l2 l3 H locs ls hf hP hD hS hl
      replace hf : b_X5_doClash_17 (f_X5_doClash_17 n17) S_p0 l1 l2 l3 = some out := hf
      unfold b_X5_doClash_17 at hf
      refine lv_iload_n hx hb dX5_doClash_17 rfl (lv_at hl 3 rfl) ?_
      refine lv_aload_n hx hb dX5_doClash_18 rfl (lv_at hl 0 rfl) ?_
      refine va_get (D := D) (ci := 4) (v := .int (S_p0.1 0)) (C := RX4) (T := TX4) (N := 10) hx hb hts hinX4 hown hK hP 0 rfl rfl 0 (by decide) (hts (.fieldLink RX5 15 "OnlyStrangersHear$Town" "bells" "I") (by decide +kernel)) (fun _ h9 => h9) rfl dX5_doClash_19 ?_
      refine lv_icmp_ge (tgt := 51) hx hb dX5_doClash_22 (by decide) (fun c22 => ?_) (fun c22 => ?_)
      · replace hf := it_t c22 hf
        refine lv_iconst (v := (0 : Int32)) hx hb dX5_doClash_51 (by decide) ?_
        have e := so_some hf
        subst e
        exact rz hx hb hK hr hlk (Or.inl rfl) hQ dX5_doClash_52 hP hD hS
      · replace hf := it_f c22 hf
        refine lv_aload_n hx hb dX5_doClash_25 rfl (lv_at hl 0 rfl) ?_
        refine lv_iload_n hx hb dX5_doClash_26 rfl (lv_at hl 1 rfl) ?_
        refine lv_iload_n hx hb dX5_doClash_27 rfl (lv_at hl 3 rfl) ?_
        obtain ⟨r28, u28, h28, hf⟩ := bd_some hf
        refine calX0 (runV E0.b E0.n (As := [.int l1, .int l3]) (rest := []) ⟨hx, hb, hml, hown, hts⟩ (c_X4_hearsIt l D cI o_p0 a_p0 S_p0 l1 l3 _ h28) gX5_doClash_X4_hearsIt rfl rfl rfl hdX4_hearsIt ⟨by decide, by decide⟩ hK hP hD 0 rfl rfl rfl hl.1 rfl (Nat.le_of_ble_eq_true rfl) dX5_doClash_28 ⟨Nat.zero_le _, Nat.zero_le _⟩) hD hS hA (fun H locs hP hD hS => ?_)
        have hP : va_P D vwCl (gX4 o_p0 a_p0 cI u28) H := hP
        have hD : va_D A (gX4 o_p0 a_p0 cI u28) := hD
        refine W.eq (g2 := F0 m 31 ls [.int r28]) rfl ?_
        refine lv_if_eq (tgt := 45) hx hb dX5_doClash_31 (by decide) (fun c31 => ?_) (fun c31 => ?_)
        · replace hf := it_t c31 hf
          refine lv_iinc (v := l3 + (1 : Int32)) (lv' := [(3, .int (l3 + (1 : Int32))), (0, .ref o_p0), (1, .int l1), (2, .int l2)]) hx hb dX5_doClash_45 hl (k := 3) rfl rfl (by decide) rfl (fun ls hl => ?_)
          refine lv_goto (tgt := 17) hx hb dX5_doClash_48 (by decide) ?_
          exact ih17 u28 l1 l2 (l3 + (1 : Int32)) H locs ls hf hP hD hS (lv_sub hl [1, 2, 3, 0] rfl)
        · replace hf := it_f c31 hf
          refine lv_aload_n hx hb dX5_doClash_34 rfl (lv_at hl 0 rfl) ?_
          refine lv_iload_n hx hb dX5_doClash_35 rfl (lv_at hl 2 rfl) ?_
          refine lv_iload_n hx hb dX5_doClash_36 rfl (lv_at hl 3 rfl) ?_
          obtain ⟨r37, u37, h37, hf⟩ := bd_some hf
          refine calX0 (runV E0.b E0.n (As := [.int l2, .int l3]) (rest := []) ⟨hx, hb, hml, hown, hts⟩ (c_X4_hearsIt l D cI o_p0 a_p0 u28 l2 l3 _ h37) gX5_doClash_X4_hearsIt rfl rfl rfl hdX4_hearsIt ⟨by decide, by decide⟩ hK hP hD 0 rfl rfl rfl hl.1 rfl (Nat.le_of_ble_eq_true rfl) dX5_doClash_37 ⟨Nat.zero_le _, Nat.zero_le _⟩) hD hS hA (fun H locs hP hD hS => ?_)
          have hP : va_P D vwCl (gX4 o_p0 a_p0 cI u37) H := hP
          have hD : va_D A (gX4 o_p0 a_p0 cI u37) := hD
          refine W.eq (g2 := F0 m 40 ls [.int r37]) rfl ?_
          refine lv_if_eq (tgt := 45) hx hb dX5_doClash_40 (by decide) (fun c40 => ?_) (fun c40 => ?_)
          · replace hf := it_t c40 hf
            refine lv_iinc (v := l3 + (1 : Int32)) (lv' := [(3, .int (l3 + (1 : Int32))), (0, .ref o_p0), (1, .int l1), (2, .int l2)]) hx hb dX5_doClash_45 hl (k := 3) rfl rfl (by decide) rfl (fun ls hl => ?_)
            refine lv_goto (tgt := 17) hx hb dX5_doClash_48 (by decide) ?_
            exact ih17 u37 l1 l2 (l3 + (1 : Int32)) H locs ls hf hP hD hS (lv_sub hl [1, 2, 3, 0] rfl)
          · replace hf := it_f c40 hf
            refine lv_iconst (v := (1 : Int32)) hx hb dX5_doClash_43 (by decide) ?_
            have e := so_some hf
            subst e
            exact rz hx hb hK hr hlk (Or.inr rfl) hQ dX5_doClash_44 hP hD hS
  unfold f_X5_doClash at hf
  have hl : lv_has ls 4 [(0, .ref o_p0), (1, .int x1), (2, .int x2)] := hl
  obtain ⟨H, hHe⟩ : ∃ H : Heap, H = s.heap := ⟨_, rfl⟩
  obtain ⟨locs, hle⟩ : ∃ q : List Loc, q = [] := ⟨_, rfl⟩
  have hS : va_S A s.heap H locs := by rw [hHe, hle]; exact hS
  rw [← hHe] at hP
  suffices hgo : W p l e rmX5_doClash s m ([.ref o_p0, .int x1, .int x2] : List Value).toArray below meth c H locs 0 0 Q (F0 m 0 ls []) by rw [hHe, hle] at hgo; exact hgo
  clear hHe hle
  refine lv_aload_n hx hb dX5_doClash_0 rfl (lv_at hl 0 rfl) ?_
  refine lv_iload_n hx hb dX5_doClash_1 rfl (lv_at hl 1 rfl) ?_
  obtain ⟨r2, u2, h2, hf⟩ := bd_some hf
  refine calX0 (runV E0.b E0.n (As := [.int x1]) (rest := []) ⟨hx, hb, hml, hown, hts⟩ (c_X4_hoursLater l D cI o_p0 a_p0 S_p0 x1 _ h2) gX5_doClash_X4_hoursLater rfl rfl rfl hdX4_hoursLater ⟨by decide, by decide⟩ hK hP hD 0 rfl rfl rfl hl.1 rfl (Nat.le_of_ble_eq_true rfl) dX5_doClash_2 ⟨Nat.zero_le _, Nat.zero_le _⟩) hD hS hA (fun H locs hP hD hS => ?_)
  have hP : va_P D vwCl (gX4 o_p0 a_p0 cI u2) H := hP
  have hD : va_D A (gX4 o_p0 a_p0 cI u2) := hD
  refine W.eq (g2 := F0 m 5 ls [.int r2]) rfl ?_
  refine lv_aload_n hx hb dX5_doClash_5 rfl (lv_at hl 0 rfl) ?_
  refine lv_iload_n hx hb dX5_doClash_6 rfl (lv_at hl 2 rfl) ?_
  obtain ⟨r7, u7, h7, hf⟩ := bd_some hf
  refine calX0 (runV E0.b E0.n (As := [.int x2]) (rest := [.int r2]) ⟨hx, hb, hml, hown, hts⟩ (c_X4_hoursLater l D cI o_p0 a_p0 u2 x2 _ h7) gX5_doClash_X4_hoursLater rfl rfl rfl hdX4_hoursLater ⟨by decide, by decide⟩ hK hP hD 0 rfl rfl rfl hl.1 rfl (Nat.le_of_ble_eq_true rfl) dX5_doClash_7 ⟨Nat.zero_le _, Nat.zero_le _⟩) hD hS hA (fun H locs hP hD hS => ?_)
  have hP : va_P D vwCl (gX4 o_p0 a_p0 cI u7) H := hP
  have hD : va_D A (gX4 o_p0 a_p0 cI u7) := hD
  refine W.eq (g2 := F0 m 10 ls [.int r7, .int r2]) rfl ?_
  refine lv_icmp_ne (tgt := 15) hx hb dX5_doClash_10 (by decide) (fun c10 => ?_) (fun c10 => ?_)
  · replace hf := it_f c10 hf
    refine lv_iconst (v := (0 : Int32)) hx hb dX5_doClash_15 (by decide) ?_
    refine lv_istore_n (lv' := [(3, .int (0 : Int32)), (0, .ref o_p0), (1, .int x1), (2, .int x2)]) hx hb dX5_doClash_16 rfl hl (by decide) rfl (fun ls hl => ?_)
    exact j17 1000 u7 x1 x2 (0 : Int32) H locs ls hf hP hD hS (lv_sub hl [1, 2, 3, 0] rfl)
  · replace hf := it_t c10 hf
    refine lv_iconst (v := (0 : Int32)) hx hb dX5_doClash_13 (by decide) ?_
    have e := so_some hf
    subst e
    exact rz hx hb hK hr hlk (Or.inl rfl) hQ dX5_doClash_14 hP hD hS
abbrev rmX5_clashes : Room := { frames := 3, cells := 0, slots := 0, locals := 66 }
set_option maxHeartbeats 4000000 in
set_option maxRecDepth 100000 in
theorem c_X5_clashes (l : Launch) (D : va_G) (cI : ClassId) (o_t : Nat) (a_t : Nat → Nat) (o_p1 : Nat) (a_p1 : Nat → Nat) (S_t : G) (S_p1 : G) (out : Int32 × G × G) (hf : f_X5_clashes S_t S_p1 = some out) : Cn E0 l yX5_clashes wsX5_clashes rmX5_clashes D cI [.ref o_t, .ref o_p1] (gX5 o_t a_t cI S_t ++ gX4 o_p1 a_p1 cI S_p1) (some (.int out.1)) (gX5 o_t a_t cI out.2.1 ++ gX4 o_p1 a_p1 cI out.2.2) := by
  refine Cn.mk (cc := cX5_clashes) (maxL := 5) (ret := (some .int)) (by decide) rfl (Nat.le_of_ble_eq_true rfl) ?_
  intro p e s m below meth c A ls Q hx hb hml hown hts hK hA hP hD hS hl hr hlk hnm hE hQ
  have hown : s.vm.findClass RX5 = some m.cls := hown
  have hinX4 : ∀ w ∈ u_ws RX4 TX4 10, w ∈ wsX5_clashes := by decide +kernel
  have j4 : ∀ (n4 : Nat) (S_t : G) (S_p1 : G) (l2 : Int32) (l3 : Int32) (H : Heap) (locs : List Loc) (ls : Array Slot), f_X5_clashes_4 n4 S_t S_p1 l2 l3 = some out → va_P D vwCl (gX5 o_t a_t cI S_t ++ gX4 o_p1 a_p1 cI S_p1) H → va_D A (gX5 o_t a_t cI S_t ++ gX4 o_p1 a_p1 cI S_p1) → va_S A s.heap H locs → lv_has ls 5 [(1, .ref o_p1), (2, .int l2), (3, .int l3)] → W p l e rmX5_clashes s m ([.ref o_t, .ref o_p1] : List Value).toArray below meth c H locs 0 0 Q (F0 m 4 ls []) := by
    intro n4
    induction n4 with
    | zero =>
      intro S_t S_p1 l2 l3 H locs ls hf
      exact no_some hf
    | succ n4 ih4 =>
      have j17 : ∀ (n17 : Nat) (S_t : G) (S_p1 : G) (l2 : Int32) (l3 : Int32) (l4 : Int32) (H : Heap) (locs : List Loc) (ls : Array Slot), f_X5_clashes_17 (f_X5_clashes_4 n4) n17 S_t S_p1 l2 l3 l4 = some out → va_P D vwCl (gX5 o_t a_t cI S_t ++ gX4 o_p1 a_p1 cI S_p1) H → va_D A (gX5 o_t a_t cI S_t ++ gX4 o_p1 a_p1 cI S_p1) → va_S A s.heap H locs → lv_has ls 5 [(1, .ref o_p1), (2, .int l2), (3, .int l3), (4, .int l4)] → W p l e rmX5_clashes s m ([.ref o_t, .ref o_p1] : List Value).toArray below meth c H locs 0 0 Q (F0 m 17 ls []) := by
        intro n17
        induction n17 with
        | zero =>
          intro S_t S_p1 l2 l3 l4 H locs ls hf
          exact no_some hf
        | succ n17 ih17 =>
          intro S_t S_p1 l2 l3 l4 H locs ls hf hP hD hS hl
          replace hf : b_X5_clashes_17 (f_X5_clashes_4 n4) (f_X5_clashes_17 (f_X5_clashes_4 n4) n17) S_t S_p1 l2 l3 l4 = some out := hf
          unfold b_X5_clashes_17 at hf
          refine lv_iload hx hb dX5_clashes_17 (lv_at hl 3 rfl) ?_
          refine lv_aload_n hx hb dX5_clashes_19 rfl (lv_at hl 0 rfl) ?_
          refine va_get (D := D) (ci := 4) (v := .int (S_p1.1 3)) (C := RX4) (T := TX4) (N := 10) hx hb hts hinX4 hown hK hP 2 rfl rfl 3 (by decide) (hts (.fieldLink RX5 45 "OnlyStrangersHear$Town" "people" "I") (by decide +kernel)) (fun _ h9 => h9) rfl dX5_clashes_20 ?_
          refine lv_icmp_ge (tgt := 45) hx hb dX5_clashes_23 (by decide) (fun c23 => ?_) (fun c23 => ?_)
          · replace hf := it_t c23 hf
            refine lv_iinc (v := l3 + (1 : Int32)) (lv' := [(3, .int (l3 + (1 : Int32))), (1, .ref o_p1), (2, .int l2), (4, .int l4)]) hx hb dX5_clashes_45 hl (k := 2) rfl rfl (by decide) rfl (fun ls hl => ?_)
            refine lv_goto (tgt := 4) hx hb dX5_clashes_48 (by decide) ?_
            exact ih4 S_t S_p1 l2 (l3 + (1 : Int32)) H locs ls hf hP hD hS (lv_sub hl [1, 2, 0] rfl)
          · replace hf := it_f c23 hf
            refine lv_aload_n hx hb dX5_clashes_26 rfl (lv_at hl 0 rfl) ?_
            refine lv_iload_n hx hb dX5_clashes_27 rfl (lv_at hl 2 rfl) ?_
            refine lv_iload hx hb dX5_clashes_28 (lv_at hl 3 rfl) ?_
            obtain ⟨r30, u30, h30, hf⟩ := bd_some hf
            have hPc := hP.sub (ws' := gX4 o_p1 a_p1 cI S_p1) [2, 3, 4, 5, 6, 7, 8] rfl
            have hDc := hD.sub (ws' := gX4 o_p1 a_p1 cI S_p1) [2, 3, 4, 5, 6, 7, 8] (by decide) rfl
            refine calX (runS E0.b E0.n (As := [.ref o_p1, .int l3, .int l4]) (rest := []) ⟨hx, hb, hml, hown, hts⟩ (c_X5_doClash l D cI o_p1 a_p1 S_p1 l3 l4 _ h30) gX5_clashes_X5_doClash rfl rfl rfl hdX5_doClash ⟨by decide, by decide⟩ hK hPc hDc rfl hl.1 rfl (Nat.le_of_ble_eq_true rfl) dX5_clashes_30 ⟨Nat.zero_le _, Nat.zero_le _⟩) hP hD hS hA [2, 3, 4, 5, 6, 7, 8] [0, 1] [0, 1, 2, 3, 4, 5, 6, 7, 8] (wr := gX5 o_t a_t cI S_t) (wn := gX5 o_t a_t cI S_t ++ gX4 o_p1 a_p1 cI u30) rfl rfl (by decide) (by decide) rfl (by decide) (fun H locs hP hD hS => ?_)
            have hP : va_P D vwCl (gX5 o_t a_t cI S_t ++ gX4 o_p1 a_p1 cI u30) H := hP
            have hD : va_D A (gX5 o_t a_t cI S_t ++ gX4 o_p1 a_p1 cI u30) := hD
            refine W.eq (g2 := F0 m 33 ls [.int r30]) rfl ?_
            refine lv_if_eq (tgt := 39) hx hb dX5_clashes_33 (by decide) (fun c33 => ?_) (fun c33 => ?_)
            · replace hf := it_t c33 hf
              refine lv_iinc (v := l4 + (1 : Int32)) (lv' := [(4, .int (l4 + (1 : Int32))), (1, .ref o_p1), (2, .int l2), (3, .int l3)]) hx hb dX5_clashes_39 hl (k := 3) rfl rfl (by decide) rfl (fun ls hl => ?_)
              refine lv_goto (tgt := 17) hx hb dX5_clashes_42 (by decide) ?_
              exact ih17 S_t u30 l2 l3 (l4 + (1 : Int32)) H locs ls hf hP hD hS (lv_sub hl [1, 2, 3, 0] rfl)
            · replace hf := it_f c33 hf
              refine lv_iinc (v := l2 + (1 : Int32)) (lv' := [(2, .int (l2 + (1 : Int32))), (1, .ref o_p1), (3, .int l3), (4, .int l4)]) hx hb dX5_clashes_36 hl (k := 1) rfl rfl (by decide) rfl (fun ls hl => ?_)
              refine lv_iinc (v := l4 + (1 : Int32)) (lv' := [(4, .int (l4 + (1 : Int32))), (2, .int (l2 + (1 : Int32))), (1, .ref o_p1), (3, .int l3)]) hx hb dX5_clashes_39 hl (k := 3) rfl rfl (by decide) rfl (fun ls hl => ?_)
              refine lv_goto (tgt := 17) hx hb dX5_clashes_42 (by decide) ?_
              exact ih17 S_t u30 (l2 + (1 : Int32)) l3 (l4 + (1 : Int32)) H locs ls hf hP hD hS (lv_sub hl [2, 1, 3, 0] rfl)
      intro S_t S_p1 l2 l3 H locs ls hf hP hD hS hl
      replace hf : b_X5_clashes_4 (f_X5_clashes_4 n4) S_t S_p1 l2 l3 = some out := hf
      unfold b_X5_clashes_4 at hf
      refine lv_iload_n hx hb dX5_clashes_4 rfl (lv_at hl 2 rfl) ?_
      refine lv_aload_n hx hb dX5_clashes_5 rfl (lv_at hl 0 rfl) ?_
      refine va_get (D := D) (ci := 4) (v := .int (S_p1.1 3)) (C := RX4) (T := TX4) (N := 10) hx hb hts hinX4 hown hK hP 2 rfl rfl 3 (by decide) (hts (.fieldLink RX5 45 "OnlyStrangersHear$Town" "people" "I") (by decide +kernel)) (fun _ h9 => h9) rfl dX5_clashes_6 ?_
      refine lv_icmp_ge (tgt := 51) hx hb dX5_clashes_9 (by decide) (fun c9 => ?_) (fun c9 => ?_)
      · replace hf := it_t c9 hf
        refine lv_iload_n hx hb dX5_clashes_51 rfl (lv_at hl 1 rfl) ?_
        have e := so_some hf
        subst e
        exact ri hx hb hK hr hlk hQ dX5_clashes_52 hP hD hS
      · replace hf := it_f c9 hf
        refine lv_iload_n hx hb dX5_clashes_12 rfl (lv_at hl 2 rfl) ?_
        refine lv_iconst (v := (1 : Int32)) hx hb dX5_clashes_13 (by decide) ?_
        refine lv_iadd hx hb dX5_clashes_14 ?_
        refine lv_istore (lv' := [(4, .int (l3 + (1 : Int32))), (1, .ref o_p1), (2, .int l2), (3, .int l3)]) hx hb dX5_clashes_15 hl (by decide) rfl (fun ls hl => ?_)
        exact j17 1000 S_t S_p1 l2 l3 (l3 + (1 : Int32)) H locs ls hf hP hD hS (lv_sub hl [1, 2, 3, 0] rfl)
  unfold f_X5_clashes at hf
  have hl : lv_has ls 5 [(0, .ref o_t), (1, .ref o_p1)] := hl
  obtain ⟨H, hHe⟩ : ∃ H : Heap, H = s.heap := ⟨_, rfl⟩
  obtain ⟨locs, hle⟩ : ∃ q : List Loc, q = [] := ⟨_, rfl⟩
  have hS : va_S A s.heap H locs := by rw [hHe, hle]; exact hS
  rw [← hHe] at hP
  suffices hgo : W p l e rmX5_clashes s m ([.ref o_t, .ref o_p1] : List Value).toArray below meth c H locs 0 0 Q (F0 m 0 ls []) by rw [hHe, hle] at hgo; exact hgo
  clear hHe hle
  refine lv_iconst (v := (0 : Int32)) hx hb dX5_clashes_0 (by decide) ?_
  refine lv_istore_n (lv' := [(2, .int (0 : Int32)), (0, .ref o_t), (1, .ref o_p1)]) hx hb dX5_clashes_1 rfl hl (by decide) rfl (fun ls hl => ?_)
  refine lv_iconst (v := (0 : Int32)) hx hb dX5_clashes_2 (by decide) ?_
  refine lv_istore_n (lv' := [(3, .int (0 : Int32)), (2, .int (0 : Int32)), (0, .ref o_t), (1, .ref o_p1)]) hx hb dX5_clashes_3 rfl hl (by decide) rfl (fun ls hl => ?_)
  exact j4 1000 S_t S_p1 (0 : Int32) (0 : Int32) H locs ls hf hP hD hS (lv_sub hl [3, 1, 0] rfl)
abbrev rmX5_firstClash : Room := { frames := 3, cells := 0, slots := 0, locals := 66 }
set_option maxHeartbeats 4000000 in
set_option maxRecDepth 100000 in
theorem c_X5_firstClash (l : Launch) (D : va_G) (cI : ClassId) (o_t : Nat) (a_t : Nat → Nat) (o_p1 : Nat) (a_p1 : Nat → Nat) (S_t : G) (S_p1 : G) (out : Int32 × G × G) (hf : f_X5_firstClash S_t S_p1 = some out) : Cn E0 l yX5_firstClash wsX5_firstClash rmX5_firstClash D cI [.ref o_t, .ref o_p1] (gX5 o_t a_t cI S_t ++ gX4 o_p1 a_p1 cI S_p1) (some (.int out.1)) (gX5 o_t a_t cI out.2.1 ++ gX4 o_p1 a_p1 cI out.2.2) := by
  refine Cn.mk (cc := cX5_firstClash) (maxL := 4) (ret := (some .int)) (by decide) rfl (Nat.le_of_ble_eq_true rfl) ?_
  intro p e s m below meth c A ls Q hx hb hml hown hts hK hA hP hD hS hl hr hlk hnm hE hQ
  have hown : s.vm.findClass RX5 = some m.cls := hown
  have hinX4 : ∀ w ∈ u_ws RX4 TX4 10, w ∈ wsX5_firstClash := by decide +kernel
  have j2 : ∀ (n2 : Nat) (S_t : G) (S_p1 : G) (l2 : Int32) (H : Heap) (locs : List Loc) (ls : Array Slot), f_X5_firstClash_2 n2 S_t S_p1 l2 = some out → va_P D vwCl (gX5 o_t a_t cI S_t ++ gX4 o_p1 a_p1 cI S_p1) H → va_D A (gX5 o_t a_t cI S_t ++ gX4 o_p1 a_p1 cI S_p1) → va_S A s.heap H locs → lv_has ls 4 [(1, .ref o_p1), (2, .int l2)] → W p l e rmX5_firstClash s m ([.ref o_t, .ref o_p1] : List Value).toArray below meth c H locs 0 0 Q (F0 m 2 ls []) := by
    intro n2
    induction n2 with
    | zero =>
      intro S_t S_p1 l2 H locs ls hf
      exact no_some hf
    | succ n2 ih2 =>
      have j14 : ∀ (n14 : Nat) (S_t : G) (S_p1 : G) (l2 : Int32) (l3 : Int32) (H : Heap) (locs : List Loc) (ls : Array Slot), f_X5_firstClash_14 (f_X5_firstClash_2 n2) n14 S_t S_p1 l2 l3 = some out → va_P D vwCl (gX5 o_t a_t cI S_t ++ gX4 o_p1 a_p1 cI S_p1) H → va_D A (gX5 o_t a_t cI S_t ++ gX4 o_p1 a_p1 cI S_p1) → va_S A s.heap H locs → lv_has ls 4 [(1, .ref o_p1), (2, .int l2), (3, .int l3)] → W p l e rmX5_firstClash s m ([.ref o_t, .ref o_p1] : List Value).toArray below meth c H locs 0 0 Q (F0 m 14 ls []) := by
        intro n14
        induction n14 with
        | zero =>
          intro S_t S_p1 l2 l3 H locs ls hf
          exact no_some hf
        | succ n14 ih14 =>
          intro S_t S_p1 l2 l3 H locs ls hf hP hD hS hl
          replace hf : b_X5_firstClash_14 (f_X5_firstClash_2 n2) (f_X5_firstClash_14 (f_X5_firstClash_2 n2) n14) S_t S_p1 l2 l3 = some out := hf
          unfold b_X5_firstClash_14 at hf
          refine lv_iload_n hx hb dX5_firstClash_14 rfl (lv_at hl 2 rfl) ?_
          refine lv_aload_n hx hb dX5_firstClash_15 rfl (lv_at hl 0 rfl) ?_
          refine va_get (D := D) (ci := 4) (v := .int (S_p1.1 3)) (C := RX4) (T := TX4) (N := 10) hx hb hts hinX4 hown hK hP 2 rfl rfl 3 (by decide) (hts (.fieldLink RX5 45 "OnlyStrangersHear$Town" "people" "I") (by decide +kernel)) (fun _ h9 => h9) rfl dX5_firstClash_16 ?_
          refine lv_icmp_ge (tgt := 44) hx hb dX5_firstClash_19 (by decide) (fun c19 => ?_) (fun c19 => ?_)
          · replace hf := it_t c19 hf
            refine lv_iinc (v := l2 + (1 : Int32)) (lv' := [(2, .int (l2 + (1 : Int32))), (1, .ref o_p1), (3, .int l3)]) hx hb dX5_firstClash_44 hl (k := 1) rfl rfl (by decide) rfl (fun ls hl => ?_)
            refine lv_goto (tgt := 2) hx hb dX5_firstClash_47 (by decide) ?_
            exact ih2 S_t S_p1 (l2 + (1 : Int32)) H locs ls hf hP hD hS (lv_sub hl [1, 0] rfl)
          · replace hf := it_f c19 hf
            refine lv_aload_n hx hb dX5_firstClash_22 rfl (lv_at hl 0 rfl) ?_
            refine lv_iload_n hx hb dX5_firstClash_23 rfl (lv_at hl 1 rfl) ?_
            refine lv_iload_n hx hb dX5_firstClash_24 rfl (lv_at hl 2 rfl) ?_
            obtain ⟨r25, u25, h25, hf⟩ := bd_some hf
            have hPc := hP.sub (ws' := gX4 o_p1 a_p1 cI S_p1) [2, 3, 4, 5, 6, 7, 8] rfl
            have hDc := hD.sub (ws' := gX4 o_p1 a_p1 cI S_p1) [2, 3, 4, 5, 6, 7, 8] (by decide) rfl
            refine calX (runS E0.b E0.n (As := [.ref o_p1, .int l2, .int l3]) (rest := []) ⟨hx, hb, hml, hown, hts⟩ (c_X5_doClash l D cI o_p1 a_p1 S_p1 l2 l3 _ h25) gX5_firstClash_X5_doClash rfl rfl rfl hdX5_doClash ⟨by decide, by decide⟩ hK hPc hDc rfl hl.1 rfl (Nat.le_of_ble_eq_true rfl) dX5_firstClash_25 ⟨Nat.zero_le _, Nat.zero_le _⟩) hP hD hS hA [2, 3, 4, 5, 6, 7, 8] [0, 1] [0, 1, 2, 3, 4, 5, 6, 7, 8] (wr := gX5 o_t a_t cI S_t) (wn := gX5 o_t a_t cI S_t ++ gX4 o_p1 a_p1 cI u25) rfl rfl (by decide) (by decide) rfl (by decide) (fun H locs hP hD hS => ?_)
            have hP : va_P D vwCl (gX5 o_t a_t cI S_t ++ gX4 o_p1 a_p1 cI u25) H := hP
            have hD : va_D A (gX5 o_t a_t cI S_t ++ gX4 o_p1 a_p1 cI u25) := hD
            refine W.eq (g2 := F0 m 28 ls [.int r25]) rfl ?_
            refine lv_if_eq (tgt := 38) hx hb dX5_firstClash_28 (by decide) (fun c28 => ?_) (fun c28 => ?_)
            · replace hf := it_t c28 hf
              refine lv_iinc (v := l3 + (1 : Int32)) (lv' := [(3, .int (l3 + (1 : Int32))), (1, .ref o_p1), (2, .int l2)]) hx hb dX5_firstClash_38 hl (k := 2) rfl rfl (by decide) rfl (fun ls hl => ?_)
              refine lv_goto (tgt := 14) hx hb dX5_firstClash_41 (by decide) ?_
              exact ih14 S_t u25 l2 (l3 + (1 : Int32)) H locs ls hf hP hD hS (lv_sub hl [1, 2, 0] rfl)
            · replace hf := it_f c28 hf
              refine lv_bipush (v := (10 : Int32)) hx hb dX5_firstClash_31 (by decide) ?_
              refine lv_iload_n hx hb dX5_firstClash_33 rfl (lv_at hl 1 rfl) ?_
              refine lv_imul hx hb dX5_firstClash_34 ?_
              refine lv_iload_n hx hb dX5_firstClash_35 rfl (lv_at hl 2 rfl) ?_
              refine lv_iadd hx hb dX5_firstClash_36 ?_
              have e := so_some hf
              subst e
              exact ri hx hb hK hr hlk hQ dX5_firstClash_37 hP hD hS
      intro S_t S_p1 l2 H locs ls hf hP hD hS hl
      replace hf : b_X5_firstClash_2 (f_X5_firstClash_2 n2) S_t S_p1 l2 = some out := hf
      unfold b_X5_firstClash_2 at hf
      refine lv_iload_n hx hb dX5_firstClash_2 rfl (lv_at hl 1 rfl) ?_
      refine lv_aload_n hx hb dX5_firstClash_3 rfl (lv_at hl 0 rfl) ?_
      refine va_get (D := D) (ci := 4) (v := .int (S_p1.1 3)) (C := RX4) (T := TX4) (N := 10) hx hb hts hinX4 hown hK hP 2 rfl rfl 3 (by decide) (hts (.fieldLink RX5 45 "OnlyStrangersHear$Town" "people" "I") (by decide +kernel)) (fun _ h9 => h9) rfl dX5_firstClash_4 ?_
      refine lv_icmp_ge (tgt := 50) hx hb dX5_firstClash_7 (by decide) (fun c7 => ?_) (fun c7 => ?_)
      · replace hf := it_t c7 hf
        refine lv_bipush (v := (-9 : Int32)) hx hb dX5_firstClash_50 (by decide) ?_
        have e := so_some hf
        subst e
        exact ri hx hb hK hr hlk hQ dX5_firstClash_52 hP hD hS
      · replace hf := it_f c7 hf
        refine lv_iload_n hx hb dX5_firstClash_10 rfl (lv_at hl 1 rfl) ?_
        refine lv_iconst (v := (1 : Int32)) hx hb dX5_firstClash_11 (by decide) ?_
        refine lv_iadd hx hb dX5_firstClash_12 ?_
        refine lv_istore_n (lv' := [(3, .int (l2 + (1 : Int32))), (1, .ref o_p1), (2, .int l2)]) hx hb dX5_firstClash_13 rfl hl (by decide) rfl (fun ls hl => ?_)
        exact j14 1000 S_t S_p1 l2 (l2 + (1 : Int32)) H locs ls hf hP hD hS (lv_sub hl [1, 2, 0] rfl)
  unfold f_X5_firstClash at hf
  have hl : lv_has ls 4 [(0, .ref o_t), (1, .ref o_p1)] := hl
  obtain ⟨H, hHe⟩ : ∃ H : Heap, H = s.heap := ⟨_, rfl⟩
  obtain ⟨locs, hle⟩ : ∃ q : List Loc, q = [] := ⟨_, rfl⟩
  have hS : va_S A s.heap H locs := by rw [hHe, hle]; exact hS
  rw [← hHe] at hP
  suffices hgo : W p l e rmX5_firstClash s m ([.ref o_t, .ref o_p1] : List Value).toArray below meth c H locs 0 0 Q (F0 m 0 ls []) by rw [hHe, hle] at hgo; exact hgo
  clear hHe hle
  refine lv_iconst (v := (0 : Int32)) hx hb dX5_firstClash_0 (by decide) ?_
  refine lv_istore_n (lv' := [(2, .int (0 : Int32)), (0, .ref o_t), (1, .ref o_p1)]) hx hb dX5_firstClash_1 rfl hl (by decide) rfl (fun ls hl => ?_)
  exact j2 1000 S_t S_p1 (0 : Int32) H locs ls hf hP hD hS (lv_sub hl [2, 0] rfl)
abbrev rmX5_findFoes : Room := { frames := 3, cells := 0, slots := 0, locals := 66 }
set_option maxHeartbeats 4000000 in
set_option maxRecDepth 100000 in
theorem c_X5_findFoes (l : Launch) (D : va_G) (cI : ClassId) (o_t : Nat) (a_t : Nat → Nat) (o_p1 : Nat) (a_p1 : Nat → Nat) (S_t : G) (S_p1 : G) (out : Unit × G × G) (hf : f_X5_findFoes S_t S_p1 = some out) : Cn E0 l yX5_findFoes wsX5_findFoes rmX5_findFoes D cI [.ref o_t, .ref o_p1] (gX5 o_t a_t cI S_t ++ gX4 o_p1 a_p1 cI S_p1) none (gX5 o_t a_t cI out.2.1 ++ gX4 o_p1 a_p1 cI out.2.2) := by
  refine Cn.mk (cc := cX5_findFoes) (maxL := 4) (ret := none) (by decide) rfl (Nat.le_of_ble_eq_true rfl) ?_
  intro p e s m below meth c A ls Q hx hb hml hown hts hK hA hP hD hS hl hr hlk hnm hE hQ
  have hown : s.vm.findClass RX5 = some m.cls := hown
  have hinX4 : ∀ w ∈ u_ws RX4 TX4 10, w ∈ wsX5_findFoes := by decide +kernel
  have hinX5 : ∀ w ∈ u_ws RX5 TX5 1, w ∈ wsX5_findFoes := by decide +kernel
  have j2 : ∀ (n2 : Nat) (S_t : G) (S_p1 : G) (l2 : Int32) (H : Heap) (locs : List Loc) (ls : Array Slot), f_X5_findFoes_2 n2 S_t S_p1 l2 = some out → va_P D vwCl (gX5 o_t a_t cI S_t ++ gX4 o_p1 a_p1 cI S_p1) H → va_D A (gX5 o_t a_t cI S_t ++ gX4 o_p1 a_p1 cI S_p1) → va_S A s.heap H locs → lv_has ls 4 [(0, .ref o_t), (1, .ref o_p1), (2, .int l2)] → W p l e rmX5_findFoes s m ([.ref o_t, .ref o_p1] : List Value).toArray below meth c H locs 0 0 Q (F0 m 2 ls []) := by
    intro n2
    induction n2 with
    | zero =>
      intro S_t S_p1 l2 H locs ls hf
      exact no_some hf
    | succ n2 ih2 =>
      have j19 : ∀ (n19 : Nat) (S_t : G) (S_p1 : G) (l2 : Int32) (l3 : Int32) (H : Heap) (locs : List Loc) (ls : Array Slot), f_X5_findFoes_19 (f_X5_findFoes_2 n2) n19 S_t S_p1 l2 l3 = some out → va_P D vwCl (gX5 o_t a_t cI S_t ++ gX4 o_p1 a_p1 cI S_p1) H → va_D A (gX5 o_t a_t cI S_t ++ gX4 o_p1 a_p1 cI S_p1) → va_S A s.heap H locs → lv_has ls 4 [(0, .ref o_t), (1, .ref o_p1), (2, .int l2), (3, .int l3)] → W p l e rmX5_findFoes s m ([.ref o_t, .ref o_p1] : List Value).toArray below meth c H locs 0 0 Q (F0 m 19 ls []) := by
        intro n19
        induction n19 with
        | zero =>
          intro S_t S_p1 l2 l3 H locs ls hf
          exact no_some hf
        | succ n19 ih19 =>
          intro S_t S_p1 l2 l3 H locs ls hf hP hD hS hl
          replace hf : b_X5_findFoes_19 (f_X5_findFoes_2 n2) (f_X5_findFoes_19 (f_X5_findFoes_2 n2) n19) S_t S_p1 l2 l3 = some out := hf
          unfold b_X5_findFoes_19 at hf
          refine lv_iload_n hx hb dX5_findFoes_19 rfl (lv_at hl 3 rfl) ?_
          refine lv_aload_n hx hb dX5_findFoes_20 rfl (lv_at hl 1 rfl) ?_
          refine va_get (D := D) (ci := 4) (v := .int (S_p1.1 3)) (C := RX4) (T := TX4) (N := 10) hx hb hts hinX4 hown hK hP 2 rfl rfl 3 (by decide) (hts (.fieldLink RX5 45 "OnlyStrangersHear$Town" "people" "I") (by decide +kernel)) (fun _ h9 => h9) rfl dX5_findFoes_21 ?_
          refine lv_icmp_ge (tgt := 54) hx hb dX5_findFoes_24 (by decide) (fun c24 => ?_) (fun c24 => ?_)
          · replace hf := it_t c24 hf
            refine lv_iinc (v := l2 + (1 : Int32)) (lv' := [(2, .int (l2 + (1 : Int32))), (0, .ref o_t), (1, .ref o_p1), (3, .int l3)]) hx hb dX5_findFoes_54 hl (k := 2) rfl rfl (by decide) rfl (fun ls hl => ?_)
            refine lv_goto (tgt := 2) hx hb dX5_findFoes_57 (by decide) ?_
            exact ih2 S_t S_p1 (l2 + (1 : Int32)) H locs ls hf hP hD hS (lv_sub hl [1, 2, 0] rfl)
          · replace hf := it_f c24 hf
            refine lv_aload_n hx hb dX5_findFoes_27 rfl (lv_at hl 1 rfl) ?_
            refine lv_iload_n hx hb dX5_findFoes_28 rfl (lv_at hl 2 rfl) ?_
            refine lv_iload_n hx hb dX5_findFoes_29 rfl (lv_at hl 3 rfl) ?_
            obtain ⟨r30, u30, h30, hf⟩ := bd_some hf
            have hPc := hP.sub (ws' := gX4 o_p1 a_p1 cI S_p1) [2, 3, 4, 5, 6, 7, 8] rfl
            have hDc := hD.sub (ws' := gX4 o_p1 a_p1 cI S_p1) [2, 3, 4, 5, 6, 7, 8] (by decide) rfl
            refine calX (runS E0.b E0.n (As := [.ref o_p1, .int l2, .int l3]) (rest := []) ⟨hx, hb, hml, hown, hts⟩ (c_X5_doClash l D cI o_p1 a_p1 S_p1 l2 l3 _ h30) gX5_findFoes_X5_doClash rfl rfl rfl hdX5_doClash ⟨by decide, by decide⟩ hK hPc hDc rfl hl.1 rfl (Nat.le_of_ble_eq_true rfl) dX5_findFoes_30 ⟨Nat.zero_le _, Nat.zero_le _⟩) hP hD hS hA [2, 3, 4, 5, 6, 7, 8] [0, 1] [0, 1, 2, 3, 4, 5, 6, 7, 8] (wr := gX5 o_t a_t cI S_t) (wn := gX5 o_t a_t cI S_t ++ gX4 o_p1 a_p1 cI u30) rfl rfl (by decide) (by decide) rfl (by decide) (fun H locs hP hD hS => ?_)
            have hP : va_P D vwCl (gX5 o_t a_t cI S_t ++ gX4 o_p1 a_p1 cI u30) H := hP
            have hD : va_D A (gX5 o_t a_t cI S_t ++ gX4 o_p1 a_p1 cI u30) := hD
            refine W.eq (g2 := F0 m 33 ls [.int r30]) rfl ?_
            refine lv_if_eq (tgt := 48) hx hb dX5_findFoes_33 (by decide) (fun c33 => ?_) (fun c33 => ?_)
            · replace hf := it_t c33 hf
              refine lv_iinc (v := l3 + (1 : Int32)) (lv' := [(3, .int (l3 + (1 : Int32))), (0, .ref o_t), (1, .ref o_p1), (2, .int l2)]) hx hb dX5_findFoes_48 hl (k := 3) rfl rfl (by decide) rfl (fun ls hl => ?_)
              refine lv_goto (tgt := 19) hx hb dX5_findFoes_51 (by decide) ?_
              exact ih19 S_t u30 l2 (l3 + (1 : Int32)) H locs ls hf hP hD hS (lv_sub hl [1, 2, 3, 0] rfl)
            · replace hf := it_f c33 hf
              refine lv_aload_n hx hb dX5_findFoes_36 rfl (lv_at hl 0 rfl) ?_
              refine va_get (D := D) (ci := 5) (v := .ref (a_t 0)) (C := RX5) (T := TX5) (N := 1) hx hb hts hinX5 hown hK hP 0 rfl rfl 0 (by decide) (hts (.fieldLink RX5 9 "OnlyStrangersHear$Voices" "foes" "[I") (by decide +kernel)) (fun _ h9 => h9) rfl dX5_findFoes_37 ?_
              refine lv_iload_n hx hb dX5_findFoes_40 rfl (lv_at hl 2 rfl) ?_
              refine lv_dup2_11 hx hb dX5_findFoes_41 rfl rfl ?_
              obtain ⟨b42, hf⟩ := ck_some hf
              refine va_iald hx hb hK hP 1 0 rfl rfl b42 dX5_findFoes_42 ?_
              refine lv_iconst (v := (1 : Int32)) hx hb dX5_findFoes_43 (by decide) ?_
              refine lv_iload_n hx hb dX5_findFoes_44 rfl (lv_at hl 3 rfl) ?_
              refine lv_ishl hx hb dX5_findFoes_45 ?_
              refine lv_ior hx hb dX5_findFoes_46 ?_
              obtain ⟨b47, hf⟩ := ck_some hf
              refine va_iast hx hb hK hP hD hS 1 0 rfl rfl b47 dX5_findFoes_47 (fun H locs hP hD hS => ?_)
              have hP : va_P D vwCl (gX5 o_t a_t cI (pA S_t 0 l2.toNatClampNeg ((S_t.2 0 l2.toNatClampNeg) ||| ((1 : Int32) <<< (l3 &&& 31)))) ++ gX4 o_p1 a_p1 cI u30) H := hP
              have hD : va_D A (gX5 o_t a_t cI (pA S_t 0 l2.toNatClampNeg ((S_t.2 0 l2.toNatClampNeg) ||| ((1 : Int32) <<< (l3 &&& 31)))) ++ gX4 o_p1 a_p1 cI u30) := hD
              obtain ⟨g47, e47, hf⟩ := lt_some hf
              rw [← e47] at hP hD
              refine lv_iinc (v := l3 + (1 : Int32)) (lv' := [(3, .int (l3 + (1 : Int32))), (0, .ref o_t), (1, .ref o_p1), (2, .int l2)]) hx hb dX5_findFoes_48 hl (k := 3) rfl rfl (by decide) rfl (fun ls hl => ?_)
              refine lv_goto (tgt := 19) hx hb dX5_findFoes_51 (by decide) ?_
              exact ih19 g47 u30 l2 (l3 + (1 : Int32)) H locs ls hf hP hD hS (lv_sub hl [1, 2, 3, 0] rfl)
      intro S_t S_p1 l2 H locs ls hf hP hD hS hl
      replace hf : b_X5_findFoes_2 (f_X5_findFoes_2 n2) S_t S_p1 l2 = some out := hf
      unfold b_X5_findFoes_2 at hf
      refine lv_iload_n hx hb dX5_findFoes_2 rfl (lv_at hl 2 rfl) ?_
      refine lv_aload_n hx hb dX5_findFoes_3 rfl (lv_at hl 1 rfl) ?_
      refine va_get (D := D) (ci := 4) (v := .int (S_p1.1 3)) (C := RX4) (T := TX4) (N := 10) hx hb hts hinX4 hown hK hP 2 rfl rfl 3 (by decide) (hts (.fieldLink RX5 45 "OnlyStrangersHear$Town" "people" "I") (by decide +kernel)) (fun _ h9 => h9) rfl dX5_findFoes_4 ?_
      refine lv_icmp_ge (tgt := 60) hx hb dX5_findFoes_7 (by decide) (fun c7 => ?_) (fun c7 => ?_)
      · replace hf := it_t c7 hf
        have e := so_some hf
        subst e
        exact rv hx hb hK hr hlk hQ dX5_findFoes_60 hP hD hS
      · replace hf := it_f c7 hf
        refine lv_aload_n hx hb dX5_findFoes_10 rfl (lv_at hl 0 rfl) ?_
        refine va_get (D := D) (ci := 5) (v := .ref (a_t 0)) (C := RX5) (T := TX5) (N := 1) hx hb hts hinX5 hown hK hP 0 rfl rfl 0 (by decide) (hts (.fieldLink RX5 9 "OnlyStrangersHear$Voices" "foes" "[I") (by decide +kernel)) (fun _ h9 => h9) rfl dX5_findFoes_11 ?_
        refine lv_iload_n hx hb dX5_findFoes_14 rfl (lv_at hl 2 rfl) ?_
        refine lv_iconst (v := (0 : Int32)) hx hb dX5_findFoes_15 (by decide) ?_
        obtain ⟨b16, hf⟩ := ck_some hf
        refine va_iast hx hb hK hP hD hS 1 0 rfl rfl b16 dX5_findFoes_16 (fun H locs hP hD hS => ?_)
        have hP : va_P D vwCl (gX5 o_t a_t cI (pA S_t 0 l2.toNatClampNeg (0 : Int32)) ++ gX4 o_p1 a_p1 cI S_p1) H := hP
        have hD : va_D A (gX5 o_t a_t cI (pA S_t 0 l2.toNatClampNeg (0 : Int32)) ++ gX4 o_p1 a_p1 cI S_p1) := hD
        obtain ⟨g16, e16, hf⟩ := lt_some hf
        rw [← e16] at hP hD
        refine lv_iconst (v := (0 : Int32)) hx hb dX5_findFoes_17 (by decide) ?_
        refine lv_istore_n (lv' := [(3, .int (0 : Int32)), (0, .ref o_t), (1, .ref o_p1), (2, .int l2)]) hx hb dX5_findFoes_18 rfl hl (by decide) rfl (fun ls hl => ?_)
        exact j19 1000 g16 S_p1 l2 (0 : Int32) H locs ls hf hP hD hS (lv_sub hl [1, 2, 3, 0] rfl)
  unfold f_X5_findFoes at hf
  have hl : lv_has ls 4 [(0, .ref o_t), (1, .ref o_p1)] := hl
  obtain ⟨H, hHe⟩ : ∃ H : Heap, H = s.heap := ⟨_, rfl⟩
  obtain ⟨locs, hle⟩ : ∃ q : List Loc, q = [] := ⟨_, rfl⟩
  have hS : va_S A s.heap H locs := by rw [hHe, hle]; exact hS
  rw [← hHe] at hP
  suffices hgo : W p l e rmX5_findFoes s m ([.ref o_t, .ref o_p1] : List Value).toArray below meth c H locs 0 0 Q (F0 m 0 ls []) by rw [hHe, hle] at hgo; exact hgo
  clear hHe hle
  refine lv_iconst (v := (0 : Int32)) hx hb dX5_findFoes_0 (by decide) ?_
  refine lv_istore_n (lv' := [(2, .int (0 : Int32)), (0, .ref o_t), (1, .ref o_p1)]) hx hb dX5_findFoes_1 rfl hl (by decide) rfl (fun ls hl => ?_)
  exact j2 1000 S_t S_p1 (0 : Int32) H locs ls hf hP hD hS (lv_sub hl [1, 2, 0] rfl)
abbrev rmX5_isPeaceful : Room := { frames := 0, cells := 0, slots := 0, locals := 0 }
set_option maxHeartbeats 4000000 in
set_option maxRecDepth 100000 in
theorem c_X5_isPeaceful (l : Launch) (D : va_G) (cI : ClassId) (o_t : Nat) (a_t : Nat → Nat) (S_t : G) (x1 : Int32) (out : Int32 × G) (hf : f_X5_isPeaceful S_t x1 = some out) : Cn E0 l yX5_isPeaceful wsX5_isPeaceful rmX5_isPeaceful D cI [.ref o_t, .int x1] (gX5 o_t a_t cI S_t) (some (.int out.1)) (gX5 o_t a_t cI out.2) := by
  refine Cn.mk (cc := cX5_isPeaceful) (maxL := 3) (ret := (some .boolean)) (by decide) rfl (Nat.le_of_ble_eq_true rfl) ?_
  intro p e s m below meth c A ls Q hx hb hml hown hts hK hA hP hD hS hl hr hlk hnm hE hQ
  have hown : s.vm.findClass RX5 = some m.cls := hown
  have hinX5 : ∀ w ∈ u_ws RX5 TX5 1, w ∈ wsX5_isPeaceful := by decide +kernel
  have j2 : ∀ (n2 : Nat) (S_t : G) (l1 : Int32) (l2 : Int32) (H : Heap) (locs : List Loc) (ls : Array Slot), f_X5_isPeaceful_2 n2 S_t l1 l2 = some out → va_P D vwCl (gX5 o_t a_t cI S_t) H → va_D A (gX5 o_t a_t cI S_t) → va_S A s.heap H locs → lv_has ls 3 [(0, .ref o_t), (1, .int l1), (2, .int l2)] → W p l e rmX5_isPeaceful s m ([.ref o_t, .int x1] : List Value).toArray below meth c H locs 0 0 Q (F0 m 2 ls []) := by
    intro n2
    induction n2 with
    | zero =>
      intro S_t l1 l2 H locs ls hf
      exact no_some hf
    | succ n2 ih2 =>
      intro S_t l1 l2 H locs ls hf hP hD hS hl
      replace hf : b_X5_isPeaceful_2 (f_X5_isPeaceful_2 n2) S_t l1 l2 = some out := hf
      unfold b_X5_isPeaceful_2 at hf
      refine lv_iload_n hx hb dX5_isPeaceful_2 rfl (lv_at hl 2 rfl) ?_
      refine lv_bipush (v := (8 : Int32)) hx hb dX5_isPeaceful_3 (by decide) ?_
      refine lv_icmp_ge (tgt := 35) hx hb dX5_isPeaceful_5 (by decide) (fun c5 => ?_) (fun c5 => ?_)
      · replace hf := it_t c5 hf
        refine lv_iconst (v := (1 : Int32)) hx hb dX5_isPeaceful_35 (by decide) ?_
        have e := so_some hf
        subst e
        exact rz hx hb hK hr hlk (Or.inr rfl) hQ dX5_isPeaceful_36 hP hD hS
      · replace hf := it_f c5 hf
        refine lv_iload_n hx hb dX5_isPeaceful_8 rfl (lv_at hl 1 rfl) ?_
        refine lv_iload_n hx hb dX5_isPeaceful_9 rfl (lv_at hl 2 rfl) ?_
        refine lv_ishr hx hb dX5_isPeaceful_10 ?_
        refine lv_iconst (v := (1 : Int32)) hx hb dX5_isPeaceful_11 (by decide) ?_
        refine lv_iand hx hb dX5_isPeaceful_12 ?_
        refine lv_if_eq (tgt := 29) hx hb dX5_isPeaceful_13 (by decide) (fun c13 => ?_) (fun c13 => ?_)
        · replace hf := it_t c13 hf
          refine lv_iinc (v := l2 + (1 : Int32)) (lv' := [(2, .int (l2 + (1 : Int32))), (0, .ref o_t), (1, .int l1)]) hx hb dX5_isPeaceful_29 hl (k := 2) rfl rfl (by decide) rfl (fun ls hl => ?_)
          refine lv_goto (tgt := 2) hx hb dX5_isPeaceful_32 (by decide) ?_
          exact ih2 S_t l1 (l2 + (1 : Int32)) H locs ls hf hP hD hS (lv_sub hl [1, 2, 0] rfl)
        · replace hf := it_f c13 hf
          refine lv_aload_n hx hb dX5_isPeaceful_16 rfl (lv_at hl 0 rfl) ?_
          refine va_get (D := D) (ci := 5) (v := .ref (a_t 0)) (C := RX5) (T := TX5) (N := 1) hx hb hts hinX5 hown hK hP 0 rfl rfl 0 (by decide) (hts (.fieldLink RX5 9 "OnlyStrangersHear$Voices" "foes" "[I") (by decide +kernel)) (fun _ h9 => h9) rfl dX5_isPeaceful_17 ?_
          refine lv_iload_n hx hb dX5_isPeaceful_20 rfl (lv_at hl 2 rfl) ?_
          obtain ⟨b21, hf⟩ := ck_some hf
          refine va_iald hx hb hK hP 1 0 rfl rfl b21 dX5_isPeaceful_21 ?_
          refine lv_iload_n hx hb dX5_isPeaceful_22 rfl (lv_at hl 1 rfl) ?_
          refine lv_iand hx hb dX5_isPeaceful_23 ?_
          refine lv_if_eq (tgt := 29) hx hb dX5_isPeaceful_24 (by decide) (fun c24 => ?_) (fun c24 => ?_)
          · replace hf := it_t c24 hf
            refine lv_iinc (v := l2 + (1 : Int32)) (lv' := [(2, .int (l2 + (1 : Int32))), (0, .ref o_t), (1, .int l1)]) hx hb dX5_isPeaceful_29 hl (k := 2) rfl rfl (by decide) rfl (fun ls hl => ?_)
            refine lv_goto (tgt := 2) hx hb dX5_isPeaceful_32 (by decide) ?_
            exact ih2 S_t l1 (l2 + (1 : Int32)) H locs ls hf hP hD hS (lv_sub hl [1, 2, 0] rfl)
          · replace hf := it_f c24 hf
            refine lv_iconst (v := (0 : Int32)) hx hb dX5_isPeaceful_27 (by decide) ?_
            have e := so_some hf
            subst e
            exact rz hx hb hK hr hlk (Or.inl rfl) hQ dX5_isPeaceful_28 hP hD hS
  unfold f_X5_isPeaceful at hf
  have hl : lv_has ls 3 [(0, .ref o_t), (1, .int x1)] := hl
  obtain ⟨H, hHe⟩ : ∃ H : Heap, H = s.heap := ⟨_, rfl⟩
  obtain ⟨locs, hle⟩ : ∃ q : List Loc, q = [] := ⟨_, rfl⟩
  have hS : va_S A s.heap H locs := by rw [hHe, hle]; exact hS
  rw [← hHe] at hP
  suffices hgo : W p l e rmX5_isPeaceful s m ([.ref o_t, .int x1] : List Value).toArray below meth c H locs 0 0 Q (F0 m 0 ls []) by rw [hHe, hle] at hgo; exact hgo
  clear hHe hle
  refine lv_iconst (v := (0 : Int32)) hx hb dX5_isPeaceful_0 (by decide) ?_
  refine lv_istore_n (lv' := [(2, .int (0 : Int32)), (0, .ref o_t), (1, .int x1)]) hx hb dX5_isPeaceful_1 rfl hl (by decide) rfl (fun ls hl => ?_)
  exact j2 1000 S_t x1 (0 : Int32) H locs ls hf hP hD hS (lv_sub hl [1, 2, 0] rfl)
abbrev rmX5_mostAgreed : Room := { frames := 4, cells := 0, slots := 0, locals := 89 }
set_option maxHeartbeats 4000000 in
set_option maxRecDepth 100000 in
theorem c_X5_mostAgreed (l : Launch) (D : va_G) (cI : ClassId) (o_t : Nat) (a_t : Nat → Nat) (o_p1 : Nat) (a_p1 : Nat → Nat) (S_t : G) (S_p1 : G) (out : Int32 × G × G) (hf : f_X5_mostAgreed S_t S_p1 = some out) : Cn E0 l yX5_mostAgreed wsX5_mostAgreed rmX5_mostAgreed D cI [.ref o_t, .ref o_p1] (gX5 o_t a_t cI S_t ++ gX4 o_p1 a_p1 cI S_p1) (some (.int out.1)) (gX5 o_t a_t cI out.2.1 ++ gX4 o_p1 a_p1 cI out.2.2) := by
  refine Cn.mk (cc := cX5_mostAgreed) (maxL := 5) (ret := (some .int)) (by decide) rfl (Nat.le_of_ble_eq_true rfl) ?_
  intro p e s m below meth c A ls Q hx hb hml hown hts hK hA hP hD hS hl hr hlk hnm hE hQ
  have hown : s.vm.findClass RX5 = some m.cls := hown
  have hinX4 : ∀ w ∈ u_ws RX4 TX4 10, w ∈ wsX5_mostAgreed := by decide +kernel
  have j15 : ∀ (n15 : Nat) (S_t : G) (S_p1 : G) (l2 : Int32) (l3 : Int32) (l4 : Int32) (H : Heap) (locs : List Loc) (ls : Array Slot), f_X5_mostAgreed_15 n15 S_t S_p1 l2 l3 l4 = some out → va_P D vwCl (gX5 o_t a_t cI S_t ++ gX4 o_p1 a_p1 cI S_p1) H → va_D A (gX5 o_t a_t cI S_t ++ gX4 o_p1 a_p1 cI S_p1) → va_S A s.heap H locs → lv_has ls 5 [(0, .ref o_t), (1, .ref o_p1), (2, .int l2), (3, .int l3), (4, .int l4)] → W p l e rmX5_mostAgreed s m ([.ref o_t, .ref o_p1] : List Value).toArray below meth c H locs 0 0 Q (F0 m 15 ls []) := by
    intro n15
    induction n15 with
    | zero =>
      intro S_t S_p1 l2 l3 l4 H locs ls hf
      exact no_some hf
    | succ n15 ih15 =>
      intro S_t S_p1 l2 l3 l4 H locs ls hf hP hD hS hl
      replace hf : b_X5_mostAgreed_15 (f_X5_mostAgreed_15 n15) S_t S_p1 l2 l3 l4 = some out := hf
      unfold b_X5_mostAgreed_15 at hf
      refine lv_iload hx hb dX5_mostAgreed_15 (lv_at hl 4 rfl) ?_
      refine lv_iconst (v := (1 : Int32)) hx hb dX5_mostAgreed_17 (by decide) ?_
      refine lv_aload_n hx hb dX5_mostAgreed_18 rfl (lv_at hl 1 rfl) ?_
      refine va_get (D := D) (ci := 4) (v := .int (S_p1.1 3)) (C := RX4) (T := TX4) (N := 10) hx hb hts hinX4 hown hK hP 2 rfl rfl 3 (by decide) (hts (.fieldLink RX5 45 "OnlyStrangersHear$Town" "people" "I") (by decide +kernel)) (fun _ h9 => h9) rfl dX5_mostAgreed_19 ?_
      refine lv_ishl hx hb dX5_mostAgreed_22 ?_
      refine lv_icmp_ge (tgt := 65) hx hb dX5_mostAgreed_23 (by decide) (fun c23 => ?_) (fun c23 => ?_)
      · replace hf := it_t c23 hf
        refine lv_iload_n hx hb dX5_mostAgreed_65 rfl (lv_at hl 3 rfl) ?_
        have e := so_some hf
        subst e
        exact ri hx hb hK hr hlk hQ dX5_mostAgreed_66 hP hD hS
      · replace hf := it_f c23 hf
        refine lv_iload hx hb dX5_mostAgreed_26 (lv_at hl 4 rfl) ?_
        refine lv_iload_n hx hb dX5_mostAgreed_28 rfl (lv_at hl 2 rfl) ?_
        refine lv_iconst (v := (-1 : Int32)) hx hb dX5_mostAgreed_29 (by decide) ?_
        refine lv_ixor hx hb dX5_mostAgreed_30 ?_
        refine lv_iand hx hb dX5_mostAgreed_31 ?_
        refine lv_if_ne (tgt := 59) hx hb dX5_mostAgreed_32 (by decide) (fun c32 => ?_) (fun c32 => ?_)
        · replace hf := it_f c32 hf
          refine lv_iinc (v := l4 + (1 : Int32)) (lv' := [(4, .int (l4 + (1 : Int32))), (0, .ref o_t), (1, .ref o_p1), (2, .int l2), (3, .int l3)]) hx hb dX5_mostAgreed_59 hl (k := 4) rfl rfl (by decide) rfl (fun ls hl => ?_)
          refine lv_goto (tgt := 15) hx hb dX5_mostAgreed_62 (by decide) ?_
          exact ih15 S_t S_p1 l2 l3 (l4 + (1 : Int32)) H locs ls hf hP hD hS (lv_sub hl [1, 2, 3, 4, 0] rfl)
        · replace hf := it_t c32 hf
          refine lv_iload hx hb dX5_mostAgreed_35 (lv_at hl 4 rfl) ?_
          obtain ⟨r37, u37, h37, hf⟩ := bd_some hf
          have hPc : va_P D vwCl [] H := hP.sub (ws' := []) [] rfl
          have hDc : va_D A [] := hD.sub (ws' := []) [] (by decide) rfl
          refine calXe (runS E0.b E0.n (As := [.int l4]) (rest := []) ⟨hx, hb, hml, hown, hts⟩ (c_J6_bitCount_0f7a4 l D cI l4 _ h37) gX5_mostAgreed_J6_bitCount_0f7a4 rfl rfl rfl hdJ6_bitCount_0f7a4 ⟨by decide, by decide⟩ hK hPc hDc rfl hl.1 rfl (Nat.le_of_ble_eq_true rfl) dX5_mostAgreed_37 ⟨Nat.zero_le _, Nat.zero_le _⟩) hP hD hS hA (fun H locs hP hD hS => ?_)
          have hP : va_P D vwCl (gX5 o_t a_t cI S_t ++ gX4 o_p1 a_p1 cI S_p1) H := hP
          have hD : va_D A (gX5 o_t a_t cI S_t ++ gX4 o_p1 a_p1 cI S_p1) := hD
          refine W.eq (g2 := F0 m 40 ls [.int r37]) rfl ?_
          refine lv_iload_n hx hb dX5_mostAgreed_40 rfl (lv_at hl 3 rfl) ?_
          obtain ⟨r41, u41, h41, hf⟩ := bd_some hf
          have hPc : va_P D vwCl [] H := hP.sub (ws' := []) [] rfl
          have hDc : va_D A [] := hD.sub (ws' := []) [] (by decide) rfl
          refine calXe (runS E0.b E0.n (As := [.int l3]) (rest := [.int r37]) ⟨hx, hb, hml, hown, hts⟩ (c_J6_bitCount_0f7a4 l D cI l3 _ h41) gX5_mostAgreed_J6_bitCount_0f7a4 rfl rfl rfl hdJ6_bitCount_0f7a4 ⟨by decide, by decide⟩ hK hPc hDc rfl hl.1 rfl (Nat.le_of_ble_eq_true rfl) dX5_mostAgreed_41 ⟨Nat.zero_le _, Nat.zero_le _⟩) hP hD hS hA (fun H locs hP hD hS => ?_)
          have hP : va_P D vwCl (gX5 o_t a_t cI S_t ++ gX4 o_p1 a_p1 cI S_p1) H := hP
          have hD : va_D A (gX5 o_t a_t cI S_t ++ gX4 o_p1 a_p1 cI S_p1) := hD
          refine W.eq (g2 := F0 m 44 ls [.int r41, .int r37]) rfl ?_
          refine lv_icmp_le (tgt := 59) hx hb dX5_mostAgreed_44 (by decide) (fun c44 => ?_) (fun c44 => ?_)
          · replace hf := it_t c44 hf
            refine lv_iinc (v := l4 + (1 : Int32)) (lv' := [(4, .int (l4 + (1 : Int32))), (0, .ref o_t), (1, .ref o_p1), (2, .int l2), (3, .int l3)]) hx hb dX5_mostAgreed_59 hl (k := 4) rfl rfl (by decide) rfl (fun ls hl => ?_)
            refine lv_goto (tgt := 15) hx hb dX5_mostAgreed_62 (by decide) ?_
            exact ih15 S_t S_p1 l2 l3 (l4 + (1 : Int32)) H locs ls hf hP hD hS (lv_sub hl [1, 2, 3, 4, 0] rfl)
          · replace hf := it_f c44 hf
            refine lv_aload_n hx hb dX5_mostAgreed_47 rfl (lv_at hl 0 rfl) ?_
            refine lv_iload hx hb dX5_mostAgreed_48 (lv_at hl 4 rfl) ?_
            obtain ⟨r50, u50, h50, hf⟩ := bd_some hf
            have hPc := hP.sub (ws' := gX5 o_t a_t cI S_t) [0, 1] rfl
            have hDc := hD.sub (ws' := gX5 o_t a_t cI S_t) [0, 1] (by decide) rfl
            refine calX (runV E0.b E0.n (As := [.int l4]) (rest := []) ⟨hx, hb, hml, hown, hts⟩ (c_X5_isPeaceful l D cI o_t a_t S_t l4 _ h50) gX5_mostAgreed_X5_isPeaceful rfl rfl rfl hdX5_isPeaceful ⟨by decide, by decide⟩ hK hPc hDc 0 rfl rfl rfl hl.1 rfl (Nat.le_of_ble_eq_true rfl) dX5_mostAgreed_50 ⟨Nat.zero_le _, Nat.zero_le _⟩) hP hD hS hA [0, 1] [2, 3, 4, 5, 6, 7, 8] [7, 8, 0, 1, 2, 3, 4, 5, 6] (wr := gX4 o_p1 a_p1 cI S_p1) (wn := gX5 o_t a_t cI u50 ++ gX4 o_p1 a_p1 cI S_p1) rfl rfl (by decide) (by decide) rfl (by decide) (fun H locs hP hD hS => ?_)
            have hP : va_P D vwCl (gX5 o_t a_t cI u50 ++ gX4 o_p1 a_p1 cI S_p1) H := hP
            have hD : va_D A (gX5 o_t a_t cI u50 ++ gX4 o_p1 a_p1 cI S_p1) := hD
            refine W.eq (g2 := F0 m 53 ls [.int r50]) rfl ?_
            refine lv_if_eq (tgt := 59) hx hb dX5_mostAgreed_53 (by decide) (fun c53 => ?_) (fun c53 => ?_)
            · replace hf := it_t c53 hf
              refine lv_iinc (v := l4 + (1 : Int32)) (lv' := [(4, .int (l4 + (1 : Int32))), (0, .ref o_t), (1, .ref o_p1), (2, .int l2), (3, .int l3)]) hx hb dX5_mostAgreed_59 hl (k := 4) rfl rfl (by decide) rfl (fun ls hl => ?_)
              refine lv_goto (tgt := 15) hx hb dX5_mostAgreed_62 (by decide) ?_
              exact ih15 u50 S_p1 l2 l3 (l4 + (1 : Int32)) H locs ls hf hP hD hS (lv_sub hl [1, 2, 3, 4, 0] rfl)
            · replace hf := it_f c53 hf
              refine lv_iload hx hb dX5_mostAgreed_56 (lv_at hl 4 rfl) ?_
              refine lv_istore_n (lv' := [(3, .int l4), (0, .ref o_t), (1, .ref o_p1), (2, .int l2), (4, .int l4)]) hx hb dX5_mostAgreed_58 rfl hl (by decide) rfl (fun ls hl => ?_)
              refine lv_iinc (v := l4 + (1 : Int32)) (lv' := [(4, .int (l4 + (1 : Int32))), (3, .int l4), (0, .ref o_t), (1, .ref o_p1), (2, .int l2)]) hx hb dX5_mostAgreed_59 hl (k := 4) rfl rfl (by decide) rfl (fun ls hl => ?_)
              refine lv_goto (tgt := 15) hx hb dX5_mostAgreed_62 (by decide) ?_
              exact ih15 u50 S_p1 l2 l4 (l4 + (1 : Int32)) H locs ls hf hP hD hS (lv_sub hl [2, 3, 4, 1, 0] rfl)
  unfold f_X5_mostAgreed at hf
  have hl : lv_has ls 5 [(0, .ref o_t), (1, .ref o_p1)] := hl
  obtain ⟨H, hHe⟩ : ∃ H : Heap, H = s.heap := ⟨_, rfl⟩
  obtain ⟨locs, hle⟩ : ∃ q : List Loc, q = [] := ⟨_, rfl⟩
  have hS : va_S A s.heap H locs := by rw [hHe, hle]; exact hS
  rw [← hHe] at hP
  suffices hgo : W p l e rmX5_mostAgreed s m ([.ref o_t, .ref o_p1] : List Value).toArray below meth c H locs 0 0 Q (F0 m 0 ls []) by rw [hHe, hle] at hgo; exact hgo
  clear hHe hle
  refine lv_aload_n hx hb dX5_mostAgreed_0 rfl (lv_at hl 0 rfl) ?_
  refine lv_aload_n hx hb dX5_mostAgreed_1 rfl (lv_at hl 1 rfl) ?_
  obtain ⟨r2, u2, h2, hf⟩ := bd_some hf
  refine calX0 (runV E0.b E0.n (As := [.ref o_p1]) (rest := []) ⟨hx, hb, hml, hown, hts⟩ (c_X5_findFoes l D cI o_t a_t o_p1 a_p1 S_t S_p1 _ h2) gX5_mostAgreed_X5_findFoes rfl rfl rfl hdX5_findFoes ⟨by decide, by decide⟩ hK hP hD 0 rfl rfl rfl hl.1 rfl (Nat.le_of_ble_eq_true rfl) dX5_mostAgreed_2 ⟨Nat.zero_le _, Nat.zero_le _⟩) hD hS hA (fun H locs hP hD hS => ?_)
  have hP : va_P D vwCl (gX5 o_t a_t cI u2.1 ++ gX4 o_p1 a_p1 cI u2.2) H := hP
  have hD : va_D A (gX5 o_t a_t cI u2.1 ++ gX4 o_p1 a_p1 cI u2.2) := hD
  refine W.eq (g2 := F0 m 5 ls []) rfl ?_
  refine lv_aload_n hx hb dX5_mostAgreed_5 rfl (lv_at hl 1 rfl) ?_
  obtain ⟨r6, u6, h6, hf⟩ := bd_some hf
  have hPc := hP.sub (ws' := gX4 o_p1 a_p1 cI u2.2) [2, 3, 4, 5, 6, 7, 8] rfl
  have hDc := hD.sub (ws' := gX4 o_p1 a_p1 cI u2.2) [2, 3, 4, 5, 6, 7, 8] (by decide) rfl
  refine calX (runV E0.b E0.n (As := []) (rest := []) ⟨hx, hb, hml, hown, hts⟩ (c_X4_hearersOfSome l D cI o_p1 a_p1 u2.2 _ h6) gX5_mostAgreed_X4_hearersOfSome rfl rfl rfl hdX4_hearersOfSome ⟨by decide, by decide⟩ hK hPc hDc 0 rfl rfl rfl hl.1 rfl (Nat.le_of_ble_eq_true rfl) dX5_mostAgreed_6 ⟨Nat.zero_le _, Nat.zero_le _⟩) hP hD hS hA [2, 3, 4, 5, 6, 7, 8] [0, 1] [0, 1, 2, 3, 4, 5, 6, 7, 8] (wr := gX5 o_t a_t cI u2.1) (wn := gX5 o_t a_t cI u2.1 ++ gX4 o_p1 a_p1 cI u6) rfl rfl (by decide) (by decide) rfl (by decide) (fun H locs hP hD hS => ?_)
  have hP : va_P D vwCl (gX5 o_t a_t cI u2.1 ++ gX4 o_p1 a_p1 cI u6) H := hP
  have hD : va_D A (gX5 o_t a_t cI u2.1 ++ gX4 o_p1 a_p1 cI u6) := hD
  refine W.eq (g2 := F0 m 9 ls [.int r6]) rfl ?_
  refine lv_istore_n (lv' := [(2, .int r6), (0, .ref o_t), (1, .ref o_p1)]) hx hb dX5_mostAgreed_9 rfl hl (by decide) rfl (fun ls hl => ?_)
  refine lv_iconst (v := (0 : Int32)) hx hb dX5_mostAgreed_10 (by decide) ?_
  refine lv_istore_n (lv' := [(3, .int (0 : Int32)), (2, .int r6), (0, .ref o_t), (1, .ref o_p1)]) hx hb dX5_mostAgreed_11 rfl hl (by decide) rfl (fun ls hl => ?_)
  refine lv_iconst (v := (1 : Int32)) hx hb dX5_mostAgreed_12 (by decide) ?_
  refine lv_istore (lv' := [(4, .int (1 : Int32)), (3, .int (0 : Int32)), (2, .int r6), (0, .ref o_t), (1, .ref o_p1)]) hx hb dX5_mostAgreed_13 hl (by decide) rfl (fun ls hl => ?_)
  exact j15 1000 u2.1 u6 r6 (0 : Int32) (1 : Int32) H locs ls hf hP hD hS (lv_sub hl [3, 4, 2, 1, 0] rfl)
abbrev rmX5_hoursSaid : Room := { frames := 2, cells := 0, slots := 0, locals := 43 }
set_option maxHeartbeats 4000000 in
set_option maxRecDepth 100000 in
theorem c_X5_hoursSaid (l : Launch) (D : va_G) (cI : ClassId) (o_t : Nat) (a_t : Nat → Nat) (o_p1 : Nat) (a_p1 : Nat → Nat) (S_t : G) (S_p1 : G) (out : Int32 × G × G) (hf : f_X5_hoursSaid S_t S_p1 = some out) : Cn E0 l yX5_hoursSaid wsX5_hoursSaid rmX5_hoursSaid D cI [.ref o_t, .ref o_p1] (gX5 o_t a_t cI S_t ++ gX4 o_p1 a_p1 cI S_p1) (some (.int out.1)) (gX5 o_t a_t cI out.2.1 ++ gX4 o_p1 a_p1 cI out.2.2) := by
  refine Cn.mk (cc := cX5_hoursSaid) (maxL := 5) (ret := (some .int)) (by decide) rfl (Nat.le_of_ble_eq_true rfl) ?_
  intro p e s m below meth c A ls Q hx hb hml hown hts hK hA hP hD hS hl hr hlk hnm hE hQ
  have hown : s.vm.findClass RX5 = some m.cls := hown
  have hinX4 : ∀ w ∈ u_ws RX4 TX4 10, w ∈ wsX5_hoursSaid := by decide +kernel
  have j4 : ∀ (n4 : Nat) (S_t : G) (S_p1 : G) (l2 : Int32) (l3 : Int32) (H : Heap) (locs : List Loc) (ls : Array Slot), f_X5_hoursSaid_4 n4 S_t S_p1 l2 l3 = some out → va_P D vwCl (gX5 o_t a_t cI S_t ++ gX4 o_p1 a_p1 cI S_p1) H → va_D A (gX5 o_t a_t cI S_t ++ gX4 o_p1 a_p1 cI S_p1) → va_S A s.heap H locs → lv_has ls 5 [(1, .ref o_p1), (2, .int l2), (3, .int l3)] → W p l e rmX5_hoursSaid s m ([.ref o_t, .ref o_p1] : List Value).toArray below meth c H locs 0 0 Q (F0 m 4 ls []) := by
    intro n4
    induction n4 with
    | zero =>
      intro S_t S_p1 l2 l3 H locs ls hf
      exact no_some hf
    | succ n4 ih4 =>
      have j15 : ∀ (n15 : Nat) (S_t : G) (S_p1 : G) (l2 : Int32) (l3 : Int32) (l4 : Int32) (H : Heap) (locs : List Loc) (ls : Array Slot), f_X5_hoursSaid_15 (f_X5_hoursSaid_4 n4) n15 S_t S_p1 l2 l3 l4 = some out → va_P D vwCl (gX5 o_t a_t cI S_t ++ gX4 o_p1 a_p1 cI S_p1) H → va_D A (gX5 o_t a_t cI S_t ++ gX4 o_p1 a_p1 cI S_p1) → va_S A s.heap H locs → lv_has ls 5 [(1, .ref o_p1), (2, .int l2), (3, .int l3), (4, .int l4)] → W p l e rmX5_hoursSaid s m ([.ref o_t, .ref o_p1] : List Value).toArray below meth c H locs 0 0 Q (F0 m 15 ls []) := by
        intro n15
        induction n15 with
        | zero =>
          intro S_t S_p1 l2 l3 l4 H locs ls hf
          exact no_some hf
        | succ n15 ih15 =>
          intro S_t S_p1 l2 l3 l4 H locs ls hf hP hD hS hl
          replace hf : b_X5_hoursSaid_15 (f_X5_hoursSaid_4 n4) (f_X5_hoursSaid_15 (f_X5_hoursSaid_4 n4) n15) S_t S_p1 l2 l3 l4 = some out := hf
          unfold b_X5_hoursSaid_15 at hf
          refine lv_iload hx hb dX5_hoursSaid_15 (lv_at hl 3 rfl) ?_
          refine lv_aload_n hx hb dX5_hoursSaid_17 rfl (lv_at hl 0 rfl) ?_
          refine va_get (D := D) (ci := 4) (v := .int (S_p1.1 3)) (C := RX4) (T := TX4) (N := 10) hx hb hts hinX4 hown hK hP 2 rfl rfl 3 (by decide) (hts (.fieldLink RX5 45 "OnlyStrangersHear$Town" "people" "I") (by decide +kernel)) (fun _ h9 => h9) rfl dX5_hoursSaid_18 ?_
          refine lv_icmp_ge (tgt := 52) hx hb dX5_hoursSaid_21 (by decide) (fun c21 => ?_) (fun c21 => ?_)
          · replace hf := it_t c21 hf
            refine lv_iinc (v := l3 + (1 : Int32)) (lv' := [(3, .int (l3 + (1 : Int32))), (1, .ref o_p1), (2, .int l2), (4, .int l4)]) hx hb dX5_hoursSaid_52 hl (k := 2) rfl rfl (by decide) rfl (fun ls hl => ?_)
            refine lv_goto (tgt := 4) hx hb dX5_hoursSaid_55 (by decide) ?_
            exact ih4 S_t S_p1 l2 (l3 + (1 : Int32)) H locs ls hf hP hD hS (lv_sub hl [1, 2, 0] rfl)
          · replace hf := it_f c21 hf
            refine lv_aload_n hx hb dX5_hoursSaid_24 rfl (lv_at hl 0 rfl) ?_
            refine lv_iload hx hb dX5_hoursSaid_25 (lv_at hl 3 rfl) ?_
            refine lv_iload_n hx hb dX5_hoursSaid_27 rfl (lv_at hl 2 rfl) ?_
            obtain ⟨r28, u28, h28, hf⟩ := bd_some hf
            have hPc := hP.sub (ws' := gX4 o_p1 a_p1 cI S_p1) [2, 3, 4, 5, 6, 7, 8] rfl
            have hDc := hD.sub (ws' := gX4 o_p1 a_p1 cI S_p1) [2, 3, 4, 5, 6, 7, 8] (by decide) rfl
            refine calX (runV E0.b E0.n (As := [.int l4, .int l3]) (rest := []) ⟨hx, hb, hml, hown, hts⟩ (c_X4_hearsIt l D cI o_p1 a_p1 S_p1 l4 l3 _ h28) gX5_hoursSaid_X4_hearsIt rfl rfl rfl hdX4_hearsIt ⟨by decide, by decide⟩ hK hPc hDc 0 rfl rfl rfl hl.1 rfl (Nat.le_of_ble_eq_true rfl) dX5_hoursSaid_28 ⟨Nat.zero_le _, Nat.zero_le _⟩) hP hD hS hA [2, 3, 4, 5, 6, 7, 8] [0, 1] [0, 1, 2, 3, 4, 5, 6, 7, 8] (wr := gX5 o_t a_t cI S_t) (wn := gX5 o_t a_t cI S_t ++ gX4 o_p1 a_p1 cI u28) rfl rfl (by decide) (by decide) rfl (by decide) (fun H locs hP hD hS => ?_)
            have hP : va_P D vwCl (gX5 o_t a_t cI S_t ++ gX4 o_p1 a_p1 cI u28) H := hP
            have hD : va_D A (gX5 o_t a_t cI S_t ++ gX4 o_p1 a_p1 cI u28) := hD
            refine W.eq (g2 := F0 m 31 ls [.int r28]) rfl ?_
            refine lv_if_eq (tgt := 46) hx hb dX5_hoursSaid_31 (by decide) (fun c31 => ?_) (fun c31 => ?_)
            · replace hf := it_t c31 hf
              refine lv_iinc (v := l4 + (1 : Int32)) (lv' := [(4, .int (l4 + (1 : Int32))), (1, .ref o_p1), (2, .int l2), (3, .int l3)]) hx hb dX5_hoursSaid_46 hl (k := 3) rfl rfl (by decide) rfl (fun ls hl => ?_)
              refine lv_goto (tgt := 15) hx hb dX5_hoursSaid_49 (by decide) ?_
              exact ih15 S_t u28 l2 l3 (l4 + (1 : Int32)) H locs ls hf hP hD hS (lv_sub hl [1, 2, 3, 0] rfl)
            · replace hf := it_f c31 hf
              refine lv_iload_n hx hb dX5_hoursSaid_34 rfl (lv_at hl 1 rfl) ?_
              refine lv_iconst (v := (1 : Int32)) hx hb dX5_hoursSaid_35 (by decide) ?_
              refine lv_aload_n hx hb dX5_hoursSaid_36 rfl (lv_at hl 0 rfl) ?_
              refine lv_iload hx hb dX5_hoursSaid_37 (lv_at hl 3 rfl) ?_
              refine lv_iload_n hx hb dX5_hoursSaid_39 rfl (lv_at hl 2 rfl) ?_
              obtain ⟨r40, u40, h40, hf⟩ := bd_some hf
              have hPc := hP.sub (ws' := gX4 o_p1 a_p1 cI u28) [2, 3, 4, 5, 6, 7, 8] rfl
              have hDc := hD.sub (ws' := gX4 o_p1 a_p1 cI u28) [2, 3, 4, 5, 6, 7, 8] (by decide) rfl
              refine calX (runV E0.b E0.n (As := [.int l4, .int l3]) (rest := [.int (1 : Int32), .int l2]) ⟨hx, hb, hml, hown, hts⟩ (c_X4_hourBy l D cI o_p1 a_p1 u28 l4 l3 _ h40) gX5_hoursSaid_X4_hourBy rfl rfl rfl hdX4_hourBy ⟨by decide, by decide⟩ hK hPc hDc 0 rfl rfl rfl hl.1 rfl (Nat.le_of_ble_eq_true rfl) dX5_hoursSaid_40 ⟨Nat.zero_le _, Nat.zero_le _⟩) hP hD hS hA [2, 3, 4, 5, 6, 7, 8] [0, 1] [0, 1, 2, 3, 4, 5, 6, 7, 8] (wr := gX5 o_t a_t cI S_t) (wn := gX5 o_t a_t cI S_t ++ gX4 o_p1 a_p1 cI u40) rfl rfl (by decide) (by decide) rfl (by decide) (fun H locs hP hD hS => ?_)
              have hP : va_P D vwCl (gX5 o_t a_t cI S_t ++ gX4 o_p1 a_p1 cI u40) H := hP
              have hD : va_D A (gX5 o_t a_t cI S_t ++ gX4 o_p1 a_p1 cI u40) := hD
              refine W.eq (g2 := F0 m 43 ls [.int r40, .int (1 : Int32), .int l2]) rfl ?_
              refine lv_ishl hx hb dX5_hoursSaid_43 ?_
              refine lv_ior hx hb dX5_hoursSaid_44 ?_
              refine lv_topi (fun v45 e45 => ?_)
              replace hf := lt_at e45 hf
              refine lv_istore_n (lv' := [(2, .int v45), (1, .ref o_p1), (3, .int l3), (4, .int l4)]) hx hb dX5_hoursSaid_45 rfl hl (by decide) rfl (fun ls hl => ?_)
              refine lv_iinc (v := l4 + (1 : Int32)) (lv' := [(4, .int (l4 + (1 : Int32))), (2, .int v45), (1, .ref o_p1), (3, .int l3)]) hx hb dX5_hoursSaid_46 hl (k := 3) rfl rfl (by decide) rfl (fun ls hl => ?_)
              refine lv_goto (tgt := 15) hx hb dX5_hoursSaid_49 (by decide) ?_
              exact ih15 S_t u40 v45 l3 (l4 + (1 : Int32)) H locs ls hf hP hD hS (lv_sub hl [2, 1, 3, 0] rfl)
      intro S_t S_p1 l2 l3 H locs ls hf hP hD hS hl
      replace hf : b_X5_hoursSaid_4 (f_X5_hoursSaid_4 n4) S_t S_p1 l2 l3 = some out := hf
      unfold b_X5_hoursSaid_4 at hf
      refine lv_iload_n hx hb dX5_hoursSaid_4 rfl (lv_at hl 2 rfl) ?_
      refine lv_aload_n hx hb dX5_hoursSaid_5 rfl (lv_at hl 0 rfl) ?_
      refine va_get (D := D) (ci := 4) (v := .int (S_p1.1 0)) (C := RX4) (T := TX4) (N := 10) hx hb hts hinX4 hown hK hP 2 rfl rfl 0 (by decide) (hts (.fieldLink RX5 15 "OnlyStrangersHear$Town" "bells" "I") (by decide +kernel)) (fun _ h9 => h9) rfl dX5_hoursSaid_6 ?_
      refine lv_icmp_ge (tgt := 58) hx hb dX5_hoursSaid_9 (by decide) (fun c9 => ?_) (fun c9 => ?_)
      · replace hf := it_t c9 hf
        refine lv_iload_n hx hb dX5_hoursSaid_58 rfl (lv_at hl 1 rfl) ?_
        have e := so_some hf
        subst e
        exact ri hx hb hK hr hlk hQ dX5_hoursSaid_59 hP hD hS
      · replace hf := it_f c9 hf
        refine lv_iconst (v := (0 : Int32)) hx hb dX5_hoursSaid_12 (by decide) ?_
        refine lv_istore (lv' := [(4, .int (0 : Int32)), (1, .ref o_p1), (2, .int l2), (3, .int l3)]) hx hb dX5_hoursSaid_13 hl (by decide) rfl (fun ls hl => ?_)
        exact j15 1000 S_t S_p1 l2 l3 (0 : Int32) H locs ls hf hP hD hS (lv_sub hl [1, 2, 3, 0] rfl)
  unfold f_X5_hoursSaid at hf
  have hl : lv_has ls 5 [(0, .ref o_t), (1, .ref o_p1)] := hl
  obtain ⟨H, hHe⟩ : ∃ H : Heap, H = s.heap := ⟨_, rfl⟩
  obtain ⟨locs, hle⟩ : ∃ q : List Loc, q = [] := ⟨_, rfl⟩
  have hS : va_S A s.heap H locs := by rw [hHe, hle]; exact hS
  rw [← hHe] at hP
  suffices hgo : W p l e rmX5_hoursSaid s m ([.ref o_t, .ref o_p1] : List Value).toArray below meth c H locs 0 0 Q (F0 m 0 ls []) by rw [hHe, hle] at hgo; exact hgo
  clear hHe hle
  refine lv_iconst (v := (0 : Int32)) hx hb dX5_hoursSaid_0 (by decide) ?_
  refine lv_istore_n (lv' := [(2, .int (0 : Int32)), (0, .ref o_t), (1, .ref o_p1)]) hx hb dX5_hoursSaid_1 rfl hl (by decide) rfl (fun ls hl => ?_)
  refine lv_iconst (v := (0 : Int32)) hx hb dX5_hoursSaid_2 (by decide) ?_
  refine lv_istore_n (lv' := [(3, .int (0 : Int32)), (2, .int (0 : Int32)), (0, .ref o_t), (1, .ref o_p1)]) hx hb dX5_hoursSaid_3 rfl hl (by decide) rfl (fun ls hl => ?_)
  exact j4 1000 S_t S_p1 (0 : Int32) (0 : Int32) H locs ls hf hP hD hS (lv_sub hl [3, 1, 0] rfl)
