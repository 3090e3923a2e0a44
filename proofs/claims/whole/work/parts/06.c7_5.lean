abbrev rmX7_lastOne : Room := { frames := 4, cells := 0, slots := 0, locals := 91 }
set_option maxHeartbeats 4000000 in
set_option maxRecDepth 100000 in
theorem c_X7_lastOne (l : Launch) (D : va_G) (cI : ClassId) (o_t : Nat) (a_t : Nat → Nat) (S_t : G) (out : Int32 × G) (hf : f_X7_lastOne S_t = some out) : Cn E0 l yX7_lastOne wsX7_lastOne rmX7_lastOne D cI [.ref o_t] (gX7 o_t a_t cI S_t) (some (.int out.1)) (gX7 o_t a_t cI out.2) := by
  refine Cn.mk (cc := cX7_lastOne) (maxL := 5) (ret := (some .int)) (by decide) rfl (Nat.le_of_ble_eq_true rfl) ?_
  intro p e s m below meth c A ls Q hx hb hml hown hts hK hA hP hD hS hl hr hlk hnm hE hQ
  have hown : s.vm.findClass RX7 = some m.cls := hown
  have hinX7 : ∀ w ∈ u_ws RX7 TX7 26, w ∈ wsX7_lastOne := by decide +kernel
  have j7 : ∀ (n7 : Nat) (S_t : G) (l1 : Int32) (l2 : Int32) (l3 : Int32) (H : Heap) (locs : List Loc) (ls : Array Slot), f_X7_lastOne_7 n7 S_t l1 l2 l3 = some out → va_P D vwCl (gX7 o_t a_t cI S_t) H → va_D A (gX7 o_t a_t cI S_t) → va_S A s.heap H locs → lv_has ls 5 [(0, .ref o_t), (1, .int l1), (2, .int l2), (3, .int l3)] → W p l e rmX7_lastOne s m ([.ref o_t] : List Value).toArray below meth c H locs 0 0 Q (F0 m 7 ls []) := by
    intro n7
    induction n7 with
    | zero =>
      intro S_t l1 l2 l3 H locs ls hf
      exact no_some hf
    | succ n7 ih7 =>
      have j45 : ∀ (S_t : G) (l1 : Int32) (l2 : Int32) (l3 : Int32) (s0 : Int32) (H : Heap) (locs : List Loc) (ls : Array Slot), f_X7_lastOne_45 (f_X7_lastOne_7 n7) S_t l1 l2 l3 s0 = some out → va_P D vwCl (gX7 o_t a_t cI S_t) H → va_D A (gX7 o_t a_t cI S_t) → va_S A s.heap H locs → lv_has ls 5 [(0, .ref o_t), (1, .int l1), (2, .int l2), (3, .int l3)] → W p l e rmX7_lastOne s m ([.ref o_t] : List Value).toArray below meth c H locs 0 0 Q (F0 m 45 ls [.int s0]) := by
        intro S_t l1 l2 l3 s0 H locs ls hf hP hD hS hl
        unfold f_X7_lastOne_45 at hf
        refine lv_istore (lv' := [(4, .int s0), (0, .ref o_t), (1, .int l1), (2, .int l2), (3, .int l3)]) hx hb dX7_lastOne_45 hl (by decide) rfl (fun ls hl => ?_)
        refine lv_iload_n hx hb dX7_lastOne_47 rfl (lv_at hl 2 rfl) ?_
        refine lv_if_lt (tgt := 60) hx hb dX7_lastOne_48 (by decide) (fun c48 => ?_) (fun c48 => ?_)
        · replace hf := it_t c48 hf
          refine lv_iload_n hx hb dX7_lastOne_60 rfl (lv_at hl 4 rfl) ?_
          refine lv_istore_n (lv' := [(1, .int l3), (4, .int s0), (0, .ref o_t), (2, .int l2), (3, .int l3)]) hx hb dX7_lastOne_61 rfl hl (by decide) rfl (fun ls hl => ?_)
          refine lv_iload hx hb dX7_lastOne_62 (lv_at hl 1 rfl) ?_
          refine lv_istore_n (lv' := [(2, .int s0), (1, .int l3), (4, .int s0), (0, .ref o_t), (3, .int l3)]) hx hb dX7_lastOne_64 rfl hl (by decide) rfl (fun ls hl => ?_)
          refine lv_iinc (v := l3 + (1 : Int32)) (lv' := [(3, .int (l3 + (1 : Int32))), (2, .int s0), (1, .int l3), (4, .int s0), (0, .ref o_t)]) hx hb dX7_lastOne_65 hl (k := 4) rfl rfl (by decide) rfl (fun ls hl => ?_)
          refine lv_goto (tgt := 7) hx hb dX7_lastOne_68 (by decide) ?_
          exact ih7 S_t l3 s0 (l3 + (1 : Int32)) H locs ls hf hP hD hS (lv_sub hl [4, 2, 1, 0] rfl)
        · replace hf := it_f c48 hf
          refine lv_iload hx hb dX7_lastOne_51 (lv_at hl 0 rfl) ?_
          refine lv_iload_n hx hb dX7_lastOne_53 rfl (lv_at hl 3 rfl) ?_
          refine lv_icmp_gt (tgt := 60) hx hb dX7_lastOne_54 (by decide) (fun c54 => ?_) (fun c54 => ?_)
          · replace hf := it_t c54 hf
            refine lv_iload_n hx hb dX7_lastOne_60 rfl (lv_at hl 4 rfl) ?_
            refine lv_istore_n (lv' := [(1, .int l3), (4, .int s0), (0, .ref o_t), (2, .int l2), (3, .int l3)]) hx hb dX7_lastOne_61 rfl hl (by decide) rfl (fun ls hl => ?_)
            refine lv_iload hx hb dX7_lastOne_62 (lv_at hl 1 rfl) ?_
            refine lv_istore_n (lv' := [(2, .int s0), (1, .int l3), (4, .int s0), (0, .ref o_t), (3, .int l3)]) hx hb dX7_lastOne_64 rfl hl (by decide) rfl (fun ls hl => ?_)
            refine lv_iinc (v := l3 + (1 : Int32)) (lv' := [(3, .int (l3 + (1 : Int32))), (2, .int s0), (1, .int l3), (4, .int s0), (0, .ref o_t)]) hx hb dX7_lastOne_65 hl (k := 4) rfl rfl (by decide) rfl (fun ls hl => ?_)
            refine lv_goto (tgt := 7) hx hb dX7_lastOne_68 (by decide) ?_
            exact ih7 S_t l3 s0 (l3 + (1 : Int32)) H locs ls hf hP hD hS (lv_sub hl [4, 2, 1, 0] rfl)
          · replace hf := it_f c54 hf
            refine lv_goto (tgt := 65) hx hb dX7_lastOne_57 (by decide) ?_
            refine lv_iinc (v := l3 + (1 : Int32)) (lv' := [(3, .int (l3 + (1 : Int32))), (4, .int s0), (0, .ref o_t), (1, .int l1), (2, .int l2)]) hx hb dX7_lastOne_65 hl (k := 4) rfl rfl (by decide) rfl (fun ls hl => ?_)
            refine lv_goto (tgt := 7) hx hb dX7_lastOne_68 (by decide) ?_
            exact ih7 S_t l1 l2 (l3 + (1 : Int32)) H locs ls hf hP hD hS (lv_sub hl [2, 3, 4, 0] rfl)
      intro S_t l1 l2 l3 H locs ls hf hP hD hS hl
      replace hf : b_X7_lastOne_7 (f_X7_lastOne_7 n7) S_t l1 l2 l3 = some out := hf
      unfold b_X7_lastOne_7 at hf
      refine lv_iload_n hx hb dX7_lastOne_7 rfl (lv_at hl 3 rfl) ?_
      refine lv_aload_n hx hb dX7_lastOne_8 rfl (lv_at hl 0 rfl) ?_
      refine va_get (D := D) (ci := 7) (v := .int (S_t.1 8)) (C := RX7) (T := TX7) (N := 26) hx hb hts hinX7 hown hK hP 0 rfl rfl 8 (by decide) (hts (.fieldLink RX7 65 "OnlyStrangersHearModel" "people" "I") (by decide +kernel)) (fun _ h9 => h9) rfl dX7_lastOne_9 ?_
      refine lv_icmp_ge (tgt := 71) hx hb dX7_lastOne_12 (by decide) (fun c12 => ?_) (fun c12 => ?_)
      · replace hf := it_t c12 hf
        refine lv_iload_n hx hb dX7_lastOne_71 rfl (lv_at hl 1 rfl) ?_
        have e := so_some hf
        subst e
        exact ri hx hb hK hr hlk hQ dX7_lastOne_72 hP hD hS
      · replace hf := it_f c12 hf
        refine lv_aload_n hx hb dX7_lastOne_15 rfl (lv_at hl 0 rfl) ?_
        refine lv_iload_n hx hb dX7_lastOne_16 rfl (lv_at hl 3 rfl) ?_
        obtain ⟨r17, u17, h17, hf⟩ := bd_some hf
        refine calX0 (runV E0.b E0.n (As := [.int l3]) (rest := []) ⟨hx, hb, hml, hown, hts⟩ (c_X7_hearsSome l D cI o_t a_t S_t l3 _ h17) gX7_lastOne_X7_hearsSome rfl rfl rfl hdX7_hearsSome ⟨by decide, by decide⟩ hK hP hD 0 rfl rfl rfl hl.1 rfl (Nat.le_of_ble_eq_true rfl) dX7_lastOne_17 ⟨Nat.zero_le _, Nat.zero_le _⟩) hD hS hA (fun H locs hP hD hS => ?_)
        have hP : va_P D vwCl (gX7 o_t a_t cI u17) H := hP
        have hD : va_D A (gX7 o_t a_t cI u17) := hD
        refine W.eq (g2 := F0 m 20 ls [.int r17]) rfl ?_
        refine lv_if_ne (tgt := 26) hx hb dX7_lastOne_20 (by decide) (fun c20 => ?_) (fun c20 => ?_)
        · replace hf := it_f c20 hf
          refine lv_aload_n hx hb dX7_lastOne_26 rfl (lv_at hl 0 rfl) ?_
          refine lv_iload_n hx hb dX7_lastOne_27 rfl (lv_at hl 3 rfl) ?_
          obtain ⟨r28, u28, h28, hf⟩ := bd_some hf
          refine calX0 (runV E0.b E0.n (As := [.int l3]) (rest := []) ⟨hx, hb, hml, hown, hts⟩ (c_X7_deafAt l D cI o_t a_t u17 l3 _ h28) gX7_lastOne_X7_deafAt rfl rfl rfl hdX7_deafAt ⟨by decide, by decide⟩ hK hP hD 0 rfl rfl rfl hl.1 rfl (Nat.le_of_ble_eq_true rfl) dX7_lastOne_28 ⟨Nat.zero_le _, Nat.zero_le _⟩) hD hS hA (fun H locs hP hD hS => ?_)
          have hP : va_P D vwCl (gX7 o_t a_t cI u28) H := hP
          have hD : va_D A (gX7 o_t a_t cI u28) := hD
          refine W.eq (g2 := F0 m 31 ls [.int r28]) rfl ?_
          refine lv_if_ge (tgt := 40) hx hb dX7_lastOne_31 (by decide) (fun c31 => ?_) (fun c31 => ?_)
          · replace hf := it_t c31 hf
            refine lv_aload_n hx hb dX7_lastOne_40 rfl (lv_at hl 0 rfl) ?_
            refine lv_iload_n hx hb dX7_lastOne_41 rfl (lv_at hl 3 rfl) ?_
            obtain ⟨r42, u42, h42, hf⟩ := bd_some hf
            refine calX0 (runV E0.b E0.n (As := [.int l3]) (rest := []) ⟨hx, hb, hml, hown, hts⟩ (c_X7_deafAt l D cI o_t a_t u28 l3 _ h42) gX7_lastOne_X7_deafAt rfl rfl rfl hdX7_deafAt ⟨by decide, by decide⟩ hK hP hD 0 rfl rfl rfl hl.1 rfl (Nat.le_of_ble_eq_true rfl) dX7_lastOne_42 ⟨Nat.zero_le _, Nat.zero_le _⟩) hD hS hA (fun H locs hP hD hS => ?_)
            have hP : va_P D vwCl (gX7 o_t a_t cI u42) H := hP
            have hD : va_D A (gX7 o_t a_t cI u42) := hD
            refine W.eq (g2 := F0 m 45 ls [.int r42]) rfl ?_
            exact j45 u42 l1 l2 l3 r42 H locs ls hf hP hD hS (lv_sub hl [0, 1, 2, 3] rfl)
          · replace hf := it_f c31 hf
            refine lv_sipush (v := (1000 : Int32)) hx hb dX7_lastOne_34 (by decide) ?_
            refine lv_goto (tgt := 45) hx hb dX7_lastOne_37 (by decide) ?_
            exact j45 u28 l1 l2 l3 (1000 : Int32) H locs ls hf hP hD hS (lv_sub hl [0, 1, 2, 3] rfl)
        · replace hf := it_t c20 hf
          refine lv_goto (tgt := 65) hx hb dX7_lastOne_23 (by decide) ?_
          refine lv_iinc (v := l3 + (1 : Int32)) (lv' := [(3, .int (l3 + (1 : Int32))), (0, .ref o_t), (1, .int l1), (2, .int l2)]) hx hb dX7_lastOne_65 hl (k := 3) rfl rfl (by decide) rfl (fun ls hl => ?_)
          refine lv_goto (tgt := 7) hx hb dX7_lastOne_68 (by decide) ?_
          exact ih7 u17 l1 l2 (l3 + (1 : Int32)) H locs ls hf hP hD hS (lv_sub hl [1, 2, 3, 0] rfl)
  unfold f_X7_lastOne at hf
  have hl : lv_has ls 5 [(0, .ref o_t)] := hl
  obtain ⟨H, hHe⟩ : ∃ H : Heap, H = s.heap := ⟨_, rfl⟩
  obtain ⟨locs, hle⟩ : ∃ q : List Loc, q = [] := ⟨_, rfl⟩
  have hS : va_S A s.heap H locs := by rw [hHe, hle]; exact hS
  rw [← hHe] at hP
  suffices hgo : W p l e rmX7_lastOne s m ([.ref o_t] : List Value).toArray below meth c H locs 0 0 Q (F0 m 0 ls []) by rw [hHe, hle] at hgo; exact hgo
  clear hHe hle
  refine lv_bipush (v := (-9 : Int32)) hx hb dX7_lastOne_0 (by decide) ?_
  refine lv_istore_n (lv' := [(1, .int (-9 : Int32)), (0, .ref o_t)]) hx hb dX7_lastOne_2 rfl hl (by decide) rfl (fun ls hl => ?_)
  refine lv_iconst (v := (0 : Int32)) hx hb dX7_lastOne_3 (by decide) ?_
  refine lv_istore_n (lv' := [(2, .int (0 : Int32)), (1, .int (-9 : Int32)), (0, .ref o_t)]) hx hb dX7_lastOne_4 rfl hl (by decide) rfl (fun ls hl => ?_)
  refine lv_iconst (v := (0 : Int32)) hx hb dX7_lastOne_5 (by decide) ?_
  refine lv_istore_n (lv' := [(3, .int (0 : Int32)), (2, .int (0 : Int32)), (1, .int (-9 : Int32)), (0, .ref o_t)]) hx hb dX7_lastOne_6 rfl hl (by decide) rfl (fun ls hl => ?_)
  exact j7 1000 S_t (-9 : Int32) (0 : Int32) (0 : Int32) H locs ls hf hP hD hS (lv_sub hl [3, 2, 1, 0] rfl)
abbrev rmX7_right : Room := { frames := 7, cells := 0, slots := 0, locals := 155 }
set_option maxHeartbeats 4000000 in
set_option maxRecDepth 100000 in
theorem c_X7_right (l : Launch) (D : va_G) (cI : ClassId) (o_t : Nat) (a_t : Nat → Nat) (S_t : G) (x1 : Int32) (out : Int32 × G) (hf : f_X7_right S_t x1 = some out) : Cn E0 l yX7_right wsX7_right rmX7_right D cI [.ref o_t, .int x1] (gX7 o_t a_t cI S_t) (some (.int out.1)) (gX7 o_t a_t cI out.2) := by
  refine Cn.mk (cc := cX7_right) (maxL := 2) (ret := (some .int)) (by decide) rfl (Nat.le_of_ble_eq_true rfl) ?_
  intro p e s m below meth c A ls Q hx hb hml hown hts hK hA hP hD hS hl hr hlk hnm hE hQ
  have hown : s.vm.findClass RX7 = some m.cls := hown
  unfold f_X7_right at hf
  have hl : lv_has ls 2 [(0, .ref o_t), (1, .int x1)] := hl
  obtain ⟨H, hHe⟩ : ∃ H : Heap, H = s.heap := ⟨_, rfl⟩
  obtain ⟨locs, hle⟩ : ∃ q : List Loc, q = [] := ⟨_, rfl⟩
  have hS : va_S A s.heap H locs := by rw [hHe, hle]; exact hS
  rw [← hHe] at hP
  suffices hgo : W p l e rmX7_right s m ([.ref o_t, .int x1] : List Value).toArray below meth c H locs 0 0 Q (F0 m 0 ls []) by rw [hHe, hle] at hgo; exact hgo
  clear hHe hle
  refine lv_iload_n hx hb dX7_right_0 rfl (lv_at hl 1 rfl) ?_
  refine lv_iconst (v := (0 : Int32)) hx hb dX7_right_1 (by decide) ?_
  refine lv_iconst (v := (2 : Int32)) hx hb dX7_right_2 (by decide) ?_
  obtain ⟨r3, u3, h3, hf⟩ := bd_some hf
  have hPc : va_P D vwCl [] H := hP.sub (ws' := []) [] rfl
  have hDc : va_D A [] := hD.sub (ws' := []) [] (by decide) rfl
  refine calXe (runS E0.b E0.n (As := [.int x1, .int (0 : Int32), .int (2 : Int32)]) (rest := []) ⟨hx, hb, hml, hown, hts⟩ (c_X7_isIn l D cI x1 (0 : Int32) (2 : Int32) _ h3) gX7_right_X7_isIn rfl rfl rfl hdX7_isIn ⟨by decide, by decide⟩ hK hPc hDc rfl hl.1 rfl (Nat.le_of_ble_eq_true rfl) dX7_right_3 ⟨Nat.zero_le _, Nat.zero_le _⟩) hP hD hS hA (fun H locs hP hD hS => ?_)
  have hP : va_P D vwCl (gX7 o_t a_t cI S_t) H := hP
  have hD : va_D A (gX7 o_t a_t cI S_t) := hD
  refine W.eq (g2 := F0 m 6 ls [.int r3]) rfl ?_
  refine lv_if_ne (tgt := 16) hx hb dX7_right_6 (by decide) (fun c6 => ?_) (fun c6 => ?_)
  · replace hf := it_f c6 hf
    refine lv_iload_n hx hb dX7_right_16 rfl (lv_at hl 1 rfl) ?_
    refine lv_if_ne (tgt := 27) hx hb dX7_right_17 (by decide) (fun c17 => ?_) (fun c17 => ?_)
    · replace hf := it_f c17 hf
      refine lv_iload_n hx hb dX7_right_27 rfl (lv_at hl 1 rfl) ?_
      refine lv_iconst (v := (1 : Int32)) hx hb dX7_right_28 (by decide) ?_
      refine lv_icmp_ne (tgt := 39) hx hb dX7_right_29 (by decide) (fun c29 => ?_) (fun c29 => ?_)
      · replace hf := it_f c29 hf
        refine lv_aload_n hx hb dX7_right_39 rfl (lv_at hl 0 rfl) ?_
        obtain ⟨r40, u40, h40, hf⟩ := bd_some hf
        refine calX0 (runV E0.b E0.n (As := []) (rest := []) ⟨hx, hb, hml, hown, hts⟩ (c_X7_lastOne l D cI o_t a_t S_t _ h40) gX7_right_X7_lastOne rfl rfl rfl hdX7_lastOne ⟨by decide, by decide⟩ hK hP hD 0 rfl rfl rfl hl.1 rfl (Nat.le_of_ble_eq_true rfl) dX7_right_40 ⟨Nat.zero_le _, Nat.zero_le _⟩) hD hS hA (fun H locs hP hD hS => ?_)
        have hP : va_P D vwCl (gX7 o_t a_t cI u40) H := hP
        have hD : va_D A (gX7 o_t a_t cI u40) := hD
        refine W.eq (g2 := F0 m 43 ls [.int r40]) rfl ?_
        have e := so_some hf
        subst e
        exact ri hx hb hK hr hlk hQ dX7_right_43 hP hD hS
      · replace hf := it_t c29 hf
        refine lv_aload_n hx hb dX7_right_32 rfl (lv_at hl 0 rfl) ?_
        obtain ⟨r33, u33, h33, hf⟩ := bd_some hf
        refine calX0 (runV E0.b E0.n (As := []) (rest := []) ⟨hx, hb, hml, hown, hts⟩ (c_X7_manyWrong l D cI o_t a_t S_t _ h33) gX7_right_X7_manyWrong rfl rfl rfl hdX7_manyWrong ⟨by decide, by decide⟩ hK hP hD 0 rfl rfl rfl hl.1 rfl (Nat.le_of_ble_eq_true rfl) dX7_right_33 ⟨Nat.zero_le _, Nat.zero_le _⟩) hD hS hA (fun H locs hP hD hS => ?_)
        have hP : va_P D vwCl (gX7 o_t a_t cI u33) H := hP
        have hD : va_D A (gX7 o_t a_t cI u33) := hD
        refine W.eq (g2 := F0 m 36 ls [.int r33]) rfl ?_
        refine lv_goto (tgt := 43) hx hb dX7_right_36 (by decide) ?_
        have e := so_some hf
        subst e
        exact ri hx hb hK hr hlk hQ dX7_right_43 hP hD hS
    · replace hf := it_t c17 hf
      refine lv_aload_n hx hb dX7_right_20 rfl (lv_at hl 0 rfl) ?_
      obtain ⟨r21, u21, h21, hf⟩ := bd_some hf
      refine calX0 (runV E0.b E0.n (As := []) (rest := []) ⟨hx, hb, hml, hown, hts⟩ (c_X7_manyTrue l D cI o_t a_t S_t _ h21) gX7_right_X7_manyTrue rfl rfl rfl hdX7_manyTrue ⟨by decide, by decide⟩ hK hP hD 0 rfl rfl rfl hl.1 rfl (Nat.le_of_ble_eq_true rfl) dX7_right_21 ⟨Nat.zero_le _, Nat.zero_le _⟩) hD hS hA (fun H locs hP hD hS => ?_)
      have hP : va_P D vwCl (gX7 o_t a_t cI u21) H := hP
      have hD : va_D A (gX7 o_t a_t cI u21) := hD
      refine W.eq (g2 := F0 m 24 ls [.int r21]) rfl ?_
      refine lv_goto (tgt := 43) hx hb dX7_right_24 (by decide) ?_
      have e := so_some hf
      subst e
      exact ri hx hb hK hr hlk hQ dX7_right_43 hP hD hS
  · replace hf := it_t c6 hf
    refine lv_aload_n hx hb dX7_right_9 rfl (lv_at hl 0 rfl) ?_
    refine lv_bipush (v := (-2 : Int32)) hx hb dX7_right_10 (by decide) ?_
    obtain ⟨r12, u12, h12, hf⟩ := bd_some hf
    refine calX0 (runV E0.b E0.n (As := [.int (-2 : Int32)]) (rest := []) ⟨hx, hb, hml, hown, hts⟩ (c_X7_no l D cI o_t a_t S_t (-2 : Int32) _ h12) gX7_right_X7_no rfl rfl rfl hdX7_no ⟨by decide, by decide⟩ hK hP hD 0 rfl rfl rfl hl.1 rfl (Nat.le_of_ble_eq_true rfl) dX7_right_12 ⟨Nat.zero_le _, Nat.zero_le _⟩) hD hS hA (fun H locs hP hD hS => ?_)
    have hP : va_P D vwCl (gX7 o_t a_t cI u12) H := hP
    have hD : va_D A (gX7 o_t a_t cI u12) := hD
    refine W.eq (g2 := F0 m 15 ls [.int r12]) rfl ?_
    have e := so_some hf
    subst e
    exact ri hx hb hK hr hlk hQ dX7_right_15 hP hD hS
abbrev rmX7_areClashing : Room := { frames := 3, cells := 0, slots := 0, locals := 65 }
set_option maxHeartbeats 4000000 in
set_option maxRecDepth 100000 in
theorem c_X7_areClashing (l : Launch) (D : va_G) (cI : ClassId) (o_t : Nat) (a_t : Nat → Nat) (S_t : G) (x1 : Int32) (x2 : Int32) (out : Int32 × G) (hf : f_X7_areClashing S_t x1 x2 = some out) : Cn E0 l yX7_areClashing wsX7_areClashing rmX7_areClashing D cI [.ref o_t, .int x1, .int x2] (gX7 o_t a_t cI S_t) (some (.int out.1)) (gX7 o_t a_t cI out.2) := by
  refine Cn.mk (cc := cX7_areClashing) (maxL := 4) (ret := (some .boolean)) (by decide) rfl (Nat.le_of_ble_eq_true rfl) ?_
  intro p e s m below meth c A ls Q hx hb hml hown hts hK hA hP hD hS hl hr hlk hnm hE hQ
  have hown : s.vm.findClass RX7 = some m.cls := hown
  have hinX7 : ∀ w ∈ u_ws RX7 TX7 26, w ∈ wsX7_areClashing := by decide +kernel
  have j2 : ∀ (n2 : Nat) (S_t : G) (l1 : Int32) (l2 : Int32) (l3 : Int32) (H : Heap) (locs : List Loc) (ls : Array Slot), f_X7_areClashing_2 n2 S_t l1 l2 l3 = some out → va_P D vwCl (gX7 o_t a_t cI S_t) H → va_D A (gX7 o_t a_t cI S_t) → va_S A s.heap H locs → lv_has ls 4 [(0, .ref o_t), (1, .int l1), (2, .int l2), (3, .int l3)] → W p l e rmX7_areClashing s m ([.ref o_t, .int x1, .int x2] : List Value).toArray below meth c H locs 0 0 Q (F0 m 2 ls []) := by
    intro n2
    induction n2 with
    | zero =>
      intro S_t l1 l2 l3 H locs ls hf
      exact no_some hf
    | succ n2 ih2 =>
      intro S_t l1 l2 l3 H locs ls hf hP hD hS hl
      replace hf : b_X7_areClashing_2 (f_X7_areClashing_2 n2) S_t l1 l2 l3 = some out := hf
      unfold b_X7_areClashing_2 at hf
      refine lv_iload_n hx hb dX7_areClashing_2 rfl (lv_at hl 3 rfl) ?_
      refine lv_aload_n hx hb dX7_areClashing_3 rfl (lv_at hl 0 rfl) ?_
      refine va_get (D := D) (ci := 7) (v := .int (S_t.1 7)) (C := RX7) (T := TX7) (N := 26) hx hb hts hinX7 hown hK hP 0 rfl rfl 7 (by decide) (hts (.fieldLink RX7 62 "OnlyStrangersHearModel" "bells" "I") (by decide +kernel)) (fun _ h9 => h9) rfl dX7_areClashing_4 ?_
      refine lv_icmp_ge (tgt := 51) hx hb dX7_areClashing_7 (by decide) (fun c7 => ?_) (fun c7 => ?_)
      · replace hf := it_t c7 hf
        refine lv_iconst (v := (0 : Int32)) hx hb dX7_areClashing_51 (by decide) ?_
        have e := so_some hf
        subst e
        exact rz hx hb hK hr hlk (Or.inl rfl) hQ dX7_areClashing_52 hP hD hS
      · replace hf := it_f c7 hf
        refine lv_aload_n hx hb dX7_areClashing_10 rfl (lv_at hl 0 rfl) ?_
        refine lv_iload_n hx hb dX7_areClashing_11 rfl (lv_at hl 1 rfl) ?_
        refine lv_iload_n hx hb dX7_areClashing_12 rfl (lv_at hl 3 rfl) ?_
        obtain ⟨r13, u13, h13, hf⟩ := bd_some hf
        refine calX0 (runV E0.b E0.n (As := [.int l1, .int l3]) (rest := []) ⟨hx, hb, hml, hown, hts⟩ (c_X7_hears l D cI o_t a_t S_t l1 l3 _ h13) gX7_areClashing_X7_hears rfl rfl rfl hdX7_hears ⟨by decide, by decide⟩ hK hP hD 0 rfl rfl rfl hl.1 rfl (Nat.le_of_ble_eq_true rfl) dX7_areClashing_13 ⟨Nat.zero_le _, Nat.zero_le _⟩) hD hS hA (fun H locs hP hD hS => ?_)
        have hP : va_P D vwCl (gX7 o_t a_t cI u13) H := hP
        have hD : va_D A (gX7 o_t a_t cI u13) := hD
        refine W.eq (g2 := F0 m 16 ls [.int r13]) rfl ?_
        refine lv_if_eq (tgt := 45) hx hb dX7_areClashing_16 (by decide) (fun c16 => ?_) (fun c16 => ?_)
        · replace hf := it_t c16 hf
          refine lv_iinc (v := l3 + (1 : Int32)) (lv' := [(3, .int (l3 + (1 : Int32))), (0, .ref o_t), (1, .int l1), (2, .int l2)]) hx hb dX7_areClashing_45 hl (k := 3) rfl rfl (by decide) rfl (fun ls hl => ?_)
          refine lv_goto (tgt := 2) hx hb dX7_areClashing_48 (by decide) ?_
          exact ih2 u13 l1 l2 (l3 + (1 : Int32)) H locs ls hf hP hD hS (lv_sub hl [1, 2, 3, 0] rfl)
        · replace hf := it_f c16 hf
          refine lv_aload_n hx hb dX7_areClashing_19 rfl (lv_at hl 0 rfl) ?_
          refine lv_iload_n hx hb dX7_areClashing_20 rfl (lv_at hl 2 rfl) ?_
          refine lv_iload_n hx hb dX7_areClashing_21 rfl (lv_at hl 3 rfl) ?_
          obtain ⟨r22, u22, h22, hf⟩ := bd_some hf
          refine calX0 (runV E0.b E0.n (As := [.int l2, .int l3]) (rest := []) ⟨hx, hb, hml, hown, hts⟩ (c_X7_hears l D cI o_t a_t u13 l2 l3 _ h22) gX7_areClashing_X7_hears rfl rfl rfl hdX7_hears ⟨by decide, by decide⟩ hK hP hD 0 rfl rfl rfl hl.1 rfl (Nat.le_of_ble_eq_true rfl) dX7_areClashing_22 ⟨Nat.zero_le _, Nat.zero_le _⟩) hD hS hA (fun H locs hP hD hS => ?_)
          have hP : va_P D vwCl (gX7 o_t a_t cI u22) H := hP
          have hD : va_D A (gX7 o_t a_t cI u22) := hD
          refine W.eq (g2 := F0 m 25 ls [.int r22]) rfl ?_
          refine lv_if_eq (tgt := 45) hx hb dX7_areClashing_25 (by decide) (fun c25 => ?_) (fun c25 => ?_)
          · replace hf := it_t c25 hf
            refine lv_iinc (v := l3 + (1 : Int32)) (lv' := [(3, .int (l3 + (1 : Int32))), (0, .ref o_t), (1, .int l1), (2, .int l2)]) hx hb dX7_areClashing_45 hl (k := 3) rfl rfl (by decide) rfl (fun ls hl => ?_)
            refine lv_goto (tgt := 2) hx hb dX7_areClashing_48 (by decide) ?_
            exact ih2 u22 l1 l2 (l3 + (1 : Int32)) H locs ls hf hP hD hS (lv_sub hl [1, 2, 3, 0] rfl)
          · replace hf := it_f c25 hf
            refine lv_aload_n hx hb dX7_areClashing_28 rfl (lv_at hl 0 rfl) ?_
            refine lv_iload_n hx hb dX7_areClashing_29 rfl (lv_at hl 1 rfl) ?_
            refine lv_iload_n hx hb dX7_areClashing_30 rfl (lv_at hl 3 rfl) ?_
            obtain ⟨r31, u31, h31, hf⟩ := bd_some hf
            refine calX0 (runV E0.b E0.n (As := [.int l1, .int l3]) (rest := []) ⟨hx, hb, hml, hown, hts⟩ (c_X7_saysOf l D cI o_t a_t u22 l1 l3 _ h31) gX7_areClashing_X7_saysOf rfl rfl rfl hdX7_saysOf ⟨by decide, by decide⟩ hK hP hD 0 rfl rfl rfl hl.1 rfl (Nat.le_of_ble_eq_true rfl) dX7_areClashing_31 ⟨Nat.zero_le _, Nat.zero_le _⟩) hD hS hA (fun H locs hP hD hS => ?_)
            have hP : va_P D vwCl (gX7 o_t a_t cI u31) H := hP
            have hD : va_D A (gX7 o_t a_t cI u31) := hD
            refine W.eq (g2 := F0 m 34 ls [.int r31]) rfl ?_
            refine lv_aload_n hx hb dX7_areClashing_34 rfl (lv_at hl 0 rfl) ?_
            refine lv_iload_n hx hb dX7_areClashing_35 rfl (lv_at hl 2 rfl) ?_
            refine lv_iload_n hx hb dX7_areClashing_36 rfl (lv_at hl 3 rfl) ?_
            obtain ⟨r37, u37, h37, hf⟩ := bd_some hf
            refine calX0 (runV E0.b E0.n (As := [.int l2, .int l3]) (rest := [.int r31]) ⟨hx, hb, hml, hown, hts⟩ (c_X7_saysOf l D cI o_t a_t u31 l2 l3 _ h37) gX7_areClashing_X7_saysOf rfl rfl rfl hdX7_saysOf ⟨by decide, by decide⟩ hK hP hD 0 rfl rfl rfl hl.1 rfl (Nat.le_of_ble_eq_true rfl) dX7_areClashing_37 ⟨Nat.zero_le _, Nat.zero_le _⟩) hD hS hA (fun H locs hP hD hS => ?_)
            have hP : va_P D vwCl (gX7 o_t a_t cI u37) H := hP
            have hD : va_D A (gX7 o_t a_t cI u37) := hD
            refine W.eq (g2 := F0 m 40 ls [.int r37, .int r31]) rfl ?_
            refine lv_icmp_eq (tgt := 45) hx hb dX7_areClashing_40 (by decide) (fun c40 => ?_) (fun c40 => ?_)
            · replace hf := it_t c40 hf
              refine lv_iinc (v := l3 + (1 : Int32)) (lv' := [(3, .int (l3 + (1 : Int32))), (0, .ref o_t), (1, .int l1), (2, .int l2)]) hx hb dX7_areClashing_45 hl (k := 3) rfl rfl (by decide) rfl (fun ls hl => ?_)
              refine lv_goto (tgt := 2) hx hb dX7_areClashing_48 (by decide) ?_
              exact ih2 u37 l1 l2 (l3 + (1 : Int32)) H locs ls hf hP hD hS (lv_sub hl [1, 2, 3, 0] rfl)
            · replace hf := it_f c40 hf
              refine lv_iconst (v := (1 : Int32)) hx hb dX7_areClashing_43 (by decide) ?_
              have e := so_some hf
              subst e
              exact rz hx hb hK hr hlk (Or.inr rfl) hQ dX7_areClashing_44 hP hD hS
  unfold f_X7_areClashing at hf
  have hl : lv_has ls 4 [(0, .ref o_t), (1, .int x1), (2, .int x2)] := hl
  obtain ⟨H, hHe⟩ : ∃ H : Heap, H = s.heap := ⟨_, rfl⟩
  obtain ⟨locs, hle⟩ : ∃ q : List Loc, q = [] := ⟨_, rfl⟩
  have hS : va_S A s.heap H locs := by rw [hHe, hle]; exact hS
  rw [← hHe] at hP
  suffices hgo : W p l e rmX7_areClashing s m ([.ref o_t, .int x1, .int x2] : List Value).toArray below meth c H locs 0 0 Q (F0 m 0 ls []) by rw [hHe, hle] at hgo; exact hgo
  clear hHe hle
  refine lv_iconst (v := (0 : Int32)) hx hb dX7_areClashing_0 (by decide) ?_
  refine lv_istore_n (lv' := [(3, .int (0 : Int32)), (0, .ref o_t), (1, .int x1), (2, .int x2)]) hx hb dX7_areClashing_1 rfl hl (by decide) rfl (fun ls hl => ?_)
  exact j2 1000 S_t x1 x2 (0 : Int32) H locs ls hf hP hD hS (lv_sub hl [1, 2, 3, 0] rfl)
abbrev rmX7_clash : Room := { frames := 4, cells := 0, slots := 0, locals := 88 }
set_option maxHeartbeats 4000000 in
set_option maxRecDepth 100000 in
theorem c_X7_clash (l : Launch) (D : va_G) (cI : ClassId) (o_t : Nat) (a_t : Nat → Nat) (S_t : G) (x1 : Int32) (out : Int32 × G) (hf : f_X7_clash S_t x1 = some out) : Cn E0 l yX7_clash wsX7_clash rmX7_clash D cI [.ref o_t, .int x1] (gX7 o_t a_t cI S_t) (some (.int out.1)) (gX7 o_t a_t cI out.2) := by
  refine Cn.mk (cc := cX7_clash) (maxL := 6) (ret := (some .int)) (by decide) rfl (Nat.le_of_ble_eq_true rfl) ?_
  intro p e s m below meth c A ls Q hx hb hml hown hts hK hA hP hD hS hl hr hlk hnm hE hQ
  have hown : s.vm.findClass RX7 = some m.cls := hown
  have hinX7 : ∀ w ∈ u_ws RX7 TX7 26, w ∈ wsX7_clash := by decide +kernel
  have j29 : ∀ (n29 : Nat) (S_t : G) (l1 : Int32) (l2 : Int32) (l3 : Int32) (l4 : Int32) (H : Heap) (locs : List Loc) (ls : Array Slot), f_X7_clash_29 n29 S_t l1 l2 l3 l4 = some out → va_P D vwCl (gX7 o_t a_t cI S_t) H → va_D A (gX7 o_t a_t cI S_t) → va_S A s.heap H locs → lv_has ls 6 [(0, .ref o_t), (1, .int l1), (2, .int l2), (3, .int l3), (4, .int l4)] → W p l e rmX7_clash s m ([.ref o_t, .int x1] : List Value).toArray below meth c H locs 0 0 Q (F0 m 29 ls []) := by
    intro n29
    induction n29 with
    | zero =>
      intro S_t l1 l2 l3 l4 H locs ls hf
      exact no_some hf
    | succ n29 ih29 =>
      have j42 : ∀ (n42 : Nat) (S_t : G) (l1 : Int32) (l2 : Int32) (l3 : Int32) (l4 : Int32) (l5 : Int32) (H : Heap) (locs : List Loc) (ls : Array Slot), f_X7_clash_42 (f_X7_clash_29 n29) n42 S_t l1 l2 l3 l4 l5 = some out → va_P D vwCl (gX7 o_t a_t cI S_t) H → va_D A (gX7 o_t a_t cI S_t) → va_S A s.heap H locs → lv_has ls 6 [(0, .ref o_t), (1, .int l1), (2, .int l2), (3, .int l3), (4, .int l4), (5, .int l5)] → W p l e rmX7_clash s m ([.ref o_t, .int x1] : List Value).toArray below meth c H locs 0 0 Q (F0 m 42 ls []) := by
        intro n42
        induction n42 with
        | zero =>
          intro S_t l1 l2 l3 l4 l5 H locs ls hf
          exact no_some hf
        | succ n42 ih42 =>
          intro S_t l1 l2 l3 l4 l5 H locs ls hf hP hD hS hl
          replace hf : b_X7_clash_42 (f_X7_clash_29 n29) (f_X7_clash_42 (f_X7_clash_29 n29) n42) S_t l1 l2 l3 l4 l5 = some out := hf
          unfold b_X7_clash_42 at hf
          refine lv_iload hx hb dX7_clash_42 (lv_at hl 5 rfl) ?_
          refine lv_iload hx hb dX7_clash_44 (lv_at hl 4 rfl) ?_
          refine lv_icmp_le (tgt := 81) hx hb dX7_clash_46 (by decide) (fun c46 => ?_) (fun c46 => ?_)
          · replace hf := it_t c46 hf
            refine lv_iinc (v := l4 + (-1 : Int32)) (lv' := [(4, .int (l4 + (-1 : Int32))), (0, .ref o_t), (1, .int l1), (2, .int l2), (3, .int l3), (5, .int l5)]) hx hb dX7_clash_81 hl (k := 4) rfl rfl (by decide) rfl (fun ls hl => ?_)
            refine lv_goto (tgt := 29) hx hb dX7_clash_84 (by decide) ?_
            exact ih29 S_t l1 l2 l3 (l4 + (-1 : Int32)) H locs ls hf hP hD hS (lv_sub hl [1, 2, 3, 4, 0] rfl)
          · replace hf := it_f c46 hf
            refine lv_aload_n hx hb dX7_clash_49 rfl (lv_at hl 0 rfl) ?_
            refine lv_iload hx hb dX7_clash_50 (lv_at hl 4 rfl) ?_
            refine lv_iload hx hb dX7_clash_52 (lv_at hl 5 rfl) ?_
            obtain ⟨r54, u54, h54, hf⟩ := bd_some hf
            refine calX0 (runV E0.b E0.n (As := [.int l4, .int l5]) (rest := []) ⟨hx, hb, hml, hown, hts⟩ (c_X7_areClashing l D cI o_t a_t S_t l4 l5 _ h54) gX7_clash_X7_areClashing rfl rfl rfl hdX7_areClashing ⟨by decide, by decide⟩ hK hP hD 0 rfl rfl rfl hl.1 rfl (Nat.le_of_ble_eq_true rfl) dX7_clash_54 ⟨Nat.zero_le _, Nat.zero_le _⟩) hD hS hA (fun H locs hP hD hS => ?_)
            have hP : va_P D vwCl (gX7 o_t a_t cI u54) H := hP
            have hD : va_D A (gX7 o_t a_t cI u54) := hD
            refine W.eq (g2 := F0 m 57 ls [.int r54]) rfl ?_
            refine lv_if_ne (tgt := 63) hx hb dX7_clash_57 (by decide) (fun c57 => ?_) (fun c57 => ?_)
            · replace hf := it_f c57 hf
              refine lv_iinc (v := l2 + (1 : Int32)) (lv' := [(2, .int (l2 + (1 : Int32))), (0, .ref o_t), (1, .int l1), (3, .int l3), (4, .int l4), (5, .int l5)]) hx hb dX7_clash_63 hl (k := 2) rfl rfl (by decide) rfl (fun ls hl => ?_)
              refine lv_bipush (v := (10 : Int32)) hx hb dX7_clash_66 (by decide) ?_
              refine lv_iload hx hb dX7_clash_68 (lv_at hl 4 rfl) ?_
              refine lv_imul hx hb dX7_clash_70 ?_
              refine lv_iload hx hb dX7_clash_71 (lv_at hl 5 rfl) ?_
              refine lv_iadd hx hb dX7_clash_73 ?_
              refine lv_istore_n (lv' := [(3, .int (((10 : Int32) * l4) + l5)), (2, .int (l2 + (1 : Int32))), (0, .ref o_t), (1, .int l1), (4, .int l4), (5, .int l5)]) hx hb dX7_clash_74 rfl hl (by decide) rfl (fun ls hl => ?_)
              refine lv_iinc (v := l5 + (-1 : Int32)) (lv' := [(5, .int (l5 + (-1 : Int32))), (3, .int (((10 : Int32) * l4) + l5)), (2, .int (l2 + (1 : Int32))), (0, .ref o_t), (1, .int l1), (4, .int l4)]) hx hb dX7_clash_75 hl (k := 5) rfl rfl (by decide) rfl (fun ls hl => ?_)
              refine lv_goto (tgt := 42) hx hb dX7_clash_78 (by decide) ?_
              exact ih42 u54 l1 (l2 + (1 : Int32)) (((10 : Int32) * l4) + l5) l4 (l5 + (-1 : Int32)) H locs ls hf hP hD hS (lv_sub hl [3, 4, 2, 1, 5, 0] rfl)
            · replace hf := it_t c57 hf
              refine lv_goto (tgt := 75) hx hb dX7_clash_60 (by decide) ?_
              refine lv_iinc (v := l5 + (-1 : Int32)) (lv' := [(5, .int (l5 + (-1 : Int32))), (0, .ref o_t), (1, .int l1), (2, .int l2), (3, .int l3), (4, .int l4)]) hx hb dX7_clash_75 hl (k := 5) rfl rfl (by decide) rfl (fun ls hl => ?_)
              refine lv_goto (tgt := 42) hx hb dX7_clash_78 (by decide) ?_
              exact ih42 u54 l1 l2 l3 l4 (l5 + (-1 : Int32)) H locs ls hf hP hD hS (lv_sub hl [1, 2, 3, 4, 5, 0] rfl)
      intro S_t l1 l2 l3 l4 H locs ls hf hP hD hS hl
      replace hf : b_X7_clash_29 (f_X7_clash_29 n29) S_t l1 l2 l3 l4 = some out := hf
      unfold b_X7_clash_29 at hf
      refine lv_iload hx hb dX7_clash_29 (lv_at hl 4 rfl) ?_
      refine lv_if_lt (tgt := 87) hx hb dX7_clash_31 (by decide) (fun c31 => ?_) (fun c31 => ?_)
      · replace hf := it_t c31 hf
        refine lv_iload_n hx hb dX7_clash_87 rfl (lv_at hl 1 rfl) ?_
        refine lv_if_ne (tgt := 95) hx hb dX7_clash_88 (by decide) (fun c88 => ?_) (fun c88 => ?_)
        · replace hf := it_f c88 hf
          refine lv_iload_n hx hb dX7_clash_95 rfl (lv_at hl 3 rfl) ?_
          have e := so_some hf
          subst e
          exact ri hx hb hK hr hlk hQ dX7_clash_96 hP hD hS
        · replace hf := it_t c88 hf
          refine lv_iload_n hx hb dX7_clash_91 rfl (lv_at hl 2 rfl) ?_
          refine lv_goto (tgt := 96) hx hb dX7_clash_92 (by decide) ?_
          have e := so_some hf
          subst e
          exact ri hx hb hK hr hlk hQ dX7_clash_96 hP hD hS
      · replace hf := it_f c31 hf
        refine lv_aload_n hx hb dX7_clash_34 rfl (lv_at hl 0 rfl) ?_
        refine va_get (D := D) (ci := 7) (v := .int (S_t.1 8)) (C := RX7) (T := TX7) (N := 26) hx hb hts hinX7 hown hK hP 0 rfl rfl 8 (by decide) (hts (.fieldLink RX7 65 "OnlyStrangersHearModel" "people" "I") (by decide +kernel)) (fun _ h9 => h9) rfl dX7_clash_35 ?_
        refine lv_iconst (v := (1 : Int32)) hx hb dX7_clash_38 (by decide) ?_
        refine lv_isub hx hb dX7_clash_39 ?_
        refine lv_istore (lv' := [(5, .int ((S_t.1 8) - (1 : Int32))), (0, .ref o_t), (1, .int l1), (2, .int l2), (3, .int l3), (4, .int l4)]) hx hb dX7_clash_40 hl (by decide) rfl (fun ls hl => ?_)
        exact j42 1000 S_t l1 l2 l3 l4 ((S_t.1 8) - (1 : Int32)) H locs ls hf hP hD hS (lv_sub hl [1, 2, 3, 4, 5, 0] rfl)
  unfold f_X7_clash at hf
  have hl : lv_has ls 6 [(0, .ref o_t), (1, .int x1)] := hl
  obtain ⟨H, hHe⟩ : ∃ H : Heap, H = s.heap := ⟨_, rfl⟩
  obtain ⟨locs, hle⟩ : ∃ q : List Loc, q = [] := ⟨_, rfl⟩
  have hS : va_S A s.heap H locs := by rw [hHe, hle]; exact hS
  rw [← hHe] at hP
  suffices hgo : W p l e rmX7_clash s m ([.ref o_t, .int x1] : List Value).toArray below meth c H locs 0 0 Q (F0 m 0 ls []) by rw [hHe, hle] at hgo; exact hgo
  clear hHe hle
  refine lv_iload_n hx hb dX7_clash_0 rfl (lv_at hl 1 rfl) ?_
  refine lv_iconst (v := (0 : Int32)) hx hb dX7_clash_1 (by decide) ?_
  refine lv_iconst (v := (1 : Int32)) hx hb dX7_clash_2 (by decide) ?_
  obtain ⟨r3, u3, h3, hf⟩ := bd_some hf
  have hPc : va_P D vwCl [] H := hP.sub (ws' := []) [] rfl
  have hDc : va_D A [] := hD.sub (ws' := []) [] (by decide) rfl
  refine calXe (runS E0.b E0.n (As := [.int x1, .int (0 : Int32), .int (1 : Int32)]) (rest := []) ⟨hx, hb, hml, hown, hts⟩ (c_X7_isIn l D cI x1 (0 : Int32) (1 : Int32) _ h3) gX7_clash_X7_isIn rfl rfl rfl hdX7_isIn ⟨by decide, by decide⟩ hK hPc hDc rfl hl.1 rfl (Nat.le_of_ble_eq_true rfl) dX7_clash_3 ⟨Nat.zero_le _, Nat.zero_le _⟩) hP hD hS hA (fun H locs hP hD hS => ?_)
  have hP : va_P D vwCl (gX7 o_t a_t cI S_t) H := hP
  have hD : va_D A (gX7 o_t a_t cI S_t) := hD
  refine W.eq (g2 := F0 m 6 ls [.int r3]) rfl ?_
  refine lv_if_ne (tgt := 16) hx hb dX7_clash_6 (by decide) (fun c6 => ?_) (fun c6 => ?_)
  · replace hf := it_f c6 hf
    refine lv_iconst (v := (0 : Int32)) hx hb dX7_clash_16 (by decide) ?_
    refine lv_istore_n (lv' := [(2, .int (0 : Int32)), (0, .ref o_t), (1, .int x1)]) hx hb dX7_clash_17 rfl hl (by decide) rfl (fun ls hl => ?_)
    refine lv_bipush (v := (-9 : Int32)) hx hb dX7_clash_18 (by decide) ?_
    refine lv_istore_n (lv' := [(3, .int (-9 : Int32)), (2, .int (0 : Int32)), (0, .ref o_t), (1, .int x1)]) hx hb dX7_clash_20 rfl hl (by decide) rfl (fun ls hl => ?_)
    refine lv_aload_n hx hb dX7_clash_21 rfl (lv_at hl 2 rfl) ?_
    refine va_get (D := D) (ci := 7) (v := .int (S_t.1 8)) (C := RX7) (T := TX7) (N := 26) hx hb hts hinX7 hown hK hP 0 rfl rfl 8 (by decide) (hts (.fieldLink RX7 65 "OnlyStrangersHearModel" "people" "I") (by decide +kernel)) (fun _ h9 => h9) rfl dX7_clash_22 ?_
    refine lv_iconst (v := (1 : Int32)) hx hb dX7_clash_25 (by decide) ?_
    refine lv_isub hx hb dX7_clash_26 ?_
    refine lv_istore (lv' := [(4, .int ((S_t.1 8) - (1 : Int32))), (3, .int (-9 : Int32)), (2, .int (0 : Int32)), (0, .ref o_t), (1, .int x1)]) hx hb dX7_clash_27 hl (by decide) rfl (fun ls hl => ?_)
    exact j29 1000 S_t x1 (0 : Int32) (-9 : Int32) ((S_t.1 8) - (1 : Int32)) H locs ls hf hP hD hS (lv_sub hl [3, 4, 2, 1, 0] rfl)
  · replace hf := it_t c6 hf
    refine lv_aload_n hx hb dX7_clash_9 rfl (lv_at hl 0 rfl) ?_
    refine lv_bipush (v := (-2 : Int32)) hx hb dX7_clash_10 (by decide) ?_
    obtain ⟨r12, u12, h12, hf⟩ := bd_some hf
    refine calX0 (runV E0.b E0.n (As := [.int (-2 : Int32)]) (rest := []) ⟨hx, hb, hml, hown, hts⟩ (c_X7_no l D cI o_t a_t S_t (-2 : Int32) _ h12) gX7_clash_X7_no rfl rfl rfl hdX7_no ⟨by decide, by decide⟩ hK hP hD 0 rfl rfl rfl hl.1 rfl (Nat.le_of_ble_eq_true rfl) dX7_clash_12 ⟨Nat.zero_le _, Nat.zero_le _⟩) hD hS hA (fun H locs hP hD hS => ?_)
    have hP : va_P D vwCl (gX7 o_t a_t cI u12) H := hP
    have hD : va_D A (gX7 o_t a_t cI u12) := hD
    refine W.eq (g2 := F0 m 15 ls [.int r12]) rfl ?_
    have e := so_some hf
    subst e
    exact ri hx hb hK hr hlk hQ dX7_clash_15 hP hD hS
abbrev rmX7_areAgreed : Room := { frames := 4, cells := 0, slots := 0, locals := 88 }
set_option maxHeartbeats 4000000 in
set_option maxRecDepth 100000 in
theorem c_X7_areAgreed (l : Launch) (D : va_G) (cI : ClassId) (o_t : Nat) (a_t : Nat → Nat) (S_t : G) (x1 : Int32) (out : Int32 × G) (hf : f_X7_areAgreed S_t x1 = some out) : Cn E0 l yX7_areAgreed wsX7_areAgreed rmX7_areAgreed D cI [.ref o_t, .int x1] (gX7 o_t a_t cI S_t) (some (.int out.1)) (gX7 o_t a_t cI out.2) := by
  refine Cn.mk (cc := cX7_areAgreed) (maxL := 4) (ret := (some .boolean)) (by decide) rfl (Nat.le_of_ble_eq_true rfl) ?_
  intro p e s m below meth c A ls Q hx hb hml hown hts hK hA hP hD hS hl hr hlk hnm hE hQ
  have hown : s.vm.findClass RX7 = some m.cls := hown
  have hinX7 : ∀ w ∈ u_ws RX7 TX7 26, w ∈ wsX7_areAgreed := by decide +kernel
  have j2 : ∀ (n2 : Nat) (S_t : G) (l1 : Int32) (l2 : Int32) (H : Heap) (locs : List Loc) (ls : Array Slot), f_X7_areAgreed_2 n2 S_t l1 l2 = some out → va_P D vwCl (gX7 o_t a_t cI S_t) H → va_D A (gX7 o_t a_t cI S_t) → va_S A s.heap H locs → lv_has ls 4 [(0, .ref o_t), (1, .int l1), (2, .int l2)] → W p l e rmX7_areAgreed s m ([.ref o_t, .int x1] : List Value).toArray below meth c H locs 0 0 Q (F0 m 2 ls []) := by
    intro n2
    induction n2 with
    | zero =>
      intro S_t l1 l2 H locs ls hf
      exact no_some hf
    | succ n2 ih2 =>
      have j35 : ∀ (n35 : Nat) (S_t : G) (l1 : Int32) (l2 : Int32) (l3 : Int32) (H : Heap) (locs : List Loc) (ls : Array Slot), f_X7_areAgreed_35 (f_X7_areAgreed_2 n2) n35 S_t l1 l2 l3 = some out → va_P D vwCl (gX7 o_t a_t cI S_t) H → va_D A (gX7 o_t a_t cI S_t) → va_S A s.heap H locs → lv_has ls 4 [(0, .ref o_t), (1, .int l1), (2, .int l2), (3, .int l3)] → W p l e rmX7_areAgreed s m ([.ref o_t, .int x1] : List Value).toArray below meth c H locs 0 0 Q (F0 m 35 ls []) := by
        intro n35
        induction n35 with
        | zero =>
          intro S_t l1 l2 l3 H locs ls hf
          exact no_some hf
        | succ n35 ih35 =>
          intro S_t l1 l2 l3 H locs ls hf hP hD hS hl
          replace hf : b_X7_areAgreed_35 (f_X7_areAgreed_2 n2) (f_X7_areAgreed_35 (f_X7_areAgreed_2 n2) n35) S_t l1 l2 l3 = some out := hf
          unfold b_X7_areAgreed_35 at hf
          refine lv_iload_n hx hb dX7_areAgreed_35 rfl (lv_at hl 3 rfl) ?_
          refine lv_aload_n hx hb dX7_areAgreed_36 rfl (lv_at hl 0 rfl) ?_
          refine va_get (D := D) (ci := 7) (v := .int (S_t.1 8)) (C := RX7) (T := TX7) (N := 26) hx hb hts hinX7 hown hK hP 0 rfl rfl 8 (by decide) (hts (.fieldLink RX7 65 "OnlyStrangersHearModel" "people" "I") (by decide +kernel)) (fun _ h9 => h9) rfl dX7_areAgreed_37 ?_
          refine lv_icmp_ge (tgt := 68) hx hb dX7_areAgreed_40 (by decide) (fun c40 => ?_) (fun c40 => ?_)
          · replace hf := it_t c40 hf
            refine lv_iinc (v := l2 + (1 : Int32)) (lv' := [(2, .int (l2 + (1 : Int32))), (0, .ref o_t), (1, .int l1), (3, .int l3)]) hx hb dX7_areAgreed_68 hl (k := 2) rfl rfl (by decide) rfl (fun ls hl => ?_)
            refine lv_goto (tgt := 2) hx hb dX7_areAgreed_71 (by decide) ?_
            exact ih2 S_t l1 (l2 + (1 : Int32)) H locs ls hf hP hD hS (lv_sub hl [1, 2, 0] rfl)
          · replace hf := it_f c40 hf
            refine lv_iload_n hx hb dX7_areAgreed_43 rfl (lv_at hl 1 rfl) ?_
            refine lv_iload_n hx hb dX7_areAgreed_44 rfl (lv_at hl 3 rfl) ?_
            obtain ⟨r45, u45, h45, hf⟩ := bd_some hf
            have hPc : va_P D vwCl [] H := hP.sub (ws' := []) [] rfl
            have hDc : va_D A [] := hD.sub (ws' := []) [] (by decide) rfl
            refine calXe (runS E0.b E0.n (As := [.int l1, .int l3]) (rest := []) ⟨hx, hb, hml, hown, hts⟩ (c_X7_has l D cI l1 l3 _ h45) gX7_areAgreed_X7_has rfl rfl rfl hdX7_has ⟨by decide, by decide⟩ hK hPc hDc rfl hl.1 rfl (Nat.le_of_ble_eq_true rfl) dX7_areAgreed_45 ⟨Nat.zero_le _, Nat.zero_le _⟩) hP hD hS hA (fun H locs hP hD hS => ?_)
            have hP : va_P D vwCl (gX7 o_t a_t cI S_t) H := hP
            have hD : va_D A (gX7 o_t a_t cI S_t) := hD
            refine W.eq (g2 := F0 m 48 ls [.int r45]) rfl ?_
            refine lv_if_eq (tgt := 62) hx hb dX7_areAgreed_48 (by decide) (fun c48 => ?_) (fun c48 => ?_)
            · replace hf := it_t c48 hf
              refine lv_iinc (v := l3 + (1 : Int32)) (lv' := [(3, .int (l3 + (1 : Int32))), (0, .ref o_t), (1, .int l1), (2, .int l2)]) hx hb dX7_areAgreed_62 hl (k := 3) rfl rfl (by decide) rfl (fun ls hl => ?_)
              refine lv_goto (tgt := 35) hx hb dX7_areAgreed_65 (by decide) ?_
              exact ih35 S_t l1 l2 (l3 + (1 : Int32)) H locs ls hf hP hD hS (lv_sub hl [1, 2, 3, 0] rfl)
            · replace hf := it_f c48 hf
              refine lv_aload_n hx hb dX7_areAgreed_51 rfl (lv_at hl 0 rfl) ?_
              refine lv_iload_n hx hb dX7_areAgreed_52 rfl (lv_at hl 2 rfl) ?_
              refine lv_iload_n hx hb dX7_areAgreed_53 rfl (lv_at hl 3 rfl) ?_
              obtain ⟨r54, u54, h54, hf⟩ := bd_some hf
              refine calX0 (runV E0.b E0.n (As := [.int l2, .int l3]) (rest := []) ⟨hx, hb, hml, hown, hts⟩ (c_X7_areClashing l D cI o_t a_t S_t l2 l3 _ h54) gX7_areAgreed_X7_areClashing rfl rfl rfl hdX7_areClashing ⟨by decide, by decide⟩ hK hP hD 0 rfl rfl rfl hl.1 rfl (Nat.le_of_ble_eq_true rfl) dX7_areAgreed_54 ⟨Nat.zero_le _, Nat.zero_le _⟩) hD hS hA (fun H locs hP hD hS => ?_)
              have hP : va_P D vwCl (gX7 o_t a_t cI u54) H := hP
              have hD : va_D A (gX7 o_t a_t cI u54) := hD
              refine W.eq (g2 := F0 m 57 ls [.int r54]) rfl ?_
              refine lv_if_eq (tgt := 62) hx hb dX7_areAgreed_57 (by decide) (fun c57 => ?_) (fun c57 => ?_)
              · replace hf := it_t c57 hf
                refine lv_iinc (v := l3 + (1 : Int32)) (lv' := [(3, .int (l3 + (1 : Int32))), (0, .ref o_t), (1, .int l1), (2, .int l2)]) hx hb dX7_areAgreed_62 hl (k := 3) rfl rfl (by decide) rfl (fun ls hl => ?_)
                refine lv_goto (tgt := 35) hx hb dX7_areAgreed_65 (by decide) ?_
                exact ih35 u54 l1 l2 (l3 + (1 : Int32)) H locs ls hf hP hD hS (lv_sub hl [1, 2, 3, 0] rfl)
              · replace hf := it_f c57 hf
                refine lv_iconst (v := (0 : Int32)) hx hb dX7_areAgreed_60 (by decide) ?_
                have e := so_some hf
                subst e
                exact rz hx hb hK hr hlk (Or.inl rfl) hQ dX7_areAgreed_61 hP hD hS
      intro S_t l1 l2 H locs ls hf hP hD hS hl
      replace hf : b_X7_areAgreed_2 (f_X7_areAgreed_2 n2) S_t l1 l2 = some out := hf
      unfold b_X7_areAgreed_2 at hf
      refine lv_iload_n hx hb dX7_areAgreed_2 rfl (lv_at hl 2 rfl) ?_
      refine lv_aload_n hx hb dX7_areAgreed_3 rfl (lv_at hl 0 rfl) ?_
      refine va_get (D := D) (ci := 7) (v := .int (S_t.1 8)) (C := RX7) (T := TX7) (N := 26) hx hb hts hinX7 hown hK hP 0 rfl rfl 8 (by decide) (hts (.fieldLink RX7 65 "OnlyStrangersHearModel" "people" "I") (by decide +kernel)) (fun _ h9 => h9) rfl dX7_areAgreed_4 ?_
      refine lv_icmp_ge (tgt := 74) hx hb dX7_areAgreed_7 (by decide) (fun c7 => ?_) (fun c7 => ?_)
      · replace hf := it_t c7 hf
        refine lv_iconst (v := (1 : Int32)) hx hb dX7_areAgreed_74 (by decide) ?_
        have e := so_some hf
        subst e
        exact rz hx hb hK hr hlk (Or.inr rfl) hQ dX7_areAgreed_75 hP hD hS
      · replace hf := it_f c7 hf
        refine lv_iload_n hx hb dX7_areAgreed_10 rfl (lv_at hl 1 rfl) ?_
        refine lv_iload_n hx hb dX7_areAgreed_11 rfl (lv_at hl 2 rfl) ?_
        obtain ⟨r12, u12, h12, hf⟩ := bd_some hf
        have hPc : va_P D vwCl [] H := hP.sub (ws' := []) [] rfl
        have hDc : va_D A [] := hD.sub (ws' := []) [] (by decide) rfl
        refine calXe (runS E0.b E0.n (As := [.int l1, .int l2]) (rest := []) ⟨hx, hb, hml, hown, hts⟩ (c_X7_has l D cI l1 l2 _ h12) gX7_areAgreed_X7_has rfl rfl rfl hdX7_has ⟨by decide, by decide⟩ hK hPc hDc rfl hl.1 rfl (Nat.le_of_ble_eq_true rfl) dX7_areAgreed_12 ⟨Nat.zero_le _, Nat.zero_le _⟩) hP hD hS hA (fun H locs hP hD hS => ?_)
        have hP : va_P D vwCl (gX7 o_t a_t cI S_t) H := hP
        have hD : va_D A (gX7 o_t a_t cI S_t) := hD
        refine W.eq (g2 := F0 m 15 ls [.int r12]) rfl ?_
        refine lv_if_ne (tgt := 21) hx hb dX7_areAgreed_15 (by decide) (fun c15 => ?_) (fun c15 => ?_)
        · replace hf := it_f c15 hf
          refine lv_aload_n hx hb dX7_areAgreed_21 rfl (lv_at hl 0 rfl) ?_
          refine lv_iload_n hx hb dX7_areAgreed_22 rfl (lv_at hl 2 rfl) ?_
          obtain ⟨r23, u23, h23, hf⟩ := bd_some hf
          refine calX0 (runV E0.b E0.n (As := [.int l2]) (rest := []) ⟨hx, hb, hml, hown, hts⟩ (c_X7_hearsSome l D cI o_t a_t S_t l2 _ h23) gX7_areAgreed_X7_hearsSome rfl rfl rfl hdX7_hearsSome ⟨by decide, by decide⟩ hK hP hD 0 rfl rfl rfl hl.1 rfl (Nat.le_of_ble_eq_true rfl) dX7_areAgreed_23 ⟨Nat.zero_le _, Nat.zero_le _⟩) hD hS hA (fun H locs hP hD hS => ?_)
          have hP : va_P D vwCl (gX7 o_t a_t cI u23) H := hP
          have hD : va_D A (gX7 o_t a_t cI u23) := hD
          refine W.eq (g2 := F0 m 26 ls [.int r23]) rfl ?_
          refine lv_if_ne (tgt := 31) hx hb dX7_areAgreed_26 (by decide) (fun c26 => ?_) (fun c26 => ?_)
          · replace hf := it_f c26 hf
            refine lv_iload_n hx hb dX7_areAgreed_31 rfl (lv_at hl 2 rfl) ?_
            refine lv_iconst (v := (1 : Int32)) hx hb dX7_areAgreed_32 (by decide) ?_
            refine lv_iadd hx hb dX7_areAgreed_33 ?_
            refine lv_istore_n (lv' := [(3, .int (l2 + (1 : Int32))), (0, .ref o_t), (1, .int l1), (2, .int l2)]) hx hb dX7_areAgreed_34 rfl hl (by decide) rfl (fun ls hl => ?_)
            exact j35 1000 u23 l1 l2 (l2 + (1 : Int32)) H locs ls hf hP hD hS (lv_sub hl [1, 2, 3, 0] rfl)
          · replace hf := it_t c26 hf
            refine lv_iconst (v := (0 : Int32)) hx hb dX7_areAgreed_29 (by decide) ?_
            have e := so_some hf
            subst e
            exact rz hx hb hK hr hlk (Or.inl rfl) hQ dX7_areAgreed_30 hP hD hS
        · replace hf := it_t c15 hf
          refine lv_goto (tgt := 68) hx hb dX7_areAgreed_18 (by decide) ?_
          refine lv_iinc (v := l2 + (1 : Int32)) (lv' := [(2, .int (l2 + (1 : Int32))), (0, .ref o_t), (1, .int l1)]) hx hb dX7_areAgreed_68 hl (k := 2) rfl rfl (by decide) rfl (fun ls hl => ?_)
          refine lv_goto (tgt := 2) hx hb dX7_areAgreed_71 (by decide) ?_
          exact ih2 S_t l1 (l2 + (1 : Int32)) H locs ls hf hP hD hS (lv_sub hl [1, 2, 0] rfl)
  unfold f_X7_areAgreed at hf
  have hl : lv_has ls 4 [(0, .ref o_t), (1, .int x1)] := hl
  obtain ⟨H, hHe⟩ : ∃ H : Heap, H = s.heap := ⟨_, rfl⟩
  obtain ⟨locs, hle⟩ : ∃ q : List Loc, q = [] := ⟨_, rfl⟩
  have hS : va_S A s.heap H locs := by rw [hHe, hle]; exact hS
  rw [← hHe] at hP
  suffices hgo : W p l e rmX7_areAgreed s m ([.ref o_t, .int x1] : List Value).toArray below meth c H locs 0 0 Q (F0 m 0 ls []) by rw [hHe, hle] at hgo; exact hgo
  clear hHe hle
  refine lv_iconst (v := (0 : Int32)) hx hb dX7_areAgreed_0 (by decide) ?_
  refine lv_istore_n (lv' := [(2, .int (0 : Int32)), (0, .ref o_t), (1, .int x1)]) hx hb dX7_areAgreed_1 rfl hl (by decide) rfl (fun ls hl => ?_)
  exact j2 1000 S_t x1 (0 : Int32) H locs ls hf hP hD hS (lv_sub hl [1, 2, 0] rfl)
abbrev rmX7_agreed : Room := { frames := 5, cells := 0, slots := 0, locals := 111 }
set_option maxHeartbeats 4000000 in
set_option maxRecDepth 100000 in
theorem c_X7_agreed (l : Launch) (D : va_G) (cI : ClassId) (o_t : Nat) (a_t : Nat → Nat) (S_t : G) (x1 : Int32) (out : Int32 × G) (hf : f_X7_agreed S_t x1 = some out) : Cn E0 l yX7_agreed wsX7_agreed rmX7_agreed D cI [.ref o_t, .int x1] (gX7 o_t a_t cI S_t) (some (.int out.1)) (gX7 o_t a_t cI out.2) := by
  refine Cn.mk (cc := cX7_agreed) (maxL := 4) (ret := (some .int)) (by decide) rfl (Nat.le_of_ble_eq_true rfl) ?_
  intro p e s m below meth c A ls Q hx hb hml hown hts hK hA hP hD hS hl hr hlk hnm hE hQ
  have hown : s.vm.findClass RX7 = some m.cls := hown
  have hinX7 : ∀ w ∈ u_ws RX7 TX7 26, w ∈ wsX7_agreed := by decide +kernel
  have j20 : ∀ (n20 : Nat) (S_t : G) (l1 : Int32) (l2 : Int32) (l3 : Int32) (H : Heap) (locs : List Loc) (ls : Array Slot), f_X7_agreed_20 n20 S_t l1 l2 l3 = some out → va_P D vwCl (gX7 o_t a_t cI S_t) H → va_D A (gX7 o_t a_t cI S_t) → va_S A s.heap H locs → lv_has ls 4 [(0, .ref o_t), (1, .int l1), (2, .int l2), (3, .int l3)] → W p l e rmX7_agreed s m ([.ref o_t, .int x1] : List Value).toArray below meth c H locs 0 0 Q (F0 m 20 ls []) := by
    intro n20
    induction n20 with
    | zero =>
      intro S_t l1 l2 l3 H locs ls hf
      exact no_some hf
    | succ n20 ih20 =>
      intro S_t l1 l2 l3 H locs ls hf hP hD hS hl
      replace hf : b_X7_agreed_20 (f_X7_agreed_20 n20) S_t l1 l2 l3 = some out := hf
      unfold b_X7_agreed_20 at hf
      refine lv_iload_n hx hb dX7_agreed_20 rfl (lv_at hl 3 rfl) ?_
      refine lv_iconst (v := (1 : Int32)) hx hb dX7_agreed_21 (by decide) ?_
      refine lv_aload_n hx hb dX7_agreed_22 rfl (lv_at hl 0 rfl) ?_
      refine va_get (D := D) (ci := 7) (v := .int (S_t.1 8)) (C := RX7) (T := TX7) (N := 26) hx hb hts hinX7 hown hK hP 0 rfl rfl 8 (by decide) (hts (.fieldLink RX7 65 "OnlyStrangersHearModel" "people" "I") (by decide +kernel)) (fun _ h9 => h9) rfl dX7_agreed_23 ?_
      refine lv_ishl hx hb dX7_agreed_26 ?_
      refine lv_icmp_ge (tgt := 57) hx hb dX7_agreed_27 (by decide) (fun c27 => ?_) (fun c27 => ?_)
      · replace hf := it_t c27 hf
        refine lv_iload_n hx hb dX7_agreed_57 rfl (lv_at hl 1 rfl) ?_
        refine lv_if_ne (tgt := 68) hx hb dX7_agreed_58 (by decide) (fun c58 => ?_) (fun c58 => ?_)
        · replace hf := it_f c58 hf
          refine lv_iload_n hx hb dX7_agreed_68 rfl (lv_at hl 2 rfl) ?_
          have e := so_some hf
          subst e
          exact ri hx hb hK hr hlk hQ dX7_agreed_69 hP hD hS
        · replace hf := it_t c58 hf
          refine lv_iload_n hx hb dX7_agreed_61 rfl (lv_at hl 2 rfl) ?_
          obtain ⟨r62, u62, h62, hf⟩ := bd_some hf
          have hPc : va_P D vwCl [] H := hP.sub (ws' := []) [] rfl
          have hDc : va_D A [] := hD.sub (ws' := []) [] (by decide) rfl
          refine calXe (runS E0.b E0.n (As := [.int l2]) (rest := []) ⟨hx, hb, hml, hown, hts⟩ (c_X7_bits l D cI l2 _ h62) gX7_agreed_X7_bits rfl rfl rfl hdX7_bits ⟨by decide, by decide⟩ hK hPc hDc rfl hl.1 rfl (Nat.le_of_ble_eq_true rfl) dX7_agreed_62 ⟨Nat.zero_le _, Nat.zero_le _⟩) hP hD hS hA (fun H locs hP hD hS => ?_)
          have hP : va_P D vwCl (gX7 o_t a_t cI S_t) H := hP
          have hD : va_D A (gX7 o_t a_t cI S_t) := hD
          refine W.eq (g2 := F0 m 65 ls [.int r62]) rfl ?_
          refine lv_goto (tgt := 69) hx hb dX7_agreed_65 (by decide) ?_
          have e := so_some hf
          subst e
          exact ri hx hb hK hr hlk hQ dX7_agreed_69 hP hD hS
      · replace hf := it_f c27 hf
        refine lv_iload_n hx hb dX7_agreed_30 rfl (lv_at hl 3 rfl) ?_
        obtain ⟨r31, u31, h31, hf⟩ := bd_some hf
        have hPc : va_P D vwCl [] H := hP.sub (ws' := []) [] rfl
        have hDc : va_D A [] := hD.sub (ws' := []) [] (by decide) rfl
        refine calXe (runS E0.b E0.n (As := [.int l3]) (rest := []) ⟨hx, hb, hml, hown, hts⟩ (c_X7_bits l D cI l3 _ h31) gX7_agreed_X7_bits rfl rfl rfl hdX7_bits ⟨by decide, by decide⟩ hK hPc hDc rfl hl.1 rfl (Nat.le_of_ble_eq_true rfl) dX7_agreed_31 ⟨Nat.zero_le _, Nat.zero_le _⟩) hP hD hS hA (fun H locs hP hD hS => ?_)
        have hP : va_P D vwCl (gX7 o_t a_t cI S_t) H := hP
        have hD : va_D A (gX7 o_t a_t cI S_t) := hD
        refine W.eq (g2 := F0 m 34 ls [.int r31]) rfl ?_
        refine lv_iload_n hx hb dX7_agreed_34 rfl (lv_at hl 2 rfl) ?_
        obtain ⟨r35, u35, h35, hf⟩ := bd_some hf
        have hPc : va_P D vwCl [] H := hP.sub (ws' := []) [] rfl
        have hDc : va_D A [] := hD.sub (ws' := []) [] (by decide) rfl
        refine calXe (runS E0.b E0.n (As := [.int l2]) (rest := [.int r31]) ⟨hx, hb, hml, hown, hts⟩ (c_X7_bits l D cI l2 _ h35) gX7_agreed_X7_bits rfl rfl rfl hdX7_bits ⟨by decide, by decide⟩ hK hPc hDc rfl hl.1 rfl (Nat.le_of_ble_eq_true rfl) dX7_agreed_35 ⟨Nat.zero_le _, Nat.zero_le _⟩) hP hD hS hA (fun H locs hP hD hS => ?_)
        have hP : va_P D vwCl (gX7 o_t a_t cI S_t) H := hP
        have hD : va_D A (gX7 o_t a_t cI S_t) := hD
        refine W.eq (g2 := F0 m 38 ls [.int r35, .int r31]) rfl ?_
        refine lv_icmp_le (tgt := 51) hx hb dX7_agreed_38 (by decide) (fun c38 => ?_) (fun c38 => ?_)
        · replace hf := it_t c38 hf
          refine lv_iinc (v := l3 + (1 : Int32)) (lv' := [(3, .int (l3 + (1 : Int32))), (0, .ref o_t), (1, .int l1), (2, .int l2)]) hx hb dX7_agreed_51 hl (k := 3) rfl rfl (by decide) rfl (fun ls hl => ?_)
          refine lv_goto (tgt := 20) hx hb dX7_agreed_54 (by decide) ?_
          exact ih20 S_t l1 l2 (l3 + (1 : Int32)) H locs ls hf hP hD hS (lv_sub hl [1, 2, 3, 0] rfl)
        · replace hf := it_f c38 hf
          refine lv_aload_n hx hb dX7_agreed_41 rfl (lv_at hl 0 rfl) ?_
          refine lv_iload_n hx hb dX7_agreed_42 rfl (lv_at hl 3 rfl) ?_
          obtain ⟨r43, u43, h43, hf⟩ := bd_some hf
          refine calX0 (runV E0.b E0.n (As := [.int l3]) (rest := []) ⟨hx, hb, hml, hown, hts⟩ (c_X7_areAgreed l D cI o_t a_t S_t l3 _ h43) gX7_agreed_X7_areAgreed rfl rfl rfl hdX7_areAgreed ⟨by decide, by decide⟩ hK hP hD 0 rfl rfl rfl hl.1 rfl (Nat.le_of_ble_eq_true rfl) dX7_agreed_43 ⟨Nat.zero_le _, Nat.zero_le _⟩) hD hS hA (fun H locs hP hD hS => ?_)
          have hP : va_P D vwCl (gX7 o_t a_t cI u43) H := hP
          have hD : va_D A (gX7 o_t a_t cI u43) := hD
          refine W.eq (g2 := F0 m 46 ls [.int r43]) rfl ?_
          refine lv_if_eq (tgt := 51) hx hb dX7_agreed_46 (by decide) (fun c46 => ?_) (fun c46 => ?_)
          · replace hf := it_t c46 hf
            refine lv_iinc (v := l3 + (1 : Int32)) (lv' := [(3, .int (l3 + (1 : Int32))), (0, .ref o_t), (1, .int l1), (2, .int l2)]) hx hb dX7_agreed_51 hl (k := 3) rfl rfl (by decide) rfl (fun ls hl => ?_)
            refine lv_goto (tgt := 20) hx hb dX7_agreed_54 (by decide) ?_
            exact ih20 u43 l1 l2 (l3 + (1 : Int32)) H locs ls hf hP hD hS (lv_sub hl [1, 2, 3, 0] rfl)
          · replace hf := it_f c46 hf
            refine lv_iload_n hx hb dX7_agreed_49 rfl (lv_at hl 3 rfl) ?_
            refine lv_istore_n (lv' := [(2, .int l3), (0, .ref o_t), (1, .int l1), (3, .int l3)]) hx hb dX7_agreed_50 rfl hl (by decide) rfl (fun ls hl => ?_)
            refine lv_iinc (v := l3 + (1 : Int32)) (lv' := [(3, .int (l3 + (1 : Int32))), (2, .int l3), (0, .ref o_t), (1, .int l1)]) hx hb dX7_agreed_51 hl (k := 3) rfl rfl (by decide) rfl (fun ls hl => ?_)
            refine lv_goto (tgt := 20) hx hb dX7_agreed_54 (by decide) ?_
            exact ih20 u43 l1 l3 (l3 + (1 : Int32)) H locs ls hf hP hD hS (lv_sub hl [2, 3, 1, 0] rfl)
  unfold f_X7_agreed at hf
  have hl : lv_has ls 4 [(0, .ref o_t), (1, .int x1)] := hl
  obtain ⟨H, hHe⟩ : ∃ H : Heap, H = s.heap := ⟨_, rfl⟩
  obtain ⟨locs, hle⟩ : ∃ q : List Loc, q = [] := ⟨_, rfl⟩
  have hS : va_S A s.heap H locs := by rw [hHe, hle]; exact hS
  rw [← hHe] at hP
  suffices hgo : W p l e rmX7_agreed s m ([.ref o_t, .int x1] : List Value).toArray below meth c H locs 0 0 Q (F0 m 0 ls []) by rw [hHe, hle] at hgo; exact hgo
  clear hHe hle
  refine lv_iload_n hx hb dX7_agreed_0 rfl (lv_at hl 1 rfl) ?_
  refine lv_iconst (v := (0 : Int32)) hx hb dX7_agreed_1 (by decide) ?_
  refine lv_iconst (v := (1 : Int32)) hx hb dX7_agreed_2 (by decide) ?_
  obtain ⟨r3, u3, h3, hf⟩ := bd_some hf
  have hPc : va_P D vwCl [] H := hP.sub (ws' := []) [] rfl
  have hDc : va_D A [] := hD.sub (ws' := []) [] (by decide) rfl
  refine calXe (runS E0.b E0.n (As := [.int x1, .int (0 : Int32), .int (1 : Int32)]) (rest := []) ⟨hx, hb, hml, hown, hts⟩ (c_X7_isIn l D cI x1 (0 : Int32) (1 : Int32) _ h3) gX7_agreed_X7_isIn rfl rfl rfl hdX7_isIn ⟨by decide, by decide⟩ hK hPc hDc rfl hl.1 rfl (Nat.le_of_ble_eq_true rfl) dX7_agreed_3 ⟨Nat.zero_le _, Nat.zero_le _⟩) hP hD hS hA (fun H locs hP hD hS => ?_)
  have hP : va_P D vwCl (gX7 o_t a_t cI S_t) H := hP
  have hD : va_D A (gX7 o_t a_t cI S_t) := hD
  refine W.eq (g2 := F0 m 6 ls [.int r3]) rfl ?_
  refine lv_if_ne (tgt := 16) hx hb dX7_agreed_6 (by decide) (fun c6 => ?_) (fun c6 => ?_)
  · replace hf := it_f c6 hf
    refine lv_iconst (v := (0 : Int32)) hx hb dX7_agreed_16 (by decide) ?_
    refine lv_istore_n (lv' := [(2, .int (0 : Int32)), (0, .ref o_t), (1, .int x1)]) hx hb dX7_agreed_17 rfl hl (by decide) rfl (fun ls hl => ?_)
    refine lv_iconst (v := (1 : Int32)) hx hb dX7_agreed_18 (by decide) ?_
    refine lv_istore_n (lv' := [(3, .int (1 : Int32)), (2, .int (0 : Int32)), (0, .ref o_t), (1, .int x1)]) hx hb dX7_agreed_19 rfl hl (by decide) rfl (fun ls hl => ?_)
    exact j20 1000 S_t x1 (0 : Int32) (1 : Int32) H locs ls hf hP hD hS (lv_sub hl [2, 3, 1, 0] rfl)
  · replace hf := it_t c6 hf
    refine lv_aload_n hx hb dX7_agreed_9 rfl (lv_at hl 0 rfl) ?_
    refine lv_bipush (v := (-2 : Int32)) hx hb dX7_agreed_10 (by decide) ?_
    obtain ⟨r12, u12, h12, hf⟩ := bd_some hf
    refine calX0 (runV E0.b E0.n (As := [.int (-2 : Int32)]) (rest := []) ⟨hx, hb, hml, hown, hts⟩ (c_X7_no l D cI o_t a_t S_t (-2 : Int32) _ h12) gX7_agreed_X7_no rfl rfl rfl hdX7_no ⟨by decide, by decide⟩ hK hP hD 0 rfl rfl rfl hl.1 rfl (Nat.le_of_ble_eq_true rfl) dX7_agreed_12 ⟨Nat.zero_le _, Nat.zero_le _⟩) hD hS hA (fun H locs hP hD hS => ?_)
    have hP : va_P D vwCl (gX7 o_t a_t cI u12) H := hP
    have hD : va_D A (gX7 o_t a_t cI u12) := hD
    refine W.eq (g2 := F0 m 15 ls [.int r12]) rfl ?_
    have e := so_some hf
    subst e
    exact ri hx hb hK hr hlk hQ dX7_agreed_15 hP hD hS
abbrev rmX7_hours : Room := { frames := 3, cells := 0, slots := 0, locals := 66 }
set_option maxHeartbeats 4000000 in
set_option maxRecDepth 100000 in
theorem c_X7_hours (l : Launch) (D : va_G) (cI : ClassId) (o_t : Nat) (a_t : Nat → Nat) (S_t : G) (x1 : Int32) (out : Int32 × G) (hf : f_X7_hours S_t x1 = some out) : Cn E0 l yX7_hours wsX7_hours rmX7_hours D cI [.ref o_t, .int x1] (gX7 o_t a_t cI S_t) (some (.int out.1)) (gX7 o_t a_t cI out.2) := by
  refine Cn.mk (cc := cX7_hours) (maxL := 6) (ret := (some .int)) (by decide) rfl (Nat.le_of_ble_eq_true rfl) ?_
  intro p e s m below meth c A ls Q hx hb hml hown hts hK hA hP hD hS hl hr hlk hnm hE hQ
  have hown : s.vm.findClass RX7 = some m.cls := hown
  have hinX7 : ∀ w ∈ u_ws RX7 TX7 26, w ∈ wsX7_hours := by decide +kernel
  have j23 : ∀ (n23 : Nat) (S_t : G) (l1 : Int32) (l2 : Int32) (l3 : Int32) (l4 : Int32) (H : Heap) (locs : List Loc) (ls : Array Slot), f_X7_hours_23 n23 S_t l1 l2 l3 l4 = some out → va_P D vwCl (gX7 o_t a_t cI S_t) H → va_D A (gX7 o_t a_t cI S_t) → va_S A s.heap H locs → lv_has ls 6 [(0, .ref o_t), (1, .int l1), (2, .int l2), (3, .int l3), (4, .int l4)] → W p l e rmX7_hours s m ([.ref o_t, .int x1] : List Value).toArray below meth c H locs 0 0 Q (F0 m 23 ls []) := by
    intro n23
    induction n23 with
    | zero =>
      intro S_t l1 l2 l3 l4 H locs ls hf
      exact no_some hf
    | succ n23 ih23 =>
      have j55 : ∀ (n55 : Nat) (S_t : G) (l1 : Int32) (l2 : Int32) (l3 : Int32) (l4 : Int32) (l5 : Int32) (H : Heap) (locs : List Loc) (ls : Array Slot), f_X7_hours_55 (f_X7_hours_23 n23) n55 S_t l1 l2 l3 l4 l5 = some out → va_P D vwCl (gX7 o_t a_t cI S_t) H → va_D A (gX7 o_t a_t cI S_t) → va_S A s.heap H locs → lv_has ls 6 [(0, .ref o_t), (1, .int l1), (2, .int l2), (3, .int l3), (4, .int l4), (5, .int l5)] → W p l e rmX7_hours s m ([.ref o_t, .int x1] : List Value).toArray below meth c H locs 0 0 Q (F0 m 55 ls []) := by
        intro n55
        induction n55 with
        | zero =>
          intro S_t l1 l2 l3 l4 l5 H locs ls hf
          exact no_some hf
        | succ n55 ih55 =>
          intro S_t l1 l2 l3 l4 l5 H locs ls hf hP hD hS hl
          replace hf : b_X7_hours_55 (f_X7_hours_23 n23) (f_X7_hours_55 (f_X7_hours_23 n23) n55) S_t l1 l2 l3 l4 l5 = some out := hf
          unfold b_X7_hours_55 at hf
          refine lv_iload hx hb dX7_hours_55 (lv_at hl 5 rfl) ?_
          refine lv_aload_n hx hb dX7_hours_57 rfl (lv_at hl 0 rfl) ?_
          refine va_get (D := D) (ci := 7) (v := .int (S_t.1 8)) (C := RX7) (T := TX7) (N := 26) hx hb hts hinX7 hown hK hP 0 rfl rfl 8 (by decide) (hts (.fieldLink RX7 65 "OnlyStrangersHearModel" "people" "I") (by decide +kernel)) (fun _ h9 => h9) rfl dX7_hours_58 ?_
          refine lv_icmp_ge (tgt := 98) hx hb dX7_hours_61 (by decide) (fun c61 => ?_) (fun c61 => ?_)
          · replace hf := it_t c61 hf
            refine lv_iinc (v := l4 + (1 : Int32)) (lv' := [(4, .int (l4 + (1 : Int32))), (0, .ref o_t), (1, .int l1), (2, .int l2), (3, .int l3), (5, .int l5)]) hx hb dX7_hours_98 hl (k := 4) rfl rfl (by decide) rfl (fun ls hl => ?_)
            refine lv_goto (tgt := 23) hx hb dX7_hours_101 (by decide) ?_
            exact ih23 S_t l1 l2 l3 (l4 + (1 : Int32)) H locs ls hf hP hD hS (lv_sub hl [1, 2, 3, 4, 0] rfl)
          · replace hf := it_f c61 hf
            refine lv_iload_n hx hb dX7_hours_64 rfl (lv_at hl 2 rfl) ?_
            refine lv_aload_n hx hb dX7_hours_65 rfl (lv_at hl 0 rfl) ?_
            refine lv_iload hx hb dX7_hours_66 (lv_at hl 5 rfl) ?_
            refine lv_iload hx hb dX7_hours_68 (lv_at hl 4 rfl) ?_
            obtain ⟨r70, u70, h70, hf⟩ := bd_some hf
            refine calX0 (runV E0.b E0.n (As := [.int l5, .int l4]) (rest := [.int l2]) ⟨hx, hb, hml, hown, hts⟩ (c_X7_hears l D cI o_t a_t S_t l5 l4 _ h70) gX7_hours_X7_hears rfl rfl rfl hdX7_hears ⟨by decide, by decide⟩ hK hP hD 0 rfl rfl rfl hl.1 rfl (Nat.le_of_ble_eq_true rfl) dX7_hours_70 ⟨Nat.zero_le _, Nat.zero_le _⟩) hD hS hA (fun H locs hP hD hS => ?_)
            have hP : va_P D vwCl (gX7 o_t a_t cI u70) H := hP
            have hD : va_D A (gX7 o_t a_t cI u70) := hD
            refine W.eq (g2 := F0 m 73 ls [.int r70, .int l2]) rfl ?_
            refine lv_if_eq (tgt := 89) hx hb dX7_hours_73 (by decide) (fun c73 => ?_) (fun c73 => ?_)
            · replace hf := it_t c73 hf
              refine lv_iconst (v := (0 : Int32)) hx hb dX7_hours_89 (by decide) ?_
              refine lv_ior hx hb dX7_hours_90 ?_
              refine lv_istore_n (lv' := [(2, .int (l2 ||| (0 : Int32))), (0, .ref o_t), (1, .int l1), (3, .int l3), (4, .int l4), (5, .int l5)]) hx hb dX7_hours_91 rfl hl (by decide) rfl (fun ls hl => ?_)
              refine lv_iinc (v := l5 + (1 : Int32)) (lv' := [(5, .int (l5 + (1 : Int32))), (2, .int (l2 ||| (0 : Int32))), (0, .ref o_t), (1, .int l1), (3, .int l3), (4, .int l4)]) hx hb dX7_hours_92 hl (k := 5) rfl rfl (by decide) rfl (fun ls hl => ?_)
              refine lv_goto (tgt := 55) hx hb dX7_hours_95 (by decide) ?_
              exact ih55 u70 l1 (l2 ||| (0 : Int32)) l3 l4 (l5 + (1 : Int32)) H locs ls hf hP hD hS (lv_sub hl [2, 3, 1, 4, 5, 0] rfl)
            · replace hf := it_f c73 hf
              refine lv_iconst (v := (1 : Int32)) hx hb dX7_hours_76 (by decide) ?_
              refine lv_aload_n hx hb dX7_hours_77 rfl (lv_at hl 0 rfl) ?_
              refine lv_iload hx hb dX7_hours_78 (lv_at hl 5 rfl) ?_
              refine lv_iload hx hb dX7_hours_80 (lv_at hl 4 rfl) ?_
              obtain ⟨r82, u82, h82, hf⟩ := bd_some hf
              refine calX0 (runV E0.b E0.n (As := [.int l5, .int l4]) (rest := [.int (1 : Int32), .int l2]) ⟨hx, hb, hml, hown, hts⟩ (c_X7_saysOf l D cI o_t a_t u70 l5 l4 _ h82) gX7_hours_X7_saysOf rfl rfl rfl hdX7_saysOf ⟨by decide, by decide⟩ hK hP hD 0 rfl rfl rfl hl.1 rfl (Nat.le_of_ble_eq_true rfl) dX7_hours_82 ⟨Nat.zero_le _, Nat.zero_le _⟩) hD hS hA (fun H locs hP hD hS => ?_)
              have hP : va_P D vwCl (gX7 o_t a_t cI u82) H := hP
              have hD : va_D A (gX7 o_t a_t cI u82) := hD
              refine W.eq (g2 := F0 m 85 ls [.int r82, .int (1 : Int32), .int l2]) rfl ?_
              refine lv_ishl hx hb dX7_hours_85 ?_
              refine lv_goto (tgt := 90) hx hb dX7_hours_86 (by decide) ?_
              refine lv_ior hx hb dX7_hours_90 ?_
              refine lv_topi (fun v91 e91 => ?_)
              replace hf := lt_at e91 hf
              refine lv_istore_n (lv' := [(2, .int v91), (0, .ref o_t), (1, .int l1), (3, .int l3), (4, .int l4), (5, .int l5)]) hx hb dX7_hours_91 rfl hl (by decide) rfl (fun ls hl => ?_)
              refine lv_iinc (v := l5 + (1 : Int32)) (lv' := [(5, .int (l5 + (1 : Int32))), (2, .int v91), (0, .ref o_t), (1, .int l1), (3, .int l3), (4, .int l4)]) hx hb dX7_hours_92 hl (k := 5) rfl rfl (by decide) rfl (fun ls hl => ?_)
              refine lv_goto (tgt := 55) hx hb dX7_hours_95 (by decide) ?_
              exact ih55 u82 l1 v91 l3 l4 (l5 + (1 : Int32)) H locs ls hf hP hD hS (lv_sub hl [2, 3, 1, 4, 5, 0] rfl)
      intro S_t l1 l2 l3 l4 H locs ls hf hP hD hS hl
      replace hf : b_X7_hours_23 (f_X7_hours_23 n23) S_t l1 l2 l3 l4 = some out := hf
      unfold b_X7_hours_23 at hf
      refine lv_iload hx hb dX7_hours_23 (lv_at hl 4 rfl) ?_
      refine lv_aload_n hx hb dX7_hours_25 rfl (lv_at hl 0 rfl) ?_
      refine va_get (D := D) (ci := 7) (v := .int (S_t.1 7)) (C := RX7) (T := TX7) (N := 26) hx hb hts hinX7 hown hK hP 0 rfl rfl 7 (by decide) (hts (.fieldLink RX7 62 "OnlyStrangersHearModel" "bells" "I") (by decide +kernel)) (fun _ h9 => h9) rfl dX7_hours_26 ?_
      refine lv_icmp_ge (tgt := 104) hx hb dX7_hours_29 (by decide) (fun c29 => ?_) (fun c29 => ?_)
      · replace hf := it_t c29 hf
        refine lv_iload_n hx hb dX7_hours_104 rfl (lv_at hl 1 rfl) ?_
        refine lv_if_ne (tgt := 112) hx hb dX7_hours_105 (by decide) (fun c105 => ?_) (fun c105 => ?_)
        · replace hf := it_f c105 hf
          refine lv_iload_n hx hb dX7_hours_112 rfl (lv_at hl 3 rfl) ?_
          have e := so_some hf
          subst e
          exact ri hx hb hK hr hlk hQ dX7_hours_113 hP hD hS
        · replace hf := it_t c105 hf
          refine lv_iload_n hx hb dX7_hours_108 rfl (lv_at hl 2 rfl) ?_
          refine lv_goto (tgt := 113) hx hb dX7_hours_109 (by decide) ?_
          have e := so_some hf
          subst e
          exact ri hx hb hK hr hlk hQ dX7_hours_113 hP hD hS
      · replace hf := it_f c29 hf
        refine lv_iload_n hx hb dX7_hours_32 rfl (lv_at hl 3 rfl) ?_
        refine lv_aload_n hx hb dX7_hours_33 rfl (lv_at hl 0 rfl) ?_
        refine lv_iload hx hb dX7_hours_34 (lv_at hl 4 rfl) ?_
        obtain ⟨r36, u36, h36, hf⟩ := bd_some hf
        refine calX0 (runV E0.b E0.n (As := [.int l4]) (rest := [.int l3]) ⟨hx, hb, hml, hown, hts⟩ (c_X7_hearers l D cI o_t a_t S_t l4 _ h36) gX7_hours_X7_hearers rfl rfl rfl hdX7_hearers ⟨by decide, by decide⟩ hK hP hD 0 rfl rfl rfl hl.1 rfl (Nat.le_of_ble_eq_true rfl) dX7_hours_36 ⟨Nat.zero_le _, Nat.zero_le _⟩) hD hS hA (fun H locs hP hD hS => ?_)
        have hP : va_P D vwCl (gX7 o_t a_t cI u36) H := hP
        have hD : va_D A (gX7 o_t a_t cI u36) := hD
        refine W.eq (g2 := F0 m 39 ls [.int r36, .int l3]) rfl ?_
        refine lv_if_ne (tgt := 49) hx hb dX7_hours_39 (by decide) (fun c39 => ?_) (fun c39 => ?_)
        · replace hf := it_f c39 hf
          refine lv_iconst (v := (0 : Int32)) hx hb dX7_hours_49 (by decide) ?_
          refine lv_ior hx hb dX7_hours_50 ?_
          refine lv_istore_n (lv' := [(3, .int (l3 ||| (0 : Int32))), (0, .ref o_t), (1, .int l1), (2, .int l2), (4, .int l4)]) hx hb dX7_hours_51 rfl hl (by decide) rfl (fun ls hl => ?_)
          refine lv_iconst (v := (0 : Int32)) hx hb dX7_hours_52 (by decide) ?_
          refine lv_istore (lv' := [(5, .int (0 : Int32)), (3, .int (l3 ||| (0 : Int32))), (0, .ref o_t), (1, .int l1), (2, .int l2), (4, .int l4)]) hx hb dX7_hours_53 hl (by decide) rfl (fun ls hl => ?_)
          exact j55 1000 u36 l1 l2 (l3 ||| (0 : Int32)) l4 (0 : Int32) H locs ls hf hP hD hS (lv_sub hl [2, 3, 4, 1, 5, 0] rfl)
        · replace hf := it_t c39 hf
          refine lv_iconst (v := (1 : Int32)) hx hb dX7_hours_42 (by decide) ?_
          refine lv_iload hx hb dX7_hours_43 (lv_at hl 4 rfl) ?_
          refine lv_ishl hx hb dX7_hours_45 ?_
          refine lv_goto (tgt := 50) hx hb dX7_hours_46 (by decide) ?_
          refine lv_ior hx hb dX7_hours_50 ?_
          refine lv_topi (fun v51 e51 => ?_)
          replace hf := lt_at e51 hf
          refine lv_istore_n (lv' := [(3, .int v51), (0, .ref o_t), (1, .int l1), (2, .int l2), (4, .int l4)]) hx hb dX7_hours_51 rfl hl (by decide) rfl (fun ls hl => ?_)
          refine lv_iconst (v := (0 : Int32)) hx hb dX7_hours_52 (by decide) ?_
          refine lv_istore (lv' := [(5, .int (0 : Int32)), (3, .int v51), (0, .ref o_t), (1, .int l1), (2, .int l2), (4, .int l4)]) hx hb dX7_hours_53 hl (by decide) rfl (fun ls hl => ?_)
          exact j55 1000 u36 l1 l2 v51 l4 (0 : Int32) H locs ls hf hP hD hS (lv_sub hl [2, 3, 4, 1, 5, 0] rfl)
  unfold f_X7_hours at hf
  have hl : lv_has ls 6 [(0, .ref o_t), (1, .int x1)] := hl
  obtain ⟨H, hHe⟩ : ∃ H : Heap, H = s.heap := ⟨_, rfl⟩
  obtain ⟨locs, hle⟩ : ∃ q : List Loc, q = [] := ⟨_, rfl⟩
  have hS : va_S A s.heap H locs := by rw [hHe, hle]; exact hS
  rw [← hHe] at hP
  suffices hgo : W p l e rmX7_hours s m ([.ref o_t, .int x1] : List Value).toArray below meth c H locs 0 0 Q (F0 m 0 ls []) by rw [hHe, hle] at hgo; exact hgo
  clear hHe hle
  refine lv_iload_n hx hb dX7_hours_0 rfl (lv_at hl 1 rfl) ?_
  refine lv_iconst (v := (0 : Int32)) hx hb dX7_hours_1 (by decide) ?_
  refine lv_iconst (v := (1 : Int32)) hx hb dX7_hours_2 (by decide) ?_
  obtain ⟨r3, u3, h3, hf⟩ := bd_some hf
  have hPc : va_P D vwCl [] H := hP.sub (ws' := []) [] rfl
  have hDc : va_D A [] := hD.sub (ws' := []) [] (by decide) rfl
  refine calXe (runS E0.b E0.n (As := [.int x1, .int (0 : Int32), .int (1 : Int32)]) (rest := []) ⟨hx, hb, hml, hown, hts⟩ (c_X7_isIn l D cI x1 (0 : Int32) (1 : Int32) _ h3) gX7_hours_X7_isIn rfl rfl rfl hdX7_isIn ⟨by decide, by decide⟩ hK hPc hDc rfl hl.1 rfl (Nat.le_of_ble_eq_true rfl) dX7_hours_3 ⟨Nat.zero_le _, Nat.zero_le _⟩) hP hD hS hA (fun H locs hP hD hS => ?_)
  have hP : va_P D vwCl (gX7 o_t a_t cI S_t) H := hP
  have hD : va_D A (gX7 o_t a_t cI S_t) := hD
  refine W.eq (g2 := F0 m 6 ls [.int r3]) rfl ?_
  refine lv_if_ne (tgt := 16) hx hb dX7_hours_6 (by decide) (fun c6 => ?_) (fun c6 => ?_)
  · replace hf := it_f c6 hf
    refine lv_iconst (v := (0 : Int32)) hx hb dX7_hours_16 (by decide) ?_
    refine lv_istore_n (lv' := [(2, .int (0 : Int32)), (0, .ref o_t), (1, .int x1)]) hx hb dX7_hours_17 rfl hl (by decide) rfl (fun ls hl => ?_)
    refine lv_iconst (v := (0 : Int32)) hx hb dX7_hours_18 (by decide) ?_
    refine lv_istore_n (lv' := [(3, .int (0 : Int32)), (2, .int (0 : Int32)), (0, .ref o_t), (1, .int x1)]) hx hb dX7_hours_19 rfl hl (by decide) rfl (fun ls hl => ?_)
    refine lv_iconst (v := (0 : Int32)) hx hb dX7_hours_20 (by decide) ?_
    refine lv_istore (lv' := [(4, .int (0 : Int32)), (3, .int (0 : Int32)), (2, .int (0 : Int32)), (0, .ref o_t), (1, .int x1)]) hx hb dX7_hours_21 hl (by decide) rfl (fun ls hl => ?_)
    exact j23 1000 S_t x1 (0 : Int32) (0 : Int32) (0 : Int32) H locs ls hf hP hD hS (lv_sub hl [3, 4, 2, 1, 0] rfl)
  · replace hf := it_t c6 hf
    refine lv_aload_n hx hb dX7_hours_9 rfl (lv_at hl 0 rfl) ?_
    refine lv_bipush (v := (-2 : Int32)) hx hb dX7_hours_10 (by decide) ?_
    obtain ⟨r12, u12, h12, hf⟩ := bd_some hf
    refine calX0 (runV E0.b E0.n (As := [.int (-2 : Int32)]) (rest := []) ⟨hx, hb, hml, hown, hts⟩ (c_X7_no l D cI o_t a_t S_t (-2 : Int32) _ h12) gX7_hours_X7_no rfl rfl rfl hdX7_no ⟨by decide, by decide⟩ hK hP hD 0 rfl rfl rfl hl.1 rfl (Nat.le_of_ble_eq_true rfl) dX7_hours_12 ⟨Nat.zero_le _, Nat.zero_le _⟩) hD hS hA (fun H locs hP hD hS => ?_)
    have hP : va_P D vwCl (gX7 o_t a_t cI u12) H := hP
    have hD : va_D A (gX7 o_t a_t cI u12) := hD
    refine W.eq (g2 := F0 m 15 ls [.int r12]) rfl ?_
    have e := so_some hf
    subst e
    exact ri hx hb hK hr hlk hQ dX7_hours_15 hP hD hS
abbrev rmX7_bedsFor : Room := { frames := 5, cells := 0, slots := 0, locals := 112 }
set_option maxHeartbeats 4000000 in
set_option maxRecDepth 100000 in
theorem c_X7_bedsFor (l : Launch) (D : va_G) (cI : ClassId) (o_t : Nat) (a_t : Nat → Nat) (S_t : G) (x1 : Int32) (out : Int32 × G) (hf : f_X7_bedsFor S_t x1 = some out) : Cn E0 l yX7_bedsFor wsX7_bedsFor rmX7_bedsFor D cI [.ref o_t, .int x1] (gX7 o_t a_t cI S_t) (some (.int out.1)) (gX7 o_t a_t cI out.2) := by
  refine Cn.mk (cc := cX7_bedsFor) (maxL := 6) (ret := (some .int)) (by decide) rfl (Nat.le_of_ble_eq_true rfl) ?_
  intro p e s m below meth c A ls Q hx hb hml hown hts hK hA hP hD hS hl hr hlk hnm hE hQ
  have hown : s.vm.findClass RX7 = some m.cls := hown
  have hinX7 : ∀ w ∈ u_ws RX7 TX7 26, w ∈ wsX7_bedsFor := by decide +kernel
  have j30 : ∀ (n30 : Nat) (S_t : G) (l1 : Int32) (l3 : Int32) (l4 : Int32) (l5 : Int32) (H : Heap) (locs : List Loc) (ls : Array Slot), f_X7_bedsFor_30 n30 S_t l1 l3 l4 l5 = some out → va_P D vwCl (gX7 o_t a_t cI S_t) H → va_D A (gX7 o_t a_t cI S_t) → va_S A s.heap H locs → lv_has ls 6 [(0, .ref o_t), (1, .int l1), (3, .int l3), (4, .int l4), (5, .int l5)] → W p l e rmX7_bedsFor s m ([.ref o_t, .int x1] : List Value).toArray below meth c H locs 0 0 Q (F0 m 30 ls []) := by
    intro n30
    induction n30 with
    | zero =>
      intro S_t l1 l3 l4 l5 H locs ls hf
      exact no_some hf
    | succ n30 ih30 =>
      intro S_t l1 l3 l4 l5 H locs ls hf hP hD hS hl
      replace hf : b_X7_bedsFor_30 (f_X7_bedsFor_30 n30) S_t l1 l3 l4 l5 = some out := hf
      unfold b_X7_bedsFor_30 at hf
      refine lv_iload hx hb dX7_bedsFor_30 (lv_at hl 4 rfl) ?_
      refine lv_bipush (v := (9 : Int32)) hx hb dX7_bedsFor_32 (by decide) ?_
      refine lv_icmp_ge (tgt := 71) hx hb dX7_bedsFor_34 (by decide) (fun c34 => ?_) (fun c34 => ?_)
      · replace hf := it_t c34 hf
        refine lv_aload_n hx hb dX7_bedsFor_71 rfl (lv_at hl 0 rfl) ?_
        refine lv_iload_n hx hb dX7_bedsFor_72 rfl (lv_at hl 2 rfl) ?_
        refine va_put (D := D) (ci := 7) (v := .int l3) (ty := .int) (C := RX7) (T := TX7) (N := 26) hx hb hts hinX7 tyX7 tyX7_ok nmX7 hown hK hP hD hS 0 rfl rfl 10 (by decide) (hts (.fieldLink RX7 56 "OnlyStrangersHearModel" "beds" "I") (by decide +kernel)) (fun _ h9 => h9) rfl (by decide +kernel) rfl rfl (Nat.le_of_ble_eq_true rfl) dX7_bedsFor_73 (fun H locs hP hD hS => ?_)
        have hP : va_P D vwCl (gX7 o_t a_t cI (pF S_t 10 l3)) H := hP
        have hD : va_D A (gX7 o_t a_t cI (pF S_t 10 l3)) := hD
        obtain ⟨g73, e73, hf⟩ := lt_some hf
        rw [← e73] at hP hD
        refine lv_iload hx hb dX7_bedsFor_76 (lv_at hl 3 rfl) ?_
        have e := so_some hf
        subst e
        exact ri hx hb hK hr hlk hQ dX7_bedsFor_78 hP hD hS
      · replace hf := it_f c34 hf
        refine lv_iload hx hb dX7_bedsFor_37 (lv_at hl 3 rfl) ?_
        refine lv_if_ge (tgt := 71) hx hb dX7_bedsFor_39 (by decide) (fun c39 => ?_) (fun c39 => ?_)
        · replace hf := it_t c39 hf
          refine lv_aload_n hx hb dX7_bedsFor_71 rfl (lv_at hl 0 rfl) ?_
          refine lv_iload_n hx hb dX7_bedsFor_72 rfl (lv_at hl 2 rfl) ?_
          refine va_put (D := D) (ci := 7) (v := .int l3) (ty := .int) (C := RX7) (T := TX7) (N := 26) hx hb hts hinX7 tyX7 tyX7_ok nmX7 hown hK hP hD hS 0 rfl rfl 10 (by decide) (hts (.fieldLink RX7 56 "OnlyStrangersHearModel" "beds" "I") (by decide +kernel)) (fun _ h9 => h9) rfl (by decide +kernel) rfl rfl (Nat.le_of_ble_eq_true rfl) dX7_bedsFor_73 (fun H locs hP hD hS => ?_)
          have hP : va_P D vwCl (gX7 o_t a_t cI (pF S_t 10 l3)) H := hP
          have hD : va_D A (gX7 o_t a_t cI (pF S_t 10 l3)) := hD
          obtain ⟨g73, e73, hf⟩ := lt_some hf
          rw [← e73] at hP hD
          refine lv_iload hx hb dX7_bedsFor_76 (lv_at hl 3 rfl) ?_
          have e := so_some hf
          subst e
          exact ri hx hb hK hr hlk hQ dX7_bedsFor_78 hP hD hS
        · replace hf := it_f c39 hf
          refine lv_aload_n hx hb dX7_bedsFor_42 rfl (lv_at hl 0 rfl) ?_
          refine lv_iload hx hb dX7_bedsFor_43 (lv_at hl 4 rfl) ?_
          refine va_put (D := D) (ci := 7) (v := .int l5) (ty := .int) (C := RX7) (T := TX7) (N := 26) hx hb hts hinX7 tyX7 tyX7_ok nmX7 hown hK hP hD hS 0 rfl rfl 10 (by decide) (hts (.fieldLink RX7 56 "OnlyStrangersHearModel" "beds" "I") (by decide +kernel)) (fun _ h9 => h9) rfl (by decide +kernel) rfl rfl (Nat.le_of_ble_eq_true rfl) dX7_bedsFor_45 (fun H locs hP hD hS => ?_)
          have hP : va_P D vwCl (gX7 o_t a_t cI (pF S_t 10 l5)) H := hP
          have hD : va_D A (gX7 o_t a_t cI (pF S_t 10 l5)) := hD
          obtain ⟨g45, e45, hf⟩ := lt_some hf
          rw [← e45] at hP hD
          refine lv_aload_n hx hb dX7_bedsFor_48 rfl (lv_at hl 0 rfl) ?_
          refine lv_iload_n hx hb dX7_bedsFor_49 rfl (lv_at hl 1 rfl) ?_
          obtain ⟨r50, u50, h50, hf⟩ := bd_some hf
          refine calX0 (runV E0.b E0.n (As := [.int l1]) (rest := []) ⟨hx, hb, hml, hown, hts⟩ (c_X7_allHeardIn l D cI o_t a_t g45 l1 _ h50) gX7_bedsFor_X7_allHeardIn rfl rfl rfl hdX7_allHeardIn ⟨by decide, by decide⟩ hK hP hD 0 rfl rfl rfl hl.1 rfl (Nat.le_of_ble_eq_true rfl) dX7_bedsFor_50 ⟨Nat.zero_le _, Nat.zero_le _⟩) hD hS hA (fun H locs hP hD hS => ?_)
          have hP : va_P D vwCl (gX7 o_t a_t cI u50) H := hP
          have hD : va_D A (gX7 o_t a_t cI u50) := hD
          refine W.eq (g2 := F0 m 53 ls [.int r50]) rfl ?_
          refine lv_if_eq (tgt := 61) hx hb dX7_bedsFor_53 (by decide) (fun c53 => ?_) (fun c53 => ?_)
          · replace hf := it_t c53 hf
            refine lv_bipush (v := (-9 : Int32)) hx hb dX7_bedsFor_61 (by decide) ?_
            refine lv_istore (lv' := [(4, .int (-9 : Int32)), (0, .ref o_t), (1, .int l1), (3, .int l3), (5, .int l5)]) hx hb dX7_bedsFor_63 hl (by decide) rfl (fun ls hl => ?_)
            refine lv_iinc (v := l5 + (1 : Int32)) (lv' := [(5, .int (l5 + (1 : Int32))), (4, .int (-9 : Int32)), (0, .ref o_t), (1, .int l1), (3, .int l3)]) hx hb dX7_bedsFor_65 hl (k := 4) rfl rfl (by decide) rfl (fun ls hl => ?_)
            refine lv_goto (tgt := 30) hx hb dX7_bedsFor_68 (by decide) ?_
            exact ih30 u50 l1 l3 (-9 : Int32) (l5 + (1 : Int32)) H locs ls hf hP hD hS (lv_sub hl [2, 3, 4, 1, 0] rfl)
          · replace hf := it_f c53 hf
            refine lv_iload hx hb dX7_bedsFor_56 (lv_at hl 4 rfl) ?_
            refine lv_goto (tgt := 63) hx hb dX7_bedsFor_58 (by decide) ?_
            refine lv_istore (lv' := [(4, .int l5), (0, .ref o_t), (1, .int l1), (3, .int l3), (5, .int l5)]) hx hb dX7_bedsFor_63 hl (by decide) rfl (fun ls hl => ?_)
            refine lv_iinc (v := l5 + (1 : Int32)) (lv' := [(5, .int (l5 + (1 : Int32))), (4, .int l5), (0, .ref o_t), (1, .int l1), (3, .int l3)]) hx hb dX7_bedsFor_65 hl (k := 4) rfl rfl (by decide) rfl (fun ls hl => ?_)
            refine lv_goto (tgt := 30) hx hb dX7_bedsFor_68 (by decide) ?_
            exact ih30 u50 l1 l3 l5 (l5 + (1 : Int32)) H locs ls hf hP hD hS (lv_sub hl [2, 3, 4, 1, 0] rfl)
  unfold f_X7_bedsFor at hf
  have hl : lv_has ls 6 [(0, .ref o_t), (1, .int x1)] := hl
  obtain ⟨H, hHe⟩ : ∃ H : Heap, H = s.heap := ⟨_, rfl⟩
  obtain ⟨locs, hle⟩ : ∃ q : List Loc, q = [] := ⟨_, rfl⟩
  have hS : va_S A s.heap H locs := by rw [hHe, hle]; exact hS
  rw [← hHe] at hP
  suffices hgo : W p l e rmX7_bedsFor s m ([.ref o_t, .int x1] : List Value).toArray below meth c H locs 0 0 Q (F0 m 0 ls []) by rw [hHe, hle] at hgo; exact hgo
  clear hHe hle
  refine lv_iload_n hx hb dX7_bedsFor_0 rfl (lv_at hl 1 rfl) ?_
  refine lv_iconst (v := (0 : Int32)) hx hb dX7_bedsFor_1 (by decide) ?_
  refine lv_bipush (v := (40 : Int32)) hx hb dX7_bedsFor_2 (by decide) ?_
  obtain ⟨r4, u4, h4, hf⟩ := bd_some hf
  have hPc : va_P D vwCl [] H := hP.sub (ws' := []) [] rfl
  have hDc : va_D A [] := hD.sub (ws' := []) [] (by decide) rfl
  refine calXe (runS E0.b E0.n (As := [.int x1, .int (0 : Int32), .int (40 : Int32)]) (rest := []) ⟨hx, hb, hml, hown, hts⟩ (c_X7_bound l D cI x1 (0 : Int32) (40 : Int32) _ h4) gX7_bedsFor_X7_bound rfl rfl rfl hdX7_bound ⟨by decide, by decide⟩ hK hPc hDc rfl hl.1 rfl (Nat.le_of_ble_eq_true rfl) dX7_bedsFor_4 ⟨Nat.zero_le _, Nat.zero_le _⟩) hP hD hS hA (fun H locs hP hD hS => ?_)
  have hP : va_P D vwCl (gX7 o_t a_t cI S_t) H := hP
  have hD : va_D A (gX7 o_t a_t cI S_t) := hD
  refine W.eq (g2 := F0 m 7 ls [.int r4]) rfl ?_
  refine lv_istore_n (lv' := [(2, .int r4), (0, .ref o_t), (1, .int x1)]) hx hb dX7_bedsFor_7 rfl hl (by decide) rfl (fun ls hl => ?_)
  refine lv_iload_n hx hb dX7_bedsFor_8 rfl (lv_at hl 0 rfl) ?_
  refine lv_if_eq (tgt := 18) hx hb dX7_bedsFor_9 (by decide) (fun c9 => ?_) (fun c9 => ?_)
  · replace hf := it_t c9 hf
    refine lv_aload_n hx hb dX7_bedsFor_18 rfl (lv_at hl 1 rfl) ?_
    refine va_get (D := D) (ci := 7) (v := .int (S_t.1 10)) (C := RX7) (T := TX7) (N := 26) hx hb hts hinX7 hown hK hP 0 rfl rfl 10 (by decide) (hts (.fieldLink RX7 56 "OnlyStrangersHearModel" "beds" "I") (by decide +kernel)) (fun _ h9 => h9) rfl dX7_bedsFor_19 ?_
    refine lv_istore_n (lv' := [(3, .int (S_t.1 10)), (2, .int r4), (0, .ref o_t), (1, .int x1)]) hx hb dX7_bedsFor_22 rfl hl (by decide) rfl (fun ls hl => ?_)
    refine lv_bipush (v := (-9 : Int32)) hx hb dX7_bedsFor_23 (by decide) ?_
    refine lv_istore (lv' := [(4, .int (-9 : Int32)), (3, .int (S_t.1 10)), (2, .int r4), (0, .ref o_t), (1, .int x1)]) hx hb dX7_bedsFor_25 hl (by decide) rfl (fun ls hl => ?_)
    refine lv_iconst (v := (1 : Int32)) hx hb dX7_bedsFor_27 (by decide) ?_
    refine lv_istore (lv' := [(5, .int (1 : Int32)), (4, .int (-9 : Int32)), (3, .int (S_t.1 10)), (2, .int r4), (0, .ref o_t), (1, .int x1)]) hx hb dX7_bedsFor_28 hl (by decide) rfl (fun ls hl => ?_)
    exact j30 1000 S_t x1 (S_t.1 10) (-9 : Int32) (1 : Int32) H locs ls hf hP hD hS (lv_sub hl [4, 5, 2, 1, 0] rfl)
  · replace hf := it_f c9 hf
    refine lv_aload_n hx hb dX7_bedsFor_12 rfl (lv_at hl 1 rfl) ?_
    refine lv_iload_n hx hb dX7_bedsFor_13 rfl (lv_at hl 0 rfl) ?_
    obtain ⟨r14, u14, h14, hf⟩ := bd_some hf
    refine calX0 (runV E0.b E0.n (As := [.int r4]) (rest := []) ⟨hx, hb, hml, hown, hts⟩ (c_X7_no l D cI o_t a_t S_t r4 _ h14) gX7_bedsFor_X7_no rfl rfl rfl hdX7_no ⟨by decide, by decide⟩ hK hP hD 0 rfl rfl rfl hl.1 rfl (Nat.le_of_ble_eq_true rfl) dX7_bedsFor_14 ⟨Nat.zero_le _, Nat.zero_le _⟩) hD hS hA (fun H locs hP hD hS => ?_)
    have hP : va_P D vwCl (gX7 o_t a_t cI u14) H := hP
    have hD : va_D A (gX7 o_t a_t cI u14) := hD
    refine W.eq (g2 := F0 m 17 ls [.int r14]) rfl ?_
    have e := so_some hf
    subst e
    exact ri hx hb hK hr hlk hQ dX7_bedsFor_17 hP hD hS
abbrev rmX7_next : Room := { frames := 1, cells := 0, slots := 0, locals := 21 }
set_option maxHeartbeats 4000000 in
set_option maxRecDepth 100000 in
theorem c_X7_next (l : Launch) (D : va_G) (cI : ClassId) (o_t : Nat) (a_t : Nat → Nat) (S_t : G) (x1 : Int32) (out : Int32 × G) (hf : f_X7_next S_t x1 = some out) : Cn E0 l yX7_next wsX7_next rmX7_next D cI [.ref o_t, .int x1] (gX7 o_t a_t cI S_t) (some (.int out.1)) (gX7 o_t a_t cI out.2) := by
  refine Cn.mk (cc := cX7_next) (maxL := 2) (ret := (some .int)) (by decide) rfl (Nat.le_of_ble_eq_true rfl) ?_
  intro p e s m below meth c A ls Q hx hb hml hown hts hK hA hP hD hS hl hr hlk hnm hE hQ
  have hown : s.vm.findClass RX7 = some m.cls := hown
  have hinX7 : ∀ w ∈ u_ws RX7 TX7 26, w ∈ wsX7_next := by decide +kernel
  unfold f_X7_next at hf
  have hl : lv_has ls 2 [(0, .ref o_t), (1, .int x1)] := hl
  obtain ⟨H, hHe⟩ : ∃ H : Heap, H = s.heap := ⟨_, rfl⟩
  obtain ⟨locs, hle⟩ : ∃ q : List Loc, q = [] := ⟨_, rfl⟩
  have hS : va_S A s.heap H locs := by rw [hHe, hle]; exact hS
  rw [← hHe] at hP
  suffices hgo : W p l e rmX7_next s m ([.ref o_t, .int x1] : List Value).toArray below meth c H locs 0 0 Q (F0 m 0 ls []) by rw [hHe, hle] at hgo; exact hgo
  clear hHe hle
  refine lv_aload_n hx hb dX7_next_0 rfl (lv_at hl 0 rfl) ?_
  refine lv_iload_n hx hb dX7_next_1 rfl (lv_at hl 1 rfl) ?_
  obtain ⟨r2, u2, h2, hf⟩ := bd_some hf
  refine calX0 (runV E0.b E0.n (As := [.int x1]) (rest := []) ⟨hx, hb, hml, hown, hts⟩ (c_X7_isBell l D cI o_t a_t S_t x1 _ h2) gX7_next_X7_isBell rfl rfl rfl hdX7_isBell ⟨by decide, by decide⟩ hK hP hD 0 rfl rfl rfl hl.1 rfl (Nat.le_of_ble_eq_true rfl) dX7_next_2 ⟨Nat.zero_le _, Nat.zero_le _⟩) hD hS hA (fun H locs hP hD hS => ?_)
  have hP : va_P D vwCl (gX7 o_t a_t cI u2) H := hP
  have hD : va_D A (gX7 o_t a_t cI u2) := hD
  refine W.eq (g2 := F0 m 5 ls [.int r2]) rfl ?_
  refine lv_if_eq (tgt := 29) hx hb dX7_next_5 (by decide) (fun c5 => ?_) (fun c5 => ?_)
  · replace hf := it_t c5 hf
    refine lv_aload_n hx hb dX7_next_29 rfl (lv_at hl 0 rfl) ?_
    refine lv_iconst (v := (-1 : Int32)) hx hb dX7_next_30 (by decide) ?_
    obtain ⟨r31, u31, h31, hf⟩ := bd_some hf
    refine calX0 (runV E0.b E0.n (As := [.int (-1 : Int32)]) (rest := []) ⟨hx, hb, hml, hown, hts⟩ (c_X7_no l D cI o_t a_t u2 (-1 : Int32) _ h31) gX7_next_X7_no rfl rfl rfl hdX7_no ⟨by decide, by decide⟩ hK hP hD 0 rfl rfl rfl hl.1 rfl (Nat.le_of_ble_eq_true rfl) dX7_next_31 ⟨Nat.zero_le _, Nat.zero_le _⟩) hD hS hA (fun H locs hP hD hS => ?_)
    have hP : va_P D vwCl (gX7 o_t a_t cI u31) H := hP
    have hD : va_D A (gX7 o_t a_t cI u31) := hD
    refine W.eq (g2 := F0 m 34 ls [.int r31]) rfl ?_
    have e := so_some hf
    subst e
    exact ri hx hb hK hr hlk hQ dX7_next_34 hP hD hS
  · replace hf := it_f c5 hf
    refine lv_aload_n hx hb dX7_next_8 rfl (lv_at hl 0 rfl) ?_
    refine va_get (D := D) (ci := 7) (v := .ref (a_t 2)) (C := RX7) (T := TX7) (N := 26) hx hb hts hinX7 hown hK hP 0 rfl rfl 2 (by decide) (hts (.fieldLink RX7 16 "OnlyStrangersHearModel" "every" "[I") (by decide +kernel)) (fun _ h9 => h9) rfl dX7_next_9 ?_
    refine lv_iload_n hx hb dX7_next_12 rfl (lv_at hl 1 rfl) ?_
    obtain ⟨b13, hf⟩ := ck_some hf
    refine va_iald hx hb hK hP 3 0 rfl rfl b13 dX7_next_13 ?_
    refine lv_aload_n hx hb dX7_next_14 rfl (lv_at hl 0 rfl) ?_
    refine va_get (D := D) (ci := 7) (v := .int (u2.1 9)) (C := RX7) (T := TX7) (N := 26) hx hb hts hinX7 hown hK hP 0 rfl rfl 9 (by decide) (hts (.fieldLink RX7 107 "OnlyStrangersHearModel" "day" "I") (by decide +kernel)) (fun _ h9 => h9) rfl dX7_next_15 ?_
    refine lv_aload_n hx hb dX7_next_18 rfl (lv_at hl 0 rfl) ?_
    refine va_get (D := D) (ci := 7) (v := .ref (a_t 2)) (C := RX7) (T := TX7) (N := 26) hx hb hts hinX7 hown hK hP 0 rfl rfl 2 (by decide) (hts (.fieldLink RX7 16 "OnlyStrangersHearModel" "every" "[I") (by decide +kernel)) (fun _ h9 => h9) rfl dX7_next_19 ?_
    refine lv_iload_n hx hb dX7_next_22 rfl (lv_at hl 1 rfl) ?_
    obtain ⟨b23, hf⟩ := ck_some hf
    refine va_iald hx hb hK hP 3 0 rfl rfl b23 dX7_next_23 ?_
    obtain ⟨z24, hf⟩ := nz_some hf
    refine lv_irem hx hb dX7_next_24 z24 ?_
    refine lv_isub hx hb dX7_next_25 ?_
    refine lv_goto (tgt := 34) hx hb dX7_next_26 (by decide) ?_
    have e := so_some hf
    subst e
    exact ri hx hb hK hr hlk hQ dX7_next_34 hP hD hS
abbrev rmX7_together : Room := { frames := 0, cells := 0, slots := 0, locals := 0 }
set_option maxHeartbeats 4000000 in
set_option maxRecDepth 100000 in
theorem c_X7_together (l : Launch) (D : va_G) (cI : ClassId) (o_t : Nat) (a_t : Nat → Nat) (S_t : G) (out : Int32 × G) (hf : f_X7_together S_t = some out) : Cn E0 l yX7_together wsX7_together rmX7_together D cI [.ref o_t] (gX7 o_t a_t cI S_t) (some (.int out.1)) (gX7 o_t a_t cI out.2) := by
  refine Cn.mk (cc := cX7_together) (maxL := 4) (ret := (some .int)) (by decide) rfl (Nat.le_of_ble_eq_true rfl) ?_
  intro p e s m below meth c A ls Q hx hb hml hown hts hK hA hP hD hS hl hr hlk hnm hE hQ
  have hown : s.vm.findClass RX7 = some m.cls := hown
  have hinX7 : ∀ w ∈ u_ws RX7 TX7 26, w ∈ wsX7_together := by decide +kernel
  have j2 : ∀ (n2 : Nat) (S_t : G) (l1 : Int32) (H : Heap) (locs : List Loc) (ls : Array Slot), f_X7_together_2 n2 S_t l1 = some out → va_P D vwCl (gX7 o_t a_t cI S_t) H → va_D A (gX7 o_t a_t cI S_t) → va_S A s.heap H locs → lv_has ls 4 [(0, .ref o_t), (1, .int l1)] → W p l e rmX7_together s m ([.ref o_t] : List Value).toArray below meth c H locs 0 0 Q (F0 m 2 ls []) := by
    intro n2
    induction n2 with
    | zero =>
      intro S_t l1 H locs ls hf
      exact no_some hf
    | succ n2 ih2 =>
      have j19 : ∀ (n19 : Nat) (S_t : G) (l1 : Int32) (l2 : Int32) (l3 : Int32) (H : Heap) (locs : List Loc) (ls : Array Slot), f_X7_together_19 (f_X7_together_2 n2) n19 S_t l1 l2 l3 = some out → va_P D vwCl (gX7 o_t a_t cI S_t) H → va_D A (gX7 o_t a_t cI S_t) → va_S A s.heap H locs → lv_has ls 4 [(0, .ref o_t), (1, .int l1), (2, .int l2), (3, .int l3)] → W p l e rmX7_together s m ([.ref o_t] : List Value).toArray below meth c H locs 0 0 Q (F0 m 19 ls []) := by
        intro n19
        induction n19 with
        | zero =>
          intro S_t l1 l2 l3 H locs ls hf
          exact no_some hf
        | succ n19 ih19 =>
          intro S_t l1 l2 l3 H locs ls hf hP hD hS hl
          replace hf : b_X7_together_19 (f_X7_together_2 n2) (f_X7_together_19 (f_X7_together_2 n2) n19) S_t l1 l2 l3 = some out := hf
          unfold b_X7_together_19 at hf
          refine lv_iload_n hx hb dX7_together_19 rfl (lv_at hl 3 rfl) ?_
          refine lv_aload_n hx hb dX7_together_20 rfl (lv_at hl 0 rfl) ?_
          refine va_get (D := D) (ci := 7) (v := .int (S_t.1 7)) (C := RX7) (T := TX7) (N := 26) hx hb hts hinX7 hown hK hP 0 rfl rfl 7 (by decide) (hts (.fieldLink RX7 62 "OnlyStrangersHearModel" "bells" "I") (by decide +kernel)) (fun _ h9 => h9) rfl dX7_together_21 ?_
          refine lv_icmp_ge (tgt := 57) hx hb dX7_together_24 (by decide) (fun c24 => ?_) (fun c24 => ?_)
          · replace hf := it_t c24 hf
            refine lv_iload_n hx hb dX7_together_57 rfl (lv_at hl 2 rfl) ?_
            refine lv_aload_n hx hb dX7_together_58 rfl (lv_at hl 0 rfl) ?_
            refine va_get (D := D) (ci := 7) (v := .int (S_t.1 7)) (C := RX7) (T := TX7) (N := 26) hx hb hts hinX7 hown hK hP 0 rfl rfl 7 (by decide) (hts (.fieldLink RX7 62 "OnlyStrangersHearModel" "bells" "I") (by decide +kernel)) (fun _ h9 => h9) rfl dX7_together_59 ?_
            refine lv_icmp_ne (tgt := 67) hx hb dX7_together_62 (by decide) (fun c62 => ?_) (fun c62 => ?_)
            · replace hf := it_f c62 hf
              refine lv_iinc (v := l1 + (1 : Int32)) (lv' := [(1, .int (l1 + (1 : Int32))), (0, .ref o_t), (2, .int l2), (3, .int l3)]) hx hb dX7_together_67 hl (k := 1) rfl rfl (by decide) rfl (fun ls hl => ?_)
              refine lv_goto (tgt := 2) hx hb dX7_together_70 (by decide) ?_
              exact ih2 S_t (l1 + (1 : Int32)) H locs ls hf hP hD hS (lv_sub hl [1, 0] rfl)
            · replace hf := it_t c62 hf
              refine lv_iload_n hx hb dX7_together_65 rfl (lv_at hl 1 rfl) ?_
              have e := so_some hf
              subst e
              exact ri hx hb hK hr hlk hQ dX7_together_66 hP hD hS
          · replace hf := it_f c24 hf
            refine lv_iload_n hx hb dX7_together_27 rfl (lv_at hl 2 rfl) ?_
            refine lv_aload_n hx hb dX7_together_28 rfl (lv_at hl 0 rfl) ?_
            refine va_get (D := D) (ci := 7) (v := .int (S_t.1 9)) (C := RX7) (T := TX7) (N := 26) hx hb hts hinX7 hown hK hP 0 rfl rfl 9 (by decide) (hts (.fieldLink RX7 107 "OnlyStrangersHearModel" "day" "I") (by decide +kernel)) (fun _ h9 => h9) rfl dX7_together_29 ?_
            refine lv_iload_n hx hb dX7_together_32 rfl (lv_at hl 1 rfl) ?_
            refine lv_iadd hx hb dX7_together_33 ?_
            refine lv_aload_n hx hb dX7_together_34 rfl (lv_at hl 0 rfl) ?_
            refine va_get (D := D) (ci := 7) (v := .ref (a_t 2)) (C := RX7) (T := TX7) (N := 26) hx hb hts hinX7 hown hK hP 0 rfl rfl 2 (by decide) (hts (.fieldLink RX7 16 "OnlyStrangersHearModel" "every" "[I") (by decide +kernel)) (fun _ h9 => h9) rfl dX7_together_35 ?_
            refine lv_iload_n hx hb dX7_together_38 rfl (lv_at hl 3 rfl) ?_
            obtain ⟨b39, hf⟩ := ck_some hf
            refine va_iald hx hb hK hP 3 0 rfl rfl b39 dX7_together_39 ?_
            obtain ⟨z40, hf⟩ := nz_some hf
            refine lv_irem hx hb dX7_together_40 z40 ?_
            refine lv_if_ne (tgt := 48) hx hb dX7_together_41 (by decide) (fun c41 => ?_) (fun c41 => ?_)
            · replace hf := it_f c41 hf
              refine lv_iconst (v := (0 : Int32)) hx hb dX7_together_48 (by decide) ?_
              refine lv_iadd hx hb dX7_together_49 ?_
              refine lv_istore_n (lv' := [(2, .int (l2 + (0 : Int32))), (0, .ref o_t), (1, .int l1), (3, .int l3)]) hx hb dX7_together_50 rfl hl (by decide) rfl (fun ls hl => ?_)
              refine lv_iinc (v := l3 + (1 : Int32)) (lv' := [(3, .int (l3 + (1 : Int32))), (2, .int (l2 + (0 : Int32))), (0, .ref o_t), (1, .int l1)]) hx hb dX7_together_51 hl (k := 3) rfl rfl (by decide) rfl (fun ls hl => ?_)
              refine lv_goto (tgt := 19) hx hb dX7_together_54 (by decide) ?_
              exact ih19 S_t l1 (l2 + (0 : Int32)) (l3 + (1 : Int32)) H locs ls hf hP hD hS (lv_sub hl [2, 3, 1, 0] rfl)
            · replace hf := it_t c41 hf
              refine lv_iconst (v := (1 : Int32)) hx hb dX7_together_44 (by decide) ?_
              refine lv_goto (tgt := 49) hx hb dX7_together_45 (by decide) ?_
              refine lv_iadd hx hb dX7_together_49 ?_
              refine lv_istore_n (lv' := [(2, .int (l2 + (1 : Int32))), (0, .ref o_t), (1, .int l1), (3, .int l3)]) hx hb dX7_together_50 rfl hl (by decide) rfl (fun ls hl => ?_)
              refine lv_iinc (v := l3 + (1 : Int32)) (lv' := [(3, .int (l3 + (1 : Int32))), (2, .int (l2 + (1 : Int32))), (0, .ref o_t), (1, .int l1)]) hx hb dX7_together_51 hl (k := 3) rfl rfl (by decide) rfl (fun ls hl => ?_)
              refine lv_goto (tgt := 19) hx hb dX7_together_54 (by decide) ?_
              exact ih19 S_t l1 (l2 + (1 : Int32)) (l3 + (1 : Int32)) H locs ls hf hP hD hS (lv_sub hl [2, 3, 1, 0] rfl)
      intro S_t l1 H locs ls hf hP hD hS hl
      replace hf : b_X7_together_2 (f_X7_together_2 n2) S_t l1 = some out := hf
      unfold b_X7_together_2 at hf
      refine lv_iload_n hx hb dX7_together_2 rfl (lv_at hl 1 rfl) ?_
      refine lv_bipush (v := (99 : Int32)) hx hb dX7_together_3 (by decide) ?_
      refine lv_icmp_gt (tgt := 73) hx hb dX7_together_5 (by decide) (fun c5 => ?_) (fun c5 => ?_)
      · replace hf := it_t c5 hf
        refine lv_bipush (v := (-9 : Int32)) hx hb dX7_together_73 (by decide) ?_
        have e := so_some hf
        subst e
        exact ri hx hb hK hr hlk hQ dX7_together_75 hP hD hS
      · replace hf := it_f c5 hf
        refine lv_aload_n hx hb dX7_together_8 rfl (lv_at hl 0 rfl) ?_
        refine va_get (D := D) (ci := 7) (v := .int (S_t.1 7)) (C := RX7) (T := TX7) (N := 26) hx hb hts hinX7 hown hK hP 0 rfl rfl 7 (by decide) (hts (.fieldLink RX7 62 "OnlyStrangersHearModel" "bells" "I") (by decide +kernel)) (fun _ h9 => h9) rfl dX7_together_9 ?_
        refine lv_if_le (tgt := 73) hx hb dX7_together_12 (by decide) (fun c12 => ?_) (fun c12 => ?_)
        · replace hf := it_t c12 hf
          refine lv_bipush (v := (-9 : Int32)) hx hb dX7_together_73 (by decide) ?_
          have e := so_some hf
          subst e
          exact ri hx hb hK hr hlk hQ dX7_together_75 hP hD hS
        · replace hf := it_f c12 hf
          refine lv_iconst (v := (0 : Int32)) hx hb dX7_together_15 (by decide) ?_
          refine lv_istore_n (lv' := [(2, .int (0 : Int32)), (0, .ref o_t), (1, .int l1)]) hx hb dX7_together_16 rfl hl (by decide) rfl (fun ls hl => ?_)
          refine lv_iconst (v := (0 : Int32)) hx hb dX7_together_17 (by decide) ?_
          refine lv_istore_n (lv' := [(3, .int (0 : Int32)), (2, .int (0 : Int32)), (0, .ref o_t), (1, .int l1)]) hx hb dX7_together_18 rfl hl (by decide) rfl (fun ls hl => ?_)
          exact j19 1000 S_t l1 (0 : Int32) (0 : Int32) H locs ls hf hP hD hS (lv_sub hl [2, 3, 1, 0] rfl)
  unfold f_X7_together at hf
  have hl : lv_has ls 4 [(0, .ref o_t)] := hl
  obtain ⟨H, hHe⟩ : ∃ H : Heap, H = s.heap := ⟨_, rfl⟩
  obtain ⟨locs, hle⟩ : ∃ q : List Loc, q = [] := ⟨_, rfl⟩
  have hS : va_S A s.heap H locs := by rw [hHe, hle]; exact hS
  rw [← hHe] at hP
  suffices hgo : W p l e rmX7_together s m ([.ref o_t] : List Value).toArray below meth c H locs 0 0 Q (F0 m 0 ls []) by rw [hHe, hle] at hgo; exact hgo
  clear hHe hle
  refine lv_iconst (v := (1 : Int32)) hx hb dX7_together_0 (by decide) ?_
  refine lv_istore_n (lv' := [(1, .int (1 : Int32)), (0, .ref o_t)]) hx hb dX7_together_1 rfl hl (by decide) rfl (fun ls hl => ?_)
  exact j2 1000 S_t (1 : Int32) H locs ls hf hP hD hS (lv_sub hl [1, 0] rfl)
abbrev rmX7_hearsIn : Room := { frames := 3, cells := 0, slots := 0, locals := 68 }
set_option maxHeartbeats 4000000 in
set_option maxRecDepth 100000 in
theorem c_X7_hearsIn (l : Launch) (D : va_G) (cI : ClassId) (o_t : Nat) (a_t : Nat → Nat) (S_t : G) (x1 : Int32) (x2 : Int32) (out : Int32 × G) (hf : f_X7_hearsIn S_t x1 x2 = some out) : Cn E0 l yX7_hearsIn wsX7_hearsIn rmX7_hearsIn D cI [.ref o_t, .int x1, .int x2] (gX7 o_t a_t cI S_t) (some (.int out.1)) (gX7 o_t a_t cI out.2) := by
  refine Cn.mk (cc := cX7_hearsIn) (maxL := 5) (ret := (some .int)) (by decide) rfl (Nat.le_of_ble_eq_true rfl) ?_
  intro p e s m below meth c A ls Q hx hb hml hown hts hK hA hP hD hS hl hr hlk hnm hE hQ
  have hown : s.vm.findClass RX7 = some m.cls := hown
  have j9 : ∀ (n9 : Nat) (S_t : G) (l1 : Int32) (l2 : Int32) (l3 : Int32) (l4 : Int32) (H : Heap) (locs : List Loc) (ls : Array Slot), f_X7_hearsIn_9 n9 S_t l1 l2 l3 l4 = some out → va_P D vwCl (gX7 o_t a_t cI S_t) H → va_D A (gX7 o_t a_t cI S_t) → va_S A s.heap H locs → lv_has ls 5 [(0, .ref o_t), (1, .int l1), (2, .int l2), (3, .int l3), (4, .int l4)] → W p l e rmX7_hearsIn s m ([.ref o_t, .int x1, .int x2] : List Value).toArray below meth c H locs 0 0 Q (F0 m 9 ls []) := by
    intro n9
    induction n9 with
    | zero =>
      intro S_t l1 l2 l3 l4 H locs ls hf
      exact no_some hf
    | succ n9 ih9 =>
      intro S_t l1 l2 l3 l4 H locs ls hf hP hD hS hl
      replace hf : b_X7_hearsIn_9 (f_X7_hearsIn_9 n9) S_t l1 l2 l3 l4 = some out := hf
      unfold b_X7_hearsIn_9 at hf
      refine lv_iload hx hb dX7_hearsIn_9 (lv_at hl 4 rfl) ?_
      refine lv_bipush (v := (20 : Int32)) hx hb dX7_hearsIn_11 (by decide) ?_
      refine lv_icmp_ge (tgt := 44) hx hb dX7_hearsIn_13 (by decide) (fun c13 => ?_) (fun c13 => ?_)
      · replace hf := it_t c13 hf
        refine lv_aload_n hx hb dX7_hearsIn_44 rfl (lv_at hl 0 rfl) ?_
        obtain ⟨r45, u45, h45, hf⟩ := bd_some hf
        refine calX0 (runV E0.b E0.n (As := []) (rest := []) ⟨hx, hb, hml, hown, hts⟩ (c_X7_forgets l D cI o_t a_t S_t _ h45) gX7_hearsIn_X7_forgets rfl rfl rfl hdX7_forgets ⟨by decide, by decide⟩ hK hP hD 0 rfl rfl rfl hl.1 rfl (Nat.le_of_ble_eq_true rfl) dX7_hearsIn_45 ⟨Nat.zero_le _, Nat.zero_le _⟩) hD hS hA (fun H locs hP hD hS => ?_)
        have hP : va_P D vwCl (gX7 o_t a_t cI u45) H := hP
        have hD : va_D A (gX7 o_t a_t cI u45) := hD
        refine W.eq (g2 := F0 m 48 ls []) rfl ?_
        refine lv_iload_n hx hb dX7_hearsIn_48 rfl (lv_at hl 3 rfl) ?_
        have e := so_some hf
        subst e
        exact ri hx hb hK hr hlk hQ dX7_hearsIn_49 hP hD hS
      · replace hf := it_f c13 hf
        refine lv_aload_n hx hb dX7_hearsIn_16 rfl (lv_at hl 0 rfl) ?_
        refine lv_iconst (v := (0 : Int32)) hx hb dX7_hearsIn_17 (by decide) ?_
        obtain ⟨r18, u18, h18, hf⟩ := bd_some hf
        refine calX0 (runV E0.b E0.n (As := [.int (0 : Int32)]) (rest := []) ⟨hx, hb, hml, hown, hts⟩ (c_X7_goesDay l D cI o_t a_t S_t (0 : Int32) _ h18) gX7_hearsIn_X7_goesDay rfl rfl rfl hdX7_goesDay ⟨by decide, by decide⟩ hK hP hD 0 rfl rfl rfl hl.1 rfl (Nat.le_of_ble_eq_true rfl) dX7_hearsIn_18 ⟨Nat.zero_le _, Nat.zero_le _⟩) hD hS hA (fun H locs hP hD hS => ?_)
        have hP : va_P D vwCl (gX7 o_t a_t cI u18) H := hP
        have hD : va_D A (gX7 o_t a_t cI u18) := hD
        refine W.eq (g2 := F0 m 21 ls []) rfl ?_
        refine lv_iload_n hx hb dX7_hearsIn_21 rfl (lv_at hl 3 rfl) ?_
        refine lv_aload_n hx hb dX7_hearsIn_22 rfl (lv_at hl 0 rfl) ?_
        refine lv_iload_n hx hb dX7_hearsIn_23 rfl (lv_at hl 1 rfl) ?_
        refine lv_iload_n hx hb dX7_hearsIn_24 rfl (lv_at hl 2 rfl) ?_
        obtain ⟨r25, u25, h25, hf⟩ := bd_some hf
        refine calX0 (runV E0.b E0.n (As := [.int l1, .int l2]) (rest := [.int l3]) ⟨hx, hb, hml, hown, hts⟩ (c_X7_hears l D cI o_t a_t u18 l1 l2 _ h25) gX7_hearsIn_X7_hears rfl rfl rfl hdX7_hears ⟨by decide, by decide⟩ hK hP hD 0 rfl rfl rfl hl.1 rfl (Nat.le_of_ble_eq_true rfl) dX7_hearsIn_25 ⟨Nat.zero_le _, Nat.zero_le _⟩) hD hS hA (fun H locs hP hD hS => ?_)
        have hP : va_P D vwCl (gX7 o_t a_t cI u25) H := hP
        have hD : va_D A (gX7 o_t a_t cI u25) := hD
        refine W.eq (g2 := F0 m 28 ls [.int r25, .int l3]) rfl ?_
        refine lv_if_eq (tgt := 35) hx hb dX7_hearsIn_28 (by decide) (fun c28 => ?_) (fun c28 => ?_)
        · replace hf := it_t c28 hf
          refine lv_iconst (v := (0 : Int32)) hx hb dX7_hearsIn_35 (by decide) ?_
          refine lv_iadd hx hb dX7_hearsIn_36 ?_
          refine lv_istore_n (lv' := [(3, .int (l3 + (0 : Int32))), (0, .ref o_t), (1, .int l1), (2, .int l2), (4, .int l4)]) hx hb dX7_hearsIn_37 rfl hl (by decide) rfl (fun ls hl => ?_)
          refine lv_iinc (v := l4 + (1 : Int32)) (lv' := [(4, .int (l4 + (1 : Int32))), (3, .int (l3 + (0 : Int32))), (0, .ref o_t), (1, .int l1), (2, .int l2)]) hx hb dX7_hearsIn_38 hl (k := 4) rfl rfl (by decide) rfl (fun ls hl => ?_)
          refine lv_goto (tgt := 9) hx hb dX7_hearsIn_41 (by decide) ?_
          exact ih9 u25 l1 l2 (l3 + (0 : Int32)) (l4 + (1 : Int32)) H locs ls hf hP hD hS (lv_sub hl [2, 3, 4, 1, 0] rfl)
        · replace hf := it_f c28 hf
          refine lv_iconst (v := (1 : Int32)) hx hb dX7_hearsIn_31 (by decide) ?_
          refine lv_goto (tgt := 36) hx hb dX7_hearsIn_32 (by decide) ?_
          refine lv_iadd hx hb dX7_hearsIn_36 ?_
          refine lv_istore_n (lv' := [(3, .int (l3 + (1 : Int32))), (0, .ref o_t), (1, .int l1), (2, .int l2), (4, .int l4)]) hx hb dX7_hearsIn_37 rfl hl (by decide) rfl (fun ls hl => ?_)
          refine lv_iinc (v := l4 + (1 : Int32)) (lv' := [(4, .int (l4 + (1 : Int32))), (3, .int (l3 + (1 : Int32))), (0, .ref o_t), (1, .int l1), (2, .int l2)]) hx hb dX7_hearsIn_38 hl (k := 4) rfl rfl (by decide) rfl (fun ls hl => ?_)
          refine lv_goto (tgt := 9) hx hb dX7_hearsIn_41 (by decide) ?_
          exact ih9 u25 l1 l2 (l3 + (1 : Int32)) (l4 + (1 : Int32)) H locs ls hf hP hD hS (lv_sub hl [2, 3, 4, 1, 0] rfl)
  unfold f_X7_hearsIn at hf
  have hl : lv_has ls 5 [(0, .ref o_t), (1, .int x1), (2, .int x2)] := hl
  obtain ⟨H, hHe⟩ : ∃ H : Heap, H = s.heap := ⟨_, rfl⟩
  obtain ⟨locs, hle⟩ : ∃ q : List Loc, q = [] := ⟨_, rfl⟩
  have hS : va_S A s.heap H locs := by rw [hHe, hle]; exact hS
  rw [← hHe] at hP
  suffices hgo : W p l e rmX7_hearsIn s m ([.ref o_t, .int x1, .int x2] : List Value).toArray below meth c H locs 0 0 Q (F0 m 0 ls []) by rw [hHe, hle] at hgo; exact hgo
  clear hHe hle
  refine lv_aload_n hx hb dX7_hearsIn_0 rfl (lv_at hl 0 rfl) ?_
  obtain ⟨r1, u1, h1, hf⟩ := bd_some hf
  refine calX0 (runV E0.b E0.n (As := []) (rest := []) ⟨hx, hb, hml, hown, hts⟩ (c_X7_thinks l D cI o_t a_t S_t _ h1) gX7_hearsIn_X7_thinks rfl rfl rfl hdX7_thinks ⟨by decide, by decide⟩ hK hP hD 0 rfl rfl rfl hl.1 rfl (Nat.le_of_ble_eq_true rfl) dX7_hearsIn_1 ⟨Nat.zero_le _, Nat.zero_le _⟩) hD hS hA (fun H locs hP hD hS => ?_)
  have hP : va_P D vwCl (gX7 o_t a_t cI u1) H := hP
  have hD : va_D A (gX7 o_t a_t cI u1) := hD
  refine W.eq (g2 := F0 m 4 ls []) rfl ?_
  refine lv_iconst (v := (0 : Int32)) hx hb dX7_hearsIn_4 (by decide) ?_
  refine lv_istore_n (lv' := [(3, .int (0 : Int32)), (0, .ref o_t), (1, .int x1), (2, .int x2)]) hx hb dX7_hearsIn_5 rfl hl (by decide) rfl (fun ls hl => ?_)
  refine lv_iconst (v := (0 : Int32)) hx hb dX7_hearsIn_6 (by decide) ?_
  refine lv_istore (lv' := [(4, .int (0 : Int32)), (3, .int (0 : Int32)), (0, .ref o_t), (1, .int x1), (2, .int x2)]) hx hb dX7_hearsIn_7 hl (by decide) rfl (fun ls hl => ?_)
  exact j9 1000 u1 x1 x2 (0 : Int32) (0 : Int32) H locs ls hf hP hD hS (lv_sub hl [2, 3, 4, 1, 0] rfl)
abbrev rmX7_cost : Room := { frames := 4, cells := 0, slots := 0, locals := 92 }
set_option maxHeartbeats 4000000 in
set_option maxRecDepth 100000 in
theorem c_X7_cost (l : Launch) (D : va_G) (cI : ClassId) (o_t : Nat) (a_t : Nat → Nat) (S_t : G) (x1 : Int32) (x2 : Int32) (x3 : Int32) (out : Int32 × G) (hf : f_X7_cost S_t x1 x2 x3 = some out) : Cn E0 l yX7_cost wsX7_cost rmX7_cost D cI [.ref o_t, .int x1, .int x2, .int x3] (gX7 o_t a_t cI S_t) (some (.int out.1)) (gX7 o_t a_t cI out.2) := by
  refine Cn.mk (cc := cX7_cost) (maxL := 8) (ret := (some .int)) (by decide) rfl (Nat.le_of_ble_eq_true rfl) ?_
  intro p e s m below meth c A ls Q hx hb hml hown hts hK hA hP hD hS hl hr hlk hnm hE hQ
  have hown : s.vm.findClass RX7 = some m.cls := hown
  have hinX7 : ∀ w ∈ u_ws RX7 TX7 26, w ∈ wsX7_cost := by decide +kernel
  have j27 : ∀ (S_t : G) (l1 : Int32) (l2 : Int32) (l3 : Int32) (s0 : Int32) (H : Heap) (locs : List Loc) (ls : Array Slot), f_X7_cost_27 S_t l1 l2 l3 s0 = some out → va_P D vwCl (gX7 o_t a_t cI S_t) H → va_D A (gX7 o_t a_t cI S_t) → va_S A s.heap H locs → lv_has ls 8 [(0, .ref o_t), (1, .int l1), (2, .int l2), (3, .int l3)] → W p l e rmX7_cost s m ([.ref o_t, .int x1, .int x2, .int x3] : List Value).toArray below meth c H locs 0 0 Q (F0 m 27 ls [.int s0]) := by
    intro S_t l1 l2 l3 s0 H locs ls hf hP hD hS hl
    unfold f_X7_cost_27 at hf
    refine lv_istore (lv' := [(4, .int s0), (0, .ref o_t), (1, .int l1), (2, .int l2), (3, .int l3)]) hx hb dX7_cost_27 hl (by decide) rfl (fun ls hl => ?_)
    refine lv_iload hx hb dX7_cost_29 (lv_at hl 0 rfl) ?_
    refine lv_if_eq (tgt := 41) hx hb dX7_cost_31 (by decide) (fun c31 => ?_) (fun c31 => ?_)
    · replace hf := it_t c31 hf
      refine lv_aload_n hx hb dX7_cost_41 rfl (lv_at hl 1 rfl) ?_
      refine lv_iload_n hx hb dX7_cost_42 rfl (lv_at hl 2 rfl) ?_
      refine lv_iload_n hx hb dX7_cost_43 rfl (lv_at hl 4 rfl) ?_
      obtain ⟨r44, u44, h44, hf⟩ := bd_some hf
      refine calX0 (runV E0.b E0.n (As := [.int l1, .int l3]) (rest := []) ⟨hx, hb, hml, hown, hts⟩ (c_X7_hearsIn l D cI o_t a_t S_t l1 l3 _ h44) gX7_cost_X7_hearsIn rfl rfl rfl hdX7_hearsIn ⟨by decide, by decide⟩ hK hP hD 0 rfl rfl rfl hl.1 rfl (Nat.le_of_ble_eq_true rfl) dX7_cost_44 ⟨Nat.zero_le _, Nat.zero_le _⟩) hD hS hA (fun H locs hP hD hS => ?_)
      have hP : va_P D vwCl (gX7 o_t a_t cI u44) H := hP
      have hD : va_D A (gX7 o_t a_t cI u44) := hD
      refine W.eq (g2 := F0 m 47 ls [.int r44]) rfl ?_
      refine lv_istore (lv' := [(5, .int r44), (4, .int s0), (0, .ref o_t), (1, .int l1), (2, .int l2), (3, .int l3)]) hx hb dX7_cost_47 hl (by decide) rfl (fun ls hl => ?_)
      refine lv_aload_n hx hb dX7_cost_49 rfl (lv_at hl 2 rfl) ?_
      refine va_get (D := D) (ci := 7) (v := .ref (a_t 6)) (C := RX7) (T := TX7) (N := 26) hx hb hts hinX7 hown hK hP 0 rfl rfl 6 (by decide) (hts (.fieldLink RX7 28 "OnlyStrangersHearModel" "away" "[I") (by decide +kernel)) (fun _ h9 => h9) rfl dX7_cost_50 ?_
      refine lv_iload_n hx hb dX7_cost_53 rfl (lv_at hl 3 rfl) ?_
      obtain ⟨b54, hf⟩ := ck_some hf
      refine va_iald hx hb hK hP 7 0 rfl rfl b54 dX7_cost_54 ?_
      refine lv_istore (lv' := [(6, .int (u44.2 6 l1.toNatClampNeg)), (5, .int r44), (4, .int s0), (0, .ref o_t), (1, .int l1), (2, .int l2), (3, .int l3)]) hx hb dX7_cost_55 hl (by decide) rfl (fun ls hl => ?_)
      refine lv_aload_n hx hb dX7_cost_57 rfl (lv_at hl 3 rfl) ?_
      refine va_get (D := D) (ci := 7) (v := .ref (a_t 6)) (C := RX7) (T := TX7) (N := 26) hx hb hts hinX7 hown hK hP 0 rfl rfl 6 (by decide) (hts (.fieldLink RX7 28 "OnlyStrangersHearModel" "away" "[I") (by decide +kernel)) (fun _ h9 => h9) rfl dX7_cost_58 ?_
      refine lv_iload_n hx hb dX7_cost_61 rfl (lv_at hl 4 rfl) ?_
      refine lv_iload_n hx hb dX7_cost_62 rfl (lv_at hl 5 rfl) ?_
      obtain ⟨b63, hf⟩ := ck_some hf
      refine va_iast hx hb hK hP hD hS 7 0 rfl rfl b63 dX7_cost_63 (fun H locs hP hD hS => ?_)
      have hP : va_P D vwCl (gX7 o_t a_t cI (pA u44 6 l1.toNatClampNeg l2)) H := hP
      have hD : va_D A (gX7 o_t a_t cI (pA u44 6 l1.toNatClampNeg l2)) := hD
      obtain ⟨g63, e63, hf⟩ := lt_some hf
      rw [← e63] at hP hD
      refine lv_aload_n hx hb dX7_cost_64 rfl (lv_at hl 3 rfl) ?_
      refine lv_iload_n hx hb dX7_cost_65 rfl (lv_at hl 4 rfl) ?_
      refine lv_iload_n hx hb dX7_cost_66 rfl (lv_at hl 6 rfl) ?_
      obtain ⟨r67, u67, h67, hf⟩ := bd_some hf
      refine calX0 (runV E0.b E0.n (As := [.int l1, .int l3]) (rest := []) ⟨hx, hb, hml, hown, hts⟩ (c_X7_hearsIn l D cI o_t a_t g63 l1 l3 _ h67) gX7_cost_X7_hearsIn rfl rfl rfl hdX7_hearsIn ⟨by decide, by decide⟩ hK hP hD 0 rfl rfl rfl hl.1 rfl (Nat.le_of_ble_eq_true rfl) dX7_cost_67 ⟨Nat.zero_le _, Nat.zero_le _⟩) hD hS hA (fun H locs hP hD hS => ?_)
      have hP : va_P D vwCl (gX7 o_t a_t cI u67) H := hP
      have hD : va_D A (gX7 o_t a_t cI u67) := hD
      refine W.eq (g2 := F0 m 70 ls [.int r67]) rfl ?_
      refine lv_istore (lv' := [(7, .int r67), (6, .int (u44.2 6 l1.toNatClampNeg)), (5, .int r44), (4, .int s0), (0, .ref o_t), (1, .int l1), (2, .int l2), (3, .int l3)]) hx hb dX7_cost_70 hl (by decide) rfl (fun ls hl => ?_)
      refine lv_aload_n hx hb dX7_cost_72 rfl (lv_at hl 4 rfl) ?_
      refine va_get (D := D) (ci := 7) (v := .ref (a_t 6)) (C := RX7) (T := TX7) (N := 26) hx hb hts hinX7 hown hK hP 0 rfl rfl 6 (by decide) (hts (.fieldLink RX7 28 "OnlyStrangersHearModel" "away" "[I") (by decide +kernel)) (fun _ h9 => h9) rfl dX7_cost_73 ?_
      refine lv_iload_n hx hb dX7_cost_76 rfl (lv_at hl 5 rfl) ?_
      refine lv_iload hx hb dX7_cost_77 (lv_at hl 1 rfl) ?_
      obtain ⟨b79, hf⟩ := ck_some hf
      refine va_iast hx hb hK hP hD hS 7 0 rfl rfl b79 dX7_cost_79 (fun H locs hP hD hS => ?_)
      have hP : va_P D vwCl (gX7 o_t a_t cI (pA u67 6 l1.toNatClampNeg (u44.2 6 l1.toNatClampNeg))) H := hP
      have hD : va_D A (gX7 o_t a_t cI (pA u67 6 l1.toNatClampNeg (u44.2 6 l1.toNatClampNeg))) := hD
      obtain ⟨g79, e79, hf⟩ := lt_some hf
      rw [← e79] at hP hD
      refine lv_iload hx hb dX7_cost_80 (lv_at hl 2 rfl) ?_
      refine lv_iload hx hb dX7_cost_82 (lv_at hl 0 rfl) ?_
      refine lv_isub hx hb dX7_cost_84 ?_
      have e := so_some hf
      subst e
      exact ri hx hb hK hr hlk hQ dX7_cost_85 hP hD hS
    · replace hf := it_f c31 hf
      refine lv_aload_n hx hb dX7_cost_34 rfl (lv_at hl 1 rfl) ?_
      refine lv_iload hx hb dX7_cost_35 (lv_at hl 0 rfl) ?_
      obtain ⟨r37, u37, h37, hf⟩ := bd_some hf
      refine calX0 (runV E0.b E0.n (As := [.int s0]) (rest := []) ⟨hx, hb, hml, hown, hts⟩ (c_X7_lower l D cI o_t a_t S_t s0 _ h37) gX7_cost_X7_lower rfl rfl rfl hdX7_lower ⟨by decide, by decide⟩ hK hP hD 0 rfl rfl rfl hl.1 rfl (Nat.le_of_ble_eq_true rfl) dX7_cost_37 ⟨Nat.zero_le _, Nat.zero_le _⟩) hD hS hA (fun H locs hP hD hS => ?_)
      have hP : va_P D vwCl (gX7 o_t a_t cI u37) H := hP
      have hD : va_D A (gX7 o_t a_t cI u37) := hD
      refine W.eq (g2 := F0 m 40 ls [.int r37]) rfl ?_
      have e := so_some hf
      subst e
      exact ri hx hb hK hr hlk hQ dX7_cost_40 hP hD hS
  have j16 : ∀ (S_t : G) (l1 : Int32) (l2 : Int32) (l3 : Int32) (H : Heap) (locs : List Loc) (ls : Array Slot), f_X7_cost_16 S_t l1 l2 l3 = some out → va_P D vwCl (gX7 o_t a_t cI S_t) H → va_D A (gX7 o_t a_t cI S_t) → va_S A s.heap H locs → lv_has ls 8 [(0, .ref o_t), (1, .int l1), (2, .int l2), (3, .int l3)] → W p l e rmX7_cost s m ([.ref o_t, .int x1, .int x2, .int x3] : List Value).toArray below meth c H locs 0 0 Q (F0 m 16 ls []) := by
    intro S_t l1 l2 l3 H locs ls hf hP hD hS hl
    unfold f_X7_cost_16 at hf
    refine lv_iconst (v := (-1 : Int32)) hx hb dX7_cost_16 (by decide) ?_
    refine lv_goto (tgt := 27) hx hb dX7_cost_17 (by decide) ?_
    exact j27 S_t l1 l2 l3 (-1 : Int32) H locs ls hf hP hD hS (lv_sub hl [0, 1, 2, 3] rfl)
  unfold f_X7_cost at hf
  have hl : lv_has ls 8 [(0, .ref o_t), (1, .int x1), (2, .int x2), (3, .int x3)] := hl
  obtain ⟨H, hHe⟩ : ∃ H : Heap, H = s.heap := ⟨_, rfl⟩
  obtain ⟨locs, hle⟩ : ∃ q : List Loc, q = [] := ⟨_, rfl⟩
  have hS : va_S A s.heap H locs := by rw [hHe, hle]; exact hS
  rw [← hHe] at hP
  suffices hgo : W p l e rmX7_cost s m ([.ref o_t, .int x1, .int x2, .int x3] : List Value).toArray below meth c H locs 0 0 Q (F0 m 0 ls []) by rw [hHe, hle] at hgo; exact hgo
  clear hHe hle
  refine lv_aload_n hx hb dX7_cost_0 rfl (lv_at hl 0 rfl) ?_
  refine lv_iload_n hx hb dX7_cost_1 rfl (lv_at hl 1 rfl) ?_
  obtain ⟨r2, u2, h2, hf⟩ := bd_some hf
  refine calX0 (runV E0.b E0.n (As := [.int x1]) (rest := []) ⟨hx, hb, hml, hown, hts⟩ (c_X7_isOne l D cI o_t a_t S_t x1 _ h2) gX7_cost_X7_isOne rfl rfl rfl hdX7_isOne ⟨by decide, by decide⟩ hK hP hD 0 rfl rfl rfl hl.1 rfl (Nat.le_of_ble_eq_true rfl) dX7_cost_2 ⟨Nat.zero_le _, Nat.zero_le _⟩) hD hS hA (fun H locs hP hD hS => ?_)
  have hP : va_P D vwCl (gX7 o_t a_t cI u2) H := hP
  have hD : va_D A (gX7 o_t a_t cI u2) := hD
  refine W.eq (g2 := F0 m 5 ls [.int r2]) rfl ?_
  refine lv_if_eq (tgt := 16) hx hb dX7_cost_5 (by decide) (fun c5 => ?_) (fun c5 => ?_)
  · replace hf := it_t c5 hf
    exact j16 u2 x1 x2 x3 H locs ls hf hP hD hS (lv_sub hl [0, 1, 2, 3] rfl)
  · replace hf := it_f c5 hf
    refine lv_aload_n hx hb dX7_cost_8 rfl (lv_at hl 0 rfl) ?_
    refine lv_iload_n hx hb dX7_cost_9 rfl (lv_at hl 3 rfl) ?_
    obtain ⟨r10, u10, h10, hf⟩ := bd_some hf
    refine calX0 (runV E0.b E0.n (As := [.int x3]) (rest := []) ⟨hx, hb, hml, hown, hts⟩ (c_X7_isBell l D cI o_t a_t u2 x3 _ h10) gX7_cost_X7_isBell rfl rfl rfl hdX7_isBell ⟨by decide, by decide⟩ hK hP hD 0 rfl rfl rfl hl.1 rfl (Nat.le_of_ble_eq_true rfl) dX7_cost_10 ⟨Nat.zero_le _, Nat.zero_le _⟩) hD hS hA (fun H locs hP hD hS => ?_)
    have hP : va_P D vwCl (gX7 o_t a_t cI u10) H := hP
    have hD : va_D A (gX7 o_t a_t cI u10) := hD
    refine W.eq (g2 := F0 m 13 ls [.int r10]) rfl ?_
    refine lv_if_ne (tgt := 20) hx hb dX7_cost_13 (by decide) (fun c13 => ?_) (fun c13 => ?_)
    · replace hf := it_f c13 hf
      refine lv_iload_n hx hb dX7_cost_20 rfl (lv_at hl 2 rfl) ?_
      refine lv_iconst (v := (1 : Int32)) hx hb dX7_cost_21 (by decide) ?_
      refine lv_bipush (v := (9 : Int32)) hx hb dX7_cost_22 (by decide) ?_
      obtain ⟨r24, u24, h24, hf⟩ := bd_some hf
      have hPc : va_P D vwCl [] H := hP.sub (ws' := []) [] rfl
      have hDc : va_D A [] := hD.sub (ws' := []) [] (by decide) rfl
      refine calXe (runS E0.b E0.n (As := [.int x2, .int (1 : Int32), .int (9 : Int32)]) (rest := []) ⟨hx, hb, hml, hown, hts⟩ (c_X7_bound l D cI x2 (1 : Int32) (9 : Int32) _ h24) gX7_cost_X7_bound rfl rfl rfl hdX7_bound ⟨by decide, by decide⟩ hK hPc hDc rfl hl.1 rfl (Nat.le_of_ble_eq_true rfl) dX7_cost_24 ⟨Nat.zero_le _, Nat.zero_le _⟩) hP hD hS hA (fun H locs hP hD hS => ?_)
      have hP : va_P D vwCl (gX7 o_t a_t cI u10) H := hP
      have hD : va_D A (gX7 o_t a_t cI u10) := hD
      refine W.eq (g2 := F0 m 27 ls [.int r24]) rfl ?_
      exact j27 u10 x1 x2 x3 r24 H locs ls hf hP hD hS (lv_sub hl [0, 1, 2, 3] rfl)
    · replace hf := it_t c13 hf
      exact j16 u10 x1 x2 x3 H locs ls hf hP hD hS (lv_sub hl [0, 1, 2, 3] rfl)
