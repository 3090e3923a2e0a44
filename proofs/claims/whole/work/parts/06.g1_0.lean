abbrev rmX1_after : Room := { frames := 3, cells := 0, slots := 0, locals := 68 }
set_option maxHeartbeats 4000000 in
set_option maxRecDepth 100000 in
theorem c_X1_after (l : Launch) (D : va_G) (cI : ClassId) (o_t : Nat) (a_t : Nat → Nat) (a_t_0 : Nat → Nat) (o_p1 : Nat) (a_p1 : Nat → Nat) (S_t_0 : G) (S_p1 : G) (x2 : Int32) (out : Unit × G × G) (hf : f_X1_after S_t_0 S_p1 x2 = some out) : Cn E0 l yX1_after wsX1_after rmX1_after D cI [.ref o_t, .ref o_p1, .int x2] (gX1 o_t a_t ++ (gX4 (a_t 0) a_t_0 cI S_t_0 ++ gX4 o_p1 a_p1 cI S_p1)) (some (.ref (a_t 0))) (gX1 o_t a_t ++ (gX4 (a_t 0) a_t_0 cI out.2.1 ++ gX4 o_p1 a_p1 cI out.2.2)) := by
  refine Cn.mk (cc := cX1_after) (maxL := 3) (ret := (some (.object "OnlyStrangersHear$Town"))) (by decide) rfl (Nat.le_of_ble_eq_true rfl) ?_
  intro p e s m below meth c A ls Q hx hb hml hown hts hK hA hP hD hS hl hr hlk hnm hE hQ
  have hown : s.vm.findClass RX1 = some m.cls := hown
  have hinX1 : ∀ w ∈ u_ws RX1 TX1 1, w ∈ wsX1_after := by decide +kernel
  unfold f_X1_after at hf
  have hl : lv_has ls 3 [(0, .ref o_t), (1, .ref o_p1), (2, .int x2)] := hl
  obtain ⟨H, hHe⟩ : ∃ H : Heap, H = s.heap := ⟨_, rfl⟩
  obtain ⟨locs, hle⟩ : ∃ q : List Loc, q = [] := ⟨_, rfl⟩
  have hS : va_S A s.heap H locs := by rw [hHe, hle]; exact hS
  rw [← hHe] at hP
  suffices hgo : W p l e rmX1_after s m ([.ref o_t, .ref o_p1, .int x2] : List Value).toArray below meth c H locs 0 0 Q (F0 m 0 ls []) by rw [hHe, hle] at hgo; exact hgo
  clear hHe hle
  refine lv_aload_n hx hb dX1_after_0 rfl (lv_at hl 0 rfl) ?_
  refine va_get (D := D) (ci := 1) (v := .ref (a_t 0)) (C := RX1) (T := TX1) (N := 1) hx hb hts hinX1 hown hK hP 0 rfl rfl 0 (by decide) (hts (.fieldLink RX1 12 "OnlyStrangersHear$Mind" "then" "LOnlyStrangersHear$Town;") (by decide +kernel)) (fun _ h9 => h9) rfl dX1_after_1 ?_
  refine lv_aload_n hx hb dX1_after_4 rfl (lv_at hl 1 rfl) ?_
  obtain ⟨r5, u5, h5, hf⟩ := bd_some hf
  have hPc := hP.sub (ws' := gX4 (a_t 0) a_t_0 cI S_t_0 ++ gX4 o_p1 a_p1 cI S_p1) [1, 2, 3, 4, 5, 6, 7, 8, 9, 10, 11, 12, 13, 14] rfl
  have hDc := hD.sub (ws' := gX4 (a_t 0) a_t_0 cI S_t_0 ++ gX4 o_p1 a_p1 cI S_p1) [1, 2, 3, 4, 5, 6, 7, 8, 9, 10, 11, 12, 13, 14] (by decide) rfl
  refine calX (runV E0.b E0.n (As := [.ref o_p1]) (rest := []) ⟨hx, hb, hml, hown, hts⟩ (c_X4_become l D cI (a_t 0) a_t_0 o_p1 a_p1 S_t_0 S_p1 _ h5) gX1_after_X4_become rfl rfl rfl hdX4_become ⟨by decide, by decide⟩ hK hPc hDc 0 rfl rfl rfl hl.1 rfl (Nat.le_of_ble_eq_true rfl) dX1_after_5 ⟨Nat.zero_le _, Nat.zero_le _⟩) hP hD hS hA [1, 2, 3, 4, 5, 6, 7, 8, 9, 10, 11, 12, 13, 14] [0] [0, 1, 2, 3, 4, 5, 6, 7, 8, 9, 10, 11, 12, 13, 14] (wr := gX1 o_t a_t) (wn := gX1 o_t a_t ++ (gX4 (a_t 0) a_t_0 cI u5.1 ++ gX4 o_p1 a_p1 cI u5.2)) rfl rfl (by decide) (by decide) rfl (by decide) (fun H locs hP hD hS => ?_)
  have hP : va_P D vwCl (gX1 o_t a_t ++ (gX4 (a_t 0) a_t_0 cI u5.1 ++ gX4 o_p1 a_p1 cI u5.2)) H := hP
  have hD : va_D A (gX1 o_t a_t ++ (gX4 (a_t 0) a_t_0 cI u5.1 ++ gX4 o_p1 a_p1 cI u5.2)) := hD
  refine W.eq (g2 := F0 m 8 ls []) rfl ?_
  refine lv_aload_n hx hb dX1_after_8 rfl (lv_at hl 0 rfl) ?_
  refine va_get (D := D) (ci := 1) (v := .ref (a_t 0)) (C := RX1) (T := TX1) (N := 1) hx hb hts hinX1 hown hK hP 0 rfl rfl 0 (by decide) (hts (.fieldLink RX1 12 "OnlyStrangersHear$Mind" "then" "LOnlyStrangersHear$Town;") (by decide +kernel)) (fun _ h9 => h9) rfl dX1_after_9 ?_
  refine lv_iload_n hx hb dX1_after_12 rfl (lv_at hl 2 rfl) ?_
  obtain ⟨r13, u13, h13, hf⟩ := bd_some hf
  have hPc := hP.sub (ws' := gX4 (a_t 0) a_t_0 cI u5.1) [1, 2, 3, 4, 5, 6, 7] rfl
  have hDc := hD.sub (ws' := gX4 (a_t 0) a_t_0 cI u5.1) [1, 2, 3, 4, 5, 6, 7] (by decide) rfl
  refine calX (runV E0.b E0.n (As := [.int x2]) (rest := []) ⟨hx, hb, hml, hown, hts⟩ (c_X4_pass l D cI (a_t 0) a_t_0 u5.1 x2 _ h13) gX1_after_X4_pass rfl rfl rfl hdX4_pass ⟨by decide, by decide⟩ hK hPc hDc 0 rfl rfl rfl hl.1 rfl (Nat.le_of_ble_eq_true rfl) dX1_after_13 ⟨Nat.zero_le _, Nat.zero_le _⟩) hP hD hS hA [1, 2, 3, 4, 5, 6, 7] [0, 8, 9, 10, 11, 12, 13, 14] [0, 8, 9, 10, 11, 12, 13, 14, 1, 2, 3, 4, 5, 6, 7] (wr := gX1 o_t a_t ++ gX4 o_p1 a_p1 cI u5.2) (wn := gX1 o_t a_t ++ (gX4 (a_t 0) a_t_0 cI u13 ++ gX4 o_p1 a_p1 cI u5.2)) rfl rfl (by decide) (by decide) rfl (by decide) (fun H locs hP hD hS => ?_)
  have hP : va_P D vwCl (gX1 o_t a_t ++ (gX4 (a_t 0) a_t_0 cI u13 ++ gX4 o_p1 a_p1 cI u5.2)) H := hP
  have hD : va_D A (gX1 o_t a_t ++ (gX4 (a_t 0) a_t_0 cI u13 ++ gX4 o_p1 a_p1 cI u5.2)) := hD
  refine W.eq (g2 := F0 m 16 ls []) rfl ?_
  refine lv_aload_n hx hb dX1_after_16 rfl (lv_at hl 0 rfl) ?_
  refine va_get (D := D) (ci := 1) (v := .ref (a_t 0)) (C := RX1) (T := TX1) (N := 1) hx hb hts hinX1 hown hK hP 0 rfl rfl 0 (by decide) (hts (.fieldLink RX1 12 "OnlyStrangersHear$Mind" "then" "LOnlyStrangersHear$Town;") (by decide +kernel)) (fun _ h9 => h9) rfl dX1_after_17 ?_
  have e := so_some hf
  subst e
  exact rr hx hb hK hr hlk hQ dX1_after_20 hP hD hS
abbrev rmX1_deafAfter : Room := { frames := 3, cells := 0, slots := 0, locals := 68 }
set_option maxHeartbeats 4000000 in
set_option maxRecDepth 100000 in
theorem c_X1_deafAfter (l : Launch) (D : va_G) (cI : ClassId) (o_t : Nat) (a_t : Nat → Nat) (a_t_0 : Nat → Nat) (o_p1 : Nat) (a_p1 : Nat → Nat) (S_t_0 : G) (S_p1 : G) (x2 : Int32) (out : Int32 × G × G) (hf : f_X1_deafAfter S_t_0 S_p1 x2 = some out) : Cn E0 l yX1_deafAfter wsX1_deafAfter rmX1_deafAfter D cI [.ref o_t, .ref o_p1, .int x2] (gX1 o_t a_t ++ (gX4 (a_t 0) a_t_0 cI S_t_0 ++ gX4 o_p1 a_p1 cI S_p1)) (some (.int out.1)) (gX1 o_t a_t ++ (gX4 (a_t 0) a_t_0 cI out.2.1 ++ gX4 o_p1 a_p1 cI out.2.2)) := by
  refine Cn.mk (cc := cX1_deafAfter) (maxL := 4) (ret := (some .int)) (by decide) rfl (Nat.le_of_ble_eq_true rfl) ?_
  intro p e s m below meth c A ls Q hx hb hml hown hts hK hA hP hD hS hl hr hlk hnm hE hQ
  have hown : s.vm.findClass RX1 = some m.cls := hown
  have hinX1 : ∀ w ∈ u_ws RX1 TX1 1, w ∈ wsX1_deafAfter := by decide +kernel
  have j10 : ∀ (n10 : Nat) (S_t_0 : G) (S_p1 : G) (l2 : Int32) (l3 : Int32) (H : Heap) (locs : List Loc) (ls : Array Slot), f_X1_deafAfter_10 n10 S_t_0 S_p1 l2 l3 = some out → va_P D vwCl (gX1 o_t a_t ++ (gX4 (a_t 0) a_t_0 cI S_t_0 ++ gX4 o_p1 a_p1 cI S_p1)) H → va_D A (gX1 o_t a_t ++ (gX4 (a_t 0) a_t_0 cI S_t_0 ++ gX4 o_p1 a_p1 cI S_p1)) → va_S A s.heap H locs → lv_has ls 4 [(0, .ref o_t), (2, .int l2), (3, .int l3)] → W p l e rmX1_deafAfter s m ([.ref o_t, .ref o_p1, .int x2] : List Value).toArray below meth c H locs 0 0 Q (F0 m 10 ls []) := by
    intro n10
    induction n10 with
    | zero =>
      intro S_t_0 S_p1 l2 l3 H locs ls hf
      exact no_some hf
    | succ n10 ih10 =>
      intro S_t_0 S_p1 l2 l3 H locs ls hf hP hD hS hl
      replace hf : b_X1_deafAfter_10 (f_X1_deafAfter_10 n10) S_t_0 S_p1 l2 l3 = some out := hf
      unfold b_X1_deafAfter_10 at hf
      refine lv_iload_n hx hb dX1_deafAfter_10 rfl (lv_at hl 2 rfl) ?_
      refine lv_bipush (v := (99 : Int32)) hx hb dX1_deafAfter_11 (by decide) ?_
      refine lv_icmp_gt (tgt := 43) hx hb dX1_deafAfter_13 (by decide) (fun c13 => ?_) (fun c13 => ?_)
      · replace hf := it_t c13 hf
        refine lv_bipush (v := (-9 : Int32)) hx hb dX1_deafAfter_43 (by decide) ?_
        have e := so_some hf
        subst e
        exact ri hx hb hK hr hlk hQ dX1_deafAfter_45 hP hD hS
      · replace hf := it_f c13 hf
        refine lv_aload_n hx hb dX1_deafAfter_16 rfl (lv_at hl 0 rfl) ?_
        refine va_get (D := D) (ci := 1) (v := .ref (a_t 0)) (C := RX1) (T := TX1) (N := 1) hx hb hts hinX1 hown hK hP 0 rfl rfl 0 (by decide) (hts (.fieldLink RX1 12 "OnlyStrangersHear$Mind" "then" "LOnlyStrangersHear$Town;") (by decide +kernel)) (fun _ h9 => h9) rfl dX1_deafAfter_17 ?_
        refine lv_iload_n hx hb dX1_deafAfter_20 rfl (lv_at hl 1 rfl) ?_
        obtain ⟨r21, u21, h21, hf⟩ := bd_some hf
        have hPc := hP.sub (ws' := gX4 (a_t 0) a_t_0 cI S_t_0) [1, 2, 3, 4, 5, 6, 7] rfl
        have hDc := hD.sub (ws' := gX4 (a_t 0) a_t_0 cI S_t_0) [1, 2, 3, 4, 5, 6, 7] (by decide) rfl
        refine calX (runV E0.b E0.n (As := [.int l2]) (rest := []) ⟨hx, hb, hml, hown, hts⟩ (c_X4_hearsSome l D cI (a_t 0) a_t_0 S_t_0 l2 _ h21) gX1_deafAfter_X4_hearsSome rfl rfl rfl hdX4_hearsSome ⟨by decide, by decide⟩ hK hPc hDc 0 rfl rfl rfl hl.1 rfl (Nat.le_of_ble_eq_true rfl) dX1_deafAfter_21 ⟨Nat.zero_le _, Nat.zero_le _⟩) hP hD hS hA [1, 2, 3, 4, 5, 6, 7] [0, 8, 9, 10, 11, 12, 13, 14] [0, 8, 9, 10, 11, 12, 13, 14, 1, 2, 3, 4, 5, 6, 7] (wr := gX1 o_t a_t ++ gX4 o_p1 a_p1 cI S_p1) (wn := gX1 o_t a_t ++ (gX4 (a_t 0) a_t_0 cI u21 ++ gX4 o_p1 a_p1 cI S_p1)) rfl rfl (by decide) (by decide) rfl (by decide) (fun H locs hP hD hS => ?_)
        have hP : va_P D vwCl (gX1 o_t a_t ++ (gX4 (a_t 0) a_t_0 cI u21 ++ gX4 o_p1 a_p1 cI S_p1)) H := hP
        have hD : va_D A (gX1 o_t a_t ++ (gX4 (a_t 0) a_t_0 cI u21 ++ gX4 o_p1 a_p1 cI S_p1)) := hD
        refine W.eq (g2 := F0 m 24 ls [.int r21]) rfl ?_
        refine lv_if_ne (tgt := 29) hx hb dX1_deafAfter_24 (by decide) (fun c24 => ?_) (fun c24 => ?_)
        · replace hf := it_f c24 hf
          refine lv_aload_n hx hb dX1_deafAfter_29 rfl (lv_at hl 0 rfl) ?_
          refine va_get (D := D) (ci := 1) (v := .ref (a_t 0)) (C := RX1) (T := TX1) (N := 1) hx hb hts hinX1 hown hK hP 0 rfl rfl 0 (by decide) (hts (.fieldLink RX1 12 "OnlyStrangersHear$Mind" "then" "LOnlyStrangersHear$Town;") (by decide +kernel)) (fun _ h9 => h9) rfl dX1_deafAfter_30 ?_
          refine lv_iconst (v := (1 : Int32)) hx hb dX1_deafAfter_33 (by decide) ?_
          obtain ⟨r34, u34, h34, hf⟩ := bd_some hf
          have hPc := hP.sub (ws' := gX4 (a_t 0) a_t_0 cI u21) [1, 2, 3, 4, 5, 6, 7] rfl
          have hDc := hD.sub (ws' := gX4 (a_t 0) a_t_0 cI u21) [1, 2, 3, 4, 5, 6, 7] (by decide) rfl
          refine calX (runV E0.b E0.n (As := [.int (1 : Int32)]) (rest := []) ⟨hx, hb, hml, hown, hts⟩ (c_X4_pass l D cI (a_t 0) a_t_0 u21 (1 : Int32) _ h34) gX1_deafAfter_X4_pass rfl rfl rfl hdX4_pass ⟨by decide, by decide⟩ hK hPc hDc 0 rfl rfl rfl hl.1 rfl (Nat.le_of_ble_eq_true rfl) dX1_deafAfter_34 ⟨Nat.zero_le _, Nat.zero_le _⟩) hP hD hS hA [1, 2, 3, 4, 5, 6, 7] [0, 8, 9, 10, 11, 12, 13, 14] [0, 8, 9, 10, 11, 12, 13, 14, 1, 2, 3, 4, 5, 6, 7] (wr := gX1 o_t a_t ++ gX4 o_p1 a_p1 cI S_p1) (wn := gX1 o_t a_t ++ (gX4 (a_t 0) a_t_0 cI u34 ++ gX4 o_p1 a_p1 cI S_p1)) rfl rfl (by decide) (by decide) rfl (by decide) (fun H locs hP hD hS => ?_)
          have hP : va_P D vwCl (gX1 o_t a_t ++ (gX4 (a_t 0) a_t_0 cI u34 ++ gX4 o_p1 a_p1 cI S_p1)) H := hP
          have hD : va_D A (gX1 o_t a_t ++ (gX4 (a_t 0) a_t_0 cI u34 ++ gX4 o_p1 a_p1 cI S_p1)) := hD
          refine W.eq (g2 := F0 m 37 ls []) rfl ?_
          refine lv_iinc (v := l3 + (1 : Int32)) (lv' := [(3, .int (l3 + (1 : Int32))), (0, .ref o_t), (2, .int l2)]) hx hb dX1_deafAfter_37 hl (k := 2) rfl rfl (by decide) rfl (fun ls hl => ?_)
          refine lv_goto (tgt := 10) hx hb dX1_deafAfter_40 (by decide) ?_
          exact ih10 u34 S_p1 l2 (l3 + (1 : Int32)) H locs ls hf hP hD hS (lv_sub hl [1, 2, 0] rfl)
        · replace hf := it_t c24 hf
          refine lv_iload_n hx hb dX1_deafAfter_27 rfl (lv_at hl 2 rfl) ?_
          have e := so_some hf
          subst e
          exact ri hx hb hK hr hlk hQ dX1_deafAfter_28 hP hD hS
  unfold f_X1_deafAfter at hf
  have hl : lv_has ls 4 [(0, .ref o_t), (1, .ref o_p1), (2, .int x2)] := hl
  obtain ⟨H, hHe⟩ : ∃ H : Heap, H = s.heap := ⟨_, rfl⟩
  obtain ⟨locs, hle⟩ : ∃ q : List Loc, q = [] := ⟨_, rfl⟩
  have hS : va_S A s.heap H locs := by rw [hHe, hle]; exact hS
  rw [← hHe] at hP
  suffices hgo : W p l e rmX1_deafAfter s m ([.ref o_t, .ref o_p1, .int x2] : List Value).toArray below meth c H locs 0 0 Q (F0 m 0 ls []) by rw [hHe, hle] at hgo; exact hgo
  clear hHe hle
  refine lv_aload_n hx hb dX1_deafAfter_0 rfl (lv_at hl 0 rfl) ?_
  refine va_get (D := D) (ci := 1) (v := .ref (a_t 0)) (C := RX1) (T := TX1) (N := 1) hx hb hts hinX1 hown hK hP 0 rfl rfl 0 (by decide) (hts (.fieldLink RX1 12 "OnlyStrangersHear$Mind" "then" "LOnlyStrangersHear$Town;") (by decide +kernel)) (fun _ h9 => h9) rfl dX1_deafAfter_1 ?_
  refine lv_aload_n hx hb dX1_deafAfter_4 rfl (lv_at hl 1 rfl) ?_
  obtain ⟨r5, u5, h5, hf⟩ := bd_some hf
  have hPc := hP.sub (ws' := gX4 (a_t 0) a_t_0 cI S_t_0 ++ gX4 o_p1 a_p1 cI S_p1) [1, 2, 3, 4, 5, 6, 7, 8, 9, 10, 11, 12, 13, 14] rfl
  have hDc := hD.sub (ws' := gX4 (a_t 0) a_t_0 cI S_t_0 ++ gX4 o_p1 a_p1 cI S_p1) [1, 2, 3, 4, 5, 6, 7, 8, 9, 10, 11, 12, 13, 14] (by decide) rfl
  refine calX (runV E0.b E0.n (As := [.ref o_p1]) (rest := []) ⟨hx, hb, hml, hown, hts⟩ (c_X4_become l D cI (a_t 0) a_t_0 o_p1 a_p1 S_t_0 S_p1 _ h5) gX1_deafAfter_X4_become rfl rfl rfl hdX4_become ⟨by decide, by decide⟩ hK hPc hDc 0 rfl rfl rfl hl.1 rfl (Nat.le_of_ble_eq_true rfl) dX1_deafAfter_5 ⟨Nat.zero_le _, Nat.zero_le _⟩) hP hD hS hA [1, 2, 3, 4, 5, 6, 7, 8, 9, 10, 11, 12, 13, 14] [0] [0, 1, 2, 3, 4, 5, 6, 7, 8, 9, 10, 11, 12, 13, 14] (wr := gX1 o_t a_t) (wn := gX1 o_t a_t ++ (gX4 (a_t 0) a_t_0 cI u5.1 ++ gX4 o_p1 a_p1 cI u5.2)) rfl rfl (by decide) (by decide) rfl (by decide) (fun H locs hP hD hS => ?_)
  have hP : va_P D vwCl (gX1 o_t a_t ++ (gX4 (a_t 0) a_t_0 cI u5.1 ++ gX4 o_p1 a_p1 cI u5.2)) H := hP
  have hD : va_D A (gX1 o_t a_t ++ (gX4 (a_t 0) a_t_0 cI u5.1 ++ gX4 o_p1 a_p1 cI u5.2)) := hD
  refine W.eq (g2 := F0 m 8 ls []) rfl ?_
  refine lv_iconst (v := (0 : Int32)) hx hb dX1_deafAfter_8 (by decide) ?_
  refine lv_istore_n (lv' := [(3, .int (0 : Int32)), (0, .ref o_t), (1, .ref o_p1), (2, .int x2)]) hx hb dX1_deafAfter_9 rfl hl (by decide) rfl (fun ls hl => ?_)
  exact j10 1000 u5.1 u5.2 x2 (0 : Int32) H locs ls hf hP hD hS (lv_sub hl [1, 3, 0] rfl)
abbrev rmX1_firstLost : Room := { frames := 4, cells := 0, slots := 0, locals := 88 }
set_option maxHeartbeats 4000000 in
set_option maxRecDepth 100000 in
theorem c_X1_firstLost (l : Launch) (D : va_G) (cI : ClassId) (o_t : Nat) (a_t : Nat → Nat) (a_t_0 : Nat → Nat) (o_p1 : Nat) (a_p1 : Nat → Nat) (S_t_0 : G) (S_p1 : G) (x2 : Int32) (out : Int32 × G × G) (hf : f_X1_firstLost S_t_0 S_p1 x2 = some out) : Cn EX l yX1_firstLost wsX1_firstLost rmX1_firstLost D cI [.ref o_t, .ref o_p1, .int x2] (gX1 o_t a_t ++ (gX4 (a_t 0) a_t_0 cI S_t_0 ++ gX4 o_p1 a_p1 cI S_p1)) (some (.int out.1)) (gX1 o_t a_t ++ (gX4 (a_t 0) a_t_0 cI out.2.1 ++ gX4 o_p1 a_p1 cI out.2.2)) := by
  refine Cn.mk (cc := cX1_firstLost) (maxL := 6) (ret := (some .int)) (by decide) rfl (Nat.le_of_ble_eq_true rfl) ?_
  intro p e s m below meth c A ls Q hx hb hml hown hts hK hA hP hD hS hl hr hlk hnm hE hQ
  have hown : s.vm.findClass RX1 = some m.cls := hown
  have hinX1 : ∀ w ∈ u_ws RX1 TX1 1, w ∈ wsX1_firstLost := by decide +kernel
  have j19 : ∀ (n19 : Nat) (S_t_0 : G) (S_p1 : G) (l2 : Int32) (l3 : Int32) (l4 : Int32) (H : Heap) (locs : List Loc) (ls : Array Slot), f_X1_firstLost_19 n19 S_t_0 S_p1 l2 l3 l4 = some out → va_P D vwCl (gX1 o_t a_t ++ (gX4 (a_t 0) a_t_0 cI S_t_0 ++ gX4 o_p1 a_p1 cI S_p1)) H → va_D A (gX1 o_t a_t ++ (gX4 (a_t 0) a_t_0 cI S_t_0 ++ gX4 o_p1 a_p1 cI S_p1)) → va_S A s.heap H locs → lv_has ls 6 [(0, .ref o_t), (2, .int l2), (3, .int l3), (4, .int l4)] → W p l e rmX1_firstLost s m ([.ref o_t, .ref o_p1, .int x2] : List Value).toArray below meth c H locs 0 0 Q (F0 m 19 ls []) := by
    intro n19
    induction n19 with
    | zero =>
      intro S_t_0 S_p1 l2 l3 l4 H locs ls hf
      exact no_some hf
    | succ n19 ih19 =>
      intro S_t_0 S_p1 l2 l3 l4 H locs ls hf hP hD hS hl
      replace hf : b_X1_firstLost_19 (f_X1_firstLost_19 n19) S_t_0 S_p1 l2 l3 l4 = some out := hf
      unfold b_X1_firstLost_19 at hf
      refine lv_iload hx hb dX1_firstLost_19 (lv_at hl 3 rfl) ?_
      refine lv_bipush (v := (99 : Int32)) hx hb dX1_firstLost_21 (by decide) ?_
      refine lv_icmp_gt (tgt := 73) hx hb dX1_firstLost_23 (by decide) (fun c23 => ?_) (fun c23 => ?_)
      · replace hf := it_t c23 hf
        refine lv_bipush (v := (-9 : Int32)) hx hb dX1_firstLost_73 (by decide) ?_
        have e := so_some hf
        subst e
        exact ri hx hb hK hr hlk hQ dX1_firstLost_75 hP hD hS
      · replace hf := it_f c23 hf
        refine lv_aload_n hx hb dX1_firstLost_26 rfl (lv_at hl 0 rfl) ?_
        refine va_get (D := D) (ci := 1) (v := .ref (a_t 0)) (C := RX1) (T := TX1) (N := 1) hx hb hts hinX1 hown hK hP 0 rfl rfl 0 (by decide) (hts (.fieldLink RX1 12 "OnlyStrangersHear$Mind" "then" "LOnlyStrangersHear$Town;") (by decide +kernel)) (fun _ h9 => h9) rfl dX1_firstLost_27 ?_
        refine lv_iconst (v := (1 : Int32)) hx hb dX1_firstLost_30 (by decide) ?_
        obtain ⟨r31, u31, h31, hf⟩ := bd_some hf
        have hPc := hP.sub (ws' := gX4 (a_t 0) a_t_0 cI S_t_0) [1, 2, 3, 4, 5, 6, 7] rfl
        have hDc := hD.sub (ws' := gX4 (a_t 0) a_t_0 cI S_t_0) [1, 2, 3, 4, 5, 6, 7] (by decide) rfl
        refine calX (runV E0.b E0.n (As := [.int (1 : Int32)]) (rest := []) ⟨hx, hb, hml, hown, hts⟩ (c_X4_pass l D cI (a_t 0) a_t_0 S_t_0 (1 : Int32) _ h31) gX1_firstLost_X4_pass rfl rfl rfl hdX4_pass ⟨by decide, by decide⟩ hK hPc hDc 0 rfl rfl rfl hl.1 rfl (Nat.le_of_ble_eq_true rfl) dX1_firstLost_31 ⟨Nat.zero_le _, Nat.zero_le _⟩) hP hD hS hA [1, 2, 3, 4, 5, 6, 7] [0, 8, 9, 10, 11, 12, 13, 14] [0, 8, 9, 10, 11, 12, 13, 14, 1, 2, 3, 4, 5, 6, 7] (wr := gX1 o_t a_t ++ gX4 o_p1 a_p1 cI S_p1) (wn := gX1 o_t a_t ++ (gX4 (a_t 0) a_t_0 cI u31 ++ gX4 o_p1 a_p1 cI S_p1)) rfl rfl (by decide) (by decide) rfl (by decide) (fun H locs hP hD hS => ?_)
        have hP : va_P D vwCl (gX1 o_t a_t ++ (gX4 (a_t 0) a_t_0 cI u31 ++ gX4 o_p1 a_p1 cI S_p1)) H := hP
        have hD : va_D A (gX1 o_t a_t ++ (gX4 (a_t 0) a_t_0 cI u31 ++ gX4 o_p1 a_p1 cI S_p1)) := hD
        refine W.eq (g2 := F0 m 34 ls []) rfl ?_
        refine lv_aload_n hx hb dX1_firstLost_34 rfl (lv_at hl 0 rfl) ?_
        refine va_get (D := D) (ci := 1) (v := .ref (a_t 0)) (C := RX1) (T := TX1) (N := 1) hx hb hts hinX1 hown hK hP 0 rfl rfl 0 (by decide) (hts (.fieldLink RX1 12 "OnlyStrangersHear$Mind" "then" "LOnlyStrangersHear$Town;") (by decide +kernel)) (fun _ h9 => h9) rfl dX1_firstLost_35 ?_
        obtain ⟨r38, u38, h38, hf⟩ := bd_some hf
        have hPc := hP.sub (ws' := gX4 (a_t 0) a_t_0 cI u31) [1, 2, 3, 4, 5, 6, 7] rfl
        have hDc := hD.sub (ws' := gX4 (a_t 0) a_t_0 cI u31) [1, 2, 3, 4, 5, 6, 7] (by decide) rfl
        refine calX (runV E0.b E0.n (As := []) (rest := []) ⟨hx, hb, hml, hown, hts⟩ (c_X4_silentBells l D cI (a_t 0) a_t_0 u31 _ h38) gX1_firstLost_X4_silentBells rfl rfl rfl hdX4_silentBells ⟨by decide, by decide⟩ hK hPc hDc 0 rfl rfl rfl hl.1 rfl (Nat.le_of_ble_eq_true rfl) dX1_firstLost_38 ⟨Nat.zero_le _, Nat.zero_le _⟩) hP hD hS hA [1, 2, 3, 4, 5, 6, 7] [0, 8, 9, 10, 11, 12, 13, 14] [0, 8, 9, 10, 11, 12, 13, 14, 1, 2, 3, 4, 5, 6, 7] (wr := gX1 o_t a_t ++ gX4 o_p1 a_p1 cI S_p1) (wn := gX1 o_t a_t ++ (gX4 (a_t 0) a_t_0 cI u38 ++ gX4 o_p1 a_p1 cI S_p1)) rfl rfl (by decide) (by decide) rfl (by decide) (fun H locs hP hD hS => ?_)
        have hP : va_P D vwCl (gX1 o_t a_t ++ (gX4 (a_t 0) a_t_0 cI u38 ++ gX4 o_p1 a_p1 cI S_p1)) H := hP
        have hD : va_D A (gX1 o_t a_t ++ (gX4 (a_t 0) a_t_0 cI u38 ++ gX4 o_p1 a_p1 cI S_p1)) := hD
        refine W.eq (g2 := F0 m 41 ls [.int r38]) rfl ?_
        refine lv_iload_n hx hb dX1_firstLost_41 rfl (lv_at hl 2 rfl) ?_
        refine lv_iconst (v := (-1 : Int32)) hx hb dX1_firstLost_42 (by decide) ?_
        refine lv_ixor hx hb dX1_firstLost_43 ?_
        refine lv_iand hx hb dX1_firstLost_44 ?_
        refine lv_istore (lv' := [(5, .int (r38 &&& (l3 ^^^ (-1 : Int32)))), (0, .ref o_t), (2, .int l2), (3, .int l3), (4, .int l4)]) hx hb dX1_firstLost_45 hl (by decide) rfl (fun ls hl => ?_)
        refine lv_iload hx hb dX1_firstLost_47 (lv_at hl 0 rfl) ?_
        refine lv_if_eq (tgt := 67) hx hb dX1_firstLost_49 (by decide) (fun c49 => ?_) (fun c49 => ?_)
        · replace hf := it_t c49 hf
          refine lv_iinc (v := l4 + (1 : Int32)) (lv' := [(4, .int (l4 + (1 : Int32))), (5, .int (r38 &&& (l3 ^^^ (-1 : Int32)))), (0, .ref o_t), (2, .int l2), (3, .int l3)]) hx hb dX1_firstLost_67 hl (k := 4) rfl rfl (by decide) rfl (fun ls hl => ?_)
          refine lv_goto (tgt := 19) hx hb dX1_firstLost_70 (by decide) ?_
          exact ih19 u38 S_p1 l2 l3 (l4 + (1 : Int32)) H locs ls hf hP hD hS (lv_sub hl [2, 3, 4, 0] rfl)
        · replace hf := it_f c49 hf
          refine lv_iload_n hx hb dX1_firstLost_52 rfl (lv_at hl 2 rfl) ?_
          refine lv_if_eq (tgt := 64) hx hb dX1_firstLost_53 (by decide) (fun c53 => ?_) (fun c53 => ?_)
          · replace hf := it_t c53 hf
            refine lv_iload hx hb dX1_firstLost_64 (lv_at hl 4 rfl) ?_
            have e := so_some hf
            subst e
            exact ri hx hb hK hr hlk hQ dX1_firstLost_66 hP hD hS
          · replace hf := it_f c53 hf
            refine lv_iload hx hb dX1_firstLost_56 (lv_at hl 0 rfl) ?_
            obtain ⟨r58, u58, h58, hf⟩ := bd_some hf
            have hPc : va_P D vwCl [] H := hP.sub (ws' := []) [] rfl
            have hDc : va_D A [] := hD.sub (ws' := []) [] (by decide) rfl
            refine calXe (runSN (host := RX6) E0.b E0.n (As := [.int (r38 &&& (l3 ^^^ (-1 : Int32)))]) (rest := []) ⟨hx, hb, hml, hown, hts⟩ (c_X6_leastBit l D cI (r38 &&& (l3 ^^^ (-1 : Int32))) _ h58) gX1_firstLost_X6_leastBit_n34 rfl rfl rfl hE.1 (hts (.initialized RX6) (by decide +kernel)) (hts (.static yX6_leastBit) (by decide +kernel)) hdX6_leastBit ⟨by decide, by decide⟩ hK hPc hDc rfl hl.1 rfl (Nat.le_of_ble_eq_true rfl) dX1_firstLost_58 ⟨Nat.zero_le _, Nat.zero_le _⟩) hP hD hS hA (fun H locs hP hD hS => ?_)
            have hP : va_P D vwCl (gX1 o_t a_t ++ (gX4 (a_t 0) a_t_0 cI u38 ++ gX4 o_p1 a_p1 cI S_p1)) H := hP
            have hD : va_D A (gX1 o_t a_t ++ (gX4 (a_t 0) a_t_0 cI u38 ++ gX4 o_p1 a_p1 cI S_p1)) := hD
            refine W.eq (g2 := F0 m 61 ls [.int r58]) rfl ?_
            refine lv_goto (tgt := 66) hx hb dX1_firstLost_61 (by decide) ?_
            have e := so_some hf
            subst e
            exact ri hx hb hK hr hlk hQ dX1_firstLost_66 hP hD hS
  unfold f_X1_firstLost at hf
  have hl : lv_has ls 6 [(0, .ref o_t), (1, .ref o_p1), (2, .int x2)] := hl
  obtain ⟨H, hHe⟩ : ∃ H : Heap, H = s.heap := ⟨_, rfl⟩
  obtain ⟨locs, hle⟩ : ∃ q : List Loc, q = [] := ⟨_, rfl⟩
  have hS : va_S A s.heap H locs := by rw [hHe, hle]; exact hS
  rw [← hHe] at hP
  suffices hgo : W p l e rmX1_firstLost s m ([.ref o_t, .ref o_p1, .int x2] : List Value).toArray below meth c H locs 0 0 Q (F0 m 0 ls []) by rw [hHe, hle] at hgo; exact hgo
  clear hHe hle
  refine lv_aload_n hx hb dX1_firstLost_0 rfl (lv_at hl 0 rfl) ?_
  refine va_get (D := D) (ci := 1) (v := .ref (a_t 0)) (C := RX1) (T := TX1) (N := 1) hx hb hts hinX1 hown hK hP 0 rfl rfl 0 (by decide) (hts (.fieldLink RX1 12 "OnlyStrangersHear$Mind" "then" "LOnlyStrangersHear$Town;") (by decide +kernel)) (fun _ h9 => h9) rfl dX1_firstLost_1 ?_
  refine lv_aload_n hx hb dX1_firstLost_4 rfl (lv_at hl 1 rfl) ?_
  obtain ⟨r5, u5, h5, hf⟩ := bd_some hf
  have hPc := hP.sub (ws' := gX4 (a_t 0) a_t_0 cI S_t_0 ++ gX4 o_p1 a_p1 cI S_p1) [1, 2, 3, 4, 5, 6, 7, 8, 9, 10, 11, 12, 13, 14] rfl
  have hDc := hD.sub (ws' := gX4 (a_t 0) a_t_0 cI S_t_0 ++ gX4 o_p1 a_p1 cI S_p1) [1, 2, 3, 4, 5, 6, 7, 8, 9, 10, 11, 12, 13, 14] (by decide) rfl
  refine calX (runV E0.b E0.n (As := [.ref o_p1]) (rest := []) ⟨hx, hb, hml, hown, hts⟩ (c_X4_become l D cI (a_t 0) a_t_0 o_p1 a_p1 S_t_0 S_p1 _ h5) gX1_firstLost_X4_become rfl rfl rfl hdX4_become ⟨by decide, by decide⟩ hK hPc hDc 0 rfl rfl rfl hl.1 rfl (Nat.le_of_ble_eq_true rfl) dX1_firstLost_5 ⟨Nat.zero_le _, Nat.zero_le _⟩) hP hD hS hA [1, 2, 3, 4, 5, 6, 7, 8, 9, 10, 11, 12, 13, 14] [0] [0, 1, 2, 3, 4, 5, 6, 7, 8, 9, 10, 11, 12, 13, 14] (wr := gX1 o_t a_t) (wn := gX1 o_t a_t ++ (gX4 (a_t 0) a_t_0 cI u5.1 ++ gX4 o_p1 a_p1 cI u5.2)) rfl rfl (by decide) (by decide) rfl (by decide) (fun H locs hP hD hS => ?_)
  have hP : va_P D vwCl (gX1 o_t a_t ++ (gX4 (a_t 0) a_t_0 cI u5.1 ++ gX4 o_p1 a_p1 cI u5.2)) H := hP
  have hD : va_D A (gX1 o_t a_t ++ (gX4 (a_t 0) a_t_0 cI u5.1 ++ gX4 o_p1 a_p1 cI u5.2)) := hD
  refine W.eq (g2 := F0 m 8 ls []) rfl ?_
  refine lv_aload_n hx hb dX1_firstLost_8 rfl (lv_at hl 0 rfl) ?_
  refine va_get (D := D) (ci := 1) (v := .ref (a_t 0)) (C := RX1) (T := TX1) (N := 1) hx hb hts hinX1 hown hK hP 0 rfl rfl 0 (by decide) (hts (.fieldLink RX1 12 "OnlyStrangersHear$Mind" "then" "LOnlyStrangersHear$Town;") (by decide +kernel)) (fun _ h9 => h9) rfl dX1_firstLost_9 ?_
  obtain ⟨r12, u12, h12, hf⟩ := bd_some hf
  have hPc := hP.sub (ws' := gX4 (a_t 0) a_t_0 cI u5.1) [1, 2, 3, 4, 5, 6, 7] rfl
  have hDc := hD.sub (ws' := gX4 (a_t 0) a_t_0 cI u5.1) [1, 2, 3, 4, 5, 6, 7] (by decide) rfl
  refine calX (runV E0.b E0.n (As := []) (rest := []) ⟨hx, hb, hml, hown, hts⟩ (c_X4_silentBells l D cI (a_t 0) a_t_0 u5.1 _ h12) gX1_firstLost_X4_silentBells rfl rfl rfl hdX4_silentBells ⟨by decide, by decide⟩ hK hPc hDc 0 rfl rfl rfl hl.1 rfl (Nat.le_of_ble_eq_true rfl) dX1_firstLost_12 ⟨Nat.zero_le _, Nat.zero_le _⟩) hP hD hS hA [1, 2, 3, 4, 5, 6, 7] [0, 8, 9, 10, 11, 12, 13, 14] [0, 8, 9, 10, 11, 12, 13, 14, 1, 2, 3, 4, 5, 6, 7] (wr := gX1 o_t a_t ++ gX4 o_p1 a_p1 cI u5.2) (wn := gX1 o_t a_t ++ (gX4 (a_t 0) a_t_0 cI u12 ++ gX4 o_p1 a_p1 cI u5.2)) rfl rfl (by decide) (by decide) rfl (by decide) (fun H locs hP hD hS => ?_)
  have hP : va_P D vwCl (gX1 o_t a_t ++ (gX4 (a_t 0) a_t_0 cI u12 ++ gX4 o_p1 a_p1 cI u5.2)) H := hP
  have hD : va_D A (gX1 o_t a_t ++ (gX4 (a_t 0) a_t_0 cI u12 ++ gX4 o_p1 a_p1 cI u5.2)) := hD
  refine W.eq (g2 := F0 m 15 ls [.int r12]) rfl ?_
  refine lv_istore_n (lv' := [(3, .int r12), (0, .ref o_t), (1, .ref o_p1), (2, .int x2)]) hx hb dX1_firstLost_15 rfl hl (by decide) rfl (fun ls hl => ?_)
  refine lv_iconst (v := (1 : Int32)) hx hb dX1_firstLost_16 (by decide) ?_
  refine lv_istore (lv' := [(4, .int (1 : Int32)), (3, .int r12), (0, .ref o_t), (1, .ref o_p1), (2, .int x2)]) hx hb dX1_firstLost_17 hl (by decide) rfl (fun ls hl => ?_)
  exact j19 1000 u12 u5.2 x2 r12 (1 : Int32) H locs ls hf hP hD hS (lv_sub hl [2, 4, 1, 0] rfl)
abbrev rmX1_rightDays : Room := { frames := 4, cells := 0, slots := 0, locals := 94 }
set_option maxHeartbeats 4000000 in
set_option maxRecDepth 100000 in
theorem c_X1_rightDays (l : Launch) (D : va_G) (cI : ClassId) (o_t : Nat) (a_t : Nat → Nat) (a_t_0 : Nat → Nat) (o_p1 : Nat) (a_p1 : Nat → Nat) (S_t_0 : G) (S_p1 : G) (x2 : Int32) (x3 : Int32) (out : Int32 × G × G) (hf : f_X1_rightDays S_t_0 S_p1 x2 x3 = some out) : Cn E0 l yX1_rightDays wsX1_rightDays rmX1_rightDays D cI [.ref o_t, .ref o_p1, .int x2, .int x3] (gX1 o_t a_t ++ (gX4 (a_t 0) a_t_0 cI S_t_0 ++ gX4 o_p1 a_p1 cI S_p1)) (some (.int out.1)) (gX1 o_t a_t ++ (gX4 (a_t 0) a_t_0 cI out.2.1 ++ gX4 o_p1 a_p1 cI out.2.2)) := by
  refine Cn.mk (cc := cX1_rightDays) (maxL := 4) (ret := (some .int)) (by decide) rfl (Nat.le_of_ble_eq_true rfl) ?_
  intro p e s m below meth c A ls Q hx hb hml hown hts hK hA hP hD hS hl hr hlk hnm hE hQ
  have hown : s.vm.findClass RX1 = some m.cls := hown
  have hinX1 : ∀ w ∈ u_ws RX1 TX1 1, w ∈ wsX1_rightDays := by decide +kernel
  unfold f_X1_rightDays at hf
  have hl : lv_has ls 4 [(0, .ref o_t), (1, .ref o_p1), (2, .int x2), (3, .int x3)] := hl
  obtain ⟨H, hHe⟩ : ∃ H : Heap, H = s.heap := ⟨_, rfl⟩
  obtain ⟨locs, hle⟩ : ∃ q : List Loc, q = [] := ⟨_, rfl⟩
  have hS : va_S A s.heap H locs := by rw [hHe, hle]; exact hS
  rw [← hHe] at hP
  suffices hgo : W p l e rmX1_rightDays s m ([.ref o_t, .ref o_p1, .int x2, .int x3] : List Value).toArray below meth c H locs 0 0 Q (F0 m 0 ls []) by rw [hHe, hle] at hgo; exact hgo
  clear hHe hle
  refine lv_aload_n hx hb dX1_rightDays_0 rfl (lv_at hl 0 rfl) ?_
  refine va_get (D := D) (ci := 1) (v := .ref (a_t 0)) (C := RX1) (T := TX1) (N := 1) hx hb hts hinX1 hown hK hP 0 rfl rfl 0 (by decide) (hts (.fieldLink RX1 12 "OnlyStrangersHear$Mind" "then" "LOnlyStrangersHear$Town;") (by decide +kernel)) (fun _ h9 => h9) rfl dX1_rightDays_1 ?_
  refine lv_aload_n hx hb dX1_rightDays_4 rfl (lv_at hl 1 rfl) ?_
  obtain ⟨r5, u5, h5, hf⟩ := bd_some hf
  have hPc := hP.sub (ws' := gX4 (a_t 0) a_t_0 cI S_t_0 ++ gX4 o_p1 a_p1 cI S_p1) [1, 2, 3, 4, 5, 6, 7, 8, 9, 10, 11, 12, 13, 14] rfl
  have hDc := hD.sub (ws' := gX4 (a_t 0) a_t_0 cI S_t_0 ++ gX4 o_p1 a_p1 cI S_p1) [1, 2, 3, 4, 5, 6, 7, 8, 9, 10, 11, 12, 13, 14] (by decide) rfl
  refine calX (runV E0.b E0.n (As := [.ref o_p1]) (rest := []) ⟨hx, hb, hml, hown, hts⟩ (c_X4_become l D cI (a_t 0) a_t_0 o_p1 a_p1 S_t_0 S_p1 _ h5) gX1_rightDays_X4_become rfl rfl rfl hdX4_become ⟨by decide, by decide⟩ hK hPc hDc 0 rfl rfl rfl hl.1 rfl (Nat.le_of_ble_eq_true rfl) dX1_rightDays_5 ⟨Nat.zero_le _, Nat.zero_le _⟩) hP hD hS hA [1, 2, 3, 4, 5, 6, 7, 8, 9, 10, 11, 12, 13, 14] [0] [0, 1, 2, 3, 4, 5, 6, 7, 8, 9, 10, 11, 12, 13, 14] (wr := gX1 o_t a_t) (wn := gX1 o_t a_t ++ (gX4 (a_t 0) a_t_0 cI u5.1 ++ gX4 o_p1 a_p1 cI u5.2)) rfl rfl (by decide) (by decide) rfl (by decide) (fun H locs hP hD hS => ?_)
  have hP : va_P D vwCl (gX1 o_t a_t ++ (gX4 (a_t 0) a_t_0 cI u5.1 ++ gX4 o_p1 a_p1 cI u5.2)) H := hP
  have hD : va_D A (gX1 o_t a_t ++ (gX4 (a_t 0) a_t_0 cI u5.1 ++ gX4 o_p1 a_p1 cI u5.2)) := hD
  refine W.eq (g2 := F0 m 8 ls []) rfl ?_
  refine lv_aload_n hx hb dX1_rightDays_8 rfl (lv_at hl 0 rfl) ?_
  refine va_get (D := D) (ci := 1) (v := .ref (a_t 0)) (C := RX1) (T := TX1) (N := 1) hx hb hts hinX1 hown hK hP 0 rfl rfl 0 (by decide) (hts (.fieldLink RX1 12 "OnlyStrangersHear$Mind" "then" "LOnlyStrangersHear$Town;") (by decide +kernel)) (fun _ h9 => h9) rfl dX1_rightDays_9 ?_
  refine lv_iload_n hx hb dX1_rightDays_12 rfl (lv_at hl 2 rfl) ?_
  refine lv_iload_n hx hb dX1_rightDays_13 rfl (lv_at hl 2 rfl) ?_
  refine lv_iconst (v := (1 : Int32)) hx hb dX1_rightDays_14 (by decide) ?_
  refine lv_iadd hx hb dX1_rightDays_15 ?_
  refine lv_iload_n hx hb dX1_rightDays_16 rfl (lv_at hl 3 rfl) ?_
  obtain ⟨r17, u17, h17, hf⟩ := bd_some hf
  have hPc := hP.sub (ws' := gX4 (a_t 0) a_t_0 cI u5.1) [1, 2, 3, 4, 5, 6, 7] rfl
  have hDc := hD.sub (ws' := gX4 (a_t 0) a_t_0 cI u5.1) [1, 2, 3, 4, 5, 6, 7] (by decide) rfl
  refine calX (runV E0.b E0.n (As := [.int x2, .int (x2 + (1 : Int32)), .int x3]) (rest := []) ⟨hx, hb, hml, hown, hts⟩ (c_X4_passCountingRight l D cI (a_t 0) a_t_0 u5.1 x2 (x2 + (1 : Int32)) x3 _ h17) gX1_rightDays_X4_passCountingRight rfl rfl rfl hdX4_passCountingRight ⟨by decide, by decide⟩ hK hPc hDc 0 rfl rfl rfl hl.1 rfl (Nat.le_of_ble_eq_true rfl) dX1_rightDays_17 ⟨Nat.zero_le _, Nat.zero_le _⟩) hP hD hS hA [1, 2, 3, 4, 5, 6, 7] [0, 8, 9, 10, 11, 12, 13, 14] [0, 8, 9, 10, 11, 12, 13, 14, 1, 2, 3, 4, 5, 6, 7] (wr := gX1 o_t a_t ++ gX4 o_p1 a_p1 cI u5.2) (wn := gX1 o_t a_t ++ (gX4 (a_t 0) a_t_0 cI u17 ++ gX4 o_p1 a_p1 cI u5.2)) rfl rfl (by decide) (by decide) rfl (by decide) (fun H locs hP hD hS => ?_)
  have hP : va_P D vwCl (gX1 o_t a_t ++ (gX4 (a_t 0) a_t_0 cI u17 ++ gX4 o_p1 a_p1 cI u5.2)) H := hP
  have hD : va_D A (gX1 o_t a_t ++ (gX4 (a_t 0) a_t_0 cI u17 ++ gX4 o_p1 a_p1 cI u5.2)) := hD
  refine W.eq (g2 := F0 m 20 ls [.int r17]) rfl ?_
  have e := so_some hf
  subst e
  exact ri hx hb hK hr hlk hQ dX1_rightDays_20 hP hD hS
abbrev rmX1_unheardDays : Room := { frames := 3, cells := 0, slots := 0, locals := 68 }
set_option maxHeartbeats 4000000 in
set_option maxRecDepth 100000 in
theorem c_X1_unheardDays (l : Launch) (D : va_G) (cI : ClassId) (o_t : Nat) (a_t : Nat → Nat) (a_t_0 : Nat → Nat) (o_p1 : Nat) (a_p1 : Nat → Nat) (S_t_0 : G) (S_p1 : G) (x2 : Int32) (x3 : Int32) (out : Int32 × G × G) (hf : f_X1_unheardDays S_t_0 S_p1 x2 x3 = some out) : Cn E0 l yX1_unheardDays wsX1_unheardDays rmX1_unheardDays D cI [.ref o_t, .ref o_p1, .int x2, .int x3] (gX1 o_t a_t ++ (gX4 (a_t 0) a_t_0 cI S_t_0 ++ gX4 o_p1 a_p1 cI S_p1)) (some (.int out.1)) (gX1 o_t a_t ++ (gX4 (a_t 0) a_t_0 cI out.2.1 ++ gX4 o_p1 a_p1 cI out.2.2)) := by
  refine Cn.mk (cc := cX1_unheardDays) (maxL := 6) (ret := (some .int)) (by decide) rfl (Nat.le_of_ble_eq_true rfl) ?_
  intro p e s m below meth c A ls Q hx hb hml hown hts hK hA hP hD hS hl hr hlk hnm hE hQ
  have hown : s.vm.findClass RX1 = some m.cls := hown
  have hinX1 : ∀ w ∈ u_ws RX1 TX1 1, w ∈ wsX1_unheardDays := by decide +kernel
  have j14 : ∀ (n14 : Nat) (S_t_0 : G) (S_p1 : G) (l2 : Int32) (l3 : Int32) (l4 : Int32) (l5 : Int32) (H : Heap) (locs : List Loc) (ls : Array Slot), f_X1_unheardDays_14 n14 S_t_0 S_p1 l2 l3 l4 l5 = some out → va_P D vwCl (gX1 o_t a_t ++ (gX4 (a_t 0) a_t_0 cI S_t_0 ++ gX4 o_p1 a_p1 cI S_p1)) H → va_D A (gX1 o_t a_t ++ (gX4 (a_t 0) a_t_0 cI S_t_0 ++ gX4 o_p1 a_p1 cI S_p1)) → va_S A s.heap H locs → lv_has ls 6 [(0, .ref o_t), (2, .int l2), (3, .int l3), (4, .int l4), (5, .int l5)] → W p l e rmX1_unheardDays s m ([.ref o_t, .ref o_p1, .int x2, .int x3] : List Value).toArray below meth c H locs 0 0 Q (F0 m 14 ls []) := by
    intro n14
    induction n14 with
    | zero =>
      intro S_t_0 S_p1 l2 l3 l4 l5 H locs ls hf
      exact no_some hf
    | succ n14 ih14 =>
      intro S_t_0 S_p1 l2 l3 l4 l5 H locs ls hf hP hD hS hl
      replace hf : b_X1_unheardDays_14 (f_X1_unheardDays_14 n14) S_t_0 S_p1 l2 l3 l4 l5 = some out := hf
      unfold b_X1_unheardDays_14 at hf
      refine lv_iload hx hb dX1_unheardDays_14 (lv_at hl 4 rfl) ?_
      refine lv_iload_n hx hb dX1_unheardDays_16 rfl (lv_at hl 2 rfl) ?_
      refine lv_icmp_gt (tgt := 59) hx hb dX1_unheardDays_17 (by decide) (fun c17 => ?_) (fun c17 => ?_)
      · replace hf := it_t c17 hf
        refine lv_iload hx hb dX1_unheardDays_59 (lv_at hl 3 rfl) ?_
        have e := so_some hf
        subst e
        exact ri hx hb hK hr hlk hQ dX1_unheardDays_61 hP hD hS
      · replace hf := it_f c17 hf
        refine lv_aload_n hx hb dX1_unheardDays_20 rfl (lv_at hl 0 rfl) ?_
        refine va_get (D := D) (ci := 1) (v := .ref (a_t 0)) (C := RX1) (T := TX1) (N := 1) hx hb hts hinX1 hown hK hP 0 rfl rfl 0 (by decide) (hts (.fieldLink RX1 12 "OnlyStrangersHear$Mind" "then" "LOnlyStrangersHear$Town;") (by decide +kernel)) (fun _ h9 => h9) rfl dX1_unheardDays_21 ?_
        refine lv_iconst (v := (1 : Int32)) hx hb dX1_unheardDays_24 (by decide) ?_
        obtain ⟨r25, u25, h25, hf⟩ := bd_some hf
        have hPc := hP.sub (ws' := gX4 (a_t 0) a_t_0 cI S_t_0) [1, 2, 3, 4, 5, 6, 7] rfl
        have hDc := hD.sub (ws' := gX4 (a_t 0) a_t_0 cI S_t_0) [1, 2, 3, 4, 5, 6, 7] (by decide) rfl
        refine calX (runV E0.b E0.n (As := [.int (1 : Int32)]) (rest := []) ⟨hx, hb, hml, hown, hts⟩ (c_X4_pass l D cI (a_t 0) a_t_0 S_t_0 (1 : Int32) _ h25) gX1_unheardDays_X4_pass rfl rfl rfl hdX4_pass ⟨by decide, by decide⟩ hK hPc hDc 0 rfl rfl rfl hl.1 rfl (Nat.le_of_ble_eq_true rfl) dX1_unheardDays_25 ⟨Nat.zero_le _, Nat.zero_le _⟩) hP hD hS hA [1, 2, 3, 4, 5, 6, 7] [0, 8, 9, 10, 11, 12, 13, 14] [0, 8, 9, 10, 11, 12, 13, 14, 1, 2, 3, 4, 5, 6, 7] (wr := gX1 o_t a_t ++ gX4 o_p1 a_p1 cI S_p1) (wn := gX1 o_t a_t ++ (gX4 (a_t 0) a_t_0 cI u25 ++ gX4 o_p1 a_p1 cI S_p1)) rfl rfl (by decide) (by decide) rfl (by decide) (fun H locs hP hD hS => ?_)
        have hP : va_P D vwCl (gX1 o_t a_t ++ (gX4 (a_t 0) a_t_0 cI u25 ++ gX4 o_p1 a_p1 cI S_p1)) H := hP
        have hD : va_D A (gX1 o_t a_t ++ (gX4 (a_t 0) a_t_0 cI u25 ++ gX4 o_p1 a_p1 cI S_p1)) := hD
        refine W.eq (g2 := F0 m 28 ls []) rfl ?_
        refine lv_aload_n hx hb dX1_unheardDays_28 rfl (lv_at hl 0 rfl) ?_
        refine va_get (D := D) (ci := 1) (v := .ref (a_t 0)) (C := RX1) (T := TX1) (N := 1) hx hb hts hinX1 hown hK hP 0 rfl rfl 0 (by decide) (hts (.fieldLink RX1 12 "OnlyStrangersHear$Mind" "then" "LOnlyStrangersHear$Town;") (by decide +kernel)) (fun _ h9 => h9) rfl dX1_unheardDays_29 ?_
        refine lv_iload_n hx hb dX1_unheardDays_32 rfl (lv_at hl 1 rfl) ?_
        obtain ⟨r33, u33, h33, hf⟩ := bd_some hf
        have hPc := hP.sub (ws' := gX4 (a_t 0) a_t_0 cI u25) [1, 2, 3, 4, 5, 6, 7] rfl
        have hDc := hD.sub (ws' := gX4 (a_t 0) a_t_0 cI u25) [1, 2, 3, 4, 5, 6, 7] (by decide) rfl
        refine calX (runV E0.b E0.n (As := [.int l2]) (rest := []) ⟨hx, hb, hml, hown, hts⟩ (c_X4_isRinging l D cI (a_t 0) a_t_0 u25 l2 _ h33) gX1_unheardDays_X4_isRinging rfl rfl rfl hdX4_isRinging ⟨by decide, by decide⟩ hK hPc hDc 0 rfl rfl rfl hl.1 rfl (Nat.le_of_ble_eq_true rfl) dX1_unheardDays_33 ⟨Nat.zero_le _, Nat.zero_le _⟩) hP hD hS hA [1, 2, 3, 4, 5, 6, 7] [0, 8, 9, 10, 11, 12, 13, 14] [0, 8, 9, 10, 11, 12, 13, 14, 1, 2, 3, 4, 5, 6, 7] (wr := gX1 o_t a_t ++ gX4 o_p1 a_p1 cI S_p1) (wn := gX1 o_t a_t ++ (gX4 (a_t 0) a_t_0 cI u33 ++ gX4 o_p1 a_p1 cI S_p1)) rfl rfl (by decide) (by decide) rfl (by decide) (fun H locs hP hD hS => ?_)
        have hP : va_P D vwCl (gX1 o_t a_t ++ (gX4 (a_t 0) a_t_0 cI u33 ++ gX4 o_p1 a_p1 cI S_p1)) H := hP
        have hD : va_D A (gX1 o_t a_t ++ (gX4 (a_t 0) a_t_0 cI u33 ++ gX4 o_p1 a_p1 cI S_p1)) := hD
        refine W.eq (g2 := F0 m 36 ls [.int r33]) rfl ?_
        refine lv_if_eq (tgt := 53) hx hb dX1_unheardDays_36 (by decide) (fun c36 => ?_) (fun c36 => ?_)
        · replace hf := it_t c36 hf
          refine lv_iinc (v := l5 + (1 : Int32)) (lv' := [(5, .int (l5 + (1 : Int32))), (0, .ref o_t), (2, .int l2), (3, .int l3), (4, .int l4)]) hx hb dX1_unheardDays_53 hl (k := 4) rfl rfl (by decide) rfl (fun ls hl => ?_)
          refine lv_goto (tgt := 14) hx hb dX1_unheardDays_56 (by decide) ?_
          exact ih14 u33 S_p1 l2 l3 l4 (l5 + (1 : Int32)) H locs ls hf hP hD hS (lv_sub hl [1, 2, 3, 4, 0] rfl)
        · replace hf := it_f c36 hf
          refine lv_aload_n hx hb dX1_unheardDays_39 rfl (lv_at hl 0 rfl) ?_
          refine va_get (D := D) (ci := 1) (v := .ref (a_t 0)) (C := RX1) (T := TX1) (N := 1) hx hb hts hinX1 hown hK hP 0 rfl rfl 0 (by decide) (hts (.fieldLink RX1 12 "OnlyStrangersHear$Mind" "then" "LOnlyStrangersHear$Town;") (by decide +kernel)) (fun _ h9 => h9) rfl dX1_unheardDays_40 ?_
          refine lv_iload_n hx hb dX1_unheardDays_43 rfl (lv_at hl 1 rfl) ?_
          obtain ⟨r44, u44, h44, hf⟩ := bd_some hf
          have hPc := hP.sub (ws' := gX4 (a_t 0) a_t_0 cI u33) [1, 2, 3, 4, 5, 6, 7] rfl
          have hDc := hD.sub (ws' := gX4 (a_t 0) a_t_0 cI u33) [1, 2, 3, 4, 5, 6, 7] (by decide) rfl
          refine calX (runV E0.b E0.n (As := [.int l2]) (rest := []) ⟨hx, hb, hml, hown, hts⟩ (c_X4_hearersOf l D cI (a_t 0) a_t_0 u33 l2 _ h44) gX1_unheardDays_X4_hearersOf rfl rfl rfl hdX4_hearersOf ⟨by decide, by decide⟩ hK hPc hDc 0 rfl rfl rfl hl.1 rfl (Nat.le_of_ble_eq_true rfl) dX1_unheardDays_44 ⟨Nat.zero_le _, Nat.zero_le _⟩) hP hD hS hA [1, 2, 3, 4, 5, 6, 7] [0, 8, 9, 10, 11, 12, 13, 14] [0, 8, 9, 10, 11, 12, 13, 14, 1, 2, 3, 4, 5, 6, 7] (wr := gX1 o_t a_t ++ gX4 o_p1 a_p1 cI S_p1) (wn := gX1 o_t a_t ++ (gX4 (a_t 0) a_t_0 cI u44 ++ gX4 o_p1 a_p1 cI S_p1)) rfl rfl (by decide) (by decide) rfl (by decide) (fun H locs hP hD hS => ?_)
          have hP : va_P D vwCl (gX1 o_t a_t ++ (gX4 (a_t 0) a_t_0 cI u44 ++ gX4 o_p1 a_p1 cI S_p1)) H := hP
          have hD : va_D A (gX1 o_t a_t ++ (gX4 (a_t 0) a_t_0 cI u44 ++ gX4 o_p1 a_p1 cI S_p1)) := hD
          refine W.eq (g2 := F0 m 47 ls [.int r44]) rfl ?_
          refine lv_if_ne (tgt := 53) hx hb dX1_unheardDays_47 (by decide) (fun c47 => ?_) (fun c47 => ?_)
          · replace hf := it_f c47 hf
            refine lv_iinc (v := l5 + (1 : Int32)) (lv' := [(5, .int (l5 + (1 : Int32))), (0, .ref o_t), (2, .int l2), (3, .int l3), (4, .int l4)]) hx hb dX1_unheardDays_53 hl (k := 4) rfl rfl (by decide) rfl (fun ls hl => ?_)
            refine lv_goto (tgt := 14) hx hb dX1_unheardDays_56 (by decide) ?_
            exact ih14 u44 S_p1 l2 l3 l4 (l5 + (1 : Int32)) H locs ls hf hP hD hS (lv_sub hl [1, 2, 3, 4, 0] rfl)
          · replace hf := it_t c47 hf
            refine lv_iinc (v := l4 + (1 : Int32)) (lv' := [(4, .int (l4 + (1 : Int32))), (0, .ref o_t), (2, .int l2), (3, .int l3), (5, .int l5)]) hx hb dX1_unheardDays_50 hl (k := 3) rfl rfl (by decide) rfl (fun ls hl => ?_)
            refine lv_iinc (v := l5 + (1 : Int32)) (lv' := [(5, .int (l5 + (1 : Int32))), (4, .int (l4 + (1 : Int32))), (0, .ref o_t), (2, .int l2), (3, .int l3)]) hx hb dX1_unheardDays_53 hl (k := 4) rfl rfl (by decide) rfl (fun ls hl => ?_)
            refine lv_goto (tgt := 14) hx hb dX1_unheardDays_56 (by decide) ?_
            exact ih14 u44 S_p1 l2 l3 (l4 + (1 : Int32)) (l5 + (1 : Int32)) H locs ls hf hP hD hS (lv_sub hl [2, 3, 4, 1, 0] rfl)
  unfold f_X1_unheardDays at hf
  have hl : lv_has ls 6 [(0, .ref o_t), (1, .ref o_p1), (2, .int x2), (3, .int x3)] := hl
  obtain ⟨H, hHe⟩ : ∃ H : Heap, H = s.heap := ⟨_, rfl⟩
  obtain ⟨locs, hle⟩ : ∃ q : List Loc, q = [] := ⟨_, rfl⟩
  have hS : va_S A s.heap H locs := by rw [hHe, hle]; exact hS
  rw [← hHe] at hP
  suffices hgo : W p l e rmX1_unheardDays s m ([.ref o_t, .ref o_p1, .int x2, .int x3] : List Value).toArray below meth c H locs 0 0 Q (F0 m 0 ls []) by rw [hHe, hle] at hgo; exact hgo
  clear hHe hle
  refine lv_aload_n hx hb dX1_unheardDays_0 rfl (lv_at hl 0 rfl) ?_
  refine va_get (D := D) (ci := 1) (v := .ref (a_t 0)) (C := RX1) (T := TX1) (N := 1) hx hb hts hinX1 hown hK hP 0 rfl rfl 0 (by decide) (hts (.fieldLink RX1 12 "OnlyStrangersHear$Mind" "then" "LOnlyStrangersHear$Town;") (by decide +kernel)) (fun _ h9 => h9) rfl dX1_unheardDays_1 ?_
  refine lv_aload_n hx hb dX1_unheardDays_4 rfl (lv_at hl 1 rfl) ?_
  obtain ⟨r5, u5, h5, hf⟩ := bd_some hf
  have hPc := hP.sub (ws' := gX4 (a_t 0) a_t_0 cI S_t_0 ++ gX4 o_p1 a_p1 cI S_p1) [1, 2, 3, 4, 5, 6, 7, 8, 9, 10, 11, 12, 13, 14] rfl
  have hDc := hD.sub (ws' := gX4 (a_t 0) a_t_0 cI S_t_0 ++ gX4 o_p1 a_p1 cI S_p1) [1, 2, 3, 4, 5, 6, 7, 8, 9, 10, 11, 12, 13, 14] (by decide) rfl
  refine calX (runV E0.b E0.n (As := [.ref o_p1]) (rest := []) ⟨hx, hb, hml, hown, hts⟩ (c_X4_become l D cI (a_t 0) a_t_0 o_p1 a_p1 S_t_0 S_p1 _ h5) gX1_unheardDays_X4_become rfl rfl rfl hdX4_become ⟨by decide, by decide⟩ hK hPc hDc 0 rfl rfl rfl hl.1 rfl (Nat.le_of_ble_eq_true rfl) dX1_unheardDays_5 ⟨Nat.zero_le _, Nat.zero_le _⟩) hP hD hS hA [1, 2, 3, 4, 5, 6, 7, 8, 9, 10, 11, 12, 13, 14] [0] [0, 1, 2, 3, 4, 5, 6, 7, 8, 9, 10, 11, 12, 13, 14] (wr := gX1 o_t a_t) (wn := gX1 o_t a_t ++ (gX4 (a_t 0) a_t_0 cI u5.1 ++ gX4 o_p1 a_p1 cI u5.2)) rfl rfl (by decide) (by decide) rfl (by decide) (fun H locs hP hD hS => ?_)
  have hP : va_P D vwCl (gX1 o_t a_t ++ (gX4 (a_t 0) a_t_0 cI u5.1 ++ gX4 o_p1 a_p1 cI u5.2)) H := hP
  have hD : va_D A (gX1 o_t a_t ++ (gX4 (a_t 0) a_t_0 cI u5.1 ++ gX4 o_p1 a_p1 cI u5.2)) := hD
  refine W.eq (g2 := F0 m 8 ls []) rfl ?_
  refine lv_iconst (v := (0 : Int32)) hx hb dX1_unheardDays_8 (by decide) ?_
  refine lv_istore (lv' := [(4, .int (0 : Int32)), (0, .ref o_t), (1, .ref o_p1), (2, .int x2), (3, .int x3)]) hx hb dX1_unheardDays_9 hl (by decide) rfl (fun ls hl => ?_)
  refine lv_iconst (v := (1 : Int32)) hx hb dX1_unheardDays_11 (by decide) ?_
  refine lv_istore (lv' := [(5, .int (1 : Int32)), (4, .int (0 : Int32)), (0, .ref o_t), (1, .ref o_p1), (2, .int x2), (3, .int x3)]) hx hb dX1_unheardDays_12 hl (by decide) rfl (fun ls hl => ?_)
  exact j14 1000 u5.1 u5.2 x2 x3 (0 : Int32) (1 : Int32) H locs ls hf hP hD hS (lv_sub hl [2, 4, 5, 1, 0] rfl)
abbrev rmX1_longestRight : Room := { frames := 3, cells := 0, slots := 0, locals := 68 }
set_option maxHeartbeats 4000000 in
set_option maxRecDepth 100000 in
theorem c_X1_longestRight (l : Launch) (D : va_G) (cI : ClassId) (o_t : Nat) (a_t : Nat → Nat) (a_t_0 : Nat → Nat) (o_p1 : Nat) (a_p1 : Nat → Nat) (S_t_0 : G) (S_p1 : G) (x2 : Int32) (out : Int32 × G × G) (hf : f_X1_longestRight S_t_0 S_p1 x2 = some out) : Cn EX l yX1_longestRight wsX1_longestRight rmX1_longestRight D cI [.ref o_t, .ref o_p1, .int x2] (gX1 o_t a_t ++ (gX4 (a_t 0) a_t_0 cI S_t_0 ++ gX4 o_p1 a_p1 cI S_p1)) (some (.int out.1)) (gX1 o_t a_t ++ (gX4 (a_t 0) a_t_0 cI out.2.1 ++ gX4 o_p1 a_p1 cI out.2.2)) := by
  refine Cn.mk (cc := cX1_longestRight) (maxL := 6) (ret := (some .int)) (by decide) rfl (Nat.le_of_ble_eq_true rfl) ?_
  intro p e s m below meth c A ls Q hx hb hml hown hts hK hA hP hD hS hl hr hlk hnm hE hQ
  have hown : s.vm.findClass RX1 = some m.cls := hown
  have hinX1 : ∀ w ∈ u_ws RX1 TX1 1, w ∈ wsX1_longestRight := by decide +kernel
  have hinX4 : ∀ w ∈ u_ws RX4 TX4 10, w ∈ wsX1_longestRight := by decide +kernel
  have j110 : ∀ (S_t_0 : G) (S_p1 : G) (l3 : Int32) (H : Heap) (locs : List Loc) (ls : Array Slot), f_X1_longestRight_110 S_t_0 S_p1 l3 = some out → va_P D vwCl (gX1 o_t a_t ++ (gX4 (a_t 0) a_t_0 cI S_t_0 ++ gX4 o_p1 a_p1 cI S_p1)) H → va_D A (gX1 o_t a_t ++ (gX4 (a_t 0) a_t_0 cI S_t_0 ++ gX4 o_p1 a_p1 cI S_p1)) → va_S A s.heap H locs → lv_has ls 6 [(3, .int l3)] → W p l e rmX1_longestRight s m ([.ref o_t, .ref o_p1, .int x2] : List Value).toArray below meth c H locs 0 0 Q (F0 m 110 ls []) := by
    intro S_t_0 S_p1 l3 H locs ls hf hP hD hS hl
    unfold f_X1_longestRight_110 at hf
    refine lv_iload_n hx hb dX1_longestRight_110 rfl (lv_at hl 0 rfl) ?_
    obtain ⟨r111, u111, h111, hf⟩ := bd_some hf
    have hPc : va_P D vwCl [] H := hP.sub (ws' := []) [] rfl
    have hDc : va_D A [] := hD.sub (ws' := []) [] (by decide) rfl
    refine calXe (runSN (host := RX6) E0.b E0.n (As := [.int l3]) (rest := []) ⟨hx, hb, hml, hown, hts⟩ (c_X6_leastBit l D cI l3 _ h111) gX1_longestRight_X6_leastBit_n34 rfl rfl rfl hE.1 (hts (.initialized RX6) (by decide +kernel)) (hts (.static yX6_leastBit) (by decide +kernel)) hdX6_leastBit ⟨by decide, by decide⟩ hK hPc hDc rfl hl.1 rfl (Nat.le_of_ble_eq_true rfl) dX1_longestRight_111 ⟨Nat.zero_le _, Nat.zero_le _⟩) hP hD hS hA (fun H locs hP hD hS => ?_)
    have hP : va_P D vwCl (gX1 o_t a_t ++ (gX4 (a_t 0) a_t_0 cI S_t_0 ++ gX4 o_p1 a_p1 cI S_p1)) H := hP
    have hD : va_D A (gX1 o_t a_t ++ (gX4 (a_t 0) a_t_0 cI S_t_0 ++ gX4 o_p1 a_p1 cI S_p1)) := hD
    refine W.eq (g2 := F0 m 114 ls [.int r111]) rfl ?_
    have e := so_some hf
    subst e
    exact ri hx hb hK hr hlk hQ dX1_longestRight_114 hP hD hS
  have j66 : ∀ (n66 : Nat) (S_t_0 : G) (S_p1 : G) (l2 : Int32) (l3 : Int32) (l4 : Int32) (H : Heap) (locs : List Loc) (ls : Array Slot), f_X1_longestRight_66 n66 S_t_0 S_p1 l2 l3 l4 = some out → va_P D vwCl (gX1 o_t a_t ++ (gX4 (a_t 0) a_t_0 cI S_t_0 ++ gX4 o_p1 a_p1 cI S_p1)) H → va_D A (gX1 o_t a_t ++ (gX4 (a_t 0) a_t_0 cI S_t_0 ++ gX4 o_p1 a_p1 cI S_p1)) → va_S A s.heap H locs → lv_has ls 6 [(0, .ref o_t), (2, .int l2), (3, .int l3), (4, .int l4)] → W p l e rmX1_longestRight s m ([.ref o_t, .ref o_p1, .int x2] : List Value).toArray below meth c H locs 0 0 Q (F0 m 66 ls []) := by
    intro n66
    induction n66 with
    | zero =>
      intro S_t_0 S_p1 l2 l3 l4 H locs ls hf
      exact no_some hf
    | succ n66 ih66 =>
      intro S_t_0 S_p1 l2 l3 l4 H locs ls hf hP hD hS hl
      replace hf : b_X1_longestRight_66 (f_X1_longestRight_66 n66) S_t_0 S_p1 l2 l3 l4 = some out := hf
      unfold b_X1_longestRight_66 at hf
      refine lv_iload hx hb dX1_longestRight_66 (lv_at hl 3 rfl) ?_
      refine lv_bipush (v := (99 : Int32)) hx hb dX1_longestRight_68 (by decide) ?_
      refine lv_icmp_gt (tgt := 110) hx hb dX1_longestRight_70 (by decide) (fun c70 => ?_) (fun c70 => ?_)
      · replace hf := it_t c70 hf
        exact j110 S_t_0 S_p1 l3 H locs ls hf hP hD hS (lv_sub hl [2] rfl)
      · replace hf := it_f c70 hf
        refine lv_aload_n hx hb dX1_longestRight_73 rfl (lv_at hl 0 rfl) ?_
        refine va_get (D := D) (ci := 1) (v := .ref (a_t 0)) (C := RX1) (T := TX1) (N := 1) hx hb hts hinX1 hown hK hP 0 rfl rfl 0 (by decide) (hts (.fieldLink RX1 12 "OnlyStrangersHear$Mind" "then" "LOnlyStrangersHear$Town;") (by decide +kernel)) (fun _ h9 => h9) rfl dX1_longestRight_74 ?_
        refine lv_iconst (v := (1 : Int32)) hx hb dX1_longestRight_77 (by decide) ?_
        obtain ⟨r78, u78, h78, hf⟩ := bd_some hf
        have hPc := hP.sub (ws' := gX4 (a_t 0) a_t_0 cI S_t_0) [1, 2, 3, 4, 5, 6, 7] rfl
        have hDc := hD.sub (ws' := gX4 (a_t 0) a_t_0 cI S_t_0) [1, 2, 3, 4, 5, 6, 7] (by decide) rfl
        refine calX (runV E0.b E0.n (As := [.int (1 : Int32)]) (rest := []) ⟨hx, hb, hml, hown, hts⟩ (c_X4_pass l D cI (a_t 0) a_t_0 S_t_0 (1 : Int32) _ h78) gX1_longestRight_X4_pass rfl rfl rfl hdX4_pass ⟨by decide, by decide⟩ hK hPc hDc 0 rfl rfl rfl hl.1 rfl (Nat.le_of_ble_eq_true rfl) dX1_longestRight_78 ⟨Nat.zero_le _, Nat.zero_le _⟩) hP hD hS hA [1, 2, 3, 4, 5, 6, 7] [0, 8, 9, 10, 11, 12, 13, 14] [0, 8, 9, 10, 11, 12, 13, 14, 1, 2, 3, 4, 5, 6, 7] (wr := gX1 o_t a_t ++ gX4 o_p1 a_p1 cI S_p1) (wn := gX1 o_t a_t ++ (gX4 (a_t 0) a_t_0 cI u78 ++ gX4 o_p1 a_p1 cI S_p1)) rfl rfl (by decide) (by decide) rfl (by decide) (fun H locs hP hD hS => ?_)
        have hP : va_P D vwCl (gX1 o_t a_t ++ (gX4 (a_t 0) a_t_0 cI u78 ++ gX4 o_p1 a_p1 cI S_p1)) H := hP
        have hD : va_D A (gX1 o_t a_t ++ (gX4 (a_t 0) a_t_0 cI u78 ++ gX4 o_p1 a_p1 cI S_p1)) := hD
        refine W.eq (g2 := F0 m 81 ls []) rfl ?_
        refine lv_iload_n hx hb dX1_longestRight_81 rfl (lv_at hl 2 rfl) ?_
        refine lv_aload_n hx hb dX1_longestRight_82 rfl (lv_at hl 0 rfl) ?_
        refine va_get (D := D) (ci := 1) (v := .ref (a_t 0)) (C := RX1) (T := TX1) (N := 1) hx hb hts hinX1 hown hK hP 0 rfl rfl 0 (by decide) (hts (.fieldLink RX1 12 "OnlyStrangersHear$Mind" "then" "LOnlyStrangersHear$Town;") (by decide +kernel)) (fun _ h9 => h9) rfl dX1_longestRight_83 ?_
        refine lv_iload_n hx hb dX1_longestRight_86 rfl (lv_at hl 1 rfl) ?_
        obtain ⟨r87, u87, h87, hf⟩ := bd_some hf
        have hPc := hP.sub (ws' := gX4 (a_t 0) a_t_0 cI u78) [1, 2, 3, 4, 5, 6, 7] rfl
        have hDc := hD.sub (ws' := gX4 (a_t 0) a_t_0 cI u78) [1, 2, 3, 4, 5, 6, 7] (by decide) rfl
        refine calX (runV E0.b E0.n (As := [.int l2]) (rest := [.int l3]) ⟨hx, hb, hml, hown, hts⟩ (c_X4_hearersOf l D cI (a_t 0) a_t_0 u78 l2 _ h87) gX1_longestRight_X4_hearersOf rfl rfl rfl hdX4_hearersOf ⟨by decide, by decide⟩ hK hPc hDc 0 rfl rfl rfl hl.1 rfl (Nat.le_of_ble_eq_true rfl) dX1_longestRight_87 ⟨Nat.zero_le _, Nat.zero_le _⟩) hP hD hS hA [1, 2, 3, 4, 5, 6, 7] [0, 8, 9, 10, 11, 12, 13, 14] [0, 8, 9, 10, 11, 12, 13, 14, 1, 2, 3, 4, 5, 6, 7] (wr := gX1 o_t a_t ++ gX4 o_p1 a_p1 cI S_p1) (wn := gX1 o_t a_t ++ (gX4 (a_t 0) a_t_0 cI u87 ++ gX4 o_p1 a_p1 cI S_p1)) rfl rfl (by decide) (by decide) rfl (by decide) (fun H locs hP hD hS => ?_)
        have hP : va_P D vwCl (gX1 o_t a_t ++ (gX4 (a_t 0) a_t_0 cI u87 ++ gX4 o_p1 a_p1 cI S_p1)) H := hP
        have hD : va_D A (gX1 o_t a_t ++ (gX4 (a_t 0) a_t_0 cI u87 ++ gX4 o_p1 a_p1 cI S_p1)) := hD
        refine W.eq (g2 := F0 m 90 ls [.int r87, .int l3]) rfl ?_
        refine lv_iand hx hb dX1_longestRight_90 ?_
        refine lv_istore (lv' := [(5, .int (l3 &&& r87)), (0, .ref o_t), (2, .int l2), (3, .int l3), (4, .int l4)]) hx hb dX1_longestRight_91 hl (by decide) rfl (fun ls hl => ?_)
        refine lv_iload hx hb dX1_longestRight_93 (lv_at hl 0 rfl) ?_
        refine lv_if_ne (tgt := 101) hx hb dX1_longestRight_95 (by decide) (fun c95 => ?_) (fun c95 => ?_)
        · replace hf := it_f c95 hf
          refine lv_iload hx hb dX1_longestRight_101 (lv_at hl 0 rfl) ?_
          refine lv_istore_n (lv' := [(3, .int (l3 &&& r87)), (5, .int (l3 &&& r87)), (0, .ref o_t), (2, .int l2), (4, .int l4)]) hx hb dX1_longestRight_103 rfl hl (by decide) rfl (fun ls hl => ?_)
          refine lv_iinc (v := l4 + (1 : Int32)) (lv' := [(4, .int (l4 + (1 : Int32))), (3, .int (l3 &&& r87)), (5, .int (l3 &&& r87)), (0, .ref o_t), (2, .int l2)]) hx hb dX1_longestRight_104 hl (k := 4) rfl rfl (by decide) rfl (fun ls hl => ?_)
          refine lv_goto (tgt := 66) hx hb dX1_longestRight_107 (by decide) ?_
          exact ih66 u87 S_p1 l2 (l3 &&& r87) (l4 + (1 : Int32)) H locs ls hf hP hD hS (lv_sub hl [3, 4, 1, 0] rfl)
        · replace hf := it_t c95 hf
          refine lv_goto (tgt := 110) hx hb dX1_longestRight_98 (by decide) ?_
          exact j110 u87 S_p1 l3 H locs ls hf hP hD hS (lv_sub hl [3] rfl)
  have j13 : ∀ (n13 : Nat) (S_t_0 : G) (S_p1 : G) (l2 : Int32) (l3 : Int32) (l4 : Int32) (H : Heap) (locs : List Loc) (ls : Array Slot), f_X1_longestRight_13 n13 S_t_0 S_p1 l2 l3 l4 = some out → va_P D vwCl (gX1 o_t a_t ++ (gX4 (a_t 0) a_t_0 cI S_t_0 ++ gX4 o_p1 a_p1 cI S_p1)) H → va_D A (gX1 o_t a_t ++ (gX4 (a_t 0) a_t_0 cI S_t_0 ++ gX4 o_p1 a_p1 cI S_p1)) → va_S A s.heap H locs → lv_has ls 6 [(0, .ref o_t), (2, .int l2), (3, .int l3), (4, .int l4)] → W p l e rmX1_longestRight s m ([.ref o_t, .ref o_p1, .int x2] : List Value).toArray below meth c H locs 0 0 Q (F0 m 13 ls []) := by
    intro n13
    induction n13 with
    | zero =>
      intro S_t_0 S_p1 l2 l3 l4 H locs ls hf
      exact no_some hf
    | succ n13 ih13 =>
      intro S_t_0 S_p1 l2 l3 l4 H locs ls hf hP hD hS hl
      replace hf : b_X1_longestRight_13 (f_X1_longestRight_13 n13) S_t_0 S_p1 l2 l3 l4 = some out := hf
      unfold b_X1_longestRight_13 at hf
      refine lv_iload hx hb dX1_longestRight_13 (lv_at hl 3 rfl) ?_
      refine lv_aload_n hx hb dX1_longestRight_15 rfl (lv_at hl 0 rfl) ?_
      refine va_get (D := D) (ci := 1) (v := .ref (a_t 0)) (C := RX1) (T := TX1) (N := 1) hx hb hts hinX1 hown hK hP 0 rfl rfl 0 (by decide) (hts (.fieldLink RX1 12 "OnlyStrangersHear$Mind" "then" "LOnlyStrangersHear$Town;") (by decide +kernel)) (fun _ h9 => h9) rfl dX1_longestRight_16 ?_
      refine va_get (D := D) (ci := 4) (v := .int (S_t_0.1 3)) (C := RX4) (T := TX4) (N := 10) hx hb hts hinX4 hown hK hP 1 rfl rfl 3 (by decide) (hts (.fieldLink RX1 48 "OnlyStrangersHear$Town" "people" "I") (by decide +kernel)) (fun _ h9 => h9) rfl dX1_longestRight_19 ?_
      refine lv_icmp_ge (tgt := 63) hx hb dX1_longestRight_22 (by decide) (fun c22 => ?_) (fun c22 => ?_)
      · replace hf := it_t c22 hf
        refine lv_iconst (v := (1 : Int32)) hx hb dX1_longestRight_63 (by decide) ?_
        refine lv_istore (lv' := [(4, .int (1 : Int32)), (0, .ref o_t), (2, .int l2), (3, .int l3)]) hx hb dX1_longestRight_64 hl (by decide) rfl (fun ls hl => ?_)
        exact j66 1000 S_t_0 S_p1 l2 l3 (1 : Int32) H locs ls hf hP hD hS (lv_sub hl [1, 2, 3, 0] rfl)
      · replace hf := it_f c22 hf
        refine lv_aload_n hx hb dX1_longestRight_25 rfl (lv_at hl 0 rfl) ?_
        refine va_get (D := D) (ci := 1) (v := .ref (a_t 0)) (C := RX1) (T := TX1) (N := 1) hx hb hts hinX1 hown hK hP 0 rfl rfl 0 (by decide) (hts (.fieldLink RX1 12 "OnlyStrangersHear$Mind" "then" "LOnlyStrangersHear$Town;") (by decide +kernel)) (fun _ h9 => h9) rfl dX1_longestRight_26 ?_
        refine lv_iload hx hb dX1_longestRight_29 (lv_at hl 3 rfl) ?_
        refine lv_iload_n hx hb dX1_longestRight_31 rfl (lv_at hl 1 rfl) ?_
        obtain ⟨r32, u32, h32, hf⟩ := bd_some hf
        have hPc := hP.sub (ws' := gX4 (a_t 0) a_t_0 cI S_t_0) [1, 2, 3, 4, 5, 6, 7] rfl
        have hDc := hD.sub (ws' := gX4 (a_t 0) a_t_0 cI S_t_0) [1, 2, 3, 4, 5, 6, 7] (by decide) rfl
        refine calX (runV E0.b E0.n (As := [.int l4, .int l2]) (rest := []) ⟨hx, hb, hml, hown, hts⟩ (c_X4_hearsIt l D cI (a_t 0) a_t_0 S_t_0 l4 l2 _ h32) gX1_longestRight_X4_hearsIt rfl rfl rfl hdX4_hearsIt ⟨by decide, by decide⟩ hK hPc hDc 0 rfl rfl rfl hl.1 rfl (Nat.le_of_ble_eq_true rfl) dX1_longestRight_32 ⟨Nat.zero_le _, Nat.zero_le _⟩) hP hD hS hA [1, 2, 3, 4, 5, 6, 7] [0, 8, 9, 10, 11, 12, 13, 14] [0, 8, 9, 10, 11, 12, 13, 14, 1, 2, 3, 4, 5, 6, 7] (wr := gX1 o_t a_t ++ gX4 o_p1 a_p1 cI S_p1) (wn := gX1 o_t a_t ++ (gX4 (a_t 0) a_t_0 cI u32 ++ gX4 o_p1 a_p1 cI S_p1)) rfl rfl (by decide) (by decide) rfl (by decide) (fun H locs hP hD hS => ?_)
        have hP : va_P D vwCl (gX1 o_t a_t ++ (gX4 (a_t 0) a_t_0 cI u32 ++ gX4 o_p1 a_p1 cI S_p1)) H := hP
        have hD : va_D A (gX1 o_t a_t ++ (gX4 (a_t 0) a_t_0 cI u32 ++ gX4 o_p1 a_p1 cI S_p1)) := hD
        refine W.eq (g2 := F0 m 35 ls [.int r32]) rfl ?_
        refine lv_if_eq (tgt := 57) hx hb dX1_longestRight_35 (by decide) (fun c35 => ?_) (fun c35 => ?_)
        · replace hf := it_t c35 hf
          refine lv_iinc (v := l4 + (1 : Int32)) (lv' := [(4, .int (l4 + (1 : Int32))), (0, .ref o_t), (2, .int l2), (3, .int l3)]) hx hb dX1_longestRight_57 hl (k := 3) rfl rfl (by decide) rfl (fun ls hl => ?_)
          refine lv_goto (tgt := 13) hx hb dX1_longestRight_60 (by decide) ?_
          exact ih13 u32 S_p1 l2 l3 (l4 + (1 : Int32)) H locs ls hf hP hD hS (lv_sub hl [1, 2, 3, 0] rfl)
        · replace hf := it_f c35 hf
          refine lv_aload_n hx hb dX1_longestRight_38 rfl (lv_at hl 0 rfl) ?_
          refine va_get (D := D) (ci := 1) (v := .ref (a_t 0)) (C := RX1) (T := TX1) (N := 1) hx hb hts hinX1 hown hK hP 0 rfl rfl 0 (by decide) (hts (.fieldLink RX1 12 "OnlyStrangersHear$Mind" "then" "LOnlyStrangersHear$Town;") (by decide +kernel)) (fun _ h9 => h9) rfl dX1_longestRight_39 ?_
          refine lv_iload hx hb dX1_longestRight_42 (lv_at hl 3 rfl) ?_
          obtain ⟨r44, u44, h44, hf⟩ := bd_some hf
          have hPc := hP.sub (ws' := gX4 (a_t 0) a_t_0 cI u32) [1, 2, 3, 4, 5, 6, 7] rfl
          have hDc := hD.sub (ws' := gX4 (a_t 0) a_t_0 cI u32) [1, 2, 3, 4, 5, 6, 7] (by decide) rfl
          refine calX (runV E0.b E0.n (As := [.int l4]) (rest := []) ⟨hx, hb, hml, hown, hts⟩ (c_X4_hoursLater l D cI (a_t 0) a_t_0 u32 l4 _ h44) gX1_longestRight_X4_hoursLater rfl rfl rfl hdX4_hoursLater ⟨by decide, by decide⟩ hK hPc hDc 0 rfl rfl rfl hl.1 rfl (Nat.le_of_ble_eq_true rfl) dX1_longestRight_44 ⟨Nat.zero_le _, Nat.zero_le _⟩) hP hD hS hA [1, 2, 3, 4, 5, 6, 7] [0, 8, 9, 10, 11, 12, 13, 14] [0, 8, 9, 10, 11, 12, 13, 14, 1, 2, 3, 4, 5, 6, 7] (wr := gX1 o_t a_t ++ gX4 o_p1 a_p1 cI S_p1) (wn := gX1 o_t a_t ++ (gX4 (a_t 0) a_t_0 cI u44 ++ gX4 o_p1 a_p1 cI S_p1)) rfl rfl (by decide) (by decide) rfl (by decide) (fun H locs hP hD hS => ?_)
          have hP : va_P D vwCl (gX1 o_t a_t ++ (gX4 (a_t 0) a_t_0 cI u44 ++ gX4 o_p1 a_p1 cI S_p1)) H := hP
          have hD : va_D A (gX1 o_t a_t ++ (gX4 (a_t 0) a_t_0 cI u44 ++ gX4 o_p1 a_p1 cI S_p1)) := hD
          refine W.eq (g2 := F0 m 47 ls [.int r44]) rfl ?_
          refine lv_if_ne (tgt := 57) hx hb dX1_longestRight_47 (by decide) (fun c47 => ?_) (fun c47 => ?_)
          · replace hf := it_f c47 hf
            refine lv_iinc (v := l4 + (1 : Int32)) (lv' := [(4, .int (l4 + (1 : Int32))), (0, .ref o_t), (2, .int l2), (3, .int l3)]) hx hb dX1_longestRight_57 hl (k := 3) rfl rfl (by decide) rfl (fun ls hl => ?_)
            refine lv_goto (tgt := 13) hx hb dX1_longestRight_60 (by decide) ?_
            exact ih13 u44 S_p1 l2 l3 (l4 + (1 : Int32)) H locs ls hf hP hD hS (lv_sub hl [1, 2, 3, 0] rfl)
          · replace hf := it_t c47 hf
            refine lv_iload_n hx hb dX1_longestRight_50 rfl (lv_at hl 2 rfl) ?_
            refine lv_iconst (v := (1 : Int32)) hx hb dX1_longestRight_51 (by decide) ?_
            refine lv_iload hx hb dX1_longestRight_52 (lv_at hl 3 rfl) ?_
            refine lv_ishl hx hb dX1_longestRight_54 ?_
            refine lv_ior hx hb dX1_longestRight_55 ?_
            refine lv_topi (fun v56 e56 => ?_)
            replace hf := lt_at e56 hf
            refine lv_istore_n (lv' := [(3, .int v56), (0, .ref o_t), (2, .int l2), (4, .int l4)]) hx hb dX1_longestRight_56 rfl hl (by decide) rfl (fun ls hl => ?_)
            refine lv_iinc (v := l4 + (1 : Int32)) (lv' := [(4, .int (l4 + (1 : Int32))), (3, .int v56), (0, .ref o_t), (2, .int l2)]) hx hb dX1_longestRight_57 hl (k := 3) rfl rfl (by decide) rfl (fun ls hl => ?_)
            refine lv_goto (tgt := 13) hx hb dX1_longestRight_60 (by decide) ?_
            exact ih13 u44 S_p1 l2 v56 (l4 + (1 : Int32)) H locs ls hf hP hD hS (lv_sub hl [2, 3, 1, 0] rfl)
  unfold f_X1_longestRight at hf
  have hl : lv_has ls 6 [(0, .ref o_t), (1, .ref o_p1), (2, .int x2)] := hl
  obtain ⟨H, hHe⟩ : ∃ H : Heap, H = s.heap := ⟨_, rfl⟩
  obtain ⟨locs, hle⟩ : ∃ q : List Loc, q = [] := ⟨_, rfl⟩
  have hS : va_S A s.heap H locs := by rw [hHe, hle]; exact hS
  rw [← hHe] at hP
  suffices hgo : W p l e rmX1_longestRight s m ([.ref o_t, .ref o_p1, .int x2] : List Value).toArray below meth c H locs 0 0 Q (F0 m 0 ls []) by rw [hHe, hle] at hgo; exact hgo
  clear hHe hle
  refine lv_aload_n hx hb dX1_longestRight_0 rfl (lv_at hl 0 rfl) ?_
  refine va_get (D := D) (ci := 1) (v := .ref (a_t 0)) (C := RX1) (T := TX1) (N := 1) hx hb hts hinX1 hown hK hP 0 rfl rfl 0 (by decide) (hts (.fieldLink RX1 12 "OnlyStrangersHear$Mind" "then" "LOnlyStrangersHear$Town;") (by decide +kernel)) (fun _ h9 => h9) rfl dX1_longestRight_1 ?_
  refine lv_aload_n hx hb dX1_longestRight_4 rfl (lv_at hl 1 rfl) ?_
  obtain ⟨r5, u5, h5, hf⟩ := bd_some hf
  have hPc := hP.sub (ws' := gX4 (a_t 0) a_t_0 cI S_t_0 ++ gX4 o_p1 a_p1 cI S_p1) [1, 2, 3, 4, 5, 6, 7, 8, 9, 10, 11, 12, 13, 14] rfl
  have hDc := hD.sub (ws' := gX4 (a_t 0) a_t_0 cI S_t_0 ++ gX4 o_p1 a_p1 cI S_p1) [1, 2, 3, 4, 5, 6, 7, 8, 9, 10, 11, 12, 13, 14] (by decide) rfl
  refine calX (runV E0.b E0.n (As := [.ref o_p1]) (rest := []) ⟨hx, hb, hml, hown, hts⟩ (c_X4_become l D cI (a_t 0) a_t_0 o_p1 a_p1 S_t_0 S_p1 _ h5) gX1_longestRight_X4_become rfl rfl rfl hdX4_become ⟨by decide, by decide⟩ hK hPc hDc 0 rfl rfl rfl hl.1 rfl (Nat.le_of_ble_eq_true rfl) dX1_longestRight_5 ⟨Nat.zero_le _, Nat.zero_le _⟩) hP hD hS hA [1, 2, 3, 4, 5, 6, 7, 8, 9, 10, 11, 12, 13, 14] [0] [0, 1, 2, 3, 4, 5, 6, 7, 8, 9, 10, 11, 12, 13, 14] (wr := gX1 o_t a_t) (wn := gX1 o_t a_t ++ (gX4 (a_t 0) a_t_0 cI u5.1 ++ gX4 o_p1 a_p1 cI u5.2)) rfl rfl (by decide) (by decide) rfl (by decide) (fun H locs hP hD hS => ?_)
  have hP : va_P D vwCl (gX1 o_t a_t ++ (gX4 (a_t 0) a_t_0 cI u5.1 ++ gX4 o_p1 a_p1 cI u5.2)) H := hP
  have hD : va_D A (gX1 o_t a_t ++ (gX4 (a_t 0) a_t_0 cI u5.1 ++ gX4 o_p1 a_p1 cI u5.2)) := hD
  refine W.eq (g2 := F0 m 8 ls []) rfl ?_
  refine lv_iconst (v := (0 : Int32)) hx hb dX1_longestRight_8 (by decide) ?_
  refine lv_istore_n (lv' := [(3, .int (0 : Int32)), (0, .ref o_t), (1, .ref o_p1), (2, .int x2)]) hx hb dX1_longestRight_9 rfl hl (by decide) rfl (fun ls hl => ?_)
  refine lv_iconst (v := (0 : Int32)) hx hb dX1_longestRight_10 (by decide) ?_
  refine lv_istore (lv' := [(4, .int (0 : Int32)), (3, .int (0 : Int32)), (0, .ref o_t), (1, .ref o_p1), (2, .int x2)]) hx hb dX1_longestRight_11 hl (by decide) rfl (fun ls hl => ?_)
  exact j13 1000 u5.1 u5.2 x2 (0 : Int32) (0 : Int32) H locs ls hf hP hD hS (lv_sub hl [2, 4, 1, 0] rfl)
abbrev rmX1_lastDeaf : Room := { frames := 4, cells := 0, slots := 0, locals := 87 }
set_option maxHeartbeats 4000000 in
set_option maxRecDepth 100000 in
theorem c_X1_lastDeaf (l : Launch) (D : va_G) (cI : ClassId) (o_t : Nat) (a_t : Nat → Nat) (a_t_0 : Nat → Nat) (o_p1 : Nat) (a_p1 : Nat → Nat) (S_t_0 : G) (S_p1 : G) (out : Int32 × G × G) (hf : f_X1_lastDeaf S_t_0 S_p1 = some out) : Cn EX l yX1_lastDeaf wsX1_lastDeaf rmX1_lastDeaf D cI [.ref o_t, .ref o_p1] (gX1 o_t a_t ++ (gX4 (a_t 0) a_t_0 cI S_t_0 ++ gX4 o_p1 a_p1 cI S_p1)) (some (.int out.1)) (gX1 o_t a_t ++ (gX4 (a_t 0) a_t_0 cI out.2.1 ++ gX4 o_p1 a_p1 cI out.2.2)) := by
  refine Cn.mk (cc := cX1_lastDeaf) (maxL := 5) (ret := (some .int)) (by decide) rfl (Nat.le_of_ble_eq_true rfl) ?_
  intro p e s m below meth c A ls Q hx hb hml hown hts hK hA hP hD hS hl hr hlk hnm hE hQ
  have hown : s.vm.findClass RX1 = some m.cls := hown
  have hinX1 : ∀ w ∈ u_ws RX1 TX1 1, w ∈ wsX1_lastDeaf := by decide +kernel
  have j60 : ∀ (S_t_0 : G) (S_p1 : G) (l2 : Int32) (H : Heap) (locs : List Loc) (ls : Array Slot), f_X1_lastDeaf_60 S_t_0 S_p1 l2 = some out → va_P D vwCl (gX1 o_t a_t ++ (gX4 (a_t 0) a_t_0 cI S_t_0 ++ gX4 o_p1 a_p1 cI S_p1)) H → va_D A (gX1 o_t a_t ++ (gX4 (a_t 0) a_t_0 cI S_t_0 ++ gX4 o_p1 a_p1 cI S_p1)) → va_S A s.heap H locs → lv_has ls 5 [(2, .int l2)] → W p l e rmX1_lastDeaf s m ([.ref o_t, .ref o_p1] : List Value).toArray below meth c H locs 0 0 Q (F0 m 60 ls []) := by
    intro S_t_0 S_p1 l2 H locs ls hf hP hD hS hl
    unfold f_X1_lastDeaf_60 at hf
    refine lv_iload_n hx hb dX1_lastDeaf_60 rfl (lv_at hl 0 rfl) ?_
    obtain ⟨r61, u61, h61, hf⟩ := bd_some hf
    have hPc : va_P D vwCl [] H := hP.sub (ws' := []) [] rfl
    have hDc : va_D A [] := hD.sub (ws' := []) [] (by decide) rfl
    refine calXe (runSN (host := RX6) E0.b E0.n (As := [.int l2]) (rest := []) ⟨hx, hb, hml, hown, hts⟩ (c_X6_leastBit l D cI l2 _ h61) gX1_lastDeaf_X6_leastBit_n34 rfl rfl rfl hE.1 (hts (.initialized RX6) (by decide +kernel)) (hts (.static yX6_leastBit) (by decide +kernel)) hdX6_leastBit ⟨by decide, by decide⟩ hK hPc hDc rfl hl.1 rfl (Nat.le_of_ble_eq_true rfl) dX1_lastDeaf_61 ⟨Nat.zero_le _, Nat.zero_le _⟩) hP hD hS hA (fun H locs hP hD hS => ?_)
    have hP : va_P D vwCl (gX1 o_t a_t ++ (gX4 (a_t 0) a_t_0 cI S_t_0 ++ gX4 o_p1 a_p1 cI S_p1)) H := hP
    have hD : va_D A (gX1 o_t a_t ++ (gX4 (a_t 0) a_t_0 cI S_t_0 ++ gX4 o_p1 a_p1 cI S_p1)) := hD
    refine W.eq (g2 := F0 m 64 ls [.int r61]) rfl ?_
    have e := so_some hf
    subst e
    exact ri hx hb hK hr hlk hQ dX1_lastDeaf_64 hP hD hS
  have j18 : ∀ (n18 : Nat) (S_t_0 : G) (S_p1 : G) (l2 : Int32) (l3 : Int32) (H : Heap) (locs : List Loc) (ls : Array Slot), f_X1_lastDeaf_18 n18 S_t_0 S_p1 l2 l3 = some out → va_P D vwCl (gX1 o_t a_t ++ (gX4 (a_t 0) a_t_0 cI S_t_0 ++ gX4 o_p1 a_p1 cI S_p1)) H → va_D A (gX1 o_t a_t ++ (gX4 (a_t 0) a_t_0 cI S_t_0 ++ gX4 o_p1 a_p1 cI S_p1)) → va_S A s.heap H locs → lv_has ls 5 [(0, .ref o_t), (2, .int l2), (3, .int l3)] → W p l e rmX1_lastDeaf s m ([.ref o_t, .ref o_p1] : List Value).toArray below meth c H locs 0 0 Q (F0 m 18 ls []) := by
    intro n18
    induction n18 with
    | zero =>
      intro S_t_0 S_p1 l2 l3 H locs ls hf
      exact no_some hf
    | succ n18 ih18 =>
      intro S_t_0 S_p1 l2 l3 H locs ls hf hP hD hS hl
      replace hf : b_X1_lastDeaf_18 (f_X1_lastDeaf_18 n18) S_t_0 S_p1 l2 l3 = some out := hf
      unfold b_X1_lastDeaf_18 at hf
      refine lv_iload_n hx hb dX1_lastDeaf_18 rfl (lv_at hl 2 rfl) ?_
      refine lv_bipush (v := (99 : Int32)) hx hb dX1_lastDeaf_19 (by decide) ?_
      refine lv_icmp_gt (tgt := 60) hx hb dX1_lastDeaf_21 (by decide) (fun c21 => ?_) (fun c21 => ?_)
      · replace hf := it_t c21 hf
        exact j60 S_t_0 S_p1 l2 H locs ls hf hP hD hS (lv_sub hl [1] rfl)
      · replace hf := it_f c21 hf
        refine lv_aload_n hx hb dX1_lastDeaf_24 rfl (lv_at hl 0 rfl) ?_
        refine va_get (D := D) (ci := 1) (v := .ref (a_t 0)) (C := RX1) (T := TX1) (N := 1) hx hb hts hinX1 hown hK hP 0 rfl rfl 0 (by decide) (hts (.fieldLink RX1 12 "OnlyStrangersHear$Mind" "then" "LOnlyStrangersHear$Town;") (by decide +kernel)) (fun _ h9 => h9) rfl dX1_lastDeaf_25 ?_
        refine lv_iconst (v := (1 : Int32)) hx hb dX1_lastDeaf_28 (by decide) ?_
        obtain ⟨r29, u29, h29, hf⟩ := bd_some hf
        have hPc := hP.sub (ws' := gX4 (a_t 0) a_t_0 cI S_t_0) [1, 2, 3, 4, 5, 6, 7] rfl
        have hDc := hD.sub (ws' := gX4 (a_t 0) a_t_0 cI S_t_0) [1, 2, 3, 4, 5, 6, 7] (by decide) rfl
        refine calX (runV E0.b E0.n (As := [.int (1 : Int32)]) (rest := []) ⟨hx, hb, hml, hown, hts⟩ (c_X4_pass l D cI (a_t 0) a_t_0 S_t_0 (1 : Int32) _ h29) gX1_lastDeaf_X4_pass rfl rfl rfl hdX4_pass ⟨by decide, by decide⟩ hK hPc hDc 0 rfl rfl rfl hl.1 rfl (Nat.le_of_ble_eq_true rfl) dX1_lastDeaf_29 ⟨Nat.zero_le _, Nat.zero_le _⟩) hP hD hS hA [1, 2, 3, 4, 5, 6, 7] [0, 8, 9, 10, 11, 12, 13, 14] [0, 8, 9, 10, 11, 12, 13, 14, 1, 2, 3, 4, 5, 6, 7] (wr := gX1 o_t a_t ++ gX4 o_p1 a_p1 cI S_p1) (wn := gX1 o_t a_t ++ (gX4 (a_t 0) a_t_0 cI u29 ++ gX4 o_p1 a_p1 cI S_p1)) rfl rfl (by decide) (by decide) rfl (by decide) (fun H locs hP hD hS => ?_)
        have hP : va_P D vwCl (gX1 o_t a_t ++ (gX4 (a_t 0) a_t_0 cI u29 ++ gX4 o_p1 a_p1 cI S_p1)) H := hP
        have hD : va_D A (gX1 o_t a_t ++ (gX4 (a_t 0) a_t_0 cI u29 ++ gX4 o_p1 a_p1 cI S_p1)) := hD
        refine W.eq (g2 := F0 m 32 ls []) rfl ?_
        refine lv_iload_n hx hb dX1_lastDeaf_32 rfl (lv_at hl 1 rfl) ?_
        refine lv_aload_n hx hb dX1_lastDeaf_33 rfl (lv_at hl 0 rfl) ?_
        refine va_get (D := D) (ci := 1) (v := .ref (a_t 0)) (C := RX1) (T := TX1) (N := 1) hx hb hts hinX1 hown hK hP 0 rfl rfl 0 (by decide) (hts (.fieldLink RX1 12 "OnlyStrangersHear$Mind" "then" "LOnlyStrangersHear$Town;") (by decide +kernel)) (fun _ h9 => h9) rfl dX1_lastDeaf_34 ?_
        obtain ⟨r37, u37, h37, hf⟩ := bd_some hf
        have hPc := hP.sub (ws' := gX4 (a_t 0) a_t_0 cI u29) [1, 2, 3, 4, 5, 6, 7] rfl
        have hDc := hD.sub (ws' := gX4 (a_t 0) a_t_0 cI u29) [1, 2, 3, 4, 5, 6, 7] (by decide) rfl
        refine calX (runV E0.b E0.n (As := []) (rest := [.int l2]) ⟨hx, hb, hml, hown, hts⟩ (c_X4_hearersOfSome l D cI (a_t 0) a_t_0 u29 _ h37) gX1_lastDeaf_X4_hearersOfSome rfl rfl rfl hdX4_hearersOfSome ⟨by decide, by decide⟩ hK hPc hDc 0 rfl rfl rfl hl.1 rfl (Nat.le_of_ble_eq_true rfl) dX1_lastDeaf_37 ⟨Nat.zero_le _, Nat.zero_le _⟩) hP hD hS hA [1, 2, 3, 4, 5, 6, 7] [0, 8, 9, 10, 11, 12, 13, 14] [0, 8, 9, 10, 11, 12, 13, 14, 1, 2, 3, 4, 5, 6, 7] (wr := gX1 o_t a_t ++ gX4 o_p1 a_p1 cI S_p1) (wn := gX1 o_t a_t ++ (gX4 (a_t 0) a_t_0 cI u37 ++ gX4 o_p1 a_p1 cI S_p1)) rfl rfl (by decide) (by decide) rfl (by decide) (fun H locs hP hD hS => ?_)
        have hP : va_P D vwCl (gX1 o_t a_t ++ (gX4 (a_t 0) a_t_0 cI u37 ++ gX4 o_p1 a_p1 cI S_p1)) H := hP
        have hD : va_D A (gX1 o_t a_t ++ (gX4 (a_t 0) a_t_0 cI u37 ++ gX4 o_p1 a_p1 cI S_p1)) := hD
        refine W.eq (g2 := F0 m 40 ls [.int r37, .int l2]) rfl ?_
        refine lv_iand hx hb dX1_lastDeaf_40 ?_
        refine lv_istore (lv' := [(4, .int (l2 &&& r37)), (0, .ref o_t), (2, .int l2), (3, .int l3)]) hx hb dX1_lastDeaf_41 hl (by decide) rfl (fun ls hl => ?_)
        refine lv_iload hx hb dX1_lastDeaf_43 (lv_at hl 0 rfl) ?_
        refine lv_if_ne (tgt := 51) hx hb dX1_lastDeaf_45 (by decide) (fun c45 => ?_) (fun c45 => ?_)
        · replace hf := it_f c45 hf
          refine lv_iload hx hb dX1_lastDeaf_51 (lv_at hl 0 rfl) ?_
          refine lv_istore_n (lv' := [(2, .int (l2 &&& r37)), (4, .int (l2 &&& r37)), (0, .ref o_t), (3, .int l3)]) hx hb dX1_lastDeaf_53 rfl hl (by decide) rfl (fun ls hl => ?_)
          refine lv_iinc (v := l3 + (1 : Int32)) (lv' := [(3, .int (l3 + (1 : Int32))), (2, .int (l2 &&& r37)), (4, .int (l2 &&& r37)), (0, .ref o_t)]) hx hb dX1_lastDeaf_54 hl (k := 3) rfl rfl (by decide) rfl (fun ls hl => ?_)
          refine lv_goto (tgt := 18) hx hb dX1_lastDeaf_57 (by decide) ?_
          exact ih18 u37 S_p1 (l2 &&& r37) (l3 + (1 : Int32)) H locs ls hf hP hD hS (lv_sub hl [3, 1, 0] rfl)
        · replace hf := it_t c45 hf
          refine lv_goto (tgt := 60) hx hb dX1_lastDeaf_48 (by decide) ?_
          exact j60 u37 S_p1 l2 H locs ls hf hP hD hS (lv_sub hl [2] rfl)
  unfold f_X1_lastDeaf at hf
  have hl : lv_has ls 5 [(0, .ref o_t), (1, .ref o_p1)] := hl
  obtain ⟨H, hHe⟩ : ∃ H : Heap, H = s.heap := ⟨_, rfl⟩
  obtain ⟨locs, hle⟩ : ∃ q : List Loc, q = [] := ⟨_, rfl⟩
  have hS : va_S A s.heap H locs := by rw [hHe, hle]; exact hS
  rw [← hHe] at hP
  suffices hgo : W p l e rmX1_lastDeaf s m ([.ref o_t, .ref o_p1] : List Value).toArray below meth c H locs 0 0 Q (F0 m 0 ls []) by rw [hHe, hle] at hgo; exact hgo
  clear hHe hle
  refine lv_aload_n hx hb dX1_lastDeaf_0 rfl (lv_at hl 0 rfl) ?_
  refine va_get (D := D) (ci := 1) (v := .ref (a_t 0)) (C := RX1) (T := TX1) (N := 1) hx hb hts hinX1 hown hK hP 0 rfl rfl 0 (by decide) (hts (.fieldLink RX1 12 "OnlyStrangersHear$Mind" "then" "LOnlyStrangersHear$Town;") (by decide +kernel)) (fun _ h9 => h9) rfl dX1_lastDeaf_1 ?_
  refine lv_aload_n hx hb dX1_lastDeaf_4 rfl (lv_at hl 1 rfl) ?_
  obtain ⟨r5, u5, h5, hf⟩ := bd_some hf
  have hPc := hP.sub (ws' := gX4 (a_t 0) a_t_0 cI S_t_0 ++ gX4 o_p1 a_p1 cI S_p1) [1, 2, 3, 4, 5, 6, 7, 8, 9, 10, 11, 12, 13, 14] rfl
  have hDc := hD.sub (ws' := gX4 (a_t 0) a_t_0 cI S_t_0 ++ gX4 o_p1 a_p1 cI S_p1) [1, 2, 3, 4, 5, 6, 7, 8, 9, 10, 11, 12, 13, 14] (by decide) rfl
  refine calX (runV E0.b E0.n (As := [.ref o_p1]) (rest := []) ⟨hx, hb, hml, hown, hts⟩ (c_X4_become l D cI (a_t 0) a_t_0 o_p1 a_p1 S_t_0 S_p1 _ h5) gX1_lastDeaf_X4_become rfl rfl rfl hdX4_become ⟨by decide, by decide⟩ hK hPc hDc 0 rfl rfl rfl hl.1 rfl (Nat.le_of_ble_eq_true rfl) dX1_lastDeaf_5 ⟨Nat.zero_le _, Nat.zero_le _⟩) hP hD hS hA [1, 2, 3, 4, 5, 6, 7, 8, 9, 10, 11, 12, 13, 14] [0] [0, 1, 2, 3, 4, 5, 6, 7, 8, 9, 10, 11, 12, 13, 14] (wr := gX1 o_t a_t) (wn := gX1 o_t a_t ++ (gX4 (a_t 0) a_t_0 cI u5.1 ++ gX4 o_p1 a_p1 cI u5.2)) rfl rfl (by decide) (by decide) rfl (by decide) (fun H locs hP hD hS => ?_)
  have hP : va_P D vwCl (gX1 o_t a_t ++ (gX4 (a_t 0) a_t_0 cI u5.1 ++ gX4 o_p1 a_p1 cI u5.2)) H := hP
  have hD : va_D A (gX1 o_t a_t ++ (gX4 (a_t 0) a_t_0 cI u5.1 ++ gX4 o_p1 a_p1 cI u5.2)) := hD
  refine W.eq (g2 := F0 m 8 ls []) rfl ?_
  refine lv_aload_n hx hb dX1_lastDeaf_8 rfl (lv_at hl 0 rfl) ?_
  refine va_get (D := D) (ci := 1) (v := .ref (a_t 0)) (C := RX1) (T := TX1) (N := 1) hx hb hts hinX1 hown hK hP 0 rfl rfl 0 (by decide) (hts (.fieldLink RX1 12 "OnlyStrangersHear$Mind" "then" "LOnlyStrangersHear$Town;") (by decide +kernel)) (fun _ h9 => h9) rfl dX1_lastDeaf_9 ?_
  obtain ⟨r12, u12, h12, hf⟩ := bd_some hf
  have hPc := hP.sub (ws' := gX4 (a_t 0) a_t_0 cI u5.1) [1, 2, 3, 4, 5, 6, 7] rfl
  have hDc := hD.sub (ws' := gX4 (a_t 0) a_t_0 cI u5.1) [1, 2, 3, 4, 5, 6, 7] (by decide) rfl
  refine calX (runV E0.b E0.n (As := []) (rest := []) ⟨hx, hb, hml, hown, hts⟩ (c_X4_hearersOfSome l D cI (a_t 0) a_t_0 u5.1 _ h12) gX1_lastDeaf_X4_hearersOfSome rfl rfl rfl hdX4_hearersOfSome ⟨by decide, by decide⟩ hK hPc hDc 0 rfl rfl rfl hl.1 rfl (Nat.le_of_ble_eq_true rfl) dX1_lastDeaf_12 ⟨Nat.zero_le _, Nat.zero_le _⟩) hP hD hS hA [1, 2, 3, 4, 5, 6, 7] [0, 8, 9, 10, 11, 12, 13, 14] [0, 8, 9, 10, 11, 12, 13, 14, 1, 2, 3, 4, 5, 6, 7] (wr := gX1 o_t a_t ++ gX4 o_p1 a_p1 cI u5.2) (wn := gX1 o_t a_t ++ (gX4 (a_t 0) a_t_0 cI u12 ++ gX4 o_p1 a_p1 cI u5.2)) rfl rfl (by decide) (by decide) rfl (by decide) (fun H locs hP hD hS => ?_)
  have hP : va_P D vwCl (gX1 o_t a_t ++ (gX4 (a_t 0) a_t_0 cI u12 ++ gX4 o_p1 a_p1 cI u5.2)) H := hP
  have hD : va_D A (gX1 o_t a_t ++ (gX4 (a_t 0) a_t_0 cI u12 ++ gX4 o_p1 a_p1 cI u5.2)) := hD
  refine W.eq (g2 := F0 m 15 ls [.int r12]) rfl ?_
  refine lv_istore_n (lv' := [(2, .int r12), (0, .ref o_t), (1, .ref o_p1)]) hx hb dX1_lastDeaf_15 rfl hl (by decide) rfl (fun ls hl => ?_)
  refine lv_iconst (v := (1 : Int32)) hx hb dX1_lastDeaf_16 (by decide) ?_
  refine lv_istore_n (lv' := [(3, .int (1 : Int32)), (2, .int r12), (0, .ref o_t), (1, .ref o_p1)]) hx hb dX1_lastDeaf_17 rfl hl (by decide) rfl (fun ls hl => ?_)
  exact j18 1000 u12 u5.2 r12 (1 : Int32) H locs ls hf hP hD hS (lv_sub hl [2, 1, 0] rfl)
abbrev rmX1_clearWays : Room := { frames := 3, cells := 0, slots := 0, locals := 68 }
set_option maxHeartbeats 4000000 in
set_option maxRecDepth 100000 in
theorem c_X1_clearWays (l : Launch) (D : va_G) (cI : ClassId) (o_t : Nat) (a_t : Nat → Nat) (a_t_0 : Nat → Nat) (o_p1 : Nat) (a_p1 : Nat → Nat) (S_t_0 : G) (S_p1 : G) (x2 : Int32) (x3 : Int32) (x4 : Int32) (out : Int64 × G × G) (hf : f_X1_clearWays S_t_0 S_p1 x2 x3 x4 = some out) : Cn EX l yX1_clearWays wsX1_clearWays rmX1_clearWays D cI [.ref o_t, .ref o_p1, .int x2, .int x3, .int x4] (gX1 o_t a_t ++ (gX4 (a_t 0) a_t_0 cI S_t_0 ++ gX4 o_p1 a_p1 cI S_p1)) (some (.long out.1)) (gX1 o_t a_t ++ (gX4 (a_t 0) a_t_0 cI out.2.1 ++ gX4 o_p1 a_p1 cI out.2.2)) := by
  refine Cn.mk (cc := cX1_clearWays) (maxL := 10) (ret := (some .long)) (by decide) rfl (Nat.le_of_ble_eq_true rfl) ?_
  intro p e s m below meth c A ls Q hx hb hml hown hts hK hA hP hD hS hl hr hlk hnm hE hQ
  have hown : s.vm.findClass RX1 = some m.cls := hown
  have hinX1 : ∀ w ∈ u_ws RX1 TX1 1, w ∈ wsX1_clearWays := by decide +kernel
  have j17 : ∀ (n17 : Nat) (S_t_0 : G) (S_p1 : G) (l2 : Int32) (l3 : Int32) (l4 : Int32) (l5 : Int64) (l7 : Int64) (l9 : Int32) (H : Heap) (locs : List Loc) (ls : Array Slot), f_X1_clearWays_17 n17 S_t_0 S_p1 l2 l3 l4 l5 l7 l9 = some out → va_P D vwCl (gX1 o_t a_t ++ (gX4 (a_t 0) a_t_0 cI S_t_0 ++ gX4 o_p1 a_p1 cI S_p1)) H → va_D A (gX1 o_t a_t ++ (gX4 (a_t 0) a_t_0 cI S_t_0 ++ gX4 o_p1 a_p1 cI S_p1)) → va_S A s.heap H locs → lv_has ls 10 [(0, .ref o_t), (2, .int l2), (3, .int l3), (4, .int l4), (5, .long l5), (7, .long l7), (9, .int l9)] → W p l e rmX1_clearWays s m ([.ref o_t, .ref o_p1, .int x2, .int x3, .int x4] : List Value).toArray below meth c H locs 0 0 Q (F0 m 17 ls []) := by
    intro n17
    induction n17 with
    | zero =>
      intro S_t_0 S_p1 l2 l3 l4 l5 l7 l9 H locs ls hf
      exact no_some hf
    | succ n17 ih17 =>
      have j51 : ∀ (S_t_0 : G) (S_p1 : G) (l2 : Int32) (l3 : Int32) (l4 : Int32) (l5 : Int64) (l7 : Int64) (l9 : Int32) (H : Heap) (locs : List Loc) (ls : Array Slot), f_X1_clearWays_51 (f_X1_clearWays_17 n17) S_t_0 S_p1 l2 l3 l4 l5 l7 l9 = some out → va_P D vwCl (gX1 o_t a_t ++ (gX4 (a_t 0) a_t_0 cI S_t_0 ++ gX4 o_p1 a_p1 cI S_p1)) H → va_D A (gX1 o_t a_t ++ (gX4 (a_t 0) a_t_0 cI S_t_0 ++ gX4 o_p1 a_p1 cI S_p1)) → va_S A s.heap H locs → lv_has ls 10 [(0, .ref o_t), (2, .int l2), (3, .int l3), (4, .int l4), (5, .long l5), (7, .long l7), (9, .int l9)] → W p l e rmX1_clearWays s m ([.ref o_t, .ref o_p1, .int x2, .int x3, .int x4] : List Value).toArray below meth c H locs 0 0 Q (F0 m 51 ls []) := by
        intro S_t_0 S_p1 l2 l3 l4 l5 l7 l9 H locs ls hf hP hD hS hl
        unfold f_X1_clearWays_51 at hf
        refine lv_lload hx hb dX1_clearWays_51 (lv_at hl 5 rfl) ?_
        refine lv_iload_n hx hb dX1_clearWays_53 rfl (lv_at hl 2 rfl) ?_
        refine lv_iload hx hb dX1_clearWays_54 (lv_at hl 6 rfl) ?_
        refine lv_isub hx hb dX1_clearWays_56 ?_
        refine lv_i2l (v := (l3 - l9).toInt64) hx hb dX1_clearWays_57 rfl ?_
        refine lv_lmul hx hb dX1_clearWays_58 ?_
        refine lv_iload hx hb dX1_clearWays_59 (lv_at hl 6 rfl) ?_
        refine lv_iconst (v := (1 : Int32)) hx hb dX1_clearWays_61 (by decide) ?_
        refine lv_iadd hx hb dX1_clearWays_62 ?_
        refine lv_i2l (v := (l9 + (1 : Int32)).toInt64) hx hb dX1_clearWays_63 rfl ?_
        obtain ⟨z64, hf⟩ := nzl_some hf
        refine lv_ldiv hx hb dX1_clearWays_64 z64 ?_
        refine lv_topl (fun v65 e65 => ?_)
        replace hf := lt_at e65 hf
        refine lv_lstore (lv' := [(7, .long v65), (0, .ref o_t), (2, .int l2), (3, .int l3), (4, .int l4), (5, .long l5), (9, .int l9)]) hx hb dX1_clearWays_65 hl (by decide) rfl (fun ls hl => ?_)
        refine lv_aload_n hx hb dX1_clearWays_67 rfl (lv_at hl 1 rfl) ?_
        refine va_get (D := D) (ci := 1) (v := .ref (a_t 0)) (C := RX1) (T := TX1) (N := 1) hx hb hts hinX1 hown hK hP 0 rfl rfl 0 (by decide) (hts (.fieldLink RX1 12 "OnlyStrangersHear$Mind" "then" "LOnlyStrangersHear$Town;") (by decide +kernel)) (fun _ h9 => h9) rfl dX1_clearWays_68 ?_
        refine lv_iconst (v := (1 : Int32)) hx hb dX1_clearWays_71 (by decide) ?_
        obtain ⟨r72, u72, h72, hf⟩ := bd_some hf
        have hPc := hP.sub (ws' := gX4 (a_t 0) a_t_0 cI S_t_0) [1, 2, 3, 4, 5, 6, 7] rfl
        have hDc := hD.sub (ws' := gX4 (a_t 0) a_t_0 cI S_t_0) [1, 2, 3, 4, 5, 6, 7] (by decide) rfl
        refine calX (runV E0.b E0.n (As := [.int (1 : Int32)]) (rest := []) ⟨hx, hb, hml, hown, hts⟩ (c_X4_pass l D cI (a_t 0) a_t_0 S_t_0 (1 : Int32) _ h72) gX1_clearWays_X4_pass rfl rfl rfl hdX4_pass ⟨by decide, by decide⟩ hK hPc hDc 0 rfl rfl rfl hl.1 rfl (Nat.le_of_ble_eq_true rfl) dX1_clearWays_72 ⟨Nat.zero_le _, Nat.zero_le _⟩) hP hD hS hA [1, 2, 3, 4, 5, 6, 7] [0, 8, 9, 10, 11, 12, 13, 14] [0, 8, 9, 10, 11, 12, 13, 14, 1, 2, 3, 4, 5, 6, 7] (wr := gX1 o_t a_t ++ gX4 o_p1 a_p1 cI S_p1) (wn := gX1 o_t a_t ++ (gX4 (a_t 0) a_t_0 cI u72 ++ gX4 o_p1 a_p1 cI S_p1)) rfl rfl (by decide) (by decide) rfl (by decide) (fun H locs hP hD hS => ?_)
        have hP : va_P D vwCl (gX1 o_t a_t ++ (gX4 (a_t 0) a_t_0 cI u72 ++ gX4 o_p1 a_p1 cI S_p1)) H := hP
        have hD : va_D A (gX1 o_t a_t ++ (gX4 (a_t 0) a_t_0 cI u72 ++ gX4 o_p1 a_p1 cI S_p1)) := hD
        refine W.eq (g2 := F0 m 75 ls []) rfl ?_
        refine lv_iinc (v := l9 + (1 : Int32)) (lv' := [(9, .int (l9 + (1 : Int32))), (7, .long v65), (0, .ref o_t), (2, .int l2), (3, .int l3), (4, .int l4), (5, .long l5)]) hx hb dX1_clearWays_75 hl (k := 6) rfl rfl (by decide) rfl (fun ls hl => ?_)
        refine lv_goto (tgt := 17) hx hb dX1_clearWays_78 (by decide) ?_
        exact ih17 u72 S_p1 l2 l3 l4 l5 v65 (l9 + (1 : Int32)) H locs ls hf hP hD hS (lv_sub hl [2, 3, 4, 5, 6, 1, 0] rfl)
      intro S_t_0 S_p1 l2 l3 l4 l5 l7 l9 H locs ls hf hP hD hS hl
      replace hf : b_X1_clearWays_17 (f_X1_clearWays_17 n17) S_t_0 S_p1 l2 l3 l4 l5 l7 l9 = some out := hf
      unfold b_X1_clearWays_17 at hf
      refine lv_iload hx hb dX1_clearWays_17 (lv_at hl 6 rfl) ?_
      refine lv_iload_n hx hb dX1_clearWays_19 rfl (lv_at hl 2 rfl) ?_
      refine lv_icmp_gt (tgt := 81) hx hb dX1_clearWays_20 (by decide) (fun c20 => ?_) (fun c20 => ?_)
      · replace hf := it_t c20 hf
        refine lv_lload hx hb dX1_clearWays_81 (lv_at hl 4 rfl) ?_
        have e := so_some hf
        subst e
        exact rl hx hb hK hr hlk hQ dX1_clearWays_83 hP hD hS
      · replace hf := it_f c20 hf
        refine lv_aload_n hx hb dX1_clearWays_23 rfl (lv_at hl 0 rfl) ?_
        refine va_get (D := D) (ci := 1) (v := .ref (a_t 0)) (C := RX1) (T := TX1) (N := 1) hx hb hts hinX1 hown hK hP 0 rfl rfl 0 (by decide) (hts (.fieldLink RX1 12 "OnlyStrangersHear$Mind" "then" "LOnlyStrangersHear$Town;") (by decide +kernel)) (fun _ h9 => h9) rfl dX1_clearWays_24 ?_
        refine lv_iload_n hx hb dX1_clearWays_27 rfl (lv_at hl 1 rfl) ?_
        obtain ⟨r28, u28, h28, hf⟩ := bd_some hf
        have hPc := hP.sub (ws' := gX4 (a_t 0) a_t_0 cI S_t_0) [1, 2, 3, 4, 5, 6, 7] rfl
        have hDc := hD.sub (ws' := gX4 (a_t 0) a_t_0 cI S_t_0) [1, 2, 3, 4, 5, 6, 7] (by decide) rfl
        refine calX (runV E0.b E0.n (As := [.int l2]) (rest := []) ⟨hx, hb, hml, hown, hts⟩ (c_X4_hearersOf l D cI (a_t 0) a_t_0 S_t_0 l2 _ h28) gX1_clearWays_X4_hearersOf rfl rfl rfl hdX4_hearersOf ⟨by decide, by decide⟩ hK hPc hDc 0 rfl rfl rfl hl.1 rfl (Nat.le_of_ble_eq_true rfl) dX1_clearWays_28 ⟨Nat.zero_le _, Nat.zero_le _⟩) hP hD hS hA [1, 2, 3, 4, 5, 6, 7] [0, 8, 9, 10, 11, 12, 13, 14] [0, 8, 9, 10, 11, 12, 13, 14, 1, 2, 3, 4, 5, 6, 7] (wr := gX1 o_t a_t ++ gX4 o_p1 a_p1 cI S_p1) (wn := gX1 o_t a_t ++ (gX4 (a_t 0) a_t_0 cI u28 ++ gX4 o_p1 a_p1 cI S_p1)) rfl rfl (by decide) (by decide) rfl (by decide) (fun H locs hP hD hS => ?_)
        have hP : va_P D vwCl (gX1 o_t a_t ++ (gX4 (a_t 0) a_t_0 cI u28 ++ gX4 o_p1 a_p1 cI S_p1)) H := hP
        have hD : va_D A (gX1 o_t a_t ++ (gX4 (a_t 0) a_t_0 cI u28 ++ gX4 o_p1 a_p1 cI S_p1)) := hD
        refine W.eq (g2 := F0 m 31 ls [.int r28]) rfl ?_
        refine lv_if_eq (tgt := 51) hx hb dX1_clearWays_31 (by decide) (fun c31 => ?_) (fun c31 => ?_)
        · replace hf := it_t c31 hf
          exact j51 u28 S_p1 l2 l3 l4 l5 l7 l9 H locs ls hf hP hD hS (lv_sub hl [0, 1, 2, 3, 4, 5, 6] rfl)
        · replace hf := it_f c31 hf
          refine lv_lload hx hb dX1_clearWays_34 (lv_at hl 4 rfl) ?_
          refine lv_lload hx hb dX1_clearWays_36 (lv_at hl 5 rfl) ?_
          refine lv_iload hx hb dX1_clearWays_38 (lv_at hl 3 rfl) ?_
          refine lv_iconst (v := (1 : Int32)) hx hb dX1_clearWays_40 (by decide) ?_
          refine lv_isub hx hb dX1_clearWays_41 ?_
          refine lv_iload hx hb dX1_clearWays_42 (lv_at hl 6 rfl) ?_
          obtain ⟨r44, u44, h44, hf⟩ := bd_some hf
          have hPc : va_P D vwCl [] H := hP.sub (ws' := []) [] rfl
          have hDc : va_D A [] := hD.sub (ws' := []) [] (by decide) rfl
          refine calXe (runSN (host := RX6) E0.b E0.n (As := [.int (l4 - (1 : Int32)), .int l9]) (rest := [.long l7, .long l5]) ⟨hx, hb, hml, hown, hts⟩ (c_X6_power l D cI (l4 - (1 : Int32)) l9 _ h44) gX1_clearWays_X6_power_n62 rfl rfl rfl hE.2.1 (hts (.initialized RX6) (by decide +kernel)) (hts (.static yX6_power) (by decide +kernel)) hdX6_power ⟨by decide, by decide⟩ hK hPc hDc rfl hl.1 rfl (Nat.le_of_ble_eq_true rfl) dX1_clearWays_44 ⟨Nat.zero_le _, Nat.zero_le _⟩) hP hD hS hA (fun H locs hP hD hS => ?_)
          have hP : va_P D vwCl (gX1 o_t a_t ++ (gX4 (a_t 0) a_t_0 cI u28 ++ gX4 o_p1 a_p1 cI S_p1)) H := hP
          have hD : va_D A (gX1 o_t a_t ++ (gX4 (a_t 0) a_t_0 cI u28 ++ gX4 o_p1 a_p1 cI S_p1)) := hD
          refine W.eq (g2 := F0 m 47 ls [.long r44, .long l7, .long l5]) rfl ?_
          refine lv_lmul hx hb dX1_clearWays_47 ?_
          refine lv_ladd hx hb dX1_clearWays_48 ?_
          refine lv_lstore (lv' := [(5, .long (l5 + (l7 * r44))), (0, .ref o_t), (2, .int l2), (3, .int l3), (4, .int l4), (7, .long l7), (9, .int l9)]) hx hb dX1_clearWays_49 hl (by decide) rfl (fun ls hl => ?_)
          exact j51 u28 S_p1 l2 l3 l4 (l5 + (l7 * r44)) l7 l9 H locs ls hf hP hD hS (lv_sub hl [1, 2, 3, 4, 0, 5, 6] rfl)
  unfold f_X1_clearWays at hf
  have hl : lv_has ls 10 [(0, .ref o_t), (1, .ref o_p1), (2, .int x2), (3, .int x3), (4, .int x4)] := hl
  obtain ⟨H, hHe⟩ : ∃ H : Heap, H = s.heap := ⟨_, rfl⟩
  obtain ⟨locs, hle⟩ : ∃ q : List Loc, q = [] := ⟨_, rfl⟩
  have hS : va_S A s.heap H locs := by rw [hHe, hle]; exact hS
  rw [← hHe] at hP
  suffices hgo : W p l e rmX1_clearWays s m ([.ref o_t, .ref o_p1, .int x2, .int x3, .int x4] : List Value).toArray below meth c H locs 0 0 Q (F0 m 0 ls []) by rw [hHe, hle] at hgo; exact hgo
  clear hHe hle
  refine lv_aload_n hx hb dX1_clearWays_0 rfl (lv_at hl 0 rfl) ?_
  refine va_get (D := D) (ci := 1) (v := .ref (a_t 0)) (C := RX1) (T := TX1) (N := 1) hx hb hts hinX1 hown hK hP 0 rfl rfl 0 (by decide) (hts (.fieldLink RX1 12 "OnlyStrangersHear$Mind" "then" "LOnlyStrangersHear$Town;") (by decide +kernel)) (fun _ h9 => h9) rfl dX1_clearWays_1 ?_
  refine lv_aload_n hx hb dX1_clearWays_4 rfl (lv_at hl 1 rfl) ?_
  obtain ⟨r5, u5, h5, hf⟩ := bd_some hf
  have hPc := hP.sub (ws' := gX4 (a_t 0) a_t_0 cI S_t_0 ++ gX4 o_p1 a_p1 cI S_p1) [1, 2, 3, 4, 5, 6, 7, 8, 9, 10, 11, 12, 13, 14] rfl
  have hDc := hD.sub (ws' := gX4 (a_t 0) a_t_0 cI S_t_0 ++ gX4 o_p1 a_p1 cI S_p1) [1, 2, 3, 4, 5, 6, 7, 8, 9, 10, 11, 12, 13, 14] (by decide) rfl
  refine calX (runV E0.b E0.n (As := [.ref o_p1]) (rest := []) ⟨hx, hb, hml, hown, hts⟩ (c_X4_become l D cI (a_t 0) a_t_0 o_p1 a_p1 S_t_0 S_p1 _ h5) gX1_clearWays_X4_become rfl rfl rfl hdX4_become ⟨by decide, by decide⟩ hK hPc hDc 0 rfl rfl rfl hl.1 rfl (Nat.le_of_ble_eq_true rfl) dX1_clearWays_5 ⟨Nat.zero_le _, Nat.zero_le _⟩) hP hD hS hA [1, 2, 3, 4, 5, 6, 7, 8, 9, 10, 11, 12, 13, 14] [0] [0, 1, 2, 3, 4, 5, 6, 7, 8, 9, 10, 11, 12, 13, 14] (wr := gX1 o_t a_t) (wn := gX1 o_t a_t ++ (gX4 (a_t 0) a_t_0 cI u5.1 ++ gX4 o_p1 a_p1 cI u5.2)) rfl rfl (by decide) (by decide) rfl (by decide) (fun H locs hP hD hS => ?_)
  have hP : va_P D vwCl (gX1 o_t a_t ++ (gX4 (a_t 0) a_t_0 cI u5.1 ++ gX4 o_p1 a_p1 cI u5.2)) H := hP
  have hD : va_D A (gX1 o_t a_t ++ (gX4 (a_t 0) a_t_0 cI u5.1 ++ gX4 o_p1 a_p1 cI u5.2)) := hD
  refine W.eq (g2 := F0 m 8 ls []) rfl ?_
  refine lv_lconst (v := (0 : Int64)) hx hb dX1_clearWays_8 (by decide) ?_
  refine lv_lstore (lv' := [(5, .long (0 : Int64)), (0, .ref o_t), (1, .ref o_p1), (2, .int x2), (3, .int x3), (4, .int x4)]) hx hb dX1_clearWays_9 hl (by decide) rfl (fun ls hl => ?_)
  refine lv_lconst (v := (1 : Int64)) hx hb dX1_clearWays_11 (by decide) ?_
  refine lv_lstore (lv' := [(7, .long (1 : Int64)), (5, .long (0 : Int64)), (0, .ref o_t), (1, .ref o_p1), (2, .int x2), (3, .int x3), (4, .int x4)]) hx hb dX1_clearWays_12 hl (by decide) rfl (fun ls hl => ?_)
  refine lv_iconst (v := (0 : Int32)) hx hb dX1_clearWays_14 (by decide) ?_
  refine lv_istore (lv' := [(9, .int (0 : Int32)), (7, .long (1 : Int64)), (5, .long (0 : Int64)), (0, .ref o_t), (1, .ref o_p1), (2, .int x2), (3, .int x3), (4, .int x4)]) hx hb dX1_clearWays_15 hl (by decide) rfl (fun ls hl => ?_)
  exact j17 1000 u5.1 u5.2 x2 x3 x4 (0 : Int64) (1 : Int64) (0 : Int32) H locs ls hf hP hD hS (lv_sub hl [3, 5, 6, 7, 2, 1, 0] rfl)
abbrev rmX1_wordOn : Room := { frames := 2, cells := 0, slots := 0, locals := 43 }
set_option maxHeartbeats 4000000 in
set_option maxRecDepth 100000 in
theorem c_X1_wordOn (l : Launch) (D : va_G) (cI : ClassId) (o_t : Nat) (a_t : Nat → Nat) (a_t_0 : Nat → Nat) (S_t_0 : G) (x1 : Int32) (x2 : Int32) (out : Int32 × G) (hf : f_X1_wordOn S_t_0 x1 x2 = some out) : Cn E0 l yX1_wordOn wsX1_wordOn rmX1_wordOn D cI [.ref o_t, .int x1, .int x2] (gX1 o_t a_t ++ gX4 (a_t 0) a_t_0 cI S_t_0) (some (.int out.1)) (gX1 o_t a_t ++ gX4 (a_t 0) a_t_0 cI out.2) := by
  refine Cn.mk (cc := cX1_wordOn) (maxL := 3) (ret := (some .int)) (by decide) rfl (Nat.le_of_ble_eq_true rfl) ?_
  intro p e s m below meth c A ls Q hx hb hml hown hts hK hA hP hD hS hl hr hlk hnm hE hQ
  have hown : s.vm.findClass RX1 = some m.cls := hown
  have hinX1 : ∀ w ∈ u_ws RX1 TX1 1, w ∈ wsX1_wordOn := by decide +kernel
  unfold f_X1_wordOn at hf
  have hl : lv_has ls 3 [(0, .ref o_t), (1, .int x1), (2, .int x2)] := hl
  obtain ⟨H, hHe⟩ : ∃ H : Heap, H = s.heap := ⟨_, rfl⟩
  obtain ⟨locs, hle⟩ : ∃ q : List Loc, q = [] := ⟨_, rfl⟩
  have hS : va_S A s.heap H locs := by rw [hHe, hle]; exact hS
  rw [← hHe] at hP
  suffices hgo : W p l e rmX1_wordOn s m ([.ref o_t, .int x1, .int x2] : List Value).toArray below meth c H locs 0 0 Q (F0 m 0 ls []) by rw [hHe, hle] at hgo; exact hgo
  clear hHe hle
  refine lv_aload_n hx hb dX1_wordOn_0 rfl (lv_at hl 0 rfl) ?_
  refine va_get (D := D) (ci := 1) (v := .ref (a_t 0)) (C := RX1) (T := TX1) (N := 1) hx hb hts hinX1 hown hK hP 0 rfl rfl 0 (by decide) (hts (.fieldLink RX1 12 "OnlyStrangersHear$Mind" "then" "LOnlyStrangersHear$Town;") (by decide +kernel)) (fun _ h9 => h9) rfl dX1_wordOn_1 ?_
  refine lv_iload_n hx hb dX1_wordOn_4 rfl (lv_at hl 1 rfl) ?_
  refine lv_iload_n hx hb dX1_wordOn_5 rfl (lv_at hl 2 rfl) ?_
  obtain ⟨r6, u6, h6, hf⟩ := bd_some hf
  have hPc := hP.sub (ws' := gX4 (a_t 0) a_t_0 cI S_t_0) [1, 2, 3, 4, 5, 6, 7] rfl
  have hDc := hD.sub (ws' := gX4 (a_t 0) a_t_0 cI S_t_0) [1, 2, 3, 4, 5, 6, 7] (by decide) rfl
  refine calX (runV E0.b E0.n (As := [.int x1, .int x2]) (rest := []) ⟨hx, hb, hml, hown, hts⟩ (c_X4_hearsIt l D cI (a_t 0) a_t_0 S_t_0 x1 x2 _ h6) gX1_wordOn_X4_hearsIt rfl rfl rfl hdX4_hearsIt ⟨by decide, by decide⟩ hK hPc hDc 0 rfl rfl rfl hl.1 rfl (Nat.le_of_ble_eq_true rfl) dX1_wordOn_6 ⟨Nat.zero_le _, Nat.zero_le _⟩) hP hD hS hA [1, 2, 3, 4, 5, 6, 7] [0] [0, 1, 2, 3, 4, 5, 6, 7] (wr := gX1 o_t a_t) (wn := gX1 o_t a_t ++ gX4 (a_t 0) a_t_0 cI u6) rfl rfl (by decide) (by decide) rfl (by decide) (fun H locs hP hD hS => ?_)
  have hP : va_P D vwCl (gX1 o_t a_t ++ gX4 (a_t 0) a_t_0 cI u6) H := hP
  have hD : va_D A (gX1 o_t a_t ++ gX4 (a_t 0) a_t_0 cI u6) := hD
  refine W.eq (g2 := F0 m 9 ls [.int r6]) rfl ?_
  refine lv_if_eq (tgt := 24) hx hb dX1_wordOn_9 (by decide) (fun c9 => ?_) (fun c9 => ?_)
  · replace hf := it_t c9 hf
    refine lv_bipush (v := (99 : Int32)) hx hb dX1_wordOn_24 (by decide) ?_
    have e := so_some hf
    subst e
    exact ri hx hb hK hr hlk hQ dX1_wordOn_26 hP hD hS
  · replace hf := it_f c9 hf
    refine lv_aload_n hx hb dX1_wordOn_12 rfl (lv_at hl 0 rfl) ?_
    refine va_get (D := D) (ci := 1) (v := .ref (a_t 0)) (C := RX1) (T := TX1) (N := 1) hx hb hts hinX1 hown hK hP 0 rfl rfl 0 (by decide) (hts (.fieldLink RX1 12 "OnlyStrangersHear$Mind" "then" "LOnlyStrangersHear$Town;") (by decide +kernel)) (fun _ h9 => h9) rfl dX1_wordOn_13 ?_
    refine lv_iload_n hx hb dX1_wordOn_16 rfl (lv_at hl 1 rfl) ?_
    refine lv_iload_n hx hb dX1_wordOn_17 rfl (lv_at hl 2 rfl) ?_
    obtain ⟨r18, u18, h18, hf⟩ := bd_some hf
    have hPc := hP.sub (ws' := gX4 (a_t 0) a_t_0 cI u6) [1, 2, 3, 4, 5, 6, 7] rfl
    have hDc := hD.sub (ws' := gX4 (a_t 0) a_t_0 cI u6) [1, 2, 3, 4, 5, 6, 7] (by decide) rfl
    refine calX (runV E0.b E0.n (As := [.int x1, .int x2]) (rest := []) ⟨hx, hb, hml, hown, hts⟩ (c_X4_hourBy l D cI (a_t 0) a_t_0 u6 x1 x2 _ h18) gX1_wordOn_X4_hourBy rfl rfl rfl hdX4_hourBy ⟨by decide, by decide⟩ hK hPc hDc 0 rfl rfl rfl hl.1 rfl (Nat.le_of_ble_eq_true rfl) dX1_wordOn_18 ⟨Nat.zero_le _, Nat.zero_le _⟩) hP hD hS hA [1, 2, 3, 4, 5, 6, 7] [0] [0, 1, 2, 3, 4, 5, 6, 7] (wr := gX1 o_t a_t) (wn := gX1 o_t a_t ++ gX4 (a_t 0) a_t_0 cI u18) rfl rfl (by decide) (by decide) rfl (by decide) (fun H locs hP hD hS => ?_)
    have hP : va_P D vwCl (gX1 o_t a_t ++ gX4 (a_t 0) a_t_0 cI u18) H := hP
    have hD : va_D A (gX1 o_t a_t ++ gX4 (a_t 0) a_t_0 cI u18) := hD
    refine W.eq (g2 := F0 m 21 ls [.int r18]) rfl ?_
    refine lv_goto (tgt := 26) hx hb dX1_wordOn_21 (by decide) ?_
    have e := so_some hf
    subst e
    exact ri hx hb hK hr hlk hQ dX1_wordOn_26 hP hD hS
abbrev rmX1_kindsBy : Room := { frames := 3, cells := 0, slots := 0, locals := 68 }
set_option maxHeartbeats 4000000 in
set_option maxRecDepth 100000 in
theorem c_X1_kindsBy (l : Launch) (D : va_G) (cI : ClassId) (o_t : Nat) (a_t : Nat → Nat) (a_t_0 : Nat → Nat) (o_p1 : Nat) (a_p1 : Nat → Nat) (o_p4 : Nat) (a_p4 : Nat → Nat) (S_t_0 : G) (S_p1 : G) (S_p4 : G) (x2 : Int32) (x3 : Int32) (out : Int32 × G × G × G) (hf : f_X1_kindsBy S_t_0 S_p1 S_p4 x2 x3 = some out) : Cn E0 l yX1_kindsBy wsX1_kindsBy rmX1_kindsBy D cI [.ref o_t, .ref o_p1, .int x2, .int x3, .ref o_p4] (gX1 o_t a_t ++ (gX4 (a_t 0) a_t_0 cI S_t_0 ++ (gX4 o_p1 a_p1 cI S_p1 ++ gX2 o_p4 a_p4 cI S_p4))) (some (.int out.1)) (gX1 o_t a_t ++ (gX4 (a_t 0) a_t_0 cI out.2.1 ++ (gX4 o_p1 a_p1 cI out.2.2.1 ++ gX2 o_p4 a_p4 cI out.2.2.2))) := by
  refine Cn.mk (cc := cX1_kindsBy) (maxL := 8) (ret := (some .int)) (by decide) rfl (Nat.le_of_ble_eq_true rfl) ?_
  intro p e s m below meth c A ls Q hx hb hml hown hts hK hA hP hD hS hl hr hlk hnm hE hQ
  have hown : s.vm.findClass RX1 = some m.cls := hown
  have hinX1 : ∀ w ∈ u_ws RX1 TX1 1, w ∈ wsX1_kindsBy := by decide +kernel
  have hinX2 : ∀ w ∈ u_ws RX2 TX2 2, w ∈ wsX1_kindsBy := by decide +kernel
  have hinX4 : ∀ w ∈ u_ws RX4 TX4 10, w ∈ wsX1_kindsBy := by decide +kernel
  have j15 : ∀ (n15 : Nat) (S_t_0 : G) (S_p1 : G) (S_p4 : G) (l2 : Int32) (l3 : Int32) (l5 : Int32) (l6 : Int32) (H : Heap) (locs : List Loc) (ls : Array Slot), f_X1_kindsBy_15 n15 S_t_0 S_p1 S_p4 l2 l3 l5 l6 = some out → va_P D vwCl (gX1 o_t a_t ++ (gX4 (a_t 0) a_t_0 cI S_t_0 ++ (gX4 o_p1 a_p1 cI S_p1 ++ gX2 o_p4 a_p4 cI S_p4))) H → va_D A (gX1 o_t a_t ++ (gX4 (a_t 0) a_t_0 cI S_t_0 ++ (gX4 o_p1 a_p1 cI S_p1 ++ gX2 o_p4 a_p4 cI S_p4))) → va_S A s.heap H locs → lv_has ls 8 [(0, .ref o_t), (1, .ref o_p1), (2, .int l2), (3, .int l3), (4, .ref o_p4), (5, .int l5), (6, .int l6)] → W p l e rmX1_kindsBy s m ([.ref o_t, .ref o_p1, .int x2, .int x3, .ref o_p4] : List Value).toArray below meth c H locs 0 0 Q (F0 m 15 ls []) := by
    intro n15
    induction n15 with
    | zero =>
      intro S_t_0 S_p1 S_p4 l2 l3 l5 l6 H locs ls hf
      exact no_some hf
    | succ n15 ih15 =>
      have j28 : ∀ (n28 : Nat) (S_t_0 : G) (S_p1 : G) (S_p4 : G) (l2 : Int32) (l3 : Int32) (l5 : Int32) (l6 : Int32) (l7 : Int32) (H : Heap) (locs : List Loc) (ls : Array Slot), f_X1_kindsBy_28 (f_X1_kindsBy_15 n15) n28 S_t_0 S_p1 S_p4 l2 l3 l5 l6 l7 = some out → va_P D vwCl (gX1 o_t a_t ++ (gX4 (a_t 0) a_t_0 cI S_t_0 ++ (gX4 o_p1 a_p1 cI S_p1 ++ gX2 o_p4 a_p4 cI S_p4))) H → va_D A (gX1 o_t a_t ++ (gX4 (a_t 0) a_t_0 cI S_t_0 ++ (gX4 o_p1 a_p1 cI S_p1 ++ gX2 o_p4 a_p4 cI S_p4))) → va_S A s.heap H locs → lv_has ls 8 [(0, .ref o_t), (1, .ref o_p1), (2, .int l2), (3, .int l3), (4, .ref o_p4), (5, .int l5), (6, .int l6), (7, .int l7)] → W p l e rmX1_kindsBy s m ([.ref o_t, .ref o_p1, .int x2, .int x3, .ref o_p4] : List Value).toArray below meth c H locs 0 0 Q (F0 m 28 ls []) := by
        intro n28
        induction n28 with
        | zero =>
          intro S_t_0 S_p1 S_p4 l2 l3 l5 l6 l7 H locs ls hf
          exact no_some hf
        | succ n28 ih28 =>
          intro S_t_0 S_p1 S_p4 l2 l3 l5 l6 l7 H locs ls hf hP hD hS hl
          replace hf : b_X1_kindsBy_28 (f_X1_kindsBy_15 n15) (f_X1_kindsBy_28 (f_X1_kindsBy_15 n15) n28) S_t_0 S_p1 S_p4 l2 l3 l5 l6 l7 = some out := hf
          unfold b_X1_kindsBy_28 at hf
          refine lv_iload hx hb dX1_kindsBy_28 (lv_at hl 7 rfl) ?_
          refine lv_bipush (v := (6 : Int32)) hx hb dX1_kindsBy_30 (by decide) ?_
          refine lv_icmp_ge (tgt := 84) hx hb dX1_kindsBy_32 (by decide) (fun c32 => ?_) (fun c32 => ?_)
          · replace hf := it_t c32 hf
            refine lv_aload_n hx hb dX1_kindsBy_84 rfl (lv_at hl 0 rfl) ?_
            refine va_get (D := D) (ci := 1) (v := .ref (a_t 0)) (C := RX1) (T := TX1) (N := 1) hx hb hts hinX1 hown hK hP 0 rfl rfl 0 (by decide) (hts (.fieldLink RX1 12 "OnlyStrangersHear$Mind" "then" "LOnlyStrangersHear$Town;") (by decide +kernel)) (fun _ h9 => h9) rfl dX1_kindsBy_85 ?_
            refine lv_iconst (v := (1 : Int32)) hx hb dX1_kindsBy_88 (by decide) ?_
            obtain ⟨r89, u89, h89, hf⟩ := bd_some hf
            have hPc := hP.sub (ws' := gX4 (a_t 0) a_t_0 cI S_t_0) [1, 2, 3, 4, 5, 6, 7] rfl
            have hDc := hD.sub (ws' := gX4 (a_t 0) a_t_0 cI S_t_0) [1, 2, 3, 4, 5, 6, 7] (by decide) rfl
            refine calX (runV E0.b E0.n (As := [.int (1 : Int32)]) (rest := []) ⟨hx, hb, hml, hown, hts⟩ (c_X4_pass l D cI (a_t 0) a_t_0 S_t_0 (1 : Int32) _ h89) gX1_kindsBy_X4_pass rfl rfl rfl hdX4_pass ⟨by decide, by decide⟩ hK hPc hDc 0 rfl rfl rfl hl.1 rfl (Nat.le_of_ble_eq_true rfl) dX1_kindsBy_89 ⟨Nat.zero_le _, Nat.zero_le _⟩) hP hD hS hA [1, 2, 3, 4, 5, 6, 7] [0, 8, 9, 10, 11, 12, 13, 14, 15, 16] [0, 10, 11, 12, 13, 14, 15, 16, 1, 2, 3, 4, 5, 6, 7, 8, 9] (wr := gX1 o_t a_t ++ (gX4 o_p1 a_p1 cI S_p1 ++ gX2 o_p4 a_p4 cI S_p4)) (wn := gX1 o_t a_t ++ (gX4 (a_t 0) a_t_0 cI u89 ++ (gX4 o_p1 a_p1 cI S_p1 ++ gX2 o_p4 a_p4 cI S_p4))) rfl rfl (by decide) (by decide) rfl (by decide) (fun H locs hP hD hS => ?_)
            have hP : va_P D vwCl (gX1 o_t a_t ++ (gX4 (a_t 0) a_t_0 cI u89 ++ (gX4 o_p1 a_p1 cI S_p1 ++ gX2 o_p4 a_p4 cI S_p4))) H := hP
            have hD : va_D A (gX1 o_t a_t ++ (gX4 (a_t 0) a_t_0 cI u89 ++ (gX4 o_p1 a_p1 cI S_p1 ++ gX2 o_p4 a_p4 cI S_p4))) := hD
            refine W.eq (g2 := F0 m 92 ls []) rfl ?_
            refine lv_iinc (v := l6 + (1 : Int32)) (lv' := [(6, .int (l6 + (1 : Int32))), (0, .ref o_t), (1, .ref o_p1), (2, .int l2), (3, .int l3), (4, .ref o_p4), (5, .int l5), (7, .int l7)]) hx hb dX1_kindsBy_92 hl (k := 6) rfl rfl (by decide) rfl (fun ls hl => ?_)
            refine lv_goto (tgt := 15) hx hb dX1_kindsBy_95 (by decide) ?_
            exact ih15 u89 S_p1 S_p4 l2 l3 l5 (l6 + (1 : Int32)) H locs ls hf hP hD hS (lv_sub hl [1, 2, 3, 4, 5, 6, 0] rfl)
          · replace hf := it_f c32 hf
            refine lv_aload_n hx hb dX1_kindsBy_35 rfl (lv_at hl 0 rfl) ?_
            refine va_get (D := D) (ci := 1) (v := .ref (a_t 0)) (C := RX1) (T := TX1) (N := 1) hx hb hts hinX1 hown hK hP 0 rfl rfl 0 (by decide) (hts (.fieldLink RX1 12 "OnlyStrangersHear$Mind" "then" "LOnlyStrangersHear$Town;") (by decide +kernel)) (fun _ h9 => h9) rfl dX1_kindsBy_36 ?_
            refine lv_iload_n hx hb dX1_kindsBy_39 rfl (lv_at hl 2 rfl) ?_
            refine lv_iload hx hb dX1_kindsBy_40 (lv_at hl 7 rfl) ?_
            refine lv_aload_n hx hb dX1_kindsBy_42 rfl (lv_at hl 1 rfl) ?_
            refine va_get (D := D) (ci := 4) (v := .ref (a_p1 5)) (C := RX4) (T := TX4) (N := 10) hx hb hts hinX4 hown hK hP 8 rfl rfl 5 (by decide) (hts (.fieldLink RX1 71 "OnlyStrangersHear$Town" "figure" "[I") (by decide +kernel)) (fun _ h9 => h9) rfl dX1_kindsBy_43 ?_
            refine lv_iload_n hx hb dX1_kindsBy_46 rfl (lv_at hl 2 rfl) ?_
            obtain ⟨b47, hf⟩ := ck_some hf
            refine va_iald hx hb hK hP 12 0 rfl rfl b47 dX1_kindsBy_47 ?_
            obtain ⟨r48, u48, h48, hf⟩ := bd_some hf
            have hPc := hP.sub (ws' := gX4 (a_t 0) a_t_0 cI S_t_0) [1, 2, 3, 4, 5, 6, 7] rfl
            have hDc := hD.sub (ws' := gX4 (a_t 0) a_t_0 cI S_t_0) [1, 2, 3, 4, 5, 6, 7] (by decide) rfl
            refine calX (runV E0.b E0.n (As := [.int l2, .int l7, .int (S_p1.2 5 l2.toNatClampNeg)]) (rest := []) ⟨hx, hb, hml, hown, hts⟩ (c_X4_makeKind l D cI (a_t 0) a_t_0 S_t_0 l2 l7 (S_p1.2 5 l2.toNatClampNeg) _ h48) gX1_kindsBy_X4_makeKind rfl rfl rfl hdX4_makeKind ⟨by decide, by decide⟩ hK hPc hDc 0 rfl rfl rfl hl.1 rfl (Nat.le_of_ble_eq_true rfl) dX1_kindsBy_48 ⟨Nat.zero_le _, Nat.zero_le _⟩) hP hD hS hA [1, 2, 3, 4, 5, 6, 7] [0, 8, 9, 10, 11, 12, 13, 14, 15, 16] [0, 10, 11, 12, 13, 14, 15, 16, 1, 2, 3, 4, 5, 6, 7, 8, 9] (wr := gX1 o_t a_t ++ (gX4 o_p1 a_p1 cI S_p1 ++ gX2 o_p4 a_p4 cI S_p4)) (wn := gX1 o_t a_t ++ (gX4 (a_t 0) a_t_0 cI u48 ++ (gX4 o_p1 a_p1 cI S_p1 ++ gX2 o_p4 a_p4 cI S_p4))) rfl rfl (by decide) (by decide) rfl (by decide) (fun H locs hP hD hS => ?_)
            have hP : va_P D vwCl (gX1 o_t a_t ++ (gX4 (a_t 0) a_t_0 cI u48 ++ (gX4 o_p1 a_p1 cI S_p1 ++ gX2 o_p4 a_p4 cI S_p4))) H := hP
            have hD : va_D A (gX1 o_t a_t ++ (gX4 (a_t 0) a_t_0 cI u48 ++ (gX4 o_p1 a_p1 cI S_p1 ++ gX2 o_p4 a_p4 cI S_p4))) := hD
            refine W.eq (g2 := F0 m 51 ls []) rfl ?_
            refine lv_aload_n hx hb dX1_kindsBy_51 rfl (lv_at hl 0 rfl) ?_
            refine lv_iload_n hx hb dX1_kindsBy_52 rfl (lv_at hl 2 rfl) ?_
            refine lv_iload_n hx hb dX1_kindsBy_53 rfl (lv_at hl 3 rfl) ?_
            obtain ⟨r54, u54, h54, hf⟩ := bd_some hf
            have hPc := hP.sub (ws' := gX1 o_t a_t ++ gX4 (a_t 0) a_t_0 cI u48) [0, 1, 2, 3, 4, 5, 6, 7] rfl
            have hDc := hD.sub (ws' := gX1 o_t a_t ++ gX4 (a_t 0) a_t_0 cI u48) [0, 1, 2, 3, 4, 5, 6, 7] (by decide) rfl
            refine calX (runV E0.b E0.n (As := [.int l2, .int l3]) (rest := []) ⟨hx, hb, hml, hown, hts⟩ (c_X1_wordOn l D cI o_t a_t a_t_0 u48 l2 l3 _ h54) gX1_kindsBy_X1_wordOn rfl rfl rfl hdX1_wordOn ⟨by decide, by decide⟩ hK hPc hDc 0 rfl rfl rfl hl.1 rfl (Nat.le_of_ble_eq_true rfl) dX1_kindsBy_54 ⟨Nat.zero_le _, Nat.zero_le _⟩) hP hD hS hA [0, 1, 2, 3, 4, 5, 6, 7] [8, 9, 10, 11, 12, 13, 14, 15, 16] [9, 10, 11, 12, 13, 14, 15, 16, 0, 1, 2, 3, 4, 5, 6, 7, 8] (wr := gX4 o_p1 a_p1 cI S_p1 ++ gX2 o_p4 a_p4 cI S_p4) (wn := gX1 o_t a_t ++ (gX4 (a_t 0) a_t_0 cI u54 ++ (gX4 o_p1 a_p1 cI S_p1 ++ gX2 o_p4 a_p4 cI S_p4))) rfl rfl (by decide) (by decide) rfl (by decide) (fun H locs hP hD hS => ?_)
            have hP : va_P D vwCl (gX1 o_t a_t ++ (gX4 (a_t 0) a_t_0 cI u54 ++ (gX4 o_p1 a_p1 cI S_p1 ++ gX2 o_p4 a_p4 cI S_p4))) H := hP
            have hD : va_D A (gX1 o_t a_t ++ (gX4 (a_t 0) a_t_0 cI u54 ++ (gX4 o_p1 a_p1 cI S_p1 ++ gX2 o_p4 a_p4 cI S_p4))) := hD
            refine W.eq (g2 := F0 m 57 ls [.int r54]) rfl ?_
            refine lv_aload hx hb dX1_kindsBy_57 (lv_at hl 4 rfl) ?_
            refine lv_iload hx hb dX1_kindsBy_59 (lv_at hl 6 rfl) ?_
            obtain ⟨r61, u61, h61, hf⟩ := bd_some hf
            have hPc := hP.sub (ws' := gX2 o_p4 a_p4 cI S_p4) [15, 16] rfl
            have hDc := hD.sub (ws' := gX2 o_p4 a_p4 cI S_p4) [15, 16] (by decide) rfl
            refine calX (runV E0.b E0.n (As := [.int l6]) (rest := [.int r54]) ⟨hx, hb, hml, hown, hts⟩ (c_X2_at l D cI o_p4 a_p4 S_p4 l6 _ h61) gX1_kindsBy_X2_at rfl rfl rfl hdX2_at ⟨by decide, by decide⟩ hK hPc hDc 0 rfl rfl rfl hl.1 rfl (Nat.le_of_ble_eq_true rfl) dX1_kindsBy_61 ⟨Nat.zero_le _, Nat.zero_le _⟩) hP hD hS hA [15, 16] [0, 1, 2, 3, 4, 5, 6, 7, 8, 9, 10, 11, 12, 13, 14] [0, 1, 2, 3, 4, 5, 6, 7, 8, 9, 10, 11, 12, 13, 14, 15, 16] (wr := gX1 o_t a_t ++ (gX4 (a_t 0) a_t_0 cI u54 ++ gX4 o_p1 a_p1 cI S_p1)) (wn := gX1 o_t a_t ++ (gX4 (a_t 0) a_t_0 cI u54 ++ (gX4 o_p1 a_p1 cI S_p1 ++ gX2 o_p4 a_p4 cI u61))) rfl rfl (by decide) (by decide) rfl (by decide) (fun H locs hP hD hS => ?_)
            have hP : va_P D vwCl (gX1 o_t a_t ++ (gX4 (a_t 0) a_t_0 cI u54 ++ (gX4 o_p1 a_p1 cI S_p1 ++ gX2 o_p4 a_p4 cI u61))) H := hP
            have hD : va_D A (gX1 o_t a_t ++ (gX4 (a_t 0) a_t_0 cI u54 ++ (gX4 o_p1 a_p1 cI S_p1 ++ gX2 o_p4 a_p4 cI u61))) := hD
            refine W.eq (g2 := F0 m 64 ls [.int r61, .int r54]) rfl ?_
            refine lv_icmp_eq (tgt := 78) hx hb dX1_kindsBy_64 (by decide) (fun c64 => ?_) (fun c64 => ?_)
            · replace hf := it_t c64 hf
              refine lv_iinc (v := l7 + (1 : Int32)) (lv' := [(7, .int (l7 + (1 : Int32))), (0, .ref o_t), (1, .ref o_p1), (2, .int l2), (3, .int l3), (4, .ref o_p4), (5, .int l5), (6, .int l6)]) hx hb dX1_kindsBy_78 hl (k := 7) rfl rfl (by decide) rfl (fun ls hl => ?_)
              refine lv_goto (tgt := 28) hx hb dX1_kindsBy_81 (by decide) ?_
              exact ih28 u54 S_p1 u61 l2 l3 l5 l6 (l7 + (1 : Int32)) H locs ls hf hP hD hS (lv_sub hl [1, 2, 3, 4, 5, 6, 7, 0] rfl)
            · replace hf := it_f c64 hf
              refine lv_iload hx hb dX1_kindsBy_67 (lv_at hl 5 rfl) ?_
              refine lv_iconst (v := (1 : Int32)) hx hb dX1_kindsBy_69 (by decide) ?_
              refine lv_iload hx hb dX1_kindsBy_70 (lv_at hl 7 rfl) ?_
              refine lv_ishl hx hb dX1_kindsBy_72 ?_
              refine lv_iconst (v := (-1 : Int32)) hx hb dX1_kindsBy_73 (by decide) ?_
              refine lv_ixor hx hb dX1_kindsBy_74 ?_
              refine lv_iand hx hb dX1_kindsBy_75 ?_
              refine lv_topi (fun v76 e76 => ?_)
              replace hf := lt_at e76 hf
              refine lv_istore (lv' := [(5, .int v76), (0, .ref o_t), (1, .ref o_p1), (2, .int l2), (3, .int l3), (4, .ref o_p4), (6, .int l6), (7, .int l7)]) hx hb dX1_kindsBy_76 hl (by decide) rfl (fun ls hl => ?_)
              refine lv_iinc (v := l7 + (1 : Int32)) (lv' := [(7, .int (l7 + (1 : Int32))), (5, .int v76), (0, .ref o_t), (1, .ref o_p1), (2, .int l2), (3, .int l3), (4, .ref o_p4), (6, .int l6)]) hx hb dX1_kindsBy_78 hl (k := 7) rfl rfl (by decide) rfl (fun ls hl => ?_)
              refine lv_goto (tgt := 28) hx hb dX1_kindsBy_81 (by decide) ?_
              exact ih28 u54 S_p1 u61 l2 l3 v76 l6 (l7 + (1 : Int32)) H locs ls hf hP hD hS (lv_sub hl [2, 3, 4, 5, 6, 1, 7, 0] rfl)
      intro S_t_0 S_p1 S_p4 l2 l3 l5 l6 H locs ls hf hP hD hS hl
      replace hf : b_X1_kindsBy_15 (f_X1_kindsBy_15 n15) S_t_0 S_p1 S_p4 l2 l3 l5 l6 = some out := hf
      unfold b_X1_kindsBy_15 at hf
      refine lv_iload hx hb dX1_kindsBy_15 (lv_at hl 6 rfl) ?_
      refine lv_aload hx hb dX1_kindsBy_17 (lv_at hl 4 rfl) ?_
      refine va_get (D := D) (ci := 2) (v := .int (S_p4.1 1)) (C := RX2) (T := TX2) (N := 2) hx hb hts hinX2 hown hK hP 15 rfl rfl 1 (by decide) (hts (.fieldLink RX1 66 "OnlyStrangersHear$Numbers" "size" "I") (by decide +kernel)) (fun _ h9 => h9) rfl dX1_kindsBy_19 ?_
      refine lv_icmp_ge (tgt := 98) hx hb dX1_kindsBy_22 (by decide) (fun c22 => ?_) (fun c22 => ?_)
      · replace hf := it_t c22 hf
        refine lv_iload hx hb dX1_kindsBy_98 (lv_at hl 5 rfl) ?_
        have e := so_some hf
        subst e
        exact ri hx hb hK hr hlk hQ dX1_kindsBy_100 hP hD hS
      · replace hf := it_f c22 hf
        refine lv_iconst (v := (0 : Int32)) hx hb dX1_kindsBy_25 (by decide) ?_
        refine lv_istore (lv' := [(7, .int (0 : Int32)), (0, .ref o_t), (1, .ref o_p1), (2, .int l2), (3, .int l3), (4, .ref o_p4), (5, .int l5), (6, .int l6)]) hx hb dX1_kindsBy_26 hl (by decide) rfl (fun ls hl => ?_)
        exact j28 1000 S_t_0 S_p1 S_p4 l2 l3 l5 l6 (0 : Int32) H locs ls hf hP hD hS (lv_sub hl [1, 2, 3, 4, 5, 6, 7, 0] rfl)
  unfold f_X1_kindsBy at hf
  have hl : lv_has ls 8 [(0, .ref o_t), (1, .ref o_p1), (2, .int x2), (3, .int x3), (4, .ref o_p4)] := hl
  obtain ⟨H, hHe⟩ : ∃ H : Heap, H = s.heap := ⟨_, rfl⟩
  obtain ⟨locs, hle⟩ : ∃ q : List Loc, q = [] := ⟨_, rfl⟩
  have hS : va_S A s.heap H locs := by rw [hHe, hle]; exact hS
  rw [← hHe] at hP
  suffices hgo : W p l e rmX1_kindsBy s m ([.ref o_t, .ref o_p1, .int x2, .int x3, .ref o_p4] : List Value).toArray below meth c H locs 0 0 Q (F0 m 0 ls []) by rw [hHe, hle] at hgo; exact hgo
  clear hHe hle
  refine lv_aload_n hx hb dX1_kindsBy_0 rfl (lv_at hl 0 rfl) ?_
  refine va_get (D := D) (ci := 1) (v := .ref (a_t 0)) (C := RX1) (T := TX1) (N := 1) hx hb hts hinX1 hown hK hP 0 rfl rfl 0 (by decide) (hts (.fieldLink RX1 12 "OnlyStrangersHear$Mind" "then" "LOnlyStrangersHear$Town;") (by decide +kernel)) (fun _ h9 => h9) rfl dX1_kindsBy_1 ?_
  refine lv_aload_n hx hb dX1_kindsBy_4 rfl (lv_at hl 1 rfl) ?_
  obtain ⟨r5, u5, h5, hf⟩ := bd_some hf
  have hPc := hP.sub (ws' := gX4 (a_t 0) a_t_0 cI S_t_0 ++ gX4 o_p1 a_p1 cI S_p1) [1, 2, 3, 4, 5, 6, 7, 8, 9, 10, 11, 12, 13, 14] rfl
  have hDc := hD.sub (ws' := gX4 (a_t 0) a_t_0 cI S_t_0 ++ gX4 o_p1 a_p1 cI S_p1) [1, 2, 3, 4, 5, 6, 7, 8, 9, 10, 11, 12, 13, 14] (by decide) rfl
  refine calX (runV E0.b E0.n (As := [.ref o_p1]) (rest := []) ⟨hx, hb, hml, hown, hts⟩ (c_X4_become l D cI (a_t 0) a_t_0 o_p1 a_p1 S_t_0 S_p1 _ h5) gX1_kindsBy_X4_become rfl rfl rfl hdX4_become ⟨by decide, by decide⟩ hK hPc hDc 0 rfl rfl rfl hl.1 rfl (Nat.le_of_ble_eq_true rfl) dX1_kindsBy_5 ⟨Nat.zero_le _, Nat.zero_le _⟩) hP hD hS hA [1, 2, 3, 4, 5, 6, 7, 8, 9, 10, 11, 12, 13, 14] [0, 15, 16] [0, 3, 4, 5, 6, 7, 8, 9, 10, 11, 12, 13, 14, 15, 16, 1, 2] (wr := gX1 o_t a_t ++ gX2 o_p4 a_p4 cI S_p4) (wn := gX1 o_t a_t ++ (gX4 (a_t 0) a_t_0 cI u5.1 ++ (gX4 o_p1 a_p1 cI u5.2 ++ gX2 o_p4 a_p4 cI S_p4))) rfl rfl (by decide) (by decide) rfl (by decide) (fun H locs hP hD hS => ?_)
  have hP : va_P D vwCl (gX1 o_t a_t ++ (gX4 (a_t 0) a_t_0 cI u5.1 ++ (gX4 o_p1 a_p1 cI u5.2 ++ gX2 o_p4 a_p4 cI S_p4))) H := hP
  have hD : va_D A (gX1 o_t a_t ++ (gX4 (a_t 0) a_t_0 cI u5.1 ++ (gX4 o_p1 a_p1 cI u5.2 ++ gX2 o_p4 a_p4 cI S_p4))) := hD
  refine W.eq (g2 := F0 m 8 ls []) rfl ?_
  refine lv_bipush (v := (63 : Int32)) hx hb dX1_kindsBy_8 (by decide) ?_
  refine lv_istore (lv' := [(5, .int (63 : Int32)), (0, .ref o_t), (1, .ref o_p1), (2, .int x2), (3, .int x3), (4, .ref o_p4)]) hx hb dX1_kindsBy_10 hl (by decide) rfl (fun ls hl => ?_)
  refine lv_iconst (v := (0 : Int32)) hx hb dX1_kindsBy_12 (by decide) ?_
  refine lv_istore (lv' := [(6, .int (0 : Int32)), (5, .int (63 : Int32)), (0, .ref o_t), (1, .ref o_p1), (2, .int x2), (3, .int x3), (4, .ref o_p4)]) hx hb dX1_kindsBy_13 hl (by decide) rfl (fun ls hl => ?_)
  exact j15 1000 u5.1 u5.2 S_p4 x2 x3 (63 : Int32) (0 : Int32) H locs ls hf hP hD hS (lv_sub hl [2, 3, 4, 5, 6, 1, 0] rfl)
abbrev rmX1_figuresBy : Room := { frames := 3, cells := 0, slots := 0, locals := 68 }
set_option maxHeartbeats 4000000 in
set_option maxRecDepth 100000 in
theorem c_X1_figuresBy (l : Launch) (D : va_G) (cI : ClassId) (o_t : Nat) (a_t : Nat → Nat) (a_t_0 : Nat → Nat) (o_p1 : Nat) (a_p1 : Nat → Nat) (o_p4 : Nat) (a_p4 : Nat → Nat) (S_t_0 : G) (S_p1 : G) (S_p4 : G) (x2 : Int32) (x3 : Int32) (out : Int32 × G × G × G) (hf : f_X1_figuresBy S_t_0 S_p1 S_p4 x2 x3 = some out) : Cn E0 l yX1_figuresBy wsX1_figuresBy rmX1_figuresBy D cI [.ref o_t, .ref o_p1, .int x2, .int x3, .ref o_p4] (gX1 o_t a_t ++ (gX4 (a_t 0) a_t_0 cI S_t_0 ++ (gX4 o_p1 a_p1 cI S_p1 ++ gX2 o_p4 a_p4 cI S_p4))) (some (.int out.1)) (gX1 o_t a_t ++ (gX4 (a_t 0) a_t_0 cI out.2.1 ++ (gX4 o_p1 a_p1 cI out.2.2.1 ++ gX2 o_p4 a_p4 cI out.2.2.2))) := by
  refine Cn.mk (cc := cX1_figuresBy) (maxL := 8) (ret := (some .int)) (by decide) rfl (Nat.le_of_ble_eq_true rfl) ?_
  intro p e s m below meth c A ls Q hx hb hml hown hts hK hA hP hD hS hl hr hlk hnm hE hQ
  have hown : s.vm.findClass RX1 = some m.cls := hown
  have hinX1 : ∀ w ∈ u_ws RX1 TX1 1, w ∈ wsX1_figuresBy := by decide +kernel
  have hinX2 : ∀ w ∈ u_ws RX2 TX2 2, w ∈ wsX1_figuresBy := by decide +kernel
  have hinX4 : ∀ w ∈ u_ws RX4 TX4 10, w ∈ wsX1_figuresBy := by decide +kernel
  have j16 : ∀ (n16 : Nat) (S_t_0 : G) (S_p1 : G) (S_p4 : G) (l2 : Int32) (l3 : Int32) (l5 : Int32) (l6 : Int32) (H : Heap) (locs : List Loc) (ls : Array Slot), f_X1_figuresBy_16 n16 S_t_0 S_p1 S_p4 l2 l3 l5 l6 = some out → va_P D vwCl (gX1 o_t a_t ++ (gX4 (a_t 0) a_t_0 cI S_t_0 ++ (gX4 o_p1 a_p1 cI S_p1 ++ gX2 o_p4 a_p4 cI S_p4))) H → va_D A (gX1 o_t a_t ++ (gX4 (a_t 0) a_t_0 cI S_t_0 ++ (gX4 o_p1 a_p1 cI S_p1 ++ gX2 o_p4 a_p4 cI S_p4))) → va_S A s.heap H locs → lv_has ls 8 [(0, .ref o_t), (1, .ref o_p1), (2, .int l2), (3, .int l3), (4, .ref o_p4), (5, .int l5), (6, .int l6)] → W p l e rmX1_figuresBy s m ([.ref o_t, .ref o_p1, .int x2, .int x3, .ref o_p4] : List Value).toArray below meth c H locs 0 0 Q (F0 m 16 ls []) := by
    intro n16
    induction n16 with
    | zero =>
      intro S_t_0 S_p1 S_p4 l2 l3 l5 l6 H locs ls hf
      exact no_some hf
    | succ n16 ih16 =>
      have j29 : ∀ (n29 : Nat) (S_t_0 : G) (S_p1 : G) (S_p4 : G) (l2 : Int32) (l3 : Int32) (l5 : Int32) (l6 : Int32) (l7 : Int32) (H : Heap) (locs : List Loc) (ls : Array Slot), f_X1_figuresBy_29 (f_X1_figuresBy_16 n16) n29 S_t_0 S_p1 S_p4 l2 l3 l5 l6 l7 = some out → va_P D vwCl (gX1 o_t a_t ++ (gX4 (a_t 0) a_t_0 cI S_t_0 ++ (gX4 o_p1 a_p1 cI S_p1 ++ gX2 o_p4 a_p4 cI S_p4))) H → va_D A (gX1 o_t a_t ++ (gX4 (a_t 0) a_t_0 cI S_t_0 ++ (gX4 o_p1 a_p1 cI S_p1 ++ gX2 o_p4 a_p4 cI S_p4))) → va_S A s.heap H locs → lv_has ls 8 [(0, .ref o_t), (1, .ref o_p1), (2, .int l2), (3, .int l3), (4, .ref o_p4), (5, .int l5), (6, .int l6), (7, .int l7)] → W p l e rmX1_figuresBy s m ([.ref o_t, .ref o_p1, .int x2, .int x3, .ref o_p4] : List Value).toArray below meth c H locs 0 0 Q (F0 m 29 ls []) := by
        intro n29
        induction n29 with
        | zero =>
          intro S_t_0 S_p1 S_p4 l2 l3 l5 l6 l7 H locs ls hf
          exact no_some hf
        | succ n29 ih29 =>
          intro S_t_0 S_p1 S_p4 l2 l3 l5 l6 l7 H locs ls hf hP hD hS hl
          replace hf : b_X1_figuresBy_29 (f_X1_figuresBy_16 n16) (f_X1_figuresBy_29 (f_X1_figuresBy_16 n16) n29) S_t_0 S_p1 S_p4 l2 l3 l5 l6 l7 = some out := hf
          unfold b_X1_figuresBy_29 at hf
          refine lv_iload hx hb dX1_figuresBy_29 (lv_at hl 7 rfl) ?_
          refine lv_bipush (v := (9 : Int32)) hx hb dX1_figuresBy_31 (by decide) ?_
          refine lv_icmp_gt (tgt := 85) hx hb dX1_figuresBy_33 (by decide) (fun c33 => ?_) (fun c33 => ?_)
          · replace hf := it_t c33 hf
            refine lv_aload_n hx hb dX1_figuresBy_85 rfl (lv_at hl 0 rfl) ?_
            refine va_get (D := D) (ci := 1) (v := .ref (a_t 0)) (C := RX1) (T := TX1) (N := 1) hx hb hts hinX1 hown hK hP 0 rfl rfl 0 (by decide) (hts (.fieldLink RX1 12 "OnlyStrangersHear$Mind" "then" "LOnlyStrangersHear$Town;") (by decide +kernel)) (fun _ h9 => h9) rfl dX1_figuresBy_86 ?_
            refine lv_iconst (v := (1 : Int32)) hx hb dX1_figuresBy_89 (by decide) ?_
            obtain ⟨r90, u90, h90, hf⟩ := bd_some hf
            have hPc := hP.sub (ws' := gX4 (a_t 0) a_t_0 cI S_t_0) [1, 2, 3, 4, 5, 6, 7] rfl
            have hDc := hD.sub (ws' := gX4 (a_t 0) a_t_0 cI S_t_0) [1, 2, 3, 4, 5, 6, 7] (by decide) rfl
            refine calX (runV E0.b E0.n (As := [.int (1 : Int32)]) (rest := []) ⟨hx, hb, hml, hown, hts⟩ (c_X4_pass l D cI (a_t 0) a_t_0 S_t_0 (1 : Int32) _ h90) gX1_figuresBy_X4_pass rfl rfl rfl hdX4_pass ⟨by decide, by decide⟩ hK hPc hDc 0 rfl rfl rfl hl.1 rfl (Nat.le_of_ble_eq_true rfl) dX1_figuresBy_90 ⟨Nat.zero_le _, Nat.zero_le _⟩) hP hD hS hA [1, 2, 3, 4, 5, 6, 7] [0, 8, 9, 10, 11, 12, 13, 14, 15, 16] [0, 10, 11, 12, 13, 14, 15, 16, 1, 2, 3, 4, 5, 6, 7, 8, 9] (wr := gX1 o_t a_t ++ (gX4 o_p1 a_p1 cI S_p1 ++ gX2 o_p4 a_p4 cI S_p4)) (wn := gX1 o_t a_t ++ (gX4 (a_t 0) a_t_0 cI u90 ++ (gX4 o_p1 a_p1 cI S_p1 ++ gX2 o_p4 a_p4 cI S_p4))) rfl rfl (by decide) (by decide) rfl (by decide) (fun H locs hP hD hS => ?_)
            have hP : va_P D vwCl (gX1 o_t a_t ++ (gX4 (a_t 0) a_t_0 cI u90 ++ (gX4 o_p1 a_p1 cI S_p1 ++ gX2 o_p4 a_p4 cI S_p4))) H := hP
            have hD : va_D A (gX1 o_t a_t ++ (gX4 (a_t 0) a_t_0 cI u90 ++ (gX4 o_p1 a_p1 cI S_p1 ++ gX2 o_p4 a_p4 cI S_p4))) := hD
            refine W.eq (g2 := F0 m 93 ls []) rfl ?_
            refine lv_iinc (v := l6 + (1 : Int32)) (lv' := [(6, .int (l6 + (1 : Int32))), (0, .ref o_t), (1, .ref o_p1), (2, .int l2), (3, .int l3), (4, .ref o_p4), (5, .int l5), (7, .int l7)]) hx hb dX1_figuresBy_93 hl (k := 6) rfl rfl (by decide) rfl (fun ls hl => ?_)
            refine lv_goto (tgt := 16) hx hb dX1_figuresBy_96 (by decide) ?_
            exact ih16 u90 S_p1 S_p4 l2 l3 l5 (l6 + (1 : Int32)) H locs ls hf hP hD hS (lv_sub hl [1, 2, 3, 4, 5, 6, 0] rfl)
          · replace hf := it_f c33 hf
            refine lv_aload_n hx hb dX1_figuresBy_36 rfl (lv_at hl 0 rfl) ?_
            refine va_get (D := D) (ci := 1) (v := .ref (a_t 0)) (C := RX1) (T := TX1) (N := 1) hx hb hts hinX1 hown hK hP 0 rfl rfl 0 (by decide) (hts (.fieldLink RX1 12 "OnlyStrangersHear$Mind" "then" "LOnlyStrangersHear$Town;") (by decide +kernel)) (fun _ h9 => h9) rfl dX1_figuresBy_37 ?_
            refine lv_iload_n hx hb dX1_figuresBy_40 rfl (lv_at hl 2 rfl) ?_
            refine lv_aload_n hx hb dX1_figuresBy_41 rfl (lv_at hl 1 rfl) ?_
            refine va_get (D := D) (ci := 4) (v := .ref (a_p1 4)) (C := RX4) (T := TX4) (N := 10) hx hb hts hinX4 hown hK hP 8 rfl rfl 4 (by decide) (hts (.fieldLink RX1 86 "OnlyStrangersHear$Town" "kind" "[I") (by decide +kernel)) (fun _ h9 => h9) rfl dX1_figuresBy_42 ?_
            refine lv_iload_n hx hb dX1_figuresBy_45 rfl (lv_at hl 2 rfl) ?_
            obtain ⟨b46, hf⟩ := ck_some hf
            refine va_iald hx hb hK hP 11 0 rfl rfl b46 dX1_figuresBy_46 ?_
            refine lv_iload hx hb dX1_figuresBy_47 (lv_at hl 7 rfl) ?_
            obtain ⟨r49, u49, h49, hf⟩ := bd_some hf
            have hPc := hP.sub (ws' := gX4 (a_t 0) a_t_0 cI S_t_0) [1, 2, 3, 4, 5, 6, 7] rfl
            have hDc := hD.sub (ws' := gX4 (a_t 0) a_t_0 cI S_t_0) [1, 2, 3, 4, 5, 6, 7] (by decide) rfl
            refine calX (runV E0.b E0.n (As := [.int l2, .int (S_p1.2 4 l2.toNatClampNeg), .int l7]) (rest := []) ⟨hx, hb, hml, hown, hts⟩ (c_X4_makeKind l D cI (a_t 0) a_t_0 S_t_0 l2 (S_p1.2 4 l2.toNatClampNeg) l7 _ h49) gX1_figuresBy_X4_makeKind rfl rfl rfl hdX4_makeKind ⟨by decide, by decide⟩ hK hPc hDc 0 rfl rfl rfl hl.1 rfl (Nat.le_of_ble_eq_true rfl) dX1_figuresBy_49 ⟨Nat.zero_le _, Nat.zero_le _⟩) hP hD hS hA [1, 2, 3, 4, 5, 6, 7] [0, 8, 9, 10, 11, 12, 13, 14, 15, 16] [0, 10, 11, 12, 13, 14, 15, 16, 1, 2, 3, 4, 5, 6, 7, 8, 9] (wr := gX1 o_t a_t ++ (gX4 o_p1 a_p1 cI S_p1 ++ gX2 o_p4 a_p4 cI S_p4)) (wn := gX1 o_t a_t ++ (gX4 (a_t 0) a_t_0 cI u49 ++ (gX4 o_p1 a_p1 cI S_p1 ++ gX2 o_p4 a_p4 cI S_p4))) rfl rfl (by decide) (by decide) rfl (by decide) (fun H locs hP hD hS => ?_)
            have hP : va_P D vwCl (gX1 o_t a_t ++ (gX4 (a_t 0) a_t_0 cI u49 ++ (gX4 o_p1 a_p1 cI S_p1 ++ gX2 o_p4 a_p4 cI S_p4))) H := hP
            have hD : va_D A (gX1 o_t a_t ++ (gX4 (a_t 0) a_t_0 cI u49 ++ (gX4 o_p1 a_p1 cI S_p1 ++ gX2 o_p4 a_p4 cI S_p4))) := hD
            refine W.eq (g2 := F0 m 52 ls []) rfl ?_
            refine lv_aload_n hx hb dX1_figuresBy_52 rfl (lv_at hl 0 rfl) ?_
            refine lv_iload_n hx hb dX1_figuresBy_53 rfl (lv_at hl 2 rfl) ?_
            refine lv_iload_n hx hb dX1_figuresBy_54 rfl (lv_at hl 3 rfl) ?_
            obtain ⟨r55, u55, h55, hf⟩ := bd_some hf
            have hPc := hP.sub (ws' := gX1 o_t a_t ++ gX4 (a_t 0) a_t_0 cI u49) [0, 1, 2, 3, 4, 5, 6, 7] rfl
            have hDc := hD.sub (ws' := gX1 o_t a_t ++ gX4 (a_t 0) a_t_0 cI u49) [0, 1, 2, 3, 4, 5, 6, 7] (by decide) rfl
            refine calX (runV E0.b E0.n (As := [.int l2, .int l3]) (rest := []) ⟨hx, hb, hml, hown, hts⟩ (c_X1_wordOn l D cI o_t a_t a_t_0 u49 l2 l3 _ h55) gX1_figuresBy_X1_wordOn rfl rfl rfl hdX1_wordOn ⟨by decide, by decide⟩ hK hPc hDc 0 rfl rfl rfl hl.1 rfl (Nat.le_of_ble_eq_true rfl) dX1_figuresBy_55 ⟨Nat.zero_le _, Nat.zero_le _⟩) hP hD hS hA [0, 1, 2, 3, 4, 5, 6, 7] [8, 9, 10, 11, 12, 13, 14, 15, 16] [9, 10, 11, 12, 13, 14, 15, 16, 0, 1, 2, 3, 4, 5, 6, 7, 8] (wr := gX4 o_p1 a_p1 cI S_p1 ++ gX2 o_p4 a_p4 cI S_p4) (wn := gX1 o_t a_t ++ (gX4 (a_t 0) a_t_0 cI u55 ++ (gX4 o_p1 a_p1 cI S_p1 ++ gX2 o_p4 a_p4 cI S_p4))) rfl rfl (by decide) (by decide) rfl (by decide) (fun H locs hP hD hS => ?_)
            have hP : va_P D vwCl (gX1 o_t a_t ++ (gX4 (a_t 0) a_t_0 cI u55 ++ (gX4 o_p1 a_p1 cI S_p1 ++ gX2 o_p4 a_p4 cI S_p4))) H := hP
            have hD : va_D A (gX1 o_t a_t ++ (gX4 (a_t 0) a_t_0 cI u55 ++ (gX4 o_p1 a_p1 cI S_p1 ++ gX2 o_p4 a_p4 cI S_p4))) := hD
            refine W.eq (g2 := F0 m 58 ls [.int r55]) rfl ?_
            refine lv_aload hx hb dX1_figuresBy_58 (lv_at hl 4 rfl) ?_
            refine lv_iload hx hb dX1_figuresBy_60 (lv_at hl 6 rfl) ?_
            obtain ⟨r62, u62, h62, hf⟩ := bd_some hf
            have hPc := hP.sub (ws' := gX2 o_p4 a_p4 cI S_p4) [15, 16] rfl
            have hDc := hD.sub (ws' := gX2 o_p4 a_p4 cI S_p4) [15, 16] (by decide) rfl
            refine calX (runV E0.b E0.n (As := [.int l6]) (rest := [.int r55]) ⟨hx, hb, hml, hown, hts⟩ (c_X2_at l D cI o_p4 a_p4 S_p4 l6 _ h62) gX1_figuresBy_X2_at rfl rfl rfl hdX2_at ⟨by decide, by decide⟩ hK hPc hDc 0 rfl rfl rfl hl.1 rfl (Nat.le_of_ble_eq_true rfl) dX1_figuresBy_62 ⟨Nat.zero_le _, Nat.zero_le _⟩) hP hD hS hA [15, 16] [0, 1, 2, 3, 4, 5, 6, 7, 8, 9, 10, 11, 12, 13, 14] [0, 1, 2, 3, 4, 5, 6, 7, 8, 9, 10, 11, 12, 13, 14, 15, 16] (wr := gX1 o_t a_t ++ (gX4 (a_t 0) a_t_0 cI u55 ++ gX4 o_p1 a_p1 cI S_p1)) (wn := gX1 o_t a_t ++ (gX4 (a_t 0) a_t_0 cI u55 ++ (gX4 o_p1 a_p1 cI S_p1 ++ gX2 o_p4 a_p4 cI u62))) rfl rfl (by decide) (by decide) rfl (by decide) (fun H locs hP hD hS => ?_)
            have hP : va_P D vwCl (gX1 o_t a_t ++ (gX4 (a_t 0) a_t_0 cI u55 ++ (gX4 o_p1 a_p1 cI S_p1 ++ gX2 o_p4 a_p4 cI u62))) H := hP
            have hD : va_D A (gX1 o_t a_t ++ (gX4 (a_t 0) a_t_0 cI u55 ++ (gX4 o_p1 a_p1 cI S_p1 ++ gX2 o_p4 a_p4 cI u62))) := hD
            refine W.eq (g2 := F0 m 65 ls [.int r62, .int r55]) rfl ?_
            refine lv_icmp_eq (tgt := 79) hx hb dX1_figuresBy_65 (by decide) (fun c65 => ?_) (fun c65 => ?_)
            · replace hf := it_t c65 hf
              refine lv_iinc (v := l7 + (1 : Int32)) (lv' := [(7, .int (l7 + (1 : Int32))), (0, .ref o_t), (1, .ref o_p1), (2, .int l2), (3, .int l3), (4, .ref o_p4), (5, .int l5), (6, .int l6)]) hx hb dX1_figuresBy_79 hl (k := 7) rfl rfl (by decide) rfl (fun ls hl => ?_)
              refine lv_goto (tgt := 29) hx hb dX1_figuresBy_82 (by decide) ?_
              exact ih29 u55 S_p1 u62 l2 l3 l5 l6 (l7 + (1 : Int32)) H locs ls hf hP hD hS (lv_sub hl [1, 2, 3, 4, 5, 6, 7, 0] rfl)
            · replace hf := it_f c65 hf
              refine lv_iload hx hb dX1_figuresBy_68 (lv_at hl 5 rfl) ?_
              refine lv_iconst (v := (1 : Int32)) hx hb dX1_figuresBy_70 (by decide) ?_
              refine lv_iload hx hb dX1_figuresBy_71 (lv_at hl 7 rfl) ?_
              refine lv_ishl hx hb dX1_figuresBy_73 ?_
              refine lv_iconst (v := (-1 : Int32)) hx hb dX1_figuresBy_74 (by decide) ?_
              refine lv_ixor hx hb dX1_figuresBy_75 ?_
              refine lv_iand hx hb dX1_figuresBy_76 ?_
              refine lv_topi (fun v77 e77 => ?_)
              replace hf := lt_at e77 hf
              refine lv_istore (lv' := [(5, .int v77), (0, .ref o_t), (1, .ref o_p1), (2, .int l2), (3, .int l3), (4, .ref o_p4), (6, .int l6), (7, .int l7)]) hx hb dX1_figuresBy_77 hl (by decide) rfl (fun ls hl => ?_)
              refine lv_iinc (v := l7 + (1 : Int32)) (lv' := [(7, .int (l7 + (1 : Int32))), (5, .int v77), (0, .ref o_t), (1, .ref o_p1), (2, .int l2), (3, .int l3), (4, .ref o_p4), (6, .int l6)]) hx hb dX1_figuresBy_79 hl (k := 7) rfl rfl (by decide) rfl (fun ls hl => ?_)
              refine lv_goto (tgt := 29) hx hb dX1_figuresBy_82 (by decide) ?_
              exact ih29 u55 S_p1 u62 l2 l3 v77 l6 (l7 + (1 : Int32)) H locs ls hf hP hD hS (lv_sub hl [2, 3, 4, 5, 6, 1, 7, 0] rfl)
      intro S_t_0 S_p1 S_p4 l2 l3 l5 l6 H locs ls hf hP hD hS hl
      replace hf : b_X1_figuresBy_16 (f_X1_figuresBy_16 n16) S_t_0 S_p1 S_p4 l2 l3 l5 l6 = some out := hf
      unfold b_X1_figuresBy_16 at hf
      refine lv_iload hx hb dX1_figuresBy_16 (lv_at hl 6 rfl) ?_
      refine lv_aload hx hb dX1_figuresBy_18 (lv_at hl 4 rfl) ?_
      refine va_get (D := D) (ci := 2) (v := .int (S_p4.1 1)) (C := RX2) (T := TX2) (N := 2) hx hb hts hinX2 hown hK hP 15 rfl rfl 1 (by decide) (hts (.fieldLink RX1 66 "OnlyStrangersHear$Numbers" "size" "I") (by decide +kernel)) (fun _ h9 => h9) rfl dX1_figuresBy_20 ?_
      refine lv_icmp_ge (tgt := 99) hx hb dX1_figuresBy_23 (by decide) (fun c23 => ?_) (fun c23 => ?_)
      · replace hf := it_t c23 hf
        refine lv_iload hx hb dX1_figuresBy_99 (lv_at hl 5 rfl) ?_
        have e := so_some hf
        subst e
        exact ri hx hb hK hr hlk hQ dX1_figuresBy_101 hP hD hS
      · replace hf := it_f c23 hf
        refine lv_iconst (v := (0 : Int32)) hx hb dX1_figuresBy_26 (by decide) ?_
        refine lv_istore (lv' := [(7, .int (0 : Int32)), (0, .ref o_t), (1, .ref o_p1), (2, .int l2), (3, .int l3), (4, .ref o_p4), (5, .int l5), (6, .int l6)]) hx hb dX1_figuresBy_27 hl (by decide) rfl (fun ls hl => ?_)
        exact j29 1000 S_t_0 S_p1 S_p4 l2 l3 l5 l6 (0 : Int32) H locs ls hf hP hD hS (lv_sub hl [1, 2, 3, 4, 5, 6, 7, 0] rfl)
  unfold f_X1_figuresBy at hf
  have hl : lv_has ls 8 [(0, .ref o_t), (1, .ref o_p1), (2, .int x2), (3, .int x3), (4, .ref o_p4)] := hl
  obtain ⟨H, hHe⟩ : ∃ H : Heap, H = s.heap := ⟨_, rfl⟩
  obtain ⟨locs, hle⟩ : ∃ q : List Loc, q = [] := ⟨_, rfl⟩
  have hS : va_S A s.heap H locs := by rw [hHe, hle]; exact hS
  rw [← hHe] at hP
  suffices hgo : W p l e rmX1_figuresBy s m ([.ref o_t, .ref o_p1, .int x2, .int x3, .ref o_p4] : List Value).toArray below meth c H locs 0 0 Q (F0 m 0 ls []) by rw [hHe, hle] at hgo; exact hgo
  clear hHe hle
  refine lv_aload_n hx hb dX1_figuresBy_0 rfl (lv_at hl 0 rfl) ?_
  refine va_get (D := D) (ci := 1) (v := .ref (a_t 0)) (C := RX1) (T := TX1) (N := 1) hx hb hts hinX1 hown hK hP 0 rfl rfl 0 (by decide) (hts (.fieldLink RX1 12 "OnlyStrangersHear$Mind" "then" "LOnlyStrangersHear$Town;") (by decide +kernel)) (fun _ h9 => h9) rfl dX1_figuresBy_1 ?_
  refine lv_aload_n hx hb dX1_figuresBy_4 rfl (lv_at hl 1 rfl) ?_
  obtain ⟨r5, u5, h5, hf⟩ := bd_some hf
  have hPc := hP.sub (ws' := gX4 (a_t 0) a_t_0 cI S_t_0 ++ gX4 o_p1 a_p1 cI S_p1) [1, 2, 3, 4, 5, 6, 7, 8, 9, 10, 11, 12, 13, 14] rfl
  have hDc := hD.sub (ws' := gX4 (a_t 0) a_t_0 cI S_t_0 ++ gX4 o_p1 a_p1 cI S_p1) [1, 2, 3, 4, 5, 6, 7, 8, 9, 10, 11, 12, 13, 14] (by decide) rfl
  refine calX (runV E0.b E0.n (As := [.ref o_p1]) (rest := []) ⟨hx, hb, hml, hown, hts⟩ (c_X4_become l D cI (a_t 0) a_t_0 o_p1 a_p1 S_t_0 S_p1 _ h5) gX1_figuresBy_X4_become rfl rfl rfl hdX4_become ⟨by decide, by decide⟩ hK hPc hDc 0 rfl rfl rfl hl.1 rfl (Nat.le_of_ble_eq_true rfl) dX1_figuresBy_5 ⟨Nat.zero_le _, Nat.zero_le _⟩) hP hD hS hA [1, 2, 3, 4, 5, 6, 7, 8, 9, 10, 11, 12, 13, 14] [0, 15, 16] [0, 3, 4, 5, 6, 7, 8, 9, 10, 11, 12, 13, 14, 15, 16, 1, 2] (wr := gX1 o_t a_t ++ gX2 o_p4 a_p4 cI S_p4) (wn := gX1 o_t a_t ++ (gX4 (a_t 0) a_t_0 cI u5.1 ++ (gX4 o_p1 a_p1 cI u5.2 ++ gX2 o_p4 a_p4 cI S_p4))) rfl rfl (by decide) (by decide) rfl (by decide) (fun H locs hP hD hS => ?_)
  have hP : va_P D vwCl (gX1 o_t a_t ++ (gX4 (a_t 0) a_t_0 cI u5.1 ++ (gX4 o_p1 a_p1 cI u5.2 ++ gX2 o_p4 a_p4 cI S_p4))) H := hP
  have hD : va_D A (gX1 o_t a_t ++ (gX4 (a_t 0) a_t_0 cI u5.1 ++ (gX4 o_p1 a_p1 cI u5.2 ++ gX2 o_p4 a_p4 cI S_p4))) := hD
  refine W.eq (g2 := F0 m 8 ls []) rfl ?_
  refine lv_sipush (v := (1023 : Int32)) hx hb dX1_figuresBy_8 (by decide) ?_
  refine lv_istore (lv' := [(5, .int (1023 : Int32)), (0, .ref o_t), (1, .ref o_p1), (2, .int x2), (3, .int x3), (4, .ref o_p4)]) hx hb dX1_figuresBy_11 hl (by decide) rfl (fun ls hl => ?_)
  refine lv_iconst (v := (0 : Int32)) hx hb dX1_figuresBy_13 (by decide) ?_
  refine lv_istore (lv' := [(6, .int (0 : Int32)), (5, .int (1023 : Int32)), (0, .ref o_t), (1, .ref o_p1), (2, .int x2), (3, .int x3), (4, .ref o_p4)]) hx hb dX1_figuresBy_14 hl (by decide) rfl (fun ls hl => ?_)
  exact j16 1000 u5.1 u5.2 S_p4 x2 x3 (1023 : Int32) (0 : Int32) H locs ls hf hP hD hS (lv_sub hl [2, 3, 4, 5, 6, 1, 0] rfl)
abbrev rmX1_firstUntrue : Room := { frames := 4, cells := 0, slots := 0, locals := 87 }
set_option maxHeartbeats 4000000 in
set_option maxRecDepth 100000 in
theorem c_X1_firstUntrue (l : Launch) (D : va_G) (cI : ClassId) (o_t : Nat) (a_t : Nat → Nat) (a_t_0 : Nat → Nat) (o_p1 : Nat) (a_p1 : Nat → Nat) (o_p2 : Nat) (a_p2 : Nat → Nat) (S_t_0 : G) (S_p1 : G) (S_p2 : G) (out : Int32 × G × G × G) (hf : f_X1_firstUntrue S_t_0 S_p1 S_p2 = some out) : Cn E0 l yX1_firstUntrue wsX1_firstUntrue rmX1_firstUntrue D cI [.ref o_t, .ref o_p1, .ref o_p2] (gX1 o_t a_t ++ (gX4 (a_t 0) a_t_0 cI S_t_0 ++ (gX4 o_p1 a_p1 cI S_p1 ++ gX2 o_p2 a_p2 cI S_p2))) (some (.int out.1)) (gX1 o_t a_t ++ (gX4 (a_t 0) a_t_0 cI out.2.1 ++ (gX4 o_p1 a_p1 cI out.2.2.1 ++ gX2 o_p2 a_p2 cI out.2.2.2))) := by
  refine Cn.mk (cc := cX1_firstUntrue) (maxL := 4) (ret := (some .int)) (by decide) rfl (Nat.le_of_ble_eq_true rfl) ?_
  intro p e s m below meth c A ls Q hx hb hml hown hts hK hA hP hD hS hl hr hlk hnm hE hQ
  have hown : s.vm.findClass RX1 = some m.cls := hown
  have hinX1 : ∀ w ∈ u_ws RX1 TX1 1, w ∈ wsX1_firstUntrue := by decide +kernel
  have hinX2 : ∀ w ∈ u_ws RX2 TX2 2, w ∈ wsX1_firstUntrue := by decide +kernel
  have j10 : ∀ (n10 : Nat) (S_t_0 : G) (S_p1 : G) (S_p2 : G) (l3 : Int32) (H : Heap) (locs : List Loc) (ls : Array Slot), f_X1_firstUntrue_10 n10 S_t_0 S_p1 S_p2 l3 = some out → va_P D vwCl (gX1 o_t a_t ++ (gX4 (a_t 0) a_t_0 cI S_t_0 ++ (gX4 o_p1 a_p1 cI S_p1 ++ gX2 o_p2 a_p2 cI S_p2))) H → va_D A (gX1 o_t a_t ++ (gX4 (a_t 0) a_t_0 cI S_t_0 ++ (gX4 o_p1 a_p1 cI S_p1 ++ gX2 o_p2 a_p2 cI S_p2))) → va_S A s.heap H locs → lv_has ls 4 [(0, .ref o_t), (2, .ref o_p2), (3, .int l3)] → W p l e rmX1_firstUntrue s m ([.ref o_t, .ref o_p1, .ref o_p2] : List Value).toArray below meth c H locs 0 0 Q (F0 m 10 ls []) := by
    intro n10
    induction n10 with
    | zero =>
      intro S_t_0 S_p1 S_p2 l3 H locs ls hf
      exact no_some hf
    | succ n10 ih10 =>
      intro S_t_0 S_p1 S_p2 l3 H locs ls hf hP hD hS hl
      replace hf : b_X1_firstUntrue_10 (f_X1_firstUntrue_10 n10) S_t_0 S_p1 S_p2 l3 = some out := hf
      unfold b_X1_firstUntrue_10 at hf
      refine lv_iload_n hx hb dX1_firstUntrue_10 rfl (lv_at hl 2 rfl) ?_
      refine lv_aload_n hx hb dX1_firstUntrue_11 rfl (lv_at hl 1 rfl) ?_
      refine va_get (D := D) (ci := 2) (v := .int (S_p2.1 1)) (C := RX2) (T := TX2) (N := 2) hx hb hts hinX2 hown hK hP 15 rfl rfl 1 (by decide) (hts (.fieldLink RX1 66 "OnlyStrangersHear$Numbers" "size" "I") (by decide +kernel)) (fun _ h9 => h9) rfl dX1_firstUntrue_12 ?_
      refine lv_icmp_ge (tgt := 52) hx hb dX1_firstUntrue_15 (by decide) (fun c15 => ?_) (fun c15 => ?_)
      · replace hf := it_t c15 hf
        refine lv_bipush (v := (-9 : Int32)) hx hb dX1_firstUntrue_52 (by decide) ?_
        have e := so_some hf
        subst e
        exact ri hx hb hK hr hlk hQ dX1_firstUntrue_54 hP hD hS
      · replace hf := it_f c15 hf
        refine lv_aload_n hx hb dX1_firstUntrue_18 rfl (lv_at hl 0 rfl) ?_
        refine va_get (D := D) (ci := 1) (v := .ref (a_t 0)) (C := RX1) (T := TX1) (N := 1) hx hb hts hinX1 hown hK hP 0 rfl rfl 0 (by decide) (hts (.fieldLink RX1 12 "OnlyStrangersHear$Mind" "then" "LOnlyStrangersHear$Town;") (by decide +kernel)) (fun _ h9 => h9) rfl dX1_firstUntrue_19 ?_
        obtain ⟨r22, u22, h22, hf⟩ := bd_some hf
        have hPc := hP.sub (ws' := gX4 (a_t 0) a_t_0 cI S_t_0) [1, 2, 3, 4, 5, 6, 7] rfl
        have hDc := hD.sub (ws' := gX4 (a_t 0) a_t_0 cI S_t_0) [1, 2, 3, 4, 5, 6, 7] (by decide) rfl
        refine calX (runV E0.b E0.n (As := []) (rest := []) ⟨hx, hb, hml, hown, hts⟩ (c_X4_hearersOfSome l D cI (a_t 0) a_t_0 S_t_0 _ h22) gX1_firstUntrue_X4_hearersOfSome rfl rfl rfl hdX4_hearersOfSome ⟨by decide, by decide⟩ hK hPc hDc 0 rfl rfl rfl hl.1 rfl (Nat.le_of_ble_eq_true rfl) dX1_firstUntrue_22 ⟨Nat.zero_le _, Nat.zero_le _⟩) hP hD hS hA [1, 2, 3, 4, 5, 6, 7] [0, 8, 9, 10, 11, 12, 13, 14, 15, 16] [0, 10, 11, 12, 13, 14, 15, 16, 1, 2, 3, 4, 5, 6, 7, 8, 9] (wr := gX1 o_t a_t ++ (gX4 o_p1 a_p1 cI S_p1 ++ gX2 o_p2 a_p2 cI S_p2)) (wn := gX1 o_t a_t ++ (gX4 (a_t 0) a_t_0 cI u22 ++ (gX4 o_p1 a_p1 cI S_p1 ++ gX2 o_p2 a_p2 cI S_p2))) rfl rfl (by decide) (by decide) rfl (by decide) (fun H locs hP hD hS => ?_)
        have hP : va_P D vwCl (gX1 o_t a_t ++ (gX4 (a_t 0) a_t_0 cI u22 ++ (gX4 o_p1 a_p1 cI S_p1 ++ gX2 o_p2 a_p2 cI S_p2))) H := hP
        have hD : va_D A (gX1 o_t a_t ++ (gX4 (a_t 0) a_t_0 cI u22 ++ (gX4 o_p1 a_p1 cI S_p1 ++ gX2 o_p2 a_p2 cI S_p2))) := hD
        refine W.eq (g2 := F0 m 25 ls [.int r22]) rfl ?_
        obtain ⟨r25, u25, h25, hf⟩ := bd_some hf
        have hPc : va_P D vwCl [] H := hP.sub (ws' := []) [] rfl
        have hDc : va_D A [] := hD.sub (ws' := []) [] (by decide) rfl
        refine calXe (runS E0.b E0.n (As := [.int r22]) (rest := []) ⟨hx, hb, hml, hown, hts⟩ (c_J6_bitCount_0f7a4 l D cI r22 _ h25) gX1_firstUntrue_J6_bitCount_0f7a4 rfl rfl rfl hdJ6_bitCount_0f7a4 ⟨by decide, by decide⟩ hK hPc hDc rfl hl.1 rfl (Nat.le_of_ble_eq_true rfl) dX1_firstUntrue_25 ⟨Nat.zero_le _, Nat.zero_le _⟩) hP hD hS hA (fun H locs hP hD hS => ?_)
        have hP : va_P D vwCl (gX1 o_t a_t ++ (gX4 (a_t 0) a_t_0 cI u22 ++ (gX4 o_p1 a_p1 cI S_p1 ++ gX2 o_p2 a_p2 cI S_p2))) H := hP
        have hD : va_D A (gX1 o_t a_t ++ (gX4 (a_t 0) a_t_0 cI u22 ++ (gX4 o_p1 a_p1 cI S_p1 ++ gX2 o_p2 a_p2 cI S_p2))) := hD
        refine W.eq (g2 := F0 m 28 ls [.int r25]) rfl ?_
        refine lv_aload_n hx hb dX1_firstUntrue_28 rfl (lv_at hl 1 rfl) ?_
        refine lv_iload_n hx hb dX1_firstUntrue_29 rfl (lv_at hl 2 rfl) ?_
        obtain ⟨r30, u30, h30, hf⟩ := bd_some hf
        have hPc := hP.sub (ws' := gX2 o_p2 a_p2 cI S_p2) [15, 16] rfl
        have hDc := hD.sub (ws' := gX2 o_p2 a_p2 cI S_p2) [15, 16] (by decide) rfl
        refine calX (runV E0.b E0.n (As := [.int l3]) (rest := [.int r25]) ⟨hx, hb, hml, hown, hts⟩ (c_X2_at l D cI o_p2 a_p2 S_p2 l3 _ h30) gX1_firstUntrue_X2_at rfl rfl rfl hdX2_at ⟨by decide, by decide⟩ hK hPc hDc 0 rfl rfl rfl hl.1 rfl (Nat.le_of_ble_eq_true rfl) dX1_firstUntrue_30 ⟨Nat.zero_le _, Nat.zero_le _⟩) hP hD hS hA [15, 16] [0, 1, 2, 3, 4, 5, 6, 7, 8, 9, 10, 11, 12, 13, 14] [0, 1, 2, 3, 4, 5, 6, 7, 8, 9, 10, 11, 12, 13, 14, 15, 16] (wr := gX1 o_t a_t ++ (gX4 (a_t 0) a_t_0 cI u22 ++ gX4 o_p1 a_p1 cI S_p1)) (wn := gX1 o_t a_t ++ (gX4 (a_t 0) a_t_0 cI u22 ++ (gX4 o_p1 a_p1 cI S_p1 ++ gX2 o_p2 a_p2 cI u30))) rfl rfl (by decide) (by decide) rfl (by decide) (fun H locs hP hD hS => ?_)
        have hP : va_P D vwCl (gX1 o_t a_t ++ (gX4 (a_t 0) a_t_0 cI u22 ++ (gX4 o_p1 a_p1 cI S_p1 ++ gX2 o_p2 a_p2 cI u30))) H := hP
        have hD : va_D A (gX1 o_t a_t ++ (gX4 (a_t 0) a_t_0 cI u22 ++ (gX4 o_p1 a_p1 cI S_p1 ++ gX2 o_p2 a_p2 cI u30))) := hD
        refine W.eq (g2 := F0 m 33 ls [.int r30, .int r25]) rfl ?_
        refine lv_icmp_eq (tgt := 38) hx hb dX1_firstUntrue_33 (by decide) (fun c33 => ?_) (fun c33 => ?_)
        · replace hf := it_t c33 hf
          refine lv_aload_n hx hb dX1_firstUntrue_38 rfl (lv_at hl 0 rfl) ?_
          refine va_get (D := D) (ci := 1) (v := .ref (a_t 0)) (C := RX1) (T := TX1) (N := 1) hx hb hts hinX1 hown hK hP 0 rfl rfl 0 (by decide) (hts (.fieldLink RX1 12 "OnlyStrangersHear$Mind" "then" "LOnlyStrangersHear$Town;") (by decide +kernel)) (fun _ h9 => h9) rfl dX1_firstUntrue_39 ?_
          refine lv_iconst (v := (1 : Int32)) hx hb dX1_firstUntrue_42 (by decide) ?_
          obtain ⟨r43, u43, h43, hf⟩ := bd_some hf
          have hPc := hP.sub (ws' := gX4 (a_t 0) a_t_0 cI u22) [1, 2, 3, 4, 5, 6, 7] rfl
          have hDc := hD.sub (ws' := gX4 (a_t 0) a_t_0 cI u22) [1, 2, 3, 4, 5, 6, 7] (by decide) rfl
          refine calX (runV E0.b E0.n (As := [.int (1 : Int32)]) (rest := []) ⟨hx, hb, hml, hown, hts⟩ (c_X4_pass l D cI (a_t 0) a_t_0 u22 (1 : Int32) _ h43) gX1_firstUntrue_X4_pass rfl rfl rfl hdX4_pass ⟨by decide, by decide⟩ hK hPc hDc 0 rfl rfl rfl hl.1 rfl (Nat.le_of_ble_eq_true rfl) dX1_firstUntrue_43 ⟨Nat.zero_le _, Nat.zero_le _⟩) hP hD hS hA [1, 2, 3, 4, 5, 6, 7] [0, 8, 9, 10, 11, 12, 13, 14, 15, 16] [0, 10, 11, 12, 13, 14, 15, 16, 1, 2, 3, 4, 5, 6, 7, 8, 9] (wr := gX1 o_t a_t ++ (gX4 o_p1 a_p1 cI S_p1 ++ gX2 o_p2 a_p2 cI u30)) (wn := gX1 o_t a_t ++ (gX4 (a_t 0) a_t_0 cI u43 ++ (gX4 o_p1 a_p1 cI S_p1 ++ gX2 o_p2 a_p2 cI u30))) rfl rfl (by decide) (by decide) rfl (by decide) (fun H locs hP hD hS => ?_)
          have hP : va_P D vwCl (gX1 o_t a_t ++ (gX4 (a_t 0) a_t_0 cI u43 ++ (gX4 o_p1 a_p1 cI S_p1 ++ gX2 o_p2 a_p2 cI u30))) H := hP
          have hD : va_D A (gX1 o_t a_t ++ (gX4 (a_t 0) a_t_0 cI u43 ++ (gX4 o_p1 a_p1 cI S_p1 ++ gX2 o_p2 a_p2 cI u30))) := hD
          refine W.eq (g2 := F0 m 46 ls []) rfl ?_
          refine lv_iinc (v := l3 + (1 : Int32)) (lv' := [(3, .int (l3 + (1 : Int32))), (0, .ref o_t), (2, .ref o_p2)]) hx hb dX1_firstUntrue_46 hl (k := 2) rfl rfl (by decide) rfl (fun ls hl => ?_)
          refine lv_goto (tgt := 10) hx hb dX1_firstUntrue_49 (by decide) ?_
          exact ih10 u43 S_p1 u30 (l3 + (1 : Int32)) H locs ls hf hP hD hS (lv_sub hl [1, 2, 0] rfl)
        · replace hf := it_f c33 hf
          refine lv_iload_n hx hb dX1_firstUntrue_36 rfl (lv_at hl 2 rfl) ?_
          have e := so_some hf
          subst e
          exact ri hx hb hK hr hlk hQ dX1_firstUntrue_37 hP hD hS
  unfold f_X1_firstUntrue at hf
  have hl : lv_has ls 4 [(0, .ref o_t), (1, .ref o_p1), (2, .ref o_p2)] := hl
  obtain ⟨H, hHe⟩ : ∃ H : Heap, H = s.heap := ⟨_, rfl⟩
  obtain ⟨locs, hle⟩ : ∃ q : List Loc, q = [] := ⟨_, rfl⟩
  have hS : va_S A s.heap H locs := by rw [hHe, hle]; exact hS
  rw [← hHe] at hP
  suffices hgo : W p l e rmX1_firstUntrue s m ([.ref o_t, .ref o_p1, .ref o_p2] : List Value).toArray below meth c H locs 0 0 Q (F0 m 0 ls []) by rw [hHe, hle] at hgo; exact hgo
  clear hHe hle
  refine lv_aload_n hx hb dX1_firstUntrue_0 rfl (lv_at hl 0 rfl) ?_
  refine va_get (D := D) (ci := 1) (v := .ref (a_t 0)) (C := RX1) (T := TX1) (N := 1) hx hb hts hinX1 hown hK hP 0 rfl rfl 0 (by decide) (hts (.fieldLink RX1 12 "OnlyStrangersHear$Mind" "then" "LOnlyStrangersHear$Town;") (by decide +kernel)) (fun _ h9 => h9) rfl dX1_firstUntrue_1 ?_
  refine lv_aload_n hx hb dX1_firstUntrue_4 rfl (lv_at hl 1 rfl) ?_
  obtain ⟨r5, u5, h5, hf⟩ := bd_some hf
  have hPc := hP.sub (ws' := gX4 (a_t 0) a_t_0 cI S_t_0 ++ gX4 o_p1 a_p1 cI S_p1) [1, 2, 3, 4, 5, 6, 7, 8, 9, 10, 11, 12, 13, 14] rfl
  have hDc := hD.sub (ws' := gX4 (a_t 0) a_t_0 cI S_t_0 ++ gX4 o_p1 a_p1 cI S_p1) [1, 2, 3, 4, 5, 6, 7, 8, 9, 10, 11, 12, 13, 14] (by decide) rfl
  refine calX (runV E0.b E0.n (As := [.ref o_p1]) (rest := []) ⟨hx, hb, hml, hown, hts⟩ (c_X4_become l D cI (a_t 0) a_t_0 o_p1 a_p1 S_t_0 S_p1 _ h5) gX1_firstUntrue_X4_become rfl rfl rfl hdX4_become ⟨by decide, by decide⟩ hK hPc hDc 0 rfl rfl rfl hl.1 rfl (Nat.le_of_ble_eq_true rfl) dX1_firstUntrue_5 ⟨Nat.zero_le _, Nat.zero_le _⟩) hP hD hS hA [1, 2, 3, 4, 5, 6, 7, 8, 9, 10, 11, 12, 13, 14] [0, 15, 16] [0, 3, 4, 5, 6, 7, 8, 9, 10, 11, 12, 13, 14, 15, 16, 1, 2] (wr := gX1 o_t a_t ++ gX2 o_p2 a_p2 cI S_p2) (wn := gX1 o_t a_t ++ (gX4 (a_t 0) a_t_0 cI u5.1 ++ (gX4 o_p1 a_p1 cI u5.2 ++ gX2 o_p2 a_p2 cI S_p2))) rfl rfl (by decide) (by decide) rfl (by decide) (fun H locs hP hD hS => ?_)
  have hP : va_P D vwCl (gX1 o_t a_t ++ (gX4 (a_t 0) a_t_0 cI u5.1 ++ (gX4 o_p1 a_p1 cI u5.2 ++ gX2 o_p2 a_p2 cI S_p2))) H := hP
  have hD : va_D A (gX1 o_t a_t ++ (gX4 (a_t 0) a_t_0 cI u5.1 ++ (gX4 o_p1 a_p1 cI u5.2 ++ gX2 o_p2 a_p2 cI S_p2))) := hD
  refine W.eq (g2 := F0 m 8 ls []) rfl ?_
  refine lv_iconst (v := (0 : Int32)) hx hb dX1_firstUntrue_8 (by decide) ?_
  refine lv_istore_n (lv' := [(3, .int (0 : Int32)), (0, .ref o_t), (1, .ref o_p1), (2, .ref o_p2)]) hx hb dX1_firstUntrue_9 rfl hl (by decide) rfl (fun ls hl => ?_)
  exact j10 1000 u5.1 u5.2 S_p2 (0 : Int32) H locs ls hf hP hD hS (lv_sub hl [1, 3, 0] rfl)
abbrev rmX1_townsByLot : Room := { frames := 4, cells := 0, slots := 0, locals := 87 }
set_option maxHeartbeats 4000000 in
set_option maxRecDepth 100000 in
theorem c_X1_townsByLot (l : Launch) (D : va_G) (cI : ClassId) (o_t : Nat) (a_t : Nat → Nat) (a_t_0 : Nat → Nat) (o_p1 : Nat) (a_p1 : Nat → Nat) (S_t_0 : G) (S_p1 : G) (x2 : Int32) (x3 : Int32) (x4 : Int32) (out : Int32 × G × G) (hf : f_X1_townsByLot S_t_0 S_p1 x2 x3 x4 = some out) : Cn E0 l yX1_townsByLot wsX1_townsByLot rmX1_townsByLot D cI [.ref o_t, .ref o_p1, .int x2, .int x3, .int x4] (gX1 o_t a_t ++ (gX4 (a_t 0) a_t_0 cI S_t_0 ++ gX4 o_p1 a_p1 cI S_p1)) (some (.int out.1)) (gX1 o_t a_t ++ (gX4 (a_t 0) a_t_0 cI out.2.1 ++ gX4 o_p1 a_p1 cI out.2.2)) := by
  refine Cn.mk (cc := cX1_townsByLot) (maxL := 9) (ret := (some .int)) (by decide) rfl (Nat.le_of_ble_eq_true rfl) ?_
  intro p e s m below meth c A ls Q hx hb hml hown hts hK hA hP hD hS hl hr hlk hnm hE hQ
  have hown : s.vm.findClass RX1 = some m.cls := hown
  have hinX1 : ∀ w ∈ u_ws RX1 TX1 1, w ∈ wsX1_townsByLot := by decide +kernel
  have hinX4 : ∀ w ∈ u_ws RX4 TX4 10, w ∈ wsX1_townsByLot := by decide +kernel
  have j9 : ∀ (n9 : Nat) (S_t_0 : G) (S_p1 : G) (l2 : Int32) (l4 : Int32) (l5 : Int32) (l6 : Int32) (l7 : Int32) (H : Heap) (locs : List Loc) (ls : Array Slot), f_X1_townsByLot_9 n9 S_t_0 S_p1 l2 l4 l5 l6 l7 = some out → va_P D vwCl (gX1 o_t a_t ++ (gX4 (a_t 0) a_t_0 cI S_t_0 ++ gX4 o_p1 a_p1 cI S_p1)) H → va_D A (gX1 o_t a_t ++ (gX4 (a_t 0) a_t_0 cI S_t_0 ++ gX4 o_p1 a_p1 cI S_p1)) → va_S A s.heap H locs → lv_has ls 9 [(0, .ref o_t), (1, .ref o_p1), (2, .int l2), (4, .int l4), (5, .int l5), (6, .int l6), (7, .int l7)] → W p l e rmX1_townsByLot s m ([.ref o_t, .ref o_p1, .int x2, .int x3, .int x4] : List Value).toArray below meth c H locs 0 0 Q (F0 m 9 ls []) := by
    intro n9
    induction n9 with
    | zero =>
      intro S_t_0 S_p1 l2 l4 l5 l6 l7 H locs ls hf
      exact no_some hf
    | succ n9 ih9 =>
      have j26 : ∀ (n26 : Nat) (S_t_0 : G) (S_p1 : G) (l2 : Int32) (l4 : Int32) (l5 : Int32) (l6 : Int32) (l7 : Int32) (l8 : Int32) (H : Heap) (locs : List Loc) (ls : Array Slot), f_X1_townsByLot_26 (f_X1_townsByLot_9 n9) n26 S_t_0 S_p1 l2 l4 l5 l6 l7 l8 = some out → va_P D vwCl (gX1 o_t a_t ++ (gX4 (a_t 0) a_t_0 cI S_t_0 ++ gX4 o_p1 a_p1 cI S_p1)) H → va_D A (gX1 o_t a_t ++ (gX4 (a_t 0) a_t_0 cI S_t_0 ++ gX4 o_p1 a_p1 cI S_p1)) → va_S A s.heap H locs → lv_has ls 9 [(0, .ref o_t), (1, .ref o_p1), (2, .int l2), (4, .int l4), (5, .int l5), (6, .int l6), (7, .int l7), (8, .int l8)] → W p l e rmX1_townsByLot s m ([.ref o_t, .ref o_p1, .int x2, .int x3, .int x4] : List Value).toArray below meth c H locs 0 0 Q (F0 m 26 ls []) := by
        intro n26
        induction n26 with
        | zero =>
          intro S_t_0 S_p1 l2 l4 l5 l6 l7 l8 H locs ls hf
          exact no_some hf
        | succ n26 ih26 =>
          intro S_t_0 S_p1 l2 l4 l5 l6 l7 l8 H locs ls hf hP hD hS hl
          replace hf : b_X1_townsByLot_26 (f_X1_townsByLot_9 n9) (f_X1_townsByLot_26 (f_X1_townsByLot_9 n9) n26) S_t_0 S_p1 l2 l4 l5 l6 l7 l8 = some out := hf
          unfold b_X1_townsByLot_26 at hf
          refine lv_iload hx hb dX1_townsByLot_26 (lv_at hl 7 rfl) ?_
          refine lv_aload_n hx hb dX1_townsByLot_28 rfl (lv_at hl 0 rfl) ?_
          refine va_get (D := D) (ci := 1) (v := .ref (a_t 0)) (C := RX1) (T := TX1) (N := 1) hx hb hts hinX1 hown hK hP 0 rfl rfl 0 (by decide) (hts (.fieldLink RX1 12 "OnlyStrangersHear$Mind" "then" "LOnlyStrangersHear$Town;") (by decide +kernel)) (fun _ h9 => h9) rfl dX1_townsByLot_29 ?_
          refine va_get (D := D) (ci := 4) (v := .int (S_t_0.1 3)) (C := RX4) (T := TX4) (N := 10) hx hb hts hinX4 hown hK hP 1 rfl rfl 3 (by decide) (hts (.fieldLink RX1 48 "OnlyStrangersHear$Town" "people" "I") (by decide +kernel)) (fun _ h9 => h9) rfl dX1_townsByLot_32 ?_
          refine lv_icmp_ge (tgt := 76) hx hb dX1_townsByLot_35 (by decide) (fun c35 => ?_) (fun c35 => ?_)
          · replace hf := it_t c35 hf
            refine lv_aload_n hx hb dX1_townsByLot_76 rfl (lv_at hl 0 rfl) ?_
            refine va_get (D := D) (ci := 1) (v := .ref (a_t 0)) (C := RX1) (T := TX1) (N := 1) hx hb hts hinX1 hown hK hP 0 rfl rfl 0 (by decide) (hts (.fieldLink RX1 12 "OnlyStrangersHear$Mind" "then" "LOnlyStrangersHear$Town;") (by decide +kernel)) (fun _ h9 => h9) rfl dX1_townsByLot_77 ?_
            refine lv_bipush (v := (10 : Int32)) hx hb dX1_townsByLot_80 (by decide) ?_
            obtain ⟨r82, u82, h82, hf⟩ := bd_some hf
            have hPc := hP.sub (ws' := gX4 (a_t 0) a_t_0 cI S_t_0) [1, 2, 3, 4, 5, 6, 7] rfl
            have hDc := hD.sub (ws' := gX4 (a_t 0) a_t_0 cI S_t_0) [1, 2, 3, 4, 5, 6, 7] (by decide) rfl
            refine calX (runV E0.b E0.n (As := [.int (10 : Int32)]) (rest := []) ⟨hx, hb, hml, hown, hts⟩ (c_X4_pass l D cI (a_t 0) a_t_0 S_t_0 (10 : Int32) _ h82) gX1_townsByLot_X4_pass rfl rfl rfl hdX4_pass ⟨by decide, by decide⟩ hK hPc hDc 0 rfl rfl rfl hl.1 rfl (Nat.le_of_ble_eq_true rfl) dX1_townsByLot_82 ⟨Nat.zero_le _, Nat.zero_le _⟩) hP hD hS hA [1, 2, 3, 4, 5, 6, 7] [0, 8, 9, 10, 11, 12, 13, 14] [0, 8, 9, 10, 11, 12, 13, 14, 1, 2, 3, 4, 5, 6, 7] (wr := gX1 o_t a_t ++ gX4 o_p1 a_p1 cI S_p1) (wn := gX1 o_t a_t ++ (gX4 (a_t 0) a_t_0 cI u82 ++ gX4 o_p1 a_p1 cI S_p1)) rfl rfl (by decide) (by decide) rfl (by decide) (fun H locs hP hD hS => ?_)
            have hP : va_P D vwCl (gX1 o_t a_t ++ (gX4 (a_t 0) a_t_0 cI u82 ++ gX4 o_p1 a_p1 cI S_p1)) H := hP
            have hD : va_D A (gX1 o_t a_t ++ (gX4 (a_t 0) a_t_0 cI u82 ++ gX4 o_p1 a_p1 cI S_p1)) := hD
            refine W.eq (g2 := F0 m 85 ls []) rfl ?_
            refine lv_iload hx hb dX1_townsByLot_85 (lv_at hl 5 rfl) ?_
            refine lv_iload hx hb dX1_townsByLot_87 (lv_at hl 3 rfl) ?_
            refine lv_if_eq (tgt := 105) hx hb dX1_townsByLot_89 (by decide) (fun c89 => ?_) (fun c89 => ?_)
            · replace hf := it_t c89 hf
              refine lv_aload_n hx hb dX1_townsByLot_105 rfl (lv_at hl 0 rfl) ?_
              refine va_get (D := D) (ci := 1) (v := .ref (a_t 0)) (C := RX1) (T := TX1) (N := 1) hx hb hts hinX1 hown hK hP 0 rfl rfl 0 (by decide) (hts (.fieldLink RX1 12 "OnlyStrangersHear$Mind" "then" "LOnlyStrangersHear$Town;") (by decide +kernel)) (fun _ h9 => h9) rfl dX1_townsByLot_106 ?_
              obtain ⟨r109, u109, h109, hf⟩ := bd_some hf
              have hPc := hP.sub (ws' := gX4 (a_t 0) a_t_0 cI u82) [1, 2, 3, 4, 5, 6, 7] rfl
              have hDc := hD.sub (ws' := gX4 (a_t 0) a_t_0 cI u82) [1, 2, 3, 4, 5, 6, 7] (by decide) rfl
              refine calX (runV E0.b E0.n (As := []) (rest := [.int l6]) ⟨hx, hb, hml, hown, hts⟩ (c_X4_allSlept l D cI (a_t 0) a_t_0 u82 _ h109) gX1_townsByLot_X4_allSlept rfl rfl rfl hdX4_allSlept ⟨by decide, by decide⟩ hK hPc hDc 0 rfl rfl rfl hl.1 rfl (Nat.le_of_ble_eq_true rfl) dX1_townsByLot_109 ⟨Nat.zero_le _, Nat.zero_le _⟩) hP hD hS hA [1, 2, 3, 4, 5, 6, 7] [0, 8, 9, 10, 11, 12, 13, 14] [0, 8, 9, 10, 11, 12, 13, 14, 1, 2, 3, 4, 5, 6, 7] (wr := gX1 o_t a_t ++ gX4 o_p1 a_p1 cI S_p1) (wn := gX1 o_t a_t ++ (gX4 (a_t 0) a_t_0 cI u109 ++ gX4 o_p1 a_p1 cI S_p1)) rfl rfl (by decide) (by decide) rfl (by decide) (fun H locs hP hD hS => ?_)
              have hP : va_P D vwCl (gX1 o_t a_t ++ (gX4 (a_t 0) a_t_0 cI u109 ++ gX4 o_p1 a_p1 cI S_p1)) H := hP
              have hD : va_D A (gX1 o_t a_t ++ (gX4 (a_t 0) a_t_0 cI u109 ++ gX4 o_p1 a_p1 cI S_p1)) := hD
              refine W.eq (g2 := F0 m 112 ls [.int r109, .int l6]) rfl ?_
              refine lv_iadd hx hb dX1_townsByLot_112 ?_
              refine lv_istore (lv' := [(6, .int (l6 + r109)), (0, .ref o_t), (1, .ref o_p1), (2, .int l2), (4, .int l4), (5, .int l5), (7, .int l7), (8, .int l8)]) hx hb dX1_townsByLot_113 hl (by decide) rfl (fun ls hl => ?_)
              refine lv_iinc (v := l7 + (1 : Int32)) (lv' := [(7, .int (l7 + (1 : Int32))), (6, .int (l6 + r109)), (0, .ref o_t), (1, .ref o_p1), (2, .int l2), (4, .int l4), (5, .int l5), (8, .int l8)]) hx hb dX1_townsByLot_115 hl (k := 6) rfl rfl (by decide) rfl (fun ls hl => ?_)
              refine lv_goto (tgt := 9) hx hb dX1_townsByLot_118 (by decide) ?_
              exact ih9 u109 S_p1 l2 l4 l5 (l6 + r109) (l7 + (1 : Int32)) H locs ls hf hP hD hS (lv_sub hl [2, 3, 4, 5, 6, 1, 0] rfl)
            · replace hf := it_f c89 hf
              refine lv_aload_n hx hb dX1_townsByLot_92 rfl (lv_at hl 0 rfl) ?_
              refine va_get (D := D) (ci := 1) (v := .ref (a_t 0)) (C := RX1) (T := TX1) (N := 1) hx hb hts hinX1 hown hK hP 0 rfl rfl 0 (by decide) (hts (.fieldLink RX1 12 "OnlyStrangersHear$Mind" "then" "LOnlyStrangersHear$Town;") (by decide +kernel)) (fun _ h9 => h9) rfl dX1_townsByLot_93 ?_
              obtain ⟨r96, u96, h96, hf⟩ := bd_some hf
              have hPc := hP.sub (ws' := gX4 (a_t 0) a_t_0 cI u82) [1, 2, 3, 4, 5, 6, 7] rfl
              have hDc := hD.sub (ws' := gX4 (a_t 0) a_t_0 cI u82) [1, 2, 3, 4, 5, 6, 7] (by decide) rfl
              refine calX (runV E0.b E0.n (As := []) (rest := [.int l6]) ⟨hx, hb, hml, hown, hts⟩ (c_X4_hearersOfSome l D cI (a_t 0) a_t_0 u82 _ h96) gX1_townsByLot_X4_hearersOfSome rfl rfl rfl hdX4_hearersOfSome ⟨by decide, by decide⟩ hK hPc hDc 0 rfl rfl rfl hl.1 rfl (Nat.le_of_ble_eq_true rfl) dX1_townsByLot_96 ⟨Nat.zero_le _, Nat.zero_le _⟩) hP hD hS hA [1, 2, 3, 4, 5, 6, 7] [0, 8, 9, 10, 11, 12, 13, 14] [0, 8, 9, 10, 11, 12, 13, 14, 1, 2, 3, 4, 5, 6, 7] (wr := gX1 o_t a_t ++ gX4 o_p1 a_p1 cI S_p1) (wn := gX1 o_t a_t ++ (gX4 (a_t 0) a_t_0 cI u96 ++ gX4 o_p1 a_p1 cI S_p1)) rfl rfl (by decide) (by decide) rfl (by decide) (fun H locs hP hD hS => ?_)
              have hP : va_P D vwCl (gX1 o_t a_t ++ (gX4 (a_t 0) a_t_0 cI u96 ++ gX4 o_p1 a_p1 cI S_p1)) H := hP
              have hD : va_D A (gX1 o_t a_t ++ (gX4 (a_t 0) a_t_0 cI u96 ++ gX4 o_p1 a_p1 cI S_p1)) := hD
              refine W.eq (g2 := F0 m 99 ls [.int r96, .int l6]) rfl ?_
              obtain ⟨r99, u99, h99, hf⟩ := bd_some hf
              have hPc : va_P D vwCl [] H := hP.sub (ws' := []) [] rfl
              have hDc : va_D A [] := hD.sub (ws' := []) [] (by decide) rfl
              refine calXe (runS E0.b E0.n (As := [.int r96]) (rest := [.int l6]) ⟨hx, hb, hml, hown, hts⟩ (c_J6_bitCount_0f7a4 l D cI r96 _ h99) gX1_townsByLot_J6_bitCount_0f7a4 rfl rfl rfl hdJ6_bitCount_0f7a4 ⟨by decide, by decide⟩ hK hPc hDc rfl hl.1 rfl (Nat.le_of_ble_eq_true rfl) dX1_townsByLot_99 ⟨Nat.zero_le _, Nat.zero_le _⟩) hP hD hS hA (fun H locs hP hD hS => ?_)
              have hP : va_P D vwCl (gX1 o_t a_t ++ (gX4 (a_t 0) a_t_0 cI u96 ++ gX4 o_p1 a_p1 cI S_p1)) H := hP
              have hD : va_D A (gX1 o_t a_t ++ (gX4 (a_t 0) a_t_0 cI u96 ++ gX4 o_p1 a_p1 cI S_p1)) := hD
              refine W.eq (g2 := F0 m 102 ls [.int r99, .int l6]) rfl ?_
              refine lv_goto (tgt := 112) hx hb dX1_townsByLot_102 (by decide) ?_
              refine lv_iadd hx hb dX1_townsByLot_112 ?_
              refine lv_istore (lv' := [(6, .int (l6 + r99)), (0, .ref o_t), (1, .ref o_p1), (2, .int l2), (4, .int l4), (5, .int l5), (7, .int l7), (8, .int l8)]) hx hb dX1_townsByLot_113 hl (by decide) rfl (fun ls hl => ?_)
              refine lv_iinc (v := l7 + (1 : Int32)) (lv' := [(7, .int (l7 + (1 : Int32))), (6, .int (l6 + r99)), (0, .ref o_t), (1, .ref o_p1), (2, .int l2), (4, .int l4), (5, .int l5), (8, .int l8)]) hx hb dX1_townsByLot_115 hl (k := 6) rfl rfl (by decide) rfl (fun ls hl => ?_)
              refine lv_goto (tgt := 9) hx hb dX1_townsByLot_118 (by decide) ?_
              exact ih9 u96 S_p1 l2 l4 l5 (l6 + r99) (l7 + (1 : Int32)) H locs ls hf hP hD hS (lv_sub hl [2, 3, 4, 5, 6, 1, 0] rfl)
          · replace hf := it_f c35 hf
            refine lv_iload hx hb dX1_townsByLot_38 (lv_at hl 4 rfl) ?_
            refine lv_ldc (v := (1664525 : Int32)) hx hb hown (hts (.constant RX1 97 (1664525)) (by decide +kernel)) dX1_townsByLot_40 ?_
            refine lv_imul hx hb dX1_townsByLot_42 ?_
            refine lv_ldc (v := (1013904223 : Int32)) hx hb hown (hts (.constant RX1 98 (1013904223)) (by decide +kernel)) dX1_townsByLot_43 ?_
            refine lv_iadd hx hb dX1_townsByLot_45 ?_
            refine lv_topi (fun v46 e46 => ?_)
            replace hf := lt_at e46 hf
            refine lv_istore (lv' := [(5, .int v46), (0, .ref o_t), (1, .ref o_p1), (2, .int l2), (4, .int l4), (6, .int l6), (7, .int l7), (8, .int l8)]) hx hb dX1_townsByLot_46 hl (by decide) rfl (fun ls hl => ?_)
            refine lv_aload_n hx hb dX1_townsByLot_48 rfl (lv_at hl 1 rfl) ?_
            refine va_get (D := D) (ci := 1) (v := .ref (a_t 0)) (C := RX1) (T := TX1) (N := 1) hx hb hts hinX1 hown hK hP 0 rfl rfl 0 (by decide) (hts (.fieldLink RX1 12 "OnlyStrangersHear$Mind" "then" "LOnlyStrangersHear$Town;") (by decide +kernel)) (fun _ h9 => h9) rfl dX1_townsByLot_49 ?_
            refine va_get (D := D) (ci := 4) (v := .ref (a_t_0 6)) (C := RX4) (T := TX4) (N := 10) hx hb hts hinX4 hown hK hP 1 rfl rfl 6 (by decide) (hts (.fieldLink RX1 99 "OnlyStrangersHear$Town" "slept" "[I") (by decide +kernel)) (fun _ h9 => h9) rfl dX1_townsByLot_52 ?_
            refine lv_iload hx hb dX1_townsByLot_55 (lv_at hl 7 rfl) ?_
            refine lv_iload hx hb dX1_townsByLot_57 (lv_at hl 0 rfl) ?_
            refine lv_ldc (v := (2147483647 : Int32)) hx hb hown (hts (.constant RX1 102 (2147483647)) (by decide +kernel)) dX1_townsByLot_59 ?_
            refine lv_iand hx hb dX1_townsByLot_61 ?_
            refine lv_sipush (v := (256 : Int32)) hx hb dX1_townsByLot_62 (by decide) ?_
            obtain ⟨z65, hf⟩ := nz_some hf
            refine lv_idiv hx hb dX1_townsByLot_65 z65 ?_
            refine lv_bipush (v := (20 : Int32)) hx hb dX1_townsByLot_66 (by decide) ?_
            obtain ⟨z68, hf⟩ := nz_some hf
            refine lv_irem hx hb dX1_townsByLot_68 z68 ?_
            obtain ⟨b69, hf⟩ := ck_some hf
            refine va_iast hx hb hK hP hD hS 6 0 rfl rfl b69 dX1_townsByLot_69 (fun H locs hP hD hS => ?_)
            have hP : va_P D vwCl (gX1 o_t a_t ++ (gX4 (a_t 0) a_t_0 cI (pA S_t_0 6 l8.toNatClampNeg (((v46 &&& (2147483647 : Int32)) / (256 : Int32)) - ((v46 &&& (2147483647 : Int32)) / (256 : Int32)) / (20 : Int32) * (20 : Int32))) ++ gX4 o_p1 a_p1 cI S_p1)) H := hP
            have hD : va_D A (gX1 o_t a_t ++ (gX4 (a_t 0) a_t_0 cI (pA S_t_0 6 l8.toNatClampNeg (((v46 &&& (2147483647 : Int32)) / (256 : Int32)) - ((v46 &&& (2147483647 : Int32)) / (256 : Int32)) / (20 : Int32) * (20 : Int32))) ++ gX4 o_p1 a_p1 cI S_p1)) := hD
            obtain ⟨g69, e69, hf⟩ := lt_some hf
            rw [← e69] at hP hD
            refine lv_iinc (v := l8 + (1 : Int32)) (lv' := [(8, .int (l8 + (1 : Int32))), (5, .int v46), (0, .ref o_t), (1, .ref o_p1), (2, .int l2), (4, .int l4), (6, .int l6), (7, .int l7)]) hx hb dX1_townsByLot_70 hl (k := 7) rfl rfl (by decide) rfl (fun ls hl => ?_)
            refine lv_goto (tgt := 26) hx hb dX1_townsByLot_73 (by decide) ?_
            exact ih26 g69 S_p1 l2 l4 v46 l6 l7 (l8 + (1 : Int32)) H locs ls hf hP hD hS (lv_sub hl [2, 3, 4, 5, 1, 6, 7, 0] rfl)
      intro S_t_0 S_p1 l2 l4 l5 l6 l7 H locs ls hf hP hD hS hl
      replace hf : b_X1_townsByLot_9 (f_X1_townsByLot_9 n9) S_t_0 S_p1 l2 l4 l5 l6 l7 = some out := hf
      unfold b_X1_townsByLot_9 at hf
      refine lv_iload hx hb dX1_townsByLot_9 (lv_at hl 6 rfl) ?_
      refine lv_iload_n hx hb dX1_townsByLot_11 rfl (lv_at hl 2 rfl) ?_
      refine lv_icmp_ge (tgt := 121) hx hb dX1_townsByLot_12 (by decide) (fun c12 => ?_) (fun c12 => ?_)
      · replace hf := it_t c12 hf
        refine lv_iload hx hb dX1_townsByLot_121 (lv_at hl 5 rfl) ?_
        have e := so_some hf
        subst e
        exact ri hx hb hK hr hlk hQ dX1_townsByLot_123 hP hD hS
      · replace hf := it_f c12 hf
        refine lv_aload_n hx hb dX1_townsByLot_15 rfl (lv_at hl 0 rfl) ?_
        refine va_get (D := D) (ci := 1) (v := .ref (a_t 0)) (C := RX1) (T := TX1) (N := 1) hx hb hts hinX1 hown hK hP 0 rfl rfl 0 (by decide) (hts (.fieldLink RX1 12 "OnlyStrangersHear$Mind" "then" "LOnlyStrangersHear$Town;") (by decide +kernel)) (fun _ h9 => h9) rfl dX1_townsByLot_16 ?_
        refine lv_aload_n hx hb dX1_townsByLot_19 rfl (lv_at hl 1 rfl) ?_
        obtain ⟨r20, u20, h20, hf⟩ := bd_some hf
        have hPc := hP.sub (ws' := gX4 (a_t 0) a_t_0 cI S_t_0 ++ gX4 o_p1 a_p1 cI S_p1) [1, 2, 3, 4, 5, 6, 7, 8, 9, 10, 11, 12, 13, 14] rfl
        have hDc := hD.sub (ws' := gX4 (a_t 0) a_t_0 cI S_t_0 ++ gX4 o_p1 a_p1 cI S_p1) [1, 2, 3, 4, 5, 6, 7, 8, 9, 10, 11, 12, 13, 14] (by decide) rfl
        refine calX (runV E0.b E0.n (As := [.ref o_p1]) (rest := []) ⟨hx, hb, hml, hown, hts⟩ (c_X4_become l D cI (a_t 0) a_t_0 o_p1 a_p1 S_t_0 S_p1 _ h20) gX1_townsByLot_X4_become rfl rfl rfl hdX4_become ⟨by decide, by decide⟩ hK hPc hDc 0 rfl rfl rfl hl.1 rfl (Nat.le_of_ble_eq_true rfl) dX1_townsByLot_20 ⟨Nat.zero_le _, Nat.zero_le _⟩) hP hD hS hA [1, 2, 3, 4, 5, 6, 7, 8, 9, 10, 11, 12, 13, 14] [0] [0, 1, 2, 3, 4, 5, 6, 7, 8, 9, 10, 11, 12, 13, 14] (wr := gX1 o_t a_t) (wn := gX1 o_t a_t ++ (gX4 (a_t 0) a_t_0 cI u20.1 ++ gX4 o_p1 a_p1 cI u20.2)) rfl rfl (by decide) (by decide) rfl (by decide) (fun H locs hP hD hS => ?_)
        have hP : va_P D vwCl (gX1 o_t a_t ++ (gX4 (a_t 0) a_t_0 cI u20.1 ++ gX4 o_p1 a_p1 cI u20.2)) H := hP
        have hD : va_D A (gX1 o_t a_t ++ (gX4 (a_t 0) a_t_0 cI u20.1 ++ gX4 o_p1 a_p1 cI u20.2)) := hD
        refine W.eq (g2 := F0 m 23 ls []) rfl ?_
        refine lv_iconst (v := (0 : Int32)) hx hb dX1_townsByLot_23 (by decide) ?_
        refine lv_istore (lv' := [(8, .int (0 : Int32)), (0, .ref o_t), (1, .ref o_p1), (2, .int l2), (4, .int l4), (5, .int l5), (6, .int l6), (7, .int l7)]) hx hb dX1_townsByLot_24 hl (by decide) rfl (fun ls hl => ?_)
        exact j26 1000 u20.1 u20.2 l2 l4 l5 l6 l7 (0 : Int32) H locs ls hf hP hD hS (lv_sub hl [1, 2, 3, 4, 5, 6, 7, 0] rfl)
  unfold f_X1_townsByLot at hf
  have hl : lv_has ls 9 [(0, .ref o_t), (1, .ref o_p1), (2, .int x2), (3, .int x3), (4, .int x4)] := hl
  obtain ⟨H, hHe⟩ : ∃ H : Heap, H = s.heap := ⟨_, rfl⟩
  obtain ⟨locs, hle⟩ : ∃ q : List Loc, q = [] := ⟨_, rfl⟩
  have hS : va_S A s.heap H locs := by rw [hHe, hle]; exact hS
  rw [← hHe] at hP
  suffices hgo : W p l e rmX1_townsByLot s m ([.ref o_t, .ref o_p1, .int x2, .int x3, .int x4] : List Value).toArray below meth c H locs 0 0 Q (F0 m 0 ls []) by rw [hHe, hle] at hgo; exact hgo
  clear hHe hle
  refine lv_iload_n hx hb dX1_townsByLot_0 rfl (lv_at hl 3 rfl) ?_
  refine lv_istore (lv' := [(5, .int x3), (0, .ref o_t), (1, .ref o_p1), (2, .int x2), (3, .int x3), (4, .int x4)]) hx hb dX1_townsByLot_1 hl (by decide) rfl (fun ls hl => ?_)
  refine lv_iconst (v := (0 : Int32)) hx hb dX1_townsByLot_3 (by decide) ?_
  refine lv_istore (lv' := [(6, .int (0 : Int32)), (5, .int x3), (0, .ref o_t), (1, .ref o_p1), (2, .int x2), (3, .int x3), (4, .int x4)]) hx hb dX1_townsByLot_4 hl (by decide) rfl (fun ls hl => ?_)
  refine lv_iconst (v := (0 : Int32)) hx hb dX1_townsByLot_6 (by decide) ?_
  refine lv_istore (lv' := [(7, .int (0 : Int32)), (6, .int (0 : Int32)), (5, .int x3), (0, .ref o_t), (1, .ref o_p1), (2, .int x2), (3, .int x3), (4, .int x4)]) hx hb dX1_townsByLot_7 hl (by decide) rfl (fun ls hl => ?_)
  exact j9 1000 S_t_0 S_p1 x2 x4 x3 (0 : Int32) (0 : Int32) H locs ls hf hP hD hS (lv_sub hl [3, 4, 5, 7, 2, 1, 0] rfl)
