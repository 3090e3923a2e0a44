abbrev rmX6_lost : Room := { frames := 5, cells := 0, slots := 0, locals := 113 }
set_option maxHeartbeats 4000000 in
set_option maxRecDepth 100000 in
theorem c_X6_lost (l : Launch) (D : va_G) (cI : ClassId) (o_t : Nat) (a_t : Nat → Nat) (a_t_0 : Nat → Nat) (a_t_6 : Nat → Nat) (a_t_6_0 : Nat → Nat) (S_t : G) (S_t_0 : G) (S_t_6_0 : G) (x1 : Int32) (out : Int32 × G × G × G) (hf : f_X6_lost S_t S_t_0 S_t_6_0 x1 = some out) : Cn EX l yX6_lost wsX6_lost rmX6_lost D cI [.ref o_t, .int x1] (gX6 o_t a_t cI S_t ++ (gX4 (a_t 0) a_t_0 cI S_t_0 ++ (gX1 (a_t 6) a_t_6 ++ gX4 (a_t_6 0) a_t_6_0 cI S_t_6_0))) (some (.int out.1)) (gX6 o_t a_t cI out.2.1 ++ (gX4 (a_t 0) a_t_0 cI out.2.2.1 ++ (gX1 (a_t 6) a_t_6 ++ gX4 (a_t_6 0) a_t_6_0 cI out.2.2.2))) := by
  refine Cn.mk (cc := cX6_lost) (maxL := 3) (ret := (some .int)) (by decide) rfl (Nat.le_of_ble_eq_true rfl) ?_
  intro p e s m below meth c A ls Q hx hb hml hown hts hK hA hP hD hS hl hr hlk hnm hE hQ
  have hown : s.vm.findClass RX6 = some m.cls := hown
  have hinX6 : ∀ w ∈ u_ws RX6 TX6 9, w ∈ wsX6_lost := by decide +kernel
  have j33 : ∀ (S_t : G) (S_t_0 : G) (S_t_6_0 : G) (s2 : Int32) (H : Heap) (locs : List Loc) (ls : Array Slot), f_X6_lost_33 S_t S_t_0 S_t_6_0 s2 = some out → va_P D vwCl (gX6 o_t a_t cI S_t ++ (gX4 (a_t 0) a_t_0 cI S_t_0 ++ (gX1 (a_t 6) a_t_6 ++ gX4 (a_t_6 0) a_t_6_0 cI S_t_6_0))) H → va_D A (gX6 o_t a_t cI S_t ++ (gX4 (a_t 0) a_t_0 cI S_t_0 ++ (gX1 (a_t 6) a_t_6 ++ gX4 (a_t_6 0) a_t_6_0 cI S_t_6_0))) → va_S A s.heap H locs → lv_has ls 3 [] → W p l e rmX6_lost s m ([.ref o_t, .int x1] : List Value).toArray below meth c H locs 0 0 Q (F0 m 33 ls [.int s2, .ref (a_t 0), .ref (a_t 6)]) := by
    intro S_t S_t_0 S_t_6_0 s2 H locs ls hf hP hD hS hl
    unfold f_X6_lost_33 at hf
    obtain ⟨r33, u33, h33, hf⟩ := bd_some hf
    have hPc := hP.sub (ws' := gX1 (a_t 6) a_t_6 ++ (gX4 (a_t_6 0) a_t_6_0 cI S_t_6_0 ++ gX4 (a_t 0) a_t_0 cI S_t_0)) [9, 10, 11, 12, 13, 14, 15, 16, 2, 3, 4, 5, 6, 7, 8] rfl
    have hDc := hD.sub (ws' := gX1 (a_t 6) a_t_6 ++ (gX4 (a_t_6 0) a_t_6_0 cI S_t_6_0 ++ gX4 (a_t 0) a_t_0 cI S_t_0)) [9, 10, 11, 12, 13, 14, 15, 16, 2, 3, 4, 5, 6, 7, 8] (by decide) rfl
    refine calX (runV EX.b (EX.n hE hS (va_free (wc := gX1 (a_t 6) a_t_6 ++ (gX4 (a_t_6 0) a_t_6_0 cI S_t_6_0 ++ gX4 (a_t 0) a_t_0 cI S_t_0)) hD hS hA [9, 10, 11, 12, 13, 14, 15, 16, 2, 3, 4, 5, 6, 7, 8] rfl)) (As := [.ref (a_t 0), .int s2]) (rest := []) ⟨hx, hb, hml, hown, hts⟩ (c_X1_firstLost l D cI (a_t 6) a_t_6 a_t_6_0 (a_t 0) a_t_0 S_t_6_0 S_t_0 s2 _ h33) gX6_lost_X1_firstLost rfl rfl rfl hdX1_firstLost ⟨by decide, by decide⟩ hK hPc hDc 0 rfl rfl rfl hl.1 rfl (Nat.le_of_ble_eq_true rfl) dX6_lost_33 ⟨Nat.zero_le _, Nat.zero_le _⟩) hP hD hS hA [9, 10, 11, 12, 13, 14, 15, 16, 2, 3, 4, 5, 6, 7, 8] [0, 1] [0, 1, 10, 11, 12, 13, 14, 15, 16, 2, 3, 4, 5, 6, 7, 8, 9] (wr := gX6 o_t a_t cI S_t) (wn := gX6 o_t a_t cI S_t ++ (gX4 (a_t 0) a_t_0 cI u33.2 ++ (gX1 (a_t 6) a_t_6 ++ gX4 (a_t_6 0) a_t_6_0 cI u33.1))) rfl rfl (by decide) (by decide) rfl (by decide) (fun H locs hP hD hS => ?_)
    have hP : va_P D vwCl (gX6 o_t a_t cI S_t ++ (gX4 (a_t 0) a_t_0 cI u33.2 ++ (gX1 (a_t 6) a_t_6 ++ gX4 (a_t_6 0) a_t_6_0 cI u33.1))) H := hP
    have hD : va_D A (gX6 o_t a_t cI S_t ++ (gX4 (a_t 0) a_t_0 cI u33.2 ++ (gX1 (a_t 6) a_t_6 ++ gX4 (a_t_6 0) a_t_6_0 cI u33.1))) := hD
    refine W.eq (g2 := F0 m 36 ls [.int r33]) rfl ?_
    have e := so_some hf
    subst e
    exact ri hx hb hK hr hlk hQ dX6_lost_36 hP hD hS
  unfold f_X6_lost at hf
  have hl : lv_has ls 3 [(0, .ref o_t), (1, .int x1)] := hl
  obtain ⟨H, hHe⟩ : ∃ H : Heap, H = s.heap := ⟨_, rfl⟩
  obtain ⟨locs, hle⟩ : ∃ q : List Loc, q = [] := ⟨_, rfl⟩
  have hS : va_S A s.heap H locs := by rw [hHe, hle]; exact hS
  rw [← hHe] at hP
  suffices hgo : W p l e rmX6_lost s m ([.ref o_t, .int x1] : List Value).toArray below meth c H locs 0 0 Q (F0 m 0 ls []) by rw [hHe, hle] at hgo; exact hgo
  clear hHe hle
  refine lv_iload_n hx hb dX6_lost_0 rfl (lv_at hl 1 rfl) ?_
  refine lv_iconst (v := (2 : Int32)) hx hb dX6_lost_1 (by decide) ?_
  obtain ⟨r2, u2, h2, hf⟩ := bd_some hf
  have hPc : va_P D vwCl [] H := hP.sub (ws' := []) [] rfl
  have hDc : va_D A [] := hD.sub (ws' := []) [] (by decide) rfl
  refine calXe (runS E0.b E0.n (As := [.int x1, .int (2 : Int32)]) (rest := []) ⟨hx, hb, hml, hown, hts⟩ (c_X6_choice l D cI x1 (2 : Int32) _ h2) gX6_lost_X6_choice rfl rfl rfl hdX6_choice ⟨by decide, by decide⟩ hK hPc hDc rfl hl.1 rfl (Nat.le_of_ble_eq_true rfl) dX6_lost_2 ⟨Nat.zero_le _, Nat.zero_le _⟩) hP hD hS hA (fun H locs hP hD hS => ?_)
  have hP : va_P D vwCl (gX6 o_t a_t cI S_t ++ (gX4 (a_t 0) a_t_0 cI S_t_0 ++ (gX1 (a_t 6) a_t_6 ++ gX4 (a_t_6 0) a_t_6_0 cI S_t_6_0))) H := hP
  have hD : va_D A (gX6 o_t a_t cI S_t ++ (gX4 (a_t 0) a_t_0 cI S_t_0 ++ (gX1 (a_t 6) a_t_6 ++ gX4 (a_t_6 0) a_t_6_0 cI S_t_6_0))) := hD
  refine W.eq (g2 := F0 m 5 ls [.int r2]) rfl ?_
  refine lv_istore_n (lv' := [(2, .int r2), (0, .ref o_t), (1, .int x1)]) hx hb dX6_lost_5 rfl hl (by decide) rfl (fun ls hl => ?_)
  refine lv_iload_n hx hb dX6_lost_6 rfl (lv_at hl 0 rfl) ?_
  refine lv_if_eq (tgt := 16) hx hb dX6_lost_7 (by decide) (fun c7 => ?_) (fun c7 => ?_)
  · replace hf := it_t c7 hf
    refine lv_aload_n hx hb dX6_lost_16 rfl (lv_at hl 1 rfl) ?_
    refine va_get (D := D) (ci := 6) (v := .ref (a_t 6)) (C := RX6) (T := TX6) (N := 9) hx hb hts hinX6 hown hK hP 0 rfl rfl 6 (by decide) (hts (.fieldLink RX6 43 "OnlyStrangersHear" "mind" "LOnlyStrangersHear$Mind;") (by decide +kernel)) (fun _ h9 => h9) rfl dX6_lost_17 ?_
    refine lv_aload_n hx hb dX6_lost_20 rfl (lv_at hl 1 rfl) ?_
    refine va_get (D := D) (ci := 6) (v := .ref (a_t 0)) (C := RX6) (T := TX6) (N := 9) hx hb hts hinX6 hown hK hP 0 rfl rfl 0 (by decide) (hts (.fieldLink RX6 10 "OnlyStrangersHear" "now" "LOnlyStrangersHear$Town;") (by decide +kernel)) (fun _ h9 => h9) rfl dX6_lost_21 ?_
    refine lv_iload_n hx hb dX6_lost_24 rfl (lv_at hl 2 rfl) ?_
    refine lv_if_ne (tgt := 32) hx hb dX6_lost_25 (by decide) (fun c25 => ?_) (fun c25 => ?_)
    · replace hf := it_f c25 hf
      refine lv_iconst (v := (0 : Int32)) hx hb dX6_lost_32 (by decide) ?_
      exact j33 S_t S_t_0 S_t_6_0 (0 : Int32) H locs ls hf hP hD hS (lv_sub hl [] rfl)
    · replace hf := it_t c25 hf
      refine lv_iconst (v := (1 : Int32)) hx hb dX6_lost_28 (by decide) ?_
      refine lv_goto (tgt := 33) hx hb dX6_lost_29 (by decide) ?_
      exact j33 S_t S_t_0 S_t_6_0 (1 : Int32) H locs ls hf hP hD hS (lv_sub hl [] rfl)
  · replace hf := it_f c7 hf
    refine lv_aload_n hx hb dX6_lost_10 rfl (lv_at hl 1 rfl) ?_
    refine lv_iload_n hx hb dX6_lost_11 rfl (lv_at hl 0 rfl) ?_
    obtain ⟨r12, u12, h12, hf⟩ := bd_some hf
    have hPc := hP.sub (ws' := gX6 o_t a_t cI S_t) [0, 1] rfl
    have hDc := hD.sub (ws' := gX6 o_t a_t cI S_t) [0, 1] (by decide) rfl
    refine calX (runV E0.b E0.n (As := [.int r2]) (rest := []) ⟨hx, hb, hml, hown, hts⟩ (c_X6_refused l D cI o_t a_t S_t r2 _ h12) gX6_lost_X6_refused rfl rfl rfl hdX6_refused ⟨by decide, by decide⟩ hK hPc hDc 0 rfl rfl rfl hl.1 rfl (Nat.le_of_ble_eq_true rfl) dX6_lost_12 ⟨Nat.zero_le _, Nat.zero_le _⟩) hP hD hS hA [0, 1] [2, 3, 4, 5, 6, 7, 8, 9, 10, 11, 12, 13, 14, 15, 16] [15, 16, 0, 1, 2, 3, 4, 5, 6, 7, 8, 9, 10, 11, 12, 13, 14] (wr := gX4 (a_t 0) a_t_0 cI S_t_0 ++ (gX1 (a_t 6) a_t_6 ++ gX4 (a_t_6 0) a_t_6_0 cI S_t_6_0)) (wn := gX6 o_t a_t cI u12 ++ (gX4 (a_t 0) a_t_0 cI S_t_0 ++ (gX1 (a_t 6) a_t_6 ++ gX4 (a_t_6 0) a_t_6_0 cI S_t_6_0))) rfl rfl (by decide) (by decide) rfl (by decide) (fun H locs hP hD hS => ?_)
    have hP : va_P D vwCl (gX6 o_t a_t cI u12 ++ (gX4 (a_t 0) a_t_0 cI S_t_0 ++ (gX1 (a_t 6) a_t_6 ++ gX4 (a_t_6 0) a_t_6_0 cI S_t_6_0))) H := hP
    have hD : va_D A (gX6 o_t a_t cI u12 ++ (gX4 (a_t 0) a_t_0 cI S_t_0 ++ (gX1 (a_t 6) a_t_6 ++ gX4 (a_t_6 0) a_t_6_0 cI S_t_6_0))) := hD
    refine W.eq (g2 := F0 m 15 ls [.int r12]) rfl ?_
    have e := so_some hf
    subst e
    exact ri hx hb hK hr hlk hQ dX6_lost_15 hP hD hS
abbrev rmX6_rings : Room := { frames := 5, cells := 0, slots := 0, locals := 117 }
set_option maxHeartbeats 4000000 in
set_option maxRecDepth 100000 in
theorem c_X6_rings (l : Launch) (D : va_G) (cI : ClassId) (o_t : Nat) (a_t : Nat → Nat) (a_t_0 : Nat → Nat) (a_t_6 : Nat → Nat) (a_t_6_0 : Nat → Nat) (S_t : G) (S_t_0 : G) (S_t_6_0 : G) (x1 : Int32) (x2 : Int32) (x3 : Int32) (out : Int32 × G × G × G) (hf : f_X6_rings S_t S_t_0 S_t_6_0 x1 x2 x3 = some out) : Cn E0 l yX6_rings wsX6_rings rmX6_rings D cI [.ref o_t, .int x1, .int x2, .int x3] (gX6 o_t a_t cI S_t ++ (gX4 (a_t 0) a_t_0 cI S_t_0 ++ (gX1 (a_t 6) a_t_6 ++ gX4 (a_t_6 0) a_t_6_0 cI S_t_6_0))) (some (.int out.1)) (gX6 o_t a_t cI out.2.1 ++ (gX4 (a_t 0) a_t_0 cI out.2.2.1 ++ (gX1 (a_t 6) a_t_6 ++ gX4 (a_t_6 0) a_t_6_0 cI out.2.2.2))) := by
  refine Cn.mk (cc := cX6_rings) (maxL := 5) (ret := (some .int)) (by decide) rfl (Nat.le_of_ble_eq_true rfl) ?_
  intro p e s m below meth c A ls Q hx hb hml hown hts hK hA hP hD hS hl hr hlk hnm hE hQ
  have hown : s.vm.findClass RX6 = some m.cls := hown
  have hinX6 : ∀ w ∈ u_ws RX6 TX6 9, w ∈ wsX6_rings := by decide +kernel
  unfold f_X6_rings at hf
  have hl : lv_has ls 5 [(0, .ref o_t), (1, .int x1), (2, .int x2), (3, .int x3)] := hl
  obtain ⟨H, hHe⟩ : ∃ H : Heap, H = s.heap := ⟨_, rfl⟩
  obtain ⟨locs, hle⟩ : ∃ q : List Loc, q = [] := ⟨_, rfl⟩
  have hS : va_S A s.heap H locs := by rw [hHe, hle]; exact hS
  rw [← hHe] at hP
  suffices hgo : W p l e rmX6_rings s m ([.ref o_t, .int x1, .int x2, .int x3] : List Value).toArray below meth c H locs 0 0 Q (F0 m 0 ls []) by rw [hHe, hle] at hgo; exact hgo
  clear hHe hle
  refine lv_aload_n hx hb dX6_rings_0 rfl (lv_at hl 0 rfl) ?_
  refine lv_iload_n hx hb dX6_rings_1 rfl (lv_at hl 1 rfl) ?_
  obtain ⟨r2, u2, h2, hf⟩ := bd_some hf
  have hPc := hP.sub (ws' := gX6 o_t a_t cI S_t ++ gX4 (a_t 0) a_t_0 cI S_t_0) [0, 1, 2, 3, 4, 5, 6, 7, 8] rfl
  have hDc := hD.sub (ws' := gX6 o_t a_t cI S_t ++ gX4 (a_t 0) a_t_0 cI S_t_0) [0, 1, 2, 3, 4, 5, 6, 7, 8] (by decide) rfl
  refine calX (runV E0.b E0.n (As := [.int x1]) (rest := []) ⟨hx, hb, hml, hown, hts⟩ (c_X6_noBell l D cI o_t a_t a_t_0 S_t S_t_0 x1 _ h2) gX6_rings_X6_noBell rfl rfl rfl hdX6_noBell ⟨by decide, by decide⟩ hK hPc hDc 0 rfl rfl rfl hl.1 rfl (Nat.le_of_ble_eq_true rfl) dX6_rings_2 ⟨Nat.zero_le _, Nat.zero_le _⟩) hP hD hS hA [0, 1, 2, 3, 4, 5, 6, 7, 8] [9, 10, 11, 12, 13, 14, 15, 16] [8, 9, 10, 11, 12, 13, 14, 15, 16, 0, 1, 2, 3, 4, 5, 6, 7] (wr := gX1 (a_t 6) a_t_6 ++ gX4 (a_t_6 0) a_t_6_0 cI S_t_6_0) (wn := gX6 o_t a_t cI u2.1 ++ (gX4 (a_t 0) a_t_0 cI u2.2 ++ (gX1 (a_t 6) a_t_6 ++ gX4 (a_t_6 0) a_t_6_0 cI S_t_6_0))) rfl rfl (by decide) (by decide) rfl (by decide) (fun H locs hP hD hS => ?_)
  have hP : va_P D vwCl (gX6 o_t a_t cI u2.1 ++ (gX4 (a_t 0) a_t_0 cI u2.2 ++ (gX1 (a_t 6) a_t_6 ++ gX4 (a_t_6 0) a_t_6_0 cI S_t_6_0))) H := hP
  have hD : va_D A (gX6 o_t a_t cI u2.1 ++ (gX4 (a_t 0) a_t_0 cI u2.2 ++ (gX1 (a_t 6) a_t_6 ++ gX4 (a_t_6 0) a_t_6_0 cI S_t_6_0))) := hD
  refine W.eq (g2 := F0 m 5 ls [.int r2]) rfl ?_
  refine lv_iload_n hx hb dX6_rings_5 rfl (lv_at hl 2 rfl) ?_
  refine lv_iconst (v := (1 : Int32)) hx hb dX6_rings_6 (by decide) ?_
  refine lv_bipush (v := (40 : Int32)) hx hb dX6_rings_7 (by decide) ?_
  obtain ⟨r9, u9, h9, hf⟩ := bd_some hf
  have hPc : va_P D vwCl [] H := hP.sub (ws' := []) [] rfl
  have hDc : va_D A [] := hD.sub (ws' := []) [] (by decide) rfl
  refine calXe (runS E0.b E0.n (As := [.int x2, .int (1 : Int32), .int (40 : Int32)]) (rest := [.int r2]) ⟨hx, hb, hml, hown, hts⟩ (c_X6_range l D cI x2 (1 : Int32) (40 : Int32) _ h9) gX6_rings_X6_range rfl rfl rfl hdX6_range ⟨by decide, by decide⟩ hK hPc hDc rfl hl.1 rfl (Nat.le_of_ble_eq_true rfl) dX6_rings_9 ⟨Nat.zero_le _, Nat.zero_le _⟩) hP hD hS hA (fun H locs hP hD hS => ?_)
  have hP : va_P D vwCl (gX6 o_t a_t cI u2.1 ++ (gX4 (a_t 0) a_t_0 cI u2.2 ++ (gX1 (a_t 6) a_t_6 ++ gX4 (a_t_6 0) a_t_6_0 cI S_t_6_0))) H := hP
  have hD : va_D A (gX6 o_t a_t cI u2.1 ++ (gX4 (a_t 0) a_t_0 cI u2.2 ++ (gX1 (a_t 6) a_t_6 ++ gX4 (a_t_6 0) a_t_6_0 cI S_t_6_0))) := hD
  refine W.eq (g2 := F0 m 12 ls [.int r9, .int r2]) rfl ?_
  obtain ⟨r12, u12, h12, hf⟩ := bd_some hf
  have hPc : va_P D vwCl [] H := hP.sub (ws' := []) [] rfl
  have hDc : va_D A [] := hD.sub (ws' := []) [] (by decide) rfl
  refine calXe (runS E0.b E0.n (As := [.int r2, .int r9]) (rest := []) ⟨hx, hb, hml, hown, hts⟩ (c_X6_first l D cI r2 r9 _ h12) gX6_rings_X6_first rfl rfl rfl hdX6_first ⟨by decide, by decide⟩ hK hPc hDc rfl hl.1 rfl (Nat.le_of_ble_eq_true rfl) dX6_rings_12 ⟨Nat.zero_le _, Nat.zero_le _⟩) hP hD hS hA (fun H locs hP hD hS => ?_)
  have hP : va_P D vwCl (gX6 o_t a_t cI u2.1 ++ (gX4 (a_t 0) a_t_0 cI u2.2 ++ (gX1 (a_t 6) a_t_6 ++ gX4 (a_t_6 0) a_t_6_0 cI S_t_6_0))) H := hP
  have hD : va_D A (gX6 o_t a_t cI u2.1 ++ (gX4 (a_t 0) a_t_0 cI u2.2 ++ (gX1 (a_t 6) a_t_6 ++ gX4 (a_t_6 0) a_t_6_0 cI S_t_6_0))) := hD
  refine W.eq (g2 := F0 m 15 ls [.int r12]) rfl ?_
  refine lv_istore (lv' := [(4, .int r12), (0, .ref o_t), (1, .int x1), (2, .int x2), (3, .int x3)]) hx hb dX6_rings_15 hl (by decide) rfl (fun ls hl => ?_)
  refine lv_iload hx hb dX6_rings_17 (lv_at hl 0 rfl) ?_
  refine lv_iload_n hx hb dX6_rings_19 rfl (lv_at hl 4 rfl) ?_
  refine lv_iconst (v := (2 : Int32)) hx hb dX6_rings_20 (by decide) ?_
  obtain ⟨r21, u21, h21, hf⟩ := bd_some hf
  have hPc : va_P D vwCl [] H := hP.sub (ws' := []) [] rfl
  have hDc : va_D A [] := hD.sub (ws' := []) [] (by decide) rfl
  refine calXe (runS E0.b E0.n (As := [.int x3, .int (2 : Int32)]) (rest := [.int r12]) ⟨hx, hb, hml, hown, hts⟩ (c_X6_choice l D cI x3 (2 : Int32) _ h21) gX6_rings_X6_choice rfl rfl rfl hdX6_choice ⟨by decide, by decide⟩ hK hPc hDc rfl hl.1 rfl (Nat.le_of_ble_eq_true rfl) dX6_rings_21 ⟨Nat.zero_le _, Nat.zero_le _⟩) hP hD hS hA (fun H locs hP hD hS => ?_)
  have hP : va_P D vwCl (gX6 o_t a_t cI u2.1 ++ (gX4 (a_t 0) a_t_0 cI u2.2 ++ (gX1 (a_t 6) a_t_6 ++ gX4 (a_t_6 0) a_t_6_0 cI S_t_6_0))) H := hP
  have hD : va_D A (gX6 o_t a_t cI u2.1 ++ (gX4 (a_t 0) a_t_0 cI u2.2 ++ (gX1 (a_t 6) a_t_6 ++ gX4 (a_t_6 0) a_t_6_0 cI S_t_6_0))) := hD
  refine W.eq (g2 := F0 m 24 ls [.int r21, .int r12]) rfl ?_
  obtain ⟨r24, u24, h24, hf⟩ := bd_some hf
  have hPc : va_P D vwCl [] H := hP.sub (ws' := []) [] rfl
  have hDc : va_D A [] := hD.sub (ws' := []) [] (by decide) rfl
  refine calXe (runS E0.b E0.n (As := [.int r12, .int r21]) (rest := []) ⟨hx, hb, hml, hown, hts⟩ (c_X6_first l D cI r12 r21 _ h24) gX6_rings_X6_first rfl rfl rfl hdX6_first ⟨by decide, by decide⟩ hK hPc hDc rfl hl.1 rfl (Nat.le_of_ble_eq_true rfl) dX6_rings_24 ⟨Nat.zero_le _, Nat.zero_le _⟩) hP hD hS hA (fun H locs hP hD hS => ?_)
  have hP : va_P D vwCl (gX6 o_t a_t cI u2.1 ++ (gX4 (a_t 0) a_t_0 cI u2.2 ++ (gX1 (a_t 6) a_t_6 ++ gX4 (a_t_6 0) a_t_6_0 cI S_t_6_0))) H := hP
  have hD : va_D A (gX6 o_t a_t cI u2.1 ++ (gX4 (a_t 0) a_t_0 cI u2.2 ++ (gX1 (a_t 6) a_t_6 ++ gX4 (a_t_6 0) a_t_6_0 cI S_t_6_0))) := hD
  refine W.eq (g2 := F0 m 27 ls [.int r24]) rfl ?_
  refine lv_istore (lv' := [(4, .int r24), (0, .ref o_t), (1, .int x1), (2, .int x2), (3, .int x3)]) hx hb dX6_rings_27 hl (by decide) rfl (fun ls hl => ?_)
  refine lv_iload hx hb dX6_rings_29 (lv_at hl 0 rfl) ?_
  refine lv_if_eq (tgt := 41) hx hb dX6_rings_31 (by decide) (fun c31 => ?_) (fun c31 => ?_)
  · replace hf := it_t c31 hf
    refine lv_iload_n hx hb dX6_rings_41 rfl (lv_at hl 4 rfl) ?_
    refine lv_if_ne (tgt := 61) hx hb dX6_rings_42 (by decide) (fun c42 => ?_) (fun c42 => ?_)
    · replace hf := it_f c42 hf
      refine lv_aload_n hx hb dX6_rings_61 rfl (lv_at hl 1 rfl) ?_
      refine va_get (D := D) (ci := 6) (v := .ref (a_t 6)) (C := RX6) (T := TX6) (N := 9) hx hb hts hinX6 hown hK hP 0 rfl rfl 6 (by decide) (hts (.fieldLink RX6 43 "OnlyStrangersHear" "mind" "LOnlyStrangersHear$Mind;") (by decide +kernel)) (fun _ h9 => h9) rfl dX6_rings_62 ?_
      refine lv_aload_n hx hb dX6_rings_65 rfl (lv_at hl 1 rfl) ?_
      refine va_get (D := D) (ci := 6) (v := .ref (a_t 0)) (C := RX6) (T := TX6) (N := 9) hx hb hts hinX6 hown hK hP 0 rfl rfl 0 (by decide) (hts (.fieldLink RX6 10 "OnlyStrangersHear" "now" "LOnlyStrangersHear$Town;") (by decide +kernel)) (fun _ h9 => h9) rfl dX6_rings_66 ?_
      refine lv_iload_n hx hb dX6_rings_69 rfl (lv_at hl 2 rfl) ?_
      refine lv_iload_n hx hb dX6_rings_70 rfl (lv_at hl 3 rfl) ?_
      obtain ⟨r71, u71, h71, hf⟩ := bd_some hf
      have hPc := hP.sub (ws' := gX1 (a_t 6) a_t_6 ++ (gX4 (a_t_6 0) a_t_6_0 cI S_t_6_0 ++ gX4 (a_t 0) a_t_0 cI u2.2)) [9, 10, 11, 12, 13, 14, 15, 16, 2, 3, 4, 5, 6, 7, 8] rfl
      have hDc := hD.sub (ws' := gX1 (a_t 6) a_t_6 ++ (gX4 (a_t_6 0) a_t_6_0 cI S_t_6_0 ++ gX4 (a_t 0) a_t_0 cI u2.2)) [9, 10, 11, 12, 13, 14, 15, 16, 2, 3, 4, 5, 6, 7, 8] (by decide) rfl
      refine calX (runV E0.b E0.n (As := [.ref (a_t 0), .int x1, .int x2]) (rest := []) ⟨hx, hb, hml, hown, hts⟩ (c_X1_unheardDays l D cI (a_t 6) a_t_6 a_t_6_0 (a_t 0) a_t_0 S_t_6_0 u2.2 x1 x2 _ h71) gX6_rings_X1_unheardDays rfl rfl rfl hdX1_unheardDays ⟨by decide, by decide⟩ hK hPc hDc 0 rfl rfl rfl hl.1 rfl (Nat.le_of_ble_eq_true rfl) dX6_rings_71 ⟨Nat.zero_le _, Nat.zero_le _⟩) hP hD hS hA [9, 10, 11, 12, 13, 14, 15, 16, 2, 3, 4, 5, 6, 7, 8] [0, 1] [0, 1, 10, 11, 12, 13, 14, 15, 16, 2, 3, 4, 5, 6, 7, 8, 9] (wr := gX6 o_t a_t cI u2.1) (wn := gX6 o_t a_t cI u2.1 ++ (gX4 (a_t 0) a_t_0 cI u71.2 ++ (gX1 (a_t 6) a_t_6 ++ gX4 (a_t_6 0) a_t_6_0 cI u71.1))) rfl rfl (by decide) (by decide) rfl (by decide) (fun H locs hP hD hS => ?_)
      have hP : va_P D vwCl (gX6 o_t a_t cI u2.1 ++ (gX4 (a_t 0) a_t_0 cI u71.2 ++ (gX1 (a_t 6) a_t_6 ++ gX4 (a_t_6 0) a_t_6_0 cI u71.1))) H := hP
      have hD : va_D A (gX6 o_t a_t cI u2.1 ++ (gX4 (a_t 0) a_t_0 cI u71.2 ++ (gX1 (a_t 6) a_t_6 ++ gX4 (a_t_6 0) a_t_6_0 cI u71.1))) := hD
      refine W.eq (g2 := F0 m 74 ls [.int r71]) rfl ?_
      have e := so_some hf
      subst e
      exact ri hx hb hK hr hlk hQ dX6_rings_74 hP hD hS
    · replace hf := it_t c42 hf
      refine lv_aload_n hx hb dX6_rings_45 rfl (lv_at hl 1 rfl) ?_
      refine va_get (D := D) (ci := 6) (v := .ref (a_t 6)) (C := RX6) (T := TX6) (N := 9) hx hb hts hinX6 hown hK hP 0 rfl rfl 6 (by decide) (hts (.fieldLink RX6 43 "OnlyStrangersHear" "mind" "LOnlyStrangersHear$Mind;") (by decide +kernel)) (fun _ h9 => h9) rfl dX6_rings_46 ?_
      refine lv_aload_n hx hb dX6_rings_49 rfl (lv_at hl 1 rfl) ?_
      refine va_get (D := D) (ci := 6) (v := .ref (a_t 0)) (C := RX6) (T := TX6) (N := 9) hx hb hts hinX6 hown hK hP 0 rfl rfl 0 (by decide) (hts (.fieldLink RX6 10 "OnlyStrangersHear" "now" "LOnlyStrangersHear$Town;") (by decide +kernel)) (fun _ h9 => h9) rfl dX6_rings_50 ?_
      refine lv_iload_n hx hb dX6_rings_53 rfl (lv_at hl 2 rfl) ?_
      refine lv_iload_n hx hb dX6_rings_54 rfl (lv_at hl 3 rfl) ?_
      obtain ⟨r55, u55, h55, hf⟩ := bd_some hf
      have hPc := hP.sub (ws' := gX1 (a_t 6) a_t_6 ++ (gX4 (a_t_6 0) a_t_6_0 cI S_t_6_0 ++ gX4 (a_t 0) a_t_0 cI u2.2)) [9, 10, 11, 12, 13, 14, 15, 16, 2, 3, 4, 5, 6, 7, 8] rfl
      have hDc := hD.sub (ws' := gX1 (a_t 6) a_t_6 ++ (gX4 (a_t_6 0) a_t_6_0 cI S_t_6_0 ++ gX4 (a_t 0) a_t_0 cI u2.2)) [9, 10, 11, 12, 13, 14, 15, 16, 2, 3, 4, 5, 6, 7, 8] (by decide) rfl
      refine calX (runV E0.b E0.n (As := [.ref (a_t 0), .int x1, .int x2]) (rest := []) ⟨hx, hb, hml, hown, hts⟩ (c_X1_rightDays l D cI (a_t 6) a_t_6 a_t_6_0 (a_t 0) a_t_0 S_t_6_0 u2.2 x1 x2 _ h55) gX6_rings_X1_rightDays rfl rfl rfl hdX1_rightDays ⟨by decide, by decide⟩ hK hPc hDc 0 rfl rfl rfl hl.1 rfl (Nat.le_of_ble_eq_true rfl) dX6_rings_55 ⟨Nat.zero_le _, Nat.zero_le _⟩) hP hD hS hA [9, 10, 11, 12, 13, 14, 15, 16, 2, 3, 4, 5, 6, 7, 8] [0, 1] [0, 1, 10, 11, 12, 13, 14, 15, 16, 2, 3, 4, 5, 6, 7, 8, 9] (wr := gX6 o_t a_t cI u2.1) (wn := gX6 o_t a_t cI u2.1 ++ (gX4 (a_t 0) a_t_0 cI u55.2 ++ (gX1 (a_t 6) a_t_6 ++ gX4 (a_t_6 0) a_t_6_0 cI u55.1))) rfl rfl (by decide) (by decide) rfl (by decide) (fun H locs hP hD hS => ?_)
      have hP : va_P D vwCl (gX6 o_t a_t cI u2.1 ++ (gX4 (a_t 0) a_t_0 cI u55.2 ++ (gX1 (a_t 6) a_t_6 ++ gX4 (a_t_6 0) a_t_6_0 cI u55.1))) H := hP
      have hD : va_D A (gX6 o_t a_t cI u2.1 ++ (gX4 (a_t 0) a_t_0 cI u55.2 ++ (gX1 (a_t 6) a_t_6 ++ gX4 (a_t_6 0) a_t_6_0 cI u55.1))) := hD
      refine W.eq (g2 := F0 m 58 ls [.int r55]) rfl ?_
      refine lv_goto (tgt := 74) hx hb dX6_rings_58 (by decide) ?_
      have e := so_some hf
      subst e
      exact ri hx hb hK hr hlk hQ dX6_rings_74 hP hD hS
  · replace hf := it_f c31 hf
    refine lv_aload_n hx hb dX6_rings_34 rfl (lv_at hl 1 rfl) ?_
    refine lv_iload hx hb dX6_rings_35 (lv_at hl 0 rfl) ?_
    obtain ⟨r37, u37, h37, hf⟩ := bd_some hf
    have hPc := hP.sub (ws' := gX6 o_t a_t cI u2.1) [0, 1] rfl
    have hDc := hD.sub (ws' := gX6 o_t a_t cI u2.1) [0, 1] (by decide) rfl
    refine calX (runV E0.b E0.n (As := [.int r24]) (rest := []) ⟨hx, hb, hml, hown, hts⟩ (c_X6_refused l D cI o_t a_t u2.1 r24 _ h37) gX6_rings_X6_refused rfl rfl rfl hdX6_refused ⟨by decide, by decide⟩ hK hPc hDc 0 rfl rfl rfl hl.1 rfl (Nat.le_of_ble_eq_true rfl) dX6_rings_37 ⟨Nat.zero_le _, Nat.zero_le _⟩) hP hD hS hA [0, 1] [2, 3, 4, 5, 6, 7, 8, 9, 10, 11, 12, 13, 14, 15, 16] [15, 16, 0, 1, 2, 3, 4, 5, 6, 7, 8, 9, 10, 11, 12, 13, 14] (wr := gX4 (a_t 0) a_t_0 cI u2.2 ++ (gX1 (a_t 6) a_t_6 ++ gX4 (a_t_6 0) a_t_6_0 cI S_t_6_0)) (wn := gX6 o_t a_t cI u37 ++ (gX4 (a_t 0) a_t_0 cI u2.2 ++ (gX1 (a_t 6) a_t_6 ++ gX4 (a_t_6 0) a_t_6_0 cI S_t_6_0))) rfl rfl (by decide) (by decide) rfl (by decide) (fun H locs hP hD hS => ?_)
    have hP : va_P D vwCl (gX6 o_t a_t cI u37 ++ (gX4 (a_t 0) a_t_0 cI u2.2 ++ (gX1 (a_t 6) a_t_6 ++ gX4 (a_t_6 0) a_t_6_0 cI S_t_6_0))) H := hP
    have hD : va_D A (gX6 o_t a_t cI u37 ++ (gX4 (a_t 0) a_t_0 cI u2.2 ++ (gX1 (a_t 6) a_t_6 ++ gX4 (a_t_6 0) a_t_6_0 cI S_t_6_0))) := hD
    refine W.eq (g2 := F0 m 40 ls [.int r37]) rfl ?_
    have e := so_some hf
    subst e
    exact ri hx hb hK hr hlk hQ dX6_rings_40 hP hD hS
abbrev rmX6_send : Room := { frames := 5, cells := 0, slots := 0, locals := 122 }
set_option maxHeartbeats 4000000 in
set_option maxRecDepth 100000 in
theorem c_X6_send (l : Launch) (D : va_G) (cI : ClassId) (o_t : Nat) (a_t : Nat → Nat) (a_t_0 : Nat → Nat) (a_t_7 : Nat → Nat) (a_t_7_0 : Nat → Nat) (S_t : G) (S_t_0 : G) (S_t_7 : G) (S_t_7_0 : G) (x1 : Int32) (x2 : Int32) (x3 : Int32) (out : Int32 × G × G × G × G) (hf : f_X6_send S_t S_t_0 S_t_7 S_t_7_0 x1 x2 x3 = some out) : Cn E0 l yX6_send wsX6_send rmX6_send D cI [.ref o_t, .int x1, .int x2, .int x3] (gX6 o_t a_t cI S_t ++ (gX4 (a_t 0) a_t_0 cI S_t_0 ++ (gX3 (a_t 7) a_t_7 cI S_t_7 ++ gX4 (a_t_7 0) a_t_7_0 cI S_t_7_0))) (some (.int out.1)) (gX6 o_t a_t cI out.2.1 ++ (gX4 (a_t 0) a_t_0 cI out.2.2.1 ++ (gX3 (a_t 7) a_t_7 cI out.2.2.2.1 ++ gX4 (a_t_7 0) a_t_7_0 cI out.2.2.2.2))) := by
  refine Cn.mk (cc := cX6_send) (maxL := 5) (ret := (some .int)) (by decide) rfl (Nat.le_of_ble_eq_true rfl) ?_
  intro p e s m below meth c A ls Q hx hb hml hown hts hK hA hP hD hS hl hr hlk hnm hE hQ
  have hown : s.vm.findClass RX6 = some m.cls := hown
  have hinX6 : ∀ w ∈ u_ws RX6 TX6 9, w ∈ wsX6_send := by decide +kernel
  unfold f_X6_send at hf
  have hl : lv_has ls 5 [(0, .ref o_t), (1, .int x1), (2, .int x2), (3, .int x3)] := hl
  obtain ⟨H, hHe⟩ : ∃ H : Heap, H = s.heap := ⟨_, rfl⟩
  obtain ⟨locs, hle⟩ : ∃ q : List Loc, q = [] := ⟨_, rfl⟩
  have hS : va_S A s.heap H locs := by rw [hHe, hle]; exact hS
  rw [← hHe] at hP
  suffices hgo : W p l e rmX6_send s m ([.ref o_t, .int x1, .int x2, .int x3] : List Value).toArray below meth c H locs 0 0 Q (F0 m 0 ls []) by rw [hHe, hle] at hgo; exact hgo
  clear hHe hle
  refine lv_aload_n hx hb dX6_send_0 rfl (lv_at hl 0 rfl) ?_
  refine lv_iload_n hx hb dX6_send_1 rfl (lv_at hl 1 rfl) ?_
  obtain ⟨r2, u2, h2, hf⟩ := bd_some hf
  have hPc := hP.sub (ws' := gX6 o_t a_t cI S_t ++ gX4 (a_t 0) a_t_0 cI S_t_0) [0, 1, 2, 3, 4, 5, 6, 7, 8] rfl
  have hDc := hD.sub (ws' := gX6 o_t a_t cI S_t ++ gX4 (a_t 0) a_t_0 cI S_t_0) [0, 1, 2, 3, 4, 5, 6, 7, 8] (by decide) rfl
  refine calX (runV E0.b E0.n (As := [.int x1]) (rest := []) ⟨hx, hb, hml, hown, hts⟩ (c_X6_noBell l D cI o_t a_t a_t_0 S_t S_t_0 x1 _ h2) gX6_send_X6_noBell rfl rfl rfl hdX6_noBell ⟨by decide, by decide⟩ hK hPc hDc 0 rfl rfl rfl hl.1 rfl (Nat.le_of_ble_eq_true rfl) dX6_send_2 ⟨Nat.zero_le _, Nat.zero_le _⟩) hP hD hS hA [0, 1, 2, 3, 4, 5, 6, 7, 8] [9, 10, 11, 12, 13, 14, 15, 16, 17] [9, 10, 11, 12, 13, 14, 15, 16, 17, 0, 1, 2, 3, 4, 5, 6, 7, 8] (wr := gX3 (a_t 7) a_t_7 cI S_t_7 ++ gX4 (a_t_7 0) a_t_7_0 cI S_t_7_0) (wn := gX6 o_t a_t cI u2.1 ++ (gX4 (a_t 0) a_t_0 cI u2.2 ++ (gX3 (a_t 7) a_t_7 cI S_t_7 ++ gX4 (a_t_7 0) a_t_7_0 cI S_t_7_0))) rfl rfl (by decide) (by decide) rfl (by decide) (fun H locs hP hD hS => ?_)
  have hP : va_P D vwCl (gX6 o_t a_t cI u2.1 ++ (gX4 (a_t 0) a_t_0 cI u2.2 ++ (gX3 (a_t 7) a_t_7 cI S_t_7 ++ gX4 (a_t_7 0) a_t_7_0 cI S_t_7_0))) H := hP
  have hD : va_D A (gX6 o_t a_t cI u2.1 ++ (gX4 (a_t 0) a_t_0 cI u2.2 ++ (gX3 (a_t 7) a_t_7 cI S_t_7 ++ gX4 (a_t_7 0) a_t_7_0 cI S_t_7_0))) := hD
  refine W.eq (g2 := F0 m 5 ls [.int r2]) rfl ?_
  refine lv_iload_n hx hb dX6_send_5 rfl (lv_at hl 2 rfl) ?_
  refine lv_bipush (v := (9 : Int32)) hx hb dX6_send_6 (by decide) ?_
  refine lv_iload_n hx hb dX6_send_8 rfl (lv_at hl 3 rfl) ?_
  refine lv_bipush (v := (40 : Int32)) hx hb dX6_send_9 (by decide) ?_
  obtain ⟨r11, u11, h11, hf⟩ := bd_some hf
  have hPc : va_P D vwCl [] H := hP.sub (ws' := []) [] rfl
  have hDc : va_D A [] := hD.sub (ws' := []) [] (by decide) rfl
  refine calXe (runS E0.b E0.n (As := [.int x2, .int (9 : Int32), .int x3, .int (40 : Int32)]) (rest := [.int r2]) ⟨hx, hb, hml, hown, hts⟩ (c_X6_bothRanges l D cI x2 (9 : Int32) x3 (40 : Int32) _ h11) gX6_send_X6_bothRanges rfl rfl rfl hdX6_bothRanges ⟨by decide, by decide⟩ hK hPc hDc rfl hl.1 rfl (Nat.le_of_ble_eq_true rfl) dX6_send_11 ⟨Nat.zero_le _, Nat.zero_le _⟩) hP hD hS hA (fun H locs hP hD hS => ?_)
  have hP : va_P D vwCl (gX6 o_t a_t cI u2.1 ++ (gX4 (a_t 0) a_t_0 cI u2.2 ++ (gX3 (a_t 7) a_t_7 cI S_t_7 ++ gX4 (a_t_7 0) a_t_7_0 cI S_t_7_0))) H := hP
  have hD : va_D A (gX6 o_t a_t cI u2.1 ++ (gX4 (a_t 0) a_t_0 cI u2.2 ++ (gX3 (a_t 7) a_t_7 cI S_t_7 ++ gX4 (a_t_7 0) a_t_7_0 cI S_t_7_0))) := hD
  refine W.eq (g2 := F0 m 14 ls [.int r11, .int r2]) rfl ?_
  obtain ⟨r14, u14, h14, hf⟩ := bd_some hf
  have hPc : va_P D vwCl [] H := hP.sub (ws' := []) [] rfl
  have hDc : va_D A [] := hD.sub (ws' := []) [] (by decide) rfl
  refine calXe (runS E0.b E0.n (As := [.int r2, .int r11]) (rest := []) ⟨hx, hb, hml, hown, hts⟩ (c_X6_first l D cI r2 r11 _ h14) gX6_send_X6_first rfl rfl rfl hdX6_first ⟨by decide, by decide⟩ hK hPc hDc rfl hl.1 rfl (Nat.le_of_ble_eq_true rfl) dX6_send_14 ⟨Nat.zero_le _, Nat.zero_le _⟩) hP hD hS hA (fun H locs hP hD hS => ?_)
  have hP : va_P D vwCl (gX6 o_t a_t cI u2.1 ++ (gX4 (a_t 0) a_t_0 cI u2.2 ++ (gX3 (a_t 7) a_t_7 cI S_t_7 ++ gX4 (a_t_7 0) a_t_7_0 cI S_t_7_0))) H := hP
  have hD : va_D A (gX6 o_t a_t cI u2.1 ++ (gX4 (a_t 0) a_t_0 cI u2.2 ++ (gX3 (a_t 7) a_t_7 cI S_t_7 ++ gX4 (a_t_7 0) a_t_7_0 cI S_t_7_0))) := hD
  refine W.eq (g2 := F0 m 17 ls [.int r14]) rfl ?_
  refine lv_istore (lv' := [(4, .int r14), (0, .ref o_t), (1, .int x1), (2, .int x2), (3, .int x3)]) hx hb dX6_send_17 hl (by decide) rfl (fun ls hl => ?_)
  refine lv_iload hx hb dX6_send_19 (lv_at hl 0 rfl) ?_
  refine lv_if_eq (tgt := 31) hx hb dX6_send_21 (by decide) (fun c21 => ?_) (fun c21 => ?_)
  · replace hf := it_t c21 hf
    refine lv_aload_n hx hb dX6_send_31 rfl (lv_at hl 1 rfl) ?_
    refine va_get (D := D) (ci := 6) (v := .ref (a_t 7)) (C := RX6) (T := TX6) (N := 9) hx hb hts hinX6 hown hK hP 0 rfl rfl 7 (by decide) (hts (.fieldLink RX6 50 "OnlyStrangersHear" "plans" "LOnlyStrangersHear$Plans;") (by decide +kernel)) (fun _ h9 => h9) rfl dX6_send_32 ?_
    refine lv_aload_n hx hb dX6_send_35 rfl (lv_at hl 1 rfl) ?_
    refine va_get (D := D) (ci := 6) (v := .ref (a_t 0)) (C := RX6) (T := TX6) (N := 9) hx hb hts hinX6 hown hK hP 0 rfl rfl 0 (by decide) (hts (.fieldLink RX6 10 "OnlyStrangersHear" "now" "LOnlyStrangersHear$Town;") (by decide +kernel)) (fun _ h9 => h9) rfl dX6_send_36 ?_
    refine lv_iload_n hx hb dX6_send_39 rfl (lv_at hl 2 rfl) ?_
    refine lv_iload_n hx hb dX6_send_40 rfl (lv_at hl 3 rfl) ?_
    refine lv_iload_n hx hb dX6_send_41 rfl (lv_at hl 4 rfl) ?_
    obtain ⟨r42, u42, h42, hf⟩ := bd_some hf
    have hPc := hP.sub (ws' := gX3 (a_t 7) a_t_7 cI S_t_7 ++ (gX4 (a_t_7 0) a_t_7_0 cI S_t_7_0 ++ gX4 (a_t 0) a_t_0 cI u2.2)) [9, 10, 11, 12, 13, 14, 15, 16, 17, 2, 3, 4, 5, 6, 7, 8] rfl
    have hDc := hD.sub (ws' := gX3 (a_t 7) a_t_7 cI S_t_7 ++ (gX4 (a_t_7 0) a_t_7_0 cI S_t_7_0 ++ gX4 (a_t 0) a_t_0 cI u2.2)) [9, 10, 11, 12, 13, 14, 15, 16, 17, 2, 3, 4, 5, 6, 7, 8] (by decide) rfl
    refine calX (runV E0.b E0.n (As := [.ref (a_t 0), .int x1, .int x2, .int x3]) (rest := []) ⟨hx, hb, hml, hown, hts⟩ (c_X3_whomToSend l D cI (a_t 7) a_t_7 a_t_7_0 (a_t 0) a_t_0 S_t_7 S_t_7_0 u2.2 x1 x2 x3 _ h42) gX6_send_X3_whomToSend rfl rfl rfl hdX3_whomToSend ⟨by decide, by decide⟩ hK hPc hDc 0 rfl rfl rfl hl.1 rfl (Nat.le_of_ble_eq_true rfl) dX6_send_42 ⟨Nat.zero_le _, Nat.zero_le _⟩) hP hD hS hA [9, 10, 11, 12, 13, 14, 15, 16, 17, 2, 3, 4, 5, 6, 7, 8] [0, 1] [0, 1, 11, 12, 13, 14, 15, 16, 17, 2, 3, 4, 5, 6, 7, 8, 9, 10] (wr := gX6 o_t a_t cI u2.1) (wn := gX6 o_t a_t cI u2.1 ++ (gX4 (a_t 0) a_t_0 cI u42.2.2 ++ (gX3 (a_t 7) a_t_7 cI u42.1 ++ gX4 (a_t_7 0) a_t_7_0 cI u42.2.1))) rfl rfl (by decide) (by decide) rfl (by decide) (fun H locs hP hD hS => ?_)
    have hP : va_P D vwCl (gX6 o_t a_t cI u2.1 ++ (gX4 (a_t 0) a_t_0 cI u42.2.2 ++ (gX3 (a_t 7) a_t_7 cI u42.1 ++ gX4 (a_t_7 0) a_t_7_0 cI u42.2.1))) H := hP
    have hD : va_D A (gX6 o_t a_t cI u2.1 ++ (gX4 (a_t 0) a_t_0 cI u42.2.2 ++ (gX3 (a_t 7) a_t_7 cI u42.1 ++ gX4 (a_t_7 0) a_t_7_0 cI u42.2.1))) := hD
    refine W.eq (g2 := F0 m 45 ls [.int r42]) rfl ?_
    have e := so_some hf
    subst e
    exact ri hx hb hK hr hlk hQ dX6_send_45 hP hD hS
  · replace hf := it_f c21 hf
    refine lv_aload_n hx hb dX6_send_24 rfl (lv_at hl 1 rfl) ?_
    refine lv_iload hx hb dX6_send_25 (lv_at hl 0 rfl) ?_
    obtain ⟨r27, u27, h27, hf⟩ := bd_some hf
    have hPc := hP.sub (ws' := gX6 o_t a_t cI u2.1) [0, 1] rfl
    have hDc := hD.sub (ws' := gX6 o_t a_t cI u2.1) [0, 1] (by decide) rfl
    refine calX (runV E0.b E0.n (As := [.int r14]) (rest := []) ⟨hx, hb, hml, hown, hts⟩ (c_X6_refused l D cI o_t a_t u2.1 r14 _ h27) gX6_send_X6_refused rfl rfl rfl hdX6_refused ⟨by decide, by decide⟩ hK hPc hDc 0 rfl rfl rfl hl.1 rfl (Nat.le_of_ble_eq_true rfl) dX6_send_27 ⟨Nat.zero_le _, Nat.zero_le _⟩) hP hD hS hA [0, 1] [2, 3, 4, 5, 6, 7, 8, 9, 10, 11, 12, 13, 14, 15, 16, 17] [16, 17, 0, 1, 2, 3, 4, 5, 6, 7, 8, 9, 10, 11, 12, 13, 14, 15] (wr := gX4 (a_t 0) a_t_0 cI u2.2 ++ (gX3 (a_t 7) a_t_7 cI S_t_7 ++ gX4 (a_t_7 0) a_t_7_0 cI S_t_7_0)) (wn := gX6 o_t a_t cI u27 ++ (gX4 (a_t 0) a_t_0 cI u2.2 ++ (gX3 (a_t 7) a_t_7 cI S_t_7 ++ gX4 (a_t_7 0) a_t_7_0 cI S_t_7_0))) rfl rfl (by decide) (by decide) rfl (by decide) (fun H locs hP hD hS => ?_)
    have hP : va_P D vwCl (gX6 o_t a_t cI u27 ++ (gX4 (a_t 0) a_t_0 cI u2.2 ++ (gX3 (a_t 7) a_t_7 cI S_t_7 ++ gX4 (a_t_7 0) a_t_7_0 cI S_t_7_0))) H := hP
    have hD : va_D A (gX6 o_t a_t cI u27 ++ (gX4 (a_t 0) a_t_0 cI u2.2 ++ (gX3 (a_t 7) a_t_7 cI S_t_7 ++ gX4 (a_t_7 0) a_t_7_0 cI S_t_7_0))) := hD
    refine W.eq (g2 := F0 m 30 ls [.int r27]) rfl ?_
    have e := so_some hf
    subst e
    exact ri hx hb hK hr hlk hQ dX6_send_30 hP hD hS
abbrev rmX6_nightsFor : Room := { frames := 5, cells := 0, slots := 0, locals := 121 }
set_option maxHeartbeats 4000000 in
set_option maxRecDepth 100000 in
theorem c_X6_nightsFor (l : Launch) (D : va_G) (cI : ClassId) (o_t : Nat) (a_t : Nat → Nat) (a_t_0 : Nat → Nat) (a_t_7 : Nat → Nat) (a_t_7_0 : Nat → Nat) (S_t : G) (S_t_0 : G) (S_t_7 : G) (S_t_7_0 : G) (x1 : Int32) (x2 : Int32) (out : Int32 × G × G × G × G) (hf : f_X6_nightsFor S_t S_t_0 S_t_7 S_t_7_0 x1 x2 = some out) : Cn E0 l yX6_nightsFor wsX6_nightsFor rmX6_nightsFor D cI [.ref o_t, .int x1, .int x2] (gX6 o_t a_t cI S_t ++ (gX4 (a_t 0) a_t_0 cI S_t_0 ++ (gX3 (a_t 7) a_t_7 cI S_t_7 ++ gX4 (a_t_7 0) a_t_7_0 cI S_t_7_0))) (some (.int out.1)) (gX6 o_t a_t cI out.2.1 ++ (gX4 (a_t 0) a_t_0 cI out.2.2.1 ++ (gX3 (a_t 7) a_t_7 cI out.2.2.2.1 ++ gX4 (a_t_7 0) a_t_7_0 cI out.2.2.2.2))) := by
  refine Cn.mk (cc := cX6_nightsFor) (maxL := 4) (ret := (some .int)) (by decide) rfl (Nat.le_of_ble_eq_true rfl) ?_
  intro p e s m below meth c A ls Q hx hb hml hown hts hK hA hP hD hS hl hr hlk hnm hE hQ
  have hown : s.vm.findClass RX6 = some m.cls := hown
  have hinX6 : ∀ w ∈ u_ws RX6 TX6 9, w ∈ wsX6_nightsFor := by decide +kernel
  unfold f_X6_nightsFor at hf
  have hl : lv_has ls 4 [(0, .ref o_t), (1, .int x1), (2, .int x2)] := hl
  obtain ⟨H, hHe⟩ : ∃ H : Heap, H = s.heap := ⟨_, rfl⟩
  obtain ⟨locs, hle⟩ : ∃ q : List Loc, q = [] := ⟨_, rfl⟩
  have hS : va_S A s.heap H locs := by rw [hHe, hle]; exact hS
  rw [← hHe] at hP
  suffices hgo : W p l e rmX6_nightsFor s m ([.ref o_t, .int x1, .int x2] : List Value).toArray below meth c H locs 0 0 Q (F0 m 0 ls []) by rw [hHe, hle] at hgo; exact hgo
  clear hHe hle
  refine lv_aload_n hx hb dX6_nightsFor_0 rfl (lv_at hl 0 rfl) ?_
  refine lv_iload_n hx hb dX6_nightsFor_1 rfl (lv_at hl 1 rfl) ?_
  obtain ⟨r2, u2, h2, hf⟩ := bd_some hf
  have hPc := hP.sub (ws' := gX6 o_t a_t cI S_t ++ gX4 (a_t 0) a_t_0 cI S_t_0) [0, 1, 2, 3, 4, 5, 6, 7, 8] rfl
  have hDc := hD.sub (ws' := gX6 o_t a_t cI S_t ++ gX4 (a_t 0) a_t_0 cI S_t_0) [0, 1, 2, 3, 4, 5, 6, 7, 8] (by decide) rfl
  refine calX (runV E0.b E0.n (As := [.int x1]) (rest := []) ⟨hx, hb, hml, hown, hts⟩ (c_X6_noPerson l D cI o_t a_t a_t_0 S_t S_t_0 x1 _ h2) gX6_nightsFor_X6_noPerson rfl rfl rfl hdX6_noPerson ⟨by decide, by decide⟩ hK hPc hDc 0 rfl rfl rfl hl.1 rfl (Nat.le_of_ble_eq_true rfl) dX6_nightsFor_2 ⟨Nat.zero_le _, Nat.zero_le _⟩) hP hD hS hA [0, 1, 2, 3, 4, 5, 6, 7, 8] [9, 10, 11, 12, 13, 14, 15, 16, 17] [9, 10, 11, 12, 13, 14, 15, 16, 17, 0, 1, 2, 3, 4, 5, 6, 7, 8] (wr := gX3 (a_t 7) a_t_7 cI S_t_7 ++ gX4 (a_t_7 0) a_t_7_0 cI S_t_7_0) (wn := gX6 o_t a_t cI u2.1 ++ (gX4 (a_t 0) a_t_0 cI u2.2 ++ (gX3 (a_t 7) a_t_7 cI S_t_7 ++ gX4 (a_t_7 0) a_t_7_0 cI S_t_7_0))) rfl rfl (by decide) (by decide) rfl (by decide) (fun H locs hP hD hS => ?_)
  have hP : va_P D vwCl (gX6 o_t a_t cI u2.1 ++ (gX4 (a_t 0) a_t_0 cI u2.2 ++ (gX3 (a_t 7) a_t_7 cI S_t_7 ++ gX4 (a_t_7 0) a_t_7_0 cI S_t_7_0))) H := hP
  have hD : va_D A (gX6 o_t a_t cI u2.1 ++ (gX4 (a_t 0) a_t_0 cI u2.2 ++ (gX3 (a_t 7) a_t_7 cI S_t_7 ++ gX4 (a_t_7 0) a_t_7_0 cI S_t_7_0))) := hD
  refine W.eq (g2 := F0 m 5 ls [.int r2]) rfl ?_
  refine lv_iload_n hx hb dX6_nightsFor_5 rfl (lv_at hl 2 rfl) ?_
  refine lv_iconst (v := (1 : Int32)) hx hb dX6_nightsFor_6 (by decide) ?_
  refine lv_bipush (v := (40 : Int32)) hx hb dX6_nightsFor_7 (by decide) ?_
  obtain ⟨r9, u9, h9, hf⟩ := bd_some hf
  have hPc : va_P D vwCl [] H := hP.sub (ws' := []) [] rfl
  have hDc : va_D A [] := hD.sub (ws' := []) [] (by decide) rfl
  refine calXe (runS E0.b E0.n (As := [.int x2, .int (1 : Int32), .int (40 : Int32)]) (rest := [.int r2]) ⟨hx, hb, hml, hown, hts⟩ (c_X6_range l D cI x2 (1 : Int32) (40 : Int32) _ h9) gX6_nightsFor_X6_range rfl rfl rfl hdX6_range ⟨by decide, by decide⟩ hK hPc hDc rfl hl.1 rfl (Nat.le_of_ble_eq_true rfl) dX6_nightsFor_9 ⟨Nat.zero_le _, Nat.zero_le _⟩) hP hD hS hA (fun H locs hP hD hS => ?_)
  have hP : va_P D vwCl (gX6 o_t a_t cI u2.1 ++ (gX4 (a_t 0) a_t_0 cI u2.2 ++ (gX3 (a_t 7) a_t_7 cI S_t_7 ++ gX4 (a_t_7 0) a_t_7_0 cI S_t_7_0))) H := hP
  have hD : va_D A (gX6 o_t a_t cI u2.1 ++ (gX4 (a_t 0) a_t_0 cI u2.2 ++ (gX3 (a_t 7) a_t_7 cI S_t_7 ++ gX4 (a_t_7 0) a_t_7_0 cI S_t_7_0))) := hD
  refine W.eq (g2 := F0 m 12 ls [.int r9, .int r2]) rfl ?_
  obtain ⟨r12, u12, h12, hf⟩ := bd_some hf
  have hPc : va_P D vwCl [] H := hP.sub (ws' := []) [] rfl
  have hDc : va_D A [] := hD.sub (ws' := []) [] (by decide) rfl
  refine calXe (runS E0.b E0.n (As := [.int r2, .int r9]) (rest := []) ⟨hx, hb, hml, hown, hts⟩ (c_X6_first l D cI r2 r9 _ h12) gX6_nightsFor_X6_first rfl rfl rfl hdX6_first ⟨by decide, by decide⟩ hK hPc hDc rfl hl.1 rfl (Nat.le_of_ble_eq_true rfl) dX6_nightsFor_12 ⟨Nat.zero_le _, Nat.zero_le _⟩) hP hD hS hA (fun H locs hP hD hS => ?_)
  have hP : va_P D vwCl (gX6 o_t a_t cI u2.1 ++ (gX4 (a_t 0) a_t_0 cI u2.2 ++ (gX3 (a_t 7) a_t_7 cI S_t_7 ++ gX4 (a_t_7 0) a_t_7_0 cI S_t_7_0))) H := hP
  have hD : va_D A (gX6 o_t a_t cI u2.1 ++ (gX4 (a_t 0) a_t_0 cI u2.2 ++ (gX3 (a_t 7) a_t_7 cI S_t_7 ++ gX4 (a_t_7 0) a_t_7_0 cI S_t_7_0))) := hD
  refine W.eq (g2 := F0 m 15 ls [.int r12]) rfl ?_
  refine lv_istore_n (lv' := [(3, .int r12), (0, .ref o_t), (1, .int x1), (2, .int x2)]) hx hb dX6_nightsFor_15 rfl hl (by decide) rfl (fun ls hl => ?_)
  refine lv_iload_n hx hb dX6_nightsFor_16 rfl (lv_at hl 0 rfl) ?_
  refine lv_if_eq (tgt := 26) hx hb dX6_nightsFor_17 (by decide) (fun c17 => ?_) (fun c17 => ?_)
  · replace hf := it_t c17 hf
    refine lv_aload_n hx hb dX6_nightsFor_26 rfl (lv_at hl 1 rfl) ?_
    refine va_get (D := D) (ci := 6) (v := .ref (a_t 7)) (C := RX6) (T := TX6) (N := 9) hx hb hts hinX6 hown hK hP 0 rfl rfl 7 (by decide) (hts (.fieldLink RX6 50 "OnlyStrangersHear" "plans" "LOnlyStrangersHear$Plans;") (by decide +kernel)) (fun _ h9 => h9) rfl dX6_nightsFor_27 ?_
    refine lv_aload_n hx hb dX6_nightsFor_30 rfl (lv_at hl 1 rfl) ?_
    refine va_get (D := D) (ci := 6) (v := .ref (a_t 0)) (C := RX6) (T := TX6) (N := 9) hx hb hts hinX6 hown hK hP 0 rfl rfl 0 (by decide) (hts (.fieldLink RX6 10 "OnlyStrangersHear" "now" "LOnlyStrangersHear$Town;") (by decide +kernel)) (fun _ h9 => h9) rfl dX6_nightsFor_31 ?_
    refine lv_iload_n hx hb dX6_nightsFor_34 rfl (lv_at hl 2 rfl) ?_
    refine lv_iload_n hx hb dX6_nightsFor_35 rfl (lv_at hl 3 rfl) ?_
    obtain ⟨r36, u36, h36, hf⟩ := bd_some hf
    have hPc := hP.sub (ws' := gX3 (a_t 7) a_t_7 cI S_t_7 ++ (gX4 (a_t_7 0) a_t_7_0 cI S_t_7_0 ++ gX4 (a_t 0) a_t_0 cI u2.2)) [9, 10, 11, 12, 13, 14, 15, 16, 17, 2, 3, 4, 5, 6, 7, 8] rfl
    have hDc := hD.sub (ws' := gX3 (a_t 7) a_t_7 cI S_t_7 ++ (gX4 (a_t_7 0) a_t_7_0 cI S_t_7_0 ++ gX4 (a_t 0) a_t_0 cI u2.2)) [9, 10, 11, 12, 13, 14, 15, 16, 17, 2, 3, 4, 5, 6, 7, 8] (by decide) rfl
    refine calX (runV E0.b E0.n (As := [.ref (a_t 0), .int x1, .int x2]) (rest := []) ⟨hx, hb, hml, hown, hts⟩ (c_X3_bestNights l D cI (a_t 7) a_t_7 a_t_7_0 (a_t 0) a_t_0 S_t_7 S_t_7_0 u2.2 x1 x2 _ h36) gX6_nightsFor_X3_bestNights rfl rfl rfl hdX3_bestNights ⟨by decide, by decide⟩ hK hPc hDc 0 rfl rfl rfl hl.1 rfl (Nat.le_of_ble_eq_true rfl) dX6_nightsFor_36 ⟨Nat.zero_le _, Nat.zero_le _⟩) hP hD hS hA [9, 10, 11, 12, 13, 14, 15, 16, 17, 2, 3, 4, 5, 6, 7, 8] [0, 1] [0, 1, 11, 12, 13, 14, 15, 16, 17, 2, 3, 4, 5, 6, 7, 8, 9, 10] (wr := gX6 o_t a_t cI u2.1) (wn := gX6 o_t a_t cI u2.1 ++ (gX4 (a_t 0) a_t_0 cI u36.2.2 ++ (gX3 (a_t 7) a_t_7 cI u36.1 ++ gX4 (a_t_7 0) a_t_7_0 cI u36.2.1))) rfl rfl (by decide) (by decide) rfl (by decide) (fun H locs hP hD hS => ?_)
    have hP : va_P D vwCl (gX6 o_t a_t cI u2.1 ++ (gX4 (a_t 0) a_t_0 cI u36.2.2 ++ (gX3 (a_t 7) a_t_7 cI u36.1 ++ gX4 (a_t_7 0) a_t_7_0 cI u36.2.1))) H := hP
    have hD : va_D A (gX6 o_t a_t cI u2.1 ++ (gX4 (a_t 0) a_t_0 cI u36.2.2 ++ (gX3 (a_t 7) a_t_7 cI u36.1 ++ gX4 (a_t_7 0) a_t_7_0 cI u36.2.1))) := hD
    refine W.eq (g2 := F0 m 39 ls [.int r36]) rfl ?_
    have e := so_some hf
    subst e
    exact ri hx hb hK hr hlk hQ dX6_nightsFor_39 hP hD hS
  · replace hf := it_f c17 hf
    refine lv_aload_n hx hb dX6_nightsFor_20 rfl (lv_at hl 1 rfl) ?_
    refine lv_iload_n hx hb dX6_nightsFor_21 rfl (lv_at hl 0 rfl) ?_
    obtain ⟨r22, u22, h22, hf⟩ := bd_some hf
    have hPc := hP.sub (ws' := gX6 o_t a_t cI u2.1) [0, 1] rfl
    have hDc := hD.sub (ws' := gX6 o_t a_t cI u2.1) [0, 1] (by decide) rfl
    refine calX (runV E0.b E0.n (As := [.int r12]) (rest := []) ⟨hx, hb, hml, hown, hts⟩ (c_X6_refused l D cI o_t a_t u2.1 r12 _ h22) gX6_nightsFor_X6_refused rfl rfl rfl hdX6_refused ⟨by decide, by decide⟩ hK hPc hDc 0 rfl rfl rfl hl.1 rfl (Nat.le_of_ble_eq_true rfl) dX6_nightsFor_22 ⟨Nat.zero_le _, Nat.zero_le _⟩) hP hD hS hA [0, 1] [2, 3, 4, 5, 6, 7, 8, 9, 10, 11, 12, 13, 14, 15, 16, 17] [16, 17, 0, 1, 2, 3, 4, 5, 6, 7, 8, 9, 10, 11, 12, 13, 14, 15] (wr := gX4 (a_t 0) a_t_0 cI u2.2 ++ (gX3 (a_t 7) a_t_7 cI S_t_7 ++ gX4 (a_t_7 0) a_t_7_0 cI S_t_7_0)) (wn := gX6 o_t a_t cI u22 ++ (gX4 (a_t 0) a_t_0 cI u2.2 ++ (gX3 (a_t 7) a_t_7 cI S_t_7 ++ gX4 (a_t_7 0) a_t_7_0 cI S_t_7_0))) rfl rfl (by decide) (by decide) rfl (by decide) (fun H locs hP hD hS => ?_)
    have hP : va_P D vwCl (gX6 o_t a_t cI u22 ++ (gX4 (a_t 0) a_t_0 cI u2.2 ++ (gX3 (a_t 7) a_t_7 cI S_t_7 ++ gX4 (a_t_7 0) a_t_7_0 cI S_t_7_0))) H := hP
    have hD : va_D A (gX6 o_t a_t cI u22 ++ (gX4 (a_t 0) a_t_0 cI u2.2 ++ (gX3 (a_t 7) a_t_7 cI S_t_7 ++ gX4 (a_t_7 0) a_t_7_0 cI S_t_7_0))) := hD
    refine W.eq (g2 := F0 m 25 ls [.int r22]) rfl ?_
    have e := so_some hf
    subst e
    exact ri hx hb hK hr hlk hQ dX6_nightsFor_25 hP hD hS
abbrev rmX6_fewest : Room := { frames := 6, cells := 0, slots := 0, locals := 137 }
set_option maxHeartbeats 4000000 in
set_option maxRecDepth 100000 in
theorem c_X6_fewest (l : Launch) (D : va_G) (cI : ClassId) (o_t : Nat) (a_t : Nat → Nat) (a_t_0 : Nat → Nat) (a_t_7 : Nat → Nat) (a_t_7_0 : Nat → Nat) (S_t : G) (S_t_0 : G) (S_t_7 : G) (S_t_7_0 : G) (x1 : Int32) (out : Int32 × G × G × G × G) (hf : f_X6_fewest S_t S_t_0 S_t_7 S_t_7_0 x1 = some out) : Cn E0 l yX6_fewest wsX6_fewest rmX6_fewest D cI [.ref o_t, .int x1] (gX6 o_t a_t cI S_t ++ (gX4 (a_t 0) a_t_0 cI S_t_0 ++ (gX3 (a_t 7) a_t_7 cI S_t_7 ++ gX4 (a_t_7 0) a_t_7_0 cI S_t_7_0))) (some (.int out.1)) (gX6 o_t a_t cI out.2.1 ++ (gX4 (a_t 0) a_t_0 cI out.2.2.1 ++ (gX3 (a_t 7) a_t_7 cI out.2.2.2.1 ++ gX4 (a_t_7 0) a_t_7_0 cI out.2.2.2.2))) := by
  refine Cn.mk (cc := cX6_fewest) (maxL := 3) (ret := (some .int)) (by decide) rfl (Nat.le_of_ble_eq_true rfl) ?_
  intro p e s m below meth c A ls Q hx hb hml hown hts hK hA hP hD hS hl hr hlk hnm hE hQ
  have hown : s.vm.findClass RX6 = some m.cls := hown
  have hinX6 : ∀ w ∈ u_ws RX6 TX6 9, w ∈ wsX6_fewest := by decide +kernel
  unfold f_X6_fewest at hf
  have hl : lv_has ls 3 [(0, .ref o_t), (1, .int x1)] := hl
  obtain ⟨H, hHe⟩ : ∃ H : Heap, H = s.heap := ⟨_, rfl⟩
  obtain ⟨locs, hle⟩ : ∃ q : List Loc, q = [] := ⟨_, rfl⟩
  have hS : va_S A s.heap H locs := by rw [hHe, hle]; exact hS
  rw [← hHe] at hP
  suffices hgo : W p l e rmX6_fewest s m ([.ref o_t, .int x1] : List Value).toArray below meth c H locs 0 0 Q (F0 m 0 ls []) by rw [hHe, hle] at hgo; exact hgo
  clear hHe hle
  refine lv_iload_n hx hb dX6_fewest_0 rfl (lv_at hl 1 rfl) ?_
  refine lv_iconst (v := (0 : Int32)) hx hb dX6_fewest_1 (by decide) ?_
  refine lv_bipush (v := (40 : Int32)) hx hb dX6_fewest_2 (by decide) ?_
  obtain ⟨r4, u4, h4, hf⟩ := bd_some hf
  have hPc : va_P D vwCl [] H := hP.sub (ws' := []) [] rfl
  have hDc : va_D A [] := hD.sub (ws' := []) [] (by decide) rfl
  refine calXe (runS E0.b E0.n (As := [.int x1, .int (0 : Int32), .int (40 : Int32)]) (rest := []) ⟨hx, hb, hml, hown, hts⟩ (c_X6_range l D cI x1 (0 : Int32) (40 : Int32) _ h4) gX6_fewest_X6_range rfl rfl rfl hdX6_range ⟨by decide, by decide⟩ hK hPc hDc rfl hl.1 rfl (Nat.le_of_ble_eq_true rfl) dX6_fewest_4 ⟨Nat.zero_le _, Nat.zero_le _⟩) hP hD hS hA (fun H locs hP hD hS => ?_)
  have hP : va_P D vwCl (gX6 o_t a_t cI S_t ++ (gX4 (a_t 0) a_t_0 cI S_t_0 ++ (gX3 (a_t 7) a_t_7 cI S_t_7 ++ gX4 (a_t_7 0) a_t_7_0 cI S_t_7_0))) H := hP
  have hD : va_D A (gX6 o_t a_t cI S_t ++ (gX4 (a_t 0) a_t_0 cI S_t_0 ++ (gX3 (a_t 7) a_t_7 cI S_t_7 ++ gX4 (a_t_7 0) a_t_7_0 cI S_t_7_0))) := hD
  refine W.eq (g2 := F0 m 7 ls [.int r4]) rfl ?_
  refine lv_istore_n (lv' := [(2, .int r4), (0, .ref o_t), (1, .int x1)]) hx hb dX6_fewest_7 rfl hl (by decide) rfl (fun ls hl => ?_)
  refine lv_iload_n hx hb dX6_fewest_8 rfl (lv_at hl 0 rfl) ?_
  refine lv_if_eq (tgt := 18) hx hb dX6_fewest_9 (by decide) (fun c9 => ?_) (fun c9 => ?_)
  · replace hf := it_t c9 hf
    refine lv_aload_n hx hb dX6_fewest_18 rfl (lv_at hl 1 rfl) ?_
    refine va_get (D := D) (ci := 6) (v := .ref (a_t 7)) (C := RX6) (T := TX6) (N := 9) hx hb hts hinX6 hown hK hP 0 rfl rfl 7 (by decide) (hts (.fieldLink RX6 50 "OnlyStrangersHear" "plans" "LOnlyStrangersHear$Plans;") (by decide +kernel)) (fun _ h9 => h9) rfl dX6_fewest_19 ?_
    refine lv_aload_n hx hb dX6_fewest_22 rfl (lv_at hl 1 rfl) ?_
    refine va_get (D := D) (ci := 6) (v := .ref (a_t 0)) (C := RX6) (T := TX6) (N := 9) hx hb hts hinX6 hown hK hP 0 rfl rfl 0 (by decide) (hts (.fieldLink RX6 10 "OnlyStrangersHear" "now" "LOnlyStrangersHear$Town;") (by decide +kernel)) (fun _ h9 => h9) rfl dX6_fewest_23 ?_
    refine lv_iload_n hx hb dX6_fewest_26 rfl (lv_at hl 2 rfl) ?_
    obtain ⟨r27, u27, h27, hf⟩ := bd_some hf
    have hPc := hP.sub (ws' := gX3 (a_t 7) a_t_7 cI S_t_7 ++ (gX4 (a_t_7 0) a_t_7_0 cI S_t_7_0 ++ gX4 (a_t 0) a_t_0 cI S_t_0)) [9, 10, 11, 12, 13, 14, 15, 16, 17, 2, 3, 4, 5, 6, 7, 8] rfl
    have hDc := hD.sub (ws' := gX3 (a_t 7) a_t_7 cI S_t_7 ++ (gX4 (a_t_7 0) a_t_7_0 cI S_t_7_0 ++ gX4 (a_t 0) a_t_0 cI S_t_0)) [9, 10, 11, 12, 13, 14, 15, 16, 17, 2, 3, 4, 5, 6, 7, 8] (by decide) rfl
    refine calX (runV E0.b E0.n (As := [.ref (a_t 0), .int x1]) (rest := []) ⟨hx, hb, hml, hown, hts⟩ (c_X3_fewestToSend l D cI (a_t 7) a_t_7 a_t_7_0 (a_t 0) a_t_0 S_t_7 S_t_7_0 S_t_0 x1 _ h27) gX6_fewest_X3_fewestToSend rfl rfl rfl hdX3_fewestToSend ⟨by decide, by decide⟩ hK hPc hDc 0 rfl rfl rfl hl.1 rfl (Nat.le_of_ble_eq_true rfl) dX6_fewest_27 ⟨Nat.zero_le _, Nat.zero_le _⟩) hP hD hS hA [9, 10, 11, 12, 13, 14, 15, 16, 17, 2, 3, 4, 5, 6, 7, 8] [0, 1] [0, 1, 11, 12, 13, 14, 15, 16, 17, 2, 3, 4, 5, 6, 7, 8, 9, 10] (wr := gX6 o_t a_t cI S_t) (wn := gX6 o_t a_t cI S_t ++ (gX4 (a_t 0) a_t_0 cI u27.2.2 ++ (gX3 (a_t 7) a_t_7 cI u27.1 ++ gX4 (a_t_7 0) a_t_7_0 cI u27.2.1))) rfl rfl (by decide) (by decide) rfl (by decide) (fun H locs hP hD hS => ?_)
    have hP : va_P D vwCl (gX6 o_t a_t cI S_t ++ (gX4 (a_t 0) a_t_0 cI u27.2.2 ++ (gX3 (a_t 7) a_t_7 cI u27.1 ++ gX4 (a_t_7 0) a_t_7_0 cI u27.2.1))) H := hP
    have hD : va_D A (gX6 o_t a_t cI S_t ++ (gX4 (a_t 0) a_t_0 cI u27.2.2 ++ (gX3 (a_t 7) a_t_7 cI u27.1 ++ gX4 (a_t_7 0) a_t_7_0 cI u27.2.1))) := hD
    refine W.eq (g2 := F0 m 30 ls [.int r27]) rfl ?_
    have e := so_some hf
    subst e
    exact ri hx hb hK hr hlk hQ dX6_fewest_30 hP hD hS
  · replace hf := it_f c9 hf
    refine lv_aload_n hx hb dX6_fewest_12 rfl (lv_at hl 1 rfl) ?_
    refine lv_iload_n hx hb dX6_fewest_13 rfl (lv_at hl 0 rfl) ?_
    obtain ⟨r14, u14, h14, hf⟩ := bd_some hf
    have hPc := hP.sub (ws' := gX6 o_t a_t cI S_t) [0, 1] rfl
    have hDc := hD.sub (ws' := gX6 o_t a_t cI S_t) [0, 1] (by decide) rfl
    refine calX (runV E0.b E0.n (As := [.int r4]) (rest := []) ⟨hx, hb, hml, hown, hts⟩ (c_X6_refused l D cI o_t a_t S_t r4 _ h14) gX6_fewest_X6_refused rfl rfl rfl hdX6_refused ⟨by decide, by decide⟩ hK hPc hDc 0 rfl rfl rfl hl.1 rfl (Nat.le_of_ble_eq_true rfl) dX6_fewest_14 ⟨Nat.zero_le _, Nat.zero_le _⟩) hP hD hS hA [0, 1] [2, 3, 4, 5, 6, 7, 8, 9, 10, 11, 12, 13, 14, 15, 16, 17] [16, 17, 0, 1, 2, 3, 4, 5, 6, 7, 8, 9, 10, 11, 12, 13, 14, 15] (wr := gX4 (a_t 0) a_t_0 cI S_t_0 ++ (gX3 (a_t 7) a_t_7 cI S_t_7 ++ gX4 (a_t_7 0) a_t_7_0 cI S_t_7_0)) (wn := gX6 o_t a_t cI u14 ++ (gX4 (a_t 0) a_t_0 cI S_t_0 ++ (gX3 (a_t 7) a_t_7 cI S_t_7 ++ gX4 (a_t_7 0) a_t_7_0 cI S_t_7_0))) rfl rfl (by decide) (by decide) rfl (by decide) (fun H locs hP hD hS => ?_)
    have hP : va_P D vwCl (gX6 o_t a_t cI u14 ++ (gX4 (a_t 0) a_t_0 cI S_t_0 ++ (gX3 (a_t 7) a_t_7 cI S_t_7 ++ gX4 (a_t_7 0) a_t_7_0 cI S_t_7_0))) H := hP
    have hD : va_D A (gX6 o_t a_t cI u14 ++ (gX4 (a_t 0) a_t_0 cI S_t_0 ++ (gX3 (a_t 7) a_t_7 cI S_t_7 ++ gX4 (a_t_7 0) a_t_7_0 cI S_t_7_0))) := hD
    refine W.eq (g2 := F0 m 17 ls [.int r14]) rfl ?_
    have e := so_some hf
    subst e
    exact ri hx hb hK hr hlk hQ dX6_fewest_17 hP hD hS
abbrev rmX6_ask : Room := { frames := 4, cells := 0, slots := 0, locals := 93 }
set_option maxHeartbeats 4000000 in
set_option maxRecDepth 100000 in
theorem c_X6_ask (l : Launch) (D : va_G) (cI : ClassId) (o_t : Nat) (a_t : Nat → Nat) (a_t_0 : Nat → Nat) (a_t_6 : Nat → Nat) (a_t_6_0 : Nat → Nat) (S_t : G) (S_t_0 : G) (S_t_6_0 : G) (x1 : Int32) (out : Int32 × G × G × G) (hf : f_X6_ask S_t S_t_0 S_t_6_0 x1 = some out) : Cn EX l yX6_ask wsX6_ask rmX6_ask D cI [.ref o_t, .int x1] (gX6 o_t a_t cI S_t ++ (gX4 (a_t 0) a_t_0 cI S_t_0 ++ (gX1 (a_t 6) a_t_6 ++ gX4 (a_t_6 0) a_t_6_0 cI S_t_6_0))) (some (.int out.1)) (gX6 o_t a_t cI out.2.1 ++ (gX4 (a_t 0) a_t_0 cI out.2.2.1 ++ (gX1 (a_t 6) a_t_6 ++ gX4 (a_t_6 0) a_t_6_0 cI out.2.2.2))) := by
  refine Cn.mk (cc := cX6_ask) (maxL := 3) (ret := (some .int)) (by decide) rfl (Nat.le_of_ble_eq_true rfl) ?_
  intro p e s m below meth c A ls Q hx hb hml hown hts hK hA hP hD hS hl hr hlk hnm hE hQ
  have hown : s.vm.findClass RX6 = some m.cls := hown
  have hinX6 : ∀ w ∈ u_ws RX6 TX6 9, w ∈ wsX6_ask := by decide +kernel
  unfold f_X6_ask at hf
  have hl : lv_has ls 3 [(0, .ref o_t), (1, .int x1)] := hl
  obtain ⟨H, hHe⟩ : ∃ H : Heap, H = s.heap := ⟨_, rfl⟩
  obtain ⟨locs, hle⟩ : ∃ q : List Loc, q = [] := ⟨_, rfl⟩
  have hS : va_S A s.heap H locs := by rw [hHe, hle]; exact hS
  rw [← hHe] at hP
  suffices hgo : W p l e rmX6_ask s m ([.ref o_t, .int x1] : List Value).toArray below meth c H locs 0 0 Q (F0 m 0 ls []) by rw [hHe, hle] at hgo; exact hgo
  clear hHe hle
  refine lv_aload_n hx hb dX6_ask_0 rfl (lv_at hl 0 rfl) ?_
  refine lv_iload_n hx hb dX6_ask_1 rfl (lv_at hl 1 rfl) ?_
  obtain ⟨r2, u2, h2, hf⟩ := bd_some hf
  have hPc := hP.sub (ws' := gX6 o_t a_t cI S_t ++ gX4 (a_t 0) a_t_0 cI S_t_0) [0, 1, 2, 3, 4, 5, 6, 7, 8] rfl
  have hDc := hD.sub (ws' := gX6 o_t a_t cI S_t ++ gX4 (a_t 0) a_t_0 cI S_t_0) [0, 1, 2, 3, 4, 5, 6, 7, 8] (by decide) rfl
  refine calX (runV E0.b E0.n (As := [.int x1]) (rest := []) ⟨hx, hb, hml, hown, hts⟩ (c_X6_noBell l D cI o_t a_t a_t_0 S_t S_t_0 x1 _ h2) gX6_ask_X6_noBell rfl rfl rfl hdX6_noBell ⟨by decide, by decide⟩ hK hPc hDc 0 rfl rfl rfl hl.1 rfl (Nat.le_of_ble_eq_true rfl) dX6_ask_2 ⟨Nat.zero_le _, Nat.zero_le _⟩) hP hD hS hA [0, 1, 2, 3, 4, 5, 6, 7, 8] [9, 10, 11, 12, 13, 14, 15, 16] [8, 9, 10, 11, 12, 13, 14, 15, 16, 0, 1, 2, 3, 4, 5, 6, 7] (wr := gX1 (a_t 6) a_t_6 ++ gX4 (a_t_6 0) a_t_6_0 cI S_t_6_0) (wn := gX6 o_t a_t cI u2.1 ++ (gX4 (a_t 0) a_t_0 cI u2.2 ++ (gX1 (a_t 6) a_t_6 ++ gX4 (a_t_6 0) a_t_6_0 cI S_t_6_0))) rfl rfl (by decide) (by decide) rfl (by decide) (fun H locs hP hD hS => ?_)
  have hP : va_P D vwCl (gX6 o_t a_t cI u2.1 ++ (gX4 (a_t 0) a_t_0 cI u2.2 ++ (gX1 (a_t 6) a_t_6 ++ gX4 (a_t_6 0) a_t_6_0 cI S_t_6_0))) H := hP
  have hD : va_D A (gX6 o_t a_t cI u2.1 ++ (gX4 (a_t 0) a_t_0 cI u2.2 ++ (gX1 (a_t 6) a_t_6 ++ gX4 (a_t_6 0) a_t_6_0 cI S_t_6_0))) := hD
  refine W.eq (g2 := F0 m 5 ls [.int r2]) rfl ?_
  refine lv_istore_n (lv' := [(2, .int r2), (0, .ref o_t), (1, .int x1)]) hx hb dX6_ask_5 rfl hl (by decide) rfl (fun ls hl => ?_)
  refine lv_iload_n hx hb dX6_ask_6 rfl (lv_at hl 0 rfl) ?_
  refine lv_if_eq (tgt := 16) hx hb dX6_ask_7 (by decide) (fun c7 => ?_) (fun c7 => ?_)
  · replace hf := it_t c7 hf
    refine lv_aload_n hx hb dX6_ask_16 rfl (lv_at hl 1 rfl) ?_
    refine va_get (D := D) (ci := 6) (v := .ref (a_t 6)) (C := RX6) (T := TX6) (N := 9) hx hb hts hinX6 hown hK hP 0 rfl rfl 6 (by decide) (hts (.fieldLink RX6 43 "OnlyStrangersHear" "mind" "LOnlyStrangersHear$Mind;") (by decide +kernel)) (fun _ h9 => h9) rfl dX6_ask_17 ?_
    refine lv_aload_n hx hb dX6_ask_20 rfl (lv_at hl 1 rfl) ?_
    refine va_get (D := D) (ci := 6) (v := .ref (a_t 0)) (C := RX6) (T := TX6) (N := 9) hx hb hts hinX6 hown hK hP 0 rfl rfl 0 (by decide) (hts (.fieldLink RX6 10 "OnlyStrangersHear" "now" "LOnlyStrangersHear$Town;") (by decide +kernel)) (fun _ h9 => h9) rfl dX6_ask_21 ?_
    refine lv_iload_n hx hb dX6_ask_24 rfl (lv_at hl 2 rfl) ?_
    obtain ⟨r25, u25, h25, hf⟩ := bd_some hf
    have hPc := hP.sub (ws' := gX1 (a_t 6) a_t_6 ++ (gX4 (a_t_6 0) a_t_6_0 cI S_t_6_0 ++ gX4 (a_t 0) a_t_0 cI u2.2)) [9, 10, 11, 12, 13, 14, 15, 16, 2, 3, 4, 5, 6, 7, 8] rfl
    have hDc := hD.sub (ws' := gX1 (a_t 6) a_t_6 ++ (gX4 (a_t_6 0) a_t_6_0 cI S_t_6_0 ++ gX4 (a_t 0) a_t_0 cI u2.2)) [9, 10, 11, 12, 13, 14, 15, 16, 2, 3, 4, 5, 6, 7, 8] (by decide) rfl
    refine calX (runV EX.b (EX.n hE hS (va_free (wc := gX1 (a_t 6) a_t_6 ++ (gX4 (a_t_6 0) a_t_6_0 cI S_t_6_0 ++ gX4 (a_t 0) a_t_0 cI u2.2)) hD hS hA [9, 10, 11, 12, 13, 14, 15, 16, 2, 3, 4, 5, 6, 7, 8] rfl)) (As := [.ref (a_t 0), .int x1]) (rest := []) ⟨hx, hb, hml, hown, hts⟩ (c_X1_longestRight l D cI (a_t 6) a_t_6 a_t_6_0 (a_t 0) a_t_0 S_t_6_0 u2.2 x1 _ h25) gX6_ask_X1_longestRight rfl rfl rfl hdX1_longestRight ⟨by decide, by decide⟩ hK hPc hDc 0 rfl rfl rfl hl.1 rfl (Nat.le_of_ble_eq_true rfl) dX6_ask_25 ⟨Nat.zero_le _, Nat.zero_le _⟩) hP hD hS hA [9, 10, 11, 12, 13, 14, 15, 16, 2, 3, 4, 5, 6, 7, 8] [0, 1] [0, 1, 10, 11, 12, 13, 14, 15, 16, 2, 3, 4, 5, 6, 7, 8, 9] (wr := gX6 o_t a_t cI u2.1) (wn := gX6 o_t a_t cI u2.1 ++ (gX4 (a_t 0) a_t_0 cI u25.2 ++ (gX1 (a_t 6) a_t_6 ++ gX4 (a_t_6 0) a_t_6_0 cI u25.1))) rfl rfl (by decide) (by decide) rfl (by decide) (fun H locs hP hD hS => ?_)
    have hP : va_P D vwCl (gX6 o_t a_t cI u2.1 ++ (gX4 (a_t 0) a_t_0 cI u25.2 ++ (gX1 (a_t 6) a_t_6 ++ gX4 (a_t_6 0) a_t_6_0 cI u25.1))) H := hP
    have hD : va_D A (gX6 o_t a_t cI u2.1 ++ (gX4 (a_t 0) a_t_0 cI u25.2 ++ (gX1 (a_t 6) a_t_6 ++ gX4 (a_t_6 0) a_t_6_0 cI u25.1))) := hD
    refine W.eq (g2 := F0 m 28 ls [.int r25]) rfl ?_
    have e := so_some hf
    subst e
    exact ri hx hb hK hr hlk hQ dX6_ask_28 hP hD hS
  · replace hf := it_f c7 hf
    refine lv_aload_n hx hb dX6_ask_10 rfl (lv_at hl 1 rfl) ?_
    refine lv_iload_n hx hb dX6_ask_11 rfl (lv_at hl 0 rfl) ?_
    obtain ⟨r12, u12, h12, hf⟩ := bd_some hf
    have hPc := hP.sub (ws' := gX6 o_t a_t cI u2.1) [0, 1] rfl
    have hDc := hD.sub (ws' := gX6 o_t a_t cI u2.1) [0, 1] (by decide) rfl
    refine calX (runV E0.b E0.n (As := [.int r2]) (rest := []) ⟨hx, hb, hml, hown, hts⟩ (c_X6_refused l D cI o_t a_t u2.1 r2 _ h12) gX6_ask_X6_refused rfl rfl rfl hdX6_refused ⟨by decide, by decide⟩ hK hPc hDc 0 rfl rfl rfl hl.1 rfl (Nat.le_of_ble_eq_true rfl) dX6_ask_12 ⟨Nat.zero_le _, Nat.zero_le _⟩) hP hD hS hA [0, 1] [2, 3, 4, 5, 6, 7, 8, 9, 10, 11, 12, 13, 14, 15, 16] [15, 16, 0, 1, 2, 3, 4, 5, 6, 7, 8, 9, 10, 11, 12, 13, 14] (wr := gX4 (a_t 0) a_t_0 cI u2.2 ++ (gX1 (a_t 6) a_t_6 ++ gX4 (a_t_6 0) a_t_6_0 cI S_t_6_0)) (wn := gX6 o_t a_t cI u12 ++ (gX4 (a_t 0) a_t_0 cI u2.2 ++ (gX1 (a_t 6) a_t_6 ++ gX4 (a_t_6 0) a_t_6_0 cI S_t_6_0))) rfl rfl (by decide) (by decide) rfl (by decide) (fun H locs hP hD hS => ?_)
    have hP : va_P D vwCl (gX6 o_t a_t cI u12 ++ (gX4 (a_t 0) a_t_0 cI u2.2 ++ (gX1 (a_t 6) a_t_6 ++ gX4 (a_t_6 0) a_t_6_0 cI S_t_6_0))) H := hP
    have hD : va_D A (gX6 o_t a_t cI u12 ++ (gX4 (a_t 0) a_t_0 cI u2.2 ++ (gX1 (a_t 6) a_t_6 ++ gX4 (a_t_6 0) a_t_6_0 cI S_t_6_0))) := hD
    refine W.eq (g2 := F0 m 15 ls [.int r12]) rfl ?_
    have e := so_some hf
    subst e
    exact ri hx hb hK hr hlk hQ dX6_ask_15 hP hD hS
abbrev rmX6_leave : Room := { frames := 5, cells := 0, slots := 0, locals := 116 }
set_option maxHeartbeats 4000000 in
set_option maxRecDepth 100000 in
theorem c_X6_leave (l : Launch) (D : va_G) (cI : ClassId) (o_t : Nat) (a_t : Nat → Nat) (a_t_0 : Nat → Nat) (a_t_5 : Nat → Nat) (S_t : G) (S_t_0 : G) (S_t_5 : G) (out : Int32 × G × G × G) (hf : f_X6_leave S_t S_t_0 S_t_5 = some out) : Cn E0 l yX6_leave wsX6_leave rmX6_leave D cI [.ref o_t] (gX6 o_t a_t cI S_t ++ (gX4 (a_t 0) a_t_0 cI S_t_0 ++ gX5 (a_t 5) a_t_5 cI S_t_5)) (some (.int out.1)) (gX6 o_t a_t cI out.2.1 ++ (gX4 (a_t 0) a_t_0 cI out.2.2.1 ++ gX5 (a_t 5) a_t_5 cI out.2.2.2)) := by
  refine Cn.mk (cc := cX6_leave) (maxL := 1) (ret := (some .int)) (by decide) rfl (Nat.le_of_ble_eq_true rfl) ?_
  intro p e s m below meth c A ls Q hx hb hml hown hts hK hA hP hD hS hl hr hlk hnm hE hQ
  have hown : s.vm.findClass RX6 = some m.cls := hown
  have hinX6 : ∀ w ∈ u_ws RX6 TX6 9, w ∈ wsX6_leave := by decide +kernel
  unfold f_X6_leave at hf
  have hl : lv_has ls 1 [(0, .ref o_t)] := hl
  obtain ⟨H, hHe⟩ : ∃ H : Heap, H = s.heap := ⟨_, rfl⟩
  obtain ⟨locs, hle⟩ : ∃ q : List Loc, q = [] := ⟨_, rfl⟩
  have hS : va_S A s.heap H locs := by rw [hHe, hle]; exact hS
  rw [← hHe] at hP
  suffices hgo : W p l e rmX6_leave s m ([.ref o_t] : List Value).toArray below meth c H locs 0 0 Q (F0 m 0 ls []) by rw [hHe, hle] at hgo; exact hgo
  clear hHe hle
  refine lv_aload_n hx hb dX6_leave_0 rfl (lv_at hl 0 rfl) ?_
  refine va_get (D := D) (ci := 6) (v := .ref (a_t 5)) (C := RX6) (T := TX6) (N := 9) hx hb hts hinX6 hown hK hP 0 rfl rfl 5 (by decide) (hts (.fieldLink RX6 36 "OnlyStrangersHear" "voices" "LOnlyStrangersHear$Voices;") (by decide +kernel)) (fun _ h9 => h9) rfl dX6_leave_1 ?_
  refine lv_aload_n hx hb dX6_leave_4 rfl (lv_at hl 0 rfl) ?_
  refine va_get (D := D) (ci := 6) (v := .ref (a_t 0)) (C := RX6) (T := TX6) (N := 9) hx hb hts hinX6 hown hK hP 0 rfl rfl 0 (by decide) (hts (.fieldLink RX6 10 "OnlyStrangersHear" "now" "LOnlyStrangersHear$Town;") (by decide +kernel)) (fun _ h9 => h9) rfl dX6_leave_5 ?_
  obtain ⟨r8, u8, h8, hf⟩ := bd_some hf
  have hPc := hP.sub (ws' := gX5 (a_t 5) a_t_5 cI S_t_5 ++ gX4 (a_t 0) a_t_0 cI S_t_0) [9, 10, 2, 3, 4, 5, 6, 7, 8] rfl
  have hDc := hD.sub (ws' := gX5 (a_t 5) a_t_5 cI S_t_5 ++ gX4 (a_t 0) a_t_0 cI S_t_0) [9, 10, 2, 3, 4, 5, 6, 7, 8] (by decide) rfl
  refine calX (runV E0.b E0.n (As := [.ref (a_t 0)]) (rest := []) ⟨hx, hb, hml, hown, hts⟩ (c_X5_whomToLeaveOut l D cI (a_t 5) a_t_5 (a_t 0) a_t_0 S_t_5 S_t_0 _ h8) gX6_leave_X5_whomToLeaveOut rfl rfl rfl hdX5_whomToLeaveOut ⟨by decide, by decide⟩ hK hPc hDc 0 rfl rfl rfl hl.1 rfl (Nat.le_of_ble_eq_true rfl) dX6_leave_8 ⟨Nat.zero_le _, Nat.zero_le _⟩) hP hD hS hA [9, 10, 2, 3, 4, 5, 6, 7, 8] [0, 1] [0, 1, 4, 5, 6, 7, 8, 9, 10, 2, 3] (wr := gX6 o_t a_t cI S_t) (wn := gX6 o_t a_t cI S_t ++ (gX4 (a_t 0) a_t_0 cI u8.2 ++ gX5 (a_t 5) a_t_5 cI u8.1)) rfl rfl (by decide) (by decide) rfl (by decide) (fun H locs hP hD hS => ?_)
  have hP : va_P D vwCl (gX6 o_t a_t cI S_t ++ (gX4 (a_t 0) a_t_0 cI u8.2 ++ gX5 (a_t 5) a_t_5 cI u8.1)) H := hP
  have hD : va_D A (gX6 o_t a_t cI S_t ++ (gX4 (a_t 0) a_t_0 cI u8.2 ++ gX5 (a_t 5) a_t_5 cI u8.1)) := hD
  refine W.eq (g2 := F0 m 11 ls [.int r8]) rfl ?_
  have e := so_some hf
  subst e
  exact ri hx hb hK hr hlk hQ dX6_leave_11 hP hD hS
abbrev rmX6_right : Room := { frames := 5, cells := 0, slots := 0, locals := 112 }
set_option maxHeartbeats 4000000 in
set_option maxRecDepth 100000 in
theorem c_X6_right (l : Launch) (D : va_G) (cI : ClassId) (o_t : Nat) (a_t : Nat → Nat) (a_t_0 : Nat → Nat) (a_t_5 : Nat → Nat) (a_t_6 : Nat → Nat) (a_t_6_0 : Nat → Nat) (S_t : G) (S_t_0 : G) (S_t_5 : G) (S_t_6_0 : G) (x1 : Int32) (out : Int32 × G × G × G × G) (hf : f_X6_right S_t S_t_0 S_t_5 S_t_6_0 x1 = some out) : Cn EX l yX6_right wsX6_right rmX6_right D cI [.ref o_t, .int x1] (gX6 o_t a_t cI S_t ++ (gX4 (a_t 0) a_t_0 cI S_t_0 ++ (gX5 (a_t 5) a_t_5 cI S_t_5 ++ (gX1 (a_t 6) a_t_6 ++ gX4 (a_t_6 0) a_t_6_0 cI S_t_6_0)))) (some (.int out.1)) (gX6 o_t a_t cI out.2.1 ++ (gX4 (a_t 0) a_t_0 cI out.2.2.1 ++ (gX5 (a_t 5) a_t_5 cI out.2.2.2.1 ++ (gX1 (a_t 6) a_t_6 ++ gX4 (a_t_6 0) a_t_6_0 cI out.2.2.2.2)))) := by
  refine Cn.mk (cc := cX6_right) (maxL := 3) (ret := (some .int)) (by decide) rfl (Nat.le_of_ble_eq_true rfl) ?_
  intro p e s m below meth c A ls Q hx hb hml hown hts hK hA hP hD hS hl hr hlk hnm hE hQ
  have hown : s.vm.findClass RX6 = some m.cls := hown
  have hinX6 : ∀ w ∈ u_ws RX6 TX6 9, w ∈ wsX6_right := by decide +kernel
  unfold f_X6_right at hf
  have hl : lv_has ls 3 [(0, .ref o_t), (1, .int x1)] := hl
  obtain ⟨H, hHe⟩ : ∃ H : Heap, H = s.heap := ⟨_, rfl⟩
  obtain ⟨locs, hle⟩ : ∃ q : List Loc, q = [] := ⟨_, rfl⟩
  have hS : va_S A s.heap H locs := by rw [hHe, hle]; exact hS
  rw [← hHe] at hP
  suffices hgo : W p l e rmX6_right s m ([.ref o_t, .int x1] : List Value).toArray below meth c H locs 0 0 Q (F0 m 0 ls []) by rw [hHe, hle] at hgo; exact hgo
  clear hHe hle
  refine lv_iload_n hx hb dX6_right_0 rfl (lv_at hl 1 rfl) ?_
  refine lv_iconst (v := (3 : Int32)) hx hb dX6_right_1 (by decide) ?_
  obtain ⟨r2, u2, h2, hf⟩ := bd_some hf
  have hPc : va_P D vwCl [] H := hP.sub (ws' := []) [] rfl
  have hDc : va_D A [] := hD.sub (ws' := []) [] (by decide) rfl
  refine calXe (runS E0.b E0.n (As := [.int x1, .int (3 : Int32)]) (rest := []) ⟨hx, hb, hml, hown, hts⟩ (c_X6_choice l D cI x1 (3 : Int32) _ h2) gX6_right_X6_choice rfl rfl rfl hdX6_choice ⟨by decide, by decide⟩ hK hPc hDc rfl hl.1 rfl (Nat.le_of_ble_eq_true rfl) dX6_right_2 ⟨Nat.zero_le _, Nat.zero_le _⟩) hP hD hS hA (fun H locs hP hD hS => ?_)
  have hP : va_P D vwCl (gX6 o_t a_t cI S_t ++ (gX4 (a_t 0) a_t_0 cI S_t_0 ++ (gX5 (a_t 5) a_t_5 cI S_t_5 ++ (gX1 (a_t 6) a_t_6 ++ gX4 (a_t_6 0) a_t_6_0 cI S_t_6_0)))) H := hP
  have hD : va_D A (gX6 o_t a_t cI S_t ++ (gX4 (a_t 0) a_t_0 cI S_t_0 ++ (gX5 (a_t 5) a_t_5 cI S_t_5 ++ (gX1 (a_t 6) a_t_6 ++ gX4 (a_t_6 0) a_t_6_0 cI S_t_6_0)))) := hD
  refine W.eq (g2 := F0 m 5 ls [.int r2]) rfl ?_
  refine lv_istore_n (lv' := [(2, .int r2), (0, .ref o_t), (1, .int x1)]) hx hb dX6_right_5 rfl hl (by decide) rfl (fun ls hl => ?_)
  refine lv_iload_n hx hb dX6_right_6 rfl (lv_at hl 0 rfl) ?_
  refine lv_if_eq (tgt := 16) hx hb dX6_right_7 (by decide) (fun c7 => ?_) (fun c7 => ?_)
  · replace hf := it_t c7 hf
    refine lv_iload_n hx hb dX6_right_16 rfl (lv_at hl 2 rfl) ?_
    by_cases ck0 : x1 = (0 : Int32)
    · replace hf := it_t ck0 hf
      refine lv_lookup (off := 27) (tgt := 44) hx hb dX6_right_17 (by decide) (by rw [ck0]; decide) (by decide) ?_
      refine lv_aload_n hx hb dX6_right_44 rfl (lv_at hl 1 rfl) ?_
      refine va_get (D := D) (ci := 6) (v := .ref (a_t 5)) (C := RX6) (T := TX6) (N := 9) hx hb hts hinX6 hown hK hP 0 rfl rfl 5 (by decide) (hts (.fieldLink RX6 36 "OnlyStrangersHear" "voices" "LOnlyStrangersHear$Voices;") (by decide +kernel)) (fun _ h9 => h9) rfl dX6_right_45 ?_
      refine lv_aload_n hx hb dX6_right_48 rfl (lv_at hl 1 rfl) ?_
      refine va_get (D := D) (ci := 6) (v := .ref (a_t 0)) (C := RX6) (T := TX6) (N := 9) hx hb hts hinX6 hown hK hP 0 rfl rfl 0 (by decide) (hts (.fieldLink RX6 10 "OnlyStrangersHear" "now" "LOnlyStrangersHear$Town;") (by decide +kernel)) (fun _ h9 => h9) rfl dX6_right_49 ?_
      refine lv_bipush (v := (-9 : Int32)) hx hb dX6_right_52 (by decide) ?_
      obtain ⟨r54, u54, h54, hf⟩ := bd_some hf
      have hPc := hP.sub (ws' := gX5 (a_t 5) a_t_5 cI S_t_5 ++ gX4 (a_t 0) a_t_0 cI S_t_0) [9, 10, 2, 3, 4, 5, 6, 7, 8] rfl
      have hDc := hD.sub (ws' := gX5 (a_t 5) a_t_5 cI S_t_5 ++ gX4 (a_t 0) a_t_0 cI S_t_0) [9, 10, 2, 3, 4, 5, 6, 7, 8] (by decide) rfl
      refine calX (runV E0.b E0.n (As := [.ref (a_t 0), .int (-9 : Int32)]) (rest := []) ⟨hx, hb, hml, hown, hts⟩ (c_X5_rightBells l D cI (a_t 5) a_t_5 (a_t 0) a_t_0 S_t_5 S_t_0 (-9 : Int32) _ h54) gX6_right_X5_rightBells rfl rfl rfl hdX5_rightBells ⟨by decide, by decide⟩ hK hPc hDc 0 rfl rfl rfl hl.1 rfl (Nat.le_of_ble_eq_true rfl) dX6_right_54 ⟨Nat.zero_le _, Nat.zero_le _⟩) hP hD hS hA [9, 10, 2, 3, 4, 5, 6, 7, 8] [0, 1, 11, 12, 13, 14, 15, 16, 17, 18] [0, 1, 12, 13, 14, 15, 16, 17, 18, 10, 11, 2, 3, 4, 5, 6, 7, 8, 9] (wr := gX6 o_t a_t cI S_t ++ (gX1 (a_t 6) a_t_6 ++ gX4 (a_t_6 0) a_t_6_0 cI S_t_6_0)) (wn := gX6 o_t a_t cI S_t ++ (gX4 (a_t 0) a_t_0 cI u54.2 ++ (gX5 (a_t 5) a_t_5 cI u54.1 ++ (gX1 (a_t 6) a_t_6 ++ gX4 (a_t_6 0) a_t_6_0 cI S_t_6_0)))) rfl rfl (by decide) (by decide) rfl (by decide) (fun H locs hP hD hS => ?_)
      have hP : va_P D vwCl (gX6 o_t a_t cI S_t ++ (gX4 (a_t 0) a_t_0 cI u54.2 ++ (gX5 (a_t 5) a_t_5 cI u54.1 ++ (gX1 (a_t 6) a_t_6 ++ gX4 (a_t_6 0) a_t_6_0 cI S_t_6_0)))) H := hP
      have hD : va_D A (gX6 o_t a_t cI S_t ++ (gX4 (a_t 0) a_t_0 cI u54.2 ++ (gX5 (a_t 5) a_t_5 cI u54.1 ++ (gX1 (a_t 6) a_t_6 ++ gX4 (a_t_6 0) a_t_6_0 cI S_t_6_0)))) := hD
      refine W.eq (g2 := F0 m 57 ls [.int r54]) rfl ?_
      have e := so_some hf
      subst e
      exact ri hx hb hK hr hlk hQ dX6_right_57 hP hD hS
    · replace hf := it_f ck0 hf
      by_cases ck1 : x1 = (1 : Int32)
      · replace hf := it_t ck1 hf
        refine lv_lookup (off := 41) (tgt := 58) hx hb dX6_right_17 (by decide) (by rw [ck1]; decide) (by decide) ?_
        refine lv_aload_n hx hb dX6_right_58 rfl (lv_at hl 1 rfl) ?_
        refine va_get (D := D) (ci := 6) (v := .ref (a_t 5)) (C := RX6) (T := TX6) (N := 9) hx hb hts hinX6 hown hK hP 0 rfl rfl 5 (by decide) (hts (.fieldLink RX6 36 "OnlyStrangersHear" "voices" "LOnlyStrangersHear$Voices;") (by decide +kernel)) (fun _ h9 => h9) rfl dX6_right_59 ?_
        refine lv_aload_n hx hb dX6_right_62 rfl (lv_at hl 1 rfl) ?_
        refine va_get (D := D) (ci := 6) (v := .ref (a_t 0)) (C := RX6) (T := TX6) (N := 9) hx hb hts hinX6 hown hK hP 0 rfl rfl 0 (by decide) (hts (.fieldLink RX6 10 "OnlyStrangersHear" "now" "LOnlyStrangersHear$Town;") (by decide +kernel)) (fun _ h9 => h9) rfl dX6_right_63 ?_
        obtain ⟨r66, u66, h66, hf⟩ := bd_some hf
        have hPc := hP.sub (ws' := gX5 (a_t 5) a_t_5 cI S_t_5 ++ gX4 (a_t 0) a_t_0 cI S_t_0) [9, 10, 2, 3, 4, 5, 6, 7, 8] rfl
        have hDc := hD.sub (ws' := gX5 (a_t 5) a_t_5 cI S_t_5 ++ gX4 (a_t 0) a_t_0 cI S_t_0) [9, 10, 2, 3, 4, 5, 6, 7, 8] (by decide) rfl
        refine calX (runV E0.b E0.n (As := [.ref (a_t 0)]) (rest := []) ⟨hx, hb, hml, hown, hts⟩ (c_X5_wrongBells l D cI (a_t 5) a_t_5 (a_t 0) a_t_0 S_t_5 S_t_0 _ h66) gX6_right_X5_wrongBells rfl rfl rfl hdX5_wrongBells ⟨by decide, by decide⟩ hK hPc hDc 0 rfl rfl rfl hl.1 rfl (Nat.le_of_ble_eq_true rfl) dX6_right_66 ⟨Nat.zero_le _, Nat.zero_le _⟩) hP hD hS hA [9, 10, 2, 3, 4, 5, 6, 7, 8] [0, 1, 11, 12, 13, 14, 15, 16, 17, 18] [0, 1, 12, 13, 14, 15, 16, 17, 18, 10, 11, 2, 3, 4, 5, 6, 7, 8, 9] (wr := gX6 o_t a_t cI S_t ++ (gX1 (a_t 6) a_t_6 ++ gX4 (a_t_6 0) a_t_6_0 cI S_t_6_0)) (wn := gX6 o_t a_t cI S_t ++ (gX4 (a_t 0) a_t_0 cI u66.2 ++ (gX5 (a_t 5) a_t_5 cI u66.1 ++ (gX1 (a_t 6) a_t_6 ++ gX4 (a_t_6 0) a_t_6_0 cI S_t_6_0)))) rfl rfl (by decide) (by decide) rfl (by decide) (fun H locs hP hD hS => ?_)
        have hP : va_P D vwCl (gX6 o_t a_t cI S_t ++ (gX4 (a_t 0) a_t_0 cI u66.2 ++ (gX5 (a_t 5) a_t_5 cI u66.1 ++ (gX1 (a_t 6) a_t_6 ++ gX4 (a_t_6 0) a_t_6_0 cI S_t_6_0)))) H := hP
        have hD : va_D A (gX6 o_t a_t cI S_t ++ (gX4 (a_t 0) a_t_0 cI u66.2 ++ (gX5 (a_t 5) a_t_5 cI u66.1 ++ (gX1 (a_t 6) a_t_6 ++ gX4 (a_t_6 0) a_t_6_0 cI S_t_6_0)))) := hD
        refine W.eq (g2 := F0 m 69 ls [.int r66]) rfl ?_
        have e := so_some hf
        subst e
        exact ri hx hb hK hr hlk hQ dX6_right_69 hP hD hS
      · replace hf := it_f ck1 hf
        refine lv_lookup (off := 53) (tgt := 70) hx hb dX6_right_17 (by decide) (by rw [lv_osw (k := 0) (a := 0) ck0 (by decide)]; rw [lv_osw (k := 1) (a := 1) ck1 (by decide)]; rfl) (by decide) ?_
        refine lv_aload_n hx hb dX6_right_70 rfl (lv_at hl 1 rfl) ?_
        refine va_get (D := D) (ci := 6) (v := .ref (a_t 6)) (C := RX6) (T := TX6) (N := 9) hx hb hts hinX6 hown hK hP 0 rfl rfl 6 (by decide) (hts (.fieldLink RX6 43 "OnlyStrangersHear" "mind" "LOnlyStrangersHear$Mind;") (by decide +kernel)) (fun _ h9 => h9) rfl dX6_right_71 ?_
        refine lv_aload_n hx hb dX6_right_74 rfl (lv_at hl 1 rfl) ?_
        refine va_get (D := D) (ci := 6) (v := .ref (a_t 0)) (C := RX6) (T := TX6) (N := 9) hx hb hts hinX6 hown hK hP 0 rfl rfl 0 (by decide) (hts (.fieldLink RX6 10 "OnlyStrangersHear" "now" "LOnlyStrangersHear$Town;") (by decide +kernel)) (fun _ h9 => h9) rfl dX6_right_75 ?_
        obtain ⟨r78, u78, h78, hf⟩ := bd_some hf
        have hPc := hP.sub (ws' := gX1 (a_t 6) a_t_6 ++ (gX4 (a_t_6 0) a_t_6_0 cI S_t_6_0 ++ gX4 (a_t 0) a_t_0 cI S_t_0)) [11, 12, 13, 14, 15, 16, 17, 18, 2, 3, 4, 5, 6, 7, 8] rfl
        have hDc := hD.sub (ws' := gX1 (a_t 6) a_t_6 ++ (gX4 (a_t_6 0) a_t_6_0 cI S_t_6_0 ++ gX4 (a_t 0) a_t_0 cI S_t_0)) [11, 12, 13, 14, 15, 16, 17, 18, 2, 3, 4, 5, 6, 7, 8] (by decide) rfl
        refine calX (runV EX.b (EX.n hE hS (va_free (wc := gX1 (a_t 6) a_t_6 ++ (gX4 (a_t_6 0) a_t_6_0 cI S_t_6_0 ++ gX4 (a_t 0) a_t_0 cI S_t_0)) hD hS hA [11, 12, 13, 14, 15, 16, 17, 18, 2, 3, 4, 5, 6, 7, 8] rfl)) (As := [.ref (a_t 0)]) (rest := []) ⟨hx, hb, hml, hown, hts⟩ (c_X1_lastDeaf l D cI (a_t 6) a_t_6 a_t_6_0 (a_t 0) a_t_0 S_t_6_0 S_t_0 _ h78) gX6_right_X1_lastDeaf rfl rfl rfl hdX1_lastDeaf ⟨by decide, by decide⟩ hK hPc hDc 0 rfl rfl rfl hl.1 rfl (Nat.le_of_ble_eq_true rfl) dX6_right_78 ⟨Nat.zero_le _, Nat.zero_le _⟩) hP hD hS hA [11, 12, 13, 14, 15, 16, 17, 18, 2, 3, 4, 5, 6, 7, 8] [0, 1, 9, 10] [0, 1, 12, 13, 14, 15, 16, 17, 18, 2, 3, 4, 5, 6, 7, 8, 9, 10, 11] (wr := gX6 o_t a_t cI S_t ++ gX5 (a_t 5) a_t_5 cI S_t_5) (wn := gX6 o_t a_t cI S_t ++ (gX4 (a_t 0) a_t_0 cI u78.2 ++ (gX5 (a_t 5) a_t_5 cI S_t_5 ++ (gX1 (a_t 6) a_t_6 ++ gX4 (a_t_6 0) a_t_6_0 cI u78.1)))) rfl rfl (by decide) (by decide) rfl (by decide) (fun H locs hP hD hS => ?_)
        have hP : va_P D vwCl (gX6 o_t a_t cI S_t ++ (gX4 (a_t 0) a_t_0 cI u78.2 ++ (gX5 (a_t 5) a_t_5 cI S_t_5 ++ (gX1 (a_t 6) a_t_6 ++ gX4 (a_t_6 0) a_t_6_0 cI u78.1)))) H := hP
        have hD : va_D A (gX6 o_t a_t cI S_t ++ (gX4 (a_t 0) a_t_0 cI u78.2 ++ (gX5 (a_t 5) a_t_5 cI S_t_5 ++ (gX1 (a_t 6) a_t_6 ++ gX4 (a_t_6 0) a_t_6_0 cI u78.1)))) := hD
        refine W.eq (g2 := F0 m 81 ls [.int r78]) rfl ?_
        have e := so_some hf
        subst e
        exact ri hx hb hK hr hlk hQ dX6_right_81 hP hD hS
  · replace hf := it_f c7 hf
    refine lv_aload_n hx hb dX6_right_10 rfl (lv_at hl 1 rfl) ?_
    refine lv_iload_n hx hb dX6_right_11 rfl (lv_at hl 0 rfl) ?_
    obtain ⟨r12, u12, h12, hf⟩ := bd_some hf
    have hPc := hP.sub (ws' := gX6 o_t a_t cI S_t) [0, 1] rfl
    have hDc := hD.sub (ws' := gX6 o_t a_t cI S_t) [0, 1] (by decide) rfl
    refine calX (runV E0.b E0.n (As := [.int r2]) (rest := []) ⟨hx, hb, hml, hown, hts⟩ (c_X6_refused l D cI o_t a_t S_t r2 _ h12) gX6_right_X6_refused rfl rfl rfl hdX6_refused ⟨by decide, by decide⟩ hK hPc hDc 0 rfl rfl rfl hl.1 rfl (Nat.le_of_ble_eq_true rfl) dX6_right_12 ⟨Nat.zero_le _, Nat.zero_le _⟩) hP hD hS hA [0, 1] [2, 3, 4, 5, 6, 7, 8, 9, 10, 11, 12, 13, 14, 15, 16, 17, 18] [17, 18, 0, 1, 2, 3, 4, 5, 6, 7, 8, 9, 10, 11, 12, 13, 14, 15, 16] (wr := gX4 (a_t 0) a_t_0 cI S_t_0 ++ (gX5 (a_t 5) a_t_5 cI S_t_5 ++ (gX1 (a_t 6) a_t_6 ++ gX4 (a_t_6 0) a_t_6_0 cI S_t_6_0))) (wn := gX6 o_t a_t cI u12 ++ (gX4 (a_t 0) a_t_0 cI S_t_0 ++ (gX5 (a_t 5) a_t_5 cI S_t_5 ++ (gX1 (a_t 6) a_t_6 ++ gX4 (a_t_6 0) a_t_6_0 cI S_t_6_0)))) rfl rfl (by decide) (by decide) rfl (by decide) (fun H locs hP hD hS => ?_)
    have hP : va_P D vwCl (gX6 o_t a_t cI u12 ++ (gX4 (a_t 0) a_t_0 cI S_t_0 ++ (gX5 (a_t 5) a_t_5 cI S_t_5 ++ (gX1 (a_t 6) a_t_6 ++ gX4 (a_t_6 0) a_t_6_0 cI S_t_6_0)))) H := hP
    have hD : va_D A (gX6 o_t a_t cI u12 ++ (gX4 (a_t 0) a_t_0 cI S_t_0 ++ (gX5 (a_t 5) a_t_5 cI S_t_5 ++ (gX1 (a_t 6) a_t_6 ++ gX4 (a_t_6 0) a_t_6_0 cI S_t_6_0)))) := hD
    refine W.eq (g2 := F0 m 15 ls [.int r12]) rfl ?_
    have e := so_some hf
    subst e
    exact ri hx hb hK hr hlk hQ dX6_right_15 hP hD hS
abbrev rmX6_clash : Room := { frames := 4, cells := 0, slots := 0, locals := 90 }
set_option maxHeartbeats 4000000 in
set_option maxRecDepth 100000 in
theorem c_X6_clash (l : Launch) (D : va_G) (cI : ClassId) (o_t : Nat) (a_t : Nat → Nat) (a_t_0 : Nat → Nat) (a_t_5 : Nat → Nat) (S_t : G) (S_t_0 : G) (S_t_5 : G) (x1 : Int32) (out : Int32 × G × G × G) (hf : f_X6_clash S_t S_t_0 S_t_5 x1 = some out) : Cn E0 l yX6_clash wsX6_clash rmX6_clash D cI [.ref o_t, .int x1] (gX6 o_t a_t cI S_t ++ (gX4 (a_t 0) a_t_0 cI S_t_0 ++ gX5 (a_t 5) a_t_5 cI S_t_5)) (some (.int out.1)) (gX6 o_t a_t cI out.2.1 ++ (gX4 (a_t 0) a_t_0 cI out.2.2.1 ++ gX5 (a_t 5) a_t_5 cI out.2.2.2)) := by
  refine Cn.mk (cc := cX6_clash) (maxL := 3) (ret := (some .int)) (by decide) rfl (Nat.le_of_ble_eq_true rfl) ?_
  intro p e s m below meth c A ls Q hx hb hml hown hts hK hA hP hD hS hl hr hlk hnm hE hQ
  have hown : s.vm.findClass RX6 = some m.cls := hown
  have hinX6 : ∀ w ∈ u_ws RX6 TX6 9, w ∈ wsX6_clash := by decide +kernel
  unfold f_X6_clash at hf
  have hl : lv_has ls 3 [(0, .ref o_t), (1, .int x1)] := hl
  obtain ⟨H, hHe⟩ : ∃ H : Heap, H = s.heap := ⟨_, rfl⟩
  obtain ⟨locs, hle⟩ : ∃ q : List Loc, q = [] := ⟨_, rfl⟩
  have hS : va_S A s.heap H locs := by rw [hHe, hle]; exact hS
  rw [← hHe] at hP
  suffices hgo : W p l e rmX6_clash s m ([.ref o_t, .int x1] : List Value).toArray below meth c H locs 0 0 Q (F0 m 0 ls []) by rw [hHe, hle] at hgo; exact hgo
  clear hHe hle
  refine lv_iload_n hx hb dX6_clash_0 rfl (lv_at hl 1 rfl) ?_
  refine lv_iconst (v := (2 : Int32)) hx hb dX6_clash_1 (by decide) ?_
  obtain ⟨r2, u2, h2, hf⟩ := bd_some hf
  have hPc : va_P D vwCl [] H := hP.sub (ws' := []) [] rfl
  have hDc : va_D A [] := hD.sub (ws' := []) [] (by decide) rfl
  refine calXe (runS E0.b E0.n (As := [.int x1, .int (2 : Int32)]) (rest := []) ⟨hx, hb, hml, hown, hts⟩ (c_X6_choice l D cI x1 (2 : Int32) _ h2) gX6_clash_X6_choice rfl rfl rfl hdX6_choice ⟨by decide, by decide⟩ hK hPc hDc rfl hl.1 rfl (Nat.le_of_ble_eq_true rfl) dX6_clash_2 ⟨Nat.zero_le _, Nat.zero_le _⟩) hP hD hS hA (fun H locs hP hD hS => ?_)
  have hP : va_P D vwCl (gX6 o_t a_t cI S_t ++ (gX4 (a_t 0) a_t_0 cI S_t_0 ++ gX5 (a_t 5) a_t_5 cI S_t_5)) H := hP
  have hD : va_D A (gX6 o_t a_t cI S_t ++ (gX4 (a_t 0) a_t_0 cI S_t_0 ++ gX5 (a_t 5) a_t_5 cI S_t_5)) := hD
  refine W.eq (g2 := F0 m 5 ls [.int r2]) rfl ?_
  refine lv_istore_n (lv' := [(2, .int r2), (0, .ref o_t), (1, .int x1)]) hx hb dX6_clash_5 rfl hl (by decide) rfl (fun ls hl => ?_)
  refine lv_iload_n hx hb dX6_clash_6 rfl (lv_at hl 0 rfl) ?_
  refine lv_if_eq (tgt := 16) hx hb dX6_clash_7 (by decide) (fun c7 => ?_) (fun c7 => ?_)
  · replace hf := it_t c7 hf
    refine lv_iload_n hx hb dX6_clash_16 rfl (lv_at hl 2 rfl) ?_
    refine lv_if_ne (tgt := 34) hx hb dX6_clash_17 (by decide) (fun c17 => ?_) (fun c17 => ?_)
    · replace hf := it_f c17 hf
      refine lv_aload_n hx hb dX6_clash_34 rfl (lv_at hl 1 rfl) ?_
      refine va_get (D := D) (ci := 6) (v := .ref (a_t 5)) (C := RX6) (T := TX6) (N := 9) hx hb hts hinX6 hown hK hP 0 rfl rfl 5 (by decide) (hts (.fieldLink RX6 36 "OnlyStrangersHear" "voices" "LOnlyStrangersHear$Voices;") (by decide +kernel)) (fun _ h9 => h9) rfl dX6_clash_35 ?_
      refine lv_aload_n hx hb dX6_clash_38 rfl (lv_at hl 1 rfl) ?_
      refine va_get (D := D) (ci := 6) (v := .ref (a_t 0)) (C := RX6) (T := TX6) (N := 9) hx hb hts hinX6 hown hK hP 0 rfl rfl 0 (by decide) (hts (.fieldLink RX6 10 "OnlyStrangersHear" "now" "LOnlyStrangersHear$Town;") (by decide +kernel)) (fun _ h9 => h9) rfl dX6_clash_39 ?_
      obtain ⟨r42, u42, h42, hf⟩ := bd_some hf
      have hPc := hP.sub (ws' := gX5 (a_t 5) a_t_5 cI S_t_5 ++ gX4 (a_t 0) a_t_0 cI S_t_0) [9, 10, 2, 3, 4, 5, 6, 7, 8] rfl
      have hDc := hD.sub (ws' := gX5 (a_t 5) a_t_5 cI S_t_5 ++ gX4 (a_t 0) a_t_0 cI S_t_0) [9, 10, 2, 3, 4, 5, 6, 7, 8] (by decide) rfl
      refine calX (runV E0.b E0.n (As := [.ref (a_t 0)]) (rest := []) ⟨hx, hb, hml, hown, hts⟩ (c_X5_firstClash l D cI (a_t 5) a_t_5 (a_t 0) a_t_0 S_t_5 S_t_0 _ h42) gX6_clash_X5_firstClash rfl rfl rfl hdX5_firstClash ⟨by decide, by decide⟩ hK hPc hDc 0 rfl rfl rfl hl.1 rfl (Nat.le_of_ble_eq_true rfl) dX6_clash_42 ⟨Nat.zero_le _, Nat.zero_le _⟩) hP hD hS hA [9, 10, 2, 3, 4, 5, 6, 7, 8] [0, 1] [0, 1, 4, 5, 6, 7, 8, 9, 10, 2, 3] (wr := gX6 o_t a_t cI S_t) (wn := gX6 o_t a_t cI S_t ++ (gX4 (a_t 0) a_t_0 cI u42.2 ++ gX5 (a_t 5) a_t_5 cI u42.1)) rfl rfl (by decide) (by decide) rfl (by decide) (fun H locs hP hD hS => ?_)
      have hP : va_P D vwCl (gX6 o_t a_t cI S_t ++ (gX4 (a_t 0) a_t_0 cI u42.2 ++ gX5 (a_t 5) a_t_5 cI u42.1)) H := hP
      have hD : va_D A (gX6 o_t a_t cI S_t ++ (gX4 (a_t 0) a_t_0 cI u42.2 ++ gX5 (a_t 5) a_t_5 cI u42.1)) := hD
      refine W.eq (g2 := F0 m 45 ls [.int r42]) rfl ?_
      have e := so_some hf
      subst e
      exact ri hx hb hK hr hlk hQ dX6_clash_45 hP hD hS
    · replace hf := it_t c17 hf
      refine lv_aload_n hx hb dX6_clash_20 rfl (lv_at hl 1 rfl) ?_
      refine va_get (D := D) (ci := 6) (v := .ref (a_t 5)) (C := RX6) (T := TX6) (N := 9) hx hb hts hinX6 hown hK hP 0 rfl rfl 5 (by decide) (hts (.fieldLink RX6 36 "OnlyStrangersHear" "voices" "LOnlyStrangersHear$Voices;") (by decide +kernel)) (fun _ h9 => h9) rfl dX6_clash_21 ?_
      refine lv_aload_n hx hb dX6_clash_24 rfl (lv_at hl 1 rfl) ?_
      refine va_get (D := D) (ci := 6) (v := .ref (a_t 0)) (C := RX6) (T := TX6) (N := 9) hx hb hts hinX6 hown hK hP 0 rfl rfl 0 (by decide) (hts (.fieldLink RX6 10 "OnlyStrangersHear" "now" "LOnlyStrangersHear$Town;") (by decide +kernel)) (fun _ h9 => h9) rfl dX6_clash_25 ?_
      obtain ⟨r28, u28, h28, hf⟩ := bd_some hf
      have hPc := hP.sub (ws' := gX5 (a_t 5) a_t_5 cI S_t_5 ++ gX4 (a_t 0) a_t_0 cI S_t_0) [9, 10, 2, 3, 4, 5, 6, 7, 8] rfl
      have hDc := hD.sub (ws' := gX5 (a_t 5) a_t_5 cI S_t_5 ++ gX4 (a_t 0) a_t_0 cI S_t_0) [9, 10, 2, 3, 4, 5, 6, 7, 8] (by decide) rfl
      refine calX (runV E0.b E0.n (As := [.ref (a_t 0)]) (rest := []) ⟨hx, hb, hml, hown, hts⟩ (c_X5_clashes l D cI (a_t 5) a_t_5 (a_t 0) a_t_0 S_t_5 S_t_0 _ h28) gX6_clash_X5_clashes rfl rfl rfl hdX5_clashes ⟨by decide, by decide⟩ hK hPc hDc 0 rfl rfl rfl hl.1 rfl (Nat.le_of_ble_eq_true rfl) dX6_clash_28 ⟨Nat.zero_le _, Nat.zero_le _⟩) hP hD hS hA [9, 10, 2, 3, 4, 5, 6, 7, 8] [0, 1] [0, 1, 4, 5, 6, 7, 8, 9, 10, 2, 3] (wr := gX6 o_t a_t cI S_t) (wn := gX6 o_t a_t cI S_t ++ (gX4 (a_t 0) a_t_0 cI u28.2 ++ gX5 (a_t 5) a_t_5 cI u28.1)) rfl rfl (by decide) (by decide) rfl (by decide) (fun H locs hP hD hS => ?_)
      have hP : va_P D vwCl (gX6 o_t a_t cI S_t ++ (gX4 (a_t 0) a_t_0 cI u28.2 ++ gX5 (a_t 5) a_t_5 cI u28.1)) H := hP
      have hD : va_D A (gX6 o_t a_t cI S_t ++ (gX4 (a_t 0) a_t_0 cI u28.2 ++ gX5 (a_t 5) a_t_5 cI u28.1)) := hD
      refine W.eq (g2 := F0 m 31 ls [.int r28]) rfl ?_
      refine lv_goto (tgt := 45) hx hb dX6_clash_31 (by decide) ?_
      have e := so_some hf
      subst e
      exact ri hx hb hK hr hlk hQ dX6_clash_45 hP hD hS
  · replace hf := it_f c7 hf
    refine lv_aload_n hx hb dX6_clash_10 rfl (lv_at hl 1 rfl) ?_
    refine lv_iload_n hx hb dX6_clash_11 rfl (lv_at hl 0 rfl) ?_
    obtain ⟨r12, u12, h12, hf⟩ := bd_some hf
    have hPc := hP.sub (ws' := gX6 o_t a_t cI S_t) [0, 1] rfl
    have hDc := hD.sub (ws' := gX6 o_t a_t cI S_t) [0, 1] (by decide) rfl
    refine calX (runV E0.b E0.n (As := [.int r2]) (rest := []) ⟨hx, hb, hml, hown, hts⟩ (c_X6_refused l D cI o_t a_t S_t r2 _ h12) gX6_clash_X6_refused rfl rfl rfl hdX6_refused ⟨by decide, by decide⟩ hK hPc hDc 0 rfl rfl rfl hl.1 rfl (Nat.le_of_ble_eq_true rfl) dX6_clash_12 ⟨Nat.zero_le _, Nat.zero_le _⟩) hP hD hS hA [0, 1] [2, 3, 4, 5, 6, 7, 8, 9, 10] [9, 10, 0, 1, 2, 3, 4, 5, 6, 7, 8] (wr := gX4 (a_t 0) a_t_0 cI S_t_0 ++ gX5 (a_t 5) a_t_5 cI S_t_5) (wn := gX6 o_t a_t cI u12 ++ (gX4 (a_t 0) a_t_0 cI S_t_0 ++ gX5 (a_t 5) a_t_5 cI S_t_5)) rfl rfl (by decide) (by decide) rfl (by decide) (fun H locs hP hD hS => ?_)
    have hP : va_P D vwCl (gX6 o_t a_t cI u12 ++ (gX4 (a_t 0) a_t_0 cI S_t_0 ++ gX5 (a_t 5) a_t_5 cI S_t_5)) H := hP
    have hD : va_D A (gX6 o_t a_t cI u12 ++ (gX4 (a_t 0) a_t_0 cI S_t_0 ++ gX5 (a_t 5) a_t_5 cI S_t_5)) := hD
    refine W.eq (g2 := F0 m 15 ls [.int r12]) rfl ?_
    have e := so_some hf
    subst e
    exact ri hx hb hK hr hlk hQ dX6_clash_15 hP hD hS
abbrev rmX6_agreed : Room := { frames := 5, cells := 0, slots := 0, locals := 113 }
set_option maxHeartbeats 4000000 in
set_option maxRecDepth 100000 in
theorem c_X6_agreed (l : Launch) (D : va_G) (cI : ClassId) (o_t : Nat) (a_t : Nat → Nat) (a_t_0 : Nat → Nat) (a_t_5 : Nat → Nat) (S_t : G) (S_t_0 : G) (S_t_5 : G) (x1 : Int32) (out : Int32 × G × G × G) (hf : f_X6_agreed S_t S_t_0 S_t_5 x1 = some out) : Cn E0 l yX6_agreed wsX6_agreed rmX6_agreed D cI [.ref o_t, .int x1] (gX6 o_t a_t cI S_t ++ (gX4 (a_t 0) a_t_0 cI S_t_0 ++ gX5 (a_t 5) a_t_5 cI S_t_5)) (some (.int out.1)) (gX6 o_t a_t cI out.2.1 ++ (gX4 (a_t 0) a_t_0 cI out.2.2.1 ++ gX5 (a_t 5) a_t_5 cI out.2.2.2)) := by
  refine Cn.mk (cc := cX6_agreed) (maxL := 4) (ret := (some .int)) (by decide) rfl (Nat.le_of_ble_eq_true rfl) ?_
  intro p e s m below meth c A ls Q hx hb hml hown hts hK hA hP hD hS hl hr hlk hnm hE hQ
  have hown : s.vm.findClass RX6 = some m.cls := hown
  have hinX6 : ∀ w ∈ u_ws RX6 TX6 9, w ∈ wsX6_agreed := by decide +kernel
  unfold f_X6_agreed at hf
  have hl : lv_has ls 4 [(0, .ref o_t), (1, .int x1)] := hl
  obtain ⟨H, hHe⟩ : ∃ H : Heap, H = s.heap := ⟨_, rfl⟩
  obtain ⟨locs, hle⟩ : ∃ q : List Loc, q = [] := ⟨_, rfl⟩
  have hS : va_S A s.heap H locs := by rw [hHe, hle]; exact hS
  rw [← hHe] at hP
  suffices hgo : W p l e rmX6_agreed s m ([.ref o_t, .int x1] : List Value).toArray below meth c H locs 0 0 Q (F0 m 0 ls []) by rw [hHe, hle] at hgo; exact hgo
  clear hHe hle
  refine lv_iload_n hx hb dX6_agreed_0 rfl (lv_at hl 1 rfl) ?_
  refine lv_iconst (v := (2 : Int32)) hx hb dX6_agreed_1 (by decide) ?_
  obtain ⟨r2, u2, h2, hf⟩ := bd_some hf
  have hPc : va_P D vwCl [] H := hP.sub (ws' := []) [] rfl
  have hDc : va_D A [] := hD.sub (ws' := []) [] (by decide) rfl
  refine calXe (runS E0.b E0.n (As := [.int x1, .int (2 : Int32)]) (rest := []) ⟨hx, hb, hml, hown, hts⟩ (c_X6_choice l D cI x1 (2 : Int32) _ h2) gX6_agreed_X6_choice rfl rfl rfl hdX6_choice ⟨by decide, by decide⟩ hK hPc hDc rfl hl.1 rfl (Nat.le_of_ble_eq_true rfl) dX6_agreed_2 ⟨Nat.zero_le _, Nat.zero_le _⟩) hP hD hS hA (fun H locs hP hD hS => ?_)
  have hP : va_P D vwCl (gX6 o_t a_t cI S_t ++ (gX4 (a_t 0) a_t_0 cI S_t_0 ++ gX5 (a_t 5) a_t_5 cI S_t_5)) H := hP
  have hD : va_D A (gX6 o_t a_t cI S_t ++ (gX4 (a_t 0) a_t_0 cI S_t_0 ++ gX5 (a_t 5) a_t_5 cI S_t_5)) := hD
  refine W.eq (g2 := F0 m 5 ls [.int r2]) rfl ?_
  refine lv_istore_n (lv' := [(2, .int r2), (0, .ref o_t), (1, .int x1)]) hx hb dX6_agreed_5 rfl hl (by decide) rfl (fun ls hl => ?_)
  refine lv_iload_n hx hb dX6_agreed_6 rfl (lv_at hl 0 rfl) ?_
  refine lv_if_eq (tgt := 16) hx hb dX6_agreed_7 (by decide) (fun c7 => ?_) (fun c7 => ?_)
  · replace hf := it_t c7 hf
    refine lv_aload_n hx hb dX6_agreed_16 rfl (lv_at hl 1 rfl) ?_
    refine va_get (D := D) (ci := 6) (v := .ref (a_t 5)) (C := RX6) (T := TX6) (N := 9) hx hb hts hinX6 hown hK hP 0 rfl rfl 5 (by decide) (hts (.fieldLink RX6 36 "OnlyStrangersHear" "voices" "LOnlyStrangersHear$Voices;") (by decide +kernel)) (fun _ h9 => h9) rfl dX6_agreed_17 ?_
    refine lv_aload_n hx hb dX6_agreed_20 rfl (lv_at hl 1 rfl) ?_
    refine va_get (D := D) (ci := 6) (v := .ref (a_t 0)) (C := RX6) (T := TX6) (N := 9) hx hb hts hinX6 hown hK hP 0 rfl rfl 0 (by decide) (hts (.fieldLink RX6 10 "OnlyStrangersHear" "now" "LOnlyStrangersHear$Town;") (by decide +kernel)) (fun _ h9 => h9) rfl dX6_agreed_21 ?_
    obtain ⟨r24, u24, h24, hf⟩ := bd_some hf
    have hPc := hP.sub (ws' := gX5 (a_t 5) a_t_5 cI S_t_5 ++ gX4 (a_t 0) a_t_0 cI S_t_0) [9, 10, 2, 3, 4, 5, 6, 7, 8] rfl
    have hDc := hD.sub (ws' := gX5 (a_t 5) a_t_5 cI S_t_5 ++ gX4 (a_t 0) a_t_0 cI S_t_0) [9, 10, 2, 3, 4, 5, 6, 7, 8] (by decide) rfl
    refine calX (runV E0.b E0.n (As := [.ref (a_t 0)]) (rest := []) ⟨hx, hb, hml, hown, hts⟩ (c_X5_mostAgreed l D cI (a_t 5) a_t_5 (a_t 0) a_t_0 S_t_5 S_t_0 _ h24) gX6_agreed_X5_mostAgreed rfl rfl rfl hdX5_mostAgreed ⟨by decide, by decide⟩ hK hPc hDc 0 rfl rfl rfl hl.1 rfl (Nat.le_of_ble_eq_true rfl) dX6_agreed_24 ⟨Nat.zero_le _, Nat.zero_le _⟩) hP hD hS hA [9, 10, 2, 3, 4, 5, 6, 7, 8] [0, 1] [0, 1, 4, 5, 6, 7, 8, 9, 10, 2, 3] (wr := gX6 o_t a_t cI S_t) (wn := gX6 o_t a_t cI S_t ++ (gX4 (a_t 0) a_t_0 cI u24.2 ++ gX5 (a_t 5) a_t_5 cI u24.1)) rfl rfl (by decide) (by decide) rfl (by decide) (fun H locs hP hD hS => ?_)
    have hP : va_P D vwCl (gX6 o_t a_t cI S_t ++ (gX4 (a_t 0) a_t_0 cI u24.2 ++ gX5 (a_t 5) a_t_5 cI u24.1)) H := hP
    have hD : va_D A (gX6 o_t a_t cI S_t ++ (gX4 (a_t 0) a_t_0 cI u24.2 ++ gX5 (a_t 5) a_t_5 cI u24.1)) := hD
    refine W.eq (g2 := F0 m 27 ls [.int r24]) rfl ?_
    refine lv_istore_n (lv' := [(3, .int r24), (2, .int r2), (0, .ref o_t), (1, .int x1)]) hx hb dX6_agreed_27 rfl hl (by decide) rfl (fun ls hl => ?_)
    refine lv_iload_n hx hb dX6_agreed_28 rfl (lv_at hl 3 rfl) ?_
    refine lv_if_ne (tgt := 39) hx hb dX6_agreed_29 (by decide) (fun c29 => ?_) (fun c29 => ?_)
    · replace hf := it_f c29 hf
      refine lv_iload_n hx hb dX6_agreed_39 rfl (lv_at hl 0 rfl) ?_
      have e := so_some hf
      subst e
      exact ri hx hb hK hr hlk hQ dX6_agreed_40 hP hD hS
    · replace hf := it_t c29 hf
      refine lv_iload_n hx hb dX6_agreed_32 rfl (lv_at hl 0 rfl) ?_
      obtain ⟨r33, u33, h33, hf⟩ := bd_some hf
      have hPc : va_P D vwCl [] H := hP.sub (ws' := []) [] rfl
      have hDc : va_D A [] := hD.sub (ws' := []) [] (by decide) rfl
      refine calXe (runS E0.b E0.n (As := [.int r24]) (rest := []) ⟨hx, hb, hml, hown, hts⟩ (c_J6_bitCount_0f7a4 l D cI r24 _ h33) gX6_agreed_J6_bitCount_0f7a4 rfl rfl rfl hdJ6_bitCount_0f7a4 ⟨by decide, by decide⟩ hK hPc hDc rfl hl.1 rfl (Nat.le_of_ble_eq_true rfl) dX6_agreed_33 ⟨Nat.zero_le _, Nat.zero_le _⟩) hP hD hS hA (fun H locs hP hD hS => ?_)
      have hP : va_P D vwCl (gX6 o_t a_t cI S_t ++ (gX4 (a_t 0) a_t_0 cI u24.2 ++ gX5 (a_t 5) a_t_5 cI u24.1)) H := hP
      have hD : va_D A (gX6 o_t a_t cI S_t ++ (gX4 (a_t 0) a_t_0 cI u24.2 ++ gX5 (a_t 5) a_t_5 cI u24.1)) := hD
      refine W.eq (g2 := F0 m 36 ls [.int r33]) rfl ?_
      refine lv_goto (tgt := 40) hx hb dX6_agreed_36 (by decide) ?_
      have e := so_some hf
      subst e
      exact ri hx hb hK hr hlk hQ dX6_agreed_40 hP hD hS
  · replace hf := it_f c7 hf
    refine lv_aload_n hx hb dX6_agreed_10 rfl (lv_at hl 1 rfl) ?_
    refine lv_iload_n hx hb dX6_agreed_11 rfl (lv_at hl 0 rfl) ?_
    obtain ⟨r12, u12, h12, hf⟩ := bd_some hf
    have hPc := hP.sub (ws' := gX6 o_t a_t cI S_t) [0, 1] rfl
    have hDc := hD.sub (ws' := gX6 o_t a_t cI S_t) [0, 1] (by decide) rfl
    refine calX (runV E0.b E0.n (As := [.int r2]) (rest := []) ⟨hx, hb, hml, hown, hts⟩ (c_X6_refused l D cI o_t a_t S_t r2 _ h12) gX6_agreed_X6_refused rfl rfl rfl hdX6_refused ⟨by decide, by decide⟩ hK hPc hDc 0 rfl rfl rfl hl.1 rfl (Nat.le_of_ble_eq_true rfl) dX6_agreed_12 ⟨Nat.zero_le _, Nat.zero_le _⟩) hP hD hS hA [0, 1] [2, 3, 4, 5, 6, 7, 8, 9, 10] [9, 10, 0, 1, 2, 3, 4, 5, 6, 7, 8] (wr := gX4 (a_t 0) a_t_0 cI S_t_0 ++ gX5 (a_t 5) a_t_5 cI S_t_5) (wn := gX6 o_t a_t cI u12 ++ (gX4 (a_t 0) a_t_0 cI S_t_0 ++ gX5 (a_t 5) a_t_5 cI S_t_5)) rfl rfl (by decide) (by decide) rfl (by decide) (fun H locs hP hD hS => ?_)
    have hP : va_P D vwCl (gX6 o_t a_t cI u12 ++ (gX4 (a_t 0) a_t_0 cI S_t_0 ++ gX5 (a_t 5) a_t_5 cI S_t_5)) H := hP
    have hD : va_D A (gX6 o_t a_t cI u12 ++ (gX4 (a_t 0) a_t_0 cI S_t_0 ++ gX5 (a_t 5) a_t_5 cI S_t_5)) := hD
    refine W.eq (g2 := F0 m 15 ls [.int r12]) rfl ?_
    have e := so_some hf
    subst e
    exact ri hx hb hK hr hlk hQ dX6_agreed_15 hP hD hS
abbrev rmX6_hours : Room := { frames := 4, cells := 0, slots := 0, locals := 88 }
set_option maxHeartbeats 4000000 in
set_option maxRecDepth 100000 in
theorem c_X6_hours (l : Launch) (D : va_G) (cI : ClassId) (o_t : Nat) (a_t : Nat → Nat) (a_t_0 : Nat → Nat) (a_t_5 : Nat → Nat) (S_t : G) (S_t_0 : G) (S_t_5 : G) (x1 : Int32) (out : Int32 × G × G × G) (hf : f_X6_hours S_t S_t_0 S_t_5 x1 = some out) : Cn E0 l yX6_hours wsX6_hours rmX6_hours D cI [.ref o_t, .int x1] (gX6 o_t a_t cI S_t ++ (gX4 (a_t 0) a_t_0 cI S_t_0 ++ gX5 (a_t 5) a_t_5 cI S_t_5)) (some (.int out.1)) (gX6 o_t a_t cI out.2.1 ++ (gX4 (a_t 0) a_t_0 cI out.2.2.1 ++ gX5 (a_t 5) a_t_5 cI out.2.2.2)) := by
  refine Cn.mk (cc := cX6_hours) (maxL := 3) (ret := (some .int)) (by decide) rfl (Nat.le_of_ble_eq_true rfl) ?_
  intro p e s m below meth c A ls Q hx hb hml hown hts hK hA hP hD hS hl hr hlk hnm hE hQ
  have hown : s.vm.findClass RX6 = some m.cls := hown
  have hinX6 : ∀ w ∈ u_ws RX6 TX6 9, w ∈ wsX6_hours := by decide +kernel
  unfold f_X6_hours at hf
  have hl : lv_has ls 3 [(0, .ref o_t), (1, .int x1)] := hl
  obtain ⟨H, hHe⟩ : ∃ H : Heap, H = s.heap := ⟨_, rfl⟩
  obtain ⟨locs, hle⟩ : ∃ q : List Loc, q = [] := ⟨_, rfl⟩
  have hS : va_S A s.heap H locs := by rw [hHe, hle]; exact hS
  rw [← hHe] at hP
  suffices hgo : W p l e rmX6_hours s m ([.ref o_t, .int x1] : List Value).toArray below meth c H locs 0 0 Q (F0 m 0 ls []) by rw [hHe, hle] at hgo; exact hgo
  clear hHe hle
  refine lv_iload_n hx hb dX6_hours_0 rfl (lv_at hl 1 rfl) ?_
  refine lv_iconst (v := (2 : Int32)) hx hb dX6_hours_1 (by decide) ?_
  obtain ⟨r2, u2, h2, hf⟩ := bd_some hf
  have hPc : va_P D vwCl [] H := hP.sub (ws' := []) [] rfl
  have hDc : va_D A [] := hD.sub (ws' := []) [] (by decide) rfl
  refine calXe (runS E0.b E0.n (As := [.int x1, .int (2 : Int32)]) (rest := []) ⟨hx, hb, hml, hown, hts⟩ (c_X6_choice l D cI x1 (2 : Int32) _ h2) gX6_hours_X6_choice rfl rfl rfl hdX6_choice ⟨by decide, by decide⟩ hK hPc hDc rfl hl.1 rfl (Nat.le_of_ble_eq_true rfl) dX6_hours_2 ⟨Nat.zero_le _, Nat.zero_le _⟩) hP hD hS hA (fun H locs hP hD hS => ?_)
  have hP : va_P D vwCl (gX6 o_t a_t cI S_t ++ (gX4 (a_t 0) a_t_0 cI S_t_0 ++ gX5 (a_t 5) a_t_5 cI S_t_5)) H := hP
  have hD : va_D A (gX6 o_t a_t cI S_t ++ (gX4 (a_t 0) a_t_0 cI S_t_0 ++ gX5 (a_t 5) a_t_5 cI S_t_5)) := hD
  refine W.eq (g2 := F0 m 5 ls [.int r2]) rfl ?_
  refine lv_istore_n (lv' := [(2, .int r2), (0, .ref o_t), (1, .int x1)]) hx hb dX6_hours_5 rfl hl (by decide) rfl (fun ls hl => ?_)
  refine lv_iload_n hx hb dX6_hours_6 rfl (lv_at hl 0 rfl) ?_
  refine lv_if_eq (tgt := 16) hx hb dX6_hours_7 (by decide) (fun c7 => ?_) (fun c7 => ?_)
  · replace hf := it_t c7 hf
    refine lv_iload_n hx hb dX6_hours_16 rfl (lv_at hl 2 rfl) ?_
    refine lv_if_ne (tgt := 34) hx hb dX6_hours_17 (by decide) (fun c17 => ?_) (fun c17 => ?_)
    · replace hf := it_f c17 hf
      refine lv_aload_n hx hb dX6_hours_34 rfl (lv_at hl 1 rfl) ?_
      refine va_get (D := D) (ci := 6) (v := .ref (a_t 0)) (C := RX6) (T := TX6) (N := 9) hx hb hts hinX6 hown hK hP 0 rfl rfl 0 (by decide) (hts (.fieldLink RX6 10 "OnlyStrangersHear" "now" "LOnlyStrangersHear$Town;") (by decide +kernel)) (fun _ h9 => h9) rfl dX6_hours_35 ?_
      obtain ⟨r38, u38, h38, hf⟩ := bd_some hf
      have hPc := hP.sub (ws' := gX4 (a_t 0) a_t_0 cI S_t_0) [2, 3, 4, 5, 6, 7, 8] rfl
      have hDc := hD.sub (ws' := gX4 (a_t 0) a_t_0 cI S_t_0) [2, 3, 4, 5, 6, 7, 8] (by decide) rfl
      refine calX (runV E0.b E0.n (As := []) (rest := []) ⟨hx, hb, hml, hown, hts⟩ (c_X4_silentBells l D cI (a_t 0) a_t_0 S_t_0 _ h38) gX6_hours_X4_silentBells rfl rfl rfl hdX4_silentBells ⟨by decide, by decide⟩ hK hPc hDc 0 rfl rfl rfl hl.1 rfl (Nat.le_of_ble_eq_true rfl) dX6_hours_38 ⟨Nat.zero_le _, Nat.zero_le _⟩) hP hD hS hA [2, 3, 4, 5, 6, 7, 8] [0, 1, 9, 10] [0, 1, 4, 5, 6, 7, 8, 9, 10, 2, 3] (wr := gX6 o_t a_t cI S_t ++ gX5 (a_t 5) a_t_5 cI S_t_5) (wn := gX6 o_t a_t cI S_t ++ (gX4 (a_t 0) a_t_0 cI u38 ++ gX5 (a_t 5) a_t_5 cI S_t_5)) rfl rfl (by decide) (by decide) rfl (by decide) (fun H locs hP hD hS => ?_)
      have hP : va_P D vwCl (gX6 o_t a_t cI S_t ++ (gX4 (a_t 0) a_t_0 cI u38 ++ gX5 (a_t 5) a_t_5 cI S_t_5)) H := hP
      have hD : va_D A (gX6 o_t a_t cI S_t ++ (gX4 (a_t 0) a_t_0 cI u38 ++ gX5 (a_t 5) a_t_5 cI S_t_5)) := hD
      refine W.eq (g2 := F0 m 41 ls [.int r38]) rfl ?_
      have e := so_some hf
      subst e
      exact ri hx hb hK hr hlk hQ dX6_hours_41 hP hD hS
    · replace hf := it_t c17 hf
      refine lv_aload_n hx hb dX6_hours_20 rfl (lv_at hl 1 rfl) ?_
      refine va_get (D := D) (ci := 6) (v := .ref (a_t 5)) (C := RX6) (T := TX6) (N := 9) hx hb hts hinX6 hown hK hP 0 rfl rfl 5 (by decide) (hts (.fieldLink RX6 36 "OnlyStrangersHear" "voices" "LOnlyStrangersHear$Voices;") (by decide +kernel)) (fun _ h9 => h9) rfl dX6_hours_21 ?_
      refine lv_aload_n hx hb dX6_hours_24 rfl (lv_at hl 1 rfl) ?_
      refine va_get (D := D) (ci := 6) (v := .ref (a_t 0)) (C := RX6) (T := TX6) (N := 9) hx hb hts hinX6 hown hK hP 0 rfl rfl 0 (by decide) (hts (.fieldLink RX6 10 "OnlyStrangersHear" "now" "LOnlyStrangersHear$Town;") (by decide +kernel)) (fun _ h9 => h9) rfl dX6_hours_25 ?_
      obtain ⟨r28, u28, h28, hf⟩ := bd_some hf
      have hPc := hP.sub (ws' := gX5 (a_t 5) a_t_5 cI S_t_5 ++ gX4 (a_t 0) a_t_0 cI S_t_0) [9, 10, 2, 3, 4, 5, 6, 7, 8] rfl
      have hDc := hD.sub (ws' := gX5 (a_t 5) a_t_5 cI S_t_5 ++ gX4 (a_t 0) a_t_0 cI S_t_0) [9, 10, 2, 3, 4, 5, 6, 7, 8] (by decide) rfl
      refine calX (runV E0.b E0.n (As := [.ref (a_t 0)]) (rest := []) ⟨hx, hb, hml, hown, hts⟩ (c_X5_hoursSaid l D cI (a_t 5) a_t_5 (a_t 0) a_t_0 S_t_5 S_t_0 _ h28) gX6_hours_X5_hoursSaid rfl rfl rfl hdX5_hoursSaid ⟨by decide, by decide⟩ hK hPc hDc 0 rfl rfl rfl hl.1 rfl (Nat.le_of_ble_eq_true rfl) dX6_hours_28 ⟨Nat.zero_le _, Nat.zero_le _⟩) hP hD hS hA [9, 10, 2, 3, 4, 5, 6, 7, 8] [0, 1] [0, 1, 4, 5, 6, 7, 8, 9, 10, 2, 3] (wr := gX6 o_t a_t cI S_t) (wn := gX6 o_t a_t cI S_t ++ (gX4 (a_t 0) a_t_0 cI u28.2 ++ gX5 (a_t 5) a_t_5 cI u28.1)) rfl rfl (by decide) (by decide) rfl (by decide) (fun H locs hP hD hS => ?_)
      have hP : va_P D vwCl (gX6 o_t a_t cI S_t ++ (gX4 (a_t 0) a_t_0 cI u28.2 ++ gX5 (a_t 5) a_t_5 cI u28.1)) H := hP
      have hD : va_D A (gX6 o_t a_t cI S_t ++ (gX4 (a_t 0) a_t_0 cI u28.2 ++ gX5 (a_t 5) a_t_5 cI u28.1)) := hD
      refine W.eq (g2 := F0 m 31 ls [.int r28]) rfl ?_
      refine lv_goto (tgt := 41) hx hb dX6_hours_31 (by decide) ?_
      have e := so_some hf
      subst e
      exact ri hx hb hK hr hlk hQ dX6_hours_41 hP hD hS
  · replace hf := it_f c7 hf
    refine lv_aload_n hx hb dX6_hours_10 rfl (lv_at hl 1 rfl) ?_
    refine lv_iload_n hx hb dX6_hours_11 rfl (lv_at hl 0 rfl) ?_
    obtain ⟨r12, u12, h12, hf⟩ := bd_some hf
    have hPc := hP.sub (ws' := gX6 o_t a_t cI S_t) [0, 1] rfl
    have hDc := hD.sub (ws' := gX6 o_t a_t cI S_t) [0, 1] (by decide) rfl
    refine calX (runV E0.b E0.n (As := [.int r2]) (rest := []) ⟨hx, hb, hml, hown, hts⟩ (c_X6_refused l D cI o_t a_t S_t r2 _ h12) gX6_hours_X6_refused rfl rfl rfl hdX6_refused ⟨by decide, by decide⟩ hK hPc hDc 0 rfl rfl rfl hl.1 rfl (Nat.le_of_ble_eq_true rfl) dX6_hours_12 ⟨Nat.zero_le _, Nat.zero_le _⟩) hP hD hS hA [0, 1] [2, 3, 4, 5, 6, 7, 8, 9, 10] [9, 10, 0, 1, 2, 3, 4, 5, 6, 7, 8] (wr := gX4 (a_t 0) a_t_0 cI S_t_0 ++ gX5 (a_t 5) a_t_5 cI S_t_5) (wn := gX6 o_t a_t cI u12 ++ (gX4 (a_t 0) a_t_0 cI S_t_0 ++ gX5 (a_t 5) a_t_5 cI S_t_5)) rfl rfl (by decide) (by decide) rfl (by decide) (fun H locs hP hD hS => ?_)
    have hP : va_P D vwCl (gX6 o_t a_t cI u12 ++ (gX4 (a_t 0) a_t_0 cI S_t_0 ++ gX5 (a_t 5) a_t_5 cI S_t_5)) H := hP
    have hD : va_D A (gX6 o_t a_t cI u12 ++ (gX4 (a_t 0) a_t_0 cI S_t_0 ++ gX5 (a_t 5) a_t_5 cI S_t_5)) := hD
    refine W.eq (g2 := F0 m 15 ls [.int r12]) rfl ?_
    have e := so_some hf
    subst e
    exact ri hx hb hK hr hlk hQ dX6_hours_15 hP hD hS
abbrev rmX6_bedsFor : Room := { frames := 5, cells := 0, slots := 0, locals := 111 }
set_option maxHeartbeats 4000000 in
set_option maxRecDepth 100000 in
theorem c_X6_bedsFor (l : Launch) (D : va_G) (cI : ClassId) (o_t : Nat) (a_t : Nat → Nat) (a_t_0 : Nat → Nat) (a_t_7 : Nat → Nat) (a_t_7_0 : Nat → Nat) (S_t : G) (S_t_0 : G) (S_t_7 : G) (S_t_7_0 : G) (x1 : Int32) (out : Int32 × G × G × G × G) (hf : f_X6_bedsFor S_t S_t_0 S_t_7 S_t_7_0 x1 = some out) : Cn E0 l yX6_bedsFor wsX6_bedsFor rmX6_bedsFor D cI [.ref o_t, .int x1] (gX6 o_t a_t cI S_t ++ (gX4 (a_t 0) a_t_0 cI S_t_0 ++ (gX3 (a_t 7) a_t_7 cI S_t_7 ++ gX4 (a_t_7 0) a_t_7_0 cI S_t_7_0))) (some (.int out.1)) (gX6 o_t a_t cI out.2.1 ++ (gX4 (a_t 0) a_t_0 cI out.2.2.1 ++ (gX3 (a_t 7) a_t_7 cI out.2.2.2.1 ++ gX4 (a_t_7 0) a_t_7_0 cI out.2.2.2.2))) := by
  refine Cn.mk (cc := cX6_bedsFor) (maxL := 3) (ret := (some .int)) (by decide) rfl (Nat.le_of_ble_eq_true rfl) ?_
  intro p e s m below meth c A ls Q hx hb hml hown hts hK hA hP hD hS hl hr hlk hnm hE hQ
  have hown : s.vm.findClass RX6 = some m.cls := hown
  have hinX6 : ∀ w ∈ u_ws RX6 TX6 9, w ∈ wsX6_bedsFor := by decide +kernel
  unfold f_X6_bedsFor at hf
  have hl : lv_has ls 3 [(0, .ref o_t), (1, .int x1)] := hl
  obtain ⟨H, hHe⟩ : ∃ H : Heap, H = s.heap := ⟨_, rfl⟩
  obtain ⟨locs, hle⟩ : ∃ q : List Loc, q = [] := ⟨_, rfl⟩
  have hS : va_S A s.heap H locs := by rw [hHe, hle]; exact hS
  rw [← hHe] at hP
  suffices hgo : W p l e rmX6_bedsFor s m ([.ref o_t, .int x1] : List Value).toArray below meth c H locs 0 0 Q (F0 m 0 ls []) by rw [hHe, hle] at hgo; exact hgo
  clear hHe hle
  refine lv_iload_n hx hb dX6_bedsFor_0 rfl (lv_at hl 1 rfl) ?_
  refine lv_iconst (v := (0 : Int32)) hx hb dX6_bedsFor_1 (by decide) ?_
  refine lv_bipush (v := (40 : Int32)) hx hb dX6_bedsFor_2 (by decide) ?_
  obtain ⟨r4, u4, h4, hf⟩ := bd_some hf
  have hPc : va_P D vwCl [] H := hP.sub (ws' := []) [] rfl
  have hDc : va_D A [] := hD.sub (ws' := []) [] (by decide) rfl
  refine calXe (runS E0.b E0.n (As := [.int x1, .int (0 : Int32), .int (40 : Int32)]) (rest := []) ⟨hx, hb, hml, hown, hts⟩ (c_X6_range l D cI x1 (0 : Int32) (40 : Int32) _ h4) gX6_bedsFor_X6_range rfl rfl rfl hdX6_range ⟨by decide, by decide⟩ hK hPc hDc rfl hl.1 rfl (Nat.le_of_ble_eq_true rfl) dX6_bedsFor_4 ⟨Nat.zero_le _, Nat.zero_le _⟩) hP hD hS hA (fun H locs hP hD hS => ?_)
  have hP : va_P D vwCl (gX6 o_t a_t cI S_t ++ (gX4 (a_t 0) a_t_0 cI S_t_0 ++ (gX3 (a_t 7) a_t_7 cI S_t_7 ++ gX4 (a_t_7 0) a_t_7_0 cI S_t_7_0))) H := hP
  have hD : va_D A (gX6 o_t a_t cI S_t ++ (gX4 (a_t 0) a_t_0 cI S_t_0 ++ (gX3 (a_t 7) a_t_7 cI S_t_7 ++ gX4 (a_t_7 0) a_t_7_0 cI S_t_7_0))) := hD
  refine W.eq (g2 := F0 m 7 ls [.int r4]) rfl ?_
  refine lv_istore_n (lv' := [(2, .int r4), (0, .ref o_t), (1, .int x1)]) hx hb dX6_bedsFor_7 rfl hl (by decide) rfl (fun ls hl => ?_)
  refine lv_iload_n hx hb dX6_bedsFor_8 rfl (lv_at hl 0 rfl) ?_
  refine lv_if_eq (tgt := 18) hx hb dX6_bedsFor_9 (by decide) (fun c9 => ?_) (fun c9 => ?_)
  · replace hf := it_t c9 hf
    refine lv_aload_n hx hb dX6_bedsFor_18 rfl (lv_at hl 1 rfl) ?_
    refine va_get (D := D) (ci := 6) (v := .ref (a_t 7)) (C := RX6) (T := TX6) (N := 9) hx hb hts hinX6 hown hK hP 0 rfl rfl 7 (by decide) (hts (.fieldLink RX6 50 "OnlyStrangersHear" "plans" "LOnlyStrangersHear$Plans;") (by decide +kernel)) (fun _ h9 => h9) rfl dX6_bedsFor_19 ?_
    refine lv_aload_n hx hb dX6_bedsFor_22 rfl (lv_at hl 1 rfl) ?_
    refine va_get (D := D) (ci := 6) (v := .ref (a_t 0)) (C := RX6) (T := TX6) (N := 9) hx hb hts hinX6 hown hK hP 0 rfl rfl 0 (by decide) (hts (.fieldLink RX6 10 "OnlyStrangersHear" "now" "LOnlyStrangersHear$Town;") (by decide +kernel)) (fun _ h9 => h9) rfl dX6_bedsFor_23 ?_
    refine lv_iload_n hx hb dX6_bedsFor_26 rfl (lv_at hl 2 rfl) ?_
    obtain ⟨r27, u27, h27, hf⟩ := bd_some hf
    have hPc := hP.sub (ws' := gX3 (a_t 7) a_t_7 cI S_t_7 ++ (gX4 (a_t_7 0) a_t_7_0 cI S_t_7_0 ++ gX4 (a_t 0) a_t_0 cI S_t_0)) [9, 10, 11, 12, 13, 14, 15, 16, 17, 2, 3, 4, 5, 6, 7, 8] rfl
    have hDc := hD.sub (ws' := gX3 (a_t 7) a_t_7 cI S_t_7 ++ (gX4 (a_t_7 0) a_t_7_0 cI S_t_7_0 ++ gX4 (a_t 0) a_t_0 cI S_t_0)) [9, 10, 11, 12, 13, 14, 15, 16, 17, 2, 3, 4, 5, 6, 7, 8] (by decide) rfl
    refine calX (runV E0.b E0.n (As := [.ref (a_t 0), .int x1]) (rest := []) ⟨hx, hb, hml, hown, hts⟩ (c_X3_fewestBeds l D cI (a_t 7) a_t_7 a_t_7_0 (a_t 0) a_t_0 S_t_7 S_t_7_0 S_t_0 x1 _ h27) gX6_bedsFor_X3_fewestBeds rfl rfl rfl hdX3_fewestBeds ⟨by decide, by decide⟩ hK hPc hDc 0 rfl rfl rfl hl.1 rfl (Nat.le_of_ble_eq_true rfl) dX6_bedsFor_27 ⟨Nat.zero_le _, Nat.zero_le _⟩) hP hD hS hA [9, 10, 11, 12, 13, 14, 15, 16, 17, 2, 3, 4, 5, 6, 7, 8] [0, 1] [0, 1, 11, 12, 13, 14, 15, 16, 17, 2, 3, 4, 5, 6, 7, 8, 9, 10] (wr := gX6 o_t a_t cI S_t) (wn := gX6 o_t a_t cI S_t ++ (gX4 (a_t 0) a_t_0 cI u27.2.2 ++ (gX3 (a_t 7) a_t_7 cI u27.1 ++ gX4 (a_t_7 0) a_t_7_0 cI u27.2.1))) rfl rfl (by decide) (by decide) rfl (by decide) (fun H locs hP hD hS => ?_)
    have hP : va_P D vwCl (gX6 o_t a_t cI S_t ++ (gX4 (a_t 0) a_t_0 cI u27.2.2 ++ (gX3 (a_t 7) a_t_7 cI u27.1 ++ gX4 (a_t_7 0) a_t_7_0 cI u27.2.1))) H := hP
    have hD : va_D A (gX6 o_t a_t cI S_t ++ (gX4 (a_t 0) a_t_0 cI u27.2.2 ++ (gX3 (a_t 7) a_t_7 cI u27.1 ++ gX4 (a_t_7 0) a_t_7_0 cI u27.2.1))) := hD
    refine W.eq (g2 := F0 m 30 ls [.int r27]) rfl ?_
    have e := so_some hf
    subst e
    exact ri hx hb hK hr hlk hQ dX6_bedsFor_30 hP hD hS
  · replace hf := it_f c9 hf
    refine lv_aload_n hx hb dX6_bedsFor_12 rfl (lv_at hl 1 rfl) ?_
    refine lv_iload_n hx hb dX6_bedsFor_13 rfl (lv_at hl 0 rfl) ?_
    obtain ⟨r14, u14, h14, hf⟩ := bd_some hf
    have hPc := hP.sub (ws' := gX6 o_t a_t cI S_t) [0, 1] rfl
    have hDc := hD.sub (ws' := gX6 o_t a_t cI S_t) [0, 1] (by decide) rfl
    refine calX (runV E0.b E0.n (As := [.int r4]) (rest := []) ⟨hx, hb, hml, hown, hts⟩ (c_X6_refused l D cI o_t a_t S_t r4 _ h14) gX6_bedsFor_X6_refused rfl rfl rfl hdX6_refused ⟨by decide, by decide⟩ hK hPc hDc 0 rfl rfl rfl hl.1 rfl (Nat.le_of_ble_eq_true rfl) dX6_bedsFor_14 ⟨Nat.zero_le _, Nat.zero_le _⟩) hP hD hS hA [0, 1] [2, 3, 4, 5, 6, 7, 8, 9, 10, 11, 12, 13, 14, 15, 16, 17] [16, 17, 0, 1, 2, 3, 4, 5, 6, 7, 8, 9, 10, 11, 12, 13, 14, 15] (wr := gX4 (a_t 0) a_t_0 cI S_t_0 ++ (gX3 (a_t 7) a_t_7 cI S_t_7 ++ gX4 (a_t_7 0) a_t_7_0 cI S_t_7_0)) (wn := gX6 o_t a_t cI u14 ++ (gX4 (a_t 0) a_t_0 cI S_t_0 ++ (gX3 (a_t 7) a_t_7 cI S_t_7 ++ gX4 (a_t_7 0) a_t_7_0 cI S_t_7_0))) rfl rfl (by decide) (by decide) rfl (by decide) (fun H locs hP hD hS => ?_)
    have hP : va_P D vwCl (gX6 o_t a_t cI u14 ++ (gX4 (a_t 0) a_t_0 cI S_t_0 ++ (gX3 (a_t 7) a_t_7 cI S_t_7 ++ gX4 (a_t_7 0) a_t_7_0 cI S_t_7_0))) H := hP
    have hD : va_D A (gX6 o_t a_t cI u14 ++ (gX4 (a_t 0) a_t_0 cI S_t_0 ++ (gX3 (a_t 7) a_t_7 cI S_t_7 ++ gX4 (a_t_7 0) a_t_7_0 cI S_t_7_0))) := hD
    refine W.eq (g2 := F0 m 17 ls [.int r14]) rfl ?_
    have e := so_some hf
    subst e
    exact ri hx hb hK hr hlk hQ dX6_bedsFor_17 hP hD hS
abbrev rmX6_next : Room := { frames := 1, cells := 0, slots := 0, locals := 21 }
set_option maxHeartbeats 4000000 in
set_option maxRecDepth 100000 in
theorem c_X6_next (l : Launch) (D : va_G) (cI : ClassId) (o_t : Nat) (a_t : Nat → Nat) (a_t_0 : Nat → Nat) (S_t : G) (S_t_0 : G) (x1 : Int32) (out : Int32 × G × G) (hf : f_X6_next S_t S_t_0 x1 = some out) : Cn E0 l yX6_next wsX6_next rmX6_next D cI [.ref o_t, .int x1] (gX6 o_t a_t cI S_t ++ gX4 (a_t 0) a_t_0 cI S_t_0) (some (.int out.1)) (gX6 o_t a_t cI out.2.1 ++ gX4 (a_t 0) a_t_0 cI out.2.2) := by
  refine Cn.mk (cc := cX6_next) (maxL := 3) (ret := (some .int)) (by decide) rfl (Nat.le_of_ble_eq_true rfl) ?_
  intro p e s m below meth c A ls Q hx hb hml hown hts hK hA hP hD hS hl hr hlk hnm hE hQ
  have hown : s.vm.findClass RX6 = some m.cls := hown
  have hinX6 : ∀ w ∈ u_ws RX6 TX6 9, w ∈ wsX6_next := by decide +kernel
  unfold f_X6_next at hf
  have hl : lv_has ls 3 [(0, .ref o_t), (1, .int x1)] := hl
  obtain ⟨H, hHe⟩ : ∃ H : Heap, H = s.heap := ⟨_, rfl⟩
  obtain ⟨locs, hle⟩ : ∃ q : List Loc, q = [] := ⟨_, rfl⟩
  have hS : va_S A s.heap H locs := by rw [hHe, hle]; exact hS
  rw [← hHe] at hP
  suffices hgo : W p l e rmX6_next s m ([.ref o_t, .int x1] : List Value).toArray below meth c H locs 0 0 Q (F0 m 0 ls []) by rw [hHe, hle] at hgo; exact hgo
  clear hHe hle
  refine lv_aload_n hx hb dX6_next_0 rfl (lv_at hl 0 rfl) ?_
  refine lv_iload_n hx hb dX6_next_1 rfl (lv_at hl 1 rfl) ?_
  obtain ⟨r2, u2, h2, hf⟩ := bd_some hf
  refine calX0 (runV E0.b E0.n (As := [.int x1]) (rest := []) ⟨hx, hb, hml, hown, hts⟩ (c_X6_noBell l D cI o_t a_t a_t_0 S_t S_t_0 x1 _ h2) gX6_next_X6_noBell rfl rfl rfl hdX6_noBell ⟨by decide, by decide⟩ hK hP hD 0 rfl rfl rfl hl.1 rfl (Nat.le_of_ble_eq_true rfl) dX6_next_2 ⟨Nat.zero_le _, Nat.zero_le _⟩) hD hS hA (fun H locs hP hD hS => ?_)
  have hP : va_P D vwCl (gX6 o_t a_t cI u2.1 ++ gX4 (a_t 0) a_t_0 cI u2.2) H := hP
  have hD : va_D A (gX6 o_t a_t cI u2.1 ++ gX4 (a_t 0) a_t_0 cI u2.2) := hD
  refine W.eq (g2 := F0 m 5 ls [.int r2]) rfl ?_
  refine lv_istore_n (lv' := [(2, .int r2), (0, .ref o_t), (1, .int x1)]) hx hb dX6_next_5 rfl hl (by decide) rfl (fun ls hl => ?_)
  refine lv_iload_n hx hb dX6_next_6 rfl (lv_at hl 0 rfl) ?_
  refine lv_if_eq (tgt := 16) hx hb dX6_next_7 (by decide) (fun c7 => ?_) (fun c7 => ?_)
  · replace hf := it_t c7 hf
    refine lv_aload_n hx hb dX6_next_16 rfl (lv_at hl 1 rfl) ?_
    refine va_get (D := D) (ci := 6) (v := .ref (a_t 0)) (C := RX6) (T := TX6) (N := 9) hx hb hts hinX6 hown hK hP 0 rfl rfl 0 (by decide) (hts (.fieldLink RX6 10 "OnlyStrangersHear" "now" "LOnlyStrangersHear$Town;") (by decide +kernel)) (fun _ h9 => h9) rfl dX6_next_17 ?_
    refine lv_iload_n hx hb dX6_next_20 rfl (lv_at hl 2 rfl) ?_
    obtain ⟨r21, u21, h21, hf⟩ := bd_some hf
    have hPc := hP.sub (ws' := gX4 (a_t 0) a_t_0 cI u2.2) [2, 3, 4, 5, 6, 7, 8] rfl
    have hDc := hD.sub (ws' := gX4 (a_t 0) a_t_0 cI u2.2) [2, 3, 4, 5, 6, 7, 8] (by decide) rfl
    refine calX (runV E0.b E0.n (As := [.int x1]) (rest := []) ⟨hx, hb, hml, hown, hts⟩ (c_X4_daysTillRinging l D cI (a_t 0) a_t_0 u2.2 x1 _ h21) gX6_next_X4_daysTillRinging rfl rfl rfl hdX4_daysTillRinging ⟨by decide, by decide⟩ hK hPc hDc 0 rfl rfl rfl hl.1 rfl (Nat.le_of_ble_eq_true rfl) dX6_next_21 ⟨Nat.zero_le _, Nat.zero_le _⟩) hP hD hS hA [2, 3, 4, 5, 6, 7, 8] [0, 1] [0, 1, 2, 3, 4, 5, 6, 7, 8] (wr := gX6 o_t a_t cI u2.1) (wn := gX6 o_t a_t cI u2.1 ++ gX4 (a_t 0) a_t_0 cI u21) rfl rfl (by decide) (by decide) rfl (by decide) (fun H locs hP hD hS => ?_)
    have hP : va_P D vwCl (gX6 o_t a_t cI u2.1 ++ gX4 (a_t 0) a_t_0 cI u21) H := hP
    have hD : va_D A (gX6 o_t a_t cI u2.1 ++ gX4 (a_t 0) a_t_0 cI u21) := hD
    refine W.eq (g2 := F0 m 24 ls [.int r21]) rfl ?_
    have e := so_some hf
    subst e
    exact ri hx hb hK hr hlk hQ dX6_next_24 hP hD hS
  · replace hf := it_f c7 hf
    refine lv_aload_n hx hb dX6_next_10 rfl (lv_at hl 1 rfl) ?_
    refine lv_iload_n hx hb dX6_next_11 rfl (lv_at hl 0 rfl) ?_
    obtain ⟨r12, u12, h12, hf⟩ := bd_some hf
    have hPc := hP.sub (ws' := gX6 o_t a_t cI u2.1) [0, 1] rfl
    have hDc := hD.sub (ws' := gX6 o_t a_t cI u2.1) [0, 1] (by decide) rfl
    refine calX (runV E0.b E0.n (As := [.int r2]) (rest := []) ⟨hx, hb, hml, hown, hts⟩ (c_X6_refused l D cI o_t a_t u2.1 r2 _ h12) gX6_next_X6_refused rfl rfl rfl hdX6_refused ⟨by decide, by decide⟩ hK hPc hDc 0 rfl rfl rfl hl.1 rfl (Nat.le_of_ble_eq_true rfl) dX6_next_12 ⟨Nat.zero_le _, Nat.zero_le _⟩) hP hD hS hA [0, 1] [2, 3, 4, 5, 6, 7, 8] [7, 8, 0, 1, 2, 3, 4, 5, 6] (wr := gX4 (a_t 0) a_t_0 cI u2.2) (wn := gX6 o_t a_t cI u12 ++ gX4 (a_t 0) a_t_0 cI u2.2) rfl rfl (by decide) (by decide) rfl (by decide) (fun H locs hP hD hS => ?_)
    have hP : va_P D vwCl (gX6 o_t a_t cI u12 ++ gX4 (a_t 0) a_t_0 cI u2.2) H := hP
    have hD : va_D A (gX6 o_t a_t cI u12 ++ gX4 (a_t 0) a_t_0 cI u2.2) := hD
    refine W.eq (g2 := F0 m 15 ls [.int r12]) rfl ?_
    have e := so_some hf
    subst e
    exact ri hx hb hK hr hlk hQ dX6_next_15 hP hD hS
abbrev rmX6_together : Room := { frames := 2, cells := 0, slots := 0, locals := 43 }
set_option maxHeartbeats 4000000 in
set_option maxRecDepth 100000 in
theorem c_X6_together (l : Launch) (D : va_G) (cI : ClassId) (o_t : Nat) (a_t : Nat → Nat) (a_t_0 : Nat → Nat) (S_t : G) (S_t_0 : G) (out : Int32 × G × G) (hf : f_X6_together S_t S_t_0 = some out) : Cn E0 l yX6_together wsX6_together rmX6_together D cI [.ref o_t] (gX6 o_t a_t cI S_t ++ gX4 (a_t 0) a_t_0 cI S_t_0) (some (.int out.1)) (gX6 o_t a_t cI out.2.1 ++ gX4 (a_t 0) a_t_0 cI out.2.2) := by
  refine Cn.mk (cc := cX6_together) (maxL := 1) (ret := (some .int)) (by decide) rfl (Nat.le_of_ble_eq_true rfl) ?_
  intro p e s m below meth c A ls Q hx hb hml hown hts hK hA hP hD hS hl hr hlk hnm hE hQ
  have hown : s.vm.findClass RX6 = some m.cls := hown
  have hinX6 : ∀ w ∈ u_ws RX6 TX6 9, w ∈ wsX6_together := by decide +kernel
  unfold f_X6_together at hf
  have hl : lv_has ls 1 [(0, .ref o_t)] := hl
  obtain ⟨H, hHe⟩ : ∃ H : Heap, H = s.heap := ⟨_, rfl⟩
  obtain ⟨locs, hle⟩ : ∃ q : List Loc, q = [] := ⟨_, rfl⟩
  have hS : va_S A s.heap H locs := by rw [hHe, hle]; exact hS
  rw [← hHe] at hP
  suffices hgo : W p l e rmX6_together s m ([.ref o_t] : List Value).toArray below meth c H locs 0 0 Q (F0 m 0 ls []) by rw [hHe, hle] at hgo; exact hgo
  clear hHe hle
  refine lv_aload_n hx hb dX6_together_0 rfl (lv_at hl 0 rfl) ?_
  refine va_get (D := D) (ci := 6) (v := .ref (a_t 0)) (C := RX6) (T := TX6) (N := 9) hx hb hts hinX6 hown hK hP 0 rfl rfl 0 (by decide) (hts (.fieldLink RX6 10 "OnlyStrangersHear" "now" "LOnlyStrangersHear$Town;") (by decide +kernel)) (fun _ h9 => h9) rfl dX6_together_1 ?_
  obtain ⟨r4, u4, h4, hf⟩ := bd_some hf
  have hPc := hP.sub (ws' := gX4 (a_t 0) a_t_0 cI S_t_0) [2, 3, 4, 5, 6, 7, 8] rfl
  have hDc := hD.sub (ws' := gX4 (a_t 0) a_t_0 cI S_t_0) [2, 3, 4, 5, 6, 7, 8] (by decide) rfl
  refine calX (runV E0.b E0.n (As := []) (rest := []) ⟨hx, hb, hml, hown, hts⟩ (c_X4_daysTillAllRing l D cI (a_t 0) a_t_0 S_t_0 _ h4) gX6_together_X4_daysTillAllRing rfl rfl rfl hdX4_daysTillAllRing ⟨by decide, by decide⟩ hK hPc hDc 0 rfl rfl rfl hl.1 rfl (Nat.le_of_ble_eq_true rfl) dX6_together_4 ⟨Nat.zero_le _, Nat.zero_le _⟩) hP hD hS hA [2, 3, 4, 5, 6, 7, 8] [0, 1] [0, 1, 2, 3, 4, 5, 6, 7, 8] (wr := gX6 o_t a_t cI S_t) (wn := gX6 o_t a_t cI S_t ++ gX4 (a_t 0) a_t_0 cI u4) rfl rfl (by decide) (by decide) rfl (by decide) (fun H locs hP hD hS => ?_)
  have hP : va_P D vwCl (gX6 o_t a_t cI S_t ++ gX4 (a_t 0) a_t_0 cI u4) H := hP
  have hD : va_D A (gX6 o_t a_t cI S_t ++ gX4 (a_t 0) a_t_0 cI u4) := hD
  refine W.eq (g2 := F0 m 7 ls [.int r4]) rfl ?_
  have e := so_some hf
  subst e
  exact ri hx hb hK hr hlk hQ dX6_together_7 hP hD hS
abbrev rmX6_cost : Room := { frames := 5, cells := 0, slots := 0, locals := 117 }
set_option maxHeartbeats 4000000 in
set_option maxRecDepth 100000 in
theorem c_X6_cost (l : Launch) (D : va_G) (cI : ClassId) (o_t : Nat) (a_t : Nat → Nat) (a_t_0 : Nat → Nat) (a_t_7 : Nat → Nat) (a_t_7_0 : Nat → Nat) (S_t : G) (S_t_0 : G) (S_t_7 : G) (S_t_7_0 : G) (x1 : Int32) (x2 : Int32) (x3 : Int32) (out : Int32 × G × G × G × G) (hf : f_X6_cost S_t S_t_0 S_t_7 S_t_7_0 x1 x2 x3 = some out) : Cn E0 l yX6_cost wsX6_cost rmX6_cost D cI [.ref o_t, .int x1, .int x2, .int x3] (gX6 o_t a_t cI S_t ++ (gX4 (a_t 0) a_t_0 cI S_t_0 ++ (gX3 (a_t 7) a_t_7 cI S_t_7 ++ gX4 (a_t_7 0) a_t_7_0 cI S_t_7_0))) (some (.int out.1)) (gX6 o_t a_t cI out.2.1 ++ (gX4 (a_t 0) a_t_0 cI out.2.2.1 ++ (gX3 (a_t 7) a_t_7 cI out.2.2.2.1 ++ gX4 (a_t_7 0) a_t_7_0 cI out.2.2.2.2))) := by
  refine Cn.mk (cc := cX6_cost) (maxL := 5) (ret := (some .int)) (by decide) rfl (Nat.le_of_ble_eq_true rfl) ?_
  intro p e s m below meth c A ls Q hx hb hml hown hts hK hA hP hD hS hl hr hlk hnm hE hQ
  have hown : s.vm.findClass RX6 = some m.cls := hown
  have hinX6 : ∀ w ∈ u_ws RX6 TX6 9, w ∈ wsX6_cost := by decide +kernel
  unfold f_X6_cost at hf
  have hl : lv_has ls 5 [(0, .ref o_t), (1, .int x1), (2, .int x2), (3, .int x3)] := hl
  obtain ⟨H, hHe⟩ : ∃ H : Heap, H = s.heap := ⟨_, rfl⟩
  obtain ⟨locs, hle⟩ : ∃ q : List Loc, q = [] := ⟨_, rfl⟩
  have hS : va_S A s.heap H locs := by rw [hHe, hle]; exact hS
  rw [← hHe] at hP
  suffices hgo : W p l e rmX6_cost s m ([.ref o_t, .int x1, .int x2, .int x3] : List Value).toArray below meth c H locs 0 0 Q (F0 m 0 ls []) by rw [hHe, hle] at hgo; exact hgo
  clear hHe hle
  refine lv_aload_n hx hb dX6_cost_0 rfl (lv_at hl 0 rfl) ?_
  refine lv_iload_n hx hb dX6_cost_1 rfl (lv_at hl 1 rfl) ?_
  obtain ⟨r2, u2, h2, hf⟩ := bd_some hf
  have hPc := hP.sub (ws' := gX6 o_t a_t cI S_t ++ gX4 (a_t 0) a_t_0 cI S_t_0) [0, 1, 2, 3, 4, 5, 6, 7, 8] rfl
  have hDc := hD.sub (ws' := gX6 o_t a_t cI S_t ++ gX4 (a_t 0) a_t_0 cI S_t_0) [0, 1, 2, 3, 4, 5, 6, 7, 8] (by decide) rfl
  refine calX (runV E0.b E0.n (As := [.int x1]) (rest := []) ⟨hx, hb, hml, hown, hts⟩ (c_X6_noPerson l D cI o_t a_t a_t_0 S_t S_t_0 x1 _ h2) gX6_cost_X6_noPerson rfl rfl rfl hdX6_noPerson ⟨by decide, by decide⟩ hK hPc hDc 0 rfl rfl rfl hl.1 rfl (Nat.le_of_ble_eq_true rfl) dX6_cost_2 ⟨Nat.zero_le _, Nat.zero_le _⟩) hP hD hS hA [0, 1, 2, 3, 4, 5, 6, 7, 8] [9, 10, 11, 12, 13, 14, 15, 16, 17] [9, 10, 11, 12, 13, 14, 15, 16, 17, 0, 1, 2, 3, 4, 5, 6, 7, 8] (wr := gX3 (a_t 7) a_t_7 cI S_t_7 ++ gX4 (a_t_7 0) a_t_7_0 cI S_t_7_0) (wn := gX6 o_t a_t cI u2.1 ++ (gX4 (a_t 0) a_t_0 cI u2.2 ++ (gX3 (a_t 7) a_t_7 cI S_t_7 ++ gX4 (a_t_7 0) a_t_7_0 cI S_t_7_0))) rfl rfl (by decide) (by decide) rfl (by decide) (fun H locs hP hD hS => ?_)
  have hP : va_P D vwCl (gX6 o_t a_t cI u2.1 ++ (gX4 (a_t 0) a_t_0 cI u2.2 ++ (gX3 (a_t 7) a_t_7 cI S_t_7 ++ gX4 (a_t_7 0) a_t_7_0 cI S_t_7_0))) H := hP
  have hD : va_D A (gX6 o_t a_t cI u2.1 ++ (gX4 (a_t 0) a_t_0 cI u2.2 ++ (gX3 (a_t 7) a_t_7 cI S_t_7 ++ gX4 (a_t_7 0) a_t_7_0 cI S_t_7_0))) := hD
  refine W.eq (g2 := F0 m 5 ls [.int r2]) rfl ?_
  refine lv_aload_n hx hb dX6_cost_5 rfl (lv_at hl 0 rfl) ?_
  refine lv_iload_n hx hb dX6_cost_6 rfl (lv_at hl 3 rfl) ?_
  obtain ⟨r7, u7, h7, hf⟩ := bd_some hf
  have hPc := hP.sub (ws' := gX6 o_t a_t cI u2.1 ++ gX4 (a_t 0) a_t_0 cI u2.2) [0, 1, 2, 3, 4, 5, 6, 7, 8] rfl
  have hDc := hD.sub (ws' := gX6 o_t a_t cI u2.1 ++ gX4 (a_t 0) a_t_0 cI u2.2) [0, 1, 2, 3, 4, 5, 6, 7, 8] (by decide) rfl
  refine calX (runV E0.b E0.n (As := [.int x3]) (rest := [.int r2]) ⟨hx, hb, hml, hown, hts⟩ (c_X6_noBell l D cI o_t a_t a_t_0 u2.1 u2.2 x3 _ h7) gX6_cost_X6_noBell rfl rfl rfl hdX6_noBell ⟨by decide, by decide⟩ hK hPc hDc 0 rfl rfl rfl hl.1 rfl (Nat.le_of_ble_eq_true rfl) dX6_cost_7 ⟨Nat.zero_le _, Nat.zero_le _⟩) hP hD hS hA [0, 1, 2, 3, 4, 5, 6, 7, 8] [9, 10, 11, 12, 13, 14, 15, 16, 17] [9, 10, 11, 12, 13, 14, 15, 16, 17, 0, 1, 2, 3, 4, 5, 6, 7, 8] (wr := gX3 (a_t 7) a_t_7 cI S_t_7 ++ gX4 (a_t_7 0) a_t_7_0 cI S_t_7_0) (wn := gX6 o_t a_t cI u7.1 ++ (gX4 (a_t 0) a_t_0 cI u7.2 ++ (gX3 (a_t 7) a_t_7 cI S_t_7 ++ gX4 (a_t_7 0) a_t_7_0 cI S_t_7_0))) rfl rfl (by decide) (by decide) rfl (by decide) (fun H locs hP hD hS => ?_)
  have hP : va_P D vwCl (gX6 o_t a_t cI u7.1 ++ (gX4 (a_t 0) a_t_0 cI u7.2 ++ (gX3 (a_t 7) a_t_7 cI S_t_7 ++ gX4 (a_t_7 0) a_t_7_0 cI S_t_7_0))) H := hP
  have hD : va_D A (gX6 o_t a_t cI u7.1 ++ (gX4 (a_t 0) a_t_0 cI u7.2 ++ (gX3 (a_t 7) a_t_7 cI S_t_7 ++ gX4 (a_t_7 0) a_t_7_0 cI S_t_7_0))) := hD
  refine W.eq (g2 := F0 m 10 ls [.int r7, .int r2]) rfl ?_
  obtain ⟨r10, u10, h10, hf⟩ := bd_some hf
  have hPc : va_P D vwCl [] H := hP.sub (ws' := []) [] rfl
  have hDc : va_D A [] := hD.sub (ws' := []) [] (by decide) rfl
  refine calXe (runS E0.b E0.n (As := [.int r2, .int r7]) (rest := []) ⟨hx, hb, hml, hown, hts⟩ (c_X6_first l D cI r2 r7 _ h10) gX6_cost_X6_first rfl rfl rfl hdX6_first ⟨by decide, by decide⟩ hK hPc hDc rfl hl.1 rfl (Nat.le_of_ble_eq_true rfl) dX6_cost_10 ⟨Nat.zero_le _, Nat.zero_le _⟩) hP hD hS hA (fun H locs hP hD hS => ?_)
  have hP : va_P D vwCl (gX6 o_t a_t cI u7.1 ++ (gX4 (a_t 0) a_t_0 cI u7.2 ++ (gX3 (a_t 7) a_t_7 cI S_t_7 ++ gX4 (a_t_7 0) a_t_7_0 cI S_t_7_0))) H := hP
  have hD : va_D A (gX6 o_t a_t cI u7.1 ++ (gX4 (a_t 0) a_t_0 cI u7.2 ++ (gX3 (a_t 7) a_t_7 cI S_t_7 ++ gX4 (a_t_7 0) a_t_7_0 cI S_t_7_0))) := hD
  refine W.eq (g2 := F0 m 13 ls [.int r10]) rfl ?_
  refine lv_istore (lv' := [(4, .int r10), (0, .ref o_t), (1, .int x1), (2, .int x2), (3, .int x3)]) hx hb dX6_cost_13 hl (by decide) rfl (fun ls hl => ?_)
  refine lv_iload hx hb dX6_cost_15 (lv_at hl 0 rfl) ?_
  refine lv_iload_n hx hb dX6_cost_17 rfl (lv_at hl 3 rfl) ?_
  refine lv_iconst (v := (1 : Int32)) hx hb dX6_cost_18 (by decide) ?_
  refine lv_bipush (v := (9 : Int32)) hx hb dX6_cost_19 (by decide) ?_
  obtain ⟨r21, u21, h21, hf⟩ := bd_some hf
  have hPc : va_P D vwCl [] H := hP.sub (ws' := []) [] rfl
  have hDc : va_D A [] := hD.sub (ws' := []) [] (by decide) rfl
  refine calXe (runS E0.b E0.n (As := [.int x2, .int (1 : Int32), .int (9 : Int32)]) (rest := [.int r10]) ⟨hx, hb, hml, hown, hts⟩ (c_X6_range l D cI x2 (1 : Int32) (9 : Int32) _ h21) gX6_cost_X6_range rfl rfl rfl hdX6_range ⟨by decide, by decide⟩ hK hPc hDc rfl hl.1 rfl (Nat.le_of_ble_eq_true rfl) dX6_cost_21 ⟨Nat.zero_le _, Nat.zero_le _⟩) hP hD hS hA (fun H locs hP hD hS => ?_)
  have hP : va_P D vwCl (gX6 o_t a_t cI u7.1 ++ (gX4 (a_t 0) a_t_0 cI u7.2 ++ (gX3 (a_t 7) a_t_7 cI S_t_7 ++ gX4 (a_t_7 0) a_t_7_0 cI S_t_7_0))) H := hP
  have hD : va_D A (gX6 o_t a_t cI u7.1 ++ (gX4 (a_t 0) a_t_0 cI u7.2 ++ (gX3 (a_t 7) a_t_7 cI S_t_7 ++ gX4 (a_t_7 0) a_t_7_0 cI S_t_7_0))) := hD
  refine W.eq (g2 := F0 m 24 ls [.int r21, .int r10]) rfl ?_
  obtain ⟨r24, u24, h24, hf⟩ := bd_some hf
  have hPc : va_P D vwCl [] H := hP.sub (ws' := []) [] rfl
  have hDc : va_D A [] := hD.sub (ws' := []) [] (by decide) rfl
  refine calXe (runS E0.b E0.n (As := [.int r10, .int r21]) (rest := []) ⟨hx, hb, hml, hown, hts⟩ (c_X6_first l D cI r10 r21 _ h24) gX6_cost_X6_first rfl rfl rfl hdX6_first ⟨by decide, by decide⟩ hK hPc hDc rfl hl.1 rfl (Nat.le_of_ble_eq_true rfl) dX6_cost_24 ⟨Nat.zero_le _, Nat.zero_le _⟩) hP hD hS hA (fun H locs hP hD hS => ?_)
  have hP : va_P D vwCl (gX6 o_t a_t cI u7.1 ++ (gX4 (a_t 0) a_t_0 cI u7.2 ++ (gX3 (a_t 7) a_t_7 cI S_t_7 ++ gX4 (a_t_7 0) a_t_7_0 cI S_t_7_0))) H := hP
  have hD : va_D A (gX6 o_t a_t cI u7.1 ++ (gX4 (a_t 0) a_t_0 cI u7.2 ++ (gX3 (a_t 7) a_t_7 cI S_t_7 ++ gX4 (a_t_7 0) a_t_7_0 cI S_t_7_0))) := hD
  refine W.eq (g2 := F0 m 27 ls [.int r24]) rfl ?_
  refine lv_istore (lv' := [(4, .int r24), (0, .ref o_t), (1, .int x1), (2, .int x2), (3, .int x3)]) hx hb dX6_cost_27 hl (by decide) rfl (fun ls hl => ?_)
  refine lv_iload hx hb dX6_cost_29 (lv_at hl 0 rfl) ?_
  refine lv_if_eq (tgt := 44) hx hb dX6_cost_31 (by decide) (fun c31 => ?_) (fun c31 => ?_)
  · replace hf := it_t c31 hf
    refine lv_aload_n hx hb dX6_cost_44 rfl (lv_at hl 1 rfl) ?_
    refine va_get (D := D) (ci := 6) (v := .ref (a_t 7)) (C := RX6) (T := TX6) (N := 9) hx hb hts hinX6 hown hK hP 0 rfl rfl 7 (by decide) (hts (.fieldLink RX6 50 "OnlyStrangersHear" "plans" "LOnlyStrangersHear$Plans;") (by decide +kernel)) (fun _ h9 => h9) rfl dX6_cost_45 ?_
    refine lv_aload_n hx hb dX6_cost_48 rfl (lv_at hl 1 rfl) ?_
    refine va_get (D := D) (ci := 6) (v := .ref (a_t 0)) (C := RX6) (T := TX6) (N := 9) hx hb hts hinX6 hown hK hP 0 rfl rfl 0 (by decide) (hts (.fieldLink RX6 10 "OnlyStrangersHear" "now" "LOnlyStrangersHear$Town;") (by decide +kernel)) (fun _ h9 => h9) rfl dX6_cost_49 ?_
    refine lv_iload_n hx hb dX6_cost_52 rfl (lv_at hl 2 rfl) ?_
    refine lv_iload_n hx hb dX6_cost_53 rfl (lv_at hl 3 rfl) ?_
    refine lv_iload_n hx hb dX6_cost_54 rfl (lv_at hl 4 rfl) ?_
    obtain ⟨r55, u55, h55, hf⟩ := bd_some hf
    have hPc := hP.sub (ws' := gX3 (a_t 7) a_t_7 cI S_t_7 ++ (gX4 (a_t_7 0) a_t_7_0 cI S_t_7_0 ++ gX4 (a_t 0) a_t_0 cI u7.2)) [9, 10, 11, 12, 13, 14, 15, 16, 17, 2, 3, 4, 5, 6, 7, 8] rfl
    have hDc := hD.sub (ws' := gX3 (a_t 7) a_t_7 cI S_t_7 ++ (gX4 (a_t_7 0) a_t_7_0 cI S_t_7_0 ++ gX4 (a_t 0) a_t_0 cI u7.2)) [9, 10, 11, 12, 13, 14, 15, 16, 17, 2, 3, 4, 5, 6, 7, 8] (by decide) rfl
    refine calX (runV E0.b E0.n (As := [.ref (a_t 0), .int x1, .int x2, .int x3]) (rest := []) ⟨hx, hb, hml, hown, hts⟩ (c_X3_daysUnheardBySending l D cI (a_t 7) a_t_7 a_t_7_0 (a_t 0) a_t_0 S_t_7 S_t_7_0 u7.2 x1 x2 x3 _ h55) gX6_cost_X3_daysUnheardBySending rfl rfl rfl hdX3_daysUnheardBySending ⟨by decide, by decide⟩ hK hPc hDc 0 rfl rfl rfl hl.1 rfl (Nat.le_of_ble_eq_true rfl) dX6_cost_55 ⟨Nat.zero_le _, Nat.zero_le _⟩) hP hD hS hA [9, 10, 11, 12, 13, 14, 15, 16, 17, 2, 3, 4, 5, 6, 7, 8] [0, 1] [0, 1, 11, 12, 13, 14, 15, 16, 17, 2, 3, 4, 5, 6, 7, 8, 9, 10] (wr := gX6 o_t a_t cI u7.1) (wn := gX6 o_t a_t cI u7.1 ++ (gX4 (a_t 0) a_t_0 cI u55.2.2 ++ (gX3 (a_t 7) a_t_7 cI u55.1 ++ gX4 (a_t_7 0) a_t_7_0 cI u55.2.1))) rfl rfl (by decide) (by decide) rfl (by decide) (fun H locs hP hD hS => ?_)
    have hP : va_P D vwCl (gX6 o_t a_t cI u7.1 ++ (gX4 (a_t 0) a_t_0 cI u55.2.2 ++ (gX3 (a_t 7) a_t_7 cI u55.1 ++ gX4 (a_t_7 0) a_t_7_0 cI u55.2.1))) H := hP
    have hD : va_D A (gX6 o_t a_t cI u7.1 ++ (gX4 (a_t 0) a_t_0 cI u55.2.2 ++ (gX3 (a_t 7) a_t_7 cI u55.1 ++ gX4 (a_t_7 0) a_t_7_0 cI u55.2.1))) := hD
    refine W.eq (g2 := F0 m 58 ls [.int r55]) rfl ?_
    have e := so_some hf
    subst e
    exact ri hx hb hK hr hlk hQ dX6_cost_58 hP hD hS
  · replace hf := it_f c31 hf
    refine lv_ldc (v := (1000000000 : Int32)) hx hb hown (hts (.constant RX6 226 (1000000000)) (by decide +kernel)) dX6_cost_34 ?_
    refine lv_aload_n hx hb dX6_cost_36 rfl (lv_at hl 1 rfl) ?_
    refine lv_iload hx hb dX6_cost_37 (lv_at hl 0 rfl) ?_
    obtain ⟨r39, u39, h39, hf⟩ := bd_some hf
    have hPc := hP.sub (ws' := gX6 o_t a_t cI u7.1) [0, 1] rfl
    have hDc := hD.sub (ws' := gX6 o_t a_t cI u7.1) [0, 1] (by decide) rfl
    refine calX (runV E0.b E0.n (As := [.int r24]) (rest := [.int (1000000000 : Int32)]) ⟨hx, hb, hml, hown, hts⟩ (c_X6_refused l D cI o_t a_t u7.1 r24 _ h39) gX6_cost_X6_refused rfl rfl rfl hdX6_refused ⟨by decide, by decide⟩ hK hPc hDc 0 rfl rfl rfl hl.1 rfl (Nat.le_of_ble_eq_true rfl) dX6_cost_39 ⟨Nat.zero_le _, Nat.zero_le _⟩) hP hD hS hA [0, 1] [2, 3, 4, 5, 6, 7, 8, 9, 10, 11, 12, 13, 14, 15, 16, 17] [16, 17, 0, 1, 2, 3, 4, 5, 6, 7, 8, 9, 10, 11, 12, 13, 14, 15] (wr := gX4 (a_t 0) a_t_0 cI u7.2 ++ (gX3 (a_t 7) a_t_7 cI S_t_7 ++ gX4 (a_t_7 0) a_t_7_0 cI S_t_7_0)) (wn := gX6 o_t a_t cI u39 ++ (gX4 (a_t 0) a_t_0 cI u7.2 ++ (gX3 (a_t 7) a_t_7 cI S_t_7 ++ gX4 (a_t_7 0) a_t_7_0 cI S_t_7_0))) rfl rfl (by decide) (by decide) rfl (by decide) (fun H locs hP hD hS => ?_)
    have hP : va_P D vwCl (gX6 o_t a_t cI u39 ++ (gX4 (a_t 0) a_t_0 cI u7.2 ++ (gX3 (a_t 7) a_t_7 cI S_t_7 ++ gX4 (a_t_7 0) a_t_7_0 cI S_t_7_0))) H := hP
    have hD : va_D A (gX6 o_t a_t cI u39 ++ (gX4 (a_t 0) a_t_0 cI u7.2 ++ (gX3 (a_t 7) a_t_7 cI S_t_7 ++ gX4 (a_t_7 0) a_t_7_0 cI S_t_7_0))) := hD
    refine W.eq (g2 := F0 m 42 ls [.int r39, .int (1000000000 : Int32)]) rfl ?_
    refine lv_isub hx hb dX6_cost_42 ?_
    have e := so_some hf
    subst e
    exact ri hx hb hK hr hlk hQ dX6_cost_43 hP hD hS
abbrev rmX6_two : Room := { frames := 5, cells := 0, slots := 0, locals := 119 }
set_option maxHeartbeats 4000000 in
set_option maxRecDepth 100000 in
theorem c_X6_two (l : Launch) (D : va_G) (cI : ClassId) (o_t : Nat) (a_t : Nat → Nat) (a_t_0 : Nat → Nat) (a_t_7 : Nat → Nat) (a_t_7_0 : Nat → Nat) (S_t : G) (S_t_0 : G) (S_t_7 : G) (S_t_7_0 : G) (x1 : Int32) (x2 : Int32) (x3 : Int32) (out : Int32 × G × G × G × G) (hf : f_X6_two S_t S_t_0 S_t_7 S_t_7_0 x1 x2 x3 = some out) : Cn E0 l yX6_two wsX6_two rmX6_two D cI [.ref o_t, .int x1, .int x2, .int x3] (gX6 o_t a_t cI S_t ++ (gX4 (a_t 0) a_t_0 cI S_t_0 ++ (gX3 (a_t 7) a_t_7 cI S_t_7 ++ gX4 (a_t_7 0) a_t_7_0 cI S_t_7_0))) (some (.int out.1)) (gX6 o_t a_t cI out.2.1 ++ (gX4 (a_t 0) a_t_0 cI out.2.2.1 ++ (gX3 (a_t 7) a_t_7 cI out.2.2.2.1 ++ gX4 (a_t_7 0) a_t_7_0 cI out.2.2.2.2))) := by
  refine Cn.mk (cc := cX6_two) (maxL := 5) (ret := (some .int)) (by decide) rfl (Nat.le_of_ble_eq_true rfl) ?_
  intro p e s m below meth c A ls Q hx hb hml hown hts hK hA hP hD hS hl hr hlk hnm hE hQ
  have hown : s.vm.findClass RX6 = some m.cls := hown
  have hinX6 : ∀ w ∈ u_ws RX6 TX6 9, w ∈ wsX6_two := by decide +kernel
  have j27 : ∀ (S_t : G) (S_t_0 : G) (S_t_7 : G) (S_t_7_0 : G) (l1 : Int32) (l2 : Int32) (l3 : Int32) (s0 : Int32) (s1 : Int32) (H : Heap) (locs : List Loc) (ls : Array Slot), f_X6_two_27 S_t S_t_0 S_t_7 S_t_7_0 l1 l2 l3 s0 s1 = some out → va_P D vwCl (gX6 o_t a_t cI S_t ++ (gX4 (a_t 0) a_t_0 cI S_t_0 ++ (gX3 (a_t 7) a_t_7 cI S_t_7 ++ gX4 (a_t_7 0) a_t_7_0 cI S_t_7_0))) H → va_D A (gX6 o_t a_t cI S_t ++ (gX4 (a_t 0) a_t_0 cI S_t_0 ++ (gX3 (a_t 7) a_t_7 cI S_t_7 ++ gX4 (a_t_7 0) a_t_7_0 cI S_t_7_0))) → va_S A s.heap H locs → lv_has ls 5 [(0, .ref o_t), (1, .int l1), (2, .int l2), (3, .int l3)] → W p l e rmX6_two s m ([.ref o_t, .int x1, .int x2, .int x3] : List Value).toArray below meth c H locs 0 0 Q (F0 m 27 ls [.int s1, .int s0]) := by
    intro S_t S_t_0 S_t_7 S_t_7_0 l1 l2 l3 s0 s1 H locs ls hf hP hD hS hl
    unfold f_X6_two_27 at hf
    obtain ⟨r27, u27, h27, hf⟩ := bd_some hf
    have hPc : va_P D vwCl [] H := hP.sub (ws' := []) [] rfl
    have hDc : va_D A [] := hD.sub (ws' := []) [] (by decide) rfl
    refine calXe (runS E0.b E0.n (As := [.int s0, .int s1]) (rest := []) ⟨hx, hb, hml, hown, hts⟩ (c_X6_first l D cI s0 s1 _ h27) gX6_two_X6_first rfl rfl rfl hdX6_first ⟨by decide, by decide⟩ hK hPc hDc rfl hl.1 rfl (Nat.le_of_ble_eq_true rfl) dX6_two_27 ⟨Nat.zero_le _, Nat.zero_le _⟩) hP hD hS hA (fun H locs hP hD hS => ?_)
    have hP : va_P D vwCl (gX6 o_t a_t cI S_t ++ (gX4 (a_t 0) a_t_0 cI S_t_0 ++ (gX3 (a_t 7) a_t_7 cI S_t_7 ++ gX4 (a_t_7 0) a_t_7_0 cI S_t_7_0))) H := hP
    have hD : va_D A (gX6 o_t a_t cI S_t ++ (gX4 (a_t 0) a_t_0 cI S_t_0 ++ (gX3 (a_t 7) a_t_7 cI S_t_7 ++ gX4 (a_t_7 0) a_t_7_0 cI S_t_7_0))) := hD
    refine W.eq (g2 := F0 m 30 ls [.int r27]) rfl ?_
    refine lv_istore (lv' := [(4, .int r27), (0, .ref o_t), (1, .int l1), (2, .int l2), (3, .int l3)]) hx hb dX6_two_30 hl (by decide) rfl (fun ls hl => ?_)
    refine lv_iload hx hb dX6_two_32 (lv_at hl 0 rfl) ?_
    refine lv_iload_n hx hb dX6_two_34 rfl (lv_at hl 4 rfl) ?_
    refine lv_iconst (v := (1 : Int32)) hx hb dX6_two_35 (by decide) ?_
    refine lv_bipush (v := (20 : Int32)) hx hb dX6_two_36 (by decide) ?_
    obtain ⟨r38, u38, h38, hf⟩ := bd_some hf
    have hPc : va_P D vwCl [] H := hP.sub (ws' := []) [] rfl
    have hDc : va_D A [] := hD.sub (ws' := []) [] (by decide) rfl
    refine calXe (runS E0.b E0.n (As := [.int l3, .int (1 : Int32), .int (20 : Int32)]) (rest := [.int r27]) ⟨hx, hb, hml, hown, hts⟩ (c_X6_range l D cI l3 (1 : Int32) (20 : Int32) _ h38) gX6_two_X6_range rfl rfl rfl hdX6_range ⟨by decide, by decide⟩ hK hPc hDc rfl hl.1 rfl (Nat.le_of_ble_eq_true rfl) dX6_two_38 ⟨Nat.zero_le _, Nat.zero_le _⟩) hP hD hS hA (fun H locs hP hD hS => ?_)
    have hP : va_P D vwCl (gX6 o_t a_t cI S_t ++ (gX4 (a_t 0) a_t_0 cI S_t_0 ++ (gX3 (a_t 7) a_t_7 cI S_t_7 ++ gX4 (a_t_7 0) a_t_7_0 cI S_t_7_0))) H := hP
    have hD : va_D A (gX6 o_t a_t cI S_t ++ (gX4 (a_t 0) a_t_0 cI S_t_0 ++ (gX3 (a_t 7) a_t_7 cI S_t_7 ++ gX4 (a_t_7 0) a_t_7_0 cI S_t_7_0))) := hD
    refine W.eq (g2 := F0 m 41 ls [.int r38, .int r27]) rfl ?_
    obtain ⟨r41, u41, h41, hf⟩ := bd_some hf
    have hPc : va_P D vwCl [] H := hP.sub (ws' := []) [] rfl
    have hDc : va_D A [] := hD.sub (ws' := []) [] (by decide) rfl
    refine calXe (runS E0.b E0.n (As := [.int r27, .int r38]) (rest := []) ⟨hx, hb, hml, hown, hts⟩ (c_X6_first l D cI r27 r38 _ h41) gX6_two_X6_first rfl rfl rfl hdX6_first ⟨by decide, by decide⟩ hK hPc hDc rfl hl.1 rfl (Nat.le_of_ble_eq_true rfl) dX6_two_41 ⟨Nat.zero_le _, Nat.zero_le _⟩) hP hD hS hA (fun H locs hP hD hS => ?_)
    have hP : va_P D vwCl (gX6 o_t a_t cI S_t ++ (gX4 (a_t 0) a_t_0 cI S_t_0 ++ (gX3 (a_t 7) a_t_7 cI S_t_7 ++ gX4 (a_t_7 0) a_t_7_0 cI S_t_7_0))) H := hP
    have hD : va_D A (gX6 o_t a_t cI S_t ++ (gX4 (a_t 0) a_t_0 cI S_t_0 ++ (gX3 (a_t 7) a_t_7 cI S_t_7 ++ gX4 (a_t_7 0) a_t_7_0 cI S_t_7_0))) := hD
    refine W.eq (g2 := F0 m 44 ls [.int r41]) rfl ?_
    refine lv_istore (lv' := [(4, .int r41), (0, .ref o_t), (1, .int l1), (2, .int l2), (3, .int l3)]) hx hb dX6_two_44 hl (by decide) rfl (fun ls hl => ?_)
    refine lv_iload hx hb dX6_two_46 (lv_at hl 0 rfl) ?_
    refine lv_if_eq (tgt := 58) hx hb dX6_two_48 (by decide) (fun c48 => ?_) (fun c48 => ?_)
    · replace hf := it_t c48 hf
      refine lv_aload_n hx hb dX6_two_58 rfl (lv_at hl 1 rfl) ?_
      refine va_get (D := D) (ci := 6) (v := .ref (a_t 7)) (C := RX6) (T := TX6) (N := 9) hx hb hts hinX6 hown hK hP 0 rfl rfl 7 (by decide) (hts (.fieldLink RX6 50 "OnlyStrangersHear" "plans" "LOnlyStrangersHear$Plans;") (by decide +kernel)) (fun _ h9 => h9) rfl dX6_two_59 ?_
      refine lv_aload_n hx hb dX6_two_62 rfl (lv_at hl 1 rfl) ?_
      refine va_get (D := D) (ci := 6) (v := .ref (a_t 0)) (C := RX6) (T := TX6) (N := 9) hx hb hts hinX6 hown hK hP 0 rfl rfl 0 (by decide) (hts (.fieldLink RX6 10 "OnlyStrangersHear" "now" "LOnlyStrangersHear$Town;") (by decide +kernel)) (fun _ h9 => h9) rfl dX6_two_63 ?_
      refine lv_iload_n hx hb dX6_two_66 rfl (lv_at hl 2 rfl) ?_
      refine lv_iload_n hx hb dX6_two_67 rfl (lv_at hl 3 rfl) ?_
      refine lv_iload_n hx hb dX6_two_68 rfl (lv_at hl 4 rfl) ?_
      obtain ⟨r69, u69, h69, hf⟩ := bd_some hf
      have hPc := hP.sub (ws' := gX3 (a_t 7) a_t_7 cI S_t_7 ++ (gX4 (a_t_7 0) a_t_7_0 cI S_t_7_0 ++ gX4 (a_t 0) a_t_0 cI S_t_0)) [9, 10, 11, 12, 13, 14, 15, 16, 17, 2, 3, 4, 5, 6, 7, 8] rfl
      have hDc := hD.sub (ws' := gX3 (a_t 7) a_t_7 cI S_t_7 ++ (gX4 (a_t_7 0) a_t_7_0 cI S_t_7_0 ++ gX4 (a_t 0) a_t_0 cI S_t_0)) [9, 10, 11, 12, 13, 14, 15, 16, 17, 2, 3, 4, 5, 6, 7, 8] (by decide) rfl
      refine calX (runV E0.b E0.n (As := [.ref (a_t 0), .int l1, .int l2, .int l3]) (rest := []) ⟨hx, hb, hml, hown, hts⟩ (c_X3_settledPair l D cI (a_t 7) a_t_7 a_t_7_0 (a_t 0) a_t_0 S_t_7 S_t_7_0 S_t_0 l1 l2 l3 _ h69) gX6_two_X3_settledPair rfl rfl rfl hdX3_settledPair ⟨by decide, by decide⟩ hK hPc hDc 0 rfl rfl rfl hl.1 rfl (Nat.le_of_ble_eq_true rfl) dX6_two_69 ⟨Nat.zero_le _, Nat.zero_le _⟩) hP hD hS hA [9, 10, 11, 12, 13, 14, 15, 16, 17, 2, 3, 4, 5, 6, 7, 8] [0, 1] [0, 1, 11, 12, 13, 14, 15, 16, 17, 2, 3, 4, 5, 6, 7, 8, 9, 10] (wr := gX6 o_t a_t cI S_t) (wn := gX6 o_t a_t cI S_t ++ (gX4 (a_t 0) a_t_0 cI u69.2.2 ++ (gX3 (a_t 7) a_t_7 cI u69.1 ++ gX4 (a_t_7 0) a_t_7_0 cI u69.2.1))) rfl rfl (by decide) (by decide) rfl (by decide) (fun H locs hP hD hS => ?_)
      have hP : va_P D vwCl (gX6 o_t a_t cI S_t ++ (gX4 (a_t 0) a_t_0 cI u69.2.2 ++ (gX3 (a_t 7) a_t_7 cI u69.1 ++ gX4 (a_t_7 0) a_t_7_0 cI u69.2.1))) H := hP
      have hD : va_D A (gX6 o_t a_t cI S_t ++ (gX4 (a_t 0) a_t_0 cI u69.2.2 ++ (gX3 (a_t 7) a_t_7 cI u69.1 ++ gX4 (a_t_7 0) a_t_7_0 cI u69.2.1))) := hD
      refine W.eq (g2 := F0 m 72 ls [.int r69]) rfl ?_
      have e := so_some hf
      subst e
      exact ri hx hb hK hr hlk hQ dX6_two_72 hP hD hS
    · replace hf := it_f c48 hf
      refine lv_aload_n hx hb dX6_two_51 rfl (lv_at hl 1 rfl) ?_
      refine lv_iload hx hb dX6_two_52 (lv_at hl 0 rfl) ?_
      obtain ⟨r54, u54, h54, hf⟩ := bd_some hf
      have hPc := hP.sub (ws' := gX6 o_t a_t cI S_t) [0, 1] rfl
      have hDc := hD.sub (ws' := gX6 o_t a_t cI S_t) [0, 1] (by decide) rfl
      refine calX (runV E0.b E0.n (As := [.int r41]) (rest := []) ⟨hx, hb, hml, hown, hts⟩ (c_X6_refused l D cI o_t a_t S_t r41 _ h54) gX6_two_X6_refused rfl rfl rfl hdX6_refused ⟨by decide, by decide⟩ hK hPc hDc 0 rfl rfl rfl hl.1 rfl (Nat.le_of_ble_eq_true rfl) dX6_two_54 ⟨Nat.zero_le _, Nat.zero_le _⟩) hP hD hS hA [0, 1] [2, 3, 4, 5, 6, 7, 8, 9, 10, 11, 12, 13, 14, 15, 16, 17] [16, 17, 0, 1, 2, 3, 4, 5, 6, 7, 8, 9, 10, 11, 12, 13, 14, 15] (wr := gX4 (a_t 0) a_t_0 cI S_t_0 ++ (gX3 (a_t 7) a_t_7 cI S_t_7 ++ gX4 (a_t_7 0) a_t_7_0 cI S_t_7_0)) (wn := gX6 o_t a_t cI u54 ++ (gX4 (a_t 0) a_t_0 cI S_t_0 ++ (gX3 (a_t 7) a_t_7 cI S_t_7 ++ gX4 (a_t_7 0) a_t_7_0 cI S_t_7_0))) rfl rfl (by decide) (by decide) rfl (by decide) (fun H locs hP hD hS => ?_)
      have hP : va_P D vwCl (gX6 o_t a_t cI u54 ++ (gX4 (a_t 0) a_t_0 cI S_t_0 ++ (gX3 (a_t 7) a_t_7 cI S_t_7 ++ gX4 (a_t_7 0) a_t_7_0 cI S_t_7_0))) H := hP
      have hD : va_D A (gX6 o_t a_t cI u54 ++ (gX4 (a_t 0) a_t_0 cI S_t_0 ++ (gX3 (a_t 7) a_t_7 cI S_t_7 ++ gX4 (a_t_7 0) a_t_7_0 cI S_t_7_0))) := hD
      refine W.eq (g2 := F0 m 57 ls [.int r54]) rfl ?_
      have e := so_some hf
      subst e
      exact ri hx hb hK hr hlk hQ dX6_two_57 hP hD hS
  unfold f_X6_two at hf
  have hl : lv_has ls 5 [(0, .ref o_t), (1, .int x1), (2, .int x2), (3, .int x3)] := hl
  obtain ⟨H, hHe⟩ : ∃ H : Heap, H = s.heap := ⟨_, rfl⟩
  obtain ⟨locs, hle⟩ : ∃ q : List Loc, q = [] := ⟨_, rfl⟩
  have hS : va_S A s.heap H locs := by rw [hHe, hle]; exact hS
  rw [← hHe] at hP
  suffices hgo : W p l e rmX6_two s m ([.ref o_t, .int x1, .int x2, .int x3] : List Value).toArray below meth c H locs 0 0 Q (F0 m 0 ls []) by rw [hHe, hle] at hgo; exact hgo
  clear hHe hle
  refine lv_aload_n hx hb dX6_two_0 rfl (lv_at hl 0 rfl) ?_
  refine lv_iload_n hx hb dX6_two_1 rfl (lv_at hl 1 rfl) ?_
  obtain ⟨r2, u2, h2, hf⟩ := bd_some hf
  have hPc := hP.sub (ws' := gX6 o_t a_t cI S_t ++ gX4 (a_t 0) a_t_0 cI S_t_0) [0, 1, 2, 3, 4, 5, 6, 7, 8] rfl
  have hDc := hD.sub (ws' := gX6 o_t a_t cI S_t ++ gX4 (a_t 0) a_t_0 cI S_t_0) [0, 1, 2, 3, 4, 5, 6, 7, 8] (by decide) rfl
  refine calX (runV E0.b E0.n (As := [.int x1]) (rest := []) ⟨hx, hb, hml, hown, hts⟩ (c_X6_noPerson l D cI o_t a_t a_t_0 S_t S_t_0 x1 _ h2) gX6_two_X6_noPerson rfl rfl rfl hdX6_noPerson ⟨by decide, by decide⟩ hK hPc hDc 0 rfl rfl rfl hl.1 rfl (Nat.le_of_ble_eq_true rfl) dX6_two_2 ⟨Nat.zero_le _, Nat.zero_le _⟩) hP hD hS hA [0, 1, 2, 3, 4, 5, 6, 7, 8] [9, 10, 11, 12, 13, 14, 15, 16, 17] [9, 10, 11, 12, 13, 14, 15, 16, 17, 0, 1, 2, 3, 4, 5, 6, 7, 8] (wr := gX3 (a_t 7) a_t_7 cI S_t_7 ++ gX4 (a_t_7 0) a_t_7_0 cI S_t_7_0) (wn := gX6 o_t a_t cI u2.1 ++ (gX4 (a_t 0) a_t_0 cI u2.2 ++ (gX3 (a_t 7) a_t_7 cI S_t_7 ++ gX4 (a_t_7 0) a_t_7_0 cI S_t_7_0))) rfl rfl (by decide) (by decide) rfl (by decide) (fun H locs hP hD hS => ?_)
  have hP : va_P D vwCl (gX6 o_t a_t cI u2.1 ++ (gX4 (a_t 0) a_t_0 cI u2.2 ++ (gX3 (a_t 7) a_t_7 cI S_t_7 ++ gX4 (a_t_7 0) a_t_7_0 cI S_t_7_0))) H := hP
  have hD : va_D A (gX6 o_t a_t cI u2.1 ++ (gX4 (a_t 0) a_t_0 cI u2.2 ++ (gX3 (a_t 7) a_t_7 cI S_t_7 ++ gX4 (a_t_7 0) a_t_7_0 cI S_t_7_0))) := hD
  refine W.eq (g2 := F0 m 5 ls [.int r2]) rfl ?_
  refine lv_aload_n hx hb dX6_two_5 rfl (lv_at hl 0 rfl) ?_
  refine lv_iload_n hx hb dX6_two_6 rfl (lv_at hl 2 rfl) ?_
  obtain ⟨r7, u7, h7, hf⟩ := bd_some hf
  have hPc := hP.sub (ws' := gX6 o_t a_t cI u2.1 ++ gX4 (a_t 0) a_t_0 cI u2.2) [0, 1, 2, 3, 4, 5, 6, 7, 8] rfl
  have hDc := hD.sub (ws' := gX6 o_t a_t cI u2.1 ++ gX4 (a_t 0) a_t_0 cI u2.2) [0, 1, 2, 3, 4, 5, 6, 7, 8] (by decide) rfl
  refine calX (runV E0.b E0.n (As := [.int x2]) (rest := [.int r2]) ⟨hx, hb, hml, hown, hts⟩ (c_X6_noPerson l D cI o_t a_t a_t_0 u2.1 u2.2 x2 _ h7) gX6_two_X6_noPerson rfl rfl rfl hdX6_noPerson ⟨by decide, by decide⟩ hK hPc hDc 0 rfl rfl rfl hl.1 rfl (Nat.le_of_ble_eq_true rfl) dX6_two_7 ⟨Nat.zero_le _, Nat.zero_le _⟩) hP hD hS hA [0, 1, 2, 3, 4, 5, 6, 7, 8] [9, 10, 11, 12, 13, 14, 15, 16, 17] [9, 10, 11, 12, 13, 14, 15, 16, 17, 0, 1, 2, 3, 4, 5, 6, 7, 8] (wr := gX3 (a_t 7) a_t_7 cI S_t_7 ++ gX4 (a_t_7 0) a_t_7_0 cI S_t_7_0) (wn := gX6 o_t a_t cI u7.1 ++ (gX4 (a_t 0) a_t_0 cI u7.2 ++ (gX3 (a_t 7) a_t_7 cI S_t_7 ++ gX4 (a_t_7 0) a_t_7_0 cI S_t_7_0))) rfl rfl (by decide) (by decide) rfl (by decide) (fun H locs hP hD hS => ?_)
  have hP : va_P D vwCl (gX6 o_t a_t cI u7.1 ++ (gX4 (a_t 0) a_t_0 cI u7.2 ++ (gX3 (a_t 7) a_t_7 cI S_t_7 ++ gX4 (a_t_7 0) a_t_7_0 cI S_t_7_0))) H := hP
  have hD : va_D A (gX6 o_t a_t cI u7.1 ++ (gX4 (a_t 0) a_t_0 cI u7.2 ++ (gX3 (a_t 7) a_t_7 cI S_t_7 ++ gX4 (a_t_7 0) a_t_7_0 cI S_t_7_0))) := hD
  refine W.eq (g2 := F0 m 10 ls [.int r7, .int r2]) rfl ?_
  obtain ⟨r10, u10, h10, hf⟩ := bd_some hf
  have hPc : va_P D vwCl [] H := hP.sub (ws' := []) [] rfl
  have hDc : va_D A [] := hD.sub (ws' := []) [] (by decide) rfl
  refine calXe (runS E0.b E0.n (As := [.int r2, .int r7]) (rest := []) ⟨hx, hb, hml, hown, hts⟩ (c_X6_first l D cI r2 r7 _ h10) gX6_two_X6_first rfl rfl rfl hdX6_first ⟨by decide, by decide⟩ hK hPc hDc rfl hl.1 rfl (Nat.le_of_ble_eq_true rfl) dX6_two_10 ⟨Nat.zero_le _, Nat.zero_le _⟩) hP hD hS hA (fun H locs hP hD hS => ?_)
  have hP : va_P D vwCl (gX6 o_t a_t cI u7.1 ++ (gX4 (a_t 0) a_t_0 cI u7.2 ++ (gX3 (a_t 7) a_t_7 cI S_t_7 ++ gX4 (a_t_7 0) a_t_7_0 cI S_t_7_0))) H := hP
  have hD : va_D A (gX6 o_t a_t cI u7.1 ++ (gX4 (a_t 0) a_t_0 cI u7.2 ++ (gX3 (a_t 7) a_t_7 cI S_t_7 ++ gX4 (a_t_7 0) a_t_7_0 cI S_t_7_0))) := hD
  refine W.eq (g2 := F0 m 13 ls [.int r10]) rfl ?_
  refine lv_istore (lv' := [(4, .int r10), (0, .ref o_t), (1, .int x1), (2, .int x2), (3, .int x3)]) hx hb dX6_two_13 hl (by decide) rfl (fun ls hl => ?_)
  refine lv_iload hx hb dX6_two_15 (lv_at hl 0 rfl) ?_
  refine lv_iload_n hx hb dX6_two_17 rfl (lv_at hl 2 rfl) ?_
  refine lv_iload_n hx hb dX6_two_18 rfl (lv_at hl 3 rfl) ?_
  refine lv_icmp_ne (tgt := 26) hx hb dX6_two_19 (by decide) (fun c19 => ?_) (fun c19 => ?_)
  · replace hf := it_f c19 hf
    refine lv_iconst (v := (0 : Int32)) hx hb dX6_two_26 (by decide) ?_
    exact j27 u7.1 u7.2 S_t_7 S_t_7_0 x1 x2 x3 r10 (0 : Int32) H locs ls hf hP hD hS (lv_sub hl [1, 2, 3, 4] rfl)
  · replace hf := it_t c19 hf
    refine lv_iconst (v := (-1 : Int32)) hx hb dX6_two_22 (by decide) ?_
    refine lv_goto (tgt := 27) hx hb dX6_two_23 (by decide) ?_
    exact j27 u7.1 u7.2 S_t_7 S_t_7_0 x1 x2 x3 r10 (-1 : Int32) H locs ls hf hP hD hS (lv_sub hl [1, 2, 3, 4] rfl)
abbrev rmX6_fog : Room := { frames := 4, cells := 0, slots := 0, locals := 97 }
set_option maxHeartbeats 4000000 in
set_option maxRecDepth 100000 in
theorem c_X6_fog (l : Launch) (D : va_G) (cI : ClassId) (o_t : Nat) (a_t : Nat → Nat) (a_t_0 : Nat → Nat) (a_t_6 : Nat → Nat) (a_t_6_0 : Nat → Nat) (S_t : G) (S_t_0 : G) (S_t_6_0 : G) (x1 : Int32) (x2 : Int32) (x3 : Int32) (x4 : Int32) (out : Int64 × G × G × G) (hf : f_X6_fog S_t S_t_0 S_t_6_0 x1 x2 x3 x4 = some out) : Cn EX l yX6_fog wsX6_fog rmX6_fog D cI [.ref o_t, .int x1, .int x2, .int x3, .int x4] (gX6 o_t a_t cI S_t ++ (gX4 (a_t 0) a_t_0 cI S_t_0 ++ (gX1 (a_t 6) a_t_6 ++ gX4 (a_t_6 0) a_t_6_0 cI S_t_6_0))) (some (.long out.1)) (gX6 o_t a_t cI out.2.1 ++ (gX4 (a_t 0) a_t_0 cI out.2.2.1 ++ (gX1 (a_t 6) a_t_6 ++ gX4 (a_t_6 0) a_t_6_0 cI out.2.2.2))) := by
  refine Cn.mk (cc := cX6_fog) (maxL := 6) (ret := (some .long)) (by decide) rfl (Nat.le_of_ble_eq_true rfl) ?_
  intro p e s m below meth c A ls Q hx hb hml hown hts hK hA hP hD hS hl hr hlk hnm hE hQ
  have hown : s.vm.findClass RX6 = some m.cls := hown
  have hinX6 : ∀ w ∈ u_ws RX6 TX6 9, w ∈ wsX6_fog := by decide +kernel
  have j45 : ∀ (S_t : G) (S_t_0 : G) (S_t_6_0 : G) (l1 : Int32) (l2 : Int32) (l3 : Int32) (l4 : Int32) (s0 : Int32) (s1 : Int32) (H : Heap) (locs : List Loc) (ls : Array Slot), f_X6_fog_45 S_t S_t_0 S_t_6_0 l1 l2 l3 l4 s0 s1 = some out → va_P D vwCl (gX6 o_t a_t cI S_t ++ (gX4 (a_t 0) a_t_0 cI S_t_0 ++ (gX1 (a_t 6) a_t_6 ++ gX4 (a_t_6 0) a_t_6_0 cI S_t_6_0))) H → va_D A (gX6 o_t a_t cI S_t ++ (gX4 (a_t 0) a_t_0 cI S_t_0 ++ (gX1 (a_t 6) a_t_6 ++ gX4 (a_t_6 0) a_t_6_0 cI S_t_6_0))) → va_S A s.heap H locs → lv_has ls 6 [(0, .ref o_t), (1, .int l1), (2, .int l2), (3, .int l3), (4, .int l4)] → W p l e rmX6_fog s m ([.ref o_t, .int x1, .int x2, .int x3, .int x4] : List Value).toArray below meth c H locs 0 0 Q (F0 m 45 ls [.int s1, .int s0]) := by
    intro S_t S_t_0 S_t_6_0 l1 l2 l3 l4 s0 s1 H locs ls hf hP hD hS hl
    unfold f_X6_fog_45 at hf
    obtain ⟨r45, u45, h45, hf⟩ := bd_some hf
    have hPc : va_P D vwCl [] H := hP.sub (ws' := []) [] rfl
    have hDc : va_D A [] := hD.sub (ws' := []) [] (by decide) rfl
    refine calXe (runS E0.b E0.n (As := [.int s0, .int s1]) (rest := []) ⟨hx, hb, hml, hown, hts⟩ (c_X6_first l D cI s0 s1 _ h45) gX6_fog_X6_first rfl rfl rfl hdX6_first ⟨by decide, by decide⟩ hK hPc hDc rfl hl.1 rfl (Nat.le_of_ble_eq_true rfl) dX6_fog_45 ⟨Nat.zero_le _, Nat.zero_le _⟩) hP hD hS hA (fun H locs hP hD hS => ?_)
    have hP : va_P D vwCl (gX6 o_t a_t cI S_t ++ (gX4 (a_t 0) a_t_0 cI S_t_0 ++ (gX1 (a_t 6) a_t_6 ++ gX4 (a_t_6 0) a_t_6_0 cI S_t_6_0))) H := hP
    have hD : va_D A (gX6 o_t a_t cI S_t ++ (gX4 (a_t 0) a_t_0 cI S_t_0 ++ (gX1 (a_t 6) a_t_6 ++ gX4 (a_t_6 0) a_t_6_0 cI S_t_6_0))) := hD
    refine W.eq (g2 := F0 m 48 ls [.int r45]) rfl ?_
    refine lv_istore (lv' := [(5, .int r45), (0, .ref o_t), (1, .int l1), (2, .int l2), (3, .int l3), (4, .int l4)]) hx hb dX6_fog_48 hl (by decide) rfl (fun ls hl => ?_)
    refine lv_iload hx hb dX6_fog_50 (lv_at hl 0 rfl) ?_
    refine lv_iload hx hb dX6_fog_52 (lv_at hl 5 rfl) ?_
    refine lv_iconst (v := (2 : Int32)) hx hb dX6_fog_54 (by decide) ?_
    obtain ⟨r55, u55, h55, hf⟩ := bd_some hf
    have hPc : va_P D vwCl [] H := hP.sub (ws' := []) [] rfl
    have hDc : va_D A [] := hD.sub (ws' := []) [] (by decide) rfl
    refine calXe (runS E0.b E0.n (As := [.int l4, .int (2 : Int32)]) (rest := [.int r45]) ⟨hx, hb, hml, hown, hts⟩ (c_X6_choice l D cI l4 (2 : Int32) _ h55) gX6_fog_X6_choice rfl rfl rfl hdX6_choice ⟨by decide, by decide⟩ hK hPc hDc rfl hl.1 rfl (Nat.le_of_ble_eq_true rfl) dX6_fog_55 ⟨Nat.zero_le _, Nat.zero_le _⟩) hP hD hS hA (fun H locs hP hD hS => ?_)
    have hP : va_P D vwCl (gX6 o_t a_t cI S_t ++ (gX4 (a_t 0) a_t_0 cI S_t_0 ++ (gX1 (a_t 6) a_t_6 ++ gX4 (a_t_6 0) a_t_6_0 cI S_t_6_0))) H := hP
    have hD : va_D A (gX6 o_t a_t cI S_t ++ (gX4 (a_t 0) a_t_0 cI S_t_0 ++ (gX1 (a_t 6) a_t_6 ++ gX4 (a_t_6 0) a_t_6_0 cI S_t_6_0))) := hD
    refine W.eq (g2 := F0 m 58 ls [.int r55, .int r45]) rfl ?_
    obtain ⟨r58, u58, h58, hf⟩ := bd_some hf
    have hPc : va_P D vwCl [] H := hP.sub (ws' := []) [] rfl
    have hDc : va_D A [] := hD.sub (ws' := []) [] (by decide) rfl
    refine calXe (runS E0.b E0.n (As := [.int r45, .int r55]) (rest := []) ⟨hx, hb, hml, hown, hts⟩ (c_X6_first l D cI r45 r55 _ h58) gX6_fog_X6_first rfl rfl rfl hdX6_first ⟨by decide, by decide⟩ hK hPc hDc rfl hl.1 rfl (Nat.le_of_ble_eq_true rfl) dX6_fog_58 ⟨Nat.zero_le _, Nat.zero_le _⟩) hP hD hS hA (fun H locs hP hD hS => ?_)
    have hP : va_P D vwCl (gX6 o_t a_t cI S_t ++ (gX4 (a_t 0) a_t_0 cI S_t_0 ++ (gX1 (a_t 6) a_t_6 ++ gX4 (a_t_6 0) a_t_6_0 cI S_t_6_0))) H := hP
    have hD : va_D A (gX6 o_t a_t cI S_t ++ (gX4 (a_t 0) a_t_0 cI S_t_0 ++ (gX1 (a_t 6) a_t_6 ++ gX4 (a_t_6 0) a_t_6_0 cI S_t_6_0))) := hD
    refine W.eq (g2 := F0 m 61 ls [.int r58]) rfl ?_
    refine lv_istore (lv' := [(5, .int r58), (0, .ref o_t), (1, .int l1), (2, .int l2), (3, .int l3), (4, .int l4)]) hx hb dX6_fog_61 hl (by decide) rfl (fun ls hl => ?_)
    refine lv_iload hx hb dX6_fog_63 (lv_at hl 0 rfl) ?_
    refine lv_if_eq (tgt := 80) hx hb dX6_fog_65 (by decide) (fun c65 => ?_) (fun c65 => ?_)
    · replace hf := it_t c65 hf
      refine lv_aload_n hx hb dX6_fog_80 rfl (lv_at hl 1 rfl) ?_
      refine va_get (D := D) (ci := 6) (v := .ref (a_t 6)) (C := RX6) (T := TX6) (N := 9) hx hb hts hinX6 hown hK hP 0 rfl rfl 6 (by decide) (hts (.fieldLink RX6 43 "OnlyStrangersHear" "mind" "LOnlyStrangersHear$Mind;") (by decide +kernel)) (fun _ h9 => h9) rfl dX6_fog_81 ?_
      refine lv_aload_n hx hb dX6_fog_84 rfl (lv_at hl 1 rfl) ?_
      refine va_get (D := D) (ci := 6) (v := .ref (a_t 0)) (C := RX6) (T := TX6) (N := 9) hx hb hts hinX6 hown hK hP 0 rfl rfl 0 (by decide) (hts (.fieldLink RX6 10 "OnlyStrangersHear" "now" "LOnlyStrangersHear$Town;") (by decide +kernel)) (fun _ h9 => h9) rfl dX6_fog_85 ?_
      refine lv_iload_n hx hb dX6_fog_88 rfl (lv_at hl 2 rfl) ?_
      refine lv_iload_n hx hb dX6_fog_89 rfl (lv_at hl 3 rfl) ?_
      refine lv_iload_n hx hb dX6_fog_90 rfl (lv_at hl 4 rfl) ?_
      obtain ⟨r91, u91, h91, hf⟩ := bd_some hf
      have hPc := hP.sub (ws' := gX1 (a_t 6) a_t_6 ++ (gX4 (a_t_6 0) a_t_6_0 cI S_t_6_0 ++ gX4 (a_t 0) a_t_0 cI S_t_0)) [9, 10, 11, 12, 13, 14, 15, 16, 2, 3, 4, 5, 6, 7, 8] rfl
      have hDc := hD.sub (ws' := gX1 (a_t 6) a_t_6 ++ (gX4 (a_t_6 0) a_t_6_0 cI S_t_6_0 ++ gX4 (a_t 0) a_t_0 cI S_t_0)) [9, 10, 11, 12, 13, 14, 15, 16, 2, 3, 4, 5, 6, 7, 8] (by decide) rfl
      refine calX (runV EX.b (EX.n hE hS (va_free (wc := gX1 (a_t 6) a_t_6 ++ (gX4 (a_t_6 0) a_t_6_0 cI S_t_6_0 ++ gX4 (a_t 0) a_t_0 cI S_t_0)) hD hS hA [9, 10, 11, 12, 13, 14, 15, 16, 2, 3, 4, 5, 6, 7, 8] rfl)) (As := [.ref (a_t 0), .int l1, .int l2, .int l3]) (rest := []) ⟨hx, hb, hml, hown, hts⟩ (c_X1_clearWays l D cI (a_t 6) a_t_6 a_t_6_0 (a_t 0) a_t_0 S_t_6_0 S_t_0 l1 l2 l3 _ h91) gX6_fog_X1_clearWays rfl rfl rfl hdX1_clearWays ⟨by decide, by decide⟩ hK hPc hDc 0 rfl rfl rfl hl.1 rfl (Nat.le_of_ble_eq_true rfl) dX6_fog_91 ⟨Nat.zero_le _, Nat.zero_le _⟩) hP hD hS hA [9, 10, 11, 12, 13, 14, 15, 16, 2, 3, 4, 5, 6, 7, 8] [0, 1] [0, 1, 10, 11, 12, 13, 14, 15, 16, 2, 3, 4, 5, 6, 7, 8, 9] (wr := gX6 o_t a_t cI S_t) (wn := gX6 o_t a_t cI S_t ++ (gX4 (a_t 0) a_t_0 cI u91.2 ++ (gX1 (a_t 6) a_t_6 ++ gX4 (a_t_6 0) a_t_6_0 cI u91.1))) rfl rfl (by decide) (by decide) rfl (by decide) (fun H locs hP hD hS => ?_)
      have hP : va_P D vwCl (gX6 o_t a_t cI S_t ++ (gX4 (a_t 0) a_t_0 cI u91.2 ++ (gX1 (a_t 6) a_t_6 ++ gX4 (a_t_6 0) a_t_6_0 cI u91.1))) H := hP
      have hD : va_D A (gX6 o_t a_t cI S_t ++ (gX4 (a_t 0) a_t_0 cI u91.2 ++ (gX1 (a_t 6) a_t_6 ++ gX4 (a_t_6 0) a_t_6_0 cI u91.1))) := hD
      refine W.eq (g2 := F0 m 94 ls [.long r91]) rfl ?_
      refine lv_iload_n hx hb dX6_fog_94 rfl (lv_at hl 4 rfl) ?_
      refine lv_iload_n hx hb dX6_fog_95 rfl (lv_at hl 3 rfl) ?_
      obtain ⟨r96, u96, h96, hf⟩ := bd_some hf
      have hPc : va_P D vwCl [] H := hP.sub (ws' := []) [] rfl
      have hDc : va_D A [] := hD.sub (ws' := []) [] (by decide) rfl
      refine calXe (runS E0.b E0.n (As := [.int l3, .int l2]) (rest := [.long r91]) ⟨hx, hb, hml, hown, hts⟩ (c_X6_power l D cI l3 l2 _ h96) gX6_fog_X6_power rfl rfl rfl hdX6_power ⟨by decide, by decide⟩ hK hPc hDc rfl hl.1 rfl (Nat.le_of_ble_eq_true rfl) dX6_fog_96 ⟨Nat.zero_le _, Nat.zero_le _⟩) hP hD hS hA (fun H locs hP hD hS => ?_)
      have hP : va_P D vwCl (gX6 o_t a_t cI S_t ++ (gX4 (a_t 0) a_t_0 cI u91.2 ++ (gX1 (a_t 6) a_t_6 ++ gX4 (a_t_6 0) a_t_6_0 cI u91.1))) H := hP
      have hD : va_D A (gX6 o_t a_t cI S_t ++ (gX4 (a_t 0) a_t_0 cI u91.2 ++ (gX1 (a_t 6) a_t_6 ++ gX4 (a_t_6 0) a_t_6_0 cI u91.1))) := hD
      refine W.eq (g2 := F0 m 99 ls [.long r96, .long r91]) rfl ?_
      refine lv_iload hx hb dX6_fog_99 (lv_at hl 5 rfl) ?_
      obtain ⟨r101, u101, h101, hf⟩ := bd_some hf
      have hPc : va_P D vwCl [] H := hP.sub (ws' := []) [] rfl
      have hDc : va_D A [] := hD.sub (ws' := []) [] (by decide) rfl
      refine calXe (runS E0.b E0.n (As := [.long r91, .long r96, .int l4]) (rest := []) ⟨hx, hb, hml, hown, hts⟩ (c_X6_partOf l D cI r91 r96 l4 _ h101) gX6_fog_X6_partOf rfl rfl rfl hdX6_partOf ⟨by decide, by decide⟩ hK hPc hDc rfl hl.1 rfl (Nat.le_of_ble_eq_true rfl) dX6_fog_101 ⟨Nat.zero_le _, Nat.zero_le _⟩) hP hD hS hA (fun H locs hP hD hS => ?_)
      have hP : va_P D vwCl (gX6 o_t a_t cI S_t ++ (gX4 (a_t 0) a_t_0 cI u91.2 ++ (gX1 (a_t 6) a_t_6 ++ gX4 (a_t_6 0) a_t_6_0 cI u91.1))) H := hP
      have hD : va_D A (gX6 o_t a_t cI S_t ++ (gX4 (a_t 0) a_t_0 cI u91.2 ++ (gX1 (a_t 6) a_t_6 ++ gX4 (a_t_6 0) a_t_6_0 cI u91.1))) := hD
      refine W.eq (g2 := F0 m 104 ls [.long r101]) rfl ?_
      have e := so_some hf
      subst e
      exact rl hx hb hK hr hlk hQ dX6_fog_104 hP hD hS
    · replace hf := it_f c65 hf
      refine lv_ldc2 (v := (4000000000000000000 : Int64)) hx hb hown (hts (.constantLong RX6 233 (4000000000000000000)) (by decide +kernel)) dX6_fog_68 ?_
      refine lv_aload_n hx hb dX6_fog_71 rfl (lv_at hl 1 rfl) ?_
      refine lv_iload hx hb dX6_fog_72 (lv_at hl 0 rfl) ?_
      obtain ⟨r74, u74, h74, hf⟩ := bd_some hf
      have hPc := hP.sub (ws' := gX6 o_t a_t cI S_t) [0, 1] rfl
      have hDc := hD.sub (ws' := gX6 o_t a_t cI S_t) [0, 1] (by decide) rfl
      refine calX (runV E0.b E0.n (As := [.int r58]) (rest := [.long (4000000000000000000 : Int64)]) ⟨hx, hb, hml, hown, hts⟩ (c_X6_refused l D cI o_t a_t S_t r58 _ h74) gX6_fog_X6_refused rfl rfl rfl hdX6_refused ⟨by decide, by decide⟩ hK hPc hDc 0 rfl rfl rfl hl.1 rfl (Nat.le_of_ble_eq_true rfl) dX6_fog_74 ⟨Nat.zero_le _, Nat.zero_le _⟩) hP hD hS hA [0, 1] [2, 3, 4, 5, 6, 7, 8, 9, 10, 11, 12, 13, 14, 15, 16] [15, 16, 0, 1, 2, 3, 4, 5, 6, 7, 8, 9, 10, 11, 12, 13, 14] (wr := gX4 (a_t 0) a_t_0 cI S_t_0 ++ (gX1 (a_t 6) a_t_6 ++ gX4 (a_t_6 0) a_t_6_0 cI S_t_6_0)) (wn := gX6 o_t a_t cI u74 ++ (gX4 (a_t 0) a_t_0 cI S_t_0 ++ (gX1 (a_t 6) a_t_6 ++ gX4 (a_t_6 0) a_t_6_0 cI S_t_6_0))) rfl rfl (by decide) (by decide) rfl (by decide) (fun H locs hP hD hS => ?_)
      have hP : va_P D vwCl (gX6 o_t a_t cI u74 ++ (gX4 (a_t 0) a_t_0 cI S_t_0 ++ (gX1 (a_t 6) a_t_6 ++ gX4 (a_t_6 0) a_t_6_0 cI S_t_6_0))) H := hP
      have hD : va_D A (gX6 o_t a_t cI u74 ++ (gX4 (a_t 0) a_t_0 cI S_t_0 ++ (gX1 (a_t 6) a_t_6 ++ gX4 (a_t_6 0) a_t_6_0 cI S_t_6_0))) := hD
      refine W.eq (g2 := F0 m 77 ls [.int r74, .long (4000000000000000000 : Int64)]) rfl ?_
      refine lv_i2l (v := r74.toInt64) hx hb dX6_fog_77 rfl ?_
      refine lv_lsub hx hb dX6_fog_78 ?_
      have e := so_some hf
      subst e
      exact rl hx hb hK hr hlk hQ dX6_fog_79 hP hD hS
  have j39 : ∀ (S_t : G) (S_t_0 : G) (S_t_6_0 : G) (l1 : Int32) (l2 : Int32) (l3 : Int32) (l4 : Int32) (s0 : Int32) (H : Heap) (locs : List Loc) (ls : Array Slot), f_X6_fog_39 S_t S_t_0 S_t_6_0 l1 l2 l3 l4 s0 = some out → va_P D vwCl (gX6 o_t a_t cI S_t ++ (gX4 (a_t 0) a_t_0 cI S_t_0 ++ (gX1 (a_t 6) a_t_6 ++ gX4 (a_t_6 0) a_t_6_0 cI S_t_6_0))) H → va_D A (gX6 o_t a_t cI S_t ++ (gX4 (a_t 0) a_t_0 cI S_t_0 ++ (gX1 (a_t 6) a_t_6 ++ gX4 (a_t_6 0) a_t_6_0 cI S_t_6_0))) → va_S A s.heap H locs → lv_has ls 6 [(0, .ref o_t), (1, .int l1), (2, .int l2), (3, .int l3), (4, .int l4)] → W p l e rmX6_fog s m ([.ref o_t, .int x1, .int x2, .int x3, .int x4] : List Value).toArray below meth c H locs 0 0 Q (F0 m 39 ls [.int s0]) := by
    intro S_t S_t_0 S_t_6_0 l1 l2 l3 l4 s0 H locs ls hf hP hD hS hl
    unfold f_X6_fog_39 at hf
    refine lv_bipush (v := (-6 : Int32)) hx hb dX6_fog_39 (by decide) ?_
    refine lv_goto (tgt := 45) hx hb dX6_fog_41 (by decide) ?_
    exact j45 S_t S_t_0 S_t_6_0 l1 l2 l3 l4 s0 (-6 : Int32) H locs ls hf hP hD hS (lv_sub hl [0, 1, 2, 3, 4] rfl)
  have j20 : ∀ (S_t : G) (S_t_0 : G) (S_t_6_0 : G) (l1 : Int32) (l2 : Int32) (l3 : Int32) (l4 : Int32) (s0 : Int32) (s1 : Int32) (H : Heap) (locs : List Loc) (ls : Array Slot), f_X6_fog_20 S_t S_t_0 S_t_6_0 l1 l2 l3 l4 s0 s1 = some out → va_P D vwCl (gX6 o_t a_t cI S_t ++ (gX4 (a_t 0) a_t_0 cI S_t_0 ++ (gX1 (a_t 6) a_t_6 ++ gX4 (a_t_6 0) a_t_6_0 cI S_t_6_0))) H → va_D A (gX6 o_t a_t cI S_t ++ (gX4 (a_t 0) a_t_0 cI S_t_0 ++ (gX1 (a_t 6) a_t_6 ++ gX4 (a_t_6 0) a_t_6_0 cI S_t_6_0))) → va_S A s.heap H locs → lv_has ls 6 [(0, .ref o_t), (1, .int l1), (2, .int l2), (3, .int l3), (4, .int l4)] → W p l e rmX6_fog s m ([.ref o_t, .int x1, .int x2, .int x3, .int x4] : List Value).toArray below meth c H locs 0 0 Q (F0 m 20 ls [.int s1, .int s0]) := by
    intro S_t S_t_0 S_t_6_0 l1 l2 l3 l4 s0 s1 H locs ls hf hP hD hS hl
    unfold f_X6_fog_20 at hf
    obtain ⟨r20, u20, h20, hf⟩ := bd_some hf
    have hPc : va_P D vwCl [] H := hP.sub (ws' := []) [] rfl
    have hDc : va_D A [] := hD.sub (ws' := []) [] (by decide) rfl
    refine calXe (runS E0.b E0.n (As := [.int s0, .int s1]) (rest := []) ⟨hx, hb, hml, hown, hts⟩ (c_X6_first l D cI s0 s1 _ h20) gX6_fog_X6_first rfl rfl rfl hdX6_first ⟨by decide, by decide⟩ hK hPc hDc rfl hl.1 rfl (Nat.le_of_ble_eq_true rfl) dX6_fog_20 ⟨Nat.zero_le _, Nat.zero_le _⟩) hP hD hS hA (fun H locs hP hD hS => ?_)
    have hP : va_P D vwCl (gX6 o_t a_t cI S_t ++ (gX4 (a_t 0) a_t_0 cI S_t_0 ++ (gX1 (a_t 6) a_t_6 ++ gX4 (a_t_6 0) a_t_6_0 cI S_t_6_0))) H := hP
    have hD : va_D A (gX6 o_t a_t cI S_t ++ (gX4 (a_t 0) a_t_0 cI S_t_0 ++ (gX1 (a_t 6) a_t_6 ++ gX4 (a_t_6 0) a_t_6_0 cI S_t_6_0))) := hD
    refine W.eq (g2 := F0 m 23 ls [.int r20]) rfl ?_
    refine lv_istore (lv' := [(5, .int r20), (0, .ref o_t), (1, .int l1), (2, .int l2), (3, .int l3), (4, .int l4)]) hx hb dX6_fog_23 hl (by decide) rfl (fun ls hl => ?_)
    refine lv_iload hx hb dX6_fog_25 (lv_at hl 0 rfl) ?_
    refine lv_iload_n hx hb dX6_fog_27 rfl (lv_at hl 3 rfl) ?_
    refine lv_bipush (v := (7 : Int32)) hx hb dX6_fog_28 (by decide) ?_
    refine lv_icmp_gt (tgt := 39) hx hb dX6_fog_30 (by decide) (fun c30 => ?_) (fun c30 => ?_)
    · replace hf := it_t c30 hf
      exact j39 S_t S_t_0 S_t_6_0 l1 l2 l3 l4 r20 H locs ls hf hP hD hS (lv_sub hl [1, 2, 3, 4, 5] rfl)
    · replace hf := it_f c30 hf
      refine lv_iload_n hx hb dX6_fog_33 rfl (lv_at hl 4 rfl) ?_
      refine lv_bipush (v := (20 : Int32)) hx hb dX6_fog_34 (by decide) ?_
      refine lv_icmp_le (tgt := 44) hx hb dX6_fog_36 (by decide) (fun c36 => ?_) (fun c36 => ?_)
      · replace hf := it_t c36 hf
        refine lv_iconst (v := (0 : Int32)) hx hb dX6_fog_44 (by decide) ?_
        exact j45 S_t S_t_0 S_t_6_0 l1 l2 l3 l4 r20 (0 : Int32) H locs ls hf hP hD hS (lv_sub hl [1, 2, 3, 4, 5] rfl)
      · replace hf := it_f c36 hf
        exact j39 S_t S_t_0 S_t_6_0 l1 l2 l3 l4 r20 H locs ls hf hP hD hS (lv_sub hl [1, 2, 3, 4, 5] rfl)
  have j14 : ∀ (S_t : G) (S_t_0 : G) (S_t_6_0 : G) (l1 : Int32) (l2 : Int32) (l3 : Int32) (l4 : Int32) (s0 : Int32) (H : Heap) (locs : List Loc) (ls : Array Slot), f_X6_fog_14 S_t S_t_0 S_t_6_0 l1 l2 l3 l4 s0 = some out → va_P D vwCl (gX6 o_t a_t cI S_t ++ (gX4 (a_t 0) a_t_0 cI S_t_0 ++ (gX1 (a_t 6) a_t_6 ++ gX4 (a_t_6 0) a_t_6_0 cI S_t_6_0))) H → va_D A (gX6 o_t a_t cI S_t ++ (gX4 (a_t 0) a_t_0 cI S_t_0 ++ (gX1 (a_t 6) a_t_6 ++ gX4 (a_t_6 0) a_t_6_0 cI S_t_6_0))) → va_S A s.heap H locs → lv_has ls 6 [(0, .ref o_t), (1, .int l1), (2, .int l2), (3, .int l3), (4, .int l4)] → W p l e rmX6_fog s m ([.ref o_t, .int x1, .int x2, .int x3, .int x4] : List Value).toArray below meth c H locs 0 0 Q (F0 m 14 ls [.int s0]) := by
    intro S_t S_t_0 S_t_6_0 l1 l2 l3 l4 s0 H locs ls hf hP hD hS hl
    unfold f_X6_fog_14 at hf
    refine lv_bipush (v := (-4 : Int32)) hx hb dX6_fog_14 (by decide) ?_
    refine lv_goto (tgt := 20) hx hb dX6_fog_16 (by decide) ?_
    exact j20 S_t S_t_0 S_t_6_0 l1 l2 l3 l4 s0 (-4 : Int32) H locs ls hf hP hD hS (lv_sub hl [0, 1, 2, 3, 4] rfl)
  unfold f_X6_fog at hf
  have hl : lv_has ls 6 [(0, .ref o_t), (1, .int x1), (2, .int x2), (3, .int x3), (4, .int x4)] := hl
  obtain ⟨H, hHe⟩ : ∃ H : Heap, H = s.heap := ⟨_, rfl⟩
  obtain ⟨locs, hle⟩ : ∃ q : List Loc, q = [] := ⟨_, rfl⟩
  have hS : va_S A s.heap H locs := by rw [hHe, hle]; exact hS
  rw [← hHe] at hP
  suffices hgo : W p l e rmX6_fog s m ([.ref o_t, .int x1, .int x2, .int x3, .int x4] : List Value).toArray below meth c H locs 0 0 Q (F0 m 0 ls []) by rw [hHe, hle] at hgo; exact hgo
  clear hHe hle
  refine lv_aload_n hx hb dX6_fog_0 rfl (lv_at hl 0 rfl) ?_
  refine lv_iload_n hx hb dX6_fog_1 rfl (lv_at hl 1 rfl) ?_
  obtain ⟨r2, u2, h2, hf⟩ := bd_some hf
  have hPc := hP.sub (ws' := gX6 o_t a_t cI S_t ++ gX4 (a_t 0) a_t_0 cI S_t_0) [0, 1, 2, 3, 4, 5, 6, 7, 8] rfl
  have hDc := hD.sub (ws' := gX6 o_t a_t cI S_t ++ gX4 (a_t 0) a_t_0 cI S_t_0) [0, 1, 2, 3, 4, 5, 6, 7, 8] (by decide) rfl
  refine calX (runV E0.b E0.n (As := [.int x1]) (rest := []) ⟨hx, hb, hml, hown, hts⟩ (c_X6_noBell l D cI o_t a_t a_t_0 S_t S_t_0 x1 _ h2) gX6_fog_X6_noBell rfl rfl rfl hdX6_noBell ⟨by decide, by decide⟩ hK hPc hDc 0 rfl rfl rfl hl.1 rfl (Nat.le_of_ble_eq_true rfl) dX6_fog_2 ⟨Nat.zero_le _, Nat.zero_le _⟩) hP hD hS hA [0, 1, 2, 3, 4, 5, 6, 7, 8] [9, 10, 11, 12, 13, 14, 15, 16] [8, 9, 10, 11, 12, 13, 14, 15, 16, 0, 1, 2, 3, 4, 5, 6, 7] (wr := gX1 (a_t 6) a_t_6 ++ gX4 (a_t_6 0) a_t_6_0 cI S_t_6_0) (wn := gX6 o_t a_t cI u2.1 ++ (gX4 (a_t 0) a_t_0 cI u2.2 ++ (gX1 (a_t 6) a_t_6 ++ gX4 (a_t_6 0) a_t_6_0 cI S_t_6_0))) rfl rfl (by decide) (by decide) rfl (by decide) (fun H locs hP hD hS => ?_)
  have hP : va_P D vwCl (gX6 o_t a_t cI u2.1 ++ (gX4 (a_t 0) a_t_0 cI u2.2 ++ (gX1 (a_t 6) a_t_6 ++ gX4 (a_t_6 0) a_t_6_0 cI S_t_6_0))) H := hP
  have hD : va_D A (gX6 o_t a_t cI u2.1 ++ (gX4 (a_t 0) a_t_0 cI u2.2 ++ (gX1 (a_t 6) a_t_6 ++ gX4 (a_t_6 0) a_t_6_0 cI S_t_6_0))) := hD
  refine W.eq (g2 := F0 m 5 ls [.int r2]) rfl ?_
  refine lv_iload_n hx hb dX6_fog_5 rfl (lv_at hl 2 rfl) ?_
  refine lv_if_lt (tgt := 14) hx hb dX6_fog_6 (by decide) (fun c6 => ?_) (fun c6 => ?_)
  · replace hf := it_t c6 hf
    exact j14 u2.1 u2.2 S_t_6_0 x1 x2 x3 x4 r2 H locs ls hf hP hD hS (lv_sub hl [0, 1, 2, 3, 4] rfl)
  · replace hf := it_f c6 hf
    refine lv_iload_n hx hb dX6_fog_9 rfl (lv_at hl 3 rfl) ?_
    refine lv_iconst (v := (2 : Int32)) hx hb dX6_fog_10 (by decide) ?_
    refine lv_icmp_ge (tgt := 19) hx hb dX6_fog_11 (by decide) (fun c11 => ?_) (fun c11 => ?_)
    · replace hf := it_t c11 hf
      refine lv_iconst (v := (0 : Int32)) hx hb dX6_fog_19 (by decide) ?_
      exact j20 u2.1 u2.2 S_t_6_0 x1 x2 x3 x4 r2 (0 : Int32) H locs ls hf hP hD hS (lv_sub hl [0, 1, 2, 3, 4] rfl)
    · replace hf := it_f c11 hf
      exact j14 u2.1 u2.2 S_t_6_0 x1 x2 x3 x4 r2 H locs ls hf hP hD hS (lv_sub hl [0, 1, 2, 3, 4] rfl)
abbrev rmX6_mean : Room := { frames := 2, cells := 0, slots := 0, locals := 56 }
set_option maxHeartbeats 4000000 in
set_option maxRecDepth 100000 in
theorem c_X6_mean (l : Launch) (D : va_G) (cI : ClassId) (o_t : Nat) (a_t : Nat → Nat) (a_t_0 : Nat → Nat) (S_t : G) (S_t_0 : G) (x1 : Int32) (out : Int64 × G × G) (hf : f_X6_mean S_t S_t_0 x1 = some out) : Cn E0 l yX6_mean wsX6_mean rmX6_mean D cI [.ref o_t, .int x1] (gX6 o_t a_t cI S_t ++ gX4 (a_t 0) a_t_0 cI S_t_0) (some (.long out.1)) (gX6 o_t a_t cI out.2.1 ++ gX4 (a_t 0) a_t_0 cI out.2.2) := by
  refine Cn.mk (cc := cX6_mean) (maxL := 3) (ret := (some .long)) (by decide) rfl (Nat.le_of_ble_eq_true rfl) ?_
  intro p e s m below meth c A ls Q hx hb hml hown hts hK hA hP hD hS hl hr hlk hnm hE hQ
  have hown : s.vm.findClass RX6 = some m.cls := hown
  have hinX4 : ∀ w ∈ u_ws RX4 TX4 10, w ∈ wsX6_mean := by decide +kernel
  have hinX6 : ∀ w ∈ u_ws RX6 TX6 9, w ∈ wsX6_mean := by decide +kernel
  unfold f_X6_mean at hf
  have hl : lv_has ls 3 [(0, .ref o_t), (1, .int x1)] := hl
  obtain ⟨H, hHe⟩ : ∃ H : Heap, H = s.heap := ⟨_, rfl⟩
  obtain ⟨locs, hle⟩ : ∃ q : List Loc, q = [] := ⟨_, rfl⟩
  have hS : va_S A s.heap H locs := by rw [hHe, hle]; exact hS
  rw [← hHe] at hP
  suffices hgo : W p l e rmX6_mean s m ([.ref o_t, .int x1] : List Value).toArray below meth c H locs 0 0 Q (F0 m 0 ls []) by rw [hHe, hle] at hgo; exact hgo
  clear hHe hle
  refine lv_iload_n hx hb dX6_mean_0 rfl (lv_at hl 1 rfl) ?_
  refine lv_iconst (v := (2 : Int32)) hx hb dX6_mean_1 (by decide) ?_
  obtain ⟨r2, u2, h2, hf⟩ := bd_some hf
  have hPc : va_P D vwCl [] H := hP.sub (ws' := []) [] rfl
  have hDc : va_D A [] := hD.sub (ws' := []) [] (by decide) rfl
  refine calXe (runS E0.b E0.n (As := [.int x1, .int (2 : Int32)]) (rest := []) ⟨hx, hb, hml, hown, hts⟩ (c_X6_choice l D cI x1 (2 : Int32) _ h2) gX6_mean_X6_choice rfl rfl rfl hdX6_choice ⟨by decide, by decide⟩ hK hPc hDc rfl hl.1 rfl (Nat.le_of_ble_eq_true rfl) dX6_mean_2 ⟨Nat.zero_le _, Nat.zero_le _⟩) hP hD hS hA (fun H locs hP hD hS => ?_)
  have hP : va_P D vwCl (gX6 o_t a_t cI S_t ++ gX4 (a_t 0) a_t_0 cI S_t_0) H := hP
  have hD : va_D A (gX6 o_t a_t cI S_t ++ gX4 (a_t 0) a_t_0 cI S_t_0) := hD
  refine W.eq (g2 := F0 m 5 ls [.int r2]) rfl ?_
  refine lv_istore_n (lv' := [(2, .int r2), (0, .ref o_t), (1, .int x1)]) hx hb dX6_mean_5 rfl hl (by decide) rfl (fun ls hl => ?_)
  refine lv_iload_n hx hb dX6_mean_6 rfl (lv_at hl 0 rfl) ?_
  refine lv_if_eq (tgt := 21) hx hb dX6_mean_7 (by decide) (fun c7 => ?_) (fun c7 => ?_)
  · replace hf := it_t c7 hf
    refine lv_aload_n hx hb dX6_mean_21 rfl (lv_at hl 1 rfl) ?_
    refine va_get (D := D) (ci := 6) (v := .ref (a_t 0)) (C := RX6) (T := TX6) (N := 9) hx hb hts hinX6 hown hK hP 0 rfl rfl 0 (by decide) (hts (.fieldLink RX6 10 "OnlyStrangersHear" "now" "LOnlyStrangersHear$Town;") (by decide +kernel)) (fun _ h9 => h9) rfl dX6_mean_22 ?_
    obtain ⟨r25, u25, h25, hf⟩ := bd_some hf
    have hPc := hP.sub (ws' := gX4 (a_t 0) a_t_0 cI S_t_0) [2, 3, 4, 5, 6, 7, 8] rfl
    have hDc := hD.sub (ws' := gX4 (a_t 0) a_t_0 cI S_t_0) [2, 3, 4, 5, 6, 7, 8] (by decide) rfl
    refine calX (runV E0.b E0.n (As := []) (rest := []) ⟨hx, hb, hml, hown, hts⟩ (c_X4_allSlept l D cI (a_t 0) a_t_0 S_t_0 _ h25) gX6_mean_X4_allSlept rfl rfl rfl hdX4_allSlept ⟨by decide, by decide⟩ hK hPc hDc 0 rfl rfl rfl hl.1 rfl (Nat.le_of_ble_eq_true rfl) dX6_mean_25 ⟨Nat.zero_le _, Nat.zero_le _⟩) hP hD hS hA [2, 3, 4, 5, 6, 7, 8] [0, 1] [0, 1, 2, 3, 4, 5, 6, 7, 8] (wr := gX6 o_t a_t cI S_t) (wn := gX6 o_t a_t cI S_t ++ gX4 (a_t 0) a_t_0 cI u25) rfl rfl (by decide) (by decide) rfl (by decide) (fun H locs hP hD hS => ?_)
    have hP : va_P D vwCl (gX6 o_t a_t cI S_t ++ gX4 (a_t 0) a_t_0 cI u25) H := hP
    have hD : va_D A (gX6 o_t a_t cI S_t ++ gX4 (a_t 0) a_t_0 cI u25) := hD
    refine W.eq (g2 := F0 m 28 ls [.int r25]) rfl ?_
    refine lv_i2l (v := r25.toInt64) hx hb dX6_mean_28 rfl ?_
    refine lv_iconst (v := (1 : Int32)) hx hb dX6_mean_29 (by decide) ?_
    refine lv_aload_n hx hb dX6_mean_30 rfl (lv_at hl 1 rfl) ?_
    refine va_get (D := D) (ci := 6) (v := .ref (a_t 0)) (C := RX6) (T := TX6) (N := 9) hx hb hts hinX6 hown hK hP 0 rfl rfl 0 (by decide) (hts (.fieldLink RX6 10 "OnlyStrangersHear" "now" "LOnlyStrangersHear$Town;") (by decide +kernel)) (fun _ h9 => h9) rfl dX6_mean_31 ?_
    refine va_get (D := D) (ci := 4) (v := .int (u25.1 3)) (C := RX4) (T := TX4) (N := 10) hx hb hts hinX4 hown hK hP 2 rfl rfl 3 (by decide) (hts (.fieldLink RX6 250 "OnlyStrangersHear$Town" "people" "I") (by decide +kernel)) (fun _ h9 => h9) rfl dX6_mean_34 ?_
    refine va_mmax hx hb (by rw [hml]; exact hl.1.symm) hown (hts (.methodLink RX6 253 Lib.Math.max.name) (by decide +kernel)) (hts (.static Lib.Math.max.name) (by decide +kernel)) (hts (.initialized "java/lang/Math") (by decide +kernel)) (hts (.code Lib.Math.max.name Lib.Math.max.code 2 (some .int)) (by decide +kernel)) (by decide) (Nat.le_of_ble_eq_true rfl) (Nat.zero_le _) (Nat.zero_le _) dX6_mean_37 ?_
    refine lv_i2l (v := (if (1 : Int32) < (u25.1 3) then (u25.1 3) else (1 : Int32)).toInt64) hx hb dX6_mean_40 rfl ?_
    refine lv_iload_n hx hb dX6_mean_41 rfl (lv_at hl 2 rfl) ?_
    obtain ⟨r42, u42, h42, hf⟩ := bd_some hf
    have hPc : va_P D vwCl [] H := hP.sub (ws' := []) [] rfl
    have hDc : va_D A [] := hD.sub (ws' := []) [] (by decide) rfl
    refine calXe (runS E0.b E0.n (As := [.long r25.toInt64, .long ((if (1 : Int32) < (u25.1 3) then (u25.1 3) else (1 : Int32)).toInt64), .int x1]) (rest := []) ⟨hx, hb, hml, hown, hts⟩ (c_X6_partOf l D cI r25.toInt64 ((if (1 : Int32) < (u25.1 3) then (u25.1 3) else (1 : Int32)).toInt64) x1 _ h42) gX6_mean_X6_partOf rfl rfl rfl hdX6_partOf ⟨by decide, by decide⟩ hK hPc hDc rfl hl.1 rfl (Nat.le_of_ble_eq_true rfl) dX6_mean_42 ⟨Nat.zero_le _, Nat.zero_le _⟩) hP hD hS hA (fun H locs hP hD hS => ?_)
    have hP : va_P D vwCl (gX6 o_t a_t cI S_t ++ gX4 (a_t 0) a_t_0 cI u25) H := hP
    have hD : va_D A (gX6 o_t a_t cI S_t ++ gX4 (a_t 0) a_t_0 cI u25) := hD
    refine W.eq (g2 := F0 m 45 ls [.long r42]) rfl ?_
    have e := so_some hf
    subst e
    exact rl hx hb hK hr hlk hQ dX6_mean_45 hP hD hS
  · replace hf := it_f c7 hf
    refine lv_ldc2 (v := (4000000000000000000 : Int64)) hx hb hown (hts (.constantLong RX6 233 (4000000000000000000)) (by decide +kernel)) dX6_mean_10 ?_
    refine lv_aload_n hx hb dX6_mean_13 rfl (lv_at hl 1 rfl) ?_
    refine lv_iload_n hx hb dX6_mean_14 rfl (lv_at hl 0 rfl) ?_
    obtain ⟨r15, u15, h15, hf⟩ := bd_some hf
    have hPc := hP.sub (ws' := gX6 o_t a_t cI S_t) [0, 1] rfl
    have hDc := hD.sub (ws' := gX6 o_t a_t cI S_t) [0, 1] (by decide) rfl
    refine calX (runV E0.b E0.n (As := [.int r2]) (rest := [.long (4000000000000000000 : Int64)]) ⟨hx, hb, hml, hown, hts⟩ (c_X6_refused l D cI o_t a_t S_t r2 _ h15) gX6_mean_X6_refused rfl rfl rfl hdX6_refused ⟨by decide, by decide⟩ hK hPc hDc 0 rfl rfl rfl hl.1 rfl (Nat.le_of_ble_eq_true rfl) dX6_mean_15 ⟨Nat.zero_le _, Nat.zero_le _⟩) hP hD hS hA [0, 1] [2, 3, 4, 5, 6, 7, 8] [7, 8, 0, 1, 2, 3, 4, 5, 6] (wr := gX4 (a_t 0) a_t_0 cI S_t_0) (wn := gX6 o_t a_t cI u15 ++ gX4 (a_t 0) a_t_0 cI S_t_0) rfl rfl (by decide) (by decide) rfl (by decide) (fun H locs hP hD hS => ?_)
    have hP : va_P D vwCl (gX6 o_t a_t cI u15 ++ gX4 (a_t 0) a_t_0 cI S_t_0) H := hP
    have hD : va_D A (gX6 o_t a_t cI u15 ++ gX4 (a_t 0) a_t_0 cI S_t_0) := hD
    refine W.eq (g2 := F0 m 18 ls [.int r15, .long (4000000000000000000 : Int64)]) rfl ?_
    refine lv_i2l (v := r15.toInt64) hx hb dX6_mean_18 rfl ?_
    refine lv_lsub hx hb dX6_mean_19 ?_
    have e := so_some hf
    subst e
    exact rl hx hb hK hr hlk hQ dX6_mean_20 hP hD hS
abbrev rmX6_whatIs : Room := { frames := 4, cells := 0, slots := 0, locals := 95 }
set_option maxHeartbeats 4000000 in
set_option maxRecDepth 100000 in
theorem c_X6_whatIs (l : Launch) (D : va_G) (cI : ClassId) (o_t : Nat) (a_t : Nat → Nat) (a_t_0 : Nat → Nat) (a_t_4 : Nat → Nat) (a_t_6 : Nat → Nat) (a_t_6_0 : Nat → Nat) (S_t : G) (S_t_0 : G) (S_t_4 : G) (S_t_6_0 : G) (x1 : Int32) (x2 : Int32) (x3 : Int32) (out : Int32 × G × G × G × G) (hf : f_X6_whatIs S_t S_t_0 S_t_4 S_t_6_0 x1 x2 x3 = some out) : Cn E0 l yX6_whatIs wsX6_whatIs rmX6_whatIs D cI [.ref o_t, .int x1, .int x2, .int x3] (gX6 o_t a_t cI S_t ++ (gX4 (a_t 0) a_t_0 cI S_t_0 ++ (gX2 (a_t 4) a_t_4 cI S_t_4 ++ (gX1 (a_t 6) a_t_6 ++ gX4 (a_t_6 0) a_t_6_0 cI S_t_6_0)))) (some (.int out.1)) (gX6 o_t a_t cI out.2.1 ++ (gX4 (a_t 0) a_t_0 cI out.2.2.1 ++ (gX2 (a_t 4) a_t_4 cI out.2.2.2.1 ++ (gX1 (a_t 6) a_t_6 ++ gX4 (a_t_6 0) a_t_6_0 cI out.2.2.2.2)))) := by
  refine Cn.mk (cc := cX6_whatIs) (maxL := 5) (ret := (some .int)) (by decide) rfl (Nat.le_of_ble_eq_true rfl) ?_
  intro p e s m below meth c A ls Q hx hb hml hown hts hK hA hP hD hS hl hr hlk hnm hE hQ
  have hown : s.vm.findClass RX6 = some m.cls := hown
  have hinX6 : ∀ w ∈ u_ws RX6 TX6 9, w ∈ wsX6_whatIs := by decide +kernel
  unfold f_X6_whatIs at hf
  have hl : lv_has ls 5 [(0, .ref o_t), (1, .int x1), (2, .int x2), (3, .int x3)] := hl
  obtain ⟨H, hHe⟩ : ∃ H : Heap, H = s.heap := ⟨_, rfl⟩
  obtain ⟨locs, hle⟩ : ∃ q : List Loc, q = [] := ⟨_, rfl⟩
  have hS : va_S A s.heap H locs := by rw [hHe, hle]; exact hS
  rw [← hHe] at hP
  suffices hgo : W p l e rmX6_whatIs s m ([.ref o_t, .int x1, .int x2, .int x3] : List Value).toArray below meth c H locs 0 0 Q (F0 m 0 ls []) by rw [hHe, hle] at hgo; exact hgo
  clear hHe hle
  refine lv_aload_n hx hb dX6_whatIs_0 rfl (lv_at hl 0 rfl) ?_
  refine lv_iload_n hx hb dX6_whatIs_1 rfl (lv_at hl 1 rfl) ?_
  obtain ⟨r2, u2, h2, hf⟩ := bd_some hf
  have hPc := hP.sub (ws' := gX6 o_t a_t cI S_t ++ gX4 (a_t 0) a_t_0 cI S_t_0) [0, 1, 2, 3, 4, 5, 6, 7, 8] rfl
  have hDc := hD.sub (ws' := gX6 o_t a_t cI S_t ++ gX4 (a_t 0) a_t_0 cI S_t_0) [0, 1, 2, 3, 4, 5, 6, 7, 8] (by decide) rfl
  refine calX (runV E0.b E0.n (As := [.int x1]) (rest := []) ⟨hx, hb, hml, hown, hts⟩ (c_X6_noPerson l D cI o_t a_t a_t_0 S_t S_t_0 x1 _ h2) gX6_whatIs_X6_noPerson rfl rfl rfl hdX6_noPerson ⟨by decide, by decide⟩ hK hPc hDc 0 rfl rfl rfl hl.1 rfl (Nat.le_of_ble_eq_true rfl) dX6_whatIs_2 ⟨Nat.zero_le _, Nat.zero_le _⟩) hP hD hS hA [0, 1, 2, 3, 4, 5, 6, 7, 8] [9, 10, 11, 12, 13, 14, 15, 16, 17, 18] [10, 11, 12, 13, 14, 15, 16, 17, 18, 0, 1, 2, 3, 4, 5, 6, 7, 8, 9] (wr := gX2 (a_t 4) a_t_4 cI S_t_4 ++ (gX1 (a_t 6) a_t_6 ++ gX4 (a_t_6 0) a_t_6_0 cI S_t_6_0)) (wn := gX6 o_t a_t cI u2.1 ++ (gX4 (a_t 0) a_t_0 cI u2.2 ++ (gX2 (a_t 4) a_t_4 cI S_t_4 ++ (gX1 (a_t 6) a_t_6 ++ gX4 (a_t_6 0) a_t_6_0 cI S_t_6_0)))) rfl rfl (by decide) (by decide) rfl (by decide) (fun H locs hP hD hS => ?_)
  have hP : va_P D vwCl (gX6 o_t a_t cI u2.1 ++ (gX4 (a_t 0) a_t_0 cI u2.2 ++ (gX2 (a_t 4) a_t_4 cI S_t_4 ++ (gX1 (a_t 6) a_t_6 ++ gX4 (a_t_6 0) a_t_6_0 cI S_t_6_0)))) H := hP
  have hD : va_D A (gX6 o_t a_t cI u2.1 ++ (gX4 (a_t 0) a_t_0 cI u2.2 ++ (gX2 (a_t 4) a_t_4 cI S_t_4 ++ (gX1 (a_t 6) a_t_6 ++ gX4 (a_t_6 0) a_t_6_0 cI S_t_6_0)))) := hD
  refine W.eq (g2 := F0 m 5 ls [.int r2]) rfl ?_
  refine lv_aload_n hx hb dX6_whatIs_5 rfl (lv_at hl 0 rfl) ?_
  refine lv_iload_n hx hb dX6_whatIs_6 rfl (lv_at hl 2 rfl) ?_
  obtain ⟨r7, u7, h7, hf⟩ := bd_some hf
  have hPc := hP.sub (ws' := gX6 o_t a_t cI u2.1 ++ gX4 (a_t 0) a_t_0 cI u2.2) [0, 1, 2, 3, 4, 5, 6, 7, 8] rfl
  have hDc := hD.sub (ws' := gX6 o_t a_t cI u2.1 ++ gX4 (a_t 0) a_t_0 cI u2.2) [0, 1, 2, 3, 4, 5, 6, 7, 8] (by decide) rfl
  refine calX (runV E0.b E0.n (As := [.int x2]) (rest := [.int r2]) ⟨hx, hb, hml, hown, hts⟩ (c_X6_noBell l D cI o_t a_t a_t_0 u2.1 u2.2 x2 _ h7) gX6_whatIs_X6_noBell rfl rfl rfl hdX6_noBell ⟨by decide, by decide⟩ hK hPc hDc 0 rfl rfl rfl hl.1 rfl (Nat.le_of_ble_eq_true rfl) dX6_whatIs_7 ⟨Nat.zero_le _, Nat.zero_le _⟩) hP hD hS hA [0, 1, 2, 3, 4, 5, 6, 7, 8] [9, 10, 11, 12, 13, 14, 15, 16, 17, 18] [10, 11, 12, 13, 14, 15, 16, 17, 18, 0, 1, 2, 3, 4, 5, 6, 7, 8, 9] (wr := gX2 (a_t 4) a_t_4 cI S_t_4 ++ (gX1 (a_t 6) a_t_6 ++ gX4 (a_t_6 0) a_t_6_0 cI S_t_6_0)) (wn := gX6 o_t a_t cI u7.1 ++ (gX4 (a_t 0) a_t_0 cI u7.2 ++ (gX2 (a_t 4) a_t_4 cI S_t_4 ++ (gX1 (a_t 6) a_t_6 ++ gX4 (a_t_6 0) a_t_6_0 cI S_t_6_0)))) rfl rfl (by decide) (by decide) rfl (by decide) (fun H locs hP hD hS => ?_)
  have hP : va_P D vwCl (gX6 o_t a_t cI u7.1 ++ (gX4 (a_t 0) a_t_0 cI u7.2 ++ (gX2 (a_t 4) a_t_4 cI S_t_4 ++ (gX1 (a_t 6) a_t_6 ++ gX4 (a_t_6 0) a_t_6_0 cI S_t_6_0)))) H := hP
  have hD : va_D A (gX6 o_t a_t cI u7.1 ++ (gX4 (a_t 0) a_t_0 cI u7.2 ++ (gX2 (a_t 4) a_t_4 cI S_t_4 ++ (gX1 (a_t 6) a_t_6 ++ gX4 (a_t_6 0) a_t_6_0 cI S_t_6_0)))) := hD
  refine W.eq (g2 := F0 m 10 ls [.int r7, .int r2]) rfl ?_
  obtain ⟨r10, u10, h10, hf⟩ := bd_some hf
  have hPc : va_P D vwCl [] H := hP.sub (ws' := []) [] rfl
  have hDc : va_D A [] := hD.sub (ws' := []) [] (by decide) rfl
  refine calXe (runS E0.b E0.n (As := [.int r2, .int r7]) (rest := []) ⟨hx, hb, hml, hown, hts⟩ (c_X6_first l D cI r2 r7 _ h10) gX6_whatIs_X6_first rfl rfl rfl hdX6_first ⟨by decide, by decide⟩ hK hPc hDc rfl hl.1 rfl (Nat.le_of_ble_eq_true rfl) dX6_whatIs_10 ⟨Nat.zero_le _, Nat.zero_le _⟩) hP hD hS hA (fun H locs hP hD hS => ?_)
  have hP : va_P D vwCl (gX6 o_t a_t cI u7.1 ++ (gX4 (a_t 0) a_t_0 cI u7.2 ++ (gX2 (a_t 4) a_t_4 cI S_t_4 ++ (gX1 (a_t 6) a_t_6 ++ gX4 (a_t_6 0) a_t_6_0 cI S_t_6_0)))) H := hP
  have hD : va_D A (gX6 o_t a_t cI u7.1 ++ (gX4 (a_t 0) a_t_0 cI u7.2 ++ (gX2 (a_t 4) a_t_4 cI S_t_4 ++ (gX1 (a_t 6) a_t_6 ++ gX4 (a_t_6 0) a_t_6_0 cI S_t_6_0)))) := hD
  refine W.eq (g2 := F0 m 13 ls [.int r10]) rfl ?_
  refine lv_istore (lv' := [(4, .int r10), (0, .ref o_t), (1, .int x1), (2, .int x2), (3, .int x3)]) hx hb dX6_whatIs_13 hl (by decide) rfl (fun ls hl => ?_)
  refine lv_iload hx hb dX6_whatIs_15 (lv_at hl 0 rfl) ?_
  refine lv_iload_n hx hb dX6_whatIs_17 rfl (lv_at hl 4 rfl) ?_
  refine lv_iconst (v := (2 : Int32)) hx hb dX6_whatIs_18 (by decide) ?_
  obtain ⟨r19, u19, h19, hf⟩ := bd_some hf
  have hPc : va_P D vwCl [] H := hP.sub (ws' := []) [] rfl
  have hDc : va_D A [] := hD.sub (ws' := []) [] (by decide) rfl
  refine calXe (runS E0.b E0.n (As := [.int x3, .int (2 : Int32)]) (rest := [.int r10]) ⟨hx, hb, hml, hown, hts⟩ (c_X6_choice l D cI x3 (2 : Int32) _ h19) gX6_whatIs_X6_choice rfl rfl rfl hdX6_choice ⟨by decide, by decide⟩ hK hPc hDc rfl hl.1 rfl (Nat.le_of_ble_eq_true rfl) dX6_whatIs_19 ⟨Nat.zero_le _, Nat.zero_le _⟩) hP hD hS hA (fun H locs hP hD hS => ?_)
  have hP : va_P D vwCl (gX6 o_t a_t cI u7.1 ++ (gX4 (a_t 0) a_t_0 cI u7.2 ++ (gX2 (a_t 4) a_t_4 cI S_t_4 ++ (gX1 (a_t 6) a_t_6 ++ gX4 (a_t_6 0) a_t_6_0 cI S_t_6_0)))) H := hP
  have hD : va_D A (gX6 o_t a_t cI u7.1 ++ (gX4 (a_t 0) a_t_0 cI u7.2 ++ (gX2 (a_t 4) a_t_4 cI S_t_4 ++ (gX1 (a_t 6) a_t_6 ++ gX4 (a_t_6 0) a_t_6_0 cI S_t_6_0)))) := hD
  refine W.eq (g2 := F0 m 22 ls [.int r19, .int r10]) rfl ?_
  obtain ⟨r22, u22, h22, hf⟩ := bd_some hf
  have hPc : va_P D vwCl [] H := hP.sub (ws' := []) [] rfl
  have hDc : va_D A [] := hD.sub (ws' := []) [] (by decide) rfl
  refine calXe (runS E0.b E0.n (As := [.int r10, .int r19]) (rest := []) ⟨hx, hb, hml, hown, hts⟩ (c_X6_first l D cI r10 r19 _ h22) gX6_whatIs_X6_first rfl rfl rfl hdX6_first ⟨by decide, by decide⟩ hK hPc hDc rfl hl.1 rfl (Nat.le_of_ble_eq_true rfl) dX6_whatIs_22 ⟨Nat.zero_le _, Nat.zero_le _⟩) hP hD hS hA (fun H locs hP hD hS => ?_)
  have hP : va_P D vwCl (gX6 o_t a_t cI u7.1 ++ (gX4 (a_t 0) a_t_0 cI u7.2 ++ (gX2 (a_t 4) a_t_4 cI S_t_4 ++ (gX1 (a_t 6) a_t_6 ++ gX4 (a_t_6 0) a_t_6_0 cI S_t_6_0)))) H := hP
  have hD : va_D A (gX6 o_t a_t cI u7.1 ++ (gX4 (a_t 0) a_t_0 cI u7.2 ++ (gX2 (a_t 4) a_t_4 cI S_t_4 ++ (gX1 (a_t 6) a_t_6 ++ gX4 (a_t_6 0) a_t_6_0 cI S_t_6_0)))) := hD
  refine W.eq (g2 := F0 m 25 ls [.int r22]) rfl ?_
  refine lv_istore (lv' := [(4, .int r22), (0, .ref o_t), (1, .int x1), (2, .int x2), (3, .int x3)]) hx hb dX6_whatIs_25 hl (by decide) rfl (fun ls hl => ?_)
  refine lv_iload hx hb dX6_whatIs_27 (lv_at hl 0 rfl) ?_
  refine lv_if_eq (tgt := 39) hx hb dX6_whatIs_29 (by decide) (fun c29 => ?_) (fun c29 => ?_)
  · replace hf := it_t c29 hf
    refine lv_iload_n hx hb dX6_whatIs_39 rfl (lv_at hl 4 rfl) ?_
    refine lv_if_ne (tgt := 63) hx hb dX6_whatIs_40 (by decide) (fun c40 => ?_) (fun c40 => ?_)
    · replace hf := it_f c40 hf
      refine lv_aload_n hx hb dX6_whatIs_63 rfl (lv_at hl 1 rfl) ?_
      refine va_get (D := D) (ci := 6) (v := .ref (a_t 6)) (C := RX6) (T := TX6) (N := 9) hx hb hts hinX6 hown hK hP 0 rfl rfl 6 (by decide) (hts (.fieldLink RX6 43 "OnlyStrangersHear" "mind" "LOnlyStrangersHear$Mind;") (by decide +kernel)) (fun _ h9 => h9) rfl dX6_whatIs_64 ?_
      refine lv_aload_n hx hb dX6_whatIs_67 rfl (lv_at hl 1 rfl) ?_
      refine va_get (D := D) (ci := 6) (v := .ref (a_t 0)) (C := RX6) (T := TX6) (N := 9) hx hb hts hinX6 hown hK hP 0 rfl rfl 0 (by decide) (hts (.fieldLink RX6 10 "OnlyStrangersHear" "now" "LOnlyStrangersHear$Town;") (by decide +kernel)) (fun _ h9 => h9) rfl dX6_whatIs_68 ?_
      refine lv_iload_n hx hb dX6_whatIs_71 rfl (lv_at hl 2 rfl) ?_
      refine lv_iload_n hx hb dX6_whatIs_72 rfl (lv_at hl 3 rfl) ?_
      refine lv_aload_n hx hb dX6_whatIs_73 rfl (lv_at hl 1 rfl) ?_
      refine va_get (D := D) (ci := 6) (v := .ref (a_t 4)) (C := RX6) (T := TX6) (N := 9) hx hb hts hinX6 hown hK hP 0 rfl rfl 4 (by decide) (hts (.fieldLink RX6 29 "OnlyStrangersHear" "numbers" "LOnlyStrangersHear$Numbers;") (by decide +kernel)) (fun _ h9 => h9) rfl dX6_whatIs_74 ?_
      obtain ⟨r77, u77, h77, hf⟩ := bd_some hf
      have hPc := hP.sub (ws' := gX1 (a_t 6) a_t_6 ++ (gX4 (a_t_6 0) a_t_6_0 cI S_t_6_0 ++ (gX4 (a_t 0) a_t_0 cI u7.2 ++ gX2 (a_t 4) a_t_4 cI S_t_4))) [11, 12, 13, 14, 15, 16, 17, 18, 2, 3, 4, 5, 6, 7, 8, 9, 10] rfl
      have hDc := hD.sub (ws' := gX1 (a_t 6) a_t_6 ++ (gX4 (a_t_6 0) a_t_6_0 cI S_t_6_0 ++ (gX4 (a_t 0) a_t_0 cI u7.2 ++ gX2 (a_t 4) a_t_4 cI S_t_4))) [11, 12, 13, 14, 15, 16, 17, 18, 2, 3, 4, 5, 6, 7, 8, 9, 10] (by decide) rfl
      refine calX (runV E0.b E0.n (As := [.ref (a_t 0), .int x1, .int x2, .ref (a_t 4)]) (rest := []) ⟨hx, hb, hml, hown, hts⟩ (c_X1_figuresBy l D cI (a_t 6) a_t_6 a_t_6_0 (a_t 0) a_t_0 (a_t 4) a_t_4 S_t_6_0 u7.2 S_t_4 x1 x2 _ h77) gX6_whatIs_X1_figuresBy rfl rfl rfl hdX1_figuresBy ⟨by decide, by decide⟩ hK hPc hDc 0 rfl rfl rfl hl.1 rfl (Nat.le_of_ble_eq_true rfl) dX6_whatIs_77 ⟨Nat.zero_le _, Nat.zero_le _⟩) hP hD hS hA [11, 12, 13, 14, 15, 16, 17, 18, 2, 3, 4, 5, 6, 7, 8, 9, 10] [0, 1] [0, 1, 10, 11, 12, 13, 14, 15, 16, 17, 18, 2, 3, 4, 5, 6, 7, 8, 9] (wr := gX6 o_t a_t cI u7.1) (wn := gX6 o_t a_t cI u7.1 ++ (gX4 (a_t 0) a_t_0 cI u77.2.1 ++ (gX2 (a_t 4) a_t_4 cI u77.2.2 ++ (gX1 (a_t 6) a_t_6 ++ gX4 (a_t_6 0) a_t_6_0 cI u77.1)))) rfl rfl (by decide) (by decide) rfl (by decide) (fun H locs hP hD hS => ?_)
      have hP : va_P D vwCl (gX6 o_t a_t cI u7.1 ++ (gX4 (a_t 0) a_t_0 cI u77.2.1 ++ (gX2 (a_t 4) a_t_4 cI u77.2.2 ++ (gX1 (a_t 6) a_t_6 ++ gX4 (a_t_6 0) a_t_6_0 cI u77.1)))) H := hP
      have hD : va_D A (gX6 o_t a_t cI u7.1 ++ (gX4 (a_t 0) a_t_0 cI u77.2.1 ++ (gX2 (a_t 4) a_t_4 cI u77.2.2 ++ (gX1 (a_t 6) a_t_6 ++ gX4 (a_t_6 0) a_t_6_0 cI u77.1)))) := hD
      refine W.eq (g2 := F0 m 80 ls [.int r77]) rfl ?_
      have e := so_some hf
      subst e
      exact ri hx hb hK hr hlk hQ dX6_whatIs_80 hP hD hS
    · replace hf := it_t c40 hf
      refine lv_aload_n hx hb dX6_whatIs_43 rfl (lv_at hl 1 rfl) ?_
      refine va_get (D := D) (ci := 6) (v := .ref (a_t 6)) (C := RX6) (T := TX6) (N := 9) hx hb hts hinX6 hown hK hP 0 rfl rfl 6 (by decide) (hts (.fieldLink RX6 43 "OnlyStrangersHear" "mind" "LOnlyStrangersHear$Mind;") (by decide +kernel)) (fun _ h9 => h9) rfl dX6_whatIs_44 ?_
      refine lv_aload_n hx hb dX6_whatIs_47 rfl (lv_at hl 1 rfl) ?_
      refine va_get (D := D) (ci := 6) (v := .ref (a_t 0)) (C := RX6) (T := TX6) (N := 9) hx hb hts hinX6 hown hK hP 0 rfl rfl 0 (by decide) (hts (.fieldLink RX6 10 "OnlyStrangersHear" "now" "LOnlyStrangersHear$Town;") (by decide +kernel)) (fun _ h9 => h9) rfl dX6_whatIs_48 ?_
      refine lv_iload_n hx hb dX6_whatIs_51 rfl (lv_at hl 2 rfl) ?_
      refine lv_iload_n hx hb dX6_whatIs_52 rfl (lv_at hl 3 rfl) ?_
      refine lv_aload_n hx hb dX6_whatIs_53 rfl (lv_at hl 1 rfl) ?_
      refine va_get (D := D) (ci := 6) (v := .ref (a_t 4)) (C := RX6) (T := TX6) (N := 9) hx hb hts hinX6 hown hK hP 0 rfl rfl 4 (by decide) (hts (.fieldLink RX6 29 "OnlyStrangersHear" "numbers" "LOnlyStrangersHear$Numbers;") (by decide +kernel)) (fun _ h9 => h9) rfl dX6_whatIs_54 ?_
      obtain ⟨r57, u57, h57, hf⟩ := bd_some hf
      have hPc := hP.sub (ws' := gX1 (a_t 6) a_t_6 ++ (gX4 (a_t_6 0) a_t_6_0 cI S_t_6_0 ++ (gX4 (a_t 0) a_t_0 cI u7.2 ++ gX2 (a_t 4) a_t_4 cI S_t_4))) [11, 12, 13, 14, 15, 16, 17, 18, 2, 3, 4, 5, 6, 7, 8, 9, 10] rfl
      have hDc := hD.sub (ws' := gX1 (a_t 6) a_t_6 ++ (gX4 (a_t_6 0) a_t_6_0 cI S_t_6_0 ++ (gX4 (a_t 0) a_t_0 cI u7.2 ++ gX2 (a_t 4) a_t_4 cI S_t_4))) [11, 12, 13, 14, 15, 16, 17, 18, 2, 3, 4, 5, 6, 7, 8, 9, 10] (by decide) rfl
      refine calX (runV E0.b E0.n (As := [.ref (a_t 0), .int x1, .int x2, .ref (a_t 4)]) (rest := []) ⟨hx, hb, hml, hown, hts⟩ (c_X1_kindsBy l D cI (a_t 6) a_t_6 a_t_6_0 (a_t 0) a_t_0 (a_t 4) a_t_4 S_t_6_0 u7.2 S_t_4 x1 x2 _ h57) gX6_whatIs_X1_kindsBy rfl rfl rfl hdX1_kindsBy ⟨by decide, by decide⟩ hK hPc hDc 0 rfl rfl rfl hl.1 rfl (Nat.le_of_ble_eq_true rfl) dX6_whatIs_57 ⟨Nat.zero_le _, Nat.zero_le _⟩) hP hD hS hA [11, 12, 13, 14, 15, 16, 17, 18, 2, 3, 4, 5, 6, 7, 8, 9, 10] [0, 1] [0, 1, 10, 11, 12, 13, 14, 15, 16, 17, 18, 2, 3, 4, 5, 6, 7, 8, 9] (wr := gX6 o_t a_t cI u7.1) (wn := gX6 o_t a_t cI u7.1 ++ (gX4 (a_t 0) a_t_0 cI u57.2.1 ++ (gX2 (a_t 4) a_t_4 cI u57.2.2 ++ (gX1 (a_t 6) a_t_6 ++ gX4 (a_t_6 0) a_t_6_0 cI u57.1)))) rfl rfl (by decide) (by decide) rfl (by decide) (fun H locs hP hD hS => ?_)
      have hP : va_P D vwCl (gX6 o_t a_t cI u7.1 ++ (gX4 (a_t 0) a_t_0 cI u57.2.1 ++ (gX2 (a_t 4) a_t_4 cI u57.2.2 ++ (gX1 (a_t 6) a_t_6 ++ gX4 (a_t_6 0) a_t_6_0 cI u57.1)))) H := hP
      have hD : va_D A (gX6 o_t a_t cI u7.1 ++ (gX4 (a_t 0) a_t_0 cI u57.2.1 ++ (gX2 (a_t 4) a_t_4 cI u57.2.2 ++ (gX1 (a_t 6) a_t_6 ++ gX4 (a_t_6 0) a_t_6_0 cI u57.1)))) := hD
      refine W.eq (g2 := F0 m 60 ls [.int r57]) rfl ?_
      refine lv_goto (tgt := 80) hx hb dX6_whatIs_60 (by decide) ?_
      have e := so_some hf
      subst e
      exact ri hx hb hK hr hlk hQ dX6_whatIs_80 hP hD hS
  · replace hf := it_f c29 hf
    refine lv_aload_n hx hb dX6_whatIs_32 rfl (lv_at hl 1 rfl) ?_
    refine lv_iload hx hb dX6_whatIs_33 (lv_at hl 0 rfl) ?_
    obtain ⟨r35, u35, h35, hf⟩ := bd_some hf
    have hPc := hP.sub (ws' := gX6 o_t a_t cI u7.1) [0, 1] rfl
    have hDc := hD.sub (ws' := gX6 o_t a_t cI u7.1) [0, 1] (by decide) rfl
    refine calX (runV E0.b E0.n (As := [.int r22]) (rest := []) ⟨hx, hb, hml, hown, hts⟩ (c_X6_refused l D cI o_t a_t u7.1 r22 _ h35) gX6_whatIs_X6_refused rfl rfl rfl hdX6_refused ⟨by decide, by decide⟩ hK hPc hDc 0 rfl rfl rfl hl.1 rfl (Nat.le_of_ble_eq_true rfl) dX6_whatIs_35 ⟨Nat.zero_le _, Nat.zero_le _⟩) hP hD hS hA [0, 1] [2, 3, 4, 5, 6, 7, 8, 9, 10, 11, 12, 13, 14, 15, 16, 17, 18] [17, 18, 0, 1, 2, 3, 4, 5, 6, 7, 8, 9, 10, 11, 12, 13, 14, 15, 16] (wr := gX4 (a_t 0) a_t_0 cI u7.2 ++ (gX2 (a_t 4) a_t_4 cI S_t_4 ++ (gX1 (a_t 6) a_t_6 ++ gX4 (a_t_6 0) a_t_6_0 cI S_t_6_0))) (wn := gX6 o_t a_t cI u35 ++ (gX4 (a_t 0) a_t_0 cI u7.2 ++ (gX2 (a_t 4) a_t_4 cI S_t_4 ++ (gX1 (a_t 6) a_t_6 ++ gX4 (a_t_6 0) a_t_6_0 cI S_t_6_0)))) rfl rfl (by decide) (by decide) rfl (by decide) (fun H locs hP hD hS => ?_)
    have hP : va_P D vwCl (gX6 o_t a_t cI u35 ++ (gX4 (a_t 0) a_t_0 cI u7.2 ++ (gX2 (a_t 4) a_t_4 cI S_t_4 ++ (gX1 (a_t 6) a_t_6 ++ gX4 (a_t_6 0) a_t_6_0 cI S_t_6_0)))) H := hP
    have hD : va_D A (gX6 o_t a_t cI u35 ++ (gX4 (a_t 0) a_t_0 cI u7.2 ++ (gX2 (a_t 4) a_t_4 cI S_t_4 ++ (gX1 (a_t 6) a_t_6 ++ gX4 (a_t_6 0) a_t_6_0 cI S_t_6_0)))) := hD
    refine W.eq (g2 := F0 m 38 ls [.int r35]) rfl ?_
    have e := so_some hf
    subst e
    exact ri hx hb hK hr hlk hQ dX6_whatIs_38 hP hD hS
