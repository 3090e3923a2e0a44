abbrev rmX3_whomToSend : Room := { frames := 4, cells := 0, slots := 0, locals := 94 }
set_option maxHeartbeats 4000000 in
set_option maxRecDepth 100000 in
theorem c_X3_whomToSend (l : Launch) (D : va_G) (cI : ClassId) (o_t : Nat) (a_t : Nat → Nat) (a_t_0 : Nat → Nat) (o_p1 : Nat) (a_p1 : Nat → Nat) (S_t : G) (S_t_0 : G) (S_p1 : G) (x2 : Int32) (x3 : Int32) (x4 : Int32) (out : Int32 × G × G × G) (hf : f_X3_whomToSend S_t S_t_0 S_p1 x2 x3 x4 = some out) : Cn E0 l yX3_whomToSend wsX3_whomToSend rmX3_whomToSend D cI [.ref o_t, .ref o_p1, .int x2, .int x3, .int x4] (gX3 o_t a_t cI S_t ++ (gX4 (a_t 0) a_t_0 cI S_t_0 ++ gX4 o_p1 a_p1 cI S_p1)) (some (.int out.1)) (gX3 o_t a_t cI out.2.1 ++ (gX4 (a_t 0) a_t_0 cI out.2.2.1 ++ gX4 o_p1 a_p1 cI out.2.2.2)) := by
  refine Cn.mk (cc := cX3_whomToSend) (maxL := 9) (ret := (some .int)) (by decide) rfl (Nat.le_of_ble_eq_true rfl) ?_
  intro p e s m below meth c A ls Q hx hb hml hown hts hK hA hP hD hS hl hr hlk hnm hE hQ
  have hown : s.vm.findClass RX3 = some m.cls := hown
  have hinX3 : ∀ w ∈ u_ws RX3 TX3 2, w ∈ wsX3_whomToSend := by decide +kernel
  have hinX4 : ∀ w ∈ u_ws RX4 TX4 10, w ∈ wsX3_whomToSend := by decide +kernel
  have j30 : ∀ (n30 : Nat) (S_t : G) (S_t_0 : G) (S_p1 : G) (l2 : Int32) (l3 : Int32) (l4 : Int32) (l5 : Int32) (l6 : Int32) (l7 : Int32) (H : Heap) (locs : List Loc) (ls : Array Slot), f_X3_whomToSend_30 n30 S_t S_t_0 S_p1 l2 l3 l4 l5 l6 l7 = some out → va_P D vwCl (gX3 o_t a_t cI S_t ++ (gX4 (a_t 0) a_t_0 cI S_t_0 ++ gX4 o_p1 a_p1 cI S_p1)) H → va_D A (gX3 o_t a_t cI S_t ++ (gX4 (a_t 0) a_t_0 cI S_t_0 ++ gX4 o_p1 a_p1 cI S_p1)) → va_S A s.heap H locs → lv_has ls 9 [(0, .ref o_t), (1, .ref o_p1), (2, .int l2), (3, .int l3), (4, .int l4), (5, .int l5), (6, .int l6), (7, .int l7)] → W p l e rmX3_whomToSend s m ([.ref o_t, .ref o_p1, .int x2, .int x3, .int x4] : List Value).toArray below meth c H locs 0 0 Q (F0 m 30 ls []) := by
    intro n30
    induction n30 with
    | zero =>
      intro S_t S_t_0 S_p1 l2 l3 l4 l5 l6 l7 H locs ls hf
      exact no_some hf
    | succ n30 ih30 =>
      intro S_t S_t_0 S_p1 l2 l3 l4 l5 l6 l7 H locs ls hf hP hD hS hl
      replace hf : b_X3_whomToSend_30 (f_X3_whomToSend_30 n30) S_t S_t_0 S_p1 l2 l3 l4 l5 l6 l7 = some out := hf
      unfold b_X3_whomToSend_30 at hf
      refine lv_iload hx hb dX3_whomToSend_30 (lv_at hl 7 rfl) ?_
      refine lv_aload_n hx hb dX3_whomToSend_32 rfl (lv_at hl 1 rfl) ?_
      refine va_get (D := D) (ci := 4) (v := .int (S_p1.1 3)) (C := RX4) (T := TX4) (N := 10) hx hb hts hinX4 hown hK hP 9 rfl rfl 3 (by decide) (hts (.fieldLink RX3 30 "OnlyStrangersHear$Town" "people" "I") (by decide +kernel)) (fun _ h9 => h9) rfl dX3_whomToSend_33 ?_
      refine lv_icmp_ge (tgt := 94) hx hb dX3_whomToSend_36 (by decide) (fun c36 => ?_) (fun c36 => ?_)
      · replace hf := it_t c36 hf
        refine lv_iload hx hb dX3_whomToSend_94 (lv_at hl 6 rfl) ?_
        have e := so_some hf
        subst e
        exact ri hx hb hK hr hlk hQ dX3_whomToSend_96 hP hD hS
      · replace hf := it_f c36 hf
        refine lv_aload_n hx hb dX3_whomToSend_39 rfl (lv_at hl 0 rfl) ?_
        refine va_get (D := D) (ci := 3) (v := .ref (a_t 0)) (C := RX3) (T := TX3) (N := 2) hx hb hts hinX3 hown hK hP 0 rfl rfl 0 (by decide) (hts (.fieldLink RX3 12 "OnlyStrangersHear$Plans" "trial" "LOnlyStrangersHear$Town;") (by decide +kernel)) (fun _ h9 => h9) rfl dX3_whomToSend_40 ?_
        refine lv_aload_n hx hb dX3_whomToSend_43 rfl (lv_at hl 1 rfl) ?_
        obtain ⟨r44, u44, h44, hf⟩ := bd_some hf
        have hPc := hP.sub (ws' := gX4 (a_t 0) a_t_0 cI S_t_0 ++ gX4 o_p1 a_p1 cI S_p1) [2, 3, 4, 5, 6, 7, 8, 9, 10, 11, 12, 13, 14, 15] rfl
        have hDc := hD.sub (ws' := gX4 (a_t 0) a_t_0 cI S_t_0 ++ gX4 o_p1 a_p1 cI S_p1) [2, 3, 4, 5, 6, 7, 8, 9, 10, 11, 12, 13, 14, 15] (by decide) rfl
        refine calX (runV E0.b E0.n (As := [.ref o_p1]) (rest := []) ⟨hx, hb, hml, hown, hts⟩ (c_X4_become l D cI (a_t 0) a_t_0 o_p1 a_p1 S_t_0 S_p1 _ h44) gX3_whomToSend_X4_become rfl rfl rfl hdX4_become ⟨by decide, by decide⟩ hK hPc hDc 0 rfl rfl rfl hl.1 rfl (Nat.le_of_ble_eq_true rfl) dX3_whomToSend_44 ⟨Nat.zero_le _, Nat.zero_le _⟩) hP hD hS hA [2, 3, 4, 5, 6, 7, 8, 9, 10, 11, 12, 13, 14, 15] [0, 1] [0, 1, 2, 3, 4, 5, 6, 7, 8, 9, 10, 11, 12, 13, 14, 15] (wr := gX3 o_t a_t cI S_t) (wn := gX3 o_t a_t cI S_t ++ (gX4 (a_t 0) a_t_0 cI u44.1 ++ gX4 o_p1 a_p1 cI u44.2)) rfl rfl (by decide) (by decide) rfl (by decide) (fun H locs hP hD hS => ?_)
        have hP : va_P D vwCl (gX3 o_t a_t cI S_t ++ (gX4 (a_t 0) a_t_0 cI u44.1 ++ gX4 o_p1 a_p1 cI u44.2)) H := hP
        have hD : va_D A (gX3 o_t a_t cI S_t ++ (gX4 (a_t 0) a_t_0 cI u44.1 ++ gX4 o_p1 a_p1 cI u44.2)) := hD
        refine W.eq (g2 := F0 m 47 ls []) rfl ?_
        refine lv_aload_n hx hb dX3_whomToSend_47 rfl (lv_at hl 0 rfl) ?_
        refine va_get (D := D) (ci := 3) (v := .ref (a_t 0)) (C := RX3) (T := TX3) (N := 2) hx hb hts hinX3 hown hK hP 0 rfl rfl 0 (by decide) (hts (.fieldLink RX3 12 "OnlyStrangersHear$Plans" "trial" "LOnlyStrangersHear$Town;") (by decide +kernel)) (fun _ h9 => h9) rfl dX3_whomToSend_48 ?_
        refine va_get (D := D) (ci := 4) (v := .ref (a_t_0 7)) (C := RX4) (T := TX4) (N := 10) hx hb hts hinX4 hown hK hP 2 rfl rfl 7 (by decide) (hts (.fieldLink RX3 34 "OnlyStrangersHear$Town" "away" "[I") (by decide +kernel)) (fun _ h9 => h9) rfl dX3_whomToSend_51 ?_
        refine lv_iload hx hb dX3_whomToSend_54 (lv_at hl 7 rfl) ?_
        refine lv_iload_n hx hb dX3_whomToSend_56 rfl (lv_at hl 3 rfl) ?_
        obtain ⟨b57, hf⟩ := ck_some hf
        refine va_iast hx hb hK hP hD hS 8 0 rfl rfl b57 dX3_whomToSend_57 (fun H locs hP hD hS => ?_)
        have hP : va_P D vwCl (gX3 o_t a_t cI S_t ++ (gX4 (a_t 0) a_t_0 cI (pA u44.1 7 l7.toNatClampNeg l3) ++ gX4 o_p1 a_p1 cI u44.2)) H := hP
        have hD : va_D A (gX3 o_t a_t cI S_t ++ (gX4 (a_t 0) a_t_0 cI (pA u44.1 7 l7.toNatClampNeg l3) ++ gX4 o_p1 a_p1 cI u44.2)) := hD
        obtain ⟨g57, e57, hf⟩ := lt_some hf
        rw [← e57] at hP hD
        refine lv_aload_n hx hb dX3_whomToSend_58 rfl (lv_at hl 0 rfl) ?_
        refine va_get (D := D) (ci := 3) (v := .ref (a_t 0)) (C := RX3) (T := TX3) (N := 2) hx hb hts hinX3 hown hK hP 0 rfl rfl 0 (by decide) (hts (.fieldLink RX3 12 "OnlyStrangersHear$Plans" "trial" "LOnlyStrangersHear$Town;") (by decide +kernel)) (fun _ h9 => h9) rfl dX3_whomToSend_59 ?_
        refine lv_iload_n hx hb dX3_whomToSend_62 rfl (lv_at hl 2 rfl) ?_
        refine lv_iload_n hx hb dX3_whomToSend_63 rfl (lv_at hl 2 rfl) ?_
        refine lv_iconst (v := (1 : Int32)) hx hb dX3_whomToSend_64 (by decide) ?_
        refine lv_iadd hx hb dX3_whomToSend_65 ?_
        refine lv_iload hx hb dX3_whomToSend_66 (lv_at hl 4 rfl) ?_
        obtain ⟨r68, u68, h68, hf⟩ := bd_some hf
        have hPc := hP.sub (ws' := gX4 (a_t 0) a_t_0 cI g57) [2, 3, 4, 5, 6, 7, 8] rfl
        have hDc := hD.sub (ws' := gX4 (a_t 0) a_t_0 cI g57) [2, 3, 4, 5, 6, 7, 8] (by decide) rfl
        refine calX (runV E0.b E0.n (As := [.int l2, .int (l2 + (1 : Int32)), .int l4]) (rest := []) ⟨hx, hb, hml, hown, hts⟩ (c_X4_passCountingRight l D cI (a_t 0) a_t_0 g57 l2 (l2 + (1 : Int32)) l4 _ h68) gX3_whomToSend_X4_passCountingRight rfl rfl rfl hdX4_passCountingRight ⟨by decide, by decide⟩ hK hPc hDc 0 rfl rfl rfl hl.1 rfl (Nat.le_of_ble_eq_true rfl) dX3_whomToSend_68 ⟨Nat.zero_le _, Nat.zero_le _⟩) hP hD hS hA [2, 3, 4, 5, 6, 7, 8] [0, 1, 9, 10, 11, 12, 13, 14, 15] [0, 1, 9, 10, 11, 12, 13, 14, 15, 2, 3, 4, 5, 6, 7, 8] (wr := gX3 o_t a_t cI S_t ++ gX4 o_p1 a_p1 cI u44.2) (wn := gX3 o_t a_t cI S_t ++ (gX4 (a_t 0) a_t_0 cI u68 ++ gX4 o_p1 a_p1 cI u44.2)) rfl rfl (by decide) (by decide) rfl (by decide) (fun H locs hP hD hS => ?_)
        have hP : va_P D vwCl (gX3 o_t a_t cI S_t ++ (gX4 (a_t 0) a_t_0 cI u68 ++ gX4 o_p1 a_p1 cI u44.2)) H := hP
        have hD : va_D A (gX3 o_t a_t cI S_t ++ (gX4 (a_t 0) a_t_0 cI u68 ++ gX4 o_p1 a_p1 cI u44.2)) := hD
        refine W.eq (g2 := F0 m 71 ls [.int r68]) rfl ?_
        refine lv_istore (lv' := [(8, .int r68), (0, .ref o_t), (1, .ref o_p1), (2, .int l2), (3, .int l3), (4, .int l4), (5, .int l5), (6, .int l6), (7, .int l7)]) hx hb dX3_whomToSend_71 hl (by decide) rfl (fun ls hl => ?_)
        refine lv_iload hx hb dX3_whomToSend_73 (lv_at hl 0 rfl) ?_
        refine lv_iload hx hb dX3_whomToSend_75 (lv_at hl 6 rfl) ?_
        refine lv_icmp_le (tgt := 88) hx hb dX3_whomToSend_77 (by decide) (fun c77 => ?_) (fun c77 => ?_)
        · replace hf := it_t c77 hf
          refine lv_iinc (v := l7 + (1 : Int32)) (lv' := [(7, .int (l7 + (1 : Int32))), (8, .int r68), (0, .ref o_t), (1, .ref o_p1), (2, .int l2), (3, .int l3), (4, .int l4), (5, .int l5), (6, .int l6)]) hx hb dX3_whomToSend_88 hl (k := 8) rfl rfl (by decide) rfl (fun ls hl => ?_)
          refine lv_goto (tgt := 30) hx hb dX3_whomToSend_91 (by decide) ?_
          exact ih30 S_t u68 u44.2 l2 l3 l4 l5 l6 (l7 + (1 : Int32)) H locs ls hf hP hD hS (lv_sub hl [2, 3, 4, 5, 6, 7, 8, 0] rfl)
        · replace hf := it_f c77 hf
          refine lv_iload hx hb dX3_whomToSend_80 (lv_at hl 0 rfl) ?_
          refine lv_istore (lv' := [(5, .int r68), (8, .int r68), (0, .ref o_t), (1, .ref o_p1), (2, .int l2), (3, .int l3), (4, .int l4), (6, .int l6), (7, .int l7)]) hx hb dX3_whomToSend_82 hl (by decide) rfl (fun ls hl => ?_)
          refine lv_iload hx hb dX3_whomToSend_84 (lv_at hl 8 rfl) ?_
          refine lv_istore (lv' := [(6, .int l7), (5, .int r68), (8, .int r68), (0, .ref o_t), (1, .ref o_p1), (2, .int l2), (3, .int l3), (4, .int l4), (7, .int l7)]) hx hb dX3_whomToSend_86 hl (by decide) rfl (fun ls hl => ?_)
          refine lv_iinc (v := l7 + (1 : Int32)) (lv' := [(7, .int (l7 + (1 : Int32))), (6, .int l7), (5, .int r68), (8, .int r68), (0, .ref o_t), (1, .ref o_p1), (2, .int l2), (3, .int l3), (4, .int l4)]) hx hb dX3_whomToSend_88 hl (k := 8) rfl rfl (by decide) rfl (fun ls hl => ?_)
          refine lv_goto (tgt := 30) hx hb dX3_whomToSend_91 (by decide) ?_
          exact ih30 S_t u68 u44.2 l2 l3 l4 r68 l7 (l7 + (1 : Int32)) H locs ls hf hP hD hS (lv_sub hl [4, 5, 6, 7, 8, 2, 1, 0] rfl)
  unfold f_X3_whomToSend at hf
  have hl : lv_has ls 9 [(0, .ref o_t), (1, .ref o_p1), (2, .int x2), (3, .int x3), (4, .int x4)] := hl
  obtain ⟨H, hHe⟩ : ∃ H : Heap, H = s.heap := ⟨_, rfl⟩
  obtain ⟨locs, hle⟩ : ∃ q : List Loc, q = [] := ⟨_, rfl⟩
  have hS : va_S A s.heap H locs := by rw [hHe, hle]; exact hS
  rw [← hHe] at hP
  suffices hgo : W p l e rmX3_whomToSend s m ([.ref o_t, .ref o_p1, .int x2, .int x3, .int x4] : List Value).toArray below meth c H locs 0 0 Q (F0 m 0 ls []) by rw [hHe, hle] at hgo; exact hgo
  clear hHe hle
  refine lv_aload_n hx hb dX3_whomToSend_0 rfl (lv_at hl 0 rfl) ?_
  refine va_get (D := D) (ci := 3) (v := .ref (a_t 0)) (C := RX3) (T := TX3) (N := 2) hx hb hts hinX3 hown hK hP 0 rfl rfl 0 (by decide) (hts (.fieldLink RX3 12 "OnlyStrangersHear$Plans" "trial" "LOnlyStrangersHear$Town;") (by decide +kernel)) (fun _ h9 => h9) rfl dX3_whomToSend_1 ?_
  refine lv_aload_n hx hb dX3_whomToSend_4 rfl (lv_at hl 1 rfl) ?_
  obtain ⟨r5, u5, h5, hf⟩ := bd_some hf
  have hPc := hP.sub (ws' := gX4 (a_t 0) a_t_0 cI S_t_0 ++ gX4 o_p1 a_p1 cI S_p1) [2, 3, 4, 5, 6, 7, 8, 9, 10, 11, 12, 13, 14, 15] rfl
  have hDc := hD.sub (ws' := gX4 (a_t 0) a_t_0 cI S_t_0 ++ gX4 o_p1 a_p1 cI S_p1) [2, 3, 4, 5, 6, 7, 8, 9, 10, 11, 12, 13, 14, 15] (by decide) rfl
  refine calX (runV E0.b E0.n (As := [.ref o_p1]) (rest := []) ⟨hx, hb, hml, hown, hts⟩ (c_X4_become l D cI (a_t 0) a_t_0 o_p1 a_p1 S_t_0 S_p1 _ h5) gX3_whomToSend_X4_become rfl rfl rfl hdX4_become ⟨by decide, by decide⟩ hK hPc hDc 0 rfl rfl rfl hl.1 rfl (Nat.le_of_ble_eq_true rfl) dX3_whomToSend_5 ⟨Nat.zero_le _, Nat.zero_le _⟩) hP hD hS hA [2, 3, 4, 5, 6, 7, 8, 9, 10, 11, 12, 13, 14, 15] [0, 1] [0, 1, 2, 3, 4, 5, 6, 7, 8, 9, 10, 11, 12, 13, 14, 15] (wr := gX3 o_t a_t cI S_t) (wn := gX3 o_t a_t cI S_t ++ (gX4 (a_t 0) a_t_0 cI u5.1 ++ gX4 o_p1 a_p1 cI u5.2)) rfl rfl (by decide) (by decide) rfl (by decide) (fun H locs hP hD hS => ?_)
  have hP : va_P D vwCl (gX3 o_t a_t cI S_t ++ (gX4 (a_t 0) a_t_0 cI u5.1 ++ gX4 o_p1 a_p1 cI u5.2)) H := hP
  have hD : va_D A (gX3 o_t a_t cI S_t ++ (gX4 (a_t 0) a_t_0 cI u5.1 ++ gX4 o_p1 a_p1 cI u5.2)) := hD
  refine W.eq (g2 := F0 m 8 ls []) rfl ?_
  refine lv_aload_n hx hb dX3_whomToSend_8 rfl (lv_at hl 0 rfl) ?_
  refine va_get (D := D) (ci := 3) (v := .ref (a_t 0)) (C := RX3) (T := TX3) (N := 2) hx hb hts hinX3 hown hK hP 0 rfl rfl 0 (by decide) (hts (.fieldLink RX3 12 "OnlyStrangersHear$Plans" "trial" "LOnlyStrangersHear$Town;") (by decide +kernel)) (fun _ h9 => h9) rfl dX3_whomToSend_9 ?_
  refine lv_iload_n hx hb dX3_whomToSend_12 rfl (lv_at hl 2 rfl) ?_
  refine lv_iload_n hx hb dX3_whomToSend_13 rfl (lv_at hl 2 rfl) ?_
  refine lv_iconst (v := (1 : Int32)) hx hb dX3_whomToSend_14 (by decide) ?_
  refine lv_iadd hx hb dX3_whomToSend_15 ?_
  refine lv_iload hx hb dX3_whomToSend_16 (lv_at hl 4 rfl) ?_
  obtain ⟨r18, u18, h18, hf⟩ := bd_some hf
  have hPc := hP.sub (ws' := gX4 (a_t 0) a_t_0 cI u5.1) [2, 3, 4, 5, 6, 7, 8] rfl
  have hDc := hD.sub (ws' := gX4 (a_t 0) a_t_0 cI u5.1) [2, 3, 4, 5, 6, 7, 8] (by decide) rfl
  refine calX (runV E0.b E0.n (As := [.int x2, .int (x2 + (1 : Int32)), .int x4]) (rest := []) ⟨hx, hb, hml, hown, hts⟩ (c_X4_passCountingRight l D cI (a_t 0) a_t_0 u5.1 x2 (x2 + (1 : Int32)) x4 _ h18) gX3_whomToSend_X4_passCountingRight rfl rfl rfl hdX4_passCountingRight ⟨by decide, by decide⟩ hK hPc hDc 0 rfl rfl rfl hl.1 rfl (Nat.le_of_ble_eq_true rfl) dX3_whomToSend_18 ⟨Nat.zero_le _, Nat.zero_le _⟩) hP hD hS hA [2, 3, 4, 5, 6, 7, 8] [0, 1, 9, 10, 11, 12, 13, 14, 15] [0, 1, 9, 10, 11, 12, 13, 14, 15, 2, 3, 4, 5, 6, 7, 8] (wr := gX3 o_t a_t cI S_t ++ gX4 o_p1 a_p1 cI u5.2) (wn := gX3 o_t a_t cI S_t ++ (gX4 (a_t 0) a_t_0 cI u18 ++ gX4 o_p1 a_p1 cI u5.2)) rfl rfl (by decide) (by decide) rfl (by decide) (fun H locs hP hD hS => ?_)
  have hP : va_P D vwCl (gX3 o_t a_t cI S_t ++ (gX4 (a_t 0) a_t_0 cI u18 ++ gX4 o_p1 a_p1 cI u5.2)) H := hP
  have hD : va_D A (gX3 o_t a_t cI S_t ++ (gX4 (a_t 0) a_t_0 cI u18 ++ gX4 o_p1 a_p1 cI u5.2)) := hD
  refine W.eq (g2 := F0 m 21 ls [.int r18]) rfl ?_
  refine lv_istore (lv' := [(5, .int r18), (0, .ref o_t), (1, .ref o_p1), (2, .int x2), (3, .int x3), (4, .int x4)]) hx hb dX3_whomToSend_21 hl (by decide) rfl (fun ls hl => ?_)
  refine lv_bipush (v := (-9 : Int32)) hx hb dX3_whomToSend_23 (by decide) ?_
  refine lv_istore (lv' := [(6, .int (-9 : Int32)), (5, .int r18), (0, .ref o_t), (1, .ref o_p1), (2, .int x2), (3, .int x3), (4, .int x4)]) hx hb dX3_whomToSend_25 hl (by decide) rfl (fun ls hl => ?_)
  refine lv_iconst (v := (0 : Int32)) hx hb dX3_whomToSend_27 (by decide) ?_
  refine lv_istore (lv' := [(7, .int (0 : Int32)), (6, .int (-9 : Int32)), (5, .int r18), (0, .ref o_t), (1, .ref o_p1), (2, .int x2), (3, .int x3), (4, .int x4)]) hx hb dX3_whomToSend_28 hl (by decide) rfl (fun ls hl => ?_)
  exact j30 1000 S_t u18 u5.2 x2 x3 x4 r18 (-9 : Int32) (0 : Int32) H locs ls hf hP hD hS (lv_sub hl [3, 4, 5, 6, 7, 2, 1, 0] rfl)
abbrev rmX3_bestNights : Room := { frames := 4, cells := 0, slots := 0, locals := 94 }
set_option maxHeartbeats 4000000 in
set_option maxRecDepth 100000 in
theorem c_X3_bestNights (l : Launch) (D : va_G) (cI : ClassId) (o_t : Nat) (a_t : Nat → Nat) (a_t_0 : Nat → Nat) (o_p1 : Nat) (a_p1 : Nat → Nat) (S_t : G) (S_t_0 : G) (S_p1 : G) (x2 : Int32) (x3 : Int32) (out : Int32 × G × G × G) (hf : f_X3_bestNights S_t S_t_0 S_p1 x2 x3 = some out) : Cn E0 l yX3_bestNights wsX3_bestNights rmX3_bestNights D cI [.ref o_t, .ref o_p1, .int x2, .int x3] (gX3 o_t a_t cI S_t ++ (gX4 (a_t 0) a_t_0 cI S_t_0 ++ gX4 o_p1 a_p1 cI S_p1)) (some (.int out.1)) (gX3 o_t a_t cI out.2.1 ++ (gX4 (a_t 0) a_t_0 cI out.2.2.1 ++ gX4 o_p1 a_p1 cI out.2.2.2)) := by
  refine Cn.mk (cc := cX3_bestNights) (maxL := 8) (ret := (some .int)) (by decide) rfl (Nat.le_of_ble_eq_true rfl) ?_
  intro p e s m below meth c A ls Q hx hb hml hown hts hK hA hP hD hS hl hr hlk hnm hE hQ
  have hown : s.vm.findClass RX3 = some m.cls := hown
  have hinX3 : ∀ w ∈ u_ws RX3 TX3 2, w ∈ wsX3_bestNights := by decide +kernel
  have hinX4 : ∀ w ∈ u_ws RX4 TX4 10, w ∈ wsX3_bestNights := by decide +kernel
  have j30 : ∀ (n30 : Nat) (S_t : G) (S_t_0 : G) (S_p1 : G) (l2 : Int32) (l3 : Int32) (l4 : Int32) (l5 : Int32) (l6 : Int32) (H : Heap) (locs : List Loc) (ls : Array Slot), f_X3_bestNights_30 n30 S_t S_t_0 S_p1 l2 l3 l4 l5 l6 = some out → va_P D vwCl (gX3 o_t a_t cI S_t ++ (gX4 (a_t 0) a_t_0 cI S_t_0 ++ gX4 o_p1 a_p1 cI S_p1)) H → va_D A (gX3 o_t a_t cI S_t ++ (gX4 (a_t 0) a_t_0 cI S_t_0 ++ gX4 o_p1 a_p1 cI S_p1)) → va_S A s.heap H locs → lv_has ls 8 [(0, .ref o_t), (1, .ref o_p1), (2, .int l2), (3, .int l3), (4, .int l4), (5, .int l5), (6, .int l6)] → W p l e rmX3_bestNights s m ([.ref o_t, .ref o_p1, .int x2, .int x3] : List Value).toArray below meth c H locs 0 0 Q (F0 m 30 ls []) := by
    intro n30
    induction n30 with
    | zero =>
      intro S_t S_t_0 S_p1 l2 l3 l4 l5 l6 H locs ls hf
      exact no_some hf
    | succ n30 ih30 =>
      intro S_t S_t_0 S_p1 l2 l3 l4 l5 l6 H locs ls hf hP hD hS hl
      replace hf : b_X3_bestNights_30 (f_X3_bestNights_30 n30) S_t S_t_0 S_p1 l2 l3 l4 l5 l6 = some out := hf
      unfold b_X3_bestNights_30 at hf
      refine lv_iload hx hb dX3_bestNights_30 (lv_at hl 6 rfl) ?_
      refine lv_bipush (v := (9 : Int32)) hx hb dX3_bestNights_32 (by decide) ?_
      refine lv_icmp_gt (tgt := 92) hx hb dX3_bestNights_34 (by decide) (fun c34 => ?_) (fun c34 => ?_)
      · replace hf := it_t c34 hf
        refine lv_iload hx hb dX3_bestNights_92 (lv_at hl 5 rfl) ?_
        have e := so_some hf
        subst e
        exact ri hx hb hK hr hlk hQ dX3_bestNights_94 hP hD hS
      · replace hf := it_f c34 hf
        refine lv_aload_n hx hb dX3_bestNights_37 rfl (lv_at hl 0 rfl) ?_
        refine va_get (D := D) (ci := 3) (v := .ref (a_t 0)) (C := RX3) (T := TX3) (N := 2) hx hb hts hinX3 hown hK hP 0 rfl rfl 0 (by decide) (hts (.fieldLink RX3 12 "OnlyStrangersHear$Plans" "trial" "LOnlyStrangersHear$Town;") (by decide +kernel)) (fun _ h9 => h9) rfl dX3_bestNights_38 ?_
        refine lv_aload_n hx hb dX3_bestNights_41 rfl (lv_at hl 1 rfl) ?_
        obtain ⟨r42, u42, h42, hf⟩ := bd_some hf
        have hPc := hP.sub (ws' := gX4 (a_t 0) a_t_0 cI S_t_0 ++ gX4 o_p1 a_p1 cI S_p1) [2, 3, 4, 5, 6, 7, 8, 9, 10, 11, 12, 13, 14, 15] rfl
        have hDc := hD.sub (ws' := gX4 (a_t 0) a_t_0 cI S_t_0 ++ gX4 o_p1 a_p1 cI S_p1) [2, 3, 4, 5, 6, 7, 8, 9, 10, 11, 12, 13, 14, 15] (by decide) rfl
        refine calX (runV E0.b E0.n (As := [.ref o_p1]) (rest := []) ⟨hx, hb, hml, hown, hts⟩ (c_X4_become l D cI (a_t 0) a_t_0 o_p1 a_p1 S_t_0 S_p1 _ h42) gX3_bestNights_X4_become rfl rfl rfl hdX4_become ⟨by decide, by decide⟩ hK hPc hDc 0 rfl rfl rfl hl.1 rfl (Nat.le_of_ble_eq_true rfl) dX3_bestNights_42 ⟨Nat.zero_le _, Nat.zero_le _⟩) hP hD hS hA [2, 3, 4, 5, 6, 7, 8, 9, 10, 11, 12, 13, 14, 15] [0, 1] [0, 1, 2, 3, 4, 5, 6, 7, 8, 9, 10, 11, 12, 13, 14, 15] (wr := gX3 o_t a_t cI S_t) (wn := gX3 o_t a_t cI S_t ++ (gX4 (a_t 0) a_t_0 cI u42.1 ++ gX4 o_p1 a_p1 cI u42.2)) rfl rfl (by decide) (by decide) rfl (by decide) (fun H locs hP hD hS => ?_)
        have hP : va_P D vwCl (gX3 o_t a_t cI S_t ++ (gX4 (a_t 0) a_t_0 cI u42.1 ++ gX4 o_p1 a_p1 cI u42.2)) H := hP
        have hD : va_D A (gX3 o_t a_t cI S_t ++ (gX4 (a_t 0) a_t_0 cI u42.1 ++ gX4 o_p1 a_p1 cI u42.2)) := hD
        refine W.eq (g2 := F0 m 45 ls []) rfl ?_
        refine lv_aload_n hx hb dX3_bestNights_45 rfl (lv_at hl 0 rfl) ?_
        refine va_get (D := D) (ci := 3) (v := .ref (a_t 0)) (C := RX3) (T := TX3) (N := 2) hx hb hts hinX3 hown hK hP 0 rfl rfl 0 (by decide) (hts (.fieldLink RX3 12 "OnlyStrangersHear$Plans" "trial" "LOnlyStrangersHear$Town;") (by decide +kernel)) (fun _ h9 => h9) rfl dX3_bestNights_46 ?_
        refine va_get (D := D) (ci := 4) (v := .ref (a_t_0 7)) (C := RX4) (T := TX4) (N := 10) hx hb hts hinX4 hown hK hP 2 rfl rfl 7 (by decide) (hts (.fieldLink RX3 34 "OnlyStrangersHear$Town" "away" "[I") (by decide +kernel)) (fun _ h9 => h9) rfl dX3_bestNights_49 ?_
        refine lv_iload_n hx hb dX3_bestNights_52 rfl (lv_at hl 2 rfl) ?_
        refine lv_iload hx hb dX3_bestNights_53 (lv_at hl 6 rfl) ?_
        obtain ⟨b55, hf⟩ := ck_some hf
        refine va_iast hx hb hK hP hD hS 8 0 rfl rfl b55 dX3_bestNights_55 (fun H locs hP hD hS => ?_)
        have hP : va_P D vwCl (gX3 o_t a_t cI S_t ++ (gX4 (a_t 0) a_t_0 cI (pA u42.1 7 l2.toNatClampNeg l6) ++ gX4 o_p1 a_p1 cI u42.2)) H := hP
        have hD : va_D A (gX3 o_t a_t cI S_t ++ (gX4 (a_t 0) a_t_0 cI (pA u42.1 7 l2.toNatClampNeg l6) ++ gX4 o_p1 a_p1 cI u42.2)) := hD
        obtain ⟨g55, e55, hf⟩ := lt_some hf
        rw [← e55] at hP hD
        refine lv_aload_n hx hb dX3_bestNights_56 rfl (lv_at hl 0 rfl) ?_
        refine va_get (D := D) (ci := 3) (v := .ref (a_t 0)) (C := RX3) (T := TX3) (N := 2) hx hb hts hinX3 hown hK hP 0 rfl rfl 0 (by decide) (hts (.fieldLink RX3 12 "OnlyStrangersHear$Plans" "trial" "LOnlyStrangersHear$Town;") (by decide +kernel)) (fun _ h9 => h9) rfl dX3_bestNights_57 ?_
        refine lv_iconst (v := (0 : Int32)) hx hb dX3_bestNights_60 (by decide) ?_
        refine lv_aload_n hx hb dX3_bestNights_61 rfl (lv_at hl 1 rfl) ?_
        refine va_get (D := D) (ci := 4) (v := .int (u42.2.1 0)) (C := RX4) (T := TX4) (N := 10) hx hb hts hinX4 hown hK hP 9 rfl rfl 0 (by decide) (hts (.fieldLink RX3 37 "OnlyStrangersHear$Town" "bells" "I") (by decide +kernel)) (fun _ h9 => h9) rfl dX3_bestNights_62 ?_
        refine lv_iload_n hx hb dX3_bestNights_65 rfl (lv_at hl 3 rfl) ?_
        obtain ⟨r66, u66, h66, hf⟩ := bd_some hf
        have hPc := hP.sub (ws' := gX4 (a_t 0) a_t_0 cI g55) [2, 3, 4, 5, 6, 7, 8] rfl
        have hDc := hD.sub (ws' := gX4 (a_t 0) a_t_0 cI g55) [2, 3, 4, 5, 6, 7, 8] (by decide) rfl
        refine calX (runV E0.b E0.n (As := [.int (0 : Int32), .int (u42.2.1 0), .int l3]) (rest := []) ⟨hx, hb, hml, hown, hts⟩ (c_X4_passCountingRight l D cI (a_t 0) a_t_0 g55 (0 : Int32) (u42.2.1 0) l3 _ h66) gX3_bestNights_X4_passCountingRight rfl rfl rfl hdX4_passCountingRight ⟨by decide, by decide⟩ hK hPc hDc 0 rfl rfl rfl hl.1 rfl (Nat.le_of_ble_eq_true rfl) dX3_bestNights_66 ⟨Nat.zero_le _, Nat.zero_le _⟩) hP hD hS hA [2, 3, 4, 5, 6, 7, 8] [0, 1, 9, 10, 11, 12, 13, 14, 15] [0, 1, 9, 10, 11, 12, 13, 14, 15, 2, 3, 4, 5, 6, 7, 8] (wr := gX3 o_t a_t cI S_t ++ gX4 o_p1 a_p1 cI u42.2) (wn := gX3 o_t a_t cI S_t ++ (gX4 (a_t 0) a_t_0 cI u66 ++ gX4 o_p1 a_p1 cI u42.2)) rfl rfl (by decide) (by decide) rfl (by decide) (fun H locs hP hD hS => ?_)
        have hP : va_P D vwCl (gX3 o_t a_t cI S_t ++ (gX4 (a_t 0) a_t_0 cI u66 ++ gX4 o_p1 a_p1 cI u42.2)) H := hP
        have hD : va_D A (gX3 o_t a_t cI S_t ++ (gX4 (a_t 0) a_t_0 cI u66 ++ gX4 o_p1 a_p1 cI u42.2)) := hD
        refine W.eq (g2 := F0 m 69 ls [.int r66]) rfl ?_
        refine lv_istore (lv' := [(7, .int r66), (0, .ref o_t), (1, .ref o_p1), (2, .int l2), (3, .int l3), (4, .int l4), (5, .int l5), (6, .int l6)]) hx hb dX3_bestNights_69 hl (by decide) rfl (fun ls hl => ?_)
        refine lv_iload hx hb dX3_bestNights_71 (lv_at hl 0 rfl) ?_
        refine lv_iload hx hb dX3_bestNights_73 (lv_at hl 5 rfl) ?_
        refine lv_icmp_le (tgt := 86) hx hb dX3_bestNights_75 (by decide) (fun c75 => ?_) (fun c75 => ?_)
        · replace hf := it_t c75 hf
          refine lv_iinc (v := l6 + (1 : Int32)) (lv' := [(6, .int (l6 + (1 : Int32))), (7, .int r66), (0, .ref o_t), (1, .ref o_p1), (2, .int l2), (3, .int l3), (4, .int l4), (5, .int l5)]) hx hb dX3_bestNights_86 hl (k := 7) rfl rfl (by decide) rfl (fun ls hl => ?_)
          refine lv_goto (tgt := 30) hx hb dX3_bestNights_89 (by decide) ?_
          exact ih30 S_t u66 u42.2 l2 l3 l4 l5 (l6 + (1 : Int32)) H locs ls hf hP hD hS (lv_sub hl [2, 3, 4, 5, 6, 7, 0] rfl)
        · replace hf := it_f c75 hf
          refine lv_iload hx hb dX3_bestNights_78 (lv_at hl 0 rfl) ?_
          refine lv_istore (lv' := [(4, .int r66), (7, .int r66), (0, .ref o_t), (1, .ref o_p1), (2, .int l2), (3, .int l3), (5, .int l5), (6, .int l6)]) hx hb dX3_bestNights_80 hl (by decide) rfl (fun ls hl => ?_)
          refine lv_iload hx hb dX3_bestNights_82 (lv_at hl 7 rfl) ?_
          refine lv_istore (lv' := [(5, .int l6), (4, .int r66), (7, .int r66), (0, .ref o_t), (1, .ref o_p1), (2, .int l2), (3, .int l3), (6, .int l6)]) hx hb dX3_bestNights_84 hl (by decide) rfl (fun ls hl => ?_)
          refine lv_iinc (v := l6 + (1 : Int32)) (lv' := [(6, .int (l6 + (1 : Int32))), (5, .int l6), (4, .int r66), (7, .int r66), (0, .ref o_t), (1, .ref o_p1), (2, .int l2), (3, .int l3)]) hx hb dX3_bestNights_86 hl (k := 7) rfl rfl (by decide) rfl (fun ls hl => ?_)
          refine lv_goto (tgt := 30) hx hb dX3_bestNights_89 (by decide) ?_
          exact ih30 S_t u66 u42.2 l2 l3 r66 l6 (l6 + (1 : Int32)) H locs ls hf hP hD hS (lv_sub hl [4, 5, 6, 7, 2, 1, 0] rfl)
  unfold f_X3_bestNights at hf
  have hl : lv_has ls 8 [(0, .ref o_t), (1, .ref o_p1), (2, .int x2), (3, .int x3)] := hl
  obtain ⟨H, hHe⟩ : ∃ H : Heap, H = s.heap := ⟨_, rfl⟩
  obtain ⟨locs, hle⟩ : ∃ q : List Loc, q = [] := ⟨_, rfl⟩
  have hS : va_S A s.heap H locs := by rw [hHe, hle]; exact hS
  rw [← hHe] at hP
  suffices hgo : W p l e rmX3_bestNights s m ([.ref o_t, .ref o_p1, .int x2, .int x3] : List Value).toArray below meth c H locs 0 0 Q (F0 m 0 ls []) by rw [hHe, hle] at hgo; exact hgo
  clear hHe hle
  refine lv_aload_n hx hb dX3_bestNights_0 rfl (lv_at hl 0 rfl) ?_
  refine va_get (D := D) (ci := 3) (v := .ref (a_t 0)) (C := RX3) (T := TX3) (N := 2) hx hb hts hinX3 hown hK hP 0 rfl rfl 0 (by decide) (hts (.fieldLink RX3 12 "OnlyStrangersHear$Plans" "trial" "LOnlyStrangersHear$Town;") (by decide +kernel)) (fun _ h9 => h9) rfl dX3_bestNights_1 ?_
  refine lv_aload_n hx hb dX3_bestNights_4 rfl (lv_at hl 1 rfl) ?_
  obtain ⟨r5, u5, h5, hf⟩ := bd_some hf
  have hPc := hP.sub (ws' := gX4 (a_t 0) a_t_0 cI S_t_0 ++ gX4 o_p1 a_p1 cI S_p1) [2, 3, 4, 5, 6, 7, 8, 9, 10, 11, 12, 13, 14, 15] rfl
  have hDc := hD.sub (ws' := gX4 (a_t 0) a_t_0 cI S_t_0 ++ gX4 o_p1 a_p1 cI S_p1) [2, 3, 4, 5, 6, 7, 8, 9, 10, 11, 12, 13, 14, 15] (by decide) rfl
  refine calX (runV E0.b E0.n (As := [.ref o_p1]) (rest := []) ⟨hx, hb, hml, hown, hts⟩ (c_X4_become l D cI (a_t 0) a_t_0 o_p1 a_p1 S_t_0 S_p1 _ h5) gX3_bestNights_X4_become rfl rfl rfl hdX4_become ⟨by decide, by decide⟩ hK hPc hDc 0 rfl rfl rfl hl.1 rfl (Nat.le_of_ble_eq_true rfl) dX3_bestNights_5 ⟨Nat.zero_le _, Nat.zero_le _⟩) hP hD hS hA [2, 3, 4, 5, 6, 7, 8, 9, 10, 11, 12, 13, 14, 15] [0, 1] [0, 1, 2, 3, 4, 5, 6, 7, 8, 9, 10, 11, 12, 13, 14, 15] (wr := gX3 o_t a_t cI S_t) (wn := gX3 o_t a_t cI S_t ++ (gX4 (a_t 0) a_t_0 cI u5.1 ++ gX4 o_p1 a_p1 cI u5.2)) rfl rfl (by decide) (by decide) rfl (by decide) (fun H locs hP hD hS => ?_)
  have hP : va_P D vwCl (gX3 o_t a_t cI S_t ++ (gX4 (a_t 0) a_t_0 cI u5.1 ++ gX4 o_p1 a_p1 cI u5.2)) H := hP
  have hD : va_D A (gX3 o_t a_t cI S_t ++ (gX4 (a_t 0) a_t_0 cI u5.1 ++ gX4 o_p1 a_p1 cI u5.2)) := hD
  refine W.eq (g2 := F0 m 8 ls []) rfl ?_
  refine lv_aload_n hx hb dX3_bestNights_8 rfl (lv_at hl 0 rfl) ?_
  refine va_get (D := D) (ci := 3) (v := .ref (a_t 0)) (C := RX3) (T := TX3) (N := 2) hx hb hts hinX3 hown hK hP 0 rfl rfl 0 (by decide) (hts (.fieldLink RX3 12 "OnlyStrangersHear$Plans" "trial" "LOnlyStrangersHear$Town;") (by decide +kernel)) (fun _ h9 => h9) rfl dX3_bestNights_9 ?_
  refine lv_iconst (v := (0 : Int32)) hx hb dX3_bestNights_12 (by decide) ?_
  refine lv_aload_n hx hb dX3_bestNights_13 rfl (lv_at hl 1 rfl) ?_
  refine va_get (D := D) (ci := 4) (v := .int (u5.2.1 0)) (C := RX4) (T := TX4) (N := 10) hx hb hts hinX4 hown hK hP 9 rfl rfl 0 (by decide) (hts (.fieldLink RX3 37 "OnlyStrangersHear$Town" "bells" "I") (by decide +kernel)) (fun _ h9 => h9) rfl dX3_bestNights_14 ?_
  refine lv_iload_n hx hb dX3_bestNights_17 rfl (lv_at hl 3 rfl) ?_
  obtain ⟨r18, u18, h18, hf⟩ := bd_some hf
  have hPc := hP.sub (ws' := gX4 (a_t 0) a_t_0 cI u5.1) [2, 3, 4, 5, 6, 7, 8] rfl
  have hDc := hD.sub (ws' := gX4 (a_t 0) a_t_0 cI u5.1) [2, 3, 4, 5, 6, 7, 8] (by decide) rfl
  refine calX (runV E0.b E0.n (As := [.int (0 : Int32), .int (u5.2.1 0), .int x3]) (rest := []) ⟨hx, hb, hml, hown, hts⟩ (c_X4_passCountingRight l D cI (a_t 0) a_t_0 u5.1 (0 : Int32) (u5.2.1 0) x3 _ h18) gX3_bestNights_X4_passCountingRight rfl rfl rfl hdX4_passCountingRight ⟨by decide, by decide⟩ hK hPc hDc 0 rfl rfl rfl hl.1 rfl (Nat.le_of_ble_eq_true rfl) dX3_bestNights_18 ⟨Nat.zero_le _, Nat.zero_le _⟩) hP hD hS hA [2, 3, 4, 5, 6, 7, 8] [0, 1, 9, 10, 11, 12, 13, 14, 15] [0, 1, 9, 10, 11, 12, 13, 14, 15, 2, 3, 4, 5, 6, 7, 8] (wr := gX3 o_t a_t cI S_t ++ gX4 o_p1 a_p1 cI u5.2) (wn := gX3 o_t a_t cI S_t ++ (gX4 (a_t 0) a_t_0 cI u18 ++ gX4 o_p1 a_p1 cI u5.2)) rfl rfl (by decide) (by decide) rfl (by decide) (fun H locs hP hD hS => ?_)
  have hP : va_P D vwCl (gX3 o_t a_t cI S_t ++ (gX4 (a_t 0) a_t_0 cI u18 ++ gX4 o_p1 a_p1 cI u5.2)) H := hP
  have hD : va_D A (gX3 o_t a_t cI S_t ++ (gX4 (a_t 0) a_t_0 cI u18 ++ gX4 o_p1 a_p1 cI u5.2)) := hD
  refine W.eq (g2 := F0 m 21 ls [.int r18]) rfl ?_
  refine lv_istore (lv' := [(4, .int r18), (0, .ref o_t), (1, .ref o_p1), (2, .int x2), (3, .int x3)]) hx hb dX3_bestNights_21 hl (by decide) rfl (fun ls hl => ?_)
  refine lv_bipush (v := (-9 : Int32)) hx hb dX3_bestNights_23 (by decide) ?_
  refine lv_istore (lv' := [(5, .int (-9 : Int32)), (4, .int r18), (0, .ref o_t), (1, .ref o_p1), (2, .int x2), (3, .int x3)]) hx hb dX3_bestNights_25 hl (by decide) rfl (fun ls hl => ?_)
  refine lv_iconst (v := (1 : Int32)) hx hb dX3_bestNights_27 (by decide) ?_
  refine lv_istore (lv' := [(6, .int (1 : Int32)), (5, .int (-9 : Int32)), (4, .int r18), (0, .ref o_t), (1, .ref o_p1), (2, .int x2), (3, .int x3)]) hx hb dX3_bestNights_28 hl (by decide) rfl (fun ls hl => ?_)
  exact j30 1000 S_t u18 u5.2 x2 x3 r18 (-9 : Int32) (1 : Int32) H locs ls hf hP hD hS (lv_sub hl [3, 4, 5, 6, 2, 1, 0] rfl)
abbrev rmX3_isAllHeardWithout : Room := { frames := 4, cells := 0, slots := 0, locals := 88 }
set_option maxHeartbeats 4000000 in
set_option maxRecDepth 100000 in
theorem c_X3_isAllHeardWithout (l : Launch) (D : va_G) (cI : ClassId) (o_t : Nat) (a_t : Nat → Nat) (a_t_0 : Nat → Nat) (o_p1 : Nat) (a_p1 : Nat → Nat) (S_t : G) (S_t_0 : G) (S_p1 : G) (x2 : Int32) (x3 : Int32) (out : Int32 × G × G × G) (hf : f_X3_isAllHeardWithout S_t S_t_0 S_p1 x2 x3 = some out) : Cn E0 l yX3_isAllHeardWithout wsX3_isAllHeardWithout rmX3_isAllHeardWithout D cI [.ref o_t, .ref o_p1, .int x2, .int x3] (gX3 o_t a_t cI S_t ++ (gX4 (a_t 0) a_t_0 cI S_t_0 ++ gX4 o_p1 a_p1 cI S_p1)) (some (.int out.1)) (gX3 o_t a_t cI out.2.1 ++ (gX4 (a_t 0) a_t_0 cI out.2.2.1 ++ gX4 o_p1 a_p1 cI out.2.2.2)) := by
  refine Cn.mk (cc := cX3_isAllHeardWithout) (maxL := 5) (ret := (some .boolean)) (by decide) rfl (Nat.le_of_ble_eq_true rfl) ?_
  intro p e s m below meth c A ls Q hx hb hml hown hts hK hA hP hD hS hl hr hlk hnm hE hQ
  have hown : s.vm.findClass RX3 = some m.cls := hown
  have hinX3 : ∀ w ∈ u_ws RX3 TX3 2, w ∈ wsX3_isAllHeardWithout := by decide +kernel
  have hinX4 : ∀ w ∈ u_ws RX4 TX4 10, w ∈ wsX3_isAllHeardWithout := by decide +kernel
  have j11 : ∀ (n11 : Nat) (S_t : G) (S_t_0 : G) (S_p1 : G) (l2 : Int32) (l3 : Int32) (l4 : Int32) (H : Heap) (locs : List Loc) (ls : Array Slot), f_X3_isAllHeardWithout_11 n11 S_t S_t_0 S_p1 l2 l3 l4 = some out → va_P D vwCl (gX3 o_t a_t cI S_t ++ (gX4 (a_t 0) a_t_0 cI S_t_0 ++ gX4 o_p1 a_p1 cI S_p1)) H → va_D A (gX3 o_t a_t cI S_t ++ (gX4 (a_t 0) a_t_0 cI S_t_0 ++ gX4 o_p1 a_p1 cI S_p1)) → va_S A s.heap H locs → lv_has ls 5 [(0, .ref o_t), (1, .ref o_p1), (2, .int l2), (3, .int l3), (4, .int l4)] → W p l e rmX3_isAllHeardWithout s m ([.ref o_t, .ref o_p1, .int x2, .int x3] : List Value).toArray below meth c H locs 0 0 Q (F0 m 11 ls []) := by
    intro n11
    induction n11 with
    | zero =>
      intro S_t S_t_0 S_p1 l2 l3 l4 H locs ls hf
      exact no_some hf
    | succ n11 ih11 =>
      intro S_t S_t_0 S_p1 l2 l3 l4 H locs ls hf hP hD hS hl
      replace hf : b_X3_isAllHeardWithout_11 (f_X3_isAllHeardWithout_11 n11) S_t S_t_0 S_p1 l2 l3 l4 = some out := hf
      unfold b_X3_isAllHeardWithout_11 at hf
      refine lv_iload hx hb dX3_isAllHeardWithout_11 (lv_at hl 4 rfl) ?_
      refine lv_aload_n hx hb dX3_isAllHeardWithout_13 rfl (lv_at hl 1 rfl) ?_
      refine va_get (D := D) (ci := 4) (v := .int (S_p1.1 3)) (C := RX4) (T := TX4) (N := 10) hx hb hts hinX4 hown hK hP 9 rfl rfl 3 (by decide) (hts (.fieldLink RX3 30 "OnlyStrangersHear$Town" "people" "I") (by decide +kernel)) (fun _ h9 => h9) rfl dX3_isAllHeardWithout_14 ?_
      refine lv_icmp_ge (tgt := 46) hx hb dX3_isAllHeardWithout_17 (by decide) (fun c17 => ?_) (fun c17 => ?_)
      · replace hf := it_t c17 hf
        refine lv_aload_n hx hb dX3_isAllHeardWithout_46 rfl (lv_at hl 0 rfl) ?_
        refine va_get (D := D) (ci := 3) (v := .ref (a_t 0)) (C := RX3) (T := TX3) (N := 2) hx hb hts hinX3 hown hK hP 0 rfl rfl 0 (by decide) (hts (.fieldLink RX3 12 "OnlyStrangersHear$Plans" "trial" "LOnlyStrangersHear$Town;") (by decide +kernel)) (fun _ h9 => h9) rfl dX3_isAllHeardWithout_47 ?_
        refine lv_iload_n hx hb dX3_isAllHeardWithout_50 rfl (lv_at hl 3 rfl) ?_
        obtain ⟨r51, u51, h51, hf⟩ := bd_some hf
        have hPc := hP.sub (ws' := gX4 (a_t 0) a_t_0 cI S_t_0) [2, 3, 4, 5, 6, 7, 8] rfl
        have hDc := hD.sub (ws' := gX4 (a_t 0) a_t_0 cI S_t_0) [2, 3, 4, 5, 6, 7, 8] (by decide) rfl
        refine calX (runV E0.b E0.n (As := [.int l3]) (rest := []) ⟨hx, hb, hml, hown, hts⟩ (c_X4_pass l D cI (a_t 0) a_t_0 S_t_0 l3 _ h51) gX3_isAllHeardWithout_X4_pass rfl rfl rfl hdX4_pass ⟨by decide, by decide⟩ hK hPc hDc 0 rfl rfl rfl hl.1 rfl (Nat.le_of_ble_eq_true rfl) dX3_isAllHeardWithout_51 ⟨Nat.zero_le _, Nat.zero_le _⟩) hP hD hS hA [2, 3, 4, 5, 6, 7, 8] [0, 1, 9, 10, 11, 12, 13, 14, 15] [0, 1, 9, 10, 11, 12, 13, 14, 15, 2, 3, 4, 5, 6, 7, 8] (wr := gX3 o_t a_t cI S_t ++ gX4 o_p1 a_p1 cI S_p1) (wn := gX3 o_t a_t cI S_t ++ (gX4 (a_t 0) a_t_0 cI u51 ++ gX4 o_p1 a_p1 cI S_p1)) rfl rfl (by decide) (by decide) rfl (by decide) (fun H locs hP hD hS => ?_)
        have hP : va_P D vwCl (gX3 o_t a_t cI S_t ++ (gX4 (a_t 0) a_t_0 cI u51 ++ gX4 o_p1 a_p1 cI S_p1)) H := hP
        have hD : va_D A (gX3 o_t a_t cI S_t ++ (gX4 (a_t 0) a_t_0 cI u51 ++ gX4 o_p1 a_p1 cI S_p1)) := hD
        refine W.eq (g2 := F0 m 54 ls []) rfl ?_
        refine lv_aload_n hx hb dX3_isAllHeardWithout_54 rfl (lv_at hl 0 rfl) ?_
        refine va_get (D := D) (ci := 3) (v := .ref (a_t 0)) (C := RX3) (T := TX3) (N := 2) hx hb hts hinX3 hown hK hP 0 rfl rfl 0 (by decide) (hts (.fieldLink RX3 12 "OnlyStrangersHear$Plans" "trial" "LOnlyStrangersHear$Town;") (by decide +kernel)) (fun _ h9 => h9) rfl dX3_isAllHeardWithout_55 ?_
        obtain ⟨r58, u58, h58, hf⟩ := bd_some hf
        have hPc := hP.sub (ws' := gX4 (a_t 0) a_t_0 cI u51) [2, 3, 4, 5, 6, 7, 8] rfl
        have hDc := hD.sub (ws' := gX4 (a_t 0) a_t_0 cI u51) [2, 3, 4, 5, 6, 7, 8] (by decide) rfl
        refine calX (runV E0.b E0.n (As := []) (rest := []) ⟨hx, hb, hml, hown, hts⟩ (c_X4_silentBells l D cI (a_t 0) a_t_0 u51 _ h58) gX3_isAllHeardWithout_X4_silentBells rfl rfl rfl hdX4_silentBells ⟨by decide, by decide⟩ hK hPc hDc 0 rfl rfl rfl hl.1 rfl (Nat.le_of_ble_eq_true rfl) dX3_isAllHeardWithout_58 ⟨Nat.zero_le _, Nat.zero_le _⟩) hP hD hS hA [2, 3, 4, 5, 6, 7, 8] [0, 1, 9, 10, 11, 12, 13, 14, 15] [0, 1, 9, 10, 11, 12, 13, 14, 15, 2, 3, 4, 5, 6, 7, 8] (wr := gX3 o_t a_t cI S_t ++ gX4 o_p1 a_p1 cI S_p1) (wn := gX3 o_t a_t cI S_t ++ (gX4 (a_t 0) a_t_0 cI u58 ++ gX4 o_p1 a_p1 cI S_p1)) rfl rfl (by decide) (by decide) rfl (by decide) (fun H locs hP hD hS => ?_)
        have hP : va_P D vwCl (gX3 o_t a_t cI S_t ++ (gX4 (a_t 0) a_t_0 cI u58 ++ gX4 o_p1 a_p1 cI S_p1)) H := hP
        have hD : va_D A (gX3 o_t a_t cI S_t ++ (gX4 (a_t 0) a_t_0 cI u58 ++ gX4 o_p1 a_p1 cI S_p1)) := hD
        refine W.eq (g2 := F0 m 61 ls [.int r58]) rfl ?_
        refine lv_if_ne (tgt := 68) hx hb dX3_isAllHeardWithout_61 (by decide) (fun c61 => ?_) (fun c61 => ?_)
        · replace hf := it_f c61 hf
          refine lv_iconst (v := (0 : Int32)) hx hb dX3_isAllHeardWithout_68 (by decide) ?_
          have e := so_some hf
          subst e
          exact rz hx hb hK hr hlk (Or.inl rfl) hQ dX3_isAllHeardWithout_69 hP hD hS
        · replace hf := it_t c61 hf
          refine lv_iconst (v := (1 : Int32)) hx hb dX3_isAllHeardWithout_64 (by decide) ?_
          refine lv_goto (tgt := 69) hx hb dX3_isAllHeardWithout_65 (by decide) ?_
          have e := so_some hf
          subst e
          exact rz hx hb hK hr hlk (Or.inr rfl) hQ dX3_isAllHeardWithout_69 hP hD hS
      · replace hf := it_f c17 hf
        refine lv_iload_n hx hb dX3_isAllHeardWithout_20 rfl (lv_at hl 2 rfl) ?_
        refine lv_iload hx hb dX3_isAllHeardWithout_21 (lv_at hl 4 rfl) ?_
        refine lv_ishr hx hb dX3_isAllHeardWithout_23 ?_
        refine lv_iconst (v := (1 : Int32)) hx hb dX3_isAllHeardWithout_24 (by decide) ?_
        refine lv_iand hx hb dX3_isAllHeardWithout_25 ?_
        refine lv_if_eq (tgt := 40) hx hb dX3_isAllHeardWithout_26 (by decide) (fun c26 => ?_) (fun c26 => ?_)
        · replace hf := it_t c26 hf
          refine lv_iinc (v := l4 + (1 : Int32)) (lv' := [(4, .int (l4 + (1 : Int32))), (0, .ref o_t), (1, .ref o_p1), (2, .int l2), (3, .int l3)]) hx hb dX3_isAllHeardWithout_40 hl (k := 4) rfl rfl (by decide) rfl (fun ls hl => ?_)
          refine lv_goto (tgt := 11) hx hb dX3_isAllHeardWithout_43 (by decide) ?_
          exact ih11 S_t S_t_0 S_p1 l2 l3 (l4 + (1 : Int32)) H locs ls hf hP hD hS (lv_sub hl [1, 2, 3, 4, 0] rfl)
        · replace hf := it_f c26 hf
          refine lv_aload_n hx hb dX3_isAllHeardWithout_29 rfl (lv_at hl 0 rfl) ?_
          refine va_get (D := D) (ci := 3) (v := .ref (a_t 0)) (C := RX3) (T := TX3) (N := 2) hx hb hts hinX3 hown hK hP 0 rfl rfl 0 (by decide) (hts (.fieldLink RX3 12 "OnlyStrangersHear$Plans" "trial" "LOnlyStrangersHear$Town;") (by decide +kernel)) (fun _ h9 => h9) rfl dX3_isAllHeardWithout_30 ?_
          refine va_get (D := D) (ci := 4) (v := .ref (a_t_0 7)) (C := RX4) (T := TX4) (N := 10) hx hb hts hinX4 hown hK hP 2 rfl rfl 7 (by decide) (hts (.fieldLink RX3 34 "OnlyStrangersHear$Town" "away" "[I") (by decide +kernel)) (fun _ h9 => h9) rfl dX3_isAllHeardWithout_33 ?_
          refine lv_iload hx hb dX3_isAllHeardWithout_36 (lv_at hl 4 rfl) ?_
          refine lv_iconst (v := (5 : Int32)) hx hb dX3_isAllHeardWithout_38 (by decide) ?_
          obtain ⟨b39, hf⟩ := ck_some hf
          refine va_iast hx hb hK hP hD hS 8 0 rfl rfl b39 dX3_isAllHeardWithout_39 (fun H locs hP hD hS => ?_)
          have hP : va_P D vwCl (gX3 o_t a_t cI S_t ++ (gX4 (a_t 0) a_t_0 cI (pA S_t_0 7 l4.toNatClampNeg (5 : Int32)) ++ gX4 o_p1 a_p1 cI S_p1)) H := hP
          have hD : va_D A (gX3 o_t a_t cI S_t ++ (gX4 (a_t 0) a_t_0 cI (pA S_t_0 7 l4.toNatClampNeg (5 : Int32)) ++ gX4 o_p1 a_p1 cI S_p1)) := hD
          obtain ⟨g39, e39, hf⟩ := lt_some hf
          rw [← e39] at hP hD
          refine lv_iinc (v := l4 + (1 : Int32)) (lv' := [(4, .int (l4 + (1 : Int32))), (0, .ref o_t), (1, .ref o_p1), (2, .int l2), (3, .int l3)]) hx hb dX3_isAllHeardWithout_40 hl (k := 4) rfl rfl (by decide) rfl (fun ls hl => ?_)
          refine lv_goto (tgt := 11) hx hb dX3_isAllHeardWithout_43 (by decide) ?_
          exact ih11 S_t g39 S_p1 l2 l3 (l4 + (1 : Int32)) H locs ls hf hP hD hS (lv_sub hl [1, 2, 3, 4, 0] rfl)
  unfold f_X3_isAllHeardWithout at hf
  have hl : lv_has ls 5 [(0, .ref o_t), (1, .ref o_p1), (2, .int x2), (3, .int x3)] := hl
  obtain ⟨H, hHe⟩ : ∃ H : Heap, H = s.heap := ⟨_, rfl⟩
  obtain ⟨locs, hle⟩ : ∃ q : List Loc, q = [] := ⟨_, rfl⟩
  have hS : va_S A s.heap H locs := by rw [hHe, hle]; exact hS
  rw [← hHe] at hP
  suffices hgo : W p l e rmX3_isAllHeardWithout s m ([.ref o_t, .ref o_p1, .int x2, .int x3] : List Value).toArray below meth c H locs 0 0 Q (F0 m 0 ls []) by rw [hHe, hle] at hgo; exact hgo
  clear hHe hle
  refine lv_aload_n hx hb dX3_isAllHeardWithout_0 rfl (lv_at hl 0 rfl) ?_
  refine va_get (D := D) (ci := 3) (v := .ref (a_t 0)) (C := RX3) (T := TX3) (N := 2) hx hb hts hinX3 hown hK hP 0 rfl rfl 0 (by decide) (hts (.fieldLink RX3 12 "OnlyStrangersHear$Plans" "trial" "LOnlyStrangersHear$Town;") (by decide +kernel)) (fun _ h9 => h9) rfl dX3_isAllHeardWithout_1 ?_
  refine lv_aload_n hx hb dX3_isAllHeardWithout_4 rfl (lv_at hl 1 rfl) ?_
  obtain ⟨r5, u5, h5, hf⟩ := bd_some hf
  have hPc := hP.sub (ws' := gX4 (a_t 0) a_t_0 cI S_t_0 ++ gX4 o_p1 a_p1 cI S_p1) [2, 3, 4, 5, 6, 7, 8, 9, 10, 11, 12, 13, 14, 15] rfl
  have hDc := hD.sub (ws' := gX4 (a_t 0) a_t_0 cI S_t_0 ++ gX4 o_p1 a_p1 cI S_p1) [2, 3, 4, 5, 6, 7, 8, 9, 10, 11, 12, 13, 14, 15] (by decide) rfl
  refine calX (runV E0.b E0.n (As := [.ref o_p1]) (rest := []) ⟨hx, hb, hml, hown, hts⟩ (c_X4_become l D cI (a_t 0) a_t_0 o_p1 a_p1 S_t_0 S_p1 _ h5) gX3_isAllHeardWithout_X4_become rfl rfl rfl hdX4_become ⟨by decide, by decide⟩ hK hPc hDc 0 rfl rfl rfl hl.1 rfl (Nat.le_of_ble_eq_true rfl) dX3_isAllHeardWithout_5 ⟨Nat.zero_le _, Nat.zero_le _⟩) hP hD hS hA [2, 3, 4, 5, 6, 7, 8, 9, 10, 11, 12, 13, 14, 15] [0, 1] [0, 1, 2, 3, 4, 5, 6, 7, 8, 9, 10, 11, 12, 13, 14, 15] (wr := gX3 o_t a_t cI S_t) (wn := gX3 o_t a_t cI S_t ++ (gX4 (a_t 0) a_t_0 cI u5.1 ++ gX4 o_p1 a_p1 cI u5.2)) rfl rfl (by decide) (by decide) rfl (by decide) (fun H locs hP hD hS => ?_)
  have hP : va_P D vwCl (gX3 o_t a_t cI S_t ++ (gX4 (a_t 0) a_t_0 cI u5.1 ++ gX4 o_p1 a_p1 cI u5.2)) H := hP
  have hD : va_D A (gX3 o_t a_t cI S_t ++ (gX4 (a_t 0) a_t_0 cI u5.1 ++ gX4 o_p1 a_p1 cI u5.2)) := hD
  refine W.eq (g2 := F0 m 8 ls []) rfl ?_
  refine lv_iconst (v := (0 : Int32)) hx hb dX3_isAllHeardWithout_8 (by decide) ?_
  refine lv_istore (lv' := [(4, .int (0 : Int32)), (0, .ref o_t), (1, .ref o_p1), (2, .int x2), (3, .int x3)]) hx hb dX3_isAllHeardWithout_9 hl (by decide) rfl (fun ls hl => ?_)
  exact j11 1000 S_t u5.1 u5.2 x2 x3 (0 : Int32) H locs ls hf hP hD hS (lv_sub hl [1, 2, 3, 4, 0] rfl)
abbrev rmX3_fewestToSend : Room := { frames := 5, cells := 0, slots := 0, locals := 112 }
set_option maxHeartbeats 4000000 in
set_option maxRecDepth 100000 in
theorem c_X3_fewestToSend (l : Launch) (D : va_G) (cI : ClassId) (o_t : Nat) (a_t : Nat → Nat) (a_t_0 : Nat → Nat) (o_p1 : Nat) (a_p1 : Nat → Nat) (S_t : G) (S_t_0 : G) (S_p1 : G) (x2 : Int32) (out : Int32 × G × G × G) (hf : f_X3_fewestToSend S_t S_t_0 S_p1 x2 = some out) : Cn E0 l yX3_fewestToSend wsX3_fewestToSend rmX3_fewestToSend D cI [.ref o_t, .ref o_p1, .int x2] (gX3 o_t a_t cI S_t ++ (gX4 (a_t 0) a_t_0 cI S_t_0 ++ gX4 o_p1 a_p1 cI S_p1)) (some (.int out.1)) (gX3 o_t a_t cI out.2.1 ++ (gX4 (a_t 0) a_t_0 cI out.2.2.1 ++ gX4 o_p1 a_p1 cI out.2.2.2)) := by
  refine Cn.mk (cc := cX3_fewestToSend) (maxL := 6) (ret := (some .int)) (by decide) rfl (Nat.le_of_ble_eq_true rfl) ?_
  intro p e s m below meth c A ls Q hx hb hml hown hts hK hA hP hD hS hl hr hlk hnm hE hQ
  have hown : s.vm.findClass RX3 = some m.cls := hown
  have hinX4 : ∀ w ∈ u_ws RX4 TX4 10, w ∈ wsX3_fewestToSend := by decide +kernel
  have j10 : ∀ (n10 : Nat) (S_t : G) (S_t_0 : G) (S_p1 : G) (l2 : Int32) (l3 : Int32) (l4 : Int32) (l5 : Int32) (H : Heap) (locs : List Loc) (ls : Array Slot), f_X3_fewestToSend_10 n10 S_t S_t_0 S_p1 l2 l3 l4 l5 = some out → va_P D vwCl (gX3 o_t a_t cI S_t ++ (gX4 (a_t 0) a_t_0 cI S_t_0 ++ gX4 o_p1 a_p1 cI S_p1)) H → va_D A (gX3 o_t a_t cI S_t ++ (gX4 (a_t 0) a_t_0 cI S_t_0 ++ gX4 o_p1 a_p1 cI S_p1)) → va_S A s.heap H locs → lv_has ls 6 [(0, .ref o_t), (1, .ref o_p1), (2, .int l2), (3, .int l3), (4, .int l4), (5, .int l5)] → W p l e rmX3_fewestToSend s m ([.ref o_t, .ref o_p1, .int x2] : List Value).toArray below meth c H locs 0 0 Q (F0 m 10 ls []) := by
    intro n10
    induction n10 with
    | zero =>
      intro S_t S_t_0 S_p1 l2 l3 l4 l5 H locs ls hf
      exact no_some hf
    | succ n10 ih10 =>
      intro S_t S_t_0 S_p1 l2 l3 l4 l5 H locs ls hf hP hD hS hl
      replace hf : b_X3_fewestToSend_10 (f_X3_fewestToSend_10 n10) S_t S_t_0 S_p1 l2 l3 l4 l5 = some out := hf
      unfold b_X3_fewestToSend_10 at hf
      refine lv_iload hx hb dX3_fewestToSend_10 (lv_at hl 5 rfl) ?_
      refine lv_iconst (v := (1 : Int32)) hx hb dX3_fewestToSend_12 (by decide) ?_
      refine lv_aload_n hx hb dX3_fewestToSend_13 rfl (lv_at hl 1 rfl) ?_
      refine va_get (D := D) (ci := 4) (v := .int (S_p1.1 3)) (C := RX4) (T := TX4) (N := 10) hx hb hts hinX4 hown hK hP 9 rfl rfl 3 (by decide) (hts (.fieldLink RX3 30 "OnlyStrangersHear$Town" "people" "I") (by decide +kernel)) (fun _ h9 => h9) rfl dX3_fewestToSend_14 ?_
      refine lv_ishl hx hb dX3_fewestToSend_17 ?_
      refine lv_icmp_ge (tgt := 58) hx hb dX3_fewestToSend_18 (by decide) (fun c18 => ?_) (fun c18 => ?_)
      · replace hf := it_t c18 hf
        refine lv_iload_n hx hb dX3_fewestToSend_58 rfl (lv_at hl 3 rfl) ?_
        have e := so_some hf
        subst e
        exact ri hx hb hK hr hlk hQ dX3_fewestToSend_59 hP hD hS
      · replace hf := it_f c18 hf
        refine lv_iload hx hb dX3_fewestToSend_21 (lv_at hl 5 rfl) ?_
        obtain ⟨r23, u23, h23, hf⟩ := bd_some hf
        have hPc : va_P D vwCl [] H := hP.sub (ws' := []) [] rfl
        have hDc : va_D A [] := hD.sub (ws' := []) [] (by decide) rfl
        refine calXe (runS E0.b E0.n (As := [.int l5]) (rest := []) ⟨hx, hb, hml, hown, hts⟩ (c_J6_bitCount_0f7a4 l D cI l5 _ h23) gX3_fewestToSend_J6_bitCount_0f7a4 rfl rfl rfl hdJ6_bitCount_0f7a4 ⟨by decide, by decide⟩ hK hPc hDc rfl hl.1 rfl (Nat.le_of_ble_eq_true rfl) dX3_fewestToSend_23 ⟨Nat.zero_le _, Nat.zero_le _⟩) hP hD hS hA (fun H locs hP hD hS => ?_)
        have hP : va_P D vwCl (gX3 o_t a_t cI S_t ++ (gX4 (a_t 0) a_t_0 cI S_t_0 ++ gX4 o_p1 a_p1 cI S_p1)) H := hP
        have hD : va_D A (gX3 o_t a_t cI S_t ++ (gX4 (a_t 0) a_t_0 cI S_t_0 ++ gX4 o_p1 a_p1 cI S_p1)) := hD
        refine W.eq (g2 := F0 m 26 ls [.int r23]) rfl ?_
        refine lv_iload hx hb dX3_fewestToSend_26 (lv_at hl 4 rfl) ?_
        refine lv_icmp_ge (tgt := 52) hx hb dX3_fewestToSend_28 (by decide) (fun c28 => ?_) (fun c28 => ?_)
        · replace hf := it_t c28 hf
          refine lv_iinc (v := l5 + (1 : Int32)) (lv' := [(5, .int (l5 + (1 : Int32))), (0, .ref o_t), (1, .ref o_p1), (2, .int l2), (3, .int l3), (4, .int l4)]) hx hb dX3_fewestToSend_52 hl (k := 5) rfl rfl (by decide) rfl (fun ls hl => ?_)
          refine lv_goto (tgt := 10) hx hb dX3_fewestToSend_55 (by decide) ?_
          exact ih10 S_t S_t_0 S_p1 l2 l3 l4 (l5 + (1 : Int32)) H locs ls hf hP hD hS (lv_sub hl [1, 2, 3, 4, 5, 0] rfl)
        · replace hf := it_f c28 hf
          refine lv_aload_n hx hb dX3_fewestToSend_31 rfl (lv_at hl 0 rfl) ?_
          refine lv_aload_n hx hb dX3_fewestToSend_32 rfl (lv_at hl 1 rfl) ?_
          refine lv_iload hx hb dX3_fewestToSend_33 (lv_at hl 5 rfl) ?_
          refine lv_iload_n hx hb dX3_fewestToSend_35 rfl (lv_at hl 2 rfl) ?_
          obtain ⟨r36, u36, h36, hf⟩ := bd_some hf
          refine calX0 (runV E0.b E0.n (As := [.ref o_p1, .int l5, .int l2]) (rest := []) ⟨hx, hb, hml, hown, hts⟩ (c_X3_isAllHeardWithout l D cI o_t a_t a_t_0 o_p1 a_p1 S_t S_t_0 S_p1 l5 l2 _ h36) gX3_fewestToSend_X3_isAllHeardWithout rfl rfl rfl hdX3_isAllHeardWithout ⟨by decide, by decide⟩ hK hP hD 0 rfl rfl rfl hl.1 rfl (Nat.le_of_ble_eq_true rfl) dX3_fewestToSend_36 ⟨Nat.zero_le _, Nat.zero_le _⟩) hD hS hA (fun H locs hP hD hS => ?_)
          have hP : va_P D vwCl (gX3 o_t a_t cI u36.1 ++ (gX4 (a_t 0) a_t_0 cI u36.2.1 ++ gX4 o_p1 a_p1 cI u36.2.2)) H := hP
          have hD : va_D A (gX3 o_t a_t cI u36.1 ++ (gX4 (a_t 0) a_t_0 cI u36.2.1 ++ gX4 o_p1 a_p1 cI u36.2.2)) := hD
          refine W.eq (g2 := F0 m 39 ls [.int r36]) rfl ?_
          refine lv_if_eq (tgt := 52) hx hb dX3_fewestToSend_39 (by decide) (fun c39 => ?_) (fun c39 => ?_)
          · replace hf := it_t c39 hf
            refine lv_iinc (v := l5 + (1 : Int32)) (lv' := [(5, .int (l5 + (1 : Int32))), (0, .ref o_t), (1, .ref o_p1), (2, .int l2), (3, .int l3), (4, .int l4)]) hx hb dX3_fewestToSend_52 hl (k := 5) rfl rfl (by decide) rfl (fun ls hl => ?_)
            refine lv_goto (tgt := 10) hx hb dX3_fewestToSend_55 (by decide) ?_
            exact ih10 u36.1 u36.2.1 u36.2.2 l2 l3 l4 (l5 + (1 : Int32)) H locs ls hf hP hD hS (lv_sub hl [1, 2, 3, 4, 5, 0] rfl)
          · replace hf := it_f c39 hf
            refine lv_iload hx hb dX3_fewestToSend_42 (lv_at hl 5 rfl) ?_
            obtain ⟨r44, u44, h44, hf⟩ := bd_some hf
            have hPc : va_P D vwCl [] H := hP.sub (ws' := []) [] rfl
            have hDc : va_D A [] := hD.sub (ws' := []) [] (by decide) rfl
            refine calXe (runS E0.b E0.n (As := [.int l5]) (rest := []) ⟨hx, hb, hml, hown, hts⟩ (c_J6_bitCount_0f7a4 l D cI l5 _ h44) gX3_fewestToSend_J6_bitCount_0f7a4 rfl rfl rfl hdJ6_bitCount_0f7a4 ⟨by decide, by decide⟩ hK hPc hDc rfl hl.1 rfl (Nat.le_of_ble_eq_true rfl) dX3_fewestToSend_44 ⟨Nat.zero_le _, Nat.zero_le _⟩) hP hD hS hA (fun H locs hP hD hS => ?_)
            have hP : va_P D vwCl (gX3 o_t a_t cI u36.1 ++ (gX4 (a_t 0) a_t_0 cI u36.2.1 ++ gX4 o_p1 a_p1 cI u36.2.2)) H := hP
            have hD : va_D A (gX3 o_t a_t cI u36.1 ++ (gX4 (a_t 0) a_t_0 cI u36.2.1 ++ gX4 o_p1 a_p1 cI u36.2.2)) := hD
            refine W.eq (g2 := F0 m 47 ls [.int r44]) rfl ?_
            refine lv_istore (lv' := [(4, .int r44), (0, .ref o_t), (1, .ref o_p1), (2, .int l2), (3, .int l3), (5, .int l5)]) hx hb dX3_fewestToSend_47 hl (by decide) rfl (fun ls hl => ?_)
            refine lv_iload hx hb dX3_fewestToSend_49 (lv_at hl 5 rfl) ?_
            refine lv_istore_n (lv' := [(3, .int l5), (4, .int r44), (0, .ref o_t), (1, .ref o_p1), (2, .int l2), (5, .int l5)]) hx hb dX3_fewestToSend_51 rfl hl (by decide) rfl (fun ls hl => ?_)
            refine lv_iinc (v := l5 + (1 : Int32)) (lv' := [(5, .int (l5 + (1 : Int32))), (3, .int l5), (4, .int r44), (0, .ref o_t), (1, .ref o_p1), (2, .int l2)]) hx hb dX3_fewestToSend_52 hl (k := 5) rfl rfl (by decide) rfl (fun ls hl => ?_)
            refine lv_goto (tgt := 10) hx hb dX3_fewestToSend_55 (by decide) ?_
            exact ih10 u36.1 u36.2.1 u36.2.2 l2 l5 r44 (l5 + (1 : Int32)) H locs ls hf hP hD hS (lv_sub hl [3, 4, 5, 1, 2, 0] rfl)
  unfold f_X3_fewestToSend at hf
  have hl : lv_has ls 6 [(0, .ref o_t), (1, .ref o_p1), (2, .int x2)] := hl
  obtain ⟨H, hHe⟩ : ∃ H : Heap, H = s.heap := ⟨_, rfl⟩
  obtain ⟨locs, hle⟩ : ∃ q : List Loc, q = [] := ⟨_, rfl⟩
  have hS : va_S A s.heap H locs := by rw [hHe, hle]; exact hS
  rw [← hHe] at hP
  suffices hgo : W p l e rmX3_fewestToSend s m ([.ref o_t, .ref o_p1, .int x2] : List Value).toArray below meth c H locs 0 0 Q (F0 m 0 ls []) by rw [hHe, hle] at hgo; exact hgo
  clear hHe hle
  refine lv_bipush (v := (-9 : Int32)) hx hb dX3_fewestToSend_0 (by decide) ?_
  refine lv_istore_n (lv' := [(3, .int (-9 : Int32)), (0, .ref o_t), (1, .ref o_p1), (2, .int x2)]) hx hb dX3_fewestToSend_2 rfl hl (by decide) rfl (fun ls hl => ?_)
  refine lv_bipush (v := (9 : Int32)) hx hb dX3_fewestToSend_3 (by decide) ?_
  refine lv_istore (lv' := [(4, .int (9 : Int32)), (3, .int (-9 : Int32)), (0, .ref o_t), (1, .ref o_p1), (2, .int x2)]) hx hb dX3_fewestToSend_5 hl (by decide) rfl (fun ls hl => ?_)
  refine lv_iconst (v := (0 : Int32)) hx hb dX3_fewestToSend_7 (by decide) ?_
  refine lv_istore (lv' := [(5, .int (0 : Int32)), (4, .int (9 : Int32)), (3, .int (-9 : Int32)), (0, .ref o_t), (1, .ref o_p1), (2, .int x2)]) hx hb dX3_fewestToSend_8 hl (by decide) rfl (fun ls hl => ?_)
  exact j10 1000 S_t S_t_0 S_p1 x2 (-9 : Int32) (9 : Int32) (0 : Int32) H locs ls hf hP hD hS (lv_sub hl [3, 4, 5, 2, 1, 0] rfl)
abbrev rmX3_fewestBeds : Room := { frames := 4, cells := 0, slots := 0, locals := 88 }
set_option maxHeartbeats 4000000 in
set_option maxRecDepth 100000 in
theorem c_X3_fewestBeds (l : Launch) (D : va_G) (cI : ClassId) (o_t : Nat) (a_t : Nat → Nat) (a_t_0 : Nat → Nat) (o_p1 : Nat) (a_p1 : Nat → Nat) (S_t : G) (S_t_0 : G) (S_p1 : G) (x2 : Int32) (out : Int32 × G × G × G) (hf : f_X3_fewestBeds S_t S_t_0 S_p1 x2 = some out) : Cn E0 l yX3_fewestBeds wsX3_fewestBeds rmX3_fewestBeds D cI [.ref o_t, .ref o_p1, .int x2] (gX3 o_t a_t cI S_t ++ (gX4 (a_t 0) a_t_0 cI S_t_0 ++ gX4 o_p1 a_p1 cI S_p1)) (some (.int out.1)) (gX3 o_t a_t cI out.2.1 ++ (gX4 (a_t 0) a_t_0 cI out.2.2.1 ++ gX4 o_p1 a_p1 cI out.2.2.2)) := by
  refine Cn.mk (cc := cX3_fewestBeds) (maxL := 4) (ret := (some .int)) (by decide) rfl (Nat.le_of_ble_eq_true rfl) ?_
  intro p e s m below meth c A ls Q hx hb hml hown hts hK hA hP hD hS hl hr hlk hnm hE hQ
  have hown : s.vm.findClass RX3 = some m.cls := hown
  have hinX3 : ∀ w ∈ u_ws RX3 TX3 2, w ∈ wsX3_fewestBeds := by decide +kernel
  have hinX4 : ∀ w ∈ u_ws RX4 TX4 10, w ∈ wsX3_fewestBeds := by decide +kernel
  have j2 : ∀ (n2 : Nat) (S_t : G) (S_t_0 : G) (S_p1 : G) (l2 : Int32) (l3 : Int32) (H : Heap) (locs : List Loc) (ls : Array Slot), f_X3_fewestBeds_2 n2 S_t S_t_0 S_p1 l2 l3 = some out → va_P D vwCl (gX3 o_t a_t cI S_t ++ (gX4 (a_t 0) a_t_0 cI S_t_0 ++ gX4 o_p1 a_p1 cI S_p1)) H → va_D A (gX3 o_t a_t cI S_t ++ (gX4 (a_t 0) a_t_0 cI S_t_0 ++ gX4 o_p1 a_p1 cI S_p1)) → va_S A s.heap H locs → lv_has ls 4 [(0, .ref o_t), (1, .ref o_p1), (2, .int l2), (3, .int l3)] → W p l e rmX3_fewestBeds s m ([.ref o_t, .ref o_p1, .int x2] : List Value).toArray below meth c H locs 0 0 Q (F0 m 2 ls []) := by
    intro n2
    induction n2 with
    | zero =>
      intro S_t S_t_0 S_p1 l2 l3 H locs ls hf
      exact no_some hf
    | succ n2 ih2 =>
      intro S_t S_t_0 S_p1 l2 l3 H locs ls hf hP hD hS hl
      replace hf : b_X3_fewestBeds_2 (f_X3_fewestBeds_2 n2) S_t S_t_0 S_p1 l2 l3 = some out := hf
      unfold b_X3_fewestBeds_2 at hf
      refine lv_iload_n hx hb dX3_fewestBeds_2 rfl (lv_at hl 3 rfl) ?_
      refine lv_bipush (v := (8 : Int32)) hx hb dX3_fewestBeds_3 (by decide) ?_
      refine lv_icmp_gt (tgt := 50) hx hb dX3_fewestBeds_5 (by decide) (fun c5 => ?_) (fun c5 => ?_)
      · replace hf := it_t c5 hf
        refine lv_bipush (v := (-9 : Int32)) hx hb dX3_fewestBeds_50 (by decide) ?_
        have e := so_some hf
        subst e
        exact ri hx hb hK hr hlk hQ dX3_fewestBeds_52 hP hD hS
      · replace hf := it_f c5 hf
        refine lv_aload_n hx hb dX3_fewestBeds_8 rfl (lv_at hl 0 rfl) ?_
        refine va_get (D := D) (ci := 3) (v := .ref (a_t 0)) (C := RX3) (T := TX3) (N := 2) hx hb hts hinX3 hown hK hP 0 rfl rfl 0 (by decide) (hts (.fieldLink RX3 12 "OnlyStrangersHear$Plans" "trial" "LOnlyStrangersHear$Town;") (by decide +kernel)) (fun _ h9 => h9) rfl dX3_fewestBeds_9 ?_
        refine lv_aload_n hx hb dX3_fewestBeds_12 rfl (lv_at hl 1 rfl) ?_
        obtain ⟨r13, u13, h13, hf⟩ := bd_some hf
        have hPc := hP.sub (ws' := gX4 (a_t 0) a_t_0 cI S_t_0 ++ gX4 o_p1 a_p1 cI S_p1) [2, 3, 4, 5, 6, 7, 8, 9, 10, 11, 12, 13, 14, 15] rfl
        have hDc := hD.sub (ws' := gX4 (a_t 0) a_t_0 cI S_t_0 ++ gX4 o_p1 a_p1 cI S_p1) [2, 3, 4, 5, 6, 7, 8, 9, 10, 11, 12, 13, 14, 15] (by decide) rfl
        refine calX (runV E0.b E0.n (As := [.ref o_p1]) (rest := []) ⟨hx, hb, hml, hown, hts⟩ (c_X4_become l D cI (a_t 0) a_t_0 o_p1 a_p1 S_t_0 S_p1 _ h13) gX3_fewestBeds_X4_become rfl rfl rfl hdX4_become ⟨by decide, by decide⟩ hK hPc hDc 0 rfl rfl rfl hl.1 rfl (Nat.le_of_ble_eq_true rfl) dX3_fewestBeds_13 ⟨Nat.zero_le _, Nat.zero_le _⟩) hP hD hS hA [2, 3, 4, 5, 6, 7, 8, 9, 10, 11, 12, 13, 14, 15] [0, 1] [0, 1, 2, 3, 4, 5, 6, 7, 8, 9, 10, 11, 12, 13, 14, 15] (wr := gX3 o_t a_t cI S_t) (wn := gX3 o_t a_t cI S_t ++ (gX4 (a_t 0) a_t_0 cI u13.1 ++ gX4 o_p1 a_p1 cI u13.2)) rfl rfl (by decide) (by decide) rfl (by decide) (fun H locs hP hD hS => ?_)
        have hP : va_P D vwCl (gX3 o_t a_t cI S_t ++ (gX4 (a_t 0) a_t_0 cI u13.1 ++ gX4 o_p1 a_p1 cI u13.2)) H := hP
        have hD : va_D A (gX3 o_t a_t cI S_t ++ (gX4 (a_t 0) a_t_0 cI u13.1 ++ gX4 o_p1 a_p1 cI u13.2)) := hD
        refine W.eq (g2 := F0 m 16 ls []) rfl ?_
        refine lv_aload_n hx hb dX3_fewestBeds_16 rfl (lv_at hl 0 rfl) ?_
        refine va_get (D := D) (ci := 3) (v := .ref (a_t 0)) (C := RX3) (T := TX3) (N := 2) hx hb hts hinX3 hown hK hP 0 rfl rfl 0 (by decide) (hts (.fieldLink RX3 12 "OnlyStrangersHear$Plans" "trial" "LOnlyStrangersHear$Town;") (by decide +kernel)) (fun _ h9 => h9) rfl dX3_fewestBeds_17 ?_
        refine lv_iload_n hx hb dX3_fewestBeds_20 rfl (lv_at hl 3 rfl) ?_
        refine va_put (D := D) (ci := 4) (v := .int l3) (ty := .int) (C := RX4) (T := TX4) (N := 10) hx hb hts hinX4 tyX4 tyX4_ok nmX4 hown hK hP hD hS 2 rfl rfl 9 (by decide) (hts (.fieldLink RX3 58 "OnlyStrangersHear$Town" "bedCount" "I") (by decide +kernel)) (fun _ h9 => h9) rfl (by decide +kernel) rfl rfl (Nat.le_of_ble_eq_true rfl) dX3_fewestBeds_21 (fun H locs hP hD hS => ?_)
        have hP : va_P D vwCl (gX3 o_t a_t cI S_t ++ (gX4 (a_t 0) a_t_0 cI (pF u13.1 9 l3) ++ gX4 o_p1 a_p1 cI u13.2)) H := hP
        have hD : va_D A (gX3 o_t a_t cI S_t ++ (gX4 (a_t 0) a_t_0 cI (pF u13.1 9 l3) ++ gX4 o_p1 a_p1 cI u13.2)) := hD
        obtain ⟨g21, e21, hf⟩ := lt_some hf
        rw [← e21] at hP hD
        refine lv_aload_n hx hb dX3_fewestBeds_24 rfl (lv_at hl 0 rfl) ?_
        refine va_get (D := D) (ci := 3) (v := .ref (a_t 0)) (C := RX3) (T := TX3) (N := 2) hx hb hts hinX3 hown hK hP 0 rfl rfl 0 (by decide) (hts (.fieldLink RX3 12 "OnlyStrangersHear$Plans" "trial" "LOnlyStrangersHear$Town;") (by decide +kernel)) (fun _ h9 => h9) rfl dX3_fewestBeds_25 ?_
        refine lv_iload_n hx hb dX3_fewestBeds_28 rfl (lv_at hl 2 rfl) ?_
        obtain ⟨r29, u29, h29, hf⟩ := bd_some hf
        have hPc := hP.sub (ws' := gX4 (a_t 0) a_t_0 cI g21) [2, 3, 4, 5, 6, 7, 8] rfl
        have hDc := hD.sub (ws' := gX4 (a_t 0) a_t_0 cI g21) [2, 3, 4, 5, 6, 7, 8] (by decide) rfl
        refine calX (runV E0.b E0.n (As := [.int l2]) (rest := []) ⟨hx, hb, hml, hown, hts⟩ (c_X4_pass l D cI (a_t 0) a_t_0 g21 l2 _ h29) gX3_fewestBeds_X4_pass rfl rfl rfl hdX4_pass ⟨by decide, by decide⟩ hK hPc hDc 0 rfl rfl rfl hl.1 rfl (Nat.le_of_ble_eq_true rfl) dX3_fewestBeds_29 ⟨Nat.zero_le _, Nat.zero_le _⟩) hP hD hS hA [2, 3, 4, 5, 6, 7, 8] [0, 1, 9, 10, 11, 12, 13, 14, 15] [0, 1, 9, 10, 11, 12, 13, 14, 15, 2, 3, 4, 5, 6, 7, 8] (wr := gX3 o_t a_t cI S_t ++ gX4 o_p1 a_p1 cI u13.2) (wn := gX3 o_t a_t cI S_t ++ (gX4 (a_t 0) a_t_0 cI u29 ++ gX4 o_p1 a_p1 cI u13.2)) rfl rfl (by decide) (by decide) rfl (by decide) (fun H locs hP hD hS => ?_)
        have hP : va_P D vwCl (gX3 o_t a_t cI S_t ++ (gX4 (a_t 0) a_t_0 cI u29 ++ gX4 o_p1 a_p1 cI u13.2)) H := hP
        have hD : va_D A (gX3 o_t a_t cI S_t ++ (gX4 (a_t 0) a_t_0 cI u29 ++ gX4 o_p1 a_p1 cI u13.2)) := hD
        refine W.eq (g2 := F0 m 32 ls []) rfl ?_
        refine lv_aload_n hx hb dX3_fewestBeds_32 rfl (lv_at hl 0 rfl) ?_
        refine va_get (D := D) (ci := 3) (v := .ref (a_t 0)) (C := RX3) (T := TX3) (N := 2) hx hb hts hinX3 hown hK hP 0 rfl rfl 0 (by decide) (hts (.fieldLink RX3 12 "OnlyStrangersHear$Plans" "trial" "LOnlyStrangersHear$Town;") (by decide +kernel)) (fun _ h9 => h9) rfl dX3_fewestBeds_33 ?_
        obtain ⟨r36, u36, h36, hf⟩ := bd_some hf
        have hPc := hP.sub (ws' := gX4 (a_t 0) a_t_0 cI u29) [2, 3, 4, 5, 6, 7, 8] rfl
        have hDc := hD.sub (ws' := gX4 (a_t 0) a_t_0 cI u29) [2, 3, 4, 5, 6, 7, 8] (by decide) rfl
        refine calX (runV E0.b E0.n (As := []) (rest := []) ⟨hx, hb, hml, hown, hts⟩ (c_X4_silentBells l D cI (a_t 0) a_t_0 u29 _ h36) gX3_fewestBeds_X4_silentBells rfl rfl rfl hdX4_silentBells ⟨by decide, by decide⟩ hK hPc hDc 0 rfl rfl rfl hl.1 rfl (Nat.le_of_ble_eq_true rfl) dX3_fewestBeds_36 ⟨Nat.zero_le _, Nat.zero_le _⟩) hP hD hS hA [2, 3, 4, 5, 6, 7, 8] [0, 1, 9, 10, 11, 12, 13, 14, 15] [0, 1, 9, 10, 11, 12, 13, 14, 15, 2, 3, 4, 5, 6, 7, 8] (wr := gX3 o_t a_t cI S_t ++ gX4 o_p1 a_p1 cI u13.2) (wn := gX3 o_t a_t cI S_t ++ (gX4 (a_t 0) a_t_0 cI u36 ++ gX4 o_p1 a_p1 cI u13.2)) rfl rfl (by decide) (by decide) rfl (by decide) (fun H locs hP hD hS => ?_)
        have hP : va_P D vwCl (gX3 o_t a_t cI S_t ++ (gX4 (a_t 0) a_t_0 cI u36 ++ gX4 o_p1 a_p1 cI u13.2)) H := hP
        have hD : va_D A (gX3 o_t a_t cI S_t ++ (gX4 (a_t 0) a_t_0 cI u36 ++ gX4 o_p1 a_p1 cI u13.2)) := hD
        refine W.eq (g2 := F0 m 39 ls [.int r36]) rfl ?_
        refine lv_if_ne (tgt := 44) hx hb dX3_fewestBeds_39 (by decide) (fun c39 => ?_) (fun c39 => ?_)
        · replace hf := it_f c39 hf
          refine lv_iinc (v := l3 + (1 : Int32)) (lv' := [(3, .int (l3 + (1 : Int32))), (0, .ref o_t), (1, .ref o_p1), (2, .int l2)]) hx hb dX3_fewestBeds_44 hl (k := 3) rfl rfl (by decide) rfl (fun ls hl => ?_)
          refine lv_goto (tgt := 2) hx hb dX3_fewestBeds_47 (by decide) ?_
          exact ih2 S_t u36 u13.2 l2 (l3 + (1 : Int32)) H locs ls hf hP hD hS (lv_sub hl [1, 2, 3, 0] rfl)
        · replace hf := it_t c39 hf
          refine lv_iload_n hx hb dX3_fewestBeds_42 rfl (lv_at hl 3 rfl) ?_
          have e := so_some hf
          subst e
          exact ri hx hb hK hr hlk hQ dX3_fewestBeds_43 hP hD hS
  unfold f_X3_fewestBeds at hf
  have hl : lv_has ls 4 [(0, .ref o_t), (1, .ref o_p1), (2, .int x2)] := hl
  obtain ⟨H, hHe⟩ : ∃ H : Heap, H = s.heap := ⟨_, rfl⟩
  obtain ⟨locs, hle⟩ : ∃ q : List Loc, q = [] := ⟨_, rfl⟩
  have hS : va_S A s.heap H locs := by rw [hHe, hle]; exact hS
  rw [← hHe] at hP
  suffices hgo : W p l e rmX3_fewestBeds s m ([.ref o_t, .ref o_p1, .int x2] : List Value).toArray below meth c H locs 0 0 Q (F0 m 0 ls []) by rw [hHe, hle] at hgo; exact hgo
  clear hHe hle
  refine lv_iconst (v := (1 : Int32)) hx hb dX3_fewestBeds_0 (by decide) ?_
  refine lv_istore_n (lv' := [(3, .int (1 : Int32)), (0, .ref o_t), (1, .ref o_p1), (2, .int x2)]) hx hb dX3_fewestBeds_1 rfl hl (by decide) rfl (fun ls hl => ?_)
  exact j2 1000 S_t S_t_0 S_p1 x2 (1 : Int32) H locs ls hf hP hD hS (lv_sub hl [1, 2, 3, 0] rfl)
abbrev rmX3_daysHeard : Room := { frames := 3, cells := 0, slots := 0, locals := 68 }
set_option maxHeartbeats 4000000 in
set_option maxRecDepth 100000 in
theorem c_X3_daysHeard (l : Launch) (D : va_G) (cI : ClassId) (o_t : Nat) (a_t : Nat → Nat) (a_t_0 : Nat → Nat) (S_t : G) (S_t_0 : G) (x1 : Int32) (x2 : Int32) (out : Int32 × G × G) (hf : f_X3_daysHeard S_t S_t_0 x1 x2 = some out) : Cn E0 l yX3_daysHeard wsX3_daysHeard rmX3_daysHeard D cI [.ref o_t, .int x1, .int x2] (gX3 o_t a_t cI S_t ++ gX4 (a_t 0) a_t_0 cI S_t_0) (some (.int out.1)) (gX3 o_t a_t cI out.2.1 ++ gX4 (a_t 0) a_t_0 cI out.2.2) := by
  refine Cn.mk (cc := cX3_daysHeard) (maxL := 5) (ret := (some .int)) (by decide) rfl (Nat.le_of_ble_eq_true rfl) ?_
  intro p e s m below meth c A ls Q hx hb hml hown hts hK hA hP hD hS hl hr hlk hnm hE hQ
  have hown : s.vm.findClass RX3 = some m.cls := hown
  have hinX3 : ∀ w ∈ u_ws RX3 TX3 2, w ∈ wsX3_daysHeard := by decide +kernel
  have j5 : ∀ (n5 : Nat) (S_t : G) (S_t_0 : G) (l1 : Int32) (l2 : Int32) (l3 : Int32) (l4 : Int32) (H : Heap) (locs : List Loc) (ls : Array Slot), f_X3_daysHeard_5 n5 S_t S_t_0 l1 l2 l3 l4 = some out → va_P D vwCl (gX3 o_t a_t cI S_t ++ gX4 (a_t 0) a_t_0 cI S_t_0) H → va_D A (gX3 o_t a_t cI S_t ++ gX4 (a_t 0) a_t_0 cI S_t_0) → va_S A s.heap H locs → lv_has ls 5 [(0, .ref o_t), (1, .int l1), (2, .int l2), (3, .int l3), (4, .int l4)] → W p l e rmX3_daysHeard s m ([.ref o_t, .int x1, .int x2] : List Value).toArray below meth c H locs 0 0 Q (F0 m 5 ls []) := by
    intro n5
    induction n5 with
    | zero =>
      intro S_t S_t_0 l1 l2 l3 l4 H locs ls hf
      exact no_some hf
    | succ n5 ih5 =>
      intro S_t S_t_0 l1 l2 l3 l4 H locs ls hf hP hD hS hl
      replace hf : b_X3_daysHeard_5 (f_X3_daysHeard_5 n5) S_t S_t_0 l1 l2 l3 l4 = some out := hf
      unfold b_X3_daysHeard_5 at hf
      refine lv_iload hx hb dX3_daysHeard_5 (lv_at hl 4 rfl) ?_
      refine lv_bipush (v := (20 : Int32)) hx hb dX3_daysHeard_7 (by decide) ?_
      refine lv_icmp_gt (tgt := 41) hx hb dX3_daysHeard_9 (by decide) (fun c9 => ?_) (fun c9 => ?_)
      · replace hf := it_t c9 hf
        refine lv_iload_n hx hb dX3_daysHeard_41 rfl (lv_at hl 3 rfl) ?_
        have e := so_some hf
        subst e
        exact ri hx hb hK hr hlk hQ dX3_daysHeard_42 hP hD hS
      · replace hf := it_f c9 hf
        refine lv_aload_n hx hb dX3_daysHeard_12 rfl (lv_at hl 0 rfl) ?_
        refine va_get (D := D) (ci := 3) (v := .ref (a_t 0)) (C := RX3) (T := TX3) (N := 2) hx hb hts hinX3 hown hK hP 0 rfl rfl 0 (by decide) (hts (.fieldLink RX3 12 "OnlyStrangersHear$Plans" "trial" "LOnlyStrangersHear$Town;") (by decide +kernel)) (fun _ h9 => h9) rfl dX3_daysHeard_13 ?_
        refine lv_iconst (v := (1 : Int32)) hx hb dX3_daysHeard_16 (by decide) ?_
        obtain ⟨r17, u17, h17, hf⟩ := bd_some hf
        have hPc := hP.sub (ws' := gX4 (a_t 0) a_t_0 cI S_t_0) [2, 3, 4, 5, 6, 7, 8] rfl
        have hDc := hD.sub (ws' := gX4 (a_t 0) a_t_0 cI S_t_0) [2, 3, 4, 5, 6, 7, 8] (by decide) rfl
        refine calX (runV E0.b E0.n (As := [.int (1 : Int32)]) (rest := []) ⟨hx, hb, hml, hown, hts⟩ (c_X4_pass l D cI (a_t 0) a_t_0 S_t_0 (1 : Int32) _ h17) gX3_daysHeard_X4_pass rfl rfl rfl hdX4_pass ⟨by decide, by decide⟩ hK hPc hDc 0 rfl rfl rfl hl.1 rfl (Nat.le_of_ble_eq_true rfl) dX3_daysHeard_17 ⟨Nat.zero_le _, Nat.zero_le _⟩) hP hD hS hA [2, 3, 4, 5, 6, 7, 8] [0, 1] [0, 1, 2, 3, 4, 5, 6, 7, 8] (wr := gX3 o_t a_t cI S_t) (wn := gX3 o_t a_t cI S_t ++ gX4 (a_t 0) a_t_0 cI u17) rfl rfl (by decide) (by decide) rfl (by decide) (fun H locs hP hD hS => ?_)
        have hP : va_P D vwCl (gX3 o_t a_t cI S_t ++ gX4 (a_t 0) a_t_0 cI u17) H := hP
        have hD : va_D A (gX3 o_t a_t cI S_t ++ gX4 (a_t 0) a_t_0 cI u17) := hD
        refine W.eq (g2 := F0 m 20 ls []) rfl ?_
        refine lv_aload_n hx hb dX3_daysHeard_20 rfl (lv_at hl 0 rfl) ?_
        refine va_get (D := D) (ci := 3) (v := .ref (a_t 0)) (C := RX3) (T := TX3) (N := 2) hx hb hts hinX3 hown hK hP 0 rfl rfl 0 (by decide) (hts (.fieldLink RX3 12 "OnlyStrangersHear$Plans" "trial" "LOnlyStrangersHear$Town;") (by decide +kernel)) (fun _ h9 => h9) rfl dX3_daysHeard_21 ?_
        refine lv_iload_n hx hb dX3_daysHeard_24 rfl (lv_at hl 1 rfl) ?_
        refine lv_iload_n hx hb dX3_daysHeard_25 rfl (lv_at hl 2 rfl) ?_
        obtain ⟨r26, u26, h26, hf⟩ := bd_some hf
        have hPc := hP.sub (ws' := gX4 (a_t 0) a_t_0 cI u17) [2, 3, 4, 5, 6, 7, 8] rfl
        have hDc := hD.sub (ws' := gX4 (a_t 0) a_t_0 cI u17) [2, 3, 4, 5, 6, 7, 8] (by decide) rfl
        refine calX (runV E0.b E0.n (As := [.int l1, .int l2]) (rest := []) ⟨hx, hb, hml, hown, hts⟩ (c_X4_hearsIt l D cI (a_t 0) a_t_0 u17 l1 l2 _ h26) gX3_daysHeard_X4_hearsIt rfl rfl rfl hdX4_hearsIt ⟨by decide, by decide⟩ hK hPc hDc 0 rfl rfl rfl hl.1 rfl (Nat.le_of_ble_eq_true rfl) dX3_daysHeard_26 ⟨Nat.zero_le _, Nat.zero_le _⟩) hP hD hS hA [2, 3, 4, 5, 6, 7, 8] [0, 1] [0, 1, 2, 3, 4, 5, 6, 7, 8] (wr := gX3 o_t a_t cI S_t) (wn := gX3 o_t a_t cI S_t ++ gX4 (a_t 0) a_t_0 cI u26) rfl rfl (by decide) (by decide) rfl (by decide) (fun H locs hP hD hS => ?_)
        have hP : va_P D vwCl (gX3 o_t a_t cI S_t ++ gX4 (a_t 0) a_t_0 cI u26) H := hP
        have hD : va_D A (gX3 o_t a_t cI S_t ++ gX4 (a_t 0) a_t_0 cI u26) := hD
        refine W.eq (g2 := F0 m 29 ls [.int r26]) rfl ?_
        refine lv_if_eq (tgt := 35) hx hb dX3_daysHeard_29 (by decide) (fun c29 => ?_) (fun c29 => ?_)
        · replace hf := it_t c29 hf
          refine lv_iinc (v := l4 + (1 : Int32)) (lv' := [(4, .int (l4 + (1 : Int32))), (0, .ref o_t), (1, .int l1), (2, .int l2), (3, .int l3)]) hx hb dX3_daysHeard_35 hl (k := 4) rfl rfl (by decide) rfl (fun ls hl => ?_)
          refine lv_goto (tgt := 5) hx hb dX3_daysHeard_38 (by decide) ?_
          exact ih5 S_t u26 l1 l2 l3 (l4 + (1 : Int32)) H locs ls hf hP hD hS (lv_sub hl [1, 2, 3, 4, 0] rfl)
        · replace hf := it_f c29 hf
          refine lv_iinc (v := l3 + (1 : Int32)) (lv' := [(3, .int (l3 + (1 : Int32))), (0, .ref o_t), (1, .int l1), (2, .int l2), (4, .int l4)]) hx hb dX3_daysHeard_32 hl (k := 3) rfl rfl (by decide) rfl (fun ls hl => ?_)
          refine lv_iinc (v := l4 + (1 : Int32)) (lv' := [(4, .int (l4 + (1 : Int32))), (3, .int (l3 + (1 : Int32))), (0, .ref o_t), (1, .int l1), (2, .int l2)]) hx hb dX3_daysHeard_35 hl (k := 4) rfl rfl (by decide) rfl (fun ls hl => ?_)
          refine lv_goto (tgt := 5) hx hb dX3_daysHeard_38 (by decide) ?_
          exact ih5 S_t u26 l1 l2 (l3 + (1 : Int32)) (l4 + (1 : Int32)) H locs ls hf hP hD hS (lv_sub hl [2, 3, 4, 1, 0] rfl)
  unfold f_X3_daysHeard at hf
  have hl : lv_has ls 5 [(0, .ref o_t), (1, .int x1), (2, .int x2)] := hl
  obtain ⟨H, hHe⟩ : ∃ H : Heap, H = s.heap := ⟨_, rfl⟩
  obtain ⟨locs, hle⟩ : ∃ q : List Loc, q = [] := ⟨_, rfl⟩
  have hS : va_S A s.heap H locs := by rw [hHe, hle]; exact hS
  rw [← hHe] at hP
  suffices hgo : W p l e rmX3_daysHeard s m ([.ref o_t, .int x1, .int x2] : List Value).toArray below meth c H locs 0 0 Q (F0 m 0 ls []) by rw [hHe, hle] at hgo; exact hgo
  clear hHe hle
  refine lv_iconst (v := (0 : Int32)) hx hb dX3_daysHeard_0 (by decide) ?_
  refine lv_istore_n (lv' := [(3, .int (0 : Int32)), (0, .ref o_t), (1, .int x1), (2, .int x2)]) hx hb dX3_daysHeard_1 rfl hl (by decide) rfl (fun ls hl => ?_)
  refine lv_iconst (v := (1 : Int32)) hx hb dX3_daysHeard_2 (by decide) ?_
  refine lv_istore (lv' := [(4, .int (1 : Int32)), (3, .int (0 : Int32)), (0, .ref o_t), (1, .int x1), (2, .int x2)]) hx hb dX3_daysHeard_3 hl (by decide) rfl (fun ls hl => ?_)
  exact j5 1000 S_t S_t_0 x1 x2 (0 : Int32) (1 : Int32) H locs ls hf hP hD hS (lv_sub hl [2, 3, 4, 1, 0] rfl)
abbrev rmX3_daysUnheardBySending : Room := { frames := 4, cells := 0, slots := 0, locals := 92 }
set_option maxHeartbeats 4000000 in
set_option maxRecDepth 100000 in
theorem c_X3_daysUnheardBySending (l : Launch) (D : va_G) (cI : ClassId) (o_t : Nat) (a_t : Nat → Nat) (a_t_0 : Nat → Nat) (o_p1 : Nat) (a_p1 : Nat → Nat) (S_t : G) (S_t_0 : G) (S_p1 : G) (x2 : Int32) (x3 : Int32) (x4 : Int32) (out : Int32 × G × G × G) (hf : f_X3_daysUnheardBySending S_t S_t_0 S_p1 x2 x3 x4 = some out) : Cn E0 l yX3_daysUnheardBySending wsX3_daysUnheardBySending rmX3_daysUnheardBySending D cI [.ref o_t, .ref o_p1, .int x2, .int x3, .int x4] (gX3 o_t a_t cI S_t ++ (gX4 (a_t 0) a_t_0 cI S_t_0 ++ gX4 o_p1 a_p1 cI S_p1)) (some (.int out.1)) (gX3 o_t a_t cI out.2.1 ++ (gX4 (a_t 0) a_t_0 cI out.2.2.1 ++ gX4 o_p1 a_p1 cI out.2.2.2)) := by
  refine Cn.mk (cc := cX3_daysUnheardBySending) (maxL := 6) (ret := (some .int)) (by decide) rfl (Nat.le_of_ble_eq_true rfl) ?_
  intro p e s m below meth c A ls Q hx hb hml hown hts hK hA hP hD hS hl hr hlk hnm hE hQ
  have hown : s.vm.findClass RX3 = some m.cls := hown
  have hinX3 : ∀ w ∈ u_ws RX3 TX3 2, w ∈ wsX3_daysUnheardBySending := by decide +kernel
  have hinX4 : ∀ w ∈ u_ws RX4 TX4 10, w ∈ wsX3_daysUnheardBySending := by decide +kernel
  unfold f_X3_daysUnheardBySending at hf
  have hl : lv_has ls 6 [(0, .ref o_t), (1, .ref o_p1), (2, .int x2), (3, .int x3), (4, .int x4)] := hl
  obtain ⟨H, hHe⟩ : ∃ H : Heap, H = s.heap := ⟨_, rfl⟩
  obtain ⟨locs, hle⟩ : ∃ q : List Loc, q = [] := ⟨_, rfl⟩
  have hS : va_S A s.heap H locs := by rw [hHe, hle]; exact hS
  rw [← hHe] at hP
  suffices hgo : W p l e rmX3_daysUnheardBySending s m ([.ref o_t, .ref o_p1, .int x2, .int x3, .int x4] : List Value).toArray below meth c H locs 0 0 Q (F0 m 0 ls []) by rw [hHe, hle] at hgo; exact hgo
  clear hHe hle
  refine lv_aload_n hx hb dX3_daysUnheardBySending_0 rfl (lv_at hl 0 rfl) ?_
  refine va_get (D := D) (ci := 3) (v := .ref (a_t 0)) (C := RX3) (T := TX3) (N := 2) hx hb hts hinX3 hown hK hP 0 rfl rfl 0 (by decide) (hts (.fieldLink RX3 12 "OnlyStrangersHear$Plans" "trial" "LOnlyStrangersHear$Town;") (by decide +kernel)) (fun _ h9 => h9) rfl dX3_daysUnheardBySending_1 ?_
  refine lv_aload_n hx hb dX3_daysUnheardBySending_4 rfl (lv_at hl 1 rfl) ?_
  obtain ⟨r5, u5, h5, hf⟩ := bd_some hf
  have hPc := hP.sub (ws' := gX4 (a_t 0) a_t_0 cI S_t_0 ++ gX4 o_p1 a_p1 cI S_p1) [2, 3, 4, 5, 6, 7, 8, 9, 10, 11, 12, 13, 14, 15] rfl
  have hDc := hD.sub (ws' := gX4 (a_t 0) a_t_0 cI S_t_0 ++ gX4 o_p1 a_p1 cI S_p1) [2, 3, 4, 5, 6, 7, 8, 9, 10, 11, 12, 13, 14, 15] (by decide) rfl
  refine calX (runV E0.b E0.n (As := [.ref o_p1]) (rest := []) ⟨hx, hb, hml, hown, hts⟩ (c_X4_become l D cI (a_t 0) a_t_0 o_p1 a_p1 S_t_0 S_p1 _ h5) gX3_daysUnheardBySending_X4_become rfl rfl rfl hdX4_become ⟨by decide, by decide⟩ hK hPc hDc 0 rfl rfl rfl hl.1 rfl (Nat.le_of_ble_eq_true rfl) dX3_daysUnheardBySending_5 ⟨Nat.zero_le _, Nat.zero_le _⟩) hP hD hS hA [2, 3, 4, 5, 6, 7, 8, 9, 10, 11, 12, 13, 14, 15] [0, 1] [0, 1, 2, 3, 4, 5, 6, 7, 8, 9, 10, 11, 12, 13, 14, 15] (wr := gX3 o_t a_t cI S_t) (wn := gX3 o_t a_t cI S_t ++ (gX4 (a_t 0) a_t_0 cI u5.1 ++ gX4 o_p1 a_p1 cI u5.2)) rfl rfl (by decide) (by decide) rfl (by decide) (fun H locs hP hD hS => ?_)
  have hP : va_P D vwCl (gX3 o_t a_t cI S_t ++ (gX4 (a_t 0) a_t_0 cI u5.1 ++ gX4 o_p1 a_p1 cI u5.2)) H := hP
  have hD : va_D A (gX3 o_t a_t cI S_t ++ (gX4 (a_t 0) a_t_0 cI u5.1 ++ gX4 o_p1 a_p1 cI u5.2)) := hD
  refine W.eq (g2 := F0 m 8 ls []) rfl ?_
  refine lv_aload_n hx hb dX3_daysUnheardBySending_8 rfl (lv_at hl 0 rfl) ?_
  refine lv_iload_n hx hb dX3_daysUnheardBySending_9 rfl (lv_at hl 2 rfl) ?_
  refine lv_iload hx hb dX3_daysUnheardBySending_10 (lv_at hl 4 rfl) ?_
  obtain ⟨r12, u12, h12, hf⟩ := bd_some hf
  have hPc := hP.sub (ws' := gX3 o_t a_t cI S_t ++ gX4 (a_t 0) a_t_0 cI u5.1) [0, 1, 2, 3, 4, 5, 6, 7, 8] rfl
  have hDc := hD.sub (ws' := gX3 o_t a_t cI S_t ++ gX4 (a_t 0) a_t_0 cI u5.1) [0, 1, 2, 3, 4, 5, 6, 7, 8] (by decide) rfl
  refine calX (runV E0.b E0.n (As := [.int x2, .int x4]) (rest := []) ⟨hx, hb, hml, hown, hts⟩ (c_X3_daysHeard l D cI o_t a_t a_t_0 S_t u5.1 x2 x4 _ h12) gX3_daysUnheardBySending_X3_daysHeard rfl rfl rfl hdX3_daysHeard ⟨by decide, by decide⟩ hK hPc hDc 0 rfl rfl rfl hl.1 rfl (Nat.le_of_ble_eq_true rfl) dX3_daysUnheardBySending_12 ⟨Nat.zero_le _, Nat.zero_le _⟩) hP hD hS hA [0, 1, 2, 3, 4, 5, 6, 7, 8] [9, 10, 11, 12, 13, 14, 15] [7, 8, 9, 10, 11, 12, 13, 14, 15, 0, 1, 2, 3, 4, 5, 6] (wr := gX4 o_p1 a_p1 cI u5.2) (wn := gX3 o_t a_t cI u12.1 ++ (gX4 (a_t 0) a_t_0 cI u12.2 ++ gX4 o_p1 a_p1 cI u5.2)) rfl rfl (by decide) (by decide) rfl (by decide) (fun H locs hP hD hS => ?_)
  have hP : va_P D vwCl (gX3 o_t a_t cI u12.1 ++ (gX4 (a_t 0) a_t_0 cI u12.2 ++ gX4 o_p1 a_p1 cI u5.2)) H := hP
  have hD : va_D A (gX3 o_t a_t cI u12.1 ++ (gX4 (a_t 0) a_t_0 cI u12.2 ++ gX4 o_p1 a_p1 cI u5.2)) := hD
  refine W.eq (g2 := F0 m 15 ls [.int r12]) rfl ?_
  refine lv_istore (lv' := [(5, .int r12), (0, .ref o_t), (1, .ref o_p1), (2, .int x2), (3, .int x3), (4, .int x4)]) hx hb dX3_daysUnheardBySending_15 hl (by decide) rfl (fun ls hl => ?_)
  refine lv_aload_n hx hb dX3_daysUnheardBySending_17 rfl (lv_at hl 1 rfl) ?_
  refine va_get (D := D) (ci := 3) (v := .ref (a_t 0)) (C := RX3) (T := TX3) (N := 2) hx hb hts hinX3 hown hK hP 0 rfl rfl 0 (by decide) (hts (.fieldLink RX3 12 "OnlyStrangersHear$Plans" "trial" "LOnlyStrangersHear$Town;") (by decide +kernel)) (fun _ h9 => h9) rfl dX3_daysUnheardBySending_18 ?_
  refine lv_aload_n hx hb dX3_daysUnheardBySending_21 rfl (lv_at hl 2 rfl) ?_
  obtain ⟨r22, u22, h22, hf⟩ := bd_some hf
  have hPc := hP.sub (ws' := gX4 (a_t 0) a_t_0 cI u12.2 ++ gX4 o_p1 a_p1 cI u5.2) [2, 3, 4, 5, 6, 7, 8, 9, 10, 11, 12, 13, 14, 15] rfl
  have hDc := hD.sub (ws' := gX4 (a_t 0) a_t_0 cI u12.2 ++ gX4 o_p1 a_p1 cI u5.2) [2, 3, 4, 5, 6, 7, 8, 9, 10, 11, 12, 13, 14, 15] (by decide) rfl
  refine calX (runV E0.b E0.n (As := [.ref o_p1]) (rest := []) ⟨hx, hb, hml, hown, hts⟩ (c_X4_become l D cI (a_t 0) a_t_0 o_p1 a_p1 u12.2 u5.2 _ h22) gX3_daysUnheardBySending_X4_become rfl rfl rfl hdX4_become ⟨by decide, by decide⟩ hK hPc hDc 0 rfl rfl rfl hl.1 rfl (Nat.le_of_ble_eq_true rfl) dX3_daysUnheardBySending_22 ⟨Nat.zero_le _, Nat.zero_le _⟩) hP hD hS hA [2, 3, 4, 5, 6, 7, 8, 9, 10, 11, 12, 13, 14, 15] [0, 1] [0, 1, 2, 3, 4, 5, 6, 7, 8, 9, 10, 11, 12, 13, 14, 15] (wr := gX3 o_t a_t cI u12.1) (wn := gX3 o_t a_t cI u12.1 ++ (gX4 (a_t 0) a_t_0 cI u22.1 ++ gX4 o_p1 a_p1 cI u22.2)) rfl rfl (by decide) (by decide) rfl (by decide) (fun H locs hP hD hS => ?_)
  have hP : va_P D vwCl (gX3 o_t a_t cI u12.1 ++ (gX4 (a_t 0) a_t_0 cI u22.1 ++ gX4 o_p1 a_p1 cI u22.2)) H := hP
  have hD : va_D A (gX3 o_t a_t cI u12.1 ++ (gX4 (a_t 0) a_t_0 cI u22.1 ++ gX4 o_p1 a_p1 cI u22.2)) := hD
  refine W.eq (g2 := F0 m 25 ls []) rfl ?_
  refine lv_aload_n hx hb dX3_daysUnheardBySending_25 rfl (lv_at hl 1 rfl) ?_
  refine va_get (D := D) (ci := 3) (v := .ref (a_t 0)) (C := RX3) (T := TX3) (N := 2) hx hb hts hinX3 hown hK hP 0 rfl rfl 0 (by decide) (hts (.fieldLink RX3 12 "OnlyStrangersHear$Plans" "trial" "LOnlyStrangersHear$Town;") (by decide +kernel)) (fun _ h9 => h9) rfl dX3_daysUnheardBySending_26 ?_
  refine va_get (D := D) (ci := 4) (v := .ref (a_t_0 7)) (C := RX4) (T := TX4) (N := 10) hx hb hts hinX4 hown hK hP 2 rfl rfl 7 (by decide) (hts (.fieldLink RX3 34 "OnlyStrangersHear$Town" "away" "[I") (by decide +kernel)) (fun _ h9 => h9) rfl dX3_daysUnheardBySending_29 ?_
  refine lv_iload_n hx hb dX3_daysUnheardBySending_32 rfl (lv_at hl 3 rfl) ?_
  refine lv_iload_n hx hb dX3_daysUnheardBySending_33 rfl (lv_at hl 4 rfl) ?_
  obtain ⟨b34, hf⟩ := ck_some hf
  refine va_iast hx hb hK hP hD hS 8 0 rfl rfl b34 dX3_daysUnheardBySending_34 (fun H locs hP hD hS => ?_)
  have hP : va_P D vwCl (gX3 o_t a_t cI u12.1 ++ (gX4 (a_t 0) a_t_0 cI (pA u22.1 7 x2.toNatClampNeg x3) ++ gX4 o_p1 a_p1 cI u22.2)) H := hP
  have hD : va_D A (gX3 o_t a_t cI u12.1 ++ (gX4 (a_t 0) a_t_0 cI (pA u22.1 7 x2.toNatClampNeg x3) ++ gX4 o_p1 a_p1 cI u22.2)) := hD
  obtain ⟨g34, e34, hf⟩ := lt_some hf
  rw [← e34] at hP hD
  refine lv_iload hx hb dX3_daysUnheardBySending_35 (lv_at hl 0 rfl) ?_
  refine lv_aload_n hx hb dX3_daysUnheardBySending_37 rfl (lv_at hl 1 rfl) ?_
  refine lv_iload_n hx hb dX3_daysUnheardBySending_38 rfl (lv_at hl 3 rfl) ?_
  refine lv_iload hx hb dX3_daysUnheardBySending_39 (lv_at hl 5 rfl) ?_
  obtain ⟨r41, u41, h41, hf⟩ := bd_some hf
  have hPc := hP.sub (ws' := gX3 o_t a_t cI u12.1 ++ gX4 (a_t 0) a_t_0 cI g34) [0, 1, 2, 3, 4, 5, 6, 7, 8] rfl
  have hDc := hD.sub (ws' := gX3 o_t a_t cI u12.1 ++ gX4 (a_t 0) a_t_0 cI g34) [0, 1, 2, 3, 4, 5, 6, 7, 8] (by decide) rfl
  refine calX (runV E0.b E0.n (As := [.int x2, .int x4]) (rest := [.int r12]) ⟨hx, hb, hml, hown, hts⟩ (c_X3_daysHeard l D cI o_t a_t a_t_0 u12.1 g34 x2 x4 _ h41) gX3_daysUnheardBySending_X3_daysHeard rfl rfl rfl hdX3_daysHeard ⟨by decide, by decide⟩ hK hPc hDc 0 rfl rfl rfl hl.1 rfl (Nat.le_of_ble_eq_true rfl) dX3_daysUnheardBySending_41 ⟨Nat.zero_le _, Nat.zero_le _⟩) hP hD hS hA [0, 1, 2, 3, 4, 5, 6, 7, 8] [9, 10, 11, 12, 13, 14, 15] [7, 8, 9, 10, 11, 12, 13, 14, 15, 0, 1, 2, 3, 4, 5, 6] (wr := gX4 o_p1 a_p1 cI u22.2) (wn := gX3 o_t a_t cI u41.1 ++ (gX4 (a_t 0) a_t_0 cI u41.2 ++ gX4 o_p1 a_p1 cI u22.2)) rfl rfl (by decide) (by decide) rfl (by decide) (fun H locs hP hD hS => ?_)
  have hP : va_P D vwCl (gX3 o_t a_t cI u41.1 ++ (gX4 (a_t 0) a_t_0 cI u41.2 ++ gX4 o_p1 a_p1 cI u22.2)) H := hP
  have hD : va_D A (gX3 o_t a_t cI u41.1 ++ (gX4 (a_t 0) a_t_0 cI u41.2 ++ gX4 o_p1 a_p1 cI u22.2)) := hD
  refine W.eq (g2 := F0 m 44 ls [.int r41, .int r12]) rfl ?_
  refine lv_isub hx hb dX3_daysUnheardBySending_44 ?_
  have e := so_some hf
  subst e
  exact ri hx hb hK hr hlk hQ dX3_daysUnheardBySending_45 hP hD hS
abbrev rmX3_settledPair : Room := { frames := 4, cells := 0, slots := 0, locals := 94 }
set_option maxHeartbeats 4000000 in
set_option maxRecDepth 100000 in
theorem c_X3_settledPair (l : Launch) (D : va_G) (cI : ClassId) (o_t : Nat) (a_t : Nat → Nat) (a_t_0 : Nat → Nat) (o_p1 : Nat) (a_p1 : Nat → Nat) (S_t : G) (S_t_0 : G) (S_p1 : G) (x2 : Int32) (x3 : Int32) (x4 : Int32) (out : Int32 × G × G × G) (hf : f_X3_settledPair S_t S_t_0 S_p1 x2 x3 x4 = some out) : Cn E0 l yX3_settledPair wsX3_settledPair rmX3_settledPair D cI [.ref o_t, .ref o_p1, .int x2, .int x3, .int x4] (gX3 o_t a_t cI S_t ++ (gX4 (a_t 0) a_t_0 cI S_t_0 ++ gX4 o_p1 a_p1 cI S_p1)) (some (.int out.1)) (gX3 o_t a_t cI out.2.1 ++ (gX4 (a_t 0) a_t_0 cI out.2.2.1 ++ gX4 o_p1 a_p1 cI out.2.2.2)) := by
  refine Cn.mk (cc := cX3_settledPair) (maxL := 6) (ret := (some .int)) (by decide) rfl (Nat.le_of_ble_eq_true rfl) ?_
  intro p e s m below meth c A ls Q hx hb hml hown hts hK hA hP hD hS hl hr hlk hnm hE hQ
  have hown : s.vm.findClass RX3 = some m.cls := hown
  have hinX3 : ∀ w ∈ u_ws RX3 TX3 2, w ∈ wsX3_settledPair := by decide +kernel
  have hinX4 : ∀ w ∈ u_ws RX4 TX4 10, w ∈ wsX3_settledPair := by decide +kernel
  have j81 : ∀ (n81 : Nat) (S_t : G) (S_t_0 : G) (S_p1 : G) (l5 : Int32) (H : Heap) (locs : List Loc) (ls : Array Slot), f_X3_settledPair_81 n81 S_t S_t_0 S_p1 l5 = some out → va_P D vwCl (gX3 o_t a_t cI S_t ++ (gX4 (a_t 0) a_t_0 cI S_t_0 ++ gX4 o_p1 a_p1 cI S_p1)) H → va_D A (gX3 o_t a_t cI S_t ++ (gX4 (a_t 0) a_t_0 cI S_t_0 ++ gX4 o_p1 a_p1 cI S_p1)) → va_S A s.heap H locs → lv_has ls 6 [(0, .ref o_t), (5, .int l5)] → W p l e rmX3_settledPair s m ([.ref o_t, .ref o_p1, .int x2, .int x3, .int x4] : List Value).toArray below meth c H locs 0 0 Q (F0 m 81 ls []) := by
    intro n81
    induction n81 with
    | zero =>
      intro S_t S_t_0 S_p1 l5 H locs ls hf
      exact no_some hf
    | succ n81 ih81 =>
      intro S_t S_t_0 S_p1 l5 H locs ls hf hP hD hS hl
      replace hf : b_X3_settledPair_81 (f_X3_settledPair_81 n81) S_t S_t_0 S_p1 l5 = some out := hf
      unfold b_X3_settledPair_81 at hf
      refine lv_iload hx hb dX3_settledPair_81 (lv_at hl 1 rfl) ?_
      refine lv_iconst (v := (4 : Int32)) hx hb dX3_settledPair_83 (by decide) ?_
      refine lv_icmp_ge (tgt := 144) hx hb dX3_settledPair_84 (by decide) (fun c84 => ?_) (fun c84 => ?_)
      · replace hf := it_t c84 hf
        refine lv_bipush (v := (-9 : Int32)) hx hb dX3_settledPair_144 (by decide) ?_
        have e := so_some hf
        subst e
        exact ri hx hb hK hr hlk hQ dX3_settledPair_146 hP hD hS
      · replace hf := it_f c84 hf
        refine lv_aload_n hx hb dX3_settledPair_87 rfl (lv_at hl 0 rfl) ?_
        refine va_get (D := D) (ci := 3) (v := .ref (a_t 1)) (C := RX3) (T := TX3) (N := 2) hx hb hts hinX3 hown hK hP 0 rfl rfl 1 (by decide) (hts (.fieldLink RX3 18 "OnlyStrangersHear$Plans" "outcome" "[I") (by decide +kernel)) (fun _ h9 => h9) rfl dX3_settledPair_88 ?_
        refine lv_iload hx hb dX3_settledPair_91 (lv_at hl 1 rfl) ?_
        obtain ⟨b93, hf⟩ := ck_some hf
        refine va_iald hx hb hK hP 1 0 rfl rfl b93 dX3_settledPair_93 ?_
        refine lv_aload_n hx hb dX3_settledPair_94 rfl (lv_at hl 0 rfl) ?_
        refine va_get (D := D) (ci := 3) (v := .ref (a_t 1)) (C := RX3) (T := TX3) (N := 2) hx hb hts hinX3 hown hK hP 0 rfl rfl 1 (by decide) (hts (.fieldLink RX3 18 "OnlyStrangersHear$Plans" "outcome" "[I") (by decide +kernel)) (fun _ h9 => h9) rfl dX3_settledPair_95 ?_
        refine lv_iload hx hb dX3_settledPair_98 (lv_at hl 1 rfl) ?_
        refine lv_iconst (v := (2 : Int32)) hx hb dX3_settledPair_100 (by decide) ?_
        refine lv_ixor hx hb dX3_settledPair_101 ?_
        obtain ⟨b102, hf⟩ := ck_some hf
        refine va_iald hx hb hK hP 1 0 rfl rfl b102 dX3_settledPair_102 ?_
        refine lv_icmp_lt (tgt := 138) hx hb dX3_settledPair_103 (by decide) (fun c103 => ?_) (fun c103 => ?_)
        · replace hf := it_t c103 hf
          refine lv_iinc (v := l5 + (1 : Int32)) (lv' := [(5, .int (l5 + (1 : Int32))), (0, .ref o_t)]) hx hb dX3_settledPair_138 hl (k := 1) rfl rfl (by decide) rfl (fun ls hl => ?_)
          refine lv_goto (tgt := 81) hx hb dX3_settledPair_141 (by decide) ?_
          exact ih81 S_t S_t_0 S_p1 (l5 + (1 : Int32)) H locs ls hf hP hD hS (lv_sub hl [1, 0] rfl)
        · replace hf := it_f c103 hf
          refine lv_aload_n hx hb dX3_settledPair_106 rfl (lv_at hl 0 rfl) ?_
          refine va_get (D := D) (ci := 3) (v := .ref (a_t 1)) (C := RX3) (T := TX3) (N := 2) hx hb hts hinX3 hown hK hP 0 rfl rfl 1 (by decide) (hts (.fieldLink RX3 18 "OnlyStrangersHear$Plans" "outcome" "[I") (by decide +kernel)) (fun _ h9 => h9) rfl dX3_settledPair_107 ?_
          refine lv_iload hx hb dX3_settledPair_110 (lv_at hl 1 rfl) ?_
          obtain ⟨b112, hf⟩ := ck_some hf
          refine va_iald hx hb hK hP 1 0 rfl rfl b112 dX3_settledPair_112 ?_
          refine lv_aload_n hx hb dX3_settledPair_113 rfl (lv_at hl 0 rfl) ?_
          refine va_get (D := D) (ci := 3) (v := .ref (a_t 1)) (C := RX3) (T := TX3) (N := 2) hx hb hts hinX3 hown hK hP 0 rfl rfl 1 (by decide) (hts (.fieldLink RX3 18 "OnlyStrangersHear$Plans" "outcome" "[I") (by decide +kernel)) (fun _ h9 => h9) rfl dX3_settledPair_114 ?_
          refine lv_iload hx hb dX3_settledPair_117 (lv_at hl 1 rfl) ?_
          refine lv_iconst (v := (1 : Int32)) hx hb dX3_settledPair_119 (by decide) ?_
          refine lv_ixor hx hb dX3_settledPair_120 ?_
          obtain ⟨b121, hf⟩ := ck_some hf
          refine va_iald hx hb hK hP 1 0 rfl rfl b121 dX3_settledPair_121 ?_
          refine lv_icmp_gt (tgt := 138) hx hb dX3_settledPair_122 (by decide) (fun c122 => ?_) (fun c122 => ?_)
          · replace hf := it_t c122 hf
            refine lv_iinc (v := l5 + (1 : Int32)) (lv' := [(5, .int (l5 + (1 : Int32))), (0, .ref o_t)]) hx hb dX3_settledPair_138 hl (k := 1) rfl rfl (by decide) rfl (fun ls hl => ?_)
            refine lv_goto (tgt := 81) hx hb dX3_settledPair_141 (by decide) ?_
            exact ih81 S_t S_t_0 S_p1 (l5 + (1 : Int32)) H locs ls hf hP hD hS (lv_sub hl [1, 0] rfl)
          · replace hf := it_f c122 hf
            refine lv_bipush (v := (10 : Int32)) hx hb dX3_settledPair_125 (by decide) ?_
            refine lv_iload hx hb dX3_settledPair_127 (lv_at hl 1 rfl) ?_
            refine lv_iconst (v := (2 : Int32)) hx hb dX3_settledPair_129 (by decide) ?_
            obtain ⟨z130, hf⟩ := nz_some hf
            refine lv_idiv hx hb dX3_settledPair_130 z130 ?_
            refine lv_imul hx hb dX3_settledPair_131 ?_
            refine lv_iload hx hb dX3_settledPair_132 (lv_at hl 1 rfl) ?_
            refine lv_iconst (v := (2 : Int32)) hx hb dX3_settledPair_134 (by decide) ?_
            obtain ⟨z135, hf⟩ := nz_some hf
            refine lv_irem hx hb dX3_settledPair_135 z135 ?_
            refine lv_iadd hx hb dX3_settledPair_136 ?_
            have e := so_some hf
            subst e
            exact ri hx hb hK hr hlk hQ dX3_settledPair_137 hP hD hS
  have j3 : ∀ (n3 : Nat) (S_t : G) (S_t_0 : G) (S_p1 : G) (l2 : Int32) (l3 : Int32) (l4 : Int32) (l5 : Int32) (H : Heap) (locs : List Loc) (ls : Array Slot), f_X3_settledPair_3 n3 S_t S_t_0 S_p1 l2 l3 l4 l5 = some out → va_P D vwCl (gX3 o_t a_t cI S_t ++ (gX4 (a_t 0) a_t_0 cI S_t_0 ++ gX4 o_p1 a_p1 cI S_p1)) H → va_D A (gX3 o_t a_t cI S_t ++ (gX4 (a_t 0) a_t_0 cI S_t_0 ++ gX4 o_p1 a_p1 cI S_p1)) → va_S A s.heap H locs → lv_has ls 6 [(0, .ref o_t), (1, .ref o_p1), (2, .int l2), (3, .int l3), (4, .int l4), (5, .int l5)] → W p l e rmX3_settledPair s m ([.ref o_t, .ref o_p1, .int x2, .int x3, .int x4] : List Value).toArray below meth c H locs 0 0 Q (F0 m 3 ls []) := by
    intro n3
    induction n3 with
    | zero =>
      intro S_t S_t_0 S_p1 l2 l3 l4 l5 H locs ls hf
      exact no_some hf
    | succ n3 ih3 =>
      have j51 : ∀ (S_t : G) (S_t_0 : G) (S_p1 : G) (l2 : Int32) (l3 : Int32) (l4 : Int32) (l5 : Int32) (H : Heap) (locs : List Loc) (ls : Array Slot), f_X3_settledPair_51 (f_X3_settledPair_3 n3) S_t S_t_0 S_p1 l2 l3 l4 l5 = some out → va_P D vwCl (gX3 o_t a_t cI S_t ++ (gX4 (a_t 0) a_t_0 cI S_t_0 ++ gX4 o_p1 a_p1 cI S_p1)) H → va_D A (gX3 o_t a_t cI S_t ++ (gX4 (a_t 0) a_t_0 cI S_t_0 ++ gX4 o_p1 a_p1 cI S_p1)) → va_S A s.heap H locs → lv_has ls 6 [(0, .ref o_t), (1, .ref o_p1), (2, .int l2), (3, .int l3), (4, .int l4), (5, .int l5)] → W p l e rmX3_settledPair s m ([.ref o_t, .ref o_p1, .int x2, .int x3, .int x4] : List Value).toArray below meth c H locs 0 0 Q (F0 m 51 ls []) := by
        intro S_t S_t_0 S_p1 l2 l3 l4 l5 H locs ls hf hP hD hS hl
        unfold f_X3_settledPair_51 at hf
        refine lv_aload_n hx hb dX3_settledPair_51 rfl (lv_at hl 0 rfl) ?_
        refine va_get (D := D) (ci := 3) (v := .ref (a_t 1)) (C := RX3) (T := TX3) (N := 2) hx hb hts hinX3 hown hK hP 0 rfl rfl 1 (by decide) (hts (.fieldLink RX3 18 "OnlyStrangersHear$Plans" "outcome" "[I") (by decide +kernel)) (fun _ h9 => h9) rfl dX3_settledPair_52 ?_
        refine lv_iload hx hb dX3_settledPair_55 (lv_at hl 5 rfl) ?_
        refine lv_aload_n hx hb dX3_settledPair_57 rfl (lv_at hl 0 rfl) ?_
        refine va_get (D := D) (ci := 3) (v := .ref (a_t 0)) (C := RX3) (T := TX3) (N := 2) hx hb hts hinX3 hown hK hP 0 rfl rfl 0 (by decide) (hts (.fieldLink RX3 12 "OnlyStrangersHear$Plans" "trial" "LOnlyStrangersHear$Town;") (by decide +kernel)) (fun _ h9 => h9) rfl dX3_settledPair_58 ?_
        refine lv_iconst (v := (0 : Int32)) hx hb dX3_settledPair_61 (by decide) ?_
        refine lv_aload_n hx hb dX3_settledPair_62 rfl (lv_at hl 1 rfl) ?_
        refine va_get (D := D) (ci := 4) (v := .int (S_p1.1 0)) (C := RX4) (T := TX4) (N := 10) hx hb hts hinX4 hown hK hP 9 rfl rfl 0 (by decide) (hts (.fieldLink RX3 37 "OnlyStrangersHear$Town" "bells" "I") (by decide +kernel)) (fun _ h9 => h9) rfl dX3_settledPair_63 ?_
        refine lv_iload hx hb dX3_settledPair_66 (lv_at hl 4 rfl) ?_
        obtain ⟨r68, u68, h68, hf⟩ := bd_some hf
        have hPc := hP.sub (ws' := gX4 (a_t 0) a_t_0 cI S_t_0) [2, 3, 4, 5, 6, 7, 8] rfl
        have hDc := hD.sub (ws' := gX4 (a_t 0) a_t_0 cI S_t_0) [2, 3, 4, 5, 6, 7, 8] (by decide) rfl
        refine calX (runV E0.b E0.n (As := [.int (0 : Int32), .int (S_p1.1 0), .int l4]) (rest := [.int l5, .ref (a_t 1)]) ⟨hx, hb, hml, hown, hts⟩ (c_X4_passCountingRight l D cI (a_t 0) a_t_0 S_t_0 (0 : Int32) (S_p1.1 0) l4 _ h68) gX3_settledPair_X4_passCountingRight rfl rfl rfl hdX4_passCountingRight ⟨by decide, by decide⟩ hK hPc hDc 0 rfl rfl rfl hl.1 rfl (Nat.le_of_ble_eq_true rfl) dX3_settledPair_68 ⟨Nat.zero_le _, Nat.zero_le _⟩) hP hD hS hA [2, 3, 4, 5, 6, 7, 8] [0, 1, 9, 10, 11, 12, 13, 14, 15] [0, 1, 9, 10, 11, 12, 13, 14, 15, 2, 3, 4, 5, 6, 7, 8] (wr := gX3 o_t a_t cI S_t ++ gX4 o_p1 a_p1 cI S_p1) (wn := gX3 o_t a_t cI S_t ++ (gX4 (a_t 0) a_t_0 cI u68 ++ gX4 o_p1 a_p1 cI S_p1)) rfl rfl (by decide) (by decide) rfl (by decide) (fun H locs hP hD hS => ?_)
        have hP : va_P D vwCl (gX3 o_t a_t cI S_t ++ (gX4 (a_t 0) a_t_0 cI u68 ++ gX4 o_p1 a_p1 cI S_p1)) H := hP
        have hD : va_D A (gX3 o_t a_t cI S_t ++ (gX4 (a_t 0) a_t_0 cI u68 ++ gX4 o_p1 a_p1 cI S_p1)) := hD
        refine W.eq (g2 := F0 m 71 ls [.int r68, .int l5, .ref (a_t 1)]) rfl ?_
        obtain ⟨b71, hf⟩ := ck_some hf
        refine va_iast hx hb hK hP hD hS 1 0 rfl rfl b71 dX3_settledPair_71 (fun H locs hP hD hS => ?_)
        have hP : va_P D vwCl (gX3 o_t a_t cI (pA S_t 1 l5.toNatClampNeg r68) ++ (gX4 (a_t 0) a_t_0 cI u68 ++ gX4 o_p1 a_p1 cI S_p1)) H := hP
        have hD : va_D A (gX3 o_t a_t cI (pA S_t 1 l5.toNatClampNeg r68) ++ (gX4 (a_t 0) a_t_0 cI u68 ++ gX4 o_p1 a_p1 cI S_p1)) := hD
        obtain ⟨g71, e71, hf⟩ := lt_some hf
        rw [← e71] at hP hD
        refine lv_iinc (v := l5 + (1 : Int32)) (lv' := [(5, .int (l5 + (1 : Int32))), (0, .ref o_t), (1, .ref o_p1), (2, .int l2), (3, .int l3), (4, .int l4)]) hx hb dX3_settledPair_72 hl (k := 5) rfl rfl (by decide) rfl (fun ls hl => ?_)
        refine lv_goto (tgt := 3) hx hb dX3_settledPair_75 (by decide) ?_
        exact ih3 g71 u68 S_p1 l2 l3 l4 (l5 + (1 : Int32)) H locs ls hf hP hD hS (lv_sub hl [1, 2, 3, 4, 5, 0] rfl)
      have j33 : ∀ (S_t : G) (S_t_0 : G) (S_p1 : G) (l2 : Int32) (l3 : Int32) (l4 : Int32) (l5 : Int32) (H : Heap) (locs : List Loc) (ls : Array Slot), f_X3_settledPair_33 (f_X3_settledPair_3 n3) S_t S_t_0 S_p1 l2 l3 l4 l5 = some out → va_P D vwCl (gX3 o_t a_t cI S_t ++ (gX4 (a_t 0) a_t_0 cI S_t_0 ++ gX4 o_p1 a_p1 cI S_p1)) H → va_D A (gX3 o_t a_t cI S_t ++ (gX4 (a_t 0) a_t_0 cI S_t_0 ++ gX4 o_p1 a_p1 cI S_p1)) → va_S A s.heap H locs → lv_has ls 6 [(0, .ref o_t), (1, .ref o_p1), (2, .int l2), (3, .int l3), (4, .int l4), (5, .int l5)] → W p l e rmX3_settledPair s m ([.ref o_t, .ref o_p1, .int x2, .int x3, .int x4] : List Value).toArray below meth c H locs 0 0 Q (F0 m 33 ls []) := by
        intro S_t S_t_0 S_p1 l2 l3 l4 l5 H locs ls hf hP hD hS hl
        unfold f_X3_settledPair_33 at hf
        refine lv_iload hx hb dX3_settledPair_33 (lv_at hl 5 rfl) ?_
        refine lv_iconst (v := (2 : Int32)) hx hb dX3_settledPair_35 (by decide) ?_
        obtain ⟨z36, hf⟩ := nz_some hf
        refine lv_irem hx hb dX3_settledPair_36 z36 ?_
        refine lv_iconst (v := (1 : Int32)) hx hb dX3_settledPair_37 (by decide) ?_
        refine lv_icmp_ne (tgt := 51) hx hb dX3_settledPair_38 (by decide) (fun c38 => ?_) (fun c38 => ?_)
        · replace hf := it_f c38 hf
          exact j51 S_t S_t_0 S_p1 l2 l3 l4 l5 H locs ls hf hP hD hS (lv_sub hl [0, 1, 2, 3, 4, 5] rfl)
        · replace hf := it_t c38 hf
          refine lv_aload_n hx hb dX3_settledPair_41 rfl (lv_at hl 0 rfl) ?_
          refine va_get (D := D) (ci := 3) (v := .ref (a_t 0)) (C := RX3) (T := TX3) (N := 2) hx hb hts hinX3 hown hK hP 0 rfl rfl 0 (by decide) (hts (.fieldLink RX3 12 "OnlyStrangersHear$Plans" "trial" "LOnlyStrangersHear$Town;") (by decide +kernel)) (fun _ h9 => h9) rfl dX3_settledPair_42 ?_
          refine lv_iload_n hx hb dX3_settledPair_45 rfl (lv_at hl 3 rfl) ?_
          refine lv_iconst (v := (4 : Int32)) hx hb dX3_settledPair_46 (by decide) ?_
          refine lv_iconst (v := (5 : Int32)) hx hb dX3_settledPair_47 (by decide) ?_
          obtain ⟨r48, u48, h48, hf⟩ := bd_some hf
          have hPc := hP.sub (ws' := gX4 (a_t 0) a_t_0 cI S_t_0) [2, 3, 4, 5, 6, 7, 8] rfl
          have hDc := hD.sub (ws' := gX4 (a_t 0) a_t_0 cI S_t_0) [2, 3, 4, 5, 6, 7, 8] (by decide) rfl
          refine calX (runV E0.b E0.n (As := [.int l3, .int (4 : Int32), .int (5 : Int32)]) (rest := []) ⟨hx, hb, hml, hown, hts⟩ (c_X4_makeKind l D cI (a_t 0) a_t_0 S_t_0 l3 (4 : Int32) (5 : Int32) _ h48) gX3_settledPair_X4_makeKind rfl rfl rfl hdX4_makeKind ⟨by decide, by decide⟩ hK hPc hDc 0 rfl rfl rfl hl.1 rfl (Nat.le_of_ble_eq_true rfl) dX3_settledPair_48 ⟨Nat.zero_le _, Nat.zero_le _⟩) hP hD hS hA [2, 3, 4, 5, 6, 7, 8] [0, 1, 9, 10, 11, 12, 13, 14, 15] [0, 1, 9, 10, 11, 12, 13, 14, 15, 2, 3, 4, 5, 6, 7, 8] (wr := gX3 o_t a_t cI S_t ++ gX4 o_p1 a_p1 cI S_p1) (wn := gX3 o_t a_t cI S_t ++ (gX4 (a_t 0) a_t_0 cI u48 ++ gX4 o_p1 a_p1 cI S_p1)) rfl rfl (by decide) (by decide) rfl (by decide) (fun H locs hP hD hS => ?_)
          have hP : va_P D vwCl (gX3 o_t a_t cI S_t ++ (gX4 (a_t 0) a_t_0 cI u48 ++ gX4 o_p1 a_p1 cI S_p1)) H := hP
          have hD : va_D A (gX3 o_t a_t cI S_t ++ (gX4 (a_t 0) a_t_0 cI u48 ++ gX4 o_p1 a_p1 cI S_p1)) := hD
          refine W.eq (g2 := F0 m 51 ls []) rfl ?_
          exact j51 S_t u48 S_p1 l2 l3 l4 l5 H locs ls hf hP hD hS (lv_sub hl [0, 1, 2, 3, 4, 5] rfl)
      intro S_t S_t_0 S_p1 l2 l3 l4 l5 H locs ls hf hP hD hS hl
      replace hf : b_X3_settledPair_3 (f_X3_settledPair_3 n3) S_t S_t_0 S_p1 l2 l3 l4 l5 = some out := hf
      unfold b_X3_settledPair_3 at hf
      refine lv_iload hx hb dX3_settledPair_3 (lv_at hl 5 rfl) ?_
      refine lv_iconst (v := (4 : Int32)) hx hb dX3_settledPair_5 (by decide) ?_
      refine lv_icmp_ge (tgt := 78) hx hb dX3_settledPair_6 (by decide) (fun c6 => ?_) (fun c6 => ?_)
      · replace hf := it_t c6 hf
        refine lv_iconst (v := (0 : Int32)) hx hb dX3_settledPair_78 (by decide) ?_
        refine lv_istore (lv' := [(5, .int (0 : Int32)), (0, .ref o_t), (1, .ref o_p1), (2, .int l2), (3, .int l3), (4, .int l4)]) hx hb dX3_settledPair_79 hl (by decide) rfl (fun ls hl => ?_)
        exact j81 1000 S_t S_t_0 S_p1 (0 : Int32) H locs ls hf hP hD hS (lv_sub hl [1, 0] rfl)
      · replace hf := it_f c6 hf
        refine lv_aload_n hx hb dX3_settledPair_9 rfl (lv_at hl 0 rfl) ?_
        refine va_get (D := D) (ci := 3) (v := .ref (a_t 0)) (C := RX3) (T := TX3) (N := 2) hx hb hts hinX3 hown hK hP 0 rfl rfl 0 (by decide) (hts (.fieldLink RX3 12 "OnlyStrangersHear$Plans" "trial" "LOnlyStrangersHear$Town;") (by decide +kernel)) (fun _ h9 => h9) rfl dX3_settledPair_10 ?_
        refine lv_aload_n hx hb dX3_settledPair_13 rfl (lv_at hl 1 rfl) ?_
        obtain ⟨r14, u14, h14, hf⟩ := bd_some hf
        have hPc := hP.sub (ws' := gX4 (a_t 0) a_t_0 cI S_t_0 ++ gX4 o_p1 a_p1 cI S_p1) [2, 3, 4, 5, 6, 7, 8, 9, 10, 11, 12, 13, 14, 15] rfl
        have hDc := hD.sub (ws' := gX4 (a_t 0) a_t_0 cI S_t_0 ++ gX4 o_p1 a_p1 cI S_p1) [2, 3, 4, 5, 6, 7, 8, 9, 10, 11, 12, 13, 14, 15] (by decide) rfl
        refine calX (runV E0.b E0.n (As := [.ref o_p1]) (rest := []) ⟨hx, hb, hml, hown, hts⟩ (c_X4_become l D cI (a_t 0) a_t_0 o_p1 a_p1 S_t_0 S_p1 _ h14) gX3_settledPair_X4_become rfl rfl rfl hdX4_become ⟨by decide, by decide⟩ hK hPc hDc 0 rfl rfl rfl hl.1 rfl (Nat.le_of_ble_eq_true rfl) dX3_settledPair_14 ⟨Nat.zero_le _, Nat.zero_le _⟩) hP hD hS hA [2, 3, 4, 5, 6, 7, 8, 9, 10, 11, 12, 13, 14, 15] [0, 1] [0, 1, 2, 3, 4, 5, 6, 7, 8, 9, 10, 11, 12, 13, 14, 15] (wr := gX3 o_t a_t cI S_t) (wn := gX3 o_t a_t cI S_t ++ (gX4 (a_t 0) a_t_0 cI u14.1 ++ gX4 o_p1 a_p1 cI u14.2)) rfl rfl (by decide) (by decide) rfl (by decide) (fun H locs hP hD hS => ?_)
        have hP : va_P D vwCl (gX3 o_t a_t cI S_t ++ (gX4 (a_t 0) a_t_0 cI u14.1 ++ gX4 o_p1 a_p1 cI u14.2)) H := hP
        have hD : va_D A (gX3 o_t a_t cI S_t ++ (gX4 (a_t 0) a_t_0 cI u14.1 ++ gX4 o_p1 a_p1 cI u14.2)) := hD
        refine W.eq (g2 := F0 m 17 ls []) rfl ?_
        refine lv_iload hx hb dX3_settledPair_17 (lv_at hl 5 rfl) ?_
        refine lv_iconst (v := (2 : Int32)) hx hb dX3_settledPair_19 (by decide) ?_
        refine lv_icmp_lt (tgt := 33) hx hb dX3_settledPair_20 (by decide) (fun c20 => ?_) (fun c20 => ?_)
        · replace hf := it_t c20 hf
          exact j33 S_t u14.1 u14.2 l2 l3 l4 l5 H locs ls hf hP hD hS (lv_sub hl [0, 1, 2, 3, 4, 5] rfl)
        · replace hf := it_f c20 hf
          refine lv_aload_n hx hb dX3_settledPair_23 rfl (lv_at hl 0 rfl) ?_
          refine va_get (D := D) (ci := 3) (v := .ref (a_t 0)) (C := RX3) (T := TX3) (N := 2) hx hb hts hinX3 hown hK hP 0 rfl rfl 0 (by decide) (hts (.fieldLink RX3 12 "OnlyStrangersHear$Plans" "trial" "LOnlyStrangersHear$Town;") (by decide +kernel)) (fun _ h9 => h9) rfl dX3_settledPair_24 ?_
          refine lv_iload_n hx hb dX3_settledPair_27 rfl (lv_at hl 2 rfl) ?_
          refine lv_iconst (v := (4 : Int32)) hx hb dX3_settledPair_28 (by decide) ?_
          refine lv_iconst (v := (5 : Int32)) hx hb dX3_settledPair_29 (by decide) ?_
          obtain ⟨r30, u30, h30, hf⟩ := bd_some hf
          have hPc := hP.sub (ws' := gX4 (a_t 0) a_t_0 cI u14.1) [2, 3, 4, 5, 6, 7, 8] rfl
          have hDc := hD.sub (ws' := gX4 (a_t 0) a_t_0 cI u14.1) [2, 3, 4, 5, 6, 7, 8] (by decide) rfl
          refine calX (runV E0.b E0.n (As := [.int l2, .int (4 : Int32), .int (5 : Int32)]) (rest := []) ⟨hx, hb, hml, hown, hts⟩ (c_X4_makeKind l D cI (a_t 0) a_t_0 u14.1 l2 (4 : Int32) (5 : Int32) _ h30) gX3_settledPair_X4_makeKind rfl rfl rfl hdX4_makeKind ⟨by decide, by decide⟩ hK hPc hDc 0 rfl rfl rfl hl.1 rfl (Nat.le_of_ble_eq_true rfl) dX3_settledPair_30 ⟨Nat.zero_le _, Nat.zero_le _⟩) hP hD hS hA [2, 3, 4, 5, 6, 7, 8] [0, 1, 9, 10, 11, 12, 13, 14, 15] [0, 1, 9, 10, 11, 12, 13, 14, 15, 2, 3, 4, 5, 6, 7, 8] (wr := gX3 o_t a_t cI S_t ++ gX4 o_p1 a_p1 cI u14.2) (wn := gX3 o_t a_t cI S_t ++ (gX4 (a_t 0) a_t_0 cI u30 ++ gX4 o_p1 a_p1 cI u14.2)) rfl rfl (by decide) (by decide) rfl (by decide) (fun H locs hP hD hS => ?_)
          have hP : va_P D vwCl (gX3 o_t a_t cI S_t ++ (gX4 (a_t 0) a_t_0 cI u30 ++ gX4 o_p1 a_p1 cI u14.2)) H := hP
          have hD : va_D A (gX3 o_t a_t cI S_t ++ (gX4 (a_t 0) a_t_0 cI u30 ++ gX4 o_p1 a_p1 cI u14.2)) := hD
          refine W.eq (g2 := F0 m 33 ls []) rfl ?_
          exact j33 S_t u30 u14.2 l2 l3 l4 l5 H locs ls hf hP hD hS (lv_sub hl [0, 1, 2, 3, 4, 5] rfl)
  unfold f_X3_settledPair at hf
  have hl : lv_has ls 6 [(0, .ref o_t), (1, .ref o_p1), (2, .int x2), (3, .int x3), (4, .int x4)] := hl
  obtain ⟨H, hHe⟩ : ∃ H : Heap, H = s.heap := ⟨_, rfl⟩
  obtain ⟨locs, hle⟩ : ∃ q : List Loc, q = [] := ⟨_, rfl⟩
  have hS : va_S A s.heap H locs := by rw [hHe, hle]; exact hS
  rw [← hHe] at hP
  suffices hgo : W p l e rmX3_settledPair s m ([.ref o_t, .ref o_p1, .int x2, .int x3, .int x4] : List Value).toArray below meth c H locs 0 0 Q (F0 m 0 ls []) by rw [hHe, hle] at hgo; exact hgo
  clear hHe hle
  refine lv_iconst (v := (0 : Int32)) hx hb dX3_settledPair_0 (by decide) ?_
  refine lv_istore (lv' := [(5, .int (0 : Int32)), (0, .ref o_t), (1, .ref o_p1), (2, .int x2), (3, .int x3), (4, .int x4)]) hx hb dX3_settledPair_1 hl (by decide) rfl (fun ls hl => ?_)
  exact j3 1000 S_t S_t_0 S_p1 x2 x3 x4 (0 : Int32) H locs ls hf hP hD hS (lv_sub hl [1, 2, 3, 4, 5, 0] rfl)
