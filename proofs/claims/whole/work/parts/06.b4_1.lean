abbrev rmX4_passCountingRight : Room := { frames := 3, cells := 0, slots := 0, locals := 68 }
set_option maxHeartbeats 4000000 in
set_option maxRecDepth 100000 in
theorem c_X4_passCountingRight (l : Launch) (D : va_G) (cI : ClassId) (o_t : Nat) (a_t : Nat → Nat) (S_t : G) (x1 : Int32) (x2 : Int32) (x3 : Int32) (out : Int32 × G) (hf : f_X4_passCountingRight S_t x1 x2 x3 = some out) : Cn E0 l yX4_passCountingRight wsX4_passCountingRight rmX4_passCountingRight D cI [.ref o_t, .int x1, .int x2, .int x3] (gX4 o_t a_t cI S_t) (some (.int out.1)) (gX4 o_t a_t cI out.2) := by
  refine Cn.mk (cc := cX4_passCountingRight) (maxL := 7) (ret := (some .int)) (by decide) rfl (Nat.le_of_ble_eq_true rfl) ?_
  intro p e s m below meth c A ls Q hx hb hml hown hts hK hA hP hD hS hl hr hlk hnm hE hQ
  have hown : s.vm.findClass RX4 = some m.cls := hown
  have hinX4 : ∀ w ∈ u_ws RX4 TX4 10, w ∈ wsX4_passCountingRight := by decide +kernel
  have j6 : ∀ (n6 : Nat) (S_t : G) (l1 : Int32) (l2 : Int32) (l3 : Int32) (l4 : Int32) (l5 : Int32) (H : Heap) (locs : List Loc) (ls : Array Slot), f_X4_passCountingRight_6 n6 S_t l1 l2 l3 l4 l5 = some out → va_P D vwCl (gX4 o_t a_t cI S_t) H → va_D A (gX4 o_t a_t cI S_t) → va_S A s.heap H locs → lv_has ls 7 [(0, .ref o_t), (1, .int l1), (2, .int l2), (3, .int l3), (4, .int l4), (5, .int l5)] → W p l e rmX4_passCountingRight s m ([.ref o_t, .int x1, .int x2, .int x3] : List Value).toArray below meth c H locs 0 0 Q (F0 m 6 ls []) := by
    intro n6
    induction n6 with
    | zero =>
      intro S_t l1 l2 l3 l4 l5 H locs ls hf
      exact no_some hf
    | succ n6 ih6 =>
      have j20 : ∀ (n20 : Nat) (S_t : G) (l1 : Int32) (l2 : Int32) (l3 : Int32) (l4 : Int32) (l5 : Int32) (l6 : Int32) (H : Heap) (locs : List Loc) (ls : Array Slot), f_X4_passCountingRight_20 (f_X4_passCountingRight_6 n6) n20 S_t l1 l2 l3 l4 l5 l6 = some out → va_P D vwCl (gX4 o_t a_t cI S_t) H → va_D A (gX4 o_t a_t cI S_t) → va_S A s.heap H locs → lv_has ls 7 [(0, .ref o_t), (1, .int l1), (2, .int l2), (3, .int l3), (4, .int l4), (5, .int l5), (6, .int l6)] → W p l e rmX4_passCountingRight s m ([.ref o_t, .int x1, .int x2, .int x3] : List Value).toArray below meth c H locs 0 0 Q (F0 m 20 ls []) := by
        intro n20
        induction n20 with
        | zero =>
          intro S_t l1 l2 l3 l4 l5 l6 H locs ls hf
          exact no_some hf
        | succ n20 ih20 =>
          intro S_t l1 l2 l3 l4 l5 l6 H locs ls hf hP hD hS hl
          replace hf : b_X4_passCountingRight_20 (f_X4_passCountingRight_6 n6) (f_X4_passCountingRight_20 (f_X4_passCountingRight_6 n6) n20) S_t l1 l2 l3 l4 l5 l6 = some out := hf
          unfold b_X4_passCountingRight_20 at hf
          refine lv_iload hx hb dX4_passCountingRight_20 (lv_at hl 6 rfl) ?_
          refine lv_iload_n hx hb dX4_passCountingRight_22 rfl (lv_at hl 2 rfl) ?_
          refine lv_icmp_ge (tgt := 66) hx hb dX4_passCountingRight_23 (by decide) (fun c23 => ?_) (fun c23 => ?_)
          · replace hf := it_t c23 hf
            refine lv_iinc (v := l5 + (1 : Int32)) (lv' := [(5, .int (l5 + (1 : Int32))), (0, .ref o_t), (1, .int l1), (2, .int l2), (3, .int l3), (4, .int l4), (6, .int l6)]) hx hb dX4_passCountingRight_66 hl (k := 5) rfl rfl (by decide) rfl (fun ls hl => ?_)
            refine lv_goto (tgt := 6) hx hb dX4_passCountingRight_69 (by decide) ?_
            exact ih6 S_t l1 l2 l3 l4 (l5 + (1 : Int32)) H locs ls hf hP hD hS (lv_sub hl [1, 2, 3, 4, 5, 0] rfl)
          · replace hf := it_f c23 hf
            refine lv_aload_n hx hb dX4_passCountingRight_26 rfl (lv_at hl 0 rfl) ?_
            refine lv_iload hx hb dX4_passCountingRight_27 (lv_at hl 6 rfl) ?_
            obtain ⟨r29, u29, h29, hf⟩ := bd_some hf
            refine calX0 (runV E0.b E0.n (As := [.int l6]) (rest := []) ⟨hx, hb, hml, hown, hts⟩ (c_X4_isRinging l D cI o_t a_t S_t l6 _ h29) gX4_passCountingRight_X4_isRinging rfl rfl rfl hdX4_isRinging ⟨by decide, by decide⟩ hK hP hD 0 rfl rfl rfl hl.1 rfl (Nat.le_of_ble_eq_true rfl) dX4_passCountingRight_29 ⟨Nat.zero_le _, Nat.zero_le _⟩) hD hS hA (fun H locs hP hD hS => ?_)
            have hP : va_P D vwCl (gX4 o_t a_t cI u29) H := hP
            have hD : va_D A (gX4 o_t a_t cI u29) := hD
            refine W.eq (g2 := F0 m 32 ls [.int r29]) rfl ?_
            refine lv_if_eq (tgt := 60) hx hb dX4_passCountingRight_32 (by decide) (fun c32 => ?_) (fun c32 => ?_)
            · replace hf := it_t c32 hf
              refine lv_iinc (v := l6 + (1 : Int32)) (lv' := [(6, .int (l6 + (1 : Int32))), (0, .ref o_t), (1, .int l1), (2, .int l2), (3, .int l3), (4, .int l4), (5, .int l5)]) hx hb dX4_passCountingRight_60 hl (k := 6) rfl rfl (by decide) rfl (fun ls hl => ?_)
              refine lv_goto (tgt := 20) hx hb dX4_passCountingRight_63 (by decide) ?_
              exact ih20 u29 l1 l2 l3 l4 l5 (l6 + (1 : Int32)) H locs ls hf hP hD hS (lv_sub hl [1, 2, 3, 4, 5, 6, 0] rfl)
            · replace hf := it_f c32 hf
              refine lv_aload_n hx hb dX4_passCountingRight_35 rfl (lv_at hl 0 rfl) ?_
              refine lv_iload hx hb dX4_passCountingRight_36 (lv_at hl 6 rfl) ?_
              refine lv_aload_n hx hb dX4_passCountingRight_38 rfl (lv_at hl 0 rfl) ?_
              refine lv_iload hx hb dX4_passCountingRight_39 (lv_at hl 6 rfl) ?_
              obtain ⟨r41, u41, h41, hf⟩ := bd_some hf
              refine calX0 (runV E0.b E0.n (As := [.int l6]) (rest := [.int l6, .ref o_t]) ⟨hx, hb, hml, hown, hts⟩ (c_X4_hearersOf l D cI o_t a_t u29 l6 _ h41) gX4_passCountingRight_X4_hearersOf rfl rfl rfl hdX4_hearersOf ⟨by decide, by decide⟩ hK hP hD 0 rfl rfl rfl hl.1 rfl (Nat.le_of_ble_eq_true rfl) dX4_passCountingRight_41 ⟨Nat.zero_le _, Nat.zero_le _⟩) hD hS hA (fun H locs hP hD hS => ?_)
              have hP : va_P D vwCl (gX4 o_t a_t cI u41) H := hP
              have hD : va_D A (gX4 o_t a_t cI u41) := hD
              refine W.eq (g2 := F0 m 44 ls [.int r41, .int l6, .ref o_t]) rfl ?_
              obtain ⟨r44, u44, h44, hf⟩ := bd_some hf
              refine calX0 (runV E0.b E0.n (As := [.int l6, .int r41]) (rest := []) ⟨hx, hb, hml, hown, hts⟩ (c_X4_saidOf l D cI o_t a_t u41 l6 r41 _ h44) gX4_passCountingRight_X4_saidOf rfl rfl rfl hdX4_saidOf ⟨by decide, by decide⟩ hK hP hD 0 rfl rfl rfl hl.1 rfl (Nat.le_of_ble_eq_true rfl) dX4_passCountingRight_44 ⟨Nat.zero_le _, Nat.zero_le _⟩) hD hS hA (fun H locs hP hD hS => ?_)
              have hP : va_P D vwCl (gX4 o_t a_t cI u44) H := hP
              have hD : va_D A (gX4 o_t a_t cI u44) := hD
              refine W.eq (g2 := F0 m 47 ls [.int r44]) rfl ?_
              refine lv_aload_n hx hb dX4_passCountingRight_47 rfl (lv_at hl 0 rfl) ?_
              refine va_get (D := D) (ci := 4) (v := .ref (a_t 1)) (C := RX4) (T := TX4) (N := 10) hx hb hts hinX4 hown hK hP 0 rfl rfl 1 (by decide) (hts (.fieldLink RX4 9 "OnlyStrangersHear$Town" "hour" "[I") (by decide +kernel)) (fun _ h9 => h9) rfl dX4_passCountingRight_48 ?_
              refine lv_iload hx hb dX4_passCountingRight_51 (lv_at hl 6 rfl) ?_
              obtain ⟨b53, hf⟩ := ck_some hf
              refine va_iald hx hb hK hP 1 0 rfl rfl b53 dX4_passCountingRight_53 ?_
              refine lv_icmp_ne (tgt := 60) hx hb dX4_passCountingRight_54 (by decide) (fun c54 => ?_) (fun c54 => ?_)
              · replace hf := it_f c54 hf
                refine lv_iinc (v := l6 + (1 : Int32)) (lv' := [(6, .int (l6 + (1 : Int32))), (0, .ref o_t), (1, .int l1), (2, .int l2), (3, .int l3), (4, .int l4), (5, .int l5)]) hx hb dX4_passCountingRight_60 hl (k := 6) rfl rfl (by decide) rfl (fun ls hl => ?_)
                refine lv_goto (tgt := 20) hx hb dX4_passCountingRight_63 (by decide) ?_
                exact ih20 u44 l1 l2 l3 l4 l5 (l6 + (1 : Int32)) H locs ls hf hP hD hS (lv_sub hl [1, 2, 3, 4, 5, 6, 0] rfl)
              · replace hf := it_t c54 hf
                refine lv_iinc (v := l4 + (1 : Int32)) (lv' := [(4, .int (l4 + (1 : Int32))), (0, .ref o_t), (1, .int l1), (2, .int l2), (3, .int l3), (5, .int l5), (6, .int l6)]) hx hb dX4_passCountingRight_57 hl (k := 4) rfl rfl (by decide) rfl (fun ls hl => ?_)
                refine lv_iinc (v := l6 + (1 : Int32)) (lv' := [(6, .int (l6 + (1 : Int32))), (4, .int (l4 + (1 : Int32))), (0, .ref o_t), (1, .int l1), (2, .int l2), (3, .int l3), (5, .int l5)]) hx hb dX4_passCountingRight_60 hl (k := 6) rfl rfl (by decide) rfl (fun ls hl => ?_)
                refine lv_goto (tgt := 20) hx hb dX4_passCountingRight_63 (by decide) ?_
                exact ih20 u44 l1 l2 l3 (l4 + (1 : Int32)) l5 (l6 + (1 : Int32)) H locs ls hf hP hD hS (lv_sub hl [2, 3, 4, 5, 1, 6, 0] rfl)
      intro S_t l1 l2 l3 l4 l5 H locs ls hf hP hD hS hl
      replace hf : b_X4_passCountingRight_6 (f_X4_passCountingRight_6 n6) S_t l1 l2 l3 l4 l5 = some out := hf
      unfold b_X4_passCountingRight_6 at hf
      refine lv_iload hx hb dX4_passCountingRight_6 (lv_at hl 5 rfl) ?_
      refine lv_iload_n hx hb dX4_passCountingRight_8 rfl (lv_at hl 3 rfl) ?_
      refine lv_icmp_gt (tgt := 72) hx hb dX4_passCountingRight_9 (by decide) (fun c9 => ?_) (fun c9 => ?_)
      · replace hf := it_t c9 hf
        refine lv_iload hx hb dX4_passCountingRight_72 (lv_at hl 4 rfl) ?_
        have e := so_some hf
        subst e
        exact ri hx hb hK hr hlk hQ dX4_passCountingRight_74 hP hD hS
      · replace hf := it_f c9 hf
        refine lv_aload_n hx hb dX4_passCountingRight_12 rfl (lv_at hl 0 rfl) ?_
        refine lv_iconst (v := (1 : Int32)) hx hb dX4_passCountingRight_13 (by decide) ?_
        obtain ⟨r14, u14, h14, hf⟩ := bd_some hf
        refine calX0 (runV E0.b E0.n (As := [.int (1 : Int32)]) (rest := []) ⟨hx, hb, hml, hown, hts⟩ (c_X4_pass l D cI o_t a_t S_t (1 : Int32) _ h14) gX4_passCountingRight_X4_pass rfl rfl rfl hdX4_pass ⟨by decide, by decide⟩ hK hP hD 0 rfl rfl rfl hl.1 rfl (Nat.le_of_ble_eq_true rfl) dX4_passCountingRight_14 ⟨Nat.zero_le _, Nat.zero_le _⟩) hD hS hA (fun H locs hP hD hS => ?_)
        have hP : va_P D vwCl (gX4 o_t a_t cI u14) H := hP
        have hD : va_D A (gX4 o_t a_t cI u14) := hD
        refine W.eq (g2 := F0 m 17 ls []) rfl ?_
        refine lv_iload_n hx hb dX4_passCountingRight_17 rfl (lv_at hl 1 rfl) ?_
        refine lv_istore (lv' := [(6, .int l1), (0, .ref o_t), (1, .int l1), (2, .int l2), (3, .int l3), (4, .int l4), (5, .int l5)]) hx hb dX4_passCountingRight_18 hl (by decide) rfl (fun ls hl => ?_)
        exact j20 1000 u14 l1 l2 l3 l4 l5 l1 H locs ls hf hP hD hS (lv_sub hl [1, 2, 3, 4, 5, 6, 0] rfl)
  unfold f_X4_passCountingRight at hf
  have hl : lv_has ls 7 [(0, .ref o_t), (1, .int x1), (2, .int x2), (3, .int x3)] := hl
  obtain ⟨H, hHe⟩ : ∃ H : Heap, H = s.heap := ⟨_, rfl⟩
  obtain ⟨locs, hle⟩ : ∃ q : List Loc, q = [] := ⟨_, rfl⟩
  have hS : va_S A s.heap H locs := by rw [hHe, hle]; exact hS
  rw [← hHe] at hP
  suffices hgo : W p l e rmX4_passCountingRight s m ([.ref o_t, .int x1, .int x2, .int x3] : List Value).toArray below meth c H locs 0 0 Q (F0 m 0 ls []) by rw [hHe, hle] at hgo; exact hgo
  clear hHe hle
  refine lv_iconst (v := (0 : Int32)) hx hb dX4_passCountingRight_0 (by decide) ?_
  refine lv_istore (lv' := [(4, .int (0 : Int32)), (0, .ref o_t), (1, .int x1), (2, .int x2), (3, .int x3)]) hx hb dX4_passCountingRight_1 hl (by decide) rfl (fun ls hl => ?_)
  refine lv_iconst (v := (1 : Int32)) hx hb dX4_passCountingRight_3 (by decide) ?_
  refine lv_istore (lv' := [(5, .int (1 : Int32)), (4, .int (0 : Int32)), (0, .ref o_t), (1, .int x1), (2, .int x2), (3, .int x3)]) hx hb dX4_passCountingRight_4 hl (by decide) rfl (fun ls hl => ?_)
  exact j6 1000 S_t x1 x2 x3 (0 : Int32) (1 : Int32) H locs ls hf hP hD hS (lv_sub hl [2, 3, 4, 5, 1, 0] rfl)
abbrev rmX4_hearersOfSome : Room := { frames := 3, cells := 0, slots := 0, locals := 65 }
set_option maxHeartbeats 4000000 in
set_option maxRecDepth 100000 in
theorem c_X4_hearersOfSome (l : Launch) (D : va_G) (cI : ClassId) (o_t : Nat) (a_t : Nat → Nat) (S_t : G) (out : Int32 × G) (hf : f_X4_hearersOfSome S_t = some out) : Cn E0 l yX4_hearersOfSome wsX4_hearersOfSome rmX4_hearersOfSome D cI [.ref o_t] (gX4 o_t a_t cI S_t) (some (.int out.1)) (gX4 o_t a_t cI out.2) := by
  refine Cn.mk (cc := cX4_hearersOfSome) (maxL := 3) (ret := (some .int)) (by decide) rfl (Nat.le_of_ble_eq_true rfl) ?_
  intro p e s m below meth c A ls Q hx hb hml hown hts hK hA hP hD hS hl hr hlk hnm hE hQ
  have hown : s.vm.findClass RX4 = some m.cls := hown
  have hinX4 : ∀ w ∈ u_ws RX4 TX4 10, w ∈ wsX4_hearersOfSome := by decide +kernel
  have j4 : ∀ (n4 : Nat) (S_t : G) (l1 : Int32) (l2 : Int32) (H : Heap) (locs : List Loc) (ls : Array Slot), f_X4_hearersOfSome_4 n4 S_t l1 l2 = some out → va_P D vwCl (gX4 o_t a_t cI S_t) H → va_D A (gX4 o_t a_t cI S_t) → va_S A s.heap H locs → lv_has ls 3 [(0, .ref o_t), (1, .int l1), (2, .int l2)] → W p l e rmX4_hearersOfSome s m ([.ref o_t] : List Value).toArray below meth c H locs 0 0 Q (F0 m 4 ls []) := by
    intro n4
    induction n4 with
    | zero =>
      intro S_t l1 l2 H locs ls hf
      exact no_some hf
    | succ n4 ih4 =>
      intro S_t l1 l2 H locs ls hf hP hD hS hl
      replace hf : b_X4_hearersOfSome_4 (f_X4_hearersOfSome_4 n4) S_t l1 l2 = some out := hf
      unfold b_X4_hearersOfSome_4 at hf
      refine lv_iload_n hx hb dX4_hearersOfSome_4 rfl (lv_at hl 2 rfl) ?_
      refine lv_aload_n hx hb dX4_hearersOfSome_5 rfl (lv_at hl 0 rfl) ?_
      refine va_get (D := D) (ci := 4) (v := .int (S_t.1 3)) (C := RX4) (T := TX4) (N := 10) hx hb hts hinX4 hown hK hP 0 rfl rfl 3 (by decide) (hts (.fieldLink RX4 43 "OnlyStrangersHear$Town" "people" "I") (by decide +kernel)) (fun _ h9 => h9) rfl dX4_hearersOfSome_6 ?_
      refine lv_icmp_ge (tgt := 32) hx hb dX4_hearersOfSome_9 (by decide) (fun c9 => ?_) (fun c9 => ?_)
      · replace hf := it_t c9 hf
        refine lv_iload_n hx hb dX4_hearersOfSome_32 rfl (lv_at hl 1 rfl) ?_
        have e := so_some hf
        subst e
        exact ri hx hb hK hr hlk hQ dX4_hearersOfSome_33 hP hD hS
      · replace hf := it_f c9 hf
        refine lv_aload_n hx hb dX4_hearersOfSome_12 rfl (lv_at hl 0 rfl) ?_
        refine lv_iload_n hx hb dX4_hearersOfSome_13 rfl (lv_at hl 2 rfl) ?_
        obtain ⟨r14, u14, h14, hf⟩ := bd_some hf
        refine calX0 (runV E0.b E0.n (As := [.int l2]) (rest := []) ⟨hx, hb, hml, hown, hts⟩ (c_X4_hearsSome l D cI o_t a_t S_t l2 _ h14) gX4_hearersOfSome_X4_hearsSome rfl rfl rfl hdX4_hearsSome ⟨by decide, by decide⟩ hK hP hD 0 rfl rfl rfl hl.1 rfl (Nat.le_of_ble_eq_true rfl) dX4_hearersOfSome_14 ⟨Nat.zero_le _, Nat.zero_le _⟩) hD hS hA (fun H locs hP hD hS => ?_)
        have hP : va_P D vwCl (gX4 o_t a_t cI u14) H := hP
        have hD : va_D A (gX4 o_t a_t cI u14) := hD
        refine W.eq (g2 := F0 m 17 ls [.int r14]) rfl ?_
        refine lv_if_eq (tgt := 26) hx hb dX4_hearersOfSome_17 (by decide) (fun c17 => ?_) (fun c17 => ?_)
        · replace hf := it_t c17 hf
          refine lv_iinc (v := l2 + (1 : Int32)) (lv' := [(2, .int (l2 + (1 : Int32))), (0, .ref o_t), (1, .int l1)]) hx hb dX4_hearersOfSome_26 hl (k := 2) rfl rfl (by decide) rfl (fun ls hl => ?_)
          refine lv_goto (tgt := 4) hx hb dX4_hearersOfSome_29 (by decide) ?_
          exact ih4 u14 l1 (l2 + (1 : Int32)) H locs ls hf hP hD hS (lv_sub hl [1, 2, 0] rfl)
        · replace hf := it_f c17 hf
          refine lv_iload_n hx hb dX4_hearersOfSome_20 rfl (lv_at hl 1 rfl) ?_
          refine lv_iconst (v := (1 : Int32)) hx hb dX4_hearersOfSome_21 (by decide) ?_
          refine lv_iload_n hx hb dX4_hearersOfSome_22 rfl (lv_at hl 2 rfl) ?_
          refine lv_ishl hx hb dX4_hearersOfSome_23 ?_
          refine lv_ior hx hb dX4_hearersOfSome_24 ?_
          refine lv_topi (fun v25 e25 => ?_)
          replace hf := lt_at e25 hf
          refine lv_istore_n (lv' := [(1, .int v25), (0, .ref o_t), (2, .int l2)]) hx hb dX4_hearersOfSome_25 rfl hl (by decide) rfl (fun ls hl => ?_)
          refine lv_iinc (v := l2 + (1 : Int32)) (lv' := [(2, .int (l2 + (1 : Int32))), (1, .int v25), (0, .ref o_t)]) hx hb dX4_hearersOfSome_26 hl (k := 2) rfl rfl (by decide) rfl (fun ls hl => ?_)
          refine lv_goto (tgt := 4) hx hb dX4_hearersOfSome_29 (by decide) ?_
          exact ih4 u14 v25 (l2 + (1 : Int32)) H locs ls hf hP hD hS (lv_sub hl [2, 1, 0] rfl)
  unfold f_X4_hearersOfSome at hf
  have hl : lv_has ls 3 [(0, .ref o_t)] := hl
  obtain ⟨H, hHe⟩ : ∃ H : Heap, H = s.heap := ⟨_, rfl⟩
  obtain ⟨locs, hle⟩ : ∃ q : List Loc, q = [] := ⟨_, rfl⟩
  have hS : va_S A s.heap H locs := by rw [hHe, hle]; exact hS
  rw [← hHe] at hP
  suffices hgo : W p l e rmX4_hearersOfSome s m ([.ref o_t] : List Value).toArray below meth c H locs 0 0 Q (F0 m 0 ls []) by rw [hHe, hle] at hgo; exact hgo
  clear hHe hle
  refine lv_iconst (v := (0 : Int32)) hx hb dX4_hearersOfSome_0 (by decide) ?_
  refine lv_istore_n (lv' := [(1, .int (0 : Int32)), (0, .ref o_t)]) hx hb dX4_hearersOfSome_1 rfl hl (by decide) rfl (fun ls hl => ?_)
  refine lv_iconst (v := (0 : Int32)) hx hb dX4_hearersOfSome_2 (by decide) ?_
  refine lv_istore_n (lv' := [(2, .int (0 : Int32)), (1, .int (0 : Int32)), (0, .ref o_t)]) hx hb dX4_hearersOfSome_3 rfl hl (by decide) rfl (fun ls hl => ?_)
  exact j4 1000 S_t (0 : Int32) (0 : Int32) H locs ls hf hP hD hS (lv_sub hl [2, 1, 0] rfl)
abbrev rmX4_makeKind : Room := { frames := 0, cells := 0, slots := 0, locals := 0 }
set_option maxHeartbeats 4000000 in
set_option maxRecDepth 100000 in
theorem c_X4_makeKind (l : Launch) (D : va_G) (cI : ClassId) (o_t : Nat) (a_t : Nat → Nat) (S_t : G) (x1 : Int32) (x2 : Int32) (x3 : Int32) (out : Unit × G) (hf : f_X4_makeKind S_t x1 x2 x3 = some out) : Cn E0 l yX4_makeKind wsX4_makeKind rmX4_makeKind D cI [.ref o_t, .int x1, .int x2, .int x3] (gX4 o_t a_t cI S_t) none (gX4 o_t a_t cI out.2) := by
  refine Cn.mk (cc := cX4_makeKind) (maxL := 4) (ret := none) (by decide) rfl (Nat.le_of_ble_eq_true rfl) ?_
  intro p e s m below meth c A ls Q hx hb hml hown hts hK hA hP hD hS hl hr hlk hnm hE hQ
  have hown : s.vm.findClass RX4 = some m.cls := hown
  have hinX4 : ∀ w ∈ u_ws RX4 TX4 10, w ∈ wsX4_makeKind := by decide +kernel
  unfold f_X4_makeKind at hf
  have hl : lv_has ls 4 [(0, .ref o_t), (1, .int x1), (2, .int x2), (3, .int x3)] := hl
  obtain ⟨H, hHe⟩ : ∃ H : Heap, H = s.heap := ⟨_, rfl⟩
  obtain ⟨locs, hle⟩ : ∃ q : List Loc, q = [] := ⟨_, rfl⟩
  have hS : va_S A s.heap H locs := by rw [hHe, hle]; exact hS
  rw [← hHe] at hP
  suffices hgo : W p l e rmX4_makeKind s m ([.ref o_t, .int x1, .int x2, .int x3] : List Value).toArray below meth c H locs 0 0 Q (F0 m 0 ls []) by rw [hHe, hle] at hgo; exact hgo
  clear hHe hle
  refine lv_aload_n hx hb dX4_makeKind_0 rfl (lv_at hl 0 rfl) ?_
  refine va_get (D := D) (ci := 4) (v := .ref (a_t 4)) (C := RX4) (T := TX4) (N := 10) hx hb hts hinX4 hown hK hP 0 rfl rfl 4 (by decide) (hts (.fieldLink RX4 18 "OnlyStrangersHear$Town" "kind" "[I") (by decide +kernel)) (fun _ h9 => h9) rfl dX4_makeKind_1 ?_
  refine lv_iload_n hx hb dX4_makeKind_4 rfl (lv_at hl 1 rfl) ?_
  refine lv_iload_n hx hb dX4_makeKind_5 rfl (lv_at hl 2 rfl) ?_
  obtain ⟨b6, hf⟩ := ck_some hf
  refine va_iast hx hb hK hP hD hS 3 0 rfl rfl b6 dX4_makeKind_6 (fun H locs hP hD hS => ?_)
  have hP : va_P D vwCl (gX4 o_t a_t cI (pA S_t 4 x1.toNatClampNeg x2)) H := hP
  have hD : va_D A (gX4 o_t a_t cI (pA S_t 4 x1.toNatClampNeg x2)) := hD
  obtain ⟨g6, e6, hf⟩ := lt_some hf
  rw [← e6] at hP hD
  refine lv_aload_n hx hb dX4_makeKind_7 rfl (lv_at hl 0 rfl) ?_
  refine va_get (D := D) (ci := 4) (v := .ref (a_t 5)) (C := RX4) (T := TX4) (N := 10) hx hb hts hinX4 hown hK hP 0 rfl rfl 5 (by decide) (hts (.fieldLink RX4 21 "OnlyStrangersHear$Town" "figure" "[I") (by decide +kernel)) (fun _ h9 => h9) rfl dX4_makeKind_8 ?_
  refine lv_iload_n hx hb dX4_makeKind_11 rfl (lv_at hl 1 rfl) ?_
  refine lv_iload_n hx hb dX4_makeKind_12 rfl (lv_at hl 3 rfl) ?_
  obtain ⟨b13, hf⟩ := ck_some hf
  refine va_iast hx hb hK hP hD hS 4 0 rfl rfl b13 dX4_makeKind_13 (fun H locs hP hD hS => ?_)
  have hP : va_P D vwCl (gX4 o_t a_t cI (pA g6 5 x1.toNatClampNeg x3)) H := hP
  have hD : va_D A (gX4 o_t a_t cI (pA g6 5 x1.toNatClampNeg x3)) := hD
  obtain ⟨g13, e13, hf⟩ := lt_some hf
  rw [← e13] at hP hD
  have e := so_some hf
  subst e
  exact rv hx hb hK hr hlk hQ dX4_makeKind_14 hP hD hS
abbrev rmX4_hourBy : Room := { frames := 1, cells := 0, slots := 0, locals := 21 }
set_option maxHeartbeats 4000000 in
set_option maxRecDepth 100000 in
theorem c_X4_hourBy (l : Launch) (D : va_G) (cI : ClassId) (o_t : Nat) (a_t : Nat → Nat) (S_t : G) (x1 : Int32) (x2 : Int32) (out : Int32 × G) (hf : f_X4_hourBy S_t x1 x2 = some out) : Cn E0 l yX4_hourBy wsX4_hourBy rmX4_hourBy D cI [.ref o_t, .int x1, .int x2] (gX4 o_t a_t cI S_t) (some (.int out.1)) (gX4 o_t a_t cI out.2) := by
  refine Cn.mk (cc := cX4_hourBy) (maxL := 3) (ret := (some .int)) (by decide) rfl (Nat.le_of_ble_eq_true rfl) ?_
  intro p e s m below meth c A ls Q hx hb hml hown hts hK hA hP hD hS hl hr hlk hnm hE hQ
  have hown : s.vm.findClass RX4 = some m.cls := hown
  have hinX4 : ∀ w ∈ u_ws RX4 TX4 10, w ∈ wsX4_hourBy := by decide +kernel
  unfold f_X4_hourBy at hf
  have hl : lv_has ls 3 [(0, .ref o_t), (1, .int x1), (2, .int x2)] := hl
  obtain ⟨H, hHe⟩ : ∃ H : Heap, H = s.heap := ⟨_, rfl⟩
  obtain ⟨locs, hle⟩ : ∃ q : List Loc, q = [] := ⟨_, rfl⟩
  have hS : va_S A s.heap H locs := by rw [hHe, hle]; exact hS
  rw [← hHe] at hP
  suffices hgo : W p l e rmX4_hourBy s m ([.ref o_t, .int x1, .int x2] : List Value).toArray below meth c H locs 0 0 Q (F0 m 0 ls []) by rw [hHe, hle] at hgo; exact hgo
  clear hHe hle
  refine lv_aload_n hx hb dX4_hourBy_0 rfl (lv_at hl 0 rfl) ?_
  refine va_get (D := D) (ci := 4) (v := .ref (a_t 1)) (C := RX4) (T := TX4) (N := 10) hx hb hts hinX4 hown hK hP 0 rfl rfl 1 (by decide) (hts (.fieldLink RX4 9 "OnlyStrangersHear$Town" "hour" "[I") (by decide +kernel)) (fun _ h9 => h9) rfl dX4_hourBy_1 ?_
  refine lv_iload_n hx hb dX4_hourBy_4 rfl (lv_at hl 2 rfl) ?_
  obtain ⟨b5, hf⟩ := ck_some hf
  refine va_iald hx hb hK hP 1 0 rfl rfl b5 dX4_hourBy_5 ?_
  refine lv_aload_n hx hb dX4_hourBy_6 rfl (lv_at hl 0 rfl) ?_
  refine lv_iload_n hx hb dX4_hourBy_7 rfl (lv_at hl 1 rfl) ?_
  obtain ⟨r8, u8, h8, hf⟩ := bd_some hf
  refine calX0 (runV E0.b E0.n (As := [.int x1]) (rest := [.int (S_t.2 1 x2.toNatClampNeg)]) ⟨hx, hb, hml, hown, hts⟩ (c_X4_hoursLater l D cI o_t a_t S_t x1 _ h8) gX4_hourBy_X4_hoursLater rfl rfl rfl hdX4_hoursLater ⟨by decide, by decide⟩ hK hP hD 0 rfl rfl rfl hl.1 rfl (Nat.le_of_ble_eq_true rfl) dX4_hourBy_8 ⟨Nat.zero_le _, Nat.zero_le _⟩) hD hS hA (fun H locs hP hD hS => ?_)
  have hP : va_P D vwCl (gX4 o_t a_t cI u8) H := hP
  have hD : va_D A (gX4 o_t a_t cI u8) := hD
  refine W.eq (g2 := F0 m 11 ls [.int r8, .int (S_t.2 1 x2.toNatClampNeg)]) rfl ?_
  refine lv_iadd hx hb dX4_hourBy_11 ?_
  refine lv_bipush (v := (24 : Int32)) hx hb dX4_hourBy_12 (by decide) ?_
  obtain ⟨z14, hf⟩ := nz_some hf
  refine lv_irem hx hb dX4_hourBy_14 z14 ?_
  have e := so_some hf
  subst e
  exact ri hx hb hK hr hlk hQ dX4_hourBy_15 hP hD hS
abbrev rmX4_allSlept : Room := { frames := 0, cells := 0, slots := 0, locals := 0 }
set_option maxHeartbeats 4000000 in
set_option maxRecDepth 100000 in
theorem c_X4_allSlept (l : Launch) (D : va_G) (cI : ClassId) (o_t : Nat) (a_t : Nat → Nat) (S_t : G) (out : Int32 × G) (hf : f_X4_allSlept S_t = some out) : Cn E0 l yX4_allSlept wsX4_allSlept rmX4_allSlept D cI [.ref o_t] (gX4 o_t a_t cI S_t) (some (.int out.1)) (gX4 o_t a_t cI out.2) := by
  refine Cn.mk (cc := cX4_allSlept) (maxL := 3) (ret := (some .int)) (by decide) rfl (Nat.le_of_ble_eq_true rfl) ?_
  intro p e s m below meth c A ls Q hx hb hml hown hts hK hA hP hD hS hl hr hlk hnm hE hQ
  have hown : s.vm.findClass RX4 = some m.cls := hown
  have hinX4 : ∀ w ∈ u_ws RX4 TX4 10, w ∈ wsX4_allSlept := by decide +kernel
  have j4 : ∀ (n4 : Nat) (S_t : G) (l1 : Int32) (l2 : Int32) (H : Heap) (locs : List Loc) (ls : Array Slot), f_X4_allSlept_4 n4 S_t l1 l2 = some out → va_P D vwCl (gX4 o_t a_t cI S_t) H → va_D A (gX4 o_t a_t cI S_t) → va_S A s.heap H locs → lv_has ls 3 [(0, .ref o_t), (1, .int l1), (2, .int l2)] → W p l e rmX4_allSlept s m ([.ref o_t] : List Value).toArray below meth c H locs 0 0 Q (F0 m 4 ls []) := by
    intro n4
    induction n4 with
    | zero =>
      intro S_t l1 l2 H locs ls hf
      exact no_some hf
    | succ n4 ih4 =>
      intro S_t l1 l2 H locs ls hf hP hD hS hl
      replace hf : b_X4_allSlept_4 (f_X4_allSlept_4 n4) S_t l1 l2 = some out := hf
      unfold b_X4_allSlept_4 at hf
      refine lv_iload_n hx hb dX4_allSlept_4 rfl (lv_at hl 2 rfl) ?_
      refine lv_aload_n hx hb dX4_allSlept_5 rfl (lv_at hl 0 rfl) ?_
      refine va_get (D := D) (ci := 4) (v := .int (S_t.1 3)) (C := RX4) (T := TX4) (N := 10) hx hb hts hinX4 hown hK hP 0 rfl rfl 3 (by decide) (hts (.fieldLink RX4 43 "OnlyStrangersHear$Town" "people" "I") (by decide +kernel)) (fun _ h9 => h9) rfl dX4_allSlept_6 ?_
      refine lv_icmp_ge (tgt := 27) hx hb dX4_allSlept_9 (by decide) (fun c9 => ?_) (fun c9 => ?_)
      · replace hf := it_t c9 hf
        refine lv_iload_n hx hb dX4_allSlept_27 rfl (lv_at hl 1 rfl) ?_
        have e := so_some hf
        subst e
        exact ri hx hb hK hr hlk hQ dX4_allSlept_28 hP hD hS
      · replace hf := it_f c9 hf
        refine lv_iload_n hx hb dX4_allSlept_12 rfl (lv_at hl 1 rfl) ?_
        refine lv_aload_n hx hb dX4_allSlept_13 rfl (lv_at hl 0 rfl) ?_
        refine va_get (D := D) (ci := 4) (v := .ref (a_t 6)) (C := RX4) (T := TX4) (N := 10) hx hb hts hinX4 hown hK hP 0 rfl rfl 6 (by decide) (hts (.fieldLink RX4 24 "OnlyStrangersHear$Town" "slept" "[I") (by decide +kernel)) (fun _ h9 => h9) rfl dX4_allSlept_14 ?_
        refine lv_iload_n hx hb dX4_allSlept_17 rfl (lv_at hl 2 rfl) ?_
        obtain ⟨b18, hf⟩ := ck_some hf
        refine va_iald hx hb hK hP 5 0 rfl rfl b18 dX4_allSlept_18 ?_
        refine lv_iadd hx hb dX4_allSlept_19 ?_
        refine lv_topi (fun v20 e20 => ?_)
        replace hf := lt_at e20 hf
        refine lv_istore_n (lv' := [(1, .int v20), (0, .ref o_t), (2, .int l2)]) hx hb dX4_allSlept_20 rfl hl (by decide) rfl (fun ls hl => ?_)
        refine lv_iinc (v := l2 + (1 : Int32)) (lv' := [(2, .int (l2 + (1 : Int32))), (1, .int v20), (0, .ref o_t)]) hx hb dX4_allSlept_21 hl (k := 2) rfl rfl (by decide) rfl (fun ls hl => ?_)
        refine lv_goto (tgt := 4) hx hb dX4_allSlept_24 (by decide) ?_
        exact ih4 S_t v20 (l2 + (1 : Int32)) H locs ls hf hP hD hS (lv_sub hl [2, 1, 0] rfl)
  unfold f_X4_allSlept at hf
  have hl : lv_has ls 3 [(0, .ref o_t)] := hl
  obtain ⟨H, hHe⟩ : ∃ H : Heap, H = s.heap := ⟨_, rfl⟩
  obtain ⟨locs, hle⟩ : ∃ q : List Loc, q = [] := ⟨_, rfl⟩
  have hS : va_S A s.heap H locs := by rw [hHe, hle]; exact hS
  rw [← hHe] at hP
  suffices hgo : W p l e rmX4_allSlept s m ([.ref o_t] : List Value).toArray below meth c H locs 0 0 Q (F0 m 0 ls []) by rw [hHe, hle] at hgo; exact hgo
  clear hHe hle
  refine lv_iconst (v := (0 : Int32)) hx hb dX4_allSlept_0 (by decide) ?_
  refine lv_istore_n (lv' := [(1, .int (0 : Int32)), (0, .ref o_t)]) hx hb dX4_allSlept_1 rfl hl (by decide) rfl (fun ls hl => ?_)
  refine lv_iconst (v := (0 : Int32)) hx hb dX4_allSlept_2 (by decide) ?_
  refine lv_istore_n (lv' := [(2, .int (0 : Int32)), (1, .int (0 : Int32)), (0, .ref o_t)]) hx hb dX4_allSlept_3 rfl hl (by decide) rfl (fun ls hl => ?_)
  exact j4 1000 S_t (0 : Int32) (0 : Int32) H locs ls hf hP hD hS (lv_sub hl [2, 1, 0] rfl)
abbrev rmX4_daysTillRinging : Room := { frames := 0, cells := 0, slots := 0, locals := 0 }
set_option maxHeartbeats 4000000 in
set_option maxRecDepth 100000 in
theorem c_X4_daysTillRinging (l : Launch) (D : va_G) (cI : ClassId) (o_t : Nat) (a_t : Nat → Nat) (S_t : G) (x1 : Int32) (out : Int32 × G) (hf : f_X4_daysTillRinging S_t x1 = some out) : Cn E0 l yX4_daysTillRinging wsX4_daysTillRinging rmX4_daysTillRinging D cI [.ref o_t, .int x1] (gX4 o_t a_t cI S_t) (some (.int out.1)) (gX4 o_t a_t cI out.2) := by
  refine Cn.mk (cc := cX4_daysTillRinging) (maxL := 2) (ret := (some .int)) (by decide) rfl (Nat.le_of_ble_eq_true rfl) ?_
  intro p e s m below meth c A ls Q hx hb hml hown hts hK hA hP hD hS hl hr hlk hnm hE hQ
  have hown : s.vm.findClass RX4 = some m.cls := hown
  have hinX4 : ∀ w ∈ u_ws RX4 TX4 10, w ∈ wsX4_daysTillRinging := by decide +kernel
  unfold f_X4_daysTillRinging at hf
  have hl : lv_has ls 2 [(0, .ref o_t), (1, .int x1)] := hl
  obtain ⟨H, hHe⟩ : ∃ H : Heap, H = s.heap := ⟨_, rfl⟩
  obtain ⟨locs, hle⟩ : ∃ q : List Loc, q = [] := ⟨_, rfl⟩
  have hS : va_S A s.heap H locs := by rw [hHe, hle]; exact hS
  rw [← hHe] at hP
  suffices hgo : W p l e rmX4_daysTillRinging s m ([.ref o_t, .int x1] : List Value).toArray below meth c H locs 0 0 Q (F0 m 0 ls []) by rw [hHe, hle] at hgo; exact hgo
  clear hHe hle
  refine lv_aload_n hx hb dX4_daysTillRinging_0 rfl (lv_at hl 0 rfl) ?_
  refine va_get (D := D) (ci := 4) (v := .ref (a_t 2)) (C := RX4) (T := TX4) (N := 10) hx hb hts hinX4 hown hK hP 0 rfl rfl 2 (by decide) (hts (.fieldLink RX4 15 "OnlyStrangersHear$Town" "every" "[I") (by decide +kernel)) (fun _ h9 => h9) rfl dX4_daysTillRinging_1 ?_
  refine lv_iload_n hx hb dX4_daysTillRinging_4 rfl (lv_at hl 1 rfl) ?_
  obtain ⟨b5, hf⟩ := ck_some hf
  refine va_iald hx hb hK hP 2 0 rfl rfl b5 dX4_daysTillRinging_5 ?_
  refine lv_if_le (tgt := 30) hx hb dX4_daysTillRinging_6 (by decide) (fun c6 => ?_) (fun c6 => ?_)
  · replace hf := it_t c6 hf
    refine lv_bipush (v := (-9 : Int32)) hx hb dX4_daysTillRinging_30 (by decide) ?_
    have e := so_some hf
    subst e
    exact ri hx hb hK hr hlk hQ dX4_daysTillRinging_32 hP hD hS
  · replace hf := it_f c6 hf
    refine lv_aload_n hx hb dX4_daysTillRinging_9 rfl (lv_at hl 0 rfl) ?_
    refine va_get (D := D) (ci := 4) (v := .ref (a_t 2)) (C := RX4) (T := TX4) (N := 10) hx hb hts hinX4 hown hK hP 0 rfl rfl 2 (by decide) (hts (.fieldLink RX4 15 "OnlyStrangersHear$Town" "every" "[I") (by decide +kernel)) (fun _ h9 => h9) rfl dX4_daysTillRinging_10 ?_
    refine lv_iload_n hx hb dX4_daysTillRinging_13 rfl (lv_at hl 1 rfl) ?_
    obtain ⟨b14, hf⟩ := ck_some hf
    refine va_iald hx hb hK hP 2 0 rfl rfl b14 dX4_daysTillRinging_14 ?_
    refine lv_aload_n hx hb dX4_daysTillRinging_15 rfl (lv_at hl 0 rfl) ?_
    refine va_get (D := D) (ci := 4) (v := .int (S_t.1 8)) (C := RX4) (T := TX4) (N := 10) hx hb hts hinX4 hown hK hP 0 rfl rfl 8 (by decide) (hts (.fieldLink RX4 46 "OnlyStrangersHear$Town" "day" "I") (by decide +kernel)) (fun _ h9 => h9) rfl dX4_daysTillRinging_16 ?_
    refine lv_aload_n hx hb dX4_daysTillRinging_19 rfl (lv_at hl 0 rfl) ?_
    refine va_get (D := D) (ci := 4) (v := .ref (a_t 2)) (C := RX4) (T := TX4) (N := 10) hx hb hts hinX4 hown hK hP 0 rfl rfl 2 (by decide) (hts (.fieldLink RX4 15 "OnlyStrangersHear$Town" "every" "[I") (by decide +kernel)) (fun _ h9 => h9) rfl dX4_daysTillRinging_20 ?_
    refine lv_iload_n hx hb dX4_daysTillRinging_23 rfl (lv_at hl 1 rfl) ?_
    obtain ⟨b24, hf⟩ := ck_some hf
    refine va_iald hx hb hK hP 2 0 rfl rfl b24 dX4_daysTillRinging_24 ?_
    obtain ⟨z25, hf⟩ := nz_some hf
    refine lv_irem hx hb dX4_daysTillRinging_25 z25 ?_
    refine lv_isub hx hb dX4_daysTillRinging_26 ?_
    refine lv_goto (tgt := 32) hx hb dX4_daysTillRinging_27 (by decide) ?_
    have e := so_some hf
    subst e
    exact ri hx hb hK hr hlk hQ dX4_daysTillRinging_32 hP hD hS
abbrev rmX4_allRingOn : Room := { frames := 0, cells := 0, slots := 0, locals := 0 }
set_option maxHeartbeats 4000000 in
set_option maxRecDepth 100000 in
theorem c_X4_allRingOn (l : Launch) (D : va_G) (cI : ClassId) (o_t : Nat) (a_t : Nat → Nat) (S_t : G) (x1 : Int32) (out : Int32 × G) (hf : f_X4_allRingOn S_t x1 = some out) : Cn E0 l yX4_allRingOn wsX4_allRingOn rmX4_allRingOn D cI [.ref o_t, .int x1] (gX4 o_t a_t cI S_t) (some (.int out.1)) (gX4 o_t a_t cI out.2) := by
  refine Cn.mk (cc := cX4_allRingOn) (maxL := 3) (ret := (some .boolean)) (by decide) rfl (Nat.le_of_ble_eq_true rfl) ?_
  intro p e s m below meth c A ls Q hx hb hml hown hts hK hA hP hD hS hl hr hlk hnm hE hQ
  have hown : s.vm.findClass RX4 = some m.cls := hown
  have hinX4 : ∀ w ∈ u_ws RX4 TX4 10, w ∈ wsX4_allRingOn := by decide +kernel
  have j2 : ∀ (n2 : Nat) (S_t : G) (l1 : Int32) (l2 : Int32) (H : Heap) (locs : List Loc) (ls : Array Slot), f_X4_allRingOn_2 n2 S_t l1 l2 = some out → va_P D vwCl (gX4 o_t a_t cI S_t) H → va_D A (gX4 o_t a_t cI S_t) → va_S A s.heap H locs → lv_has ls 3 [(0, .ref o_t), (1, .int l1), (2, .int l2)] → W p l e rmX4_allRingOn s m ([.ref o_t, .int x1] : List Value).toArray below meth c H locs 0 0 Q (F0 m 2 ls []) := by
    intro n2
    induction n2 with
    | zero =>
      intro S_t l1 l2 H locs ls hf
      exact no_some hf
    | succ n2 ih2 =>
      intro S_t l1 l2 H locs ls hf hP hD hS hl
      replace hf : b_X4_allRingOn_2 (f_X4_allRingOn_2 n2) S_t l1 l2 = some out := hf
      unfold b_X4_allRingOn_2 at hf
      refine lv_iload_n hx hb dX4_allRingOn_2 rfl (lv_at hl 2 rfl) ?_
      refine lv_aload_n hx hb dX4_allRingOn_3 rfl (lv_at hl 0 rfl) ?_
      refine va_get (D := D) (ci := 4) (v := .int (S_t.1 0)) (C := RX4) (T := TX4) (N := 10) hx hb hts hinX4 hown hK hP 0 rfl rfl 0 (by decide) (hts (.fieldLink RX4 34 "OnlyStrangersHear$Town" "bells" "I") (by decide +kernel)) (fun _ h9 => h9) rfl dX4_allRingOn_4 ?_
      refine lv_icmp_ge (tgt := 39) hx hb dX4_allRingOn_7 (by decide) (fun c7 => ?_) (fun c7 => ?_)
      · replace hf := it_t c7 hf
        refine lv_iconst (v := (1 : Int32)) hx hb dX4_allRingOn_39 (by decide) ?_
        have e := so_some hf
        subst e
        exact rz hx hb hK hr hlk (Or.inr rfl) hQ dX4_allRingOn_40 hP hD hS
      · replace hf := it_f c7 hf
        refine lv_aload_n hx hb dX4_allRingOn_10 rfl (lv_at hl 0 rfl) ?_
        refine va_get (D := D) (ci := 4) (v := .ref (a_t 2)) (C := RX4) (T := TX4) (N := 10) hx hb hts hinX4 hown hK hP 0 rfl rfl 2 (by decide) (hts (.fieldLink RX4 15 "OnlyStrangersHear$Town" "every" "[I") (by decide +kernel)) (fun _ h9 => h9) rfl dX4_allRingOn_11 ?_
        refine lv_iload_n hx hb dX4_allRingOn_14 rfl (lv_at hl 2 rfl) ?_
        obtain ⟨b15, hf⟩ := ck_some hf
        refine va_iald hx hb hK hP 2 0 rfl rfl b15 dX4_allRingOn_15 ?_
        refine lv_iconst (v := (1 : Int32)) hx hb dX4_allRingOn_16 (by decide) ?_
        refine lv_icmp_lt (tgt := 31) hx hb dX4_allRingOn_17 (by decide) (fun c17 => ?_) (fun c17 => ?_)
        · replace hf := it_t c17 hf
          refine lv_iconst (v := (0 : Int32)) hx hb dX4_allRingOn_31 (by decide) ?_
          have e := so_some hf
          subst e
          exact rz hx hb hK hr hlk (Or.inl rfl) hQ dX4_allRingOn_32 hP hD hS
        · replace hf := it_f c17 hf
          refine lv_iload_n hx hb dX4_allRingOn_20 rfl (lv_at hl 1 rfl) ?_
          refine lv_aload_n hx hb dX4_allRingOn_21 rfl (lv_at hl 0 rfl) ?_
          refine va_get (D := D) (ci := 4) (v := .ref (a_t 2)) (C := RX4) (T := TX4) (N := 10) hx hb hts hinX4 hown hK hP 0 rfl rfl 2 (by decide) (hts (.fieldLink RX4 15 "OnlyStrangersHear$Town" "every" "[I") (by decide +kernel)) (fun _ h9 => h9) rfl dX4_allRingOn_22 ?_
          refine lv_iload_n hx hb dX4_allRingOn_25 rfl (lv_at hl 2 rfl) ?_
          obtain ⟨b26, hf⟩ := ck_some hf
          refine va_iald hx hb hK hP 2 0 rfl rfl b26 dX4_allRingOn_26 ?_
          obtain ⟨z27, hf⟩ := nz_some hf
          refine lv_irem hx hb dX4_allRingOn_27 z27 ?_
          refine lv_if_eq (tgt := 33) hx hb dX4_allRingOn_28 (by decide) (fun c28 => ?_) (fun c28 => ?_)
          · replace hf := it_t c28 hf
            refine lv_iinc (v := l2 + (1 : Int32)) (lv' := [(2, .int (l2 + (1 : Int32))), (0, .ref o_t), (1, .int l1)]) hx hb dX4_allRingOn_33 hl (k := 2) rfl rfl (by decide) rfl (fun ls hl => ?_)
            refine lv_goto (tgt := 2) hx hb dX4_allRingOn_36 (by decide) ?_
            exact ih2 S_t l1 (l2 + (1 : Int32)) H locs ls hf hP hD hS (lv_sub hl [1, 2, 0] rfl)
          · replace hf := it_f c28 hf
            refine lv_iconst (v := (0 : Int32)) hx hb dX4_allRingOn_31 (by decide) ?_
            have e := so_some hf
            subst e
            exact rz hx hb hK hr hlk (Or.inl rfl) hQ dX4_allRingOn_32 hP hD hS
  unfold f_X4_allRingOn at hf
  have hl : lv_has ls 3 [(0, .ref o_t), (1, .int x1)] := hl
  obtain ⟨H, hHe⟩ : ∃ H : Heap, H = s.heap := ⟨_, rfl⟩
  obtain ⟨locs, hle⟩ : ∃ q : List Loc, q = [] := ⟨_, rfl⟩
  have hS : va_S A s.heap H locs := by rw [hHe, hle]; exact hS
  rw [← hHe] at hP
  suffices hgo : W p l e rmX4_allRingOn s m ([.ref o_t, .int x1] : List Value).toArray below meth c H locs 0 0 Q (F0 m 0 ls []) by rw [hHe, hle] at hgo; exact hgo
  clear hHe hle
  refine lv_iconst (v := (0 : Int32)) hx hb dX4_allRingOn_0 (by decide) ?_
  refine lv_istore_n (lv' := [(2, .int (0 : Int32)), (0, .ref o_t), (1, .int x1)]) hx hb dX4_allRingOn_1 rfl hl (by decide) rfl (fun ls hl => ?_)
  exact j2 1000 S_t x1 (0 : Int32) H locs ls hf hP hD hS (lv_sub hl [1, 2, 0] rfl)
abbrev rmX4_daysTillAllRing : Room := { frames := 1, cells := 0, slots := 0, locals := 22 }
set_option maxHeartbeats 4000000 in
set_option maxRecDepth 100000 in
theorem c_X4_daysTillAllRing (l : Launch) (D : va_G) (cI : ClassId) (o_t : Nat) (a_t : Nat → Nat) (S_t : G) (out : Int32 × G) (hf : f_X4_daysTillAllRing S_t = some out) : Cn E0 l yX4_daysTillAllRing wsX4_daysTillAllRing rmX4_daysTillAllRing D cI [.ref o_t] (gX4 o_t a_t cI S_t) (some (.int out.1)) (gX4 o_t a_t cI out.2) := by
  refine Cn.mk (cc := cX4_daysTillAllRing) (maxL := 2) (ret := (some .int)) (by decide) rfl (Nat.le_of_ble_eq_true rfl) ?_
  intro p e s m below meth c A ls Q hx hb hml hown hts hK hA hP hD hS hl hr hlk hnm hE hQ
  have hown : s.vm.findClass RX4 = some m.cls := hown
  have hinX4 : ∀ w ∈ u_ws RX4 TX4 10, w ∈ wsX4_daysTillAllRing := by decide +kernel
  have j12 : ∀ (n12 : Nat) (S_t : G) (l1 : Int32) (H : Heap) (locs : List Loc) (ls : Array Slot), f_X4_daysTillAllRing_12 n12 S_t l1 = some out → va_P D vwCl (gX4 o_t a_t cI S_t) H → va_D A (gX4 o_t a_t cI S_t) → va_S A s.heap H locs → lv_has ls 2 [(0, .ref o_t), (1, .int l1)] → W p l e rmX4_daysTillAllRing s m ([.ref o_t] : List Value).toArray below meth c H locs 0 0 Q (F0 m 12 ls []) := by
    intro n12
    induction n12 with
    | zero =>
      intro S_t l1 H locs ls hf
      exact no_some hf
    | succ n12 ih12 =>
      intro S_t l1 H locs ls hf hP hD hS hl
      replace hf : b_X4_daysTillAllRing_12 (f_X4_daysTillAllRing_12 n12) S_t l1 = some out := hf
      unfold b_X4_daysTillAllRing_12 at hf
      refine lv_iload_n hx hb dX4_daysTillAllRing_12 rfl (lv_at hl 1 rfl) ?_
      refine lv_bipush (v := (99 : Int32)) hx hb dX4_daysTillAllRing_13 (by decide) ?_
      refine lv_icmp_gt (tgt := 39) hx hb dX4_daysTillAllRing_15 (by decide) (fun c15 => ?_) (fun c15 => ?_)
      · replace hf := it_t c15 hf
        refine lv_bipush (v := (-9 : Int32)) hx hb dX4_daysTillAllRing_39 (by decide) ?_
        have e := so_some hf
        subst e
        exact ri hx hb hK hr hlk hQ dX4_daysTillAllRing_41 hP hD hS
      · replace hf := it_f c15 hf
        refine lv_aload_n hx hb dX4_daysTillAllRing_18 rfl (lv_at hl 0 rfl) ?_
        refine lv_aload_n hx hb dX4_daysTillAllRing_19 rfl (lv_at hl 0 rfl) ?_
        refine va_get (D := D) (ci := 4) (v := .int (S_t.1 8)) (C := RX4) (T := TX4) (N := 10) hx hb hts hinX4 hown hK hP 0 rfl rfl 8 (by decide) (hts (.fieldLink RX4 46 "OnlyStrangersHear$Town" "day" "I") (by decide +kernel)) (fun _ h9 => h9) rfl dX4_daysTillAllRing_20 ?_
        refine lv_iload_n hx hb dX4_daysTillAllRing_23 rfl (lv_at hl 1 rfl) ?_
        refine lv_iadd hx hb dX4_daysTillAllRing_24 ?_
        obtain ⟨r25, u25, h25, hf⟩ := bd_some hf
        refine calX0 (runV E0.b E0.n (As := [.int ((S_t.1 8) + l1)]) (rest := []) ⟨hx, hb, hml, hown, hts⟩ (c_X4_allRingOn l D cI o_t a_t S_t ((S_t.1 8) + l1) _ h25) gX4_daysTillAllRing_X4_allRingOn rfl rfl rfl hdX4_allRingOn ⟨by decide, by decide⟩ hK hP hD 0 rfl rfl rfl hl.1 rfl (Nat.le_of_ble_eq_true rfl) dX4_daysTillAllRing_25 ⟨Nat.zero_le _, Nat.zero_le _⟩) hD hS hA (fun H locs hP hD hS => ?_)
        have hP : va_P D vwCl (gX4 o_t a_t cI u25) H := hP
        have hD : va_D A (gX4 o_t a_t cI u25) := hD
        refine W.eq (g2 := F0 m 28 ls [.int r25]) rfl ?_
        refine lv_if_eq (tgt := 33) hx hb dX4_daysTillAllRing_28 (by decide) (fun c28 => ?_) (fun c28 => ?_)
        · replace hf := it_t c28 hf
          refine lv_iinc (v := l1 + (1 : Int32)) (lv' := [(1, .int (l1 + (1 : Int32))), (0, .ref o_t)]) hx hb dX4_daysTillAllRing_33 hl (k := 1) rfl rfl (by decide) rfl (fun ls hl => ?_)
          refine lv_goto (tgt := 12) hx hb dX4_daysTillAllRing_36 (by decide) ?_
          exact ih12 u25 (l1 + (1 : Int32)) H locs ls hf hP hD hS (lv_sub hl [1, 0] rfl)
        · replace hf := it_f c28 hf
          refine lv_iload_n hx hb dX4_daysTillAllRing_31 rfl (lv_at hl 1 rfl) ?_
          have e := so_some hf
          subst e
          exact ri hx hb hK hr hlk hQ dX4_daysTillAllRing_32 hP hD hS
  unfold f_X4_daysTillAllRing at hf
  have hl : lv_has ls 2 [(0, .ref o_t)] := hl
  obtain ⟨H, hHe⟩ : ∃ H : Heap, H = s.heap := ⟨_, rfl⟩
  obtain ⟨locs, hle⟩ : ∃ q : List Loc, q = [] := ⟨_, rfl⟩
  have hS : va_S A s.heap H locs := by rw [hHe, hle]; exact hS
  rw [← hHe] at hP
  suffices hgo : W p l e rmX4_daysTillAllRing s m ([.ref o_t] : List Value).toArray below meth c H locs 0 0 Q (F0 m 0 ls []) by rw [hHe, hle] at hgo; exact hgo
  clear hHe hle
  refine lv_aload_n hx hb dX4_daysTillAllRing_0 rfl (lv_at hl 0 rfl) ?_
  refine va_get (D := D) (ci := 4) (v := .int (S_t.1 0)) (C := RX4) (T := TX4) (N := 10) hx hb hts hinX4 hown hK hP 0 rfl rfl 0 (by decide) (hts (.fieldLink RX4 34 "OnlyStrangersHear$Town" "bells" "I") (by decide +kernel)) (fun _ h9 => h9) rfl dX4_daysTillAllRing_1 ?_
  refine lv_if_ne (tgt := 10) hx hb dX4_daysTillAllRing_4 (by decide) (fun c4 => ?_) (fun c4 => ?_)
  · replace hf := it_f c4 hf
    refine lv_iconst (v := (1 : Int32)) hx hb dX4_daysTillAllRing_10 (by decide) ?_
    refine lv_istore_n (lv' := [(1, .int (1 : Int32)), (0, .ref o_t)]) hx hb dX4_daysTillAllRing_11 rfl hl (by decide) rfl (fun ls hl => ?_)
    exact j12 1000 S_t (1 : Int32) H locs ls hf hP hD hS (lv_sub hl [1, 0] rfl)
  · replace hf := it_t c4 hf
    refine lv_bipush (v := (-9 : Int32)) hx hb dX4_daysTillAllRing_7 (by decide) ?_
    have e := so_some hf
    subst e
    exact ri hx hb hK hr hlk hQ dX4_daysTillAllRing_9 hP hD hS
