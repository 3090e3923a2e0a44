abbrev rmX7_judge : Room := { frames := 4, cells := 0, slots := 0, locals := 87 }
set_option maxHeartbeats 4000000 in
set_option maxRecDepth 100000 in
theorem c_X7_judge (l : Launch) (D : va_G) (cI : ClassId) (o_t : Nat) (a_t : Nat → Nat) (S_t : G) (out : Int32 × G) (hf : f_X7_judge S_t = some out) : Cn E0 l yX7_judge wsX7_judge rmX7_judge D cI [.ref o_t] (gX7 o_t a_t cI S_t) (some (.int out.1)) (gX7 o_t a_t cI out.2) := by
  refine Cn.mk (cc := cX7_judge) (maxL := 4) (ret := (some .int)) (by decide) rfl (Nat.le_of_ble_eq_true rfl) ?_
  intro p e s m below meth c A ls Q hx hb hml hown hts hK hA hP hD hS hl hr hlk hnm hE hQ
  have hown : s.vm.findClass RX7 = some m.cls := hown
  have hinX7 : ∀ w ∈ u_ws RX7 TX7 26, w ∈ wsX7_judge := by decide +kernel
  have j59 : ∀ (S_t : G) (l2 : Int32) (H : Heap) (locs : List Loc) (ls : Array Slot), f_X7_judge_59 S_t l2 = some out → va_P D vwCl (gX7 o_t a_t cI S_t) H → va_D A (gX7 o_t a_t cI S_t) → va_S A s.heap H locs → lv_has ls 4 [(0, .ref o_t), (2, .int l2)] → W p l e rmX7_judge s m ([.ref o_t] : List Value).toArray below meth c H locs 0 0 Q (F0 m 59 ls []) := by
    intro S_t l2 H locs ls hf hP hD hS hl
    unfold f_X7_judge_59 at hf
    refine lv_aload_n hx hb dX7_judge_59 rfl (lv_at hl 0 rfl) ?_
    obtain ⟨r60, u60, h60, hf⟩ := bd_some hf
    refine calX0 (runV E0.b E0.n (As := []) (rest := []) ⟨hx, hb, hml, hown, hts⟩ (c_X7_forgets l D cI o_t a_t S_t _ h60) gX7_judge_X7_forgets rfl rfl rfl hdX7_forgets ⟨by decide, by decide⟩ hK hP hD 0 rfl rfl rfl hl.1 rfl (Nat.le_of_ble_eq_true rfl) dX7_judge_60 ⟨Nat.zero_le _, Nat.zero_le _⟩) hD hS hA (fun H locs hP hD hS => ?_)
    have hP : va_P D vwCl (gX7 o_t a_t cI u60) H := hP
    have hD : va_D A (gX7 o_t a_t cI u60) := hD
    refine W.eq (g2 := F0 m 63 ls []) rfl ?_
    refine lv_iload_n hx hb dX7_judge_63 rfl (lv_at hl 1 rfl) ?_
    have e := so_some hf
    subst e
    exact ri hx hb hK hr hlk hQ dX7_judge_64 hP hD hS
  have j19 : ∀ (n19 : Nat) (S_t : G) (l1 : Int32) (l2 : Int32) (l3 : Int32) (H : Heap) (locs : List Loc) (ls : Array Slot), f_X7_judge_19 n19 S_t l1 l2 l3 = some out → va_P D vwCl (gX7 o_t a_t cI S_t) H → va_D A (gX7 o_t a_t cI S_t) → va_S A s.heap H locs → lv_has ls 4 [(0, .ref o_t), (1, .int l1), (2, .int l2), (3, .int l3)] → W p l e rmX7_judge s m ([.ref o_t] : List Value).toArray below meth c H locs 0 0 Q (F0 m 19 ls []) := by
    intro n19
    induction n19 with
    | zero =>
      intro S_t l1 l2 l3 H locs ls hf
      exact no_some hf
    | succ n19 ih19 =>
      have j47 : ∀ (S_t : G) (l1 : Int32) (l3 : Int32) (s0 : Int32) (H : Heap) (locs : List Loc) (ls : Array Slot), f_X7_judge_47 (f_X7_judge_19 n19) S_t l1 l3 s0 = some out → va_P D vwCl (gX7 o_t a_t cI S_t) H → va_D A (gX7 o_t a_t cI S_t) → va_S A s.heap H locs → lv_has ls 4 [(0, .ref o_t), (1, .int l1), (3, .int l3)] → W p l e rmX7_judge s m ([.ref o_t] : List Value).toArray below meth c H locs 0 0 Q (F0 m 47 ls [.int s0]) := by
        intro S_t l1 l3 s0 H locs ls hf hP hD hS hl
        unfold f_X7_judge_47 at hf
        refine lv_istore_n (lv' := [(2, .int s0), (0, .ref o_t), (1, .int l1), (3, .int l3)]) hx hb dX7_judge_47 rfl hl (by decide) rfl (fun ls hl => ?_)
        refine lv_aload_n hx hb dX7_judge_48 rfl (lv_at hl 1 rfl) ?_
        refine lv_iconst (v := (0 : Int32)) hx hb dX7_judge_49 (by decide) ?_
        obtain ⟨r50, u50, h50, hf⟩ := bd_some hf
        refine calX0 (runV E0.b E0.n (As := [.int (0 : Int32)]) (rest := []) ⟨hx, hb, hml, hown, hts⟩ (c_X7_goesDay l D cI o_t a_t S_t (0 : Int32) _ h50) gX7_judge_X7_goesDay rfl rfl rfl hdX7_goesDay ⟨by decide, by decide⟩ hK hP hD 0 rfl rfl rfl hl.1 rfl (Nat.le_of_ble_eq_true rfl) dX7_judge_50 ⟨Nat.zero_le _, Nat.zero_le _⟩) hD hS hA (fun H locs hP hD hS => ?_)
        have hP : va_P D vwCl (gX7 o_t a_t cI u50) H := hP
        have hD : va_D A (gX7 o_t a_t cI u50) := hD
        refine W.eq (g2 := F0 m 53 ls []) rfl ?_
        refine lv_iinc (v := l3 + (1 : Int32)) (lv' := [(3, .int (l3 + (1 : Int32))), (2, .int s0), (0, .ref o_t), (1, .int l1)]) hx hb dX7_judge_53 hl (k := 3) rfl rfl (by decide) rfl (fun ls hl => ?_)
        refine lv_goto (tgt := 19) hx hb dX7_judge_56 (by decide) ?_
        exact ih19 u50 l1 s0 (l3 + (1 : Int32)) H locs ls hf hP hD hS (lv_sub hl [2, 3, 1, 0] rfl)
      intro S_t l1 l2 l3 H locs ls hf hP hD hS hl
      replace hf : b_X7_judge_19 (f_X7_judge_19 n19) S_t l1 l2 l3 = some out := hf
      unfold b_X7_judge_19 at hf
      refine lv_iload_n hx hb dX7_judge_19 rfl (lv_at hl 3 rfl) ?_
      refine lv_iload_n hx hb dX7_judge_20 rfl (lv_at hl 1 rfl) ?_
      refine lv_icmp_ge (tgt := 59) hx hb dX7_judge_21 (by decide) (fun c21 => ?_) (fun c21 => ?_)
      · replace hf := it_t c21 hf
        exact j59 S_t l2 H locs ls hf hP hD hS (lv_sub hl [0, 2] rfl)
      · replace hf := it_f c21 hf
        refine lv_iload_n hx hb dX7_judge_24 rfl (lv_at hl 2 rfl) ?_
        refine lv_if_ge (tgt := 59) hx hb dX7_judge_25 (by decide) (fun c25 => ?_) (fun c25 => ?_)
        · replace hf := it_t c25 hf
          exact j59 S_t l2 H locs ls hf hP hD hS (lv_sub hl [0, 2] rfl)
        · replace hf := it_f c25 hf
          refine lv_aload_n hx hb dX7_judge_28 rfl (lv_at hl 0 rfl) ?_
          obtain ⟨r29, u29, h29, hf⟩ := bd_some hf
          refine calX0 (runV E0.b E0.n (As := []) (rest := []) ⟨hx, hb, hml, hown, hts⟩ (c_X7_manyHear l D cI o_t a_t S_t _ h29) gX7_judge_X7_manyHear rfl rfl rfl hdX7_manyHear ⟨by decide, by decide⟩ hK hP hD 0 rfl rfl rfl hl.1 rfl (Nat.le_of_ble_eq_true rfl) dX7_judge_29 ⟨Nat.zero_le _, Nat.zero_le _⟩) hD hS hA (fun H locs hP hD hS => ?_)
          have hP : va_P D vwCl (gX7 o_t a_t cI u29) H := hP
          have hD : va_D A (gX7 o_t a_t cI u29) := hD
          refine W.eq (g2 := F0 m 32 ls [.int r29]) rfl ?_
          refine lv_aload_n hx hb dX7_judge_32 rfl (lv_at hl 0 rfl) ?_
          refine va_get (D := D) (ci := 7) (v := .ref (a_t 24)) (C := RX7) (T := TX7) (N := 26) hx hb hts hinX7 hown hK hP 0 rfl rfl 24 (by decide) (hts (.fieldLink RX7 53 "OnlyStrangersHearModel" "row" "[I") (by decide +kernel)) (fun _ h9 => h9) rfl dX7_judge_33 ?_
          refine lv_iload_n hx hb dX7_judge_36 rfl (lv_at hl 3 rfl) ?_
          obtain ⟨b37, hf⟩ := ck_some hf
          refine va_iald hx hb hK hP 14 0 rfl rfl b37 dX7_judge_37 ?_
          refine lv_icmp_ne (tgt := 46) hx hb dX7_judge_38 (by decide) (fun c38 => ?_) (fun c38 => ?_)
          · replace hf := it_f c38 hf
            refine lv_iload_n hx hb dX7_judge_46 rfl (lv_at hl 3 rfl) ?_
            exact j47 u29 l1 l3 l3 H locs ls hf hP hD hS (lv_sub hl [0, 1, 3] rfl)
          · replace hf := it_t c38 hf
            refine lv_bipush (v := (-9 : Int32)) hx hb dX7_judge_41 (by decide) ?_
            refine lv_goto (tgt := 47) hx hb dX7_judge_43 (by decide) ?_
            exact j47 u29 l1 l3 (-9 : Int32) H locs ls hf hP hD hS (lv_sub hl [0, 1, 3] rfl)
  unfold f_X7_judge at hf
  have hl : lv_has ls 4 [(0, .ref o_t)] := hl
  obtain ⟨H, hHe⟩ : ∃ H : Heap, H = s.heap := ⟨_, rfl⟩
  obtain ⟨locs, hle⟩ : ∃ q : List Loc, q = [] := ⟨_, rfl⟩
  have hS : va_S A s.heap H locs := by rw [hHe, hle]; exact hS
  rw [← hHe] at hP
  suffices hgo : W p l e rmX7_judge s m ([.ref o_t] : List Value).toArray below meth c H locs 0 0 Q (F0 m 0 ls []) by rw [hHe, hle] at hgo; exact hgo
  clear hHe hle
  refine lv_aload_n hx hb dX7_judge_0 rfl (lv_at hl 0 rfl) ?_
  refine va_get (D := D) (ci := 7) (v := .int (S_t.1 25)) (C := RX7) (T := TX7) (N := 26) hx hb hts hinX7 hown hK hP 0 rfl rfl 25 (by decide) (hts (.fieldLink RX7 288 "OnlyStrangersHearModel" "rowMany" "I") (by decide +kernel)) (fun _ h9 => h9) rfl dX7_judge_1 ?_
  refine lv_istore_n (lv' := [(1, .int (S_t.1 25)), (0, .ref o_t)]) hx hb dX7_judge_4 rfl hl (by decide) rfl (fun ls hl => ?_)
  refine lv_aload_n hx hb dX7_judge_5 rfl (lv_at hl 1 rfl) ?_
  refine lv_iconst (v := (0 : Int32)) hx hb dX7_judge_6 (by decide) ?_
  refine va_put (D := D) (ci := 7) (v := .int (0 : Int32)) (ty := .int) (C := RX7) (T := TX7) (N := 26) hx hb hts hinX7 tyX7 tyX7_ok nmX7 hown hK hP hD hS 0 rfl rfl 25 (by decide) (hts (.fieldLink RX7 288 "OnlyStrangersHearModel" "rowMany" "I") (by decide +kernel)) (fun _ h9 => h9) rfl (by decide +kernel) rfl rfl (Nat.le_of_ble_eq_true rfl) dX7_judge_7 (fun H locs hP hD hS => ?_)
  have hP : va_P D vwCl (gX7 o_t a_t cI (pF S_t 25 (0 : Int32))) H := hP
  have hD : va_D A (gX7 o_t a_t cI (pF S_t 25 (0 : Int32))) := hD
  obtain ⟨g7, e7, hf⟩ := lt_some hf
  rw [← e7] at hP hD
  refine lv_aload_n hx hb dX7_judge_10 rfl (lv_at hl 1 rfl) ?_
  obtain ⟨r11, u11, h11, hf⟩ := bd_some hf
  refine calX0 (runV E0.b E0.n (As := []) (rest := []) ⟨hx, hb, hml, hown, hts⟩ (c_X7_thinks l D cI o_t a_t g7 _ h11) gX7_judge_X7_thinks rfl rfl rfl hdX7_thinks ⟨by decide, by decide⟩ hK hP hD 0 rfl rfl rfl hl.1 rfl (Nat.le_of_ble_eq_true rfl) dX7_judge_11 ⟨Nat.zero_le _, Nat.zero_le _⟩) hD hS hA (fun H locs hP hD hS => ?_)
  have hP : va_P D vwCl (gX7 o_t a_t cI u11) H := hP
  have hD : va_D A (gX7 o_t a_t cI u11) := hD
  refine W.eq (g2 := F0 m 14 ls []) rfl ?_
  refine lv_bipush (v := (-9 : Int32)) hx hb dX7_judge_14 (by decide) ?_
  refine lv_istore_n (lv' := [(2, .int (-9 : Int32)), (1, .int (S_t.1 25)), (0, .ref o_t)]) hx hb dX7_judge_16 rfl hl (by decide) rfl (fun ls hl => ?_)
  refine lv_iconst (v := (0 : Int32)) hx hb dX7_judge_17 (by decide) ?_
  refine lv_istore_n (lv' := [(3, .int (0 : Int32)), (2, .int (-9 : Int32)), (1, .int (S_t.1 25)), (0, .ref o_t)]) hx hb dX7_judge_18 rfl hl (by decide) rfl (fun ls hl => ?_)
  exact j19 1000 u11 (S_t.1 25) (-9 : Int32) (0 : Int32) H locs ls hf hP hD hS (lv_sub hl [3, 2, 1, 0] rfl)
abbrev rmX7_clear : Room := { frames := 0, cells := 0, slots := 0, locals := 0 }
set_option maxHeartbeats 4000000 in
set_option maxRecDepth 100000 in
theorem c_X7_clear (l : Launch) (D : va_G) (cI : ClassId) (o_t : Nat) (a_t : Nat → Nat) (S_t : G) (out : Int32 × G) (hf : f_X7_clear S_t = some out) : Cn E0 l yX7_clear wsX7_clear rmX7_clear D cI [.ref o_t] (gX7 o_t a_t cI S_t) (some (.int out.1)) (gX7 o_t a_t cI out.2) := by
  refine Cn.mk (cc := cX7_clear) (maxL := 2) (ret := (some .int)) (by decide) rfl (Nat.le_of_ble_eq_true rfl) ?_
  intro p e s m below meth c A ls Q hx hb hml hown hts hK hA hP hD hS hl hr hlk hnm hE hQ
  have hown : s.vm.findClass RX7 = some m.cls := hown
  have hinX7 : ∀ w ∈ u_ws RX7 TX7 26, w ∈ wsX7_clear := by decide +kernel
  unfold f_X7_clear at hf
  have hl : lv_has ls 2 [(0, .ref o_t)] := hl
  obtain ⟨H, hHe⟩ : ∃ H : Heap, H = s.heap := ⟨_, rfl⟩
  obtain ⟨locs, hle⟩ : ∃ q : List Loc, q = [] := ⟨_, rfl⟩
  have hS : va_S A s.heap H locs := by rw [hHe, hle]; exact hS
  rw [← hHe] at hP
  suffices hgo : W p l e rmX7_clear s m ([.ref o_t] : List Value).toArray below meth c H locs 0 0 Q (F0 m 0 ls []) by rw [hHe, hle] at hgo; exact hgo
  clear hHe hle
  refine lv_aload_n hx hb dX7_clear_0 rfl (lv_at hl 0 rfl) ?_
  refine va_get (D := D) (ci := 7) (v := .int (S_t.1 25)) (C := RX7) (T := TX7) (N := 26) hx hb hts hinX7 hown hK hP 0 rfl rfl 25 (by decide) (hts (.fieldLink RX7 288 "OnlyStrangersHearModel" "rowMany" "I") (by decide +kernel)) (fun _ h9 => h9) rfl dX7_clear_1 ?_
  refine lv_istore_n (lv' := [(1, .int (S_t.1 25)), (0, .ref o_t)]) hx hb dX7_clear_4 rfl hl (by decide) rfl (fun ls hl => ?_)
  refine lv_aload_n hx hb dX7_clear_5 rfl (lv_at hl 1 rfl) ?_
  refine lv_iconst (v := (0 : Int32)) hx hb dX7_clear_6 (by decide) ?_
  refine va_put (D := D) (ci := 7) (v := .int (0 : Int32)) (ty := .int) (C := RX7) (T := TX7) (N := 26) hx hb hts hinX7 tyX7 tyX7_ok nmX7 hown hK hP hD hS 0 rfl rfl 25 (by decide) (hts (.fieldLink RX7 288 "OnlyStrangersHearModel" "rowMany" "I") (by decide +kernel)) (fun _ h9 => h9) rfl (by decide +kernel) rfl rfl (Nat.le_of_ble_eq_true rfl) dX7_clear_7 (fun H locs hP hD hS => ?_)
  have hP : va_P D vwCl (gX7 o_t a_t cI (pF S_t 25 (0 : Int32))) H := hP
  have hD : va_D A (gX7 o_t a_t cI (pF S_t 25 (0 : Int32))) := hD
  obtain ⟨g7, e7, hf⟩ := lt_some hf
  rw [← e7] at hP hD
  refine lv_iload_n hx hb dX7_clear_10 rfl (lv_at hl 0 rfl) ?_
  have e := so_some hf
  subst e
  exact ri hx hb hK hr hlk hQ dX7_clear_11 hP hD hS
abbrev rmX7_lots : Room := { frames := 4, cells := 0, slots := 0, locals := 90 }
set_option maxHeartbeats 4000000 in
set_option maxRecDepth 100000 in
theorem c_X7_lots (l : Launch) (D : va_G) (cI : ClassId) (o_t : Nat) (a_t : Nat → Nat) (S_t : G) (x1 : Int32) (x2 : Int32) (x3 : Int32) (out : Int32 × G) (hf : f_X7_lots S_t x1 x2 x3 = some out) : Cn E0 l yX7_lots wsX7_lots rmX7_lots D cI [.ref o_t, .int x1, .int x2, .int x3] (gX7 o_t a_t cI S_t) (some (.int out.1)) (gX7 o_t a_t cI out.2) := by
  refine Cn.mk (cc := cX7_lots) (maxL := 9) (ret := (some .int)) (by decide) rfl (Nat.le_of_ble_eq_true rfl) ?_
  intro p e s m below meth c A ls Q hx hb hml hown hts hK hA hP hD hS hl hr hlk hnm hE hQ
  have hown : s.vm.findClass RX7 = some m.cls := hown
  have hinX7 : ∀ w ∈ u_ws RX7 TX7 26, w ∈ wsX7_lots := by decide +kernel
  have j48 : ∀ (n48 : Nat) (S_t : G) (l1 : Int32) (l3 : Int32) (l5 : Int32) (l6 : Int32) (l7 : Int32) (H : Heap) (locs : List Loc) (ls : Array Slot), f_X7_lots_48 n48 S_t l1 l3 l5 l6 l7 = some out → va_P D vwCl (gX7 o_t a_t cI S_t) H → va_D A (gX7 o_t a_t cI S_t) → va_S A s.heap H locs → lv_has ls 9 [(0, .ref o_t), (1, .int l1), (3, .int l3), (5, .int l5), (6, .int l6), (7, .int l7)] → W p l e rmX7_lots s m ([.ref o_t, .int x1, .int x2, .int x3] : List Value).toArray below meth c H locs 0 0 Q (F0 m 48 ls []) := by
    intro n48
    induction n48 with
    | zero =>
      intro S_t l1 l3 l5 l6 l7 H locs ls hf
      exact no_some hf
    | succ n48 ih48 =>
      have j131 : ∀ (S_t : G) (l1 : Int32) (l3 : Int32) (l5 : Int32) (l7 : Int32) (s0 : Int32) (s1 : Int32) (H : Heap) (locs : List Loc) (ls : Array Slot), f_X7_lots_131 (f_X7_lots_48 n48) S_t l1 l3 l5 l7 s0 s1 = some out → va_P D vwCl (gX7 o_t a_t cI S_t) H → va_D A (gX7 o_t a_t cI S_t) → va_S A s.heap H locs → lv_has ls 9 [(0, .ref o_t), (1, .int l1), (3, .int l3), (5, .int l5), (7, .int l7)] → W p l e rmX7_lots s m ([.ref o_t, .int x1, .int x2, .int x3] : List Value).toArray below meth c H locs 0 0 Q (F0 m 131 ls [.int s1, .int s0]) := by
        intro S_t l1 l3 l5 l7 s0 s1 H locs ls hf hP hD hS hl
        unfold f_X7_lots_131 at hf
        refine lv_iadd hx hb dX7_lots_131 ?_
        refine lv_istore (lv' := [(6, .int (s0 + s1)), (0, .ref o_t), (1, .int l1), (3, .int l3), (5, .int l5), (7, .int l7)]) hx hb dX7_lots_132 hl (by decide) rfl (fun ls hl => ?_)
        refine lv_aload_n hx hb dX7_lots_134 rfl (lv_at hl 1 rfl) ?_
        obtain ⟨r135, u135, h135, hf⟩ := bd_some hf
        refine calX0 (runV E0.b E0.n (As := []) (rest := []) ⟨hx, hb, hml, hown, hts⟩ (c_X7_forgets l D cI o_t a_t S_t _ h135) gX7_lots_X7_forgets rfl rfl rfl hdX7_forgets ⟨by decide, by decide⟩ hK hP hD 0 rfl rfl rfl hl.1 rfl (Nat.le_of_ble_eq_true rfl) dX7_lots_135 ⟨Nat.zero_le _, Nat.zero_le _⟩) hD hS hA (fun H locs hP hD hS => ?_)
        have hP : va_P D vwCl (gX7 o_t a_t cI u135) H := hP
        have hD : va_D A (gX7 o_t a_t cI u135) := hD
        refine W.eq (g2 := F0 m 138 ls []) rfl ?_
        refine lv_iinc (v := l7 + (1 : Int32)) (lv' := [(7, .int (l7 + (1 : Int32))), (6, .int (s0 + s1)), (0, .ref o_t), (1, .int l1), (3, .int l3), (5, .int l5)]) hx hb dX7_lots_138 hl (k := 5) rfl rfl (by decide) rfl (fun ls hl => ?_)
        refine lv_goto (tgt := 48) hx hb dX7_lots_141 (by decide) ?_
        exact ih48 u135 l1 l3 l5 (s0 + s1) (l7 + (1 : Int32)) H locs ls hf hP hD hS (lv_sub hl [2, 3, 4, 5, 1, 0] rfl)
      have j61 : ∀ (n61 : Nat) (S_t : G) (l1 : Int32) (l3 : Int32) (l5 : Int32) (l6 : Int32) (l7 : Int32) (l8 : Int32) (H : Heap) (locs : List Loc) (ls : Array Slot), f_X7_lots_61 (f_X7_lots_48 n48) n61 S_t l1 l3 l5 l6 l7 l8 = some out → va_P D vwCl (gX7 o_t a_t cI S_t) H → va_D A (gX7 o_t a_t cI S_t) → va_S A s.heap H locs → lv_has ls 9 [(0, .ref o_t), (1, .int l1), (3, .int l3), (5, .int l5), (6, .int l6), (7, .int l7), (8, .int l8)] → W p l e rmX7_lots s m ([.ref o_t, .int x1, .int x2, .int x3] : List Value).toArray below meth c H locs 0 0 Q (F0 m 61 ls []) := by
        intro n61
        induction n61 with
        | zero =>
          intro S_t l1 l3 l5 l6 l7 l8 H locs ls hf
          exact no_some hf
        | succ n61 ih61 =>
          intro S_t l1 l3 l5 l6 l7 l8 H locs ls hf hP hD hS hl
          replace hf : b_X7_lots_61 (f_X7_lots_48 n48) (f_X7_lots_61 (f_X7_lots_48 n48) n61) S_t l1 l3 l5 l6 l7 l8 = some out := hf
          unfold b_X7_lots_61 at hf
          refine lv_iload hx hb dX7_lots_61 (lv_at hl 6 rfl) ?_
          refine lv_aload_n hx hb dX7_lots_63 rfl (lv_at hl 0 rfl) ?_
          refine va_get (D := D) (ci := 7) (v := .int (S_t.1 8)) (C := RX7) (T := TX7) (N := 26) hx hb hts hinX7 hown hK hP 0 rfl rfl 8 (by decide) (hts (.fieldLink RX7 65 "OnlyStrangersHearModel" "people" "I") (by decide +kernel)) (fun _ h9 => h9) rfl dX7_lots_64 ?_
          refine lv_icmp_ge (tgt := 108) hx hb dX7_lots_67 (by decide) (fun c67 => ?_) (fun c67 => ?_)
          · replace hf := it_t c67 hf
            refine lv_aload_n hx hb dX7_lots_108 rfl (lv_at hl 0 rfl) ?_
            refine lv_bipush (v := (10 : Int32)) hx hb dX7_lots_109 (by decide) ?_
            obtain ⟨r111, u111, h111, hf⟩ := bd_some hf
            refine calX0 (runV E0.b E0.n (As := [.int (10 : Int32)]) (rest := []) ⟨hx, hb, hml, hown, hts⟩ (c_X7_goesOn l D cI o_t a_t S_t (10 : Int32) _ h111) gX7_lots_X7_goesOn rfl rfl rfl hdX7_goesOn ⟨by decide, by decide⟩ hK hP hD 0 rfl rfl rfl hl.1 rfl (Nat.le_of_ble_eq_true rfl) dX7_lots_111 ⟨Nat.zero_le _, Nat.zero_le _⟩) hD hS hA (fun H locs hP hD hS => ?_)
            have hP : va_P D vwCl (gX7 o_t a_t cI u111) H := hP
            have hD : va_D A (gX7 o_t a_t cI u111) := hD
            refine W.eq (g2 := F0 m 114 ls []) rfl ?_
            refine lv_iload hx hb dX7_lots_114 (lv_at hl 4 rfl) ?_
            refine lv_iload_n hx hb dX7_lots_116 rfl (lv_at hl 2 rfl) ?_
            refine lv_if_ne (tgt := 127) hx hb dX7_lots_117 (by decide) (fun c117 => ?_) (fun c117 => ?_)
            · replace hf := it_f c117 hf
              refine lv_aload_n hx hb dX7_lots_127 rfl (lv_at hl 0 rfl) ?_
              obtain ⟨r128, u128, h128, hf⟩ := bd_some hf
              refine calX0 (runV E0.b E0.n (As := []) (rest := [.int l6]) ⟨hx, hb, hml, hown, hts⟩ (c_X7_allSlept l D cI o_t a_t u111 _ h128) gX7_lots_X7_allSlept rfl rfl rfl hdX7_allSlept ⟨by decide, by decide⟩ hK hP hD 0 rfl rfl rfl hl.1 rfl (Nat.le_of_ble_eq_true rfl) dX7_lots_128 ⟨Nat.zero_le _, Nat.zero_le _⟩) hD hS hA (fun H locs hP hD hS => ?_)
              have hP : va_P D vwCl (gX7 o_t a_t cI u128) H := hP
              have hD : va_D A (gX7 o_t a_t cI u128) := hD
              refine W.eq (g2 := F0 m 131 ls [.int r128, .int l6]) rfl ?_
              exact j131 u128 l1 l3 l5 l7 l6 r128 H locs ls hf hP hD hS (lv_sub hl [0, 1, 2, 3, 5] rfl)
            · replace hf := it_t c117 hf
              refine lv_aload_n hx hb dX7_lots_120 rfl (lv_at hl 0 rfl) ?_
              obtain ⟨r121, u121, h121, hf⟩ := bd_some hf
              refine calX0 (runV E0.b E0.n (As := []) (rest := [.int l6]) ⟨hx, hb, hml, hown, hts⟩ (c_X7_manyHear l D cI o_t a_t u111 _ h121) gX7_lots_X7_manyHear rfl rfl rfl hdX7_manyHear ⟨by decide, by decide⟩ hK hP hD 0 rfl rfl rfl hl.1 rfl (Nat.le_of_ble_eq_true rfl) dX7_lots_121 ⟨Nat.zero_le _, Nat.zero_le _⟩) hD hS hA (fun H locs hP hD hS => ?_)
              have hP : va_P D vwCl (gX7 o_t a_t cI u121) H := hP
              have hD : va_D A (gX7 o_t a_t cI u121) := hD
              refine W.eq (g2 := F0 m 124 ls [.int r121, .int l6]) rfl ?_
              refine lv_goto (tgt := 131) hx hb dX7_lots_124 (by decide) ?_
              exact j131 u121 l1 l3 l5 l7 l6 r121 H locs ls hf hP hD hS (lv_sub hl [0, 1, 2, 3, 5] rfl)
          · replace hf := it_f c67 hf
            refine lv_iload hx hb dX7_lots_70 (lv_at hl 3 rfl) ?_
            refine lv_ldcw (v := (1664525 : Int32)) hx hb hown (hts (.constant RX7 297 (1664525)) (by decide +kernel)) dX7_lots_72 ?_
            refine lv_imul hx hb dX7_lots_75 ?_
            refine lv_ldcw (v := (1013904223 : Int32)) hx hb hown (hts (.constant RX7 298 (1013904223)) (by decide +kernel)) dX7_lots_76 ?_
            refine lv_iadd hx hb dX7_lots_79 ?_
            refine lv_topi (fun v80 e80 => ?_)
            replace hf := lt_at e80 hf
            refine lv_istore (lv' := [(5, .int v80), (0, .ref o_t), (1, .int l1), (3, .int l3), (6, .int l6), (7, .int l7), (8, .int l8)]) hx hb dX7_lots_80 hl (by decide) rfl (fun ls hl => ?_)
            refine lv_aload_n hx hb dX7_lots_82 rfl (lv_at hl 1 rfl) ?_
            refine va_get (D := D) (ci := 7) (v := .ref (a_t 5)) (C := RX7) (T := TX7) (N := 26) hx hb hts hinX7 hown hK hP 0 rfl rfl 5 (by decide) (hts (.fieldLink RX7 25 "OnlyStrangersHearModel" "slept" "[I") (by decide +kernel)) (fun _ h9 => h9) rfl dX7_lots_83 ?_
            refine lv_iload hx hb dX7_lots_86 (lv_at hl 6 rfl) ?_
            refine lv_iload hx hb dX7_lots_88 (lv_at hl 0 rfl) ?_
            refine lv_ldcw (v := (2147483647 : Int32)) hx hb hown (hts (.constant RX7 299 (2147483647)) (by decide +kernel)) dX7_lots_90 ?_
            refine lv_iand hx hb dX7_lots_93 ?_
            refine lv_sipush (v := (256 : Int32)) hx hb dX7_lots_94 (by decide) ?_
            obtain ⟨z97, hf⟩ := nz_some hf
            refine lv_idiv hx hb dX7_lots_97 z97 ?_
            refine lv_bipush (v := (20 : Int32)) hx hb dX7_lots_98 (by decide) ?_
            obtain ⟨z100, hf⟩ := nz_some hf
            refine lv_irem hx hb dX7_lots_100 z100 ?_
            obtain ⟨b101, hf⟩ := ck_some hf
            refine va_iast hx hb hK hP hD hS 6 0 rfl rfl b101 dX7_lots_101 (fun H locs hP hD hS => ?_)
            have hP : va_P D vwCl (gX7 o_t a_t cI (pA S_t 5 l8.toNatClampNeg (((v80 &&& (2147483647 : Int32)) / (256 : Int32)) - ((v80 &&& (2147483647 : Int32)) / (256 : Int32)) / (20 : Int32) * (20 : Int32)))) H := hP
            have hD : va_D A (gX7 o_t a_t cI (pA S_t 5 l8.toNatClampNeg (((v80 &&& (2147483647 : Int32)) / (256 : Int32)) - ((v80 &&& (2147483647 : Int32)) / (256 : Int32)) / (20 : Int32) * (20 : Int32)))) := hD
            obtain ⟨g101, e101, hf⟩ := lt_some hf
            rw [← e101] at hP hD
            refine lv_iinc (v := l8 + (1 : Int32)) (lv' := [(8, .int (l8 + (1 : Int32))), (5, .int v80), (0, .ref o_t), (1, .int l1), (3, .int l3), (6, .int l6), (7, .int l7)]) hx hb dX7_lots_102 hl (k := 6) rfl rfl (by decide) rfl (fun ls hl => ?_)
            refine lv_goto (tgt := 61) hx hb dX7_lots_105 (by decide) ?_
            exact ih61 g101 l1 l3 v80 l6 l7 (l8 + (1 : Int32)) H locs ls hf hP hD hS (lv_sub hl [2, 3, 4, 1, 5, 6, 0] rfl)
      intro S_t l1 l3 l5 l6 l7 H locs ls hf hP hD hS hl
      replace hf : b_X7_lots_48 (f_X7_lots_48 n48) S_t l1 l3 l5 l6 l7 = some out := hf
      unfold b_X7_lots_48 at hf
      refine lv_iload hx hb dX7_lots_48 (lv_at hl 5 rfl) ?_
      refine lv_iload_n hx hb dX7_lots_50 rfl (lv_at hl 1 rfl) ?_
      refine lv_icmp_ge (tgt := 144) hx hb dX7_lots_51 (by decide) (fun c51 => ?_) (fun c51 => ?_)
      · replace hf := it_t c51 hf
        refine lv_iload hx hb dX7_lots_144 (lv_at hl 4 rfl) ?_
        have e := so_some hf
        subst e
        exact ri hx hb hK hr hlk hQ dX7_lots_146 hP hD hS
      · replace hf := it_f c51 hf
        refine lv_aload_n hx hb dX7_lots_54 rfl (lv_at hl 0 rfl) ?_
        obtain ⟨r55, u55, h55, hf⟩ := bd_some hf
        refine calX0 (runV E0.b E0.n (As := []) (rest := []) ⟨hx, hb, hml, hown, hts⟩ (c_X7_thinks l D cI o_t a_t S_t _ h55) gX7_lots_X7_thinks rfl rfl rfl hdX7_thinks ⟨by decide, by decide⟩ hK hP hD 0 rfl rfl rfl hl.1 rfl (Nat.le_of_ble_eq_true rfl) dX7_lots_55 ⟨Nat.zero_le _, Nat.zero_le _⟩) hD hS hA (fun H locs hP hD hS => ?_)
        have hP : va_P D vwCl (gX7 o_t a_t cI u55) H := hP
        have hD : va_D A (gX7 o_t a_t cI u55) := hD
        refine W.eq (g2 := F0 m 58 ls []) rfl ?_
        refine lv_iconst (v := (0 : Int32)) hx hb dX7_lots_58 (by decide) ?_
        refine lv_istore (lv' := [(8, .int (0 : Int32)), (0, .ref o_t), (1, .int l1), (3, .int l3), (5, .int l5), (6, .int l6), (7, .int l7)]) hx hb dX7_lots_59 hl (by decide) rfl (fun ls hl => ?_)
        exact j61 1000 u55 l1 l3 l5 l6 l7 (0 : Int32) H locs ls hf hP hD hS (lv_sub hl [1, 2, 3, 4, 5, 6, 0] rfl)
  have j27 : ∀ (S_t : G) (l1 : Int32) (l2 : Int32) (l3 : Int32) (l4 : Int32) (H : Heap) (locs : List Loc) (ls : Array Slot), f_X7_lots_27 S_t l1 l2 l3 l4 = some out → va_P D vwCl (gX7 o_t a_t cI S_t) H → va_D A (gX7 o_t a_t cI S_t) → va_S A s.heap H locs → lv_has ls 9 [(0, .ref o_t), (1, .int l1), (2, .int l2), (3, .int l3), (4, .int l4)] → W p l e rmX7_lots s m ([.ref o_t, .int x1, .int x2, .int x3] : List Value).toArray below meth c H locs 0 0 Q (F0 m 27 ls []) := by
    intro S_t l1 l2 l3 l4 H locs ls hf hP hD hS hl
    unfold f_X7_lots_27 at hf
    refine lv_iload hx hb dX7_lots_27 (lv_at hl 4 rfl) ?_
    refine lv_if_eq (tgt := 39) hx hb dX7_lots_29 (by decide) (fun c29 => ?_) (fun c29 => ?_)
    · replace hf := it_t c29 hf
      refine lv_iload_n hx hb dX7_lots_39 rfl (lv_at hl 2 rfl) ?_
      refine lv_istore (lv' := [(5, .int l2), (0, .ref o_t), (1, .int l1), (2, .int l2), (3, .int l3), (4, .int l4)]) hx hb dX7_lots_40 hl (by decide) rfl (fun ls hl => ?_)
      refine lv_iconst (v := (0 : Int32)) hx hb dX7_lots_42 (by decide) ?_
      refine lv_istore (lv' := [(6, .int (0 : Int32)), (5, .int l2), (0, .ref o_t), (1, .int l1), (2, .int l2), (3, .int l3), (4, .int l4)]) hx hb dX7_lots_43 hl (by decide) rfl (fun ls hl => ?_)
      refine lv_iconst (v := (0 : Int32)) hx hb dX7_lots_45 (by decide) ?_
      refine lv_istore (lv' := [(7, .int (0 : Int32)), (6, .int (0 : Int32)), (5, .int l2), (0, .ref o_t), (1, .int l1), (2, .int l2), (3, .int l3), (4, .int l4)]) hx hb dX7_lots_46 hl (by decide) rfl (fun ls hl => ?_)
      exact j48 1000 S_t l1 l3 l2 (0 : Int32) (0 : Int32) H locs ls hf hP hD hS (lv_sub hl [3, 4, 6, 2, 1, 0] rfl)
    · replace hf := it_f c29 hf
      refine lv_aload_n hx hb dX7_lots_32 rfl (lv_at hl 0 rfl) ?_
      refine lv_iload hx hb dX7_lots_33 (lv_at hl 4 rfl) ?_
      obtain ⟨r35, u35, h35, hf⟩ := bd_some hf
      refine calX0 (runV E0.b E0.n (As := [.int l4]) (rest := []) ⟨hx, hb, hml, hown, hts⟩ (c_X7_no l D cI o_t a_t S_t l4 _ h35) gX7_lots_X7_no rfl rfl rfl hdX7_no ⟨by decide, by decide⟩ hK hP hD 0 rfl rfl rfl hl.1 rfl (Nat.le_of_ble_eq_true rfl) dX7_lots_35 ⟨Nat.zero_le _, Nat.zero_le _⟩) hD hS hA (fun H locs hP hD hS => ?_)
      have hP : va_P D vwCl (gX7 o_t a_t cI u35) H := hP
      have hD : va_D A (gX7 o_t a_t cI u35) := hD
      refine W.eq (g2 := F0 m 38 ls [.int r35]) rfl ?_
      have e := so_some hf
      subst e
      exact ri hx hb hK hr hlk hQ dX7_lots_38 hP hD hS
  unfold f_X7_lots at hf
  have hl : lv_has ls 9 [(0, .ref o_t), (1, .int x1), (2, .int x2), (3, .int x3)] := hl
  obtain ⟨H, hHe⟩ : ∃ H : Heap, H = s.heap := ⟨_, rfl⟩
  obtain ⟨locs, hle⟩ : ∃ q : List Loc, q = [] := ⟨_, rfl⟩
  have hS : va_S A s.heap H locs := by rw [hHe, hle]; exact hS
  rw [← hHe] at hP
  suffices hgo : W p l e rmX7_lots s m ([.ref o_t, .int x1, .int x2, .int x3] : List Value).toArray below meth c H locs 0 0 Q (F0 m 0 ls []) by rw [hHe, hle] at hgo; exact hgo
  clear hHe hle
  refine lv_iload_n hx hb dX7_lots_0 rfl (lv_at hl 1 rfl) ?_
  refine lv_iconst (v := (1 : Int32)) hx hb dX7_lots_1 (by decide) ?_
  refine lv_bipush (v := (20 : Int32)) hx hb dX7_lots_2 (by decide) ?_
  obtain ⟨r4, u4, h4, hf⟩ := bd_some hf
  have hPc : va_P D vwCl [] H := hP.sub (ws' := []) [] rfl
  have hDc : va_D A [] := hD.sub (ws' := []) [] (by decide) rfl
  refine calXe (runS E0.b E0.n (As := [.int x1, .int (1 : Int32), .int (20 : Int32)]) (rest := []) ⟨hx, hb, hml, hown, hts⟩ (c_X7_bound l D cI x1 (1 : Int32) (20 : Int32) _ h4) gX7_lots_X7_bound rfl rfl rfl hdX7_bound ⟨by decide, by decide⟩ hK hPc hDc rfl hl.1 rfl (Nat.le_of_ble_eq_true rfl) dX7_lots_4 ⟨Nat.zero_le _, Nat.zero_le _⟩) hP hD hS hA (fun H locs hP hD hS => ?_)
  have hP : va_P D vwCl (gX7 o_t a_t cI S_t) H := hP
  have hD : va_D A (gX7 o_t a_t cI S_t) := hD
  refine W.eq (g2 := F0 m 7 ls [.int r4]) rfl ?_
  refine lv_istore (lv' := [(4, .int r4), (0, .ref o_t), (1, .int x1), (2, .int x2), (3, .int x3)]) hx hb dX7_lots_7 hl (by decide) rfl (fun ls hl => ?_)
  refine lv_iload hx hb dX7_lots_9 (lv_at hl 0 rfl) ?_
  refine lv_if_ne (tgt := 27) hx hb dX7_lots_11 (by decide) (fun c11 => ?_) (fun c11 => ?_)
  · replace hf := it_f c11 hf
    exact j27 S_t x1 x2 x3 r4 H locs ls hf hP hD hS (lv_sub hl [1, 2, 3, 4, 0] rfl)
  · replace hf := it_t c11 hf
    refine lv_iload_n hx hb dX7_lots_14 rfl (lv_at hl 4 rfl) ?_
    refine lv_iconst (v := (0 : Int32)) hx hb dX7_lots_15 (by decide) ?_
    refine lv_iconst (v := (1 : Int32)) hx hb dX7_lots_16 (by decide) ?_
    obtain ⟨r17, u17, h17, hf⟩ := bd_some hf
    have hPc : va_P D vwCl [] H := hP.sub (ws' := []) [] rfl
    have hDc : va_D A [] := hD.sub (ws' := []) [] (by decide) rfl
    refine calXe (runS E0.b E0.n (As := [.int x3, .int (0 : Int32), .int (1 : Int32)]) (rest := []) ⟨hx, hb, hml, hown, hts⟩ (c_X7_isIn l D cI x3 (0 : Int32) (1 : Int32) _ h17) gX7_lots_X7_isIn rfl rfl rfl hdX7_isIn ⟨by decide, by decide⟩ hK hPc hDc rfl hl.1 rfl (Nat.le_of_ble_eq_true rfl) dX7_lots_17 ⟨Nat.zero_le _, Nat.zero_le _⟩) hP hD hS hA (fun H locs hP hD hS => ?_)
    have hP : va_P D vwCl (gX7 o_t a_t cI S_t) H := hP
    have hD : va_D A (gX7 o_t a_t cI S_t) := hD
    refine W.eq (g2 := F0 m 20 ls [.int r17]) rfl ?_
    refine lv_if_ne (tgt := 27) hx hb dX7_lots_20 (by decide) (fun c20 => ?_) (fun c20 => ?_)
    · replace hf := it_f c20 hf
      exact j27 S_t x1 x2 x3 r4 H locs ls hf hP hD hS (lv_sub hl [1, 2, 3, 4, 0] rfl)
    · replace hf := it_t c20 hf
      refine lv_bipush (v := (-2 : Int32)) hx hb dX7_lots_23 (by decide) ?_
      refine lv_istore (lv' := [(4, .int (-2 : Int32)), (0, .ref o_t), (1, .int x1), (2, .int x2), (3, .int x3)]) hx hb dX7_lots_25 hl (by decide) rfl (fun ls hl => ?_)
      exact j27 S_t x1 x2 x3 (-2 : Int32) H locs ls hf hP hD hS (lv_sub hl [1, 2, 3, 4, 0] rfl)
abbrev rmX7_count : Room := { frames := 4, cells := 0, slots := 0, locals := 87 }
set_option maxHeartbeats 4000000 in
set_option maxRecDepth 100000 in
theorem c_X7_count (l : Launch) (D : va_G) (cI : ClassId) (o_t : Nat) (a_t : Nat → Nat) (S_t : G) (x1 : Int32) (out : Int32 × G) (hf : f_X7_count S_t x1 = some out) : Cn E0 l yX7_count wsX7_count rmX7_count D cI [.ref o_t, .int x1] (gX7 o_t a_t cI S_t) (some (.int out.1)) (gX7 o_t a_t cI out.2) := by
  refine Cn.mk (cc := cX7_count) (maxL := 2) (ret := (some .int)) (by decide) rfl (Nat.le_of_ble_eq_true rfl) ?_
  intro p e s m below meth c A ls Q hx hb hml hown hts hK hA hP hD hS hl hr hlk hnm hE hQ
  have hown : s.vm.findClass RX7 = some m.cls := hown
  have hinX7 : ∀ w ∈ u_ws RX7 TX7 26, w ∈ wsX7_count := by decide +kernel
  unfold f_X7_count at hf
  have hl : lv_has ls 2 [(0, .ref o_t), (1, .int x1)] := hl
  obtain ⟨H, hHe⟩ : ∃ H : Heap, H = s.heap := ⟨_, rfl⟩
  obtain ⟨locs, hle⟩ : ∃ q : List Loc, q = [] := ⟨_, rfl⟩
  have hS : va_S A s.heap H locs := by rw [hHe, hle]; exact hS
  rw [← hHe] at hP
  suffices hgo : W p l e rmX7_count s m ([.ref o_t, .int x1] : List Value).toArray below meth c H locs 0 0 Q (F0 m 0 ls []) by rw [hHe, hle] at hgo; exact hgo
  clear hHe hle
  refine lv_iload_n hx hb dX7_count_0 rfl (lv_at hl 1 rfl) ?_
  refine lv_bipush (v := (11 : Int32)) hx hb dX7_count_1 (by decide) ?_
  refine lv_bipush (v := (16 : Int32)) hx hb dX7_count_3 (by decide) ?_
  obtain ⟨r5, u5, h5, hf⟩ := bd_some hf
  have hPc : va_P D vwCl [] H := hP.sub (ws' := []) [] rfl
  have hDc : va_D A [] := hD.sub (ws' := []) [] (by decide) rfl
  refine calXe (runS E0.b E0.n (As := [.int x1, .int (11 : Int32), .int (16 : Int32)]) (rest := []) ⟨hx, hb, hml, hown, hts⟩ (c_X7_isIn l D cI x1 (11 : Int32) (16 : Int32) _ h5) gX7_count_X7_isIn rfl rfl rfl hdX7_isIn ⟨by decide, by decide⟩ hK hPc hDc rfl hl.1 rfl (Nat.le_of_ble_eq_true rfl) dX7_count_5 ⟨Nat.zero_le _, Nat.zero_le _⟩) hP hD hS hA (fun H locs hP hD hS => ?_)
  have hP : va_P D vwCl (gX7 o_t a_t cI S_t) H := hP
  have hD : va_D A (gX7 o_t a_t cI S_t) := hD
  refine W.eq (g2 := F0 m 8 ls [.int r5]) rfl ?_
  refine lv_if_eq (tgt := 21) hx hb dX7_count_8 (by decide) (fun c8 => ?_) (fun c8 => ?_)
  · replace hf := it_t c8 hf
    refine lv_iload_n hx hb dX7_count_21 rfl (lv_at hl 1 rfl) ?_
    by_cases ck0 : x1 = (0 : Int32)
    · replace hf := it_t ck0 hf
      refine lv_tableIn (off := 46) (tgt := 68) hx hb dX7_count_22 (by rw [ck0]; decide) (by rw [ck0]; decide) (by rw [ck0]; decide) (by decide) ?_
      refine lv_aload_n hx hb dX7_count_68 rfl (lv_at hl 0 rfl) ?_
      refine va_get (D := D) (ci := 7) (v := .int (S_t.1 7)) (C := RX7) (T := TX7) (N := 26) hx hb hts hinX7 hown hK hP 0 rfl rfl 7 (by decide) (hts (.fieldLink RX7 62 "OnlyStrangersHearModel" "bells" "I") (by decide +kernel)) (fun _ h9 => h9) rfl dX7_count_69 ?_
      have e := so_some hf
      subst e
      exact ri hx hb hK hr hlk hQ dX7_count_72 hP hD hS
    · replace hf := it_f ck0 hf
      by_cases ck1 : x1 = (1 : Int32)
      · replace hf := it_t ck1 hf
        refine lv_tableIn (off := 51) (tgt := 73) hx hb dX7_count_22 (by rw [ck1]; decide) (by rw [ck1]; decide) (by rw [ck1]; decide) (by decide) ?_
        refine lv_aload_n hx hb dX7_count_73 rfl (lv_at hl 0 rfl) ?_
        refine va_get (D := D) (ci := 7) (v := .int (S_t.1 8)) (C := RX7) (T := TX7) (N := 26) hx hb hts hinX7 hown hK hP 0 rfl rfl 8 (by decide) (hts (.fieldLink RX7 65 "OnlyStrangersHearModel" "people" "I") (by decide +kernel)) (fun _ h9 => h9) rfl dX7_count_74 ?_
        have e := so_some hf
        subst e
        exact ri hx hb hK hr hlk hQ dX7_count_77 hP hD hS
      · replace hf := it_f ck1 hf
        by_cases ck2 : x1 = (2 : Int32)
        · replace hf := it_t ck2 hf
          refine lv_tableIn (off := 56) (tgt := 78) hx hb dX7_count_22 (by rw [ck2]; decide) (by rw [ck2]; decide) (by rw [ck2]; decide) (by decide) ?_
          refine lv_aload_n hx hb dX7_count_78 rfl (lv_at hl 0 rfl) ?_
          refine va_get (D := D) (ci := 7) (v := .int (S_t.1 9)) (C := RX7) (T := TX7) (N := 26) hx hb hts hinX7 hown hK hP 0 rfl rfl 9 (by decide) (hts (.fieldLink RX7 107 "OnlyStrangersHearModel" "day" "I") (by decide +kernel)) (fun _ h9 => h9) rfl dX7_count_79 ?_
          have e := so_some hf
          subst e
          exact ri hx hb hK hr hlk hQ dX7_count_82 hP hD hS
        · replace hf := it_f ck2 hf
          by_cases ck3 : x1 = (3 : Int32)
          · replace hf := it_t ck3 hf
            refine lv_tableIn (off := 61) (tgt := 83) hx hb dX7_count_22 (by rw [ck3]; decide) (by rw [ck3]; decide) (by rw [ck3]; decide) (by decide) ?_
            refine lv_aload_n hx hb dX7_count_83 rfl (lv_at hl 0 rfl) ?_
            refine va_get (D := D) (ci := 7) (v := .int (S_t.1 10)) (C := RX7) (T := TX7) (N := 26) hx hb hts hinX7 hown hK hP 0 rfl rfl 10 (by decide) (hts (.fieldLink RX7 56 "OnlyStrangersHearModel" "beds" "I") (by decide +kernel)) (fun _ h9 => h9) rfl dX7_count_84 ?_
            have e := so_some hf
            subst e
            exact ri hx hb hK hr hlk hQ dX7_count_87 hP hD hS
          · replace hf := it_f ck3 hf
            by_cases ck4 : x1 = (4 : Int32)
            · replace hf := it_t ck4 hf
              refine lv_tableIn (off := 66) (tgt := 88) hx hb dX7_count_22 (by rw [ck4]; decide) (by rw [ck4]; decide) (by rw [ck4]; decide) (by decide) ?_
              refine lv_aload_n hx hb dX7_count_88 rfl (lv_at hl 0 rfl) ?_
              obtain ⟨r89, u89, h89, hf⟩ := bd_some hf
              refine calX0 (runV E0.b E0.n (As := []) (rest := []) ⟨hx, hb, hml, hown, hts⟩ (c_X7_manyHear l D cI o_t a_t S_t _ h89) gX7_count_X7_manyHear rfl rfl rfl hdX7_manyHear ⟨by decide, by decide⟩ hK hP hD 0 rfl rfl rfl hl.1 rfl (Nat.le_of_ble_eq_true rfl) dX7_count_89 ⟨Nat.zero_le _, Nat.zero_le _⟩) hD hS hA (fun H locs hP hD hS => ?_)
              have hP : va_P D vwCl (gX7 o_t a_t cI u89) H := hP
              have hD : va_D A (gX7 o_t a_t cI u89) := hD
              refine W.eq (g2 := F0 m 92 ls [.int r89]) rfl ?_
              have e := so_some hf
              subst e
              exact ri hx hb hK hr hlk hQ dX7_count_92 hP hD hS
            · replace hf := it_f ck4 hf
              by_cases ck5 : x1 = (5 : Int32)
              · replace hf := it_t ck5 hf
                refine lv_tableIn (off := 71) (tgt := 93) hx hb dX7_count_22 (by rw [ck5]; decide) (by rw [ck5]; decide) (by rw [ck5]; decide) (by decide) ?_
                refine lv_aload_n hx hb dX7_count_93 rfl (lv_at hl 0 rfl) ?_
                obtain ⟨r94, u94, h94, hf⟩ := bd_some hf
                refine calX0 (runV E0.b E0.n (As := []) (rest := []) ⟨hx, hb, hml, hown, hts⟩ (c_X7_allSlept l D cI o_t a_t S_t _ h94) gX7_count_X7_allSlept rfl rfl rfl hdX7_allSlept ⟨by decide, by decide⟩ hK hP hD 0 rfl rfl rfl hl.1 rfl (Nat.le_of_ble_eq_true rfl) dX7_count_94 ⟨Nat.zero_le _, Nat.zero_le _⟩) hD hS hA (fun H locs hP hD hS => ?_)
                have hP : va_P D vwCl (gX7 o_t a_t cI u94) H := hP
                have hD : va_D A (gX7 o_t a_t cI u94) := hD
                refine W.eq (g2 := F0 m 97 ls [.int r94]) rfl ?_
                have e := so_some hf
                subst e
                exact ri hx hb hK hr hlk hQ dX7_count_97 hP hD hS
              · replace hf := it_f ck5 hf
                by_cases ck6 : x1 = (6 : Int32)
                · replace hf := it_t ck6 hf
                  refine lv_tableIn (off := 76) (tgt := 98) hx hb dX7_count_22 (by rw [ck6]; decide) (by rw [ck6]; decide) (by rw [ck6]; decide) (by decide) ?_
                  refine lv_aload_n hx hb dX7_count_98 rfl (lv_at hl 0 rfl) ?_
                  refine va_get (D := D) (ci := 7) (v := .int (S_t.1 25)) (C := RX7) (T := TX7) (N := 26) hx hb hts hinX7 hown hK hP 0 rfl rfl 25 (by decide) (hts (.fieldLink RX7 288 "OnlyStrangersHearModel" "rowMany" "I") (by decide +kernel)) (fun _ h9 => h9) rfl dX7_count_99 ?_
                  have e := so_some hf
                  subst e
                  exact ri hx hb hK hr hlk hQ dX7_count_102 hP hD hS
                · replace hf := it_f ck6 hf
                  by_cases ck7 : x1 = (7 : Int32)
                  · replace hf := it_t ck7 hf
                    refine lv_tableIn (off := 81) (tgt := 103) hx hb dX7_count_22 (by rw [ck7]; decide) (by rw [ck7]; decide) (by rw [ck7]; decide) (by decide) ?_
                    refine lv_aload_n hx hb dX7_count_103 rfl (lv_at hl 0 rfl) ?_
                    refine va_get (D := D) (ci := 7) (v := .int (S_t.1 16)) (C := RX7) (T := TX7) (N := 26) hx hb hts hinX7 hown hK hP 0 rfl rfl 16 (by decide) (hts (.fieldLink RX7 72 "OnlyStrangersHearModel" "taped" "I") (by decide +kernel)) (fun _ h9 => h9) rfl dX7_count_104 ?_
                    have e := so_some hf
                    subst e
                    exact ri hx hb hK hr hlk hQ dX7_count_107 hP hD hS
                  · replace hf := it_f ck7 hf
                    by_cases clo : x1.toInt < 0
                    · refine lv_tableOut (tgt := 108) hx hb dX7_count_22 (Or.inl clo) (by decide) ?_
                      refine lv_bipush (v := (-9 : Int32)) hx hb dX7_count_108 (by decide) ?_
                      have e := so_some hf
                      subst e
                      exact ri hx hb hK hr hlk hQ dX7_count_110 hP hD hS
                    by_cases chi : 7 < x1.toInt
                    · refine lv_tableOut (tgt := 108) hx hb dX7_count_22 (Or.inr chi) (by decide) ?_
                      refine lv_bipush (v := (-9 : Int32)) hx hb dX7_count_108 (by decide) ?_
                      have e := so_some hf
                      subst e
                      exact ri hx hb hK hr hlk hQ dX7_count_110 hP hD hS
                    exact (sw_no (x := x1) (lo := 0) (hi := 7) clo chi (ks := [0, 1, 2, 3, 4, 5, 6, 7]) (by decide) (List.forall_mem_cons.mpr ⟨lv_neT (k := 0) (a := 0) ck0 (by decide), (List.forall_mem_cons.mpr ⟨lv_neT (k := 1) (a := 1) ck1 (by decide), (List.forall_mem_cons.mpr ⟨lv_neT (k := 2) (a := 2) ck2 (by decide), (List.forall_mem_cons.mpr ⟨lv_neT (k := 3) (a := 3) ck3 (by decide), (List.forall_mem_cons.mpr ⟨lv_neT (k := 4) (a := 4) ck4 (by decide), (List.forall_mem_cons.mpr ⟨lv_neT (k := 5) (a := 5) ck5 (by decide), (List.forall_mem_cons.mpr ⟨lv_neT (k := 6) (a := 6) ck6 (by decide), (List.forall_mem_cons.mpr ⟨lv_neT (k := 7) (a := 7) ck7 (by decide), (fun _ h => absurd h List.not_mem_nil)⟩)⟩)⟩)⟩)⟩)⟩)⟩)⟩)).elim
  · replace hf := it_f c8 hf
    refine lv_aload_n hx hb dX7_count_11 rfl (lv_at hl 0 rfl) ?_
    refine va_get (D := D) (ci := 7) (v := .ref (a_t 0)) (C := RX7) (T := TX7) (N := 26) hx hb hts hinX7 hown hK hP 0 rfl rfl 0 (by decide) (hts (.fieldLink RX7 7 "OnlyStrangersHearModel" "refused" "[I") (by decide +kernel)) (fun _ h9 => h9) rfl dX7_count_12 ?_
    refine lv_iload_n hx hb dX7_count_15 rfl (lv_at hl 1 rfl) ?_
    refine lv_bipush (v := (10 : Int32)) hx hb dX7_count_16 (by decide) ?_
    refine lv_isub hx hb dX7_count_18 ?_
    obtain ⟨b19, hf⟩ := ck_some hf
    refine va_iald hx hb hK hP 1 0 rfl rfl b19 dX7_count_19 ?_
    have e := so_some hf
    subst e
    exact ri hx hb hK hr hlk hQ dX7_count_20 hP hD hS
