abbrev rmX7_rings : Room := { frames := 7, cells := 0, slots := 0, locals := 158 }
set_option maxHeartbeats 4000000 in
set_option maxRecDepth 100000 in
theorem c_X7_rings (l : Launch) (D : va_G) (cI : ClassId) (o_t : Nat) (a_t : Nat → Nat) (S_t : G) (x1 : Int32) (x2 : Int32) (x3 : Int32) (out : Int32 × G) (hf : f_X7_rings S_t x1 x2 x3 = some out) : Cn E0 l yX7_rings wsX7_rings rmX7_rings D cI [.ref o_t, .int x1, .int x2, .int x3] (gX7 o_t a_t cI S_t) (some (.int out.1)) (gX7 o_t a_t cI out.2) := by
  refine Cn.mk (cc := cX7_rings) (maxL := 5) (ret := (some .int)) (by decide) rfl (Nat.le_of_ble_eq_true rfl) ?_
  intro p e s m below meth c A ls Q hx hb hml hown hts hK hA hP hD hS hl hr hlk hnm hE hQ
  have hown : s.vm.findClass RX7 = some m.cls := hown
  have j65 : ∀ (S_t : G) (s1 : Int32) (s2 : Int32) (s3 : Int32) (H : Heap) (locs : List Loc) (ls : Array Slot), f_X7_rings_65 S_t s1 s2 s3 = some out → va_P D vwCl (gX7 o_t a_t cI S_t) H → va_D A (gX7 o_t a_t cI S_t) → va_S A s.heap H locs → lv_has ls 5 [] → W p l e rmX7_rings s m ([.ref o_t, .int x1, .int x2, .int x3] : List Value).toArray below meth c H locs 0 0 Q (F0 m 65 ls [.int s3, .int s2, .int s1, .ref o_t]) := by
    intro S_t s1 s2 s3 H locs ls hf hP hD hS hl
    unfold f_X7_rings_65 at hf
    obtain ⟨r65, u65, h65, hf⟩ := bd_some hf
    refine calX0 (runV E0.b E0.n (As := [.int s1, .int s2, .int s3]) (rest := []) ⟨hx, hb, hml, hown, hts⟩ (c_X7_ringing l D cI o_t a_t S_t s1 s2 s3 _ h65) gX7_rings_X7_ringing rfl rfl rfl hdX7_ringing ⟨by decide, by decide⟩ hK hP hD 0 rfl rfl rfl hl.1 rfl (Nat.le_of_ble_eq_true rfl) dX7_rings_65 ⟨Nat.zero_le _, Nat.zero_le _⟩) hD hS hA (fun H locs hP hD hS => ?_)
    have hP : va_P D vwCl (gX7 o_t a_t cI u65) H := hP
    have hD : va_D A (gX7 o_t a_t cI u65) := hD
    refine W.eq (g2 := F0 m 68 ls [.int r65]) rfl ?_
    have e := so_some hf
    subst e
    exact ri hx hb hK hr hlk hQ dX7_rings_68 hP hD hS
  have j39 : ∀ (S_t : G) (l1 : Int32) (l2 : Int32) (l3 : Int32) (l4 : Int32) (H : Heap) (locs : List Loc) (ls : Array Slot), f_X7_rings_39 S_t l1 l2 l3 l4 = some out → va_P D vwCl (gX7 o_t a_t cI S_t) H → va_D A (gX7 o_t a_t cI S_t) → va_S A s.heap H locs → lv_has ls 5 [(0, .ref o_t), (1, .int l1), (2, .int l2), (3, .int l3), (4, .int l4)] → W p l e rmX7_rings s m ([.ref o_t, .int x1, .int x2, .int x3] : List Value).toArray below meth c H locs 0 0 Q (F0 m 39 ls []) := by
    intro S_t l1 l2 l3 l4 H locs ls hf hP hD hS hl
    unfold f_X7_rings_39 at hf
    refine lv_iload hx hb dX7_rings_39 (lv_at hl 4 rfl) ?_
    refine lv_if_eq (tgt := 53) hx hb dX7_rings_41 (by decide) (fun c41 => ?_) (fun c41 => ?_)
    · replace hf := it_t c41 hf
      refine lv_aload_n hx hb dX7_rings_53 rfl (lv_at hl 0 rfl) ?_
      refine lv_iload_n hx hb dX7_rings_54 rfl (lv_at hl 1 rfl) ?_
      refine lv_iload_n hx hb dX7_rings_55 rfl (lv_at hl 2 rfl) ?_
      refine lv_iload_n hx hb dX7_rings_56 rfl (lv_at hl 3 rfl) ?_
      refine lv_if_ne (tgt := 64) hx hb dX7_rings_57 (by decide) (fun c57 => ?_) (fun c57 => ?_)
      · replace hf := it_f c57 hf
        refine lv_iconst (v := (0 : Int32)) hx hb dX7_rings_64 (by decide) ?_
        exact j65 S_t l1 l2 (0 : Int32) H locs ls hf hP hD hS (lv_sub hl [] rfl)
      · replace hf := it_t c57 hf
        refine lv_iconst (v := (1 : Int32)) hx hb dX7_rings_60 (by decide) ?_
        refine lv_goto (tgt := 65) hx hb dX7_rings_61 (by decide) ?_
        exact j65 S_t l1 l2 (1 : Int32) H locs ls hf hP hD hS (lv_sub hl [] rfl)
    · replace hf := it_f c41 hf
      refine lv_aload_n hx hb dX7_rings_44 rfl (lv_at hl 0 rfl) ?_
      refine lv_iload hx hb dX7_rings_45 (lv_at hl 4 rfl) ?_
      obtain ⟨r47, u47, h47, hf⟩ := bd_some hf
      refine calX0 (runV E0.b E0.n (As := [.int l4]) (rest := []) ⟨hx, hb, hml, hown, hts⟩ (c_X7_no l D cI o_t a_t S_t l4 _ h47) gX7_rings_X7_no rfl rfl rfl hdX7_no ⟨by decide, by decide⟩ hK hP hD 0 rfl rfl rfl hl.1 rfl (Nat.le_of_ble_eq_true rfl) dX7_rings_47 ⟨Nat.zero_le _, Nat.zero_le _⟩) hD hS hA (fun H locs hP hD hS => ?_)
      have hP : va_P D vwCl (gX7 o_t a_t cI u47) H := hP
      have hD : va_D A (gX7 o_t a_t cI u47) := hD
      refine W.eq (g2 := F0 m 50 ls [.int r47]) rfl ?_
      refine lv_goto (tgt := 68) hx hb dX7_rings_50 (by decide) ?_
      have e := so_some hf
      subst e
      exact ri hx hb hK hr hlk hQ dX7_rings_68 hP hD hS
  have j19 : ∀ (S_t : G) (l1 : Int32) (l2 : Int32) (l3 : Int32) (s0 : Int32) (H : Heap) (locs : List Loc) (ls : Array Slot), f_X7_rings_19 S_t l1 l2 l3 s0 = some out → va_P D vwCl (gX7 o_t a_t cI S_t) H → va_D A (gX7 o_t a_t cI S_t) → va_S A s.heap H locs → lv_has ls 5 [(0, .ref o_t), (1, .int l1), (2, .int l2), (3, .int l3)] → W p l e rmX7_rings s m ([.ref o_t, .int x1, .int x2, .int x3] : List Value).toArray below meth c H locs 0 0 Q (F0 m 19 ls [.int s0]) := by
    intro S_t l1 l2 l3 s0 H locs ls hf hP hD hS hl
    unfold f_X7_rings_19 at hf
    refine lv_istore (lv' := [(4, .int s0), (0, .ref o_t), (1, .int l1), (2, .int l2), (3, .int l3)]) hx hb dX7_rings_19 hl (by decide) rfl (fun ls hl => ?_)
    refine lv_iload hx hb dX7_rings_21 (lv_at hl 0 rfl) ?_
    refine lv_if_ne (tgt := 39) hx hb dX7_rings_23 (by decide) (fun c23 => ?_) (fun c23 => ?_)
    · replace hf := it_f c23 hf
      exact j39 S_t l1 l2 l3 s0 H locs ls hf hP hD hS (lv_sub hl [1, 2, 3, 4, 0] rfl)
    · replace hf := it_t c23 hf
      refine lv_iload_n hx hb dX7_rings_26 rfl (lv_at hl 4 rfl) ?_
      refine lv_iconst (v := (0 : Int32)) hx hb dX7_rings_27 (by decide) ?_
      refine lv_iconst (v := (1 : Int32)) hx hb dX7_rings_28 (by decide) ?_
      obtain ⟨r29, u29, h29, hf⟩ := bd_some hf
      have hPc : va_P D vwCl [] H := hP.sub (ws' := []) [] rfl
      have hDc : va_D A [] := hD.sub (ws' := []) [] (by decide) rfl
      refine calXe (runS E0.b E0.n (As := [.int l3, .int (0 : Int32), .int (1 : Int32)]) (rest := []) ⟨hx, hb, hml, hown, hts⟩ (c_X7_isIn l D cI l3 (0 : Int32) (1 : Int32) _ h29) gX7_rings_X7_isIn rfl rfl rfl hdX7_isIn ⟨by decide, by decide⟩ hK hPc hDc rfl hl.1 rfl (Nat.le_of_ble_eq_true rfl) dX7_rings_29 ⟨Nat.zero_le _, Nat.zero_le _⟩) hP hD hS hA (fun H locs hP hD hS => ?_)
      have hP : va_P D vwCl (gX7 o_t a_t cI S_t) H := hP
      have hD : va_D A (gX7 o_t a_t cI S_t) := hD
      refine W.eq (g2 := F0 m 32 ls [.int r29]) rfl ?_
      refine lv_if_ne (tgt := 39) hx hb dX7_rings_32 (by decide) (fun c32 => ?_) (fun c32 => ?_)
      · replace hf := it_f c32 hf
        exact j39 S_t l1 l2 l3 s0 H locs ls hf hP hD hS (lv_sub hl [1, 2, 3, 4, 0] rfl)
      · replace hf := it_t c32 hf
        refine lv_bipush (v := (-2 : Int32)) hx hb dX7_rings_35 (by decide) ?_
        refine lv_istore (lv' := [(4, .int (-2 : Int32)), (0, .ref o_t), (1, .int l1), (2, .int l2), (3, .int l3)]) hx hb dX7_rings_37 hl (by decide) rfl (fun ls hl => ?_)
        exact j39 S_t l1 l2 l3 (-2 : Int32) H locs ls hf hP hD hS (lv_sub hl [1, 2, 3, 4, 0] rfl)
  unfold f_X7_rings at hf
  have hl : lv_has ls 5 [(0, .ref o_t), (1, .int x1), (2, .int x2), (3, .int x3)] := hl
  obtain ⟨H, hHe⟩ : ∃ H : Heap, H = s.heap := ⟨_, rfl⟩
  obtain ⟨locs, hle⟩ : ∃ q : List Loc, q = [] := ⟨_, rfl⟩
  have hS : va_S A s.heap H locs := by rw [hHe, hle]; exact hS
  rw [← hHe] at hP
  suffices hgo : W p l e rmX7_rings s m ([.ref o_t, .int x1, .int x2, .int x3] : List Value).toArray below meth c H locs 0 0 Q (F0 m 0 ls []) by rw [hHe, hle] at hgo; exact hgo
  clear hHe hle
  refine lv_aload_n hx hb dX7_rings_0 rfl (lv_at hl 0 rfl) ?_
  refine lv_iload_n hx hb dX7_rings_1 rfl (lv_at hl 1 rfl) ?_
  obtain ⟨r2, u2, h2, hf⟩ := bd_some hf
  refine calX0 (runV E0.b E0.n (As := [.int x1]) (rest := []) ⟨hx, hb, hml, hown, hts⟩ (c_X7_isBell l D cI o_t a_t S_t x1 _ h2) gX7_rings_X7_isBell rfl rfl rfl hdX7_isBell ⟨by decide, by decide⟩ hK hP hD 0 rfl rfl rfl hl.1 rfl (Nat.le_of_ble_eq_true rfl) dX7_rings_2 ⟨Nat.zero_le _, Nat.zero_le _⟩) hD hS hA (fun H locs hP hD hS => ?_)
  have hP : va_P D vwCl (gX7 o_t a_t cI u2) H := hP
  have hD : va_D A (gX7 o_t a_t cI u2) := hD
  refine W.eq (g2 := F0 m 5 ls [.int r2]) rfl ?_
  refine lv_if_ne (tgt := 12) hx hb dX7_rings_5 (by decide) (fun c5 => ?_) (fun c5 => ?_)
  · replace hf := it_f c5 hf
    refine lv_iload_n hx hb dX7_rings_12 rfl (lv_at hl 2 rfl) ?_
    refine lv_iconst (v := (1 : Int32)) hx hb dX7_rings_13 (by decide) ?_
    refine lv_bipush (v := (40 : Int32)) hx hb dX7_rings_14 (by decide) ?_
    obtain ⟨r16, u16, h16, hf⟩ := bd_some hf
    have hPc : va_P D vwCl [] H := hP.sub (ws' := []) [] rfl
    have hDc : va_D A [] := hD.sub (ws' := []) [] (by decide) rfl
    refine calXe (runS E0.b E0.n (As := [.int x2, .int (1 : Int32), .int (40 : Int32)]) (rest := []) ⟨hx, hb, hml, hown, hts⟩ (c_X7_bound l D cI x2 (1 : Int32) (40 : Int32) _ h16) gX7_rings_X7_bound rfl rfl rfl hdX7_bound ⟨by decide, by decide⟩ hK hPc hDc rfl hl.1 rfl (Nat.le_of_ble_eq_true rfl) dX7_rings_16 ⟨Nat.zero_le _, Nat.zero_le _⟩) hP hD hS hA (fun H locs hP hD hS => ?_)
    have hP : va_P D vwCl (gX7 o_t a_t cI u2) H := hP
    have hD : va_D A (gX7 o_t a_t cI u2) := hD
    refine W.eq (g2 := F0 m 19 ls [.int r16]) rfl ?_
    exact j19 u2 x1 x2 x3 r16 H locs ls hf hP hD hS (lv_sub hl [0, 1, 2, 3] rfl)
  · replace hf := it_t c5 hf
    refine lv_iconst (v := (-1 : Int32)) hx hb dX7_rings_8 (by decide) ?_
    refine lv_goto (tgt := 19) hx hb dX7_rings_9 (by decide) ?_
    exact j19 u2 x1 x2 x3 (-1 : Int32) H locs ls hf hP hD hS (lv_sub hl [0, 1, 2, 3] rfl)
abbrev rmX7_allTrue : Room := { frames := 6, cells := 0, slots := 0, locals := 133 }
set_option maxHeartbeats 4000000 in
set_option maxRecDepth 100000 in
theorem c_X7_allTrue (l : Launch) (D : va_G) (cI : ClassId) (o_t : Nat) (a_t : Nat → Nat) (S_t : G) (x1 : Int32) (out : Int32 × G) (hf : f_X7_allTrue S_t x1 = some out) : Cn E0 l yX7_allTrue wsX7_allTrue rmX7_allTrue D cI [.ref o_t, .int x1] (gX7 o_t a_t cI S_t) (some (.int out.1)) (gX7 o_t a_t cI out.2) := by
  refine Cn.mk (cc := cX7_allTrue) (maxL := 5) (ret := (some .int)) (by decide) rfl (Nat.le_of_ble_eq_true rfl) ?_
  intro p e s m below meth c A ls Q hx hb hml hown hts hK hA hP hD hS hl hr hlk hnm hE hQ
  have hown : s.vm.findClass RX7 = some m.cls := hown
  have hinX7 : ∀ w ∈ u_ws RX7 TX7 26, w ∈ wsX7_allTrue := by decide +kernel
  have j8 : ∀ (n8 : Nat) (S_t : G) (l1 : Int32) (l2 : Int32) (l3 : Int32) (H : Heap) (locs : List Loc) (ls : Array Slot), f_X7_allTrue_8 n8 S_t l1 l2 l3 = some out → va_P D vwCl (gX7 o_t a_t cI S_t) H → va_D A (gX7 o_t a_t cI S_t) → va_S A s.heap H locs → lv_has ls 5 [(0, .ref o_t), (1, .int l1), (2, .int l2), (3, .int l3)] → W p l e rmX7_allTrue s m ([.ref o_t, .int x1] : List Value).toArray below meth c H locs 0 0 Q (F0 m 8 ls []) := by
    intro n8
    induction n8 with
    | zero =>
      intro S_t l1 l2 l3 H locs ls hf
      exact no_some hf
    | succ n8 ih8 =>
      have j21 : ∀ (n21 : Nat) (S_t : G) (l1 : Int32) (l2 : Int32) (l3 : Int32) (l4 : Int32) (H : Heap) (locs : List Loc) (ls : Array Slot), f_X7_allTrue_21 (f_X7_allTrue_8 n8) n21 S_t l1 l2 l3 l4 = some out → va_P D vwCl (gX7 o_t a_t cI S_t) H → va_D A (gX7 o_t a_t cI S_t) → va_S A s.heap H locs → lv_has ls 5 [(0, .ref o_t), (1, .int l1), (2, .int l2), (3, .int l3), (4, .int l4)] → W p l e rmX7_allTrue s m ([.ref o_t, .int x1] : List Value).toArray below meth c H locs 0 0 Q (F0 m 21 ls []) := by
        intro n21
        induction n21 with
        | zero =>
          intro S_t l1 l2 l3 l4 H locs ls hf
          exact no_some hf
        | succ n21 ih21 =>
          intro S_t l1 l2 l3 l4 H locs ls hf hP hD hS hl
          replace hf : b_X7_allTrue_21 (f_X7_allTrue_8 n8) (f_X7_allTrue_21 (f_X7_allTrue_8 n8) n21) S_t l1 l2 l3 l4 = some out := hf
          unfold b_X7_allTrue_21 at hf
          refine lv_iload hx hb dX7_allTrue_21 (lv_at hl 4 rfl) ?_
          refine lv_aload_n hx hb dX7_allTrue_23 rfl (lv_at hl 0 rfl) ?_
          refine va_get (D := D) (ci := 7) (v := .int (S_t.1 7)) (C := RX7) (T := TX7) (N := 26) hx hb hts hinX7 hown hK hP 0 rfl rfl 7 (by decide) (hts (.fieldLink RX7 62 "OnlyStrangersHearModel" "bells" "I") (by decide +kernel)) (fun _ h9 => h9) rfl dX7_allTrue_24 ?_
          refine lv_icmp_ge (tgt := 62) hx hb dX7_allTrue_27 (by decide) (fun c27 => ?_) (fun c27 => ?_)
          · replace hf := it_t c27 hf
            refine lv_iinc (v := l3 + (1 : Int32)) (lv' := [(3, .int (l3 + (1 : Int32))), (0, .ref o_t), (1, .int l1), (2, .int l2), (4, .int l4)]) hx hb dX7_allTrue_62 hl (k := 3) rfl rfl (by decide) rfl (fun ls hl => ?_)
            refine lv_goto (tgt := 8) hx hb dX7_allTrue_65 (by decide) ?_
            exact ih8 S_t l1 l2 (l3 + (1 : Int32)) H locs ls hf hP hD hS (lv_sub hl [1, 2, 3, 0] rfl)
          · replace hf := it_f c27 hf
            refine lv_iload_n hx hb dX7_allTrue_30 rfl (lv_at hl 2 rfl) ?_
            refine lv_aload_n hx hb dX7_allTrue_31 rfl (lv_at hl 0 rfl) ?_
            refine lv_iload hx hb dX7_allTrue_32 (lv_at hl 4 rfl) ?_
            obtain ⟨r34, u34, h34, hf⟩ := bd_some hf
            refine calX0 (runV E0.b E0.n (As := [.int l4]) (rest := [.int l2]) ⟨hx, hb, hml, hown, hts⟩ (c_X7_ringsNow l D cI o_t a_t S_t l4 _ h34) gX7_allTrue_X7_ringsNow rfl rfl rfl hdX7_ringsNow ⟨by decide, by decide⟩ hK hP hD 0 rfl rfl rfl hl.1 rfl (Nat.le_of_ble_eq_true rfl) dX7_allTrue_34 ⟨Nat.zero_le _, Nat.zero_le _⟩) hD hS hA (fun H locs hP hD hS => ?_)
            have hP : va_P D vwCl (gX7 o_t a_t cI u34) H := hP
            have hD : va_D A (gX7 o_t a_t cI u34) := hD
            refine W.eq (g2 := F0 m 37 ls [.int r34, .int l2]) rfl ?_
            refine lv_if_eq (tgt := 53) hx hb dX7_allTrue_37 (by decide) (fun c37 => ?_) (fun c37 => ?_)
            · replace hf := it_t c37 hf
              refine lv_iconst (v := (0 : Int32)) hx hb dX7_allTrue_53 (by decide) ?_
              refine lv_iadd hx hb dX7_allTrue_54 ?_
              refine lv_istore_n (lv' := [(2, .int (l2 + (0 : Int32))), (0, .ref o_t), (1, .int l1), (3, .int l3), (4, .int l4)]) hx hb dX7_allTrue_55 rfl hl (by decide) rfl (fun ls hl => ?_)
              refine lv_iinc (v := l4 + (1 : Int32)) (lv' := [(4, .int (l4 + (1 : Int32))), (2, .int (l2 + (0 : Int32))), (0, .ref o_t), (1, .int l1), (3, .int l3)]) hx hb dX7_allTrue_56 hl (k := 4) rfl rfl (by decide) rfl (fun ls hl => ?_)
              refine lv_goto (tgt := 21) hx hb dX7_allTrue_59 (by decide) ?_
              exact ih21 u34 l1 (l2 + (0 : Int32)) l3 (l4 + (1 : Int32)) H locs ls hf hP hD hS (lv_sub hl [2, 3, 1, 4, 0] rfl)
            · replace hf := it_f c37 hf
              refine lv_aload_n hx hb dX7_allTrue_40 rfl (lv_at hl 0 rfl) ?_
              refine lv_iload hx hb dX7_allTrue_41 (lv_at hl 4 rfl) ?_
              obtain ⟨r43, u43, h43, hf⟩ := bd_some hf
              refine calX0 (runV E0.b E0.n (As := [.int l4]) (rest := [.int l2]) ⟨hx, hb, hml, hown, hts⟩ (c_X7_isTrue l D cI o_t a_t u34 l4 _ h43) gX7_allTrue_X7_isTrue rfl rfl rfl hdX7_isTrue ⟨by decide, by decide⟩ hK hP hD 0 rfl rfl rfl hl.1 rfl (Nat.le_of_ble_eq_true rfl) dX7_allTrue_43 ⟨Nat.zero_le _, Nat.zero_le _⟩) hD hS hA (fun H locs hP hD hS => ?_)
              have hP : va_P D vwCl (gX7 o_t a_t cI u43) H := hP
              have hD : va_D A (gX7 o_t a_t cI u43) := hD
              refine W.eq (g2 := F0 m 46 ls [.int r43, .int l2]) rfl ?_
              refine lv_if_eq (tgt := 53) hx hb dX7_allTrue_46 (by decide) (fun c46 => ?_) (fun c46 => ?_)
              · replace hf := it_t c46 hf
                refine lv_iconst (v := (0 : Int32)) hx hb dX7_allTrue_53 (by decide) ?_
                refine lv_iadd hx hb dX7_allTrue_54 ?_
                refine lv_istore_n (lv' := [(2, .int (l2 + (0 : Int32))), (0, .ref o_t), (1, .int l1), (3, .int l3), (4, .int l4)]) hx hb dX7_allTrue_55 rfl hl (by decide) rfl (fun ls hl => ?_)
                refine lv_iinc (v := l4 + (1 : Int32)) (lv' := [(4, .int (l4 + (1 : Int32))), (2, .int (l2 + (0 : Int32))), (0, .ref o_t), (1, .int l1), (3, .int l3)]) hx hb dX7_allTrue_56 hl (k := 4) rfl rfl (by decide) rfl (fun ls hl => ?_)
                refine lv_goto (tgt := 21) hx hb dX7_allTrue_59 (by decide) ?_
                exact ih21 u43 l1 (l2 + (0 : Int32)) l3 (l4 + (1 : Int32)) H locs ls hf hP hD hS (lv_sub hl [2, 3, 1, 4, 0] rfl)
              · replace hf := it_f c46 hf
                refine lv_iconst (v := (1 : Int32)) hx hb dX7_allTrue_49 (by decide) ?_
                refine lv_goto (tgt := 54) hx hb dX7_allTrue_50 (by decide) ?_
                refine lv_iadd hx hb dX7_allTrue_54 ?_
                refine lv_istore_n (lv' := [(2, .int (l2 + (1 : Int32))), (0, .ref o_t), (1, .int l1), (3, .int l3), (4, .int l4)]) hx hb dX7_allTrue_55 rfl hl (by decide) rfl (fun ls hl => ?_)
                refine lv_iinc (v := l4 + (1 : Int32)) (lv' := [(4, .int (l4 + (1 : Int32))), (2, .int (l2 + (1 : Int32))), (0, .ref o_t), (1, .int l1), (3, .int l3)]) hx hb dX7_allTrue_56 hl (k := 4) rfl rfl (by decide) rfl (fun ls hl => ?_)
                refine lv_goto (tgt := 21) hx hb dX7_allTrue_59 (by decide) ?_
                exact ih21 u43 l1 (l2 + (1 : Int32)) l3 (l4 + (1 : Int32)) H locs ls hf hP hD hS (lv_sub hl [2, 3, 1, 4, 0] rfl)
      intro S_t l1 l2 l3 H locs ls hf hP hD hS hl
      replace hf : b_X7_allTrue_8 (f_X7_allTrue_8 n8) S_t l1 l2 l3 = some out := hf
      unfold b_X7_allTrue_8 at hf
      refine lv_iload_n hx hb dX7_allTrue_8 rfl (lv_at hl 3 rfl) ?_
      refine lv_iload_n hx hb dX7_allTrue_9 rfl (lv_at hl 1 rfl) ?_
      refine lv_icmp_ge (tgt := 68) hx hb dX7_allTrue_10 (by decide) (fun c10 => ?_) (fun c10 => ?_)
      · replace hf := it_t c10 hf
        refine lv_aload_n hx hb dX7_allTrue_68 rfl (lv_at hl 0 rfl) ?_
        obtain ⟨r69, u69, h69, hf⟩ := bd_some hf
        refine calX0 (runV E0.b E0.n (As := []) (rest := []) ⟨hx, hb, hml, hown, hts⟩ (c_X7_forgets l D cI o_t a_t S_t _ h69) gX7_allTrue_X7_forgets rfl rfl rfl hdX7_forgets ⟨by decide, by decide⟩ hK hP hD 0 rfl rfl rfl hl.1 rfl (Nat.le_of_ble_eq_true rfl) dX7_allTrue_69 ⟨Nat.zero_le _, Nat.zero_le _⟩) hD hS hA (fun H locs hP hD hS => ?_)
        have hP : va_P D vwCl (gX7 o_t a_t cI u69) H := hP
        have hD : va_D A (gX7 o_t a_t cI u69) := hD
        refine W.eq (g2 := F0 m 72 ls []) rfl ?_
        refine lv_iload_n hx hb dX7_allTrue_72 rfl (lv_at hl 2 rfl) ?_
        have e := so_some hf
        subst e
        exact ri hx hb hK hr hlk hQ dX7_allTrue_73 hP hD hS
      · replace hf := it_f c10 hf
        refine lv_aload_n hx hb dX7_allTrue_13 rfl (lv_at hl 0 rfl) ?_
        refine lv_iconst (v := (0 : Int32)) hx hb dX7_allTrue_14 (by decide) ?_
        obtain ⟨r15, u15, h15, hf⟩ := bd_some hf
        refine calX0 (runV E0.b E0.n (As := [.int (0 : Int32)]) (rest := []) ⟨hx, hb, hml, hown, hts⟩ (c_X7_goesDay l D cI o_t a_t S_t (0 : Int32) _ h15) gX7_allTrue_X7_goesDay rfl rfl rfl hdX7_goesDay ⟨by decide, by decide⟩ hK hP hD 0 rfl rfl rfl hl.1 rfl (Nat.le_of_ble_eq_true rfl) dX7_allTrue_15 ⟨Nat.zero_le _, Nat.zero_le _⟩) hD hS hA (fun H locs hP hD hS => ?_)
        have hP : va_P D vwCl (gX7 o_t a_t cI u15) H := hP
        have hD : va_D A (gX7 o_t a_t cI u15) := hD
        refine W.eq (g2 := F0 m 18 ls []) rfl ?_
        refine lv_iconst (v := (0 : Int32)) hx hb dX7_allTrue_18 (by decide) ?_
        refine lv_istore (lv' := [(4, .int (0 : Int32)), (0, .ref o_t), (1, .int l1), (2, .int l2), (3, .int l3)]) hx hb dX7_allTrue_19 hl (by decide) rfl (fun ls hl => ?_)
        exact j21 1000 u15 l1 l2 l3 (0 : Int32) H locs ls hf hP hD hS (lv_sub hl [1, 2, 3, 4, 0] rfl)
  unfold f_X7_allTrue at hf
  have hl : lv_has ls 5 [(0, .ref o_t), (1, .int x1)] := hl
  obtain ⟨H, hHe⟩ : ∃ H : Heap, H = s.heap := ⟨_, rfl⟩
  obtain ⟨locs, hle⟩ : ∃ q : List Loc, q = [] := ⟨_, rfl⟩
  have hS : va_S A s.heap H locs := by rw [hHe, hle]; exact hS
  rw [← hHe] at hP
  suffices hgo : W p l e rmX7_allTrue s m ([.ref o_t, .int x1] : List Value).toArray below meth c H locs 0 0 Q (F0 m 0 ls []) by rw [hHe, hle] at hgo; exact hgo
  clear hHe hle
  refine lv_aload_n hx hb dX7_allTrue_0 rfl (lv_at hl 0 rfl) ?_
  obtain ⟨r1, u1, h1, hf⟩ := bd_some hf
  refine calX0 (runV E0.b E0.n (As := []) (rest := []) ⟨hx, hb, hml, hown, hts⟩ (c_X7_thinks l D cI o_t a_t S_t _ h1) gX7_allTrue_X7_thinks rfl rfl rfl hdX7_thinks ⟨by decide, by decide⟩ hK hP hD 0 rfl rfl rfl hl.1 rfl (Nat.le_of_ble_eq_true rfl) dX7_allTrue_1 ⟨Nat.zero_le _, Nat.zero_le _⟩) hD hS hA (fun H locs hP hD hS => ?_)
  have hP : va_P D vwCl (gX7 o_t a_t cI u1) H := hP
  have hD : va_D A (gX7 o_t a_t cI u1) := hD
  refine W.eq (g2 := F0 m 4 ls []) rfl ?_
  refine lv_iconst (v := (0 : Int32)) hx hb dX7_allTrue_4 (by decide) ?_
  refine lv_istore_n (lv' := [(2, .int (0 : Int32)), (0, .ref o_t), (1, .int x1)]) hx hb dX7_allTrue_5 rfl hl (by decide) rfl (fun ls hl => ?_)
  refine lv_iconst (v := (0 : Int32)) hx hb dX7_allTrue_6 (by decide) ?_
  refine lv_istore_n (lv' := [(3, .int (0 : Int32)), (2, .int (0 : Int32)), (0, .ref o_t), (1, .int x1)]) hx hb dX7_allTrue_7 rfl hl (by decide) rfl (fun ls hl => ?_)
  exact j8 1000 u1 x1 (0 : Int32) (0 : Int32) H locs ls hf hP hD hS (lv_sub hl [2, 3, 1, 0] rfl)
abbrev rmX7_send : Room := { frames := 7, cells := 0, slots := 0, locals := 158 }
set_option maxHeartbeats 4000000 in
set_option maxRecDepth 100000 in
theorem c_X7_send (l : Launch) (D : va_G) (cI : ClassId) (o_t : Nat) (a_t : Nat → Nat) (S_t : G) (x1 : Int32) (x2 : Int32) (x3 : Int32) (out : Int32 × G) (hf : f_X7_send S_t x1 x2 x3 = some out) : Cn E0 l yX7_send wsX7_send rmX7_send D cI [.ref o_t, .int x1, .int x2, .int x3] (gX7 o_t a_t cI S_t) (some (.int out.1)) (gX7 o_t a_t cI out.2) := by
  refine Cn.mk (cc := cX7_send) (maxL := 10) (ret := (some .int)) (by decide) rfl (Nat.le_of_ble_eq_true rfl) ?_
  intro p e s m below meth c A ls Q hx hb hml hown hts hK hA hP hD hS hl hr hlk hnm hE hQ
  have hown : s.vm.findClass RX7 = some m.cls := hown
  have hinX7 : ∀ w ∈ u_ws RX7 TX7 26, w ∈ wsX7_send := by decide +kernel
  have j75 : ∀ (n75 : Nat) (S_t : G) (l1 : Int32) (l2 : Int32) (l3 : Int32) (l5 : Int32) (l6 : Int32) (l7 : Int32) (H : Heap) (locs : List Loc) (ls : Array Slot), f_X7_send_75 n75 S_t l1 l2 l3 l5 l6 l7 = some out → va_P D vwCl (gX7 o_t a_t cI S_t) H → va_D A (gX7 o_t a_t cI S_t) → va_S A s.heap H locs → lv_has ls 10 [(0, .ref o_t), (1, .int l1), (2, .int l2), (3, .int l3), (5, .int l5), (6, .int l6), (7, .int l7)] → W p l e rmX7_send s m ([.ref o_t, .int x1, .int x2, .int x3] : List Value).toArray below meth c H locs 0 0 Q (F0 m 75 ls []) := by
    intro n75
    induction n75 with
    | zero =>
      intro S_t l1 l2 l3 l5 l6 l7 H locs ls hf
      exact no_some hf
    | succ n75 ih75 =>
      intro S_t l1 l2 l3 l5 l6 l7 H locs ls hf hP hD hS hl
      replace hf : b_X7_send_75 (f_X7_send_75 n75) S_t l1 l2 l3 l5 l6 l7 = some out := hf
      unfold b_X7_send_75 at hf
      refine lv_iload hx hb dX7_send_75 (lv_at hl 6 rfl) ?_
      refine lv_aload_n hx hb dX7_send_77 rfl (lv_at hl 0 rfl) ?_
      refine va_get (D := D) (ci := 7) (v := .int (S_t.1 8)) (C := RX7) (T := TX7) (N := 26) hx hb hts hinX7 hown hK hP 0 rfl rfl 8 (by decide) (hts (.fieldLink RX7 65 "OnlyStrangersHearModel" "people" "I") (by decide +kernel)) (fun _ h9 => h9) rfl dX7_send_78 ?_
      refine lv_icmp_ge (tgt := 143) hx hb dX7_send_81 (by decide) (fun c81 => ?_) (fun c81 => ?_)
      · replace hf := it_t c81 hf
        refine lv_iload hx hb dX7_send_143 (lv_at hl 4 rfl) ?_
        have e := so_some hf
        subst e
        exact ri hx hb hK hr hlk hQ dX7_send_145 hP hD hS
      · replace hf := it_f c81 hf
        refine lv_aload_n hx hb dX7_send_84 rfl (lv_at hl 0 rfl) ?_
        refine va_get (D := D) (ci := 7) (v := .ref (a_t 6)) (C := RX7) (T := TX7) (N := 26) hx hb hts hinX7 hown hK hP 0 rfl rfl 6 (by decide) (hts (.fieldLink RX7 28 "OnlyStrangersHearModel" "away" "[I") (by decide +kernel)) (fun _ h9 => h9) rfl dX7_send_85 ?_
        refine lv_iload hx hb dX7_send_88 (lv_at hl 6 rfl) ?_
        obtain ⟨b90, hf⟩ := ck_some hf
        refine va_iald hx hb hK hP 7 0 rfl rfl b90 dX7_send_90 ?_
        refine lv_istore (lv' := [(8, .int (S_t.2 6 l7.toNatClampNeg)), (0, .ref o_t), (1, .int l1), (2, .int l2), (3, .int l3), (5, .int l5), (6, .int l6), (7, .int l7)]) hx hb dX7_send_91 hl (by decide) rfl (fun ls hl => ?_)
        refine lv_aload_n hx hb dX7_send_93 rfl (lv_at hl 1 rfl) ?_
        refine va_get (D := D) (ci := 7) (v := .ref (a_t 6)) (C := RX7) (T := TX7) (N := 26) hx hb hts hinX7 hown hK hP 0 rfl rfl 6 (by decide) (hts (.fieldLink RX7 28 "OnlyStrangersHearModel" "away" "[I") (by decide +kernel)) (fun _ h9 => h9) rfl dX7_send_94 ?_
        refine lv_iload hx hb dX7_send_97 (lv_at hl 7 rfl) ?_
        refine lv_iload_n hx hb dX7_send_99 rfl (lv_at hl 3 rfl) ?_
        obtain ⟨b100, hf⟩ := ck_some hf
        refine va_iast hx hb hK hP hD hS 7 0 rfl rfl b100 dX7_send_100 (fun H locs hP hD hS => ?_)
        have hP : va_P D vwCl (gX7 o_t a_t cI (pA S_t 6 l7.toNatClampNeg l2)) H := hP
        have hD : va_D A (gX7 o_t a_t cI (pA S_t 6 l7.toNatClampNeg l2)) := hD
        obtain ⟨g100, e100, hf⟩ := lt_some hf
        rw [← e100] at hP hD
        refine lv_aload_n hx hb dX7_send_101 rfl (lv_at hl 1 rfl) ?_
        refine lv_iload_n hx hb dX7_send_102 rfl (lv_at hl 2 rfl) ?_
        refine lv_iload_n hx hb dX7_send_103 rfl (lv_at hl 4 rfl) ?_
        refine lv_iconst (v := (1 : Int32)) hx hb dX7_send_104 (by decide) ?_
        obtain ⟨r105, u105, h105, hf⟩ := bd_some hf
        refine calX0 (runV E0.b E0.n (As := [.int l1, .int l3, .int (1 : Int32)]) (rest := []) ⟨hx, hb, hml, hown, hts⟩ (c_X7_ringing l D cI o_t a_t g100 l1 l3 (1 : Int32) _ h105) gX7_send_X7_ringing rfl rfl rfl hdX7_ringing ⟨by decide, by decide⟩ hK hP hD 0 rfl rfl rfl hl.1 rfl (Nat.le_of_ble_eq_true rfl) dX7_send_105 ⟨Nat.zero_le _, Nat.zero_le _⟩) hD hS hA (fun H locs hP hD hS => ?_)
        have hP : va_P D vwCl (gX7 o_t a_t cI u105) H := hP
        have hD : va_D A (gX7 o_t a_t cI u105) := hD
        refine W.eq (g2 := F0 m 108 ls [.int r105]) rfl ?_
        refine lv_istore (lv' := [(9, .int r105), (8, .int (S_t.2 6 l7.toNatClampNeg)), (0, .ref o_t), (1, .int l1), (2, .int l2), (3, .int l3), (5, .int l5), (6, .int l6), (7, .int l7)]) hx hb dX7_send_108 hl (by decide) rfl (fun ls hl => ?_)
        refine lv_aload_n hx hb dX7_send_110 rfl (lv_at hl 2 rfl) ?_
        refine va_get (D := D) (ci := 7) (v := .ref (a_t 6)) (C := RX7) (T := TX7) (N := 26) hx hb hts hinX7 hown hK hP 0 rfl rfl 6 (by decide) (hts (.fieldLink RX7 28 "OnlyStrangersHearModel" "away" "[I") (by decide +kernel)) (fun _ h9 => h9) rfl dX7_send_111 ?_
        refine lv_iload hx hb dX7_send_114 (lv_at hl 8 rfl) ?_
        refine lv_iload hx hb dX7_send_116 (lv_at hl 1 rfl) ?_
        obtain ⟨b118, hf⟩ := ck_some hf
        refine va_iast hx hb hK hP hD hS 7 0 rfl rfl b118 dX7_send_118 (fun H locs hP hD hS => ?_)
        have hP : va_P D vwCl (gX7 o_t a_t cI (pA u105 6 l7.toNatClampNeg (S_t.2 6 l7.toNatClampNeg))) H := hP
        have hD : va_D A (gX7 o_t a_t cI (pA u105 6 l7.toNatClampNeg (S_t.2 6 l7.toNatClampNeg))) := hD
        obtain ⟨g118, e118, hf⟩ := lt_some hf
        rw [← e118] at hP hD
        refine lv_iload hx hb dX7_send_119 (lv_at hl 0 rfl) ?_
        refine lv_iload hx hb dX7_send_121 (lv_at hl 7 rfl) ?_
        refine lv_icmp_gt (tgt := 129) hx hb dX7_send_123 (by decide) (fun c123 => ?_) (fun c123 => ?_)
        · replace hf := it_t c123 hf
          refine lv_iload hx hb dX7_send_129 (lv_at hl 8 rfl) ?_
          refine lv_istore (lv' := [(5, .int l7), (9, .int r105), (8, .int (S_t.2 6 l7.toNatClampNeg)), (0, .ref o_t), (1, .int l1), (2, .int l2), (3, .int l3), (6, .int l6), (7, .int l7)]) hx hb dX7_send_131 hl (by decide) rfl (fun ls hl => ?_)
          refine lv_iload hx hb dX7_send_133 (lv_at hl 1 rfl) ?_
          refine lv_istore (lv' := [(6, .int r105), (5, .int l7), (9, .int r105), (8, .int (S_t.2 6 l7.toNatClampNeg)), (0, .ref o_t), (1, .int l1), (2, .int l2), (3, .int l3), (7, .int l7)]) hx hb dX7_send_135 hl (by decide) rfl (fun ls hl => ?_)
          refine lv_iinc (v := l7 + (1 : Int32)) (lv' := [(7, .int (l7 + (1 : Int32))), (6, .int r105), (5, .int l7), (9, .int r105), (8, .int (S_t.2 6 l7.toNatClampNeg)), (0, .ref o_t), (1, .int l1), (2, .int l2), (3, .int l3)]) hx hb dX7_send_137 hl (k := 8) rfl rfl (by decide) rfl (fun ls hl => ?_)
          refine lv_goto (tgt := 75) hx hb dX7_send_140 (by decide) ?_
          exact ih75 g118 l1 l2 l3 l7 r105 (l7 + (1 : Int32)) H locs ls hf hP hD hS (lv_sub hl [5, 6, 7, 8, 2, 1, 0] rfl)
        · replace hf := it_f c123 hf
          refine lv_goto (tgt := 137) hx hb dX7_send_126 (by decide) ?_
          refine lv_iinc (v := l7 + (1 : Int32)) (lv' := [(7, .int (l7 + (1 : Int32))), (9, .int r105), (8, .int (S_t.2 6 l7.toNatClampNeg)), (0, .ref o_t), (1, .int l1), (2, .int l2), (3, .int l3), (5, .int l5), (6, .int l6)]) hx hb dX7_send_137 hl (k := 8) rfl rfl (by decide) rfl (fun ls hl => ?_)
          refine lv_goto (tgt := 75) hx hb dX7_send_140 (by decide) ?_
          exact ih75 g118 l1 l2 l3 l5 l6 (l7 + (1 : Int32)) H locs ls hf hP hD hS (lv_sub hl [3, 4, 5, 6, 7, 8, 0] rfl)
  have j45 : ∀ (S_t : G) (l1 : Int32) (l2 : Int32) (l3 : Int32) (s0 : Int32) (H : Heap) (locs : List Loc) (ls : Array Slot), f_X7_send_45 S_t l1 l2 l3 s0 = some out → va_P D vwCl (gX7 o_t a_t cI S_t) H → va_D A (gX7 o_t a_t cI S_t) → va_S A s.heap H locs → lv_has ls 10 [(0, .ref o_t), (1, .int l1), (2, .int l2), (3, .int l3)] → W p l e rmX7_send s m ([.ref o_t, .int x1, .int x2, .int x3] : List Value).toArray below meth c H locs 0 0 Q (F0 m 45 ls [.int s0]) := by
    intro S_t l1 l2 l3 s0 H locs ls hf hP hD hS hl
    unfold f_X7_send_45 at hf
    refine lv_istore (lv' := [(4, .int s0), (0, .ref o_t), (1, .int l1), (2, .int l2), (3, .int l3)]) hx hb dX7_send_45 hl (by decide) rfl (fun ls hl => ?_)
    refine lv_iload hx hb dX7_send_47 (lv_at hl 0 rfl) ?_
    refine lv_if_eq (tgt := 59) hx hb dX7_send_49 (by decide) (fun c49 => ?_) (fun c49 => ?_)
    · replace hf := it_t c49 hf
      refine lv_bipush (v := (-9 : Int32)) hx hb dX7_send_59 (by decide) ?_
      refine lv_istore (lv' := [(5, .int (-9 : Int32)), (4, .int s0), (0, .ref o_t), (1, .int l1), (2, .int l2), (3, .int l3)]) hx hb dX7_send_61 hl (by decide) rfl (fun ls hl => ?_)
      refine lv_aload_n hx hb dX7_send_63 rfl (lv_at hl 2 rfl) ?_
      refine lv_iload_n hx hb dX7_send_64 rfl (lv_at hl 3 rfl) ?_
      refine lv_iload_n hx hb dX7_send_65 rfl (lv_at hl 5 rfl) ?_
      refine lv_iconst (v := (1 : Int32)) hx hb dX7_send_66 (by decide) ?_
      obtain ⟨r67, u67, h67, hf⟩ := bd_some hf
      refine calX0 (runV E0.b E0.n (As := [.int l1, .int l3, .int (1 : Int32)]) (rest := []) ⟨hx, hb, hml, hown, hts⟩ (c_X7_ringing l D cI o_t a_t S_t l1 l3 (1 : Int32) _ h67) gX7_send_X7_ringing rfl rfl rfl hdX7_ringing ⟨by decide, by decide⟩ hK hP hD 0 rfl rfl rfl hl.1 rfl (Nat.le_of_ble_eq_true rfl) dX7_send_67 ⟨Nat.zero_le _, Nat.zero_le _⟩) hD hS hA (fun H locs hP hD hS => ?_)
      have hP : va_P D vwCl (gX7 o_t a_t cI u67) H := hP
      have hD : va_D A (gX7 o_t a_t cI u67) := hD
      refine W.eq (g2 := F0 m 70 ls [.int r67]) rfl ?_
      refine lv_istore (lv' := [(6, .int r67), (5, .int (-9 : Int32)), (4, .int s0), (0, .ref o_t), (1, .int l1), (2, .int l2), (3, .int l3)]) hx hb dX7_send_70 hl (by decide) rfl (fun ls hl => ?_)
      refine lv_iconst (v := (0 : Int32)) hx hb dX7_send_72 (by decide) ?_
      refine lv_istore (lv' := [(7, .int (0 : Int32)), (6, .int r67), (5, .int (-9 : Int32)), (4, .int s0), (0, .ref o_t), (1, .int l1), (2, .int l2), (3, .int l3)]) hx hb dX7_send_73 hl (by decide) rfl (fun ls hl => ?_)
      exact j75 1000 u67 l1 l2 l3 (-9 : Int32) r67 (0 : Int32) H locs ls hf hP hD hS (lv_sub hl [4, 5, 6, 7, 2, 1, 0] rfl)
    · replace hf := it_f c49 hf
      refine lv_aload_n hx hb dX7_send_52 rfl (lv_at hl 1 rfl) ?_
      refine lv_iload hx hb dX7_send_53 (lv_at hl 0 rfl) ?_
      obtain ⟨r55, u55, h55, hf⟩ := bd_some hf
      refine calX0 (runV E0.b E0.n (As := [.int s0]) (rest := []) ⟨hx, hb, hml, hown, hts⟩ (c_X7_no l D cI o_t a_t S_t s0 _ h55) gX7_send_X7_no rfl rfl rfl hdX7_no ⟨by decide, by decide⟩ hK hP hD 0 rfl rfl rfl hl.1 rfl (Nat.le_of_ble_eq_true rfl) dX7_send_55 ⟨Nat.zero_le _, Nat.zero_le _⟩) hD hS hA (fun H locs hP hD hS => ?_)
      have hP : va_P D vwCl (gX7 o_t a_t cI u55) H := hP
      have hD : va_D A (gX7 o_t a_t cI u55) := hD
      refine W.eq (g2 := F0 m 58 ls [.int r55]) rfl ?_
      have e := so_some hf
      subst e
      exact ri hx hb hK hr hlk hQ dX7_send_58 hP hD hS
  have j39 : ∀ (S_t : G) (l1 : Int32) (l2 : Int32) (l3 : Int32) (H : Heap) (locs : List Loc) (ls : Array Slot), f_X7_send_39 S_t l1 l2 l3 = some out → va_P D vwCl (gX7 o_t a_t cI S_t) H → va_D A (gX7 o_t a_t cI S_t) → va_S A s.heap H locs → lv_has ls 10 [(0, .ref o_t), (1, .int l1), (2, .int l2), (3, .int l3)] → W p l e rmX7_send s m ([.ref o_t, .int x1, .int x2, .int x3] : List Value).toArray below meth c H locs 0 0 Q (F0 m 39 ls []) := by
    intro S_t l1 l2 l3 H locs ls hf hP hD hS hl
    unfold f_X7_send_39 at hf
    refine lv_bipush (v := (-6 : Int32)) hx hb dX7_send_39 (by decide) ?_
    refine lv_goto (tgt := 45) hx hb dX7_send_41 (by decide) ?_
    exact j45 S_t l1 l2 l3 (-6 : Int32) H locs ls hf hP hD hS (lv_sub hl [0, 1, 2, 3] rfl)
  have j22 : ∀ (S_t : G) (l1 : Int32) (l2 : Int32) (l3 : Int32) (H : Heap) (locs : List Loc) (ls : Array Slot), f_X7_send_22 S_t l1 l2 l3 = some out → va_P D vwCl (gX7 o_t a_t cI S_t) H → va_D A (gX7 o_t a_t cI S_t) → va_S A s.heap H locs → lv_has ls 10 [(0, .ref o_t), (1, .int l1), (2, .int l2), (3, .int l3)] → W p l e rmX7_send s m ([.ref o_t, .int x1, .int x2, .int x3] : List Value).toArray below meth c H locs 0 0 Q (F0 m 22 ls []) := by
    intro S_t l1 l2 l3 H locs ls hf hP hD hS hl
    unfold f_X7_send_22 at hf
    refine lv_bipush (v := (-4 : Int32)) hx hb dX7_send_22 (by decide) ?_
    refine lv_goto (tgt := 45) hx hb dX7_send_24 (by decide) ?_
    exact j45 S_t l1 l2 l3 (-4 : Int32) H locs ls hf hP hD hS (lv_sub hl [0, 1, 2, 3] rfl)
  unfold f_X7_send at hf
  have hl : lv_has ls 10 [(0, .ref o_t), (1, .int x1), (2, .int x2), (3, .int x3)] := hl
  obtain ⟨H, hHe⟩ : ∃ H : Heap, H = s.heap := ⟨_, rfl⟩
  obtain ⟨locs, hle⟩ : ∃ q : List Loc, q = [] := ⟨_, rfl⟩
  have hS : va_S A s.heap H locs := by rw [hHe, hle]; exact hS
  rw [← hHe] at hP
  suffices hgo : W p l e rmX7_send s m ([.ref o_t, .int x1, .int x2, .int x3] : List Value).toArray below meth c H locs 0 0 Q (F0 m 0 ls []) by rw [hHe, hle] at hgo; exact hgo
  clear hHe hle
  refine lv_aload_n hx hb dX7_send_0 rfl (lv_at hl 0 rfl) ?_
  refine lv_iload_n hx hb dX7_send_1 rfl (lv_at hl 1 rfl) ?_
  obtain ⟨r2, u2, h2, hf⟩ := bd_some hf
  refine calX0 (runV E0.b E0.n (As := [.int x1]) (rest := []) ⟨hx, hb, hml, hown, hts⟩ (c_X7_isBell l D cI o_t a_t S_t x1 _ h2) gX7_send_X7_isBell rfl rfl rfl hdX7_isBell ⟨by decide, by decide⟩ hK hP hD 0 rfl rfl rfl hl.1 rfl (Nat.le_of_ble_eq_true rfl) dX7_send_2 ⟨Nat.zero_le _, Nat.zero_le _⟩) hD hS hA (fun H locs hP hD hS => ?_)
  have hP : va_P D vwCl (gX7 o_t a_t cI u2) H := hP
  have hD : va_D A (gX7 o_t a_t cI u2) := hD
  refine W.eq (g2 := F0 m 5 ls [.int r2]) rfl ?_
  refine lv_if_ne (tgt := 12) hx hb dX7_send_5 (by decide) (fun c5 => ?_) (fun c5 => ?_)
  · replace hf := it_f c5 hf
    refine lv_iload_n hx hb dX7_send_12 rfl (lv_at hl 2 rfl) ?_
    refine lv_iconst (v := (1 : Int32)) hx hb dX7_send_13 (by decide) ?_
    refine lv_icmp_lt (tgt := 22) hx hb dX7_send_14 (by decide) (fun c14 => ?_) (fun c14 => ?_)
    · replace hf := it_t c14 hf
      exact j22 u2 x1 x2 x3 H locs ls hf hP hD hS (lv_sub hl [0, 1, 2, 3] rfl)
    · replace hf := it_f c14 hf
      refine lv_iload_n hx hb dX7_send_17 rfl (lv_at hl 3 rfl) ?_
      refine lv_iconst (v := (1 : Int32)) hx hb dX7_send_18 (by decide) ?_
      refine lv_icmp_ge (tgt := 27) hx hb dX7_send_19 (by decide) (fun c19 => ?_) (fun c19 => ?_)
      · replace hf := it_t c19 hf
        refine lv_iload_n hx hb dX7_send_27 rfl (lv_at hl 2 rfl) ?_
        refine lv_bipush (v := (9 : Int32)) hx hb dX7_send_28 (by decide) ?_
        refine lv_icmp_gt (tgt := 39) hx hb dX7_send_30 (by decide) (fun c30 => ?_) (fun c30 => ?_)
        · replace hf := it_t c30 hf
          exact j39 u2 x1 x2 x3 H locs ls hf hP hD hS (lv_sub hl [0, 1, 2, 3] rfl)
        · replace hf := it_f c30 hf
          refine lv_iload_n hx hb dX7_send_33 rfl (lv_at hl 3 rfl) ?_
          refine lv_bipush (v := (40 : Int32)) hx hb dX7_send_34 (by decide) ?_
          refine lv_icmp_le (tgt := 44) hx hb dX7_send_36 (by decide) (fun c36 => ?_) (fun c36 => ?_)
          · replace hf := it_t c36 hf
            refine lv_iconst (v := (0 : Int32)) hx hb dX7_send_44 (by decide) ?_
            exact j45 u2 x1 x2 x3 (0 : Int32) H locs ls hf hP hD hS (lv_sub hl [0, 1, 2, 3] rfl)
          · replace hf := it_f c36 hf
            exact j39 u2 x1 x2 x3 H locs ls hf hP hD hS (lv_sub hl [0, 1, 2, 3] rfl)
      · replace hf := it_f c19 hf
        exact j22 u2 x1 x2 x3 H locs ls hf hP hD hS (lv_sub hl [0, 1, 2, 3] rfl)
  · replace hf := it_t c5 hf
    refine lv_iconst (v := (-1 : Int32)) hx hb dX7_send_8 (by decide) ?_
    refine lv_goto (tgt := 45) hx hb dX7_send_9 (by decide) ?_
    exact j45 u2 x1 x2 x3 (-1 : Int32) H locs ls hf hP hD hS (lv_sub hl [0, 1, 2, 3] rfl)
abbrev rmX7_nightsFor : Room := { frames := 7, cells := 0, slots := 0, locals := 157 }
set_option maxHeartbeats 4000000 in
set_option maxRecDepth 100000 in
theorem c_X7_nightsFor (l : Launch) (D : va_G) (cI : ClassId) (o_t : Nat) (a_t : Nat → Nat) (S_t : G) (x1 : Int32) (x2 : Int32) (out : Int32 × G) (hf : f_X7_nightsFor S_t x1 x2 = some out) : Cn E0 l yX7_nightsFor wsX7_nightsFor rmX7_nightsFor D cI [.ref o_t, .int x1, .int x2] (gX7 o_t a_t cI S_t) (some (.int out.1)) (gX7 o_t a_t cI out.2) := by
  refine Cn.mk (cc := cX7_nightsFor) (maxL := 9) (ret := (some .int)) (by decide) rfl (Nat.le_of_ble_eq_true rfl) ?_
  intro p e s m below meth c A ls Q hx hb hml hown hts hK hA hP hD hS hl hr hlk hnm hE hQ
  have hown : s.vm.findClass RX7 = some m.cls := hown
  have hinX7 : ∀ w ∈ u_ws RX7 TX7 26, w ∈ wsX7_nightsFor := by decide +kernel
  have j52 : ∀ (n52 : Nat) (S_t : G) (l1 : Int32) (l2 : Int32) (l4 : Int32) (l5 : Int32) (l6 : Int32) (l7 : Int32) (H : Heap) (locs : List Loc) (ls : Array Slot), f_X7_nightsFor_52 n52 S_t l1 l2 l4 l5 l6 l7 = some out → va_P D vwCl (gX7 o_t a_t cI S_t) H → va_D A (gX7 o_t a_t cI S_t) → va_S A s.heap H locs → lv_has ls 9 [(0, .ref o_t), (1, .int l1), (2, .int l2), (4, .int l4), (5, .int l5), (6, .int l6), (7, .int l7)] → W p l e rmX7_nightsFor s m ([.ref o_t, .int x1, .int x2] : List Value).toArray below meth c H locs 0 0 Q (F0 m 52 ls []) := by
    intro n52
    induction n52 with
    | zero =>
      intro S_t l1 l2 l4 l5 l6 l7 H locs ls hf
      exact no_some hf
    | succ n52 ih52 =>
      intro S_t l1 l2 l4 l5 l6 l7 H locs ls hf hP hD hS hl
      replace hf : b_X7_nightsFor_52 (f_X7_nightsFor_52 n52) S_t l1 l2 l4 l5 l6 l7 = some out := hf
      unfold b_X7_nightsFor_52 at hf
      refine lv_iload hx hb dX7_nightsFor_52 (lv_at hl 6 rfl) ?_
      refine lv_bipush (v := (9 : Int32)) hx hb dX7_nightsFor_54 (by decide) ?_
      refine lv_icmp_gt (tgt := 98) hx hb dX7_nightsFor_56 (by decide) (fun c56 => ?_) (fun c56 => ?_)
      · replace hf := it_t c56 hf
        refine lv_aload_n hx hb dX7_nightsFor_98 rfl (lv_at hl 0 rfl) ?_
        refine va_get (D := D) (ci := 7) (v := .ref (a_t 6)) (C := RX7) (T := TX7) (N := 26) hx hb hts hinX7 hown hK hP 0 rfl rfl 6 (by decide) (hts (.fieldLink RX7 28 "OnlyStrangersHearModel" "away" "[I") (by decide +kernel)) (fun _ h9 => h9) rfl dX7_nightsFor_99 ?_
        refine lv_iload_n hx hb dX7_nightsFor_102 rfl (lv_at hl 1 rfl) ?_
        refine lv_iload hx hb dX7_nightsFor_103 (lv_at hl 5 rfl) ?_
        obtain ⟨b105, hf⟩ := ck_some hf
        refine va_iast hx hb hK hP hD hS 7 0 rfl rfl b105 dX7_nightsFor_105 (fun H locs hP hD hS => ?_)
        have hP : va_P D vwCl (gX7 o_t a_t cI (pA S_t 6 l1.toNatClampNeg l6)) H := hP
        have hD : va_D A (gX7 o_t a_t cI (pA S_t 6 l1.toNatClampNeg l6)) := hD
        obtain ⟨g105, e105, hf⟩ := lt_some hf
        rw [← e105] at hP hD
        refine lv_iload hx hb dX7_nightsFor_106 (lv_at hl 3 rfl) ?_
        have e := so_some hf
        subst e
        exact ri hx hb hK hr hlk hQ dX7_nightsFor_108 hP hD hS
      · replace hf := it_f c56 hf
        refine lv_aload_n hx hb dX7_nightsFor_59 rfl (lv_at hl 0 rfl) ?_
        refine va_get (D := D) (ci := 7) (v := .ref (a_t 6)) (C := RX7) (T := TX7) (N := 26) hx hb hts hinX7 hown hK hP 0 rfl rfl 6 (by decide) (hts (.fieldLink RX7 28 "OnlyStrangersHearModel" "away" "[I") (by decide +kernel)) (fun _ h9 => h9) rfl dX7_nightsFor_60 ?_
        refine lv_iload_n hx hb dX7_nightsFor_63 rfl (lv_at hl 1 rfl) ?_
        refine lv_iload hx hb dX7_nightsFor_64 (lv_at hl 6 rfl) ?_
        obtain ⟨b66, hf⟩ := ck_some hf
        refine va_iast hx hb hK hP hD hS 7 0 rfl rfl b66 dX7_nightsFor_66 (fun H locs hP hD hS => ?_)
        have hP : va_P D vwCl (gX7 o_t a_t cI (pA S_t 6 l1.toNatClampNeg l7)) H := hP
        have hD : va_D A (gX7 o_t a_t cI (pA S_t 6 l1.toNatClampNeg l7)) := hD
        obtain ⟨g66, e66, hf⟩ := lt_some hf
        rw [← e66] at hP hD
        refine lv_aload_n hx hb dX7_nightsFor_67 rfl (lv_at hl 0 rfl) ?_
        refine lv_iload_n hx hb dX7_nightsFor_68 rfl (lv_at hl 2 rfl) ?_
        obtain ⟨r69, u69, h69, hf⟩ := bd_some hf
        refine calX0 (runV E0.b E0.n (As := [.int l2]) (rest := []) ⟨hx, hb, hml, hown, hts⟩ (c_X7_allTrue l D cI o_t a_t g66 l2 _ h69) gX7_nightsFor_X7_allTrue rfl rfl rfl hdX7_allTrue ⟨by decide, by decide⟩ hK hP hD 0 rfl rfl rfl hl.1 rfl (Nat.le_of_ble_eq_true rfl) dX7_nightsFor_69 ⟨Nat.zero_le _, Nat.zero_le _⟩) hD hS hA (fun H locs hP hD hS => ?_)
        have hP : va_P D vwCl (gX7 o_t a_t cI u69) H := hP
        have hD : va_D A (gX7 o_t a_t cI u69) := hD
        refine W.eq (g2 := F0 m 72 ls [.int r69]) rfl ?_
        refine lv_istore (lv' := [(8, .int r69), (0, .ref o_t), (1, .int l1), (2, .int l2), (4, .int l4), (5, .int l5), (6, .int l6), (7, .int l7)]) hx hb dX7_nightsFor_72 hl (by decide) rfl (fun ls hl => ?_)
        refine lv_iload hx hb dX7_nightsFor_74 (lv_at hl 0 rfl) ?_
        refine lv_iload hx hb dX7_nightsFor_76 (lv_at hl 5 rfl) ?_
        refine lv_icmp_gt (tgt := 84) hx hb dX7_nightsFor_78 (by decide) (fun c78 => ?_) (fun c78 => ?_)
        · replace hf := it_t c78 hf
          refine lv_iload hx hb dX7_nightsFor_84 (lv_at hl 7 rfl) ?_
          refine lv_istore (lv' := [(4, .int l7), (8, .int r69), (0, .ref o_t), (1, .int l1), (2, .int l2), (5, .int l5), (6, .int l6), (7, .int l7)]) hx hb dX7_nightsFor_86 hl (by decide) rfl (fun ls hl => ?_)
          refine lv_iload hx hb dX7_nightsFor_88 (lv_at hl 1 rfl) ?_
          refine lv_istore (lv' := [(5, .int r69), (4, .int l7), (8, .int r69), (0, .ref o_t), (1, .int l1), (2, .int l2), (6, .int l6), (7, .int l7)]) hx hb dX7_nightsFor_90 hl (by decide) rfl (fun ls hl => ?_)
          refine lv_iinc (v := l7 + (1 : Int32)) (lv' := [(7, .int (l7 + (1 : Int32))), (5, .int r69), (4, .int l7), (8, .int r69), (0, .ref o_t), (1, .int l1), (2, .int l2), (6, .int l6)]) hx hb dX7_nightsFor_92 hl (k := 7) rfl rfl (by decide) rfl (fun ls hl => ?_)
          refine lv_goto (tgt := 52) hx hb dX7_nightsFor_95 (by decide) ?_
          exact ih52 u69 l1 l2 l7 r69 l6 (l7 + (1 : Int32)) H locs ls hf hP hD hS (lv_sub hl [4, 5, 6, 2, 1, 7, 0] rfl)
        · replace hf := it_f c78 hf
          refine lv_goto (tgt := 92) hx hb dX7_nightsFor_81 (by decide) ?_
          refine lv_iinc (v := l7 + (1 : Int32)) (lv' := [(7, .int (l7 + (1 : Int32))), (8, .int r69), (0, .ref o_t), (1, .int l1), (2, .int l2), (4, .int l4), (5, .int l5), (6, .int l6)]) hx hb dX7_nightsFor_92 hl (k := 7) rfl rfl (by decide) rfl (fun ls hl => ?_)
          refine lv_goto (tgt := 52) hx hb dX7_nightsFor_95 (by decide) ?_
          exact ih52 u69 l1 l2 l4 l5 l6 (l7 + (1 : Int32)) H locs ls hf hP hD hS (lv_sub hl [2, 3, 4, 5, 6, 7, 0] rfl)
  have j19 : ∀ (S_t : G) (l1 : Int32) (l2 : Int32) (s0 : Int32) (H : Heap) (locs : List Loc) (ls : Array Slot), f_X7_nightsFor_19 S_t l1 l2 s0 = some out → va_P D vwCl (gX7 o_t a_t cI S_t) H → va_D A (gX7 o_t a_t cI S_t) → va_S A s.heap H locs → lv_has ls 9 [(0, .ref o_t), (1, .int l1), (2, .int l2)] → W p l e rmX7_nightsFor s m ([.ref o_t, .int x1, .int x2] : List Value).toArray below meth c H locs 0 0 Q (F0 m 19 ls [.int s0]) := by
    intro S_t l1 l2 s0 H locs ls hf hP hD hS hl
    unfold f_X7_nightsFor_19 at hf
    refine lv_istore_n (lv' := [(3, .int s0), (0, .ref o_t), (1, .int l1), (2, .int l2)]) hx hb dX7_nightsFor_19 rfl hl (by decide) rfl (fun ls hl => ?_)
    refine lv_iload_n hx hb dX7_nightsFor_20 rfl (lv_at hl 0 rfl) ?_
    refine lv_if_eq (tgt := 30) hx hb dX7_nightsFor_21 (by decide) (fun c21 => ?_) (fun c21 => ?_)
    · replace hf := it_t c21 hf
      refine lv_bipush (v := (-9 : Int32)) hx hb dX7_nightsFor_30 (by decide) ?_
      refine lv_istore (lv' := [(4, .int (-9 : Int32)), (3, .int s0), (0, .ref o_t), (1, .int l1), (2, .int l2)]) hx hb dX7_nightsFor_32 hl (by decide) rfl (fun ls hl => ?_)
      refine lv_aload_n hx hb dX7_nightsFor_34 rfl (lv_at hl 2 rfl) ?_
      refine lv_iload_n hx hb dX7_nightsFor_35 rfl (lv_at hl 4 rfl) ?_
      obtain ⟨r36, u36, h36, hf⟩ := bd_some hf
      refine calX0 (runV E0.b E0.n (As := [.int l2]) (rest := []) ⟨hx, hb, hml, hown, hts⟩ (c_X7_allTrue l D cI o_t a_t S_t l2 _ h36) gX7_nightsFor_X7_allTrue rfl rfl rfl hdX7_allTrue ⟨by decide, by decide⟩ hK hP hD 0 rfl rfl rfl hl.1 rfl (Nat.le_of_ble_eq_true rfl) dX7_nightsFor_36 ⟨Nat.zero_le _, Nat.zero_le _⟩) hD hS hA (fun H locs hP hD hS => ?_)
      have hP : va_P D vwCl (gX7 o_t a_t cI u36) H := hP
      have hD : va_D A (gX7 o_t a_t cI u36) := hD
      refine W.eq (g2 := F0 m 39 ls [.int r36]) rfl ?_
      refine lv_istore (lv' := [(5, .int r36), (4, .int (-9 : Int32)), (3, .int s0), (0, .ref o_t), (1, .int l1), (2, .int l2)]) hx hb dX7_nightsFor_39 hl (by decide) rfl (fun ls hl => ?_)
      refine lv_aload_n hx hb dX7_nightsFor_41 rfl (lv_at hl 3 rfl) ?_
      refine va_get (D := D) (ci := 7) (v := .ref (a_t 6)) (C := RX7) (T := TX7) (N := 26) hx hb hts hinX7 hown hK hP 0 rfl rfl 6 (by decide) (hts (.fieldLink RX7 28 "OnlyStrangersHearModel" "away" "[I") (by decide +kernel)) (fun _ h9 => h9) rfl dX7_nightsFor_42 ?_
      refine lv_iload_n hx hb dX7_nightsFor_45 rfl (lv_at hl 4 rfl) ?_
      obtain ⟨b46, hf⟩ := ck_some hf
      refine va_iald hx hb hK hP 7 0 rfl rfl b46 dX7_nightsFor_46 ?_
      refine lv_istore (lv' := [(6, .int (u36.2 6 l1.toNatClampNeg)), (5, .int r36), (4, .int (-9 : Int32)), (3, .int s0), (0, .ref o_t), (1, .int l1), (2, .int l2)]) hx hb dX7_nightsFor_47 hl (by decide) rfl (fun ls hl => ?_)
      refine lv_iconst (v := (1 : Int32)) hx hb dX7_nightsFor_49 (by decide) ?_
      refine lv_istore (lv' := [(7, .int (1 : Int32)), (6, .int (u36.2 6 l1.toNatClampNeg)), (5, .int r36), (4, .int (-9 : Int32)), (3, .int s0), (0, .ref o_t), (1, .int l1), (2, .int l2)]) hx hb dX7_nightsFor_50 hl (by decide) rfl (fun ls hl => ?_)
      exact j52 1000 u36 l1 l2 (-9 : Int32) r36 (u36.2 6 l1.toNatClampNeg) (1 : Int32) H locs ls hf hP hD hS (lv_sub hl [5, 6, 7, 3, 2, 1, 0] rfl)
    · replace hf := it_f c21 hf
      refine lv_aload_n hx hb dX7_nightsFor_24 rfl (lv_at hl 1 rfl) ?_
      refine lv_iload_n hx hb dX7_nightsFor_25 rfl (lv_at hl 0 rfl) ?_
      obtain ⟨r26, u26, h26, hf⟩ := bd_some hf
      refine calX0 (runV E0.b E0.n (As := [.int s0]) (rest := []) ⟨hx, hb, hml, hown, hts⟩ (c_X7_no l D cI o_t a_t S_t s0 _ h26) gX7_nightsFor_X7_no rfl rfl rfl hdX7_no ⟨by decide, by decide⟩ hK hP hD 0 rfl rfl rfl hl.1 rfl (Nat.le_of_ble_eq_true rfl) dX7_nightsFor_26 ⟨Nat.zero_le _, Nat.zero_le _⟩) hD hS hA (fun H locs hP hD hS => ?_)
      have hP : va_P D vwCl (gX7 o_t a_t cI u26) H := hP
      have hD : va_D A (gX7 o_t a_t cI u26) := hD
      refine W.eq (g2 := F0 m 29 ls [.int r26]) rfl ?_
      have e := so_some hf
      subst e
      exact ri hx hb hK hr hlk hQ dX7_nightsFor_29 hP hD hS
  unfold f_X7_nightsFor at hf
  have hl : lv_has ls 9 [(0, .ref o_t), (1, .int x1), (2, .int x2)] := hl
  obtain ⟨H, hHe⟩ : ∃ H : Heap, H = s.heap := ⟨_, rfl⟩
  obtain ⟨locs, hle⟩ : ∃ q : List Loc, q = [] := ⟨_, rfl⟩
  have hS : va_S A s.heap H locs := by rw [hHe, hle]; exact hS
  rw [← hHe] at hP
  suffices hgo : W p l e rmX7_nightsFor s m ([.ref o_t, .int x1, .int x2] : List Value).toArray below meth c H locs 0 0 Q (F0 m 0 ls []) by rw [hHe, hle] at hgo; exact hgo
  clear hHe hle
  refine lv_aload_n hx hb dX7_nightsFor_0 rfl (lv_at hl 0 rfl) ?_
  refine lv_iload_n hx hb dX7_nightsFor_1 rfl (lv_at hl 1 rfl) ?_
  obtain ⟨r2, u2, h2, hf⟩ := bd_some hf
  refine calX0 (runV E0.b E0.n (As := [.int x1]) (rest := []) ⟨hx, hb, hml, hown, hts⟩ (c_X7_isOne l D cI o_t a_t S_t x1 _ h2) gX7_nightsFor_X7_isOne rfl rfl rfl hdX7_isOne ⟨by decide, by decide⟩ hK hP hD 0 rfl rfl rfl hl.1 rfl (Nat.le_of_ble_eq_true rfl) dX7_nightsFor_2 ⟨Nat.zero_le _, Nat.zero_le _⟩) hD hS hA (fun H locs hP hD hS => ?_)
  have hP : va_P D vwCl (gX7 o_t a_t cI u2) H := hP
  have hD : va_D A (gX7 o_t a_t cI u2) := hD
  refine W.eq (g2 := F0 m 5 ls [.int r2]) rfl ?_
  refine lv_if_ne (tgt := 12) hx hb dX7_nightsFor_5 (by decide) (fun c5 => ?_) (fun c5 => ?_)
  · replace hf := it_f c5 hf
    refine lv_iload_n hx hb dX7_nightsFor_12 rfl (lv_at hl 2 rfl) ?_
    refine lv_iconst (v := (1 : Int32)) hx hb dX7_nightsFor_13 (by decide) ?_
    refine lv_bipush (v := (40 : Int32)) hx hb dX7_nightsFor_14 (by decide) ?_
    obtain ⟨r16, u16, h16, hf⟩ := bd_some hf
    have hPc : va_P D vwCl [] H := hP.sub (ws' := []) [] rfl
    have hDc : va_D A [] := hD.sub (ws' := []) [] (by decide) rfl
    refine calXe (runS E0.b E0.n (As := [.int x2, .int (1 : Int32), .int (40 : Int32)]) (rest := []) ⟨hx, hb, hml, hown, hts⟩ (c_X7_bound l D cI x2 (1 : Int32) (40 : Int32) _ h16) gX7_nightsFor_X7_bound rfl rfl rfl hdX7_bound ⟨by decide, by decide⟩ hK hPc hDc rfl hl.1 rfl (Nat.le_of_ble_eq_true rfl) dX7_nightsFor_16 ⟨Nat.zero_le _, Nat.zero_le _⟩) hP hD hS hA (fun H locs hP hD hS => ?_)
    have hP : va_P D vwCl (gX7 o_t a_t cI u2) H := hP
    have hD : va_D A (gX7 o_t a_t cI u2) := hD
    refine W.eq (g2 := F0 m 19 ls [.int r16]) rfl ?_
    exact j19 u2 x1 x2 r16 H locs ls hf hP hD hS (lv_sub hl [0, 1, 2] rfl)
  · replace hf := it_t c5 hf
    refine lv_iconst (v := (-1 : Int32)) hx hb dX7_nightsFor_8 (by decide) ?_
    refine lv_goto (tgt := 19) hx hb dX7_nightsFor_9 (by decide) ?_
    exact j19 u2 x1 x2 (-1 : Int32) H locs ls hf hP hD hS (lv_sub hl [0, 1, 2] rfl)
abbrev rmX7_allHeard : Room := { frames := 3, cells := 0, slots := 0, locals := 66 }
set_option maxHeartbeats 4000000 in
set_option maxRecDepth 100000 in
theorem c_X7_allHeard (l : Launch) (D : va_G) (cI : ClassId) (o_t : Nat) (a_t : Nat → Nat) (S_t : G) (out : Int32 × G) (hf : f_X7_allHeard S_t = some out) : Cn E0 l yX7_allHeard wsX7_allHeard rmX7_allHeard D cI [.ref o_t] (gX7 o_t a_t cI S_t) (some (.int out.1)) (gX7 o_t a_t cI out.2) := by
  refine Cn.mk (cc := cX7_allHeard) (maxL := 2) (ret := (some .boolean)) (by decide) rfl (Nat.le_of_ble_eq_true rfl) ?_
  intro p e s m below meth c A ls Q hx hb hml hown hts hK hA hP hD hS hl hr hlk hnm hE hQ
  have hown : s.vm.findClass RX7 = some m.cls := hown
  have hinX7 : ∀ w ∈ u_ws RX7 TX7 26, w ∈ wsX7_allHeard := by decide +kernel
  have j2 : ∀ (n2 : Nat) (S_t : G) (l1 : Int32) (H : Heap) (locs : List Loc) (ls : Array Slot), f_X7_allHeard_2 n2 S_t l1 = some out → va_P D vwCl (gX7 o_t a_t cI S_t) H → va_D A (gX7 o_t a_t cI S_t) → va_S A s.heap H locs → lv_has ls 2 [(0, .ref o_t), (1, .int l1)] → W p l e rmX7_allHeard s m ([.ref o_t] : List Value).toArray below meth c H locs 0 0 Q (F0 m 2 ls []) := by
    intro n2
    induction n2 with
    | zero =>
      intro S_t l1 H locs ls hf
      exact no_some hf
    | succ n2 ih2 =>
      intro S_t l1 H locs ls hf hP hD hS hl
      replace hf : b_X7_allHeard_2 (f_X7_allHeard_2 n2) S_t l1 = some out := hf
      unfold b_X7_allHeard_2 at hf
      refine lv_iload_n hx hb dX7_allHeard_2 rfl (lv_at hl 1 rfl) ?_
      refine lv_aload_n hx hb dX7_allHeard_3 rfl (lv_at hl 0 rfl) ?_
      refine va_get (D := D) (ci := 7) (v := .int (S_t.1 7)) (C := RX7) (T := TX7) (N := 26) hx hb hts hinX7 hown hK hP 0 rfl rfl 7 (by decide) (hts (.fieldLink RX7 62 "OnlyStrangersHearModel" "bells" "I") (by decide +kernel)) (fun _ h9 => h9) rfl dX7_allHeard_4 ?_
      refine lv_icmp_ge (tgt := 26) hx hb dX7_allHeard_7 (by decide) (fun c7 => ?_) (fun c7 => ?_)
      · replace hf := it_t c7 hf
        refine lv_iconst (v := (1 : Int32)) hx hb dX7_allHeard_26 (by decide) ?_
        have e := so_some hf
        subst e
        exact rz hx hb hK hr hlk (Or.inr rfl) hQ dX7_allHeard_27 hP hD hS
      · replace hf := it_f c7 hf
        refine lv_aload_n hx hb dX7_allHeard_10 rfl (lv_at hl 0 rfl) ?_
        refine lv_iload_n hx hb dX7_allHeard_11 rfl (lv_at hl 1 rfl) ?_
        obtain ⟨r12, u12, h12, hf⟩ := bd_some hf
        refine calX0 (runV E0.b E0.n (As := [.int l1]) (rest := []) ⟨hx, hb, hml, hown, hts⟩ (c_X7_hearers l D cI o_t a_t S_t l1 _ h12) gX7_allHeard_X7_hearers rfl rfl rfl hdX7_hearers ⟨by decide, by decide⟩ hK hP hD 0 rfl rfl rfl hl.1 rfl (Nat.le_of_ble_eq_true rfl) dX7_allHeard_12 ⟨Nat.zero_le _, Nat.zero_le _⟩) hD hS hA (fun H locs hP hD hS => ?_)
        have hP : va_P D vwCl (gX7 o_t a_t cI u12) H := hP
        have hD : va_D A (gX7 o_t a_t cI u12) := hD
        refine W.eq (g2 := F0 m 15 ls [.int r12]) rfl ?_
        refine lv_if_ne (tgt := 20) hx hb dX7_allHeard_15 (by decide) (fun c15 => ?_) (fun c15 => ?_)
        · replace hf := it_f c15 hf
          refine lv_iinc (v := l1 + (1 : Int32)) (lv' := [(1, .int (l1 + (1 : Int32))), (0, .ref o_t)]) hx hb dX7_allHeard_20 hl (k := 1) rfl rfl (by decide) rfl (fun ls hl => ?_)
          refine lv_goto (tgt := 2) hx hb dX7_allHeard_23 (by decide) ?_
          exact ih2 u12 (l1 + (1 : Int32)) H locs ls hf hP hD hS (lv_sub hl [1, 0] rfl)
        · replace hf := it_t c15 hf
          refine lv_iconst (v := (0 : Int32)) hx hb dX7_allHeard_18 (by decide) ?_
          have e := so_some hf
          subst e
          exact rz hx hb hK hr hlk (Or.inl rfl) hQ dX7_allHeard_19 hP hD hS
  unfold f_X7_allHeard at hf
  have hl : lv_has ls 2 [(0, .ref o_t)] := hl
  obtain ⟨H, hHe⟩ : ∃ H : Heap, H = s.heap := ⟨_, rfl⟩
  obtain ⟨locs, hle⟩ : ∃ q : List Loc, q = [] := ⟨_, rfl⟩
  have hS : va_S A s.heap H locs := by rw [hHe, hle]; exact hS
  rw [← hHe] at hP
  suffices hgo : W p l e rmX7_allHeard s m ([.ref o_t] : List Value).toArray below meth c H locs 0 0 Q (F0 m 0 ls []) by rw [hHe, hle] at hgo; exact hgo
  clear hHe hle
  refine lv_iconst (v := (0 : Int32)) hx hb dX7_allHeard_0 (by decide) ?_
  refine lv_istore_n (lv' := [(1, .int (0 : Int32)), (0, .ref o_t)]) hx hb dX7_allHeard_1 rfl hl (by decide) rfl (fun ls hl => ?_)
  exact j2 1000 S_t (0 : Int32) H locs ls hf hP hD hS (lv_sub hl [1, 0] rfl)
abbrev rmX7_allHeardIn : Room := { frames := 4, cells := 0, slots := 0, locals := 90 }
set_option maxHeartbeats 4000000 in
set_option maxRecDepth 100000 in
theorem c_X7_allHeardIn (l : Launch) (D : va_G) (cI : ClassId) (o_t : Nat) (a_t : Nat → Nat) (S_t : G) (x1 : Int32) (out : Int32 × G) (hf : f_X7_allHeardIn S_t x1 = some out) : Cn E0 l yX7_allHeardIn wsX7_allHeardIn rmX7_allHeardIn D cI [.ref o_t, .int x1] (gX7 o_t a_t cI S_t) (some (.int out.1)) (gX7 o_t a_t cI out.2) := by
  refine Cn.mk (cc := cX7_allHeardIn) (maxL := 3) (ret := (some .boolean)) (by decide) rfl (Nat.le_of_ble_eq_true rfl) ?_
  intro p e s m below meth c A ls Q hx hb hml hown hts hK hA hP hD hS hl hr hlk hnm hE hQ
  have hown : s.vm.findClass RX7 = some m.cls := hown
  unfold f_X7_allHeardIn at hf
  have hl : lv_has ls 3 [(0, .ref o_t), (1, .int x1)] := hl
  obtain ⟨H, hHe⟩ : ∃ H : Heap, H = s.heap := ⟨_, rfl⟩
  obtain ⟨locs, hle⟩ : ∃ q : List Loc, q = [] := ⟨_, rfl⟩
  have hS : va_S A s.heap H locs := by rw [hHe, hle]; exact hS
  rw [← hHe] at hP
  suffices hgo : W p l e rmX7_allHeardIn s m ([.ref o_t, .int x1] : List Value).toArray below meth c H locs 0 0 Q (F0 m 0 ls []) by rw [hHe, hle] at hgo; exact hgo
  clear hHe hle
  refine lv_aload_n hx hb dX7_allHeardIn_0 rfl (lv_at hl 0 rfl) ?_
  obtain ⟨r1, u1, h1, hf⟩ := bd_some hf
  refine calX0 (runV E0.b E0.n (As := []) (rest := []) ⟨hx, hb, hml, hown, hts⟩ (c_X7_thinks l D cI o_t a_t S_t _ h1) gX7_allHeardIn_X7_thinks rfl rfl rfl hdX7_thinks ⟨by decide, by decide⟩ hK hP hD 0 rfl rfl rfl hl.1 rfl (Nat.le_of_ble_eq_true rfl) dX7_allHeardIn_1 ⟨Nat.zero_le _, Nat.zero_le _⟩) hD hS hA (fun H locs hP hD hS => ?_)
  have hP : va_P D vwCl (gX7 o_t a_t cI u1) H := hP
  have hD : va_D A (gX7 o_t a_t cI u1) := hD
  refine W.eq (g2 := F0 m 4 ls []) rfl ?_
  refine lv_aload_n hx hb dX7_allHeardIn_4 rfl (lv_at hl 0 rfl) ?_
  refine lv_iload_n hx hb dX7_allHeardIn_5 rfl (lv_at hl 1 rfl) ?_
  obtain ⟨r6, u6, h6, hf⟩ := bd_some hf
  refine calX0 (runV E0.b E0.n (As := [.int x1]) (rest := []) ⟨hx, hb, hml, hown, hts⟩ (c_X7_goesOn l D cI o_t a_t u1 x1 _ h6) gX7_allHeardIn_X7_goesOn rfl rfl rfl hdX7_goesOn ⟨by decide, by decide⟩ hK hP hD 0 rfl rfl rfl hl.1 rfl (Nat.le_of_ble_eq_true rfl) dX7_allHeardIn_6 ⟨Nat.zero_le _, Nat.zero_le _⟩) hD hS hA (fun H locs hP hD hS => ?_)
  have hP : va_P D vwCl (gX7 o_t a_t cI u6) H := hP
  have hD : va_D A (gX7 o_t a_t cI u6) := hD
  refine W.eq (g2 := F0 m 9 ls []) rfl ?_
  refine lv_aload_n hx hb dX7_allHeardIn_9 rfl (lv_at hl 0 rfl) ?_
  obtain ⟨r10, u10, h10, hf⟩ := bd_some hf
  refine calX0 (runV E0.b E0.n (As := []) (rest := []) ⟨hx, hb, hml, hown, hts⟩ (c_X7_allHeard l D cI o_t a_t u6 _ h10) gX7_allHeardIn_X7_allHeard rfl rfl rfl hdX7_allHeard ⟨by decide, by decide⟩ hK hP hD 0 rfl rfl rfl hl.1 rfl (Nat.le_of_ble_eq_true rfl) dX7_allHeardIn_10 ⟨Nat.zero_le _, Nat.zero_le _⟩) hD hS hA (fun H locs hP hD hS => ?_)
  have hP : va_P D vwCl (gX7 o_t a_t cI u10) H := hP
  have hD : va_D A (gX7 o_t a_t cI u10) := hD
  refine W.eq (g2 := F0 m 13 ls [.int r10]) rfl ?_
  refine lv_istore_n (lv' := [(2, .int r10), (0, .ref o_t), (1, .int x1)]) hx hb dX7_allHeardIn_13 rfl hl (by decide) rfl (fun ls hl => ?_)
  refine lv_aload_n hx hb dX7_allHeardIn_14 rfl (lv_at hl 1 rfl) ?_
  obtain ⟨r15, u15, h15, hf⟩ := bd_some hf
  refine calX0 (runV E0.b E0.n (As := []) (rest := []) ⟨hx, hb, hml, hown, hts⟩ (c_X7_forgets l D cI o_t a_t u10 _ h15) gX7_allHeardIn_X7_forgets rfl rfl rfl hdX7_forgets ⟨by decide, by decide⟩ hK hP hD 0 rfl rfl rfl hl.1 rfl (Nat.le_of_ble_eq_true rfl) dX7_allHeardIn_15 ⟨Nat.zero_le _, Nat.zero_le _⟩) hD hS hA (fun H locs hP hD hS => ?_)
  have hP : va_P D vwCl (gX7 o_t a_t cI u15) H := hP
  have hD : va_D A (gX7 o_t a_t cI u15) := hD
  refine W.eq (g2 := F0 m 18 ls []) rfl ?_
  refine lv_iload_n hx hb dX7_allHeardIn_18 rfl (lv_at hl 0 rfl) ?_
  obtain ⟨z19, hf⟩ := zb_some hf
  have e := so_some hf
  subst e
  exact rz hx hb hK hr hlk z19 hQ dX7_allHeardIn_19 hP hD hS
abbrev rmX7_allHeardWithout : Room := { frames := 5, cells := 0, slots := 0, locals := 112 }
set_option maxHeartbeats 4000000 in
set_option maxRecDepth 100000 in
theorem c_X7_allHeardWithout (l : Launch) (D : va_G) (cI : ClassId) (o_t : Nat) (a_t : Nat → Nat) (S_t : G) (x1 : Int32) (x2 : Int32) (out : Int32 × G) (hf : f_X7_allHeardWithout S_t x1 x2 = some out) : Cn E0 l yX7_allHeardWithout wsX7_allHeardWithout rmX7_allHeardWithout D cI [.ref o_t, .int x1, .int x2] (gX7 o_t a_t cI S_t) (some (.int out.1)) (gX7 o_t a_t cI out.2) := by
  refine Cn.mk (cc := cX7_allHeardWithout) (maxL := 4) (ret := (some .boolean)) (by decide) rfl (Nat.le_of_ble_eq_true rfl) ?_
  intro p e s m below meth c A ls Q hx hb hml hown hts hK hA hP hD hS hl hr hlk hnm hE hQ
  have hown : s.vm.findClass RX7 = some m.cls := hown
  have hinX7 : ∀ w ∈ u_ws RX7 TX7 26, w ∈ wsX7_allHeardWithout := by decide +kernel
  have j6 : ∀ (n6 : Nat) (S_t : G) (l1 : Int32) (l2 : Int32) (l3 : Int32) (H : Heap) (locs : List Loc) (ls : Array Slot), f_X7_allHeardWithout_6 n6 S_t l1 l2 l3 = some out → va_P D vwCl (gX7 o_t a_t cI S_t) H → va_D A (gX7 o_t a_t cI S_t) → va_S A s.heap H locs → lv_has ls 4 [(0, .ref o_t), (1, .int l1), (2, .int l2), (3, .int l3)] → W p l e rmX7_allHeardWithout s m ([.ref o_t, .int x1, .int x2] : List Value).toArray below meth c H locs 0 0 Q (F0 m 6 ls []) := by
    intro n6
    induction n6 with
    | zero =>
      intro S_t l1 l2 l3 H locs ls hf
      exact no_some hf
    | succ n6 ih6 =>
      intro S_t l1 l2 l3 H locs ls hf hP hD hS hl
      replace hf : b_X7_allHeardWithout_6 (f_X7_allHeardWithout_6 n6) S_t l1 l2 l3 = some out := hf
      unfold b_X7_allHeardWithout_6 at hf
      refine lv_iload_n hx hb dX7_allHeardWithout_6 rfl (lv_at hl 3 rfl) ?_
      refine lv_aload_n hx hb dX7_allHeardWithout_7 rfl (lv_at hl 0 rfl) ?_
      refine va_get (D := D) (ci := 7) (v := .int (S_t.1 8)) (C := RX7) (T := TX7) (N := 26) hx hb hts hinX7 hown hK hP 0 rfl rfl 8 (by decide) (hts (.fieldLink RX7 65 "OnlyStrangersHearModel" "people" "I") (by decide +kernel)) (fun _ h9 => h9) rfl dX7_allHeardWithout_8 ?_
      refine lv_icmp_ge (tgt := 44) hx hb dX7_allHeardWithout_11 (by decide) (fun c11 => ?_) (fun c11 => ?_)
      · replace hf := it_t c11 hf
        refine lv_aload_n hx hb dX7_allHeardWithout_44 rfl (lv_at hl 0 rfl) ?_
        refine lv_iload_n hx hb dX7_allHeardWithout_45 rfl (lv_at hl 2 rfl) ?_
        obtain ⟨r46, u46, h46, hf⟩ := bd_some hf
        refine calX0 (runV E0.b E0.n (As := [.int l2]) (rest := []) ⟨hx, hb, hml, hown, hts⟩ (c_X7_allHeardIn l D cI o_t a_t S_t l2 _ h46) gX7_allHeardWithout_X7_allHeardIn rfl rfl rfl hdX7_allHeardIn ⟨by decide, by decide⟩ hK hP hD 0 rfl rfl rfl hl.1 rfl (Nat.le_of_ble_eq_true rfl) dX7_allHeardWithout_46 ⟨Nat.zero_le _, Nat.zero_le _⟩) hD hS hA (fun H locs hP hD hS => ?_)
        have hP : va_P D vwCl (gX7 o_t a_t cI u46) H := hP
        have hD : va_D A (gX7 o_t a_t cI u46) := hD
        refine W.eq (g2 := F0 m 49 ls [.int r46]) rfl ?_
        refine lv_istore_n (lv' := [(3, .int r46), (0, .ref o_t), (1, .int l1), (2, .int l2)]) hx hb dX7_allHeardWithout_49 rfl hl (by decide) rfl (fun ls hl => ?_)
        refine lv_aload_n hx hb dX7_allHeardWithout_50 rfl (lv_at hl 1 rfl) ?_
        obtain ⟨r51, u51, h51, hf⟩ := bd_some hf
        refine calX0 (runV E0.b E0.n (As := []) (rest := []) ⟨hx, hb, hml, hown, hts⟩ (c_X7_changesBack l D cI o_t a_t u46 _ h51) gX7_allHeardWithout_X7_changesBack rfl rfl rfl hdX7_changesBack ⟨by decide, by decide⟩ hK hP hD 0 rfl rfl rfl hl.1 rfl (Nat.le_of_ble_eq_true rfl) dX7_allHeardWithout_51 ⟨Nat.zero_le _, Nat.zero_le _⟩) hD hS hA (fun H locs hP hD hS => ?_)
        have hP : va_P D vwCl (gX7 o_t a_t cI u51) H := hP
        have hD : va_D A (gX7 o_t a_t cI u51) := hD
        refine W.eq (g2 := F0 m 54 ls []) rfl ?_
        refine lv_iload_n hx hb dX7_allHeardWithout_54 rfl (lv_at hl 0 rfl) ?_
        obtain ⟨z55, hf⟩ := zb_some hf
        have e := so_some hf
        subst e
        exact rz hx hb hK hr hlk z55 hQ dX7_allHeardWithout_55 hP hD hS
      · replace hf := it_f c11 hf
        refine lv_aload_n hx hb dX7_allHeardWithout_14 rfl (lv_at hl 0 rfl) ?_
        refine va_get (D := D) (ci := 7) (v := .ref (a_t 6)) (C := RX7) (T := TX7) (N := 26) hx hb hts hinX7 hown hK hP 0 rfl rfl 6 (by decide) (hts (.fieldLink RX7 28 "OnlyStrangersHearModel" "away" "[I") (by decide +kernel)) (fun _ h9 => h9) rfl dX7_allHeardWithout_15 ?_
        refine lv_iload_n hx hb dX7_allHeardWithout_18 rfl (lv_at hl 3 rfl) ?_
        refine lv_iload_n hx hb dX7_allHeardWithout_19 rfl (lv_at hl 1 rfl) ?_
        refine lv_iload_n hx hb dX7_allHeardWithout_20 rfl (lv_at hl 3 rfl) ?_
        obtain ⟨r21, u21, h21, hf⟩ := bd_some hf
        have hPc : va_P D vwCl [] H := hP.sub (ws' := []) [] rfl
        have hDc : va_D A [] := hD.sub (ws' := []) [] (by decide) rfl
        refine calXe (runS E0.b E0.n (As := [.int l1, .int l3]) (rest := [.int l3, .ref (a_t 6)]) ⟨hx, hb, hml, hown, hts⟩ (c_X7_has l D cI l1 l3 _ h21) gX7_allHeardWithout_X7_has rfl rfl rfl hdX7_has ⟨by decide, by decide⟩ hK hPc hDc rfl hl.1 rfl (Nat.le_of_ble_eq_true rfl) dX7_allHeardWithout_21 ⟨Nat.zero_le _, Nat.zero_le _⟩) hP hD hS hA (fun H locs hP hD hS => ?_)
        have hP : va_P D vwCl (gX7 o_t a_t cI S_t) H := hP
        have hD : va_D A (gX7 o_t a_t cI S_t) := hD
        refine W.eq (g2 := F0 m 24 ls [.int r21, .int l3, .ref (a_t 6)]) rfl ?_
        refine lv_if_eq (tgt := 31) hx hb dX7_allHeardWithout_24 (by decide) (fun c24 => ?_) (fun c24 => ?_)
        · replace hf := it_t c24 hf
          refine lv_aload_n hx hb dX7_allHeardWithout_31 rfl (lv_at hl 0 rfl) ?_
          refine va_get (D := D) (ci := 7) (v := .ref (a_t 6)) (C := RX7) (T := TX7) (N := 26) hx hb hts hinX7 hown hK hP 0 rfl rfl 6 (by decide) (hts (.fieldLink RX7 28 "OnlyStrangersHearModel" "away" "[I") (by decide +kernel)) (fun _ h9 => h9) rfl dX7_allHeardWithout_32 ?_
          refine lv_iload_n hx hb dX7_allHeardWithout_35 rfl (lv_at hl 3 rfl) ?_
          obtain ⟨b36, hf⟩ := ck_some hf
          refine va_iald hx hb hK hP 7 0 rfl rfl b36 dX7_allHeardWithout_36 ?_
          obtain ⟨b37, hf⟩ := ck_some hf
          refine va_iast hx hb hK hP hD hS 7 0 rfl rfl b37 dX7_allHeardWithout_37 (fun H locs hP hD hS => ?_)
          have hP : va_P D vwCl (gX7 o_t a_t cI (pA S_t 6 l3.toNatClampNeg (S_t.2 6 l3.toNatClampNeg))) H := hP
          have hD : va_D A (gX7 o_t a_t cI (pA S_t 6 l3.toNatClampNeg (S_t.2 6 l3.toNatClampNeg))) := hD
          obtain ⟨g37, e37, hf⟩ := lt_some hf
          rw [← e37] at hP hD
          refine lv_iinc (v := l3 + (1 : Int32)) (lv' := [(3, .int (l3 + (1 : Int32))), (0, .ref o_t), (1, .int l1), (2, .int l2)]) hx hb dX7_allHeardWithout_38 hl (k := 3) rfl rfl (by decide) rfl (fun ls hl => ?_)
          refine lv_goto (tgt := 6) hx hb dX7_allHeardWithout_41 (by decide) ?_
          exact ih6 g37 l1 l2 (l3 + (1 : Int32)) H locs ls hf hP hD hS (lv_sub hl [1, 2, 3, 0] rfl)
        · replace hf := it_f c24 hf
          refine lv_iconst (v := (5 : Int32)) hx hb dX7_allHeardWithout_27 (by decide) ?_
          refine lv_goto (tgt := 37) hx hb dX7_allHeardWithout_28 (by decide) ?_
          obtain ⟨b37, hf⟩ := ck_some hf
          refine va_iast hx hb hK hP hD hS 7 0 rfl rfl b37 dX7_allHeardWithout_37 (fun H locs hP hD hS => ?_)
          have hP : va_P D vwCl (gX7 o_t a_t cI (pA S_t 6 l3.toNatClampNeg (5 : Int32))) H := hP
          have hD : va_D A (gX7 o_t a_t cI (pA S_t 6 l3.toNatClampNeg (5 : Int32))) := hD
          obtain ⟨g37, e37, hf⟩ := lt_some hf
          rw [← e37] at hP hD
          refine lv_iinc (v := l3 + (1 : Int32)) (lv' := [(3, .int (l3 + (1 : Int32))), (0, .ref o_t), (1, .int l1), (2, .int l2)]) hx hb dX7_allHeardWithout_38 hl (k := 3) rfl rfl (by decide) rfl (fun ls hl => ?_)
          refine lv_goto (tgt := 6) hx hb dX7_allHeardWithout_41 (by decide) ?_
          exact ih6 g37 l1 l2 (l3 + (1 : Int32)) H locs ls hf hP hD hS (lv_sub hl [1, 2, 3, 0] rfl)
  unfold f_X7_allHeardWithout at hf
  have hl : lv_has ls 4 [(0, .ref o_t), (1, .int x1), (2, .int x2)] := hl
  obtain ⟨H, hHe⟩ : ∃ H : Heap, H = s.heap := ⟨_, rfl⟩
  obtain ⟨locs, hle⟩ : ∃ q : List Loc, q = [] := ⟨_, rfl⟩
  have hS : va_S A s.heap H locs := by rw [hHe, hle]; exact hS
  rw [← hHe] at hP
  suffices hgo : W p l e rmX7_allHeardWithout s m ([.ref o_t, .int x1, .int x2] : List Value).toArray below meth c H locs 0 0 Q (F0 m 0 ls []) by rw [hHe, hle] at hgo; exact hgo
  clear hHe hle
  refine lv_aload_n hx hb dX7_allHeardWithout_0 rfl (lv_at hl 0 rfl) ?_
  obtain ⟨r1, u1, h1, hf⟩ := bd_some hf
  refine calX0 (runV E0.b E0.n (As := []) (rest := []) ⟨hx, hb, hml, hown, hts⟩ (c_X7_changes l D cI o_t a_t S_t _ h1) gX7_allHeardWithout_X7_changes rfl rfl rfl hdX7_changes ⟨by decide, by decide⟩ hK hP hD 0 rfl rfl rfl hl.1 rfl (Nat.le_of_ble_eq_true rfl) dX7_allHeardWithout_1 ⟨Nat.zero_le _, Nat.zero_le _⟩) hD hS hA (fun H locs hP hD hS => ?_)
  have hP : va_P D vwCl (gX7 o_t a_t cI u1) H := hP
  have hD : va_D A (gX7 o_t a_t cI u1) := hD
  refine W.eq (g2 := F0 m 4 ls []) rfl ?_
  refine lv_iconst (v := (0 : Int32)) hx hb dX7_allHeardWithout_4 (by decide) ?_
  refine lv_istore_n (lv' := [(3, .int (0 : Int32)), (0, .ref o_t), (1, .int x1), (2, .int x2)]) hx hb dX7_allHeardWithout_5 rfl hl (by decide) rfl (fun ls hl => ?_)
  exact j6 1000 u1 x1 x2 (0 : Int32) H locs ls hf hP hD hS (lv_sub hl [1, 2, 3, 0] rfl)
abbrev rmX7_fewest : Room := { frames := 6, cells := 0, slots := 0, locals := 135 }
set_option maxHeartbeats 4000000 in
set_option maxRecDepth 100000 in
theorem c_X7_fewest (l : Launch) (D : va_G) (cI : ClassId) (o_t : Nat) (a_t : Nat → Nat) (S_t : G) (x1 : Int32) (out : Int32 × G) (hf : f_X7_fewest S_t x1 = some out) : Cn E0 l yX7_fewest wsX7_fewest rmX7_fewest D cI [.ref o_t, .int x1] (gX7 o_t a_t cI S_t) (some (.int out.1)) (gX7 o_t a_t cI out.2) := by
  refine Cn.mk (cc := cX7_fewest) (maxL := 5) (ret := (some .int)) (by decide) rfl (Nat.le_of_ble_eq_true rfl) ?_
  intro p e s m below meth c A ls Q hx hb hml hown hts hK hA hP hD hS hl hr hlk hnm hE hQ
  have hown : s.vm.findClass RX7 = some m.cls := hown
  have hinX7 : ∀ w ∈ u_ws RX7 TX7 26, w ∈ wsX7_fewest := by decide +kernel
  have j24 : ∀ (n24 : Nat) (S_t : G) (l1 : Int32) (l3 : Int32) (l4 : Int32) (H : Heap) (locs : List Loc) (ls : Array Slot), f_X7_fewest_24 n24 S_t l1 l3 l4 = some out → va_P D vwCl (gX7 o_t a_t cI S_t) H → va_D A (gX7 o_t a_t cI S_t) → va_S A s.heap H locs → lv_has ls 5 [(0, .ref o_t), (1, .int l1), (3, .int l3), (4, .int l4)] → W p l e rmX7_fewest s m ([.ref o_t, .int x1] : List Value).toArray below meth c H locs 0 0 Q (F0 m 24 ls []) := by
    intro n24
    induction n24 with
    | zero =>
      intro S_t l1 l3 l4 H locs ls hf
      exact no_some hf
    | succ n24 ih24 =>
      have j54 : ∀ (S_t : G) (l1 : Int32) (l3 : Int32) (l4 : Int32) (H : Heap) (locs : List Loc) (ls : Array Slot), f_X7_fewest_54 (f_X7_fewest_24 n24) S_t l1 l3 l4 = some out → va_P D vwCl (gX7 o_t a_t cI S_t) H → va_D A (gX7 o_t a_t cI S_t) → va_S A s.heap H locs → lv_has ls 5 [(0, .ref o_t), (1, .int l1), (3, .int l3), (4, .int l4)] → W p l e rmX7_fewest s m ([.ref o_t, .int x1] : List Value).toArray below meth c H locs 0 0 Q (F0 m 54 ls []) := by
        intro S_t l1 l3 l4 H locs ls hf hP hD hS hl
        unfold f_X7_fewest_54 at hf
        refine lv_aload_n hx hb dX7_fewest_54 rfl (lv_at hl 0 rfl) ?_
        refine lv_iload hx hb dX7_fewest_55 (lv_at hl 3 rfl) ?_
        refine lv_iload_n hx hb dX7_fewest_57 rfl (lv_at hl 1 rfl) ?_
        obtain ⟨r58, u58, h58, hf⟩ := bd_some hf
        refine calX0 (runV E0.b E0.n (As := [.int l4, .int l1]) (rest := []) ⟨hx, hb, hml, hown, hts⟩ (c_X7_allHeardWithout l D cI o_t a_t S_t l4 l1 _ h58) gX7_fewest_X7_allHeardWithout rfl rfl rfl hdX7_allHeardWithout ⟨by decide, by decide⟩ hK hP hD 0 rfl rfl rfl hl.1 rfl (Nat.le_of_ble_eq_true rfl) dX7_fewest_58 ⟨Nat.zero_le _, Nat.zero_le _⟩) hD hS hA (fun H locs hP hD hS => ?_)
        have hP : va_P D vwCl (gX7 o_t a_t cI u58) H := hP
        have hD : va_D A (gX7 o_t a_t cI u58) := hD
        refine W.eq (g2 := F0 m 61 ls [.int r58]) rfl ?_
        refine lv_if_eq (tgt := 67) hx hb dX7_fewest_61 (by decide) (fun c61 => ?_) (fun c61 => ?_)
        · replace hf := it_t c61 hf
          refine lv_iinc (v := l4 + (1 : Int32)) (lv' := [(4, .int (l4 + (1 : Int32))), (0, .ref o_t), (1, .int l1), (3, .int l3)]) hx hb dX7_fewest_67 hl (k := 3) rfl rfl (by decide) rfl (fun ls hl => ?_)
          refine lv_goto (tgt := 24) hx hb dX7_fewest_70 (by decide) ?_
          exact ih24 u58 l1 l3 (l4 + (1 : Int32)) H locs ls hf hP hD hS (lv_sub hl [1, 2, 3, 0] rfl)
        · replace hf := it_f c61 hf
          refine lv_iload hx hb dX7_fewest_64 (lv_at hl 3 rfl) ?_
          refine lv_istore_n (lv' := [(3, .int l4), (0, .ref o_t), (1, .int l1), (4, .int l4)]) hx hb dX7_fewest_66 rfl hl (by decide) rfl (fun ls hl => ?_)
          refine lv_iinc (v := l4 + (1 : Int32)) (lv' := [(4, .int (l4 + (1 : Int32))), (3, .int l4), (0, .ref o_t), (1, .int l1)]) hx hb dX7_fewest_67 hl (k := 3) rfl rfl (by decide) rfl (fun ls hl => ?_)
          refine lv_goto (tgt := 24) hx hb dX7_fewest_70 (by decide) ?_
          exact ih24 u58 l1 l4 (l4 + (1 : Int32)) H locs ls hf hP hD hS (lv_sub hl [2, 3, 1, 0] rfl)
      intro S_t l1 l3 l4 H locs ls hf hP hD hS hl
      replace hf : b_X7_fewest_24 (f_X7_fewest_24 n24) S_t l1 l3 l4 = some out := hf
      unfold b_X7_fewest_24 at hf
      refine lv_iload hx hb dX7_fewest_24 (lv_at hl 3 rfl) ?_
      refine lv_iconst (v := (1 : Int32)) hx hb dX7_fewest_26 (by decide) ?_
      refine lv_aload_n hx hb dX7_fewest_27 rfl (lv_at hl 0 rfl) ?_
      refine va_get (D := D) (ci := 7) (v := .int (S_t.1 8)) (C := RX7) (T := TX7) (N := 26) hx hb hts hinX7 hown hK hP 0 rfl rfl 8 (by decide) (hts (.fieldLink RX7 65 "OnlyStrangersHearModel" "people" "I") (by decide +kernel)) (fun _ h9 => h9) rfl dX7_fewest_28 ?_
      refine lv_ishl hx hb dX7_fewest_31 ?_
      refine lv_icmp_ge (tgt := 73) hx hb dX7_fewest_32 (by decide) (fun c32 => ?_) (fun c32 => ?_)
      · replace hf := it_t c32 hf
        refine lv_iload_n hx hb dX7_fewest_73 rfl (lv_at hl 2 rfl) ?_
        have e := so_some hf
        subst e
        exact ri hx hb hK hr hlk hQ dX7_fewest_74 hP hD hS
      · replace hf := it_f c32 hf
        refine lv_iload_n hx hb dX7_fewest_35 rfl (lv_at hl 2 rfl) ?_
        refine lv_if_lt (tgt := 54) hx hb dX7_fewest_36 (by decide) (fun c36 => ?_) (fun c36 => ?_)
        · replace hf := it_t c36 hf
          exact j54 S_t l1 l3 l4 H locs ls hf hP hD hS (lv_sub hl [0, 1, 2, 3] rfl)
        · replace hf := it_f c36 hf
          refine lv_iload hx hb dX7_fewest_39 (lv_at hl 3 rfl) ?_
          obtain ⟨r41, u41, h41, hf⟩ := bd_some hf
          have hPc : va_P D vwCl [] H := hP.sub (ws' := []) [] rfl
          have hDc : va_D A [] := hD.sub (ws' := []) [] (by decide) rfl
          refine calXe (runS E0.b E0.n (As := [.int l4]) (rest := []) ⟨hx, hb, hml, hown, hts⟩ (c_X7_bits l D cI l4 _ h41) gX7_fewest_X7_bits rfl rfl rfl hdX7_bits ⟨by decide, by decide⟩ hK hPc hDc rfl hl.1 rfl (Nat.le_of_ble_eq_true rfl) dX7_fewest_41 ⟨Nat.zero_le _, Nat.zero_le _⟩) hP hD hS hA (fun H locs hP hD hS => ?_)
          have hP : va_P D vwCl (gX7 o_t a_t cI S_t) H := hP
          have hD : va_D A (gX7 o_t a_t cI S_t) := hD
          refine W.eq (g2 := F0 m 44 ls [.int r41]) rfl ?_
          refine lv_iload_n hx hb dX7_fewest_44 rfl (lv_at hl 2 rfl) ?_
          obtain ⟨r45, u45, h45, hf⟩ := bd_some hf
          have hPc : va_P D vwCl [] H := hP.sub (ws' := []) [] rfl
          have hDc : va_D A [] := hD.sub (ws' := []) [] (by decide) rfl
          refine calXe (runS E0.b E0.n (As := [.int l3]) (rest := [.int r41]) ⟨hx, hb, hml, hown, hts⟩ (c_X7_bits l D cI l3 _ h45) gX7_fewest_X7_bits rfl rfl rfl hdX7_bits ⟨by decide, by decide⟩ hK hPc hDc rfl hl.1 rfl (Nat.le_of_ble_eq_true rfl) dX7_fewest_45 ⟨Nat.zero_le _, Nat.zero_le _⟩) hP hD hS hA (fun H locs hP hD hS => ?_)
          have hP : va_P D vwCl (gX7 o_t a_t cI S_t) H := hP
          have hD : va_D A (gX7 o_t a_t cI S_t) := hD
          refine W.eq (g2 := F0 m 48 ls [.int r45, .int r41]) rfl ?_
          refine lv_icmp_lt (tgt := 54) hx hb dX7_fewest_48 (by decide) (fun c48 => ?_) (fun c48 => ?_)
          · replace hf := it_t c48 hf
            exact j54 S_t l1 l3 l4 H locs ls hf hP hD hS (lv_sub hl [0, 1, 2, 3] rfl)
          · replace hf := it_f c48 hf
            refine lv_goto (tgt := 67) hx hb dX7_fewest_51 (by decide) ?_
            refine lv_iinc (v := l4 + (1 : Int32)) (lv' := [(4, .int (l4 + (1 : Int32))), (0, .ref o_t), (1, .int l1), (3, .int l3)]) hx hb dX7_fewest_67 hl (k := 3) rfl rfl (by decide) rfl (fun ls hl => ?_)
            refine lv_goto (tgt := 24) hx hb dX7_fewest_70 (by decide) ?_
            exact ih24 S_t l1 l3 (l4 + (1 : Int32)) H locs ls hf hP hD hS (lv_sub hl [1, 2, 3, 0] rfl)
  unfold f_X7_fewest at hf
  have hl : lv_has ls 5 [(0, .ref o_t), (1, .int x1)] := hl
  obtain ⟨H, hHe⟩ : ∃ H : Heap, H = s.heap := ⟨_, rfl⟩
  obtain ⟨locs, hle⟩ : ∃ q : List Loc, q = [] := ⟨_, rfl⟩
  have hS : va_S A s.heap H locs := by rw [hHe, hle]; exact hS
  rw [← hHe] at hP
  suffices hgo : W p l e rmX7_fewest s m ([.ref o_t, .int x1] : List Value).toArray below meth c H locs 0 0 Q (F0 m 0 ls []) by rw [hHe, hle] at hgo; exact hgo
  clear hHe hle
  refine lv_iload_n hx hb dX7_fewest_0 rfl (lv_at hl 1 rfl) ?_
  refine lv_iconst (v := (0 : Int32)) hx hb dX7_fewest_1 (by decide) ?_
  refine lv_bipush (v := (40 : Int32)) hx hb dX7_fewest_2 (by decide) ?_
  obtain ⟨r4, u4, h4, hf⟩ := bd_some hf
  have hPc : va_P D vwCl [] H := hP.sub (ws' := []) [] rfl
  have hDc : va_D A [] := hD.sub (ws' := []) [] (by decide) rfl
  refine calXe (runS E0.b E0.n (As := [.int x1, .int (0 : Int32), .int (40 : Int32)]) (rest := []) ⟨hx, hb, hml, hown, hts⟩ (c_X7_bound l D cI x1 (0 : Int32) (40 : Int32) _ h4) gX7_fewest_X7_bound rfl rfl rfl hdX7_bound ⟨by decide, by decide⟩ hK hPc hDc rfl hl.1 rfl (Nat.le_of_ble_eq_true rfl) dX7_fewest_4 ⟨Nat.zero_le _, Nat.zero_le _⟩) hP hD hS hA (fun H locs hP hD hS => ?_)
  have hP : va_P D vwCl (gX7 o_t a_t cI S_t) H := hP
  have hD : va_D A (gX7 o_t a_t cI S_t) := hD
  refine W.eq (g2 := F0 m 7 ls [.int r4]) rfl ?_
  refine lv_istore_n (lv' := [(2, .int r4), (0, .ref o_t), (1, .int x1)]) hx hb dX7_fewest_7 rfl hl (by decide) rfl (fun ls hl => ?_)
  refine lv_iload_n hx hb dX7_fewest_8 rfl (lv_at hl 0 rfl) ?_
  refine lv_if_eq (tgt := 18) hx hb dX7_fewest_9 (by decide) (fun c9 => ?_) (fun c9 => ?_)
  · replace hf := it_t c9 hf
    refine lv_bipush (v := (-9 : Int32)) hx hb dX7_fewest_18 (by decide) ?_
    refine lv_istore_n (lv' := [(3, .int (-9 : Int32)), (2, .int r4), (0, .ref o_t), (1, .int x1)]) hx hb dX7_fewest_20 rfl hl (by decide) rfl (fun ls hl => ?_)
    refine lv_iconst (v := (0 : Int32)) hx hb dX7_fewest_21 (by decide) ?_
    refine lv_istore (lv' := [(4, .int (0 : Int32)), (3, .int (-9 : Int32)), (2, .int r4), (0, .ref o_t), (1, .int x1)]) hx hb dX7_fewest_22 hl (by decide) rfl (fun ls hl => ?_)
    exact j24 1000 S_t x1 (-9 : Int32) (0 : Int32) H locs ls hf hP hD hS (lv_sub hl [3, 4, 1, 0] rfl)
  · replace hf := it_f c9 hf
    refine lv_aload_n hx hb dX7_fewest_12 rfl (lv_at hl 1 rfl) ?_
    refine lv_iload_n hx hb dX7_fewest_13 rfl (lv_at hl 0 rfl) ?_
    obtain ⟨r14, u14, h14, hf⟩ := bd_some hf
    refine calX0 (runV E0.b E0.n (As := [.int r4]) (rest := []) ⟨hx, hb, hml, hown, hts⟩ (c_X7_no l D cI o_t a_t S_t r4 _ h14) gX7_fewest_X7_no rfl rfl rfl hdX7_no ⟨by decide, by decide⟩ hK hP hD 0 rfl rfl rfl hl.1 rfl (Nat.le_of_ble_eq_true rfl) dX7_fewest_14 ⟨Nat.zero_le _, Nat.zero_le _⟩) hD hS hA (fun H locs hP hD hS => ?_)
    have hP : va_P D vwCl (gX7 o_t a_t cI u14) H := hP
    have hD : va_D A (gX7 o_t a_t cI u14) := hD
    refine W.eq (g2 := F0 m 17 ls [.int r14]) rfl ?_
    have e := so_some hf
    subst e
    exact ri hx hb hK hr hlk hQ dX7_fewest_17 hP hD hS
abbrev rmX7_hearsTill : Room := { frames := 3, cells := 0, slots := 0, locals := 68 }
set_option maxHeartbeats 4000000 in
set_option maxRecDepth 100000 in
theorem c_X7_hearsTill (l : Launch) (D : va_G) (cI : ClassId) (o_t : Nat) (a_t : Nat → Nat) (S_t : G) (x1 : Int32) (x2 : Int32) (out : Int32 × G) (hf : f_X7_hearsTill S_t x1 x2 = some out) : Cn E0 l yX7_hearsTill wsX7_hearsTill rmX7_hearsTill D cI [.ref o_t, .int x1, .int x2] (gX7 o_t a_t cI S_t) (some (.int out.1)) (gX7 o_t a_t cI out.2) := by
  refine Cn.mk (cc := cX7_hearsTill) (maxL := 5) (ret := (some .int)) (by decide) rfl (Nat.le_of_ble_eq_true rfl) ?_
  intro p e s m below meth c A ls Q hx hb hml hown hts hK hA hP hD hS hl hr hlk hnm hE hQ
  have hown : s.vm.findClass RX7 = some m.cls := hown
  have j54 : ∀ (S_t : G) (l3 : Int32) (H : Heap) (locs : List Loc) (ls : Array Slot), f_X7_hearsTill_54 S_t l3 = some out → va_P D vwCl (gX7 o_t a_t cI S_t) H → va_D A (gX7 o_t a_t cI S_t) → va_S A s.heap H locs → lv_has ls 5 [(0, .ref o_t), (3, .int l3)] → W p l e rmX7_hearsTill s m ([.ref o_t, .int x1, .int x2] : List Value).toArray below meth c H locs 0 0 Q (F0 m 54 ls []) := by
    intro S_t l3 H locs ls hf hP hD hS hl
    unfold f_X7_hearsTill_54 at hf
    refine lv_aload_n hx hb dX7_hearsTill_54 rfl (lv_at hl 0 rfl) ?_
    obtain ⟨r55, u55, h55, hf⟩ := bd_some hf
    refine calX0 (runV E0.b E0.n (As := []) (rest := []) ⟨hx, hb, hml, hown, hts⟩ (c_X7_forgets l D cI o_t a_t S_t _ h55) gX7_hearsTill_X7_forgets rfl rfl rfl hdX7_forgets ⟨by decide, by decide⟩ hK hP hD 0 rfl rfl rfl hl.1 rfl (Nat.le_of_ble_eq_true rfl) dX7_hearsTill_55 ⟨Nat.zero_le _, Nat.zero_le _⟩) hD hS hA (fun H locs hP hD hS => ?_)
    have hP : va_P D vwCl (gX7 o_t a_t cI u55) H := hP
    have hD : va_D A (gX7 o_t a_t cI u55) := hD
    refine W.eq (g2 := F0 m 58 ls []) rfl ?_
    refine lv_iload_n hx hb dX7_hearsTill_58 rfl (lv_at hl 1 rfl) ?_
    have e := so_some hf
    subst e
    exact ri hx hb hK hr hlk hQ dX7_hearsTill_59 hP hD hS
  have j11 : ∀ (n11 : Nat) (S_t : G) (l1 : Int32) (l2 : Int32) (l3 : Int32) (l4 : Int32) (H : Heap) (locs : List Loc) (ls : Array Slot), f_X7_hearsTill_11 n11 S_t l1 l2 l3 l4 = some out → va_P D vwCl (gX7 o_t a_t cI S_t) H → va_D A (gX7 o_t a_t cI S_t) → va_S A s.heap H locs → lv_has ls 5 [(0, .ref o_t), (1, .int l1), (2, .int l2), (3, .int l3), (4, .int l4)] → W p l e rmX7_hearsTill s m ([.ref o_t, .int x1, .int x2] : List Value).toArray below meth c H locs 0 0 Q (F0 m 11 ls []) := by
    intro n11
    induction n11 with
    | zero =>
      intro S_t l1 l2 l3 l4 H locs ls hf
      exact no_some hf
    | succ n11 ih11 =>
      intro S_t l1 l2 l3 l4 H locs ls hf hP hD hS hl
      replace hf : b_X7_hearsTill_11 (f_X7_hearsTill_11 n11) S_t l1 l2 l3 l4 = some out := hf
      unfold b_X7_hearsTill_11 at hf
      refine lv_iload hx hb dX7_hearsTill_11 (lv_at hl 4 rfl) ?_
      refine lv_bipush (v := (99 : Int32)) hx hb dX7_hearsTill_13 (by decide) ?_
      refine lv_icmp_gt (tgt := 54) hx hb dX7_hearsTill_15 (by decide) (fun c15 => ?_) (fun c15 => ?_)
      · replace hf := it_t c15 hf
        exact j54 S_t l3 H locs ls hf hP hD hS (lv_sub hl [0, 3] rfl)
      · replace hf := it_f c15 hf
        refine lv_iload_n hx hb dX7_hearsTill_18 rfl (lv_at hl 3 rfl) ?_
        refine lv_sipush (v := (1000 : Int32)) hx hb dX7_hearsTill_19 (by decide) ?_
        refine lv_icmp_ne (tgt := 54) hx hb dX7_hearsTill_22 (by decide) (fun c22 => ?_) (fun c22 => ?_)
        · replace hf := it_f c22 hf
          exact j54 S_t l3 H locs ls hf hP hD hS (lv_sub hl [0, 3] rfl)
        · replace hf := it_t c22 hf
          refine lv_aload_n hx hb dX7_hearsTill_25 rfl (lv_at hl 0 rfl) ?_
          refine lv_iconst (v := (0 : Int32)) hx hb dX7_hearsTill_26 (by decide) ?_
          obtain ⟨r27, u27, h27, hf⟩ := bd_some hf
          refine calX0 (runV E0.b E0.n (As := [.int (0 : Int32)]) (rest := []) ⟨hx, hb, hml, hown, hts⟩ (c_X7_goesDay l D cI o_t a_t S_t (0 : Int32) _ h27) gX7_hearsTill_X7_goesDay rfl rfl rfl hdX7_goesDay ⟨by decide, by decide⟩ hK hP hD 0 rfl rfl rfl hl.1 rfl (Nat.le_of_ble_eq_true rfl) dX7_hearsTill_27 ⟨Nat.zero_le _, Nat.zero_le _⟩) hD hS hA (fun H locs hP hD hS => ?_)
          have hP : va_P D vwCl (gX7 o_t a_t cI u27) H := hP
          have hD : va_D A (gX7 o_t a_t cI u27) := hD
          refine W.eq (g2 := F0 m 30 ls []) rfl ?_
          refine lv_aload_n hx hb dX7_hearsTill_30 rfl (lv_at hl 0 rfl) ?_
          refine lv_iload_n hx hb dX7_hearsTill_31 rfl (lv_at hl 1 rfl) ?_
          refine lv_iload_n hx hb dX7_hearsTill_32 rfl (lv_at hl 2 rfl) ?_
          obtain ⟨r33, u33, h33, hf⟩ := bd_some hf
          refine calX0 (runV E0.b E0.n (As := [.int l1, .int l2]) (rest := []) ⟨hx, hb, hml, hown, hts⟩ (c_X7_hears l D cI o_t a_t u27 l1 l2 _ h33) gX7_hearsTill_X7_hears rfl rfl rfl hdX7_hears ⟨by decide, by decide⟩ hK hP hD 0 rfl rfl rfl hl.1 rfl (Nat.le_of_ble_eq_true rfl) dX7_hearsTill_33 ⟨Nat.zero_le _, Nat.zero_le _⟩) hD hS hA (fun H locs hP hD hS => ?_)
          have hP : va_P D vwCl (gX7 o_t a_t cI u33) H := hP
          have hD : va_D A (gX7 o_t a_t cI u33) := hD
          refine W.eq (g2 := F0 m 36 ls [.int r33]) rfl ?_
          refine lv_if_eq (tgt := 45) hx hb dX7_hearsTill_36 (by decide) (fun c36 => ?_) (fun c36 => ?_)
          · replace hf := it_t c36 hf
            refine lv_iload hx hb dX7_hearsTill_45 (lv_at hl 4 rfl) ?_
            refine lv_istore_n (lv' := [(3, .int l4), (0, .ref o_t), (1, .int l1), (2, .int l2), (4, .int l4)]) hx hb dX7_hearsTill_47 rfl hl (by decide) rfl (fun ls hl => ?_)
            refine lv_iinc (v := l4 + (1 : Int32)) (lv' := [(4, .int (l4 + (1 : Int32))), (3, .int l4), (0, .ref o_t), (1, .int l1), (2, .int l2)]) hx hb dX7_hearsTill_48 hl (k := 4) rfl rfl (by decide) rfl (fun ls hl => ?_)
            refine lv_goto (tgt := 11) hx hb dX7_hearsTill_51 (by decide) ?_
            exact ih11 u33 l1 l2 l4 (l4 + (1 : Int32)) H locs ls hf hP hD hS (lv_sub hl [2, 3, 4, 1, 0] rfl)
          · replace hf := it_f c36 hf
            refine lv_sipush (v := (1000 : Int32)) hx hb dX7_hearsTill_39 (by decide) ?_
            refine lv_goto (tgt := 47) hx hb dX7_hearsTill_42 (by decide) ?_
            refine lv_istore_n (lv' := [(3, .int (1000 : Int32)), (0, .ref o_t), (1, .int l1), (2, .int l2), (4, .int l4)]) hx hb dX7_hearsTill_47 rfl hl (by decide) rfl (fun ls hl => ?_)
            refine lv_iinc (v := l4 + (1 : Int32)) (lv' := [(4, .int (l4 + (1 : Int32))), (3, .int (1000 : Int32)), (0, .ref o_t), (1, .int l1), (2, .int l2)]) hx hb dX7_hearsTill_48 hl (k := 4) rfl rfl (by decide) rfl (fun ls hl => ?_)
            refine lv_goto (tgt := 11) hx hb dX7_hearsTill_51 (by decide) ?_
            exact ih11 u33 l1 l2 (1000 : Int32) (l4 + (1 : Int32)) H locs ls hf hP hD hS (lv_sub hl [2, 3, 4, 1, 0] rfl)
  unfold f_X7_hearsTill at hf
  have hl : lv_has ls 5 [(0, .ref o_t), (1, .int x1), (2, .int x2)] := hl
  obtain ⟨H, hHe⟩ : ∃ H : Heap, H = s.heap := ⟨_, rfl⟩
  obtain ⟨locs, hle⟩ : ∃ q : List Loc, q = [] := ⟨_, rfl⟩
  have hS : va_S A s.heap H locs := by rw [hHe, hle]; exact hS
  rw [← hHe] at hP
  suffices hgo : W p l e rmX7_hearsTill s m ([.ref o_t, .int x1, .int x2] : List Value).toArray below meth c H locs 0 0 Q (F0 m 0 ls []) by rw [hHe, hle] at hgo; exact hgo
  clear hHe hle
  refine lv_aload_n hx hb dX7_hearsTill_0 rfl (lv_at hl 0 rfl) ?_
  obtain ⟨r1, u1, h1, hf⟩ := bd_some hf
  refine calX0 (runV E0.b E0.n (As := []) (rest := []) ⟨hx, hb, hml, hown, hts⟩ (c_X7_thinks l D cI o_t a_t S_t _ h1) gX7_hearsTill_X7_thinks rfl rfl rfl hdX7_thinks ⟨by decide, by decide⟩ hK hP hD 0 rfl rfl rfl hl.1 rfl (Nat.le_of_ble_eq_true rfl) dX7_hearsTill_1 ⟨Nat.zero_le _, Nat.zero_le _⟩) hD hS hA (fun H locs hP hD hS => ?_)
  have hP : va_P D vwCl (gX7 o_t a_t cI u1) H := hP
  have hD : va_D A (gX7 o_t a_t cI u1) := hD
  refine W.eq (g2 := F0 m 4 ls []) rfl ?_
  refine lv_sipush (v := (1000 : Int32)) hx hb dX7_hearsTill_4 (by decide) ?_
  refine lv_istore_n (lv' := [(3, .int (1000 : Int32)), (0, .ref o_t), (1, .int x1), (2, .int x2)]) hx hb dX7_hearsTill_7 rfl hl (by decide) rfl (fun ls hl => ?_)
  refine lv_iconst (v := (1 : Int32)) hx hb dX7_hearsTill_8 (by decide) ?_
  refine lv_istore (lv' := [(4, .int (1 : Int32)), (3, .int (1000 : Int32)), (0, .ref o_t), (1, .int x1), (2, .int x2)]) hx hb dX7_hearsTill_9 hl (by decide) rfl (fun ls hl => ?_)
  exact j11 1000 u1 x1 x2 (1000 : Int32) (1 : Int32) H locs ls hf hP hD hS (lv_sub hl [2, 3, 4, 1, 0] rfl)
abbrev rmX7_ask : Room := { frames := 4, cells := 0, slots := 0, locals := 92 }
set_option maxHeartbeats 4000000 in
set_option maxRecDepth 100000 in
theorem c_X7_ask (l : Launch) (D : va_G) (cI : ClassId) (o_t : Nat) (a_t : Nat → Nat) (S_t : G) (x1 : Int32) (out : Int32 × G) (hf : f_X7_ask S_t x1 = some out) : Cn E0 l yX7_ask wsX7_ask rmX7_ask D cI [.ref o_t, .int x1] (gX7 o_t a_t cI S_t) (some (.int out.1)) (gX7 o_t a_t cI out.2) := by
  refine Cn.mk (cc := cX7_ask) (maxL := 6) (ret := (some .int)) (by decide) rfl (Nat.le_of_ble_eq_true rfl) ?_
  intro p e s m below meth c A ls Q hx hb hml hown hts hK hA hP hD hS hl hr hlk hnm hE hQ
  have hown : s.vm.findClass RX7 = some m.cls := hown
  have hinX7 : ∀ w ∈ u_ws RX7 TX7 26, w ∈ wsX7_ask := by decide +kernel
  have j22 : ∀ (n22 : Nat) (S_t : G) (l1 : Int32) (l2 : Int32) (l3 : Int32) (l4 : Int32) (H : Heap) (locs : List Loc) (ls : Array Slot), f_X7_ask_22 n22 S_t l1 l2 l3 l4 = some out → va_P D vwCl (gX7 o_t a_t cI S_t) H → va_D A (gX7 o_t a_t cI S_t) → va_S A s.heap H locs → lv_has ls 6 [(0, .ref o_t), (1, .int l1), (2, .int l2), (3, .int l3), (4, .int l4)] → W p l e rmX7_ask s m ([.ref o_t, .int x1] : List Value).toArray below meth c H locs 0 0 Q (F0 m 22 ls []) := by
    intro n22
    induction n22 with
    | zero =>
      intro S_t l1 l2 l3 l4 H locs ls hf
      exact no_some hf
    | succ n22 ih22 =>
      have j58 : ∀ (S_t : G) (l1 : Int32) (l2 : Int32) (l3 : Int32) (l4 : Int32) (s0 : Int32) (H : Heap) (locs : List Loc) (ls : Array Slot), f_X7_ask_58 (f_X7_ask_22 n22) S_t l1 l2 l3 l4 s0 = some out → va_P D vwCl (gX7 o_t a_t cI S_t) H → va_D A (gX7 o_t a_t cI S_t) → va_S A s.heap H locs → lv_has ls 6 [(0, .ref o_t), (1, .int l1), (2, .int l2), (3, .int l3), (4, .int l4)] → W p l e rmX7_ask s m ([.ref o_t, .int x1] : List Value).toArray below meth c H locs 0 0 Q (F0 m 58 ls [.int s0]) := by
        intro S_t l1 l2 l3 l4 s0 H locs ls hf hP hD hS hl
        unfold f_X7_ask_58 at hf
        refine lv_istore (lv' := [(5, .int s0), (0, .ref o_t), (1, .int l1), (2, .int l2), (3, .int l3), (4, .int l4)]) hx hb dX7_ask_58 hl (by decide) rfl (fun ls hl => ?_)
        refine lv_iload hx hb dX7_ask_60 (lv_at hl 0 rfl) ?_
        refine lv_iload_n hx hb dX7_ask_62 rfl (lv_at hl 4 rfl) ?_
        refine lv_icmp_gt (tgt := 69) hx hb dX7_ask_63 (by decide) (fun c63 => ?_) (fun c63 => ?_)
        · replace hf := it_t c63 hf
          refine lv_iload hx hb dX7_ask_69 (lv_at hl 5 rfl) ?_
          refine lv_istore_n (lv' := [(2, .int l4), (5, .int s0), (0, .ref o_t), (1, .int l1), (3, .int l3), (4, .int l4)]) hx hb dX7_ask_71 rfl hl (by decide) rfl (fun ls hl => ?_)
          refine lv_iload hx hb dX7_ask_72 (lv_at hl 1 rfl) ?_
          refine lv_istore_n (lv' := [(3, .int s0), (2, .int l4), (5, .int s0), (0, .ref o_t), (1, .int l1), (4, .int l4)]) hx hb dX7_ask_74 rfl hl (by decide) rfl (fun ls hl => ?_)
          refine lv_iinc (v := l4 + (1 : Int32)) (lv' := [(4, .int (l4 + (1 : Int32))), (3, .int s0), (2, .int l4), (5, .int s0), (0, .ref o_t), (1, .int l1)]) hx hb dX7_ask_75 hl (k := 5) rfl rfl (by decide) rfl (fun ls hl => ?_)
          refine lv_goto (tgt := 22) hx hb dX7_ask_78 (by decide) ?_
          exact ih22 S_t l1 l4 s0 (l4 + (1 : Int32)) H locs ls hf hP hD hS (lv_sub hl [4, 5, 2, 1, 0] rfl)
        · replace hf := it_f c63 hf
          refine lv_goto (tgt := 75) hx hb dX7_ask_66 (by decide) ?_
          refine lv_iinc (v := l4 + (1 : Int32)) (lv' := [(4, .int (l4 + (1 : Int32))), (5, .int s0), (0, .ref o_t), (1, .int l1), (2, .int l2), (3, .int l3)]) hx hb dX7_ask_75 hl (k := 5) rfl rfl (by decide) rfl (fun ls hl => ?_)
          refine lv_goto (tgt := 22) hx hb dX7_ask_78 (by decide) ?_
          exact ih22 S_t l1 l2 l3 (l4 + (1 : Int32)) H locs ls hf hP hD hS (lv_sub hl [2, 3, 4, 5, 0] rfl)
      intro S_t l1 l2 l3 l4 H locs ls hf hP hD hS hl
      replace hf : b_X7_ask_22 (f_X7_ask_22 n22) S_t l1 l2 l3 l4 = some out := hf
      unfold b_X7_ask_22 at hf
      refine lv_iload hx hb dX7_ask_22 (lv_at hl 4 rfl) ?_
      refine lv_aload_n hx hb dX7_ask_24 rfl (lv_at hl 0 rfl) ?_
      refine va_get (D := D) (ci := 7) (v := .int (S_t.1 8)) (C := RX7) (T := TX7) (N := 26) hx hb hts hinX7 hown hK hP 0 rfl rfl 8 (by decide) (hts (.fieldLink RX7 65 "OnlyStrangersHearModel" "people" "I") (by decide +kernel)) (fun _ h9 => h9) rfl dX7_ask_25 ?_
      refine lv_icmp_ge (tgt := 81) hx hb dX7_ask_28 (by decide) (fun c28 => ?_) (fun c28 => ?_)
      · replace hf := it_t c28 hf
        refine lv_iload_n hx hb dX7_ask_81 rfl (lv_at hl 2 rfl) ?_
        have e := so_some hf
        subst e
        exact ri hx hb hK hr hlk hQ dX7_ask_82 hP hD hS
      · replace hf := it_f c28 hf
        refine lv_aload_n hx hb dX7_ask_31 rfl (lv_at hl 0 rfl) ?_
        refine lv_iload hx hb dX7_ask_32 (lv_at hl 4 rfl) ?_
        refine lv_iload_n hx hb dX7_ask_34 rfl (lv_at hl 1 rfl) ?_
        obtain ⟨r35, u35, h35, hf⟩ := bd_some hf
        refine calX0 (runV E0.b E0.n (As := [.int l4, .int l1]) (rest := []) ⟨hx, hb, hml, hown, hts⟩ (c_X7_saysOf l D cI o_t a_t S_t l4 l1 _ h35) gX7_ask_X7_saysOf rfl rfl rfl hdX7_saysOf ⟨by decide, by decide⟩ hK hP hD 0 rfl rfl rfl hl.1 rfl (Nat.le_of_ble_eq_true rfl) dX7_ask_35 ⟨Nat.zero_le _, Nat.zero_le _⟩) hD hS hA (fun H locs hP hD hS => ?_)
        have hP : va_P D vwCl (gX7 o_t a_t cI u35) H := hP
        have hD : va_D A (gX7 o_t a_t cI u35) := hD
        refine W.eq (g2 := F0 m 38 ls [.int r35]) rfl ?_
        refine lv_aload_n hx hb dX7_ask_38 rfl (lv_at hl 0 rfl) ?_
        refine va_get (D := D) (ci := 7) (v := .ref (a_t 1)) (C := RX7) (T := TX7) (N := 26) hx hb hts hinX7 hown hK hP 0 rfl rfl 1 (by decide) (hts (.fieldLink RX7 13 "OnlyStrangersHearModel" "hour" "[I") (by decide +kernel)) (fun _ h9 => h9) rfl dX7_ask_39 ?_
        refine lv_iload_n hx hb dX7_ask_42 rfl (lv_at hl 1 rfl) ?_
        obtain ⟨b43, hf⟩ := ck_some hf
        refine va_iald hx hb hK hP 2 0 rfl rfl b43 dX7_ask_43 ?_
        refine lv_icmp_ne (tgt := 57) hx hb dX7_ask_44 (by decide) (fun c44 => ?_) (fun c44 => ?_)
        · replace hf := it_f c44 hf
          refine lv_iconst (v := (0 : Int32)) hx hb dX7_ask_57 (by decide) ?_
          exact j58 u35 l1 l2 l3 l4 (0 : Int32) H locs ls hf hP hD hS (lv_sub hl [0, 1, 2, 3, 4] rfl)
        · replace hf := it_t c44 hf
          refine lv_aload_n hx hb dX7_ask_47 rfl (lv_at hl 0 rfl) ?_
          refine lv_iload hx hb dX7_ask_48 (lv_at hl 4 rfl) ?_
          refine lv_iload_n hx hb dX7_ask_50 rfl (lv_at hl 1 rfl) ?_
          obtain ⟨r51, u51, h51, hf⟩ := bd_some hf
          refine calX0 (runV E0.b E0.n (As := [.int l4, .int l1]) (rest := []) ⟨hx, hb, hml, hown, hts⟩ (c_X7_hearsTill l D cI o_t a_t u35 l4 l1 _ h51) gX7_ask_X7_hearsTill rfl rfl rfl hdX7_hearsTill ⟨by decide, by decide⟩ hK hP hD 0 rfl rfl rfl hl.1 rfl (Nat.le_of_ble_eq_true rfl) dX7_ask_51 ⟨Nat.zero_le _, Nat.zero_le _⟩) hD hS hA (fun H locs hP hD hS => ?_)
          have hP : va_P D vwCl (gX7 o_t a_t cI u51) H := hP
          have hD : va_D A (gX7 o_t a_t cI u51) := hD
          refine W.eq (g2 := F0 m 54 ls [.int r51]) rfl ?_
          refine lv_goto (tgt := 58) hx hb dX7_ask_54 (by decide) ?_
          exact j58 u51 l1 l2 l3 l4 r51 H locs ls hf hP hD hS (lv_sub hl [0, 1, 2, 3, 4] rfl)
  unfold f_X7_ask at hf
  have hl : lv_has ls 6 [(0, .ref o_t), (1, .int x1)] := hl
  obtain ⟨H, hHe⟩ : ∃ H : Heap, H = s.heap := ⟨_, rfl⟩
  obtain ⟨locs, hle⟩ : ∃ q : List Loc, q = [] := ⟨_, rfl⟩
  have hS : va_S A s.heap H locs := by rw [hHe, hle]; exact hS
  rw [← hHe] at hP
  suffices hgo : W p l e rmX7_ask s m ([.ref o_t, .int x1] : List Value).toArray below meth c H locs 0 0 Q (F0 m 0 ls []) by rw [hHe, hle] at hgo; exact hgo
  clear hHe hle
  refine lv_aload_n hx hb dX7_ask_0 rfl (lv_at hl 0 rfl) ?_
  refine lv_iload_n hx hb dX7_ask_1 rfl (lv_at hl 1 rfl) ?_
  obtain ⟨r2, u2, h2, hf⟩ := bd_some hf
  refine calX0 (runV E0.b E0.n (As := [.int x1]) (rest := []) ⟨hx, hb, hml, hown, hts⟩ (c_X7_isBell l D cI o_t a_t S_t x1 _ h2) gX7_ask_X7_isBell rfl rfl rfl hdX7_isBell ⟨by decide, by decide⟩ hK hP hD 0 rfl rfl rfl hl.1 rfl (Nat.le_of_ble_eq_true rfl) dX7_ask_2 ⟨Nat.zero_le _, Nat.zero_le _⟩) hD hS hA (fun H locs hP hD hS => ?_)
  have hP : va_P D vwCl (gX7 o_t a_t cI u2) H := hP
  have hD : va_D A (gX7 o_t a_t cI u2) := hD
  refine W.eq (g2 := F0 m 5 ls [.int r2]) rfl ?_
  refine lv_if_ne (tgt := 14) hx hb dX7_ask_5 (by decide) (fun c5 => ?_) (fun c5 => ?_)
  · replace hf := it_f c5 hf
    refine lv_bipush (v := (-9 : Int32)) hx hb dX7_ask_14 (by decide) ?_
    refine lv_istore_n (lv' := [(2, .int (-9 : Int32)), (0, .ref o_t), (1, .int x1)]) hx hb dX7_ask_16 rfl hl (by decide) rfl (fun ls hl => ?_)
    refine lv_iconst (v := (0 : Int32)) hx hb dX7_ask_17 (by decide) ?_
    refine lv_istore_n (lv' := [(3, .int (0 : Int32)), (2, .int (-9 : Int32)), (0, .ref o_t), (1, .int x1)]) hx hb dX7_ask_18 rfl hl (by decide) rfl (fun ls hl => ?_)
    refine lv_iconst (v := (0 : Int32)) hx hb dX7_ask_19 (by decide) ?_
    refine lv_istore (lv' := [(4, .int (0 : Int32)), (3, .int (0 : Int32)), (2, .int (-9 : Int32)), (0, .ref o_t), (1, .int x1)]) hx hb dX7_ask_20 hl (by decide) rfl (fun ls hl => ?_)
    exact j22 1000 u2 x1 (-9 : Int32) (0 : Int32) (0 : Int32) H locs ls hf hP hD hS (lv_sub hl [3, 4, 2, 1, 0] rfl)
  · replace hf := it_t c5 hf
    refine lv_aload_n hx hb dX7_ask_8 rfl (lv_at hl 0 rfl) ?_
    refine lv_iconst (v := (-1 : Int32)) hx hb dX7_ask_9 (by decide) ?_
    obtain ⟨r10, u10, h10, hf⟩ := bd_some hf
    refine calX0 (runV E0.b E0.n (As := [.int (-1 : Int32)]) (rest := []) ⟨hx, hb, hml, hown, hts⟩ (c_X7_no l D cI o_t a_t u2 (-1 : Int32) _ h10) gX7_ask_X7_no rfl rfl rfl hdX7_no ⟨by decide, by decide⟩ hK hP hD 0 rfl rfl rfl hl.1 rfl (Nat.le_of_ble_eq_true rfl) dX7_ask_10 ⟨Nat.zero_le _, Nat.zero_le _⟩) hD hS hA (fun H locs hP hD hS => ?_)
    have hP : va_P D vwCl (gX7 o_t a_t cI u10) H := hP
    have hD : va_D A (gX7 o_t a_t cI u10) := hD
    refine W.eq (g2 := F0 m 13 ls [.int r10]) rfl ?_
    have e := so_some hf
    subst e
    exact ri hx hb hK hr hlk hQ dX7_ask_13 hP hD hS
abbrev rmX7_manyTrue : Room := { frames := 6, cells := 0, slots := 0, locals := 133 }
set_option maxHeartbeats 4000000 in
set_option maxRecDepth 100000 in
theorem c_X7_manyTrue (l : Launch) (D : va_G) (cI : ClassId) (o_t : Nat) (a_t : Nat → Nat) (S_t : G) (out : Int32 × G) (hf : f_X7_manyTrue S_t = some out) : Cn E0 l yX7_manyTrue wsX7_manyTrue rmX7_manyTrue D cI [.ref o_t] (gX7 o_t a_t cI S_t) (some (.int out.1)) (gX7 o_t a_t cI out.2) := by
  refine Cn.mk (cc := cX7_manyTrue) (maxL := 3) (ret := (some .int)) (by decide) rfl (Nat.le_of_ble_eq_true rfl) ?_
  intro p e s m below meth c A ls Q hx hb hml hown hts hK hA hP hD hS hl hr hlk hnm hE hQ
  have hown : s.vm.findClass RX7 = some m.cls := hown
  have hinX7 : ∀ w ∈ u_ws RX7 TX7 26, w ∈ wsX7_manyTrue := by decide +kernel
  have j4 : ∀ (n4 : Nat) (S_t : G) (l1 : Int32) (l2 : Int32) (H : Heap) (locs : List Loc) (ls : Array Slot), f_X7_manyTrue_4 n4 S_t l1 l2 = some out → va_P D vwCl (gX7 o_t a_t cI S_t) H → va_D A (gX7 o_t a_t cI S_t) → va_S A s.heap H locs → lv_has ls 3 [(0, .ref o_t), (1, .int l1), (2, .int l2)] → W p l e rmX7_manyTrue s m ([.ref o_t] : List Value).toArray below meth c H locs 0 0 Q (F0 m 4 ls []) := by
    intro n4
    induction n4 with
    | zero =>
      intro S_t l1 l2 H locs ls hf
      exact no_some hf
    | succ n4 ih4 =>
      intro S_t l1 l2 H locs ls hf hP hD hS hl
      replace hf : b_X7_manyTrue_4 (f_X7_manyTrue_4 n4) S_t l1 l2 = some out := hf
      unfold b_X7_manyTrue_4 at hf
      refine lv_iload_n hx hb dX7_manyTrue_4 rfl (lv_at hl 2 rfl) ?_
      refine lv_aload_n hx hb dX7_manyTrue_5 rfl (lv_at hl 0 rfl) ?_
      refine va_get (D := D) (ci := 7) (v := .int (S_t.1 7)) (C := RX7) (T := TX7) (N := 26) hx hb hts hinX7 hown hK hP 0 rfl rfl 7 (by decide) (hts (.fieldLink RX7 62 "OnlyStrangersHearModel" "bells" "I") (by decide +kernel)) (fun _ h9 => h9) rfl dX7_manyTrue_6 ?_
      refine lv_icmp_ge (tgt := 34) hx hb dX7_manyTrue_9 (by decide) (fun c9 => ?_) (fun c9 => ?_)
      · replace hf := it_t c9 hf
        refine lv_iload_n hx hb dX7_manyTrue_34 rfl (lv_at hl 1 rfl) ?_
        have e := so_some hf
        subst e
        exact ri hx hb hK hr hlk hQ dX7_manyTrue_35 hP hD hS
      · replace hf := it_f c9 hf
        refine lv_iload_n hx hb dX7_manyTrue_12 rfl (lv_at hl 1 rfl) ?_
        refine lv_aload_n hx hb dX7_manyTrue_13 rfl (lv_at hl 0 rfl) ?_
        refine lv_iload_n hx hb dX7_manyTrue_14 rfl (lv_at hl 2 rfl) ?_
        obtain ⟨r15, u15, h15, hf⟩ := bd_some hf
        refine calX0 (runV E0.b E0.n (As := [.int l2]) (rest := [.int l1]) ⟨hx, hb, hml, hown, hts⟩ (c_X7_isTrue l D cI o_t a_t S_t l2 _ h15) gX7_manyTrue_X7_isTrue rfl rfl rfl hdX7_isTrue ⟨by decide, by decide⟩ hK hP hD 0 rfl rfl rfl hl.1 rfl (Nat.le_of_ble_eq_true rfl) dX7_manyTrue_15 ⟨Nat.zero_le _, Nat.zero_le _⟩) hD hS hA (fun H locs hP hD hS => ?_)
        have hP : va_P D vwCl (gX7 o_t a_t cI u15) H := hP
        have hD : va_D A (gX7 o_t a_t cI u15) := hD
        refine W.eq (g2 := F0 m 18 ls [.int r15, .int l1]) rfl ?_
        refine lv_if_eq (tgt := 25) hx hb dX7_manyTrue_18 (by decide) (fun c18 => ?_) (fun c18 => ?_)
        · replace hf := it_t c18 hf
          refine lv_iconst (v := (0 : Int32)) hx hb dX7_manyTrue_25 (by decide) ?_
          refine lv_iadd hx hb dX7_manyTrue_26 ?_
          refine lv_istore_n (lv' := [(1, .int (l1 + (0 : Int32))), (0, .ref o_t), (2, .int l2)]) hx hb dX7_manyTrue_27 rfl hl (by decide) rfl (fun ls hl => ?_)
          refine lv_iinc (v := l2 + (1 : Int32)) (lv' := [(2, .int (l2 + (1 : Int32))), (1, .int (l1 + (0 : Int32))), (0, .ref o_t)]) hx hb dX7_manyTrue_28 hl (k := 2) rfl rfl (by decide) rfl (fun ls hl => ?_)
          refine lv_goto (tgt := 4) hx hb dX7_manyTrue_31 (by decide) ?_
          exact ih4 u15 (l1 + (0 : Int32)) (l2 + (1 : Int32)) H locs ls hf hP hD hS (lv_sub hl [2, 1, 0] rfl)
        · replace hf := it_f c18 hf
          refine lv_iconst (v := (1 : Int32)) hx hb dX7_manyTrue_21 (by decide) ?_
          refine lv_goto (tgt := 26) hx hb dX7_manyTrue_22 (by decide) ?_
          refine lv_iadd hx hb dX7_manyTrue_26 ?_
          refine lv_istore_n (lv' := [(1, .int (l1 + (1 : Int32))), (0, .ref o_t), (2, .int l2)]) hx hb dX7_manyTrue_27 rfl hl (by decide) rfl (fun ls hl => ?_)
          refine lv_iinc (v := l2 + (1 : Int32)) (lv' := [(2, .int (l2 + (1 : Int32))), (1, .int (l1 + (1 : Int32))), (0, .ref o_t)]) hx hb dX7_manyTrue_28 hl (k := 2) rfl rfl (by decide) rfl (fun ls hl => ?_)
          refine lv_goto (tgt := 4) hx hb dX7_manyTrue_31 (by decide) ?_
          exact ih4 u15 (l1 + (1 : Int32)) (l2 + (1 : Int32)) H locs ls hf hP hD hS (lv_sub hl [2, 1, 0] rfl)
  unfold f_X7_manyTrue at hf
  have hl : lv_has ls 3 [(0, .ref o_t)] := hl
  obtain ⟨H, hHe⟩ : ∃ H : Heap, H = s.heap := ⟨_, rfl⟩
  obtain ⟨locs, hle⟩ : ∃ q : List Loc, q = [] := ⟨_, rfl⟩
  have hS : va_S A s.heap H locs := by rw [hHe, hle]; exact hS
  rw [← hHe] at hP
  suffices hgo : W p l e rmX7_manyTrue s m ([.ref o_t] : List Value).toArray below meth c H locs 0 0 Q (F0 m 0 ls []) by rw [hHe, hle] at hgo; exact hgo
  clear hHe hle
  refine lv_iconst (v := (0 : Int32)) hx hb dX7_manyTrue_0 (by decide) ?_
  refine lv_istore_n (lv' := [(1, .int (0 : Int32)), (0, .ref o_t)]) hx hb dX7_manyTrue_1 rfl hl (by decide) rfl (fun ls hl => ?_)
  refine lv_iconst (v := (0 : Int32)) hx hb dX7_manyTrue_2 (by decide) ?_
  refine lv_istore_n (lv' := [(2, .int (0 : Int32)), (1, .int (0 : Int32)), (0, .ref o_t)]) hx hb dX7_manyTrue_3 rfl hl (by decide) rfl (fun ls hl => ?_)
  exact j4 1000 S_t (0 : Int32) (0 : Int32) H locs ls hf hP hD hS (lv_sub hl [2, 1, 0] rfl)
abbrev rmX7_leave : Room := { frames := 7, cells := 0, slots := 0, locals := 155 }
set_option maxHeartbeats 4000000 in
set_option maxRecDepth 100000 in
theorem c_X7_leave (l : Launch) (D : va_G) (cI : ClassId) (o_t : Nat) (a_t : Nat → Nat) (S_t : G) (out : Int32 × G) (hf : f_X7_leave S_t = some out) : Cn E0 l yX7_leave wsX7_leave rmX7_leave D cI [.ref o_t] (gX7 o_t a_t cI S_t) (some (.int out.1)) (gX7 o_t a_t cI out.2) := by
  refine Cn.mk (cc := cX7_leave) (maxL := 5) (ret := (some .int)) (by decide) rfl (Nat.le_of_ble_eq_true rfl) ?_
  intro p e s m below meth c A ls Q hx hb hml hown hts hK hA hP hD hS hl hr hlk hnm hE hQ
  have hown : s.vm.findClass RX7 = some m.cls := hown
  have hinX7 : ∀ w ∈ u_ws RX7 TX7 26, w ∈ wsX7_leave := by decide +kernel
  have j10 : ∀ (n10 : Nat) (S_t : G) (l1 : Int32) (l2 : Int32) (l3 : Int32) (H : Heap) (locs : List Loc) (ls : Array Slot), f_X7_leave_10 n10 S_t l1 l2 l3 = some out → va_P D vwCl (gX7 o_t a_t cI S_t) H → va_D A (gX7 o_t a_t cI S_t) → va_S A s.heap H locs → lv_has ls 5 [(0, .ref o_t), (1, .int l1), (2, .int l2), (3, .int l3)] → W p l e rmX7_leave s m ([.ref o_t] : List Value).toArray below meth c H locs 0 0 Q (F0 m 10 ls []) := by
    intro n10
    induction n10 with
    | zero =>
      intro S_t l1 l2 l3 H locs ls hf
      exact no_some hf
    | succ n10 ih10 =>
      intro S_t l1 l2 l3 H locs ls hf hP hD hS hl
      replace hf : b_X7_leave_10 (f_X7_leave_10 n10) S_t l1 l2 l3 = some out := hf
      unfold b_X7_leave_10 at hf
      refine lv_iload_n hx hb dX7_leave_10 rfl (lv_at hl 3 rfl) ?_
      refine lv_aload_n hx hb dX7_leave_11 rfl (lv_at hl 0 rfl) ?_
      refine va_get (D := D) (ci := 7) (v := .int (S_t.1 8)) (C := RX7) (T := TX7) (N := 26) hx hb hts hinX7 hown hK hP 0 rfl rfl 8 (by decide) (hts (.fieldLink RX7 65 "OnlyStrangersHearModel" "people" "I") (by decide +kernel)) (fun _ h9 => h9) rfl dX7_leave_12 ?_
      refine lv_icmp_ge (tgt := 55) hx hb dX7_leave_15 (by decide) (fun c15 => ?_) (fun c15 => ?_)
      · replace hf := it_t c15 hf
        refine lv_iload_n hx hb dX7_leave_55 rfl (lv_at hl 1 rfl) ?_
        have e := so_some hf
        subst e
        exact ri hx hb hK hr hlk hQ dX7_leave_56 hP hD hS
      · replace hf := it_f c15 hf
        refine lv_aload_n hx hb dX7_leave_18 rfl (lv_at hl 0 rfl) ?_
        refine lv_iload_n hx hb dX7_leave_19 rfl (lv_at hl 3 rfl) ?_
        refine va_put (D := D) (ci := 7) (v := .int l3) (ty := .int) (C := RX7) (T := TX7) (N := 26) hx hb hts hinX7 tyX7 tyX7_ok nmX7 hown hK hP hD hS 0 rfl rfl 11 (by decide) (hts (.fieldLink RX7 31 "OnlyStrangersHearModel" "out" "I") (by decide +kernel)) (fun _ h9 => h9) rfl (by decide +kernel) rfl rfl (Nat.le_of_ble_eq_true rfl) dX7_leave_20 (fun H locs hP hD hS => ?_)
        have hP : va_P D vwCl (gX7 o_t a_t cI (pF S_t 11 l3)) H := hP
        have hD : va_D A (gX7 o_t a_t cI (pF S_t 11 l3)) := hD
        obtain ⟨g20, e20, hf⟩ := lt_some hf
        rw [← e20] at hP hD
        refine lv_aload_n hx hb dX7_leave_23 rfl (lv_at hl 0 rfl) ?_
        obtain ⟨r24, u24, h24, hf⟩ := bd_some hf
        refine calX0 (runV E0.b E0.n (As := []) (rest := []) ⟨hx, hb, hml, hown, hts⟩ (c_X7_manyTrue l D cI o_t a_t g20 _ h24) gX7_leave_X7_manyTrue rfl rfl rfl hdX7_manyTrue ⟨by decide, by decide⟩ hK hP hD 0 rfl rfl rfl hl.1 rfl (Nat.le_of_ble_eq_true rfl) dX7_leave_24 ⟨Nat.zero_le _, Nat.zero_le _⟩) hD hS hA (fun H locs hP hD hS => ?_)
        have hP : va_P D vwCl (gX7 o_t a_t cI u24) H := hP
        have hD : va_D A (gX7 o_t a_t cI u24) := hD
        refine W.eq (g2 := F0 m 27 ls [.int r24]) rfl ?_
        refine lv_istore (lv' := [(4, .int r24), (0, .ref o_t), (1, .int l1), (2, .int l2), (3, .int l3)]) hx hb dX7_leave_27 hl (by decide) rfl (fun ls hl => ?_)
        refine lv_aload_n hx hb dX7_leave_29 rfl (lv_at hl 1 rfl) ?_
        refine lv_bipush (v := (-9 : Int32)) hx hb dX7_leave_30 (by decide) ?_
        refine va_put (D := D) (ci := 7) (v := .int (-9 : Int32)) (ty := .int) (C := RX7) (T := TX7) (N := 26) hx hb hts hinX7 tyX7 tyX7_ok nmX7 hown hK hP hD hS 0 rfl rfl 11 (by decide) (hts (.fieldLink RX7 31 "OnlyStrangersHearModel" "out" "I") (by decide +kernel)) (fun _ h9 => h9) rfl (by decide +kernel) rfl rfl (Nat.le_of_ble_eq_true rfl) dX7_leave_32 (fun H locs hP hD hS => ?_)
        have hP : va_P D vwCl (gX7 o_t a_t cI (pF u24 11 (-9 : Int32))) H := hP
        have hD : va_D A (gX7 o_t a_t cI (pF u24 11 (-9 : Int32))) := hD
        obtain ⟨g32, e32, hf⟩ := lt_some hf
        rw [← e32] at hP hD
        refine lv_iload hx hb dX7_leave_35 (lv_at hl 0 rfl) ?_
        refine lv_iload_n hx hb dX7_leave_37 rfl (lv_at hl 3 rfl) ?_
        refine lv_icmp_gt (tgt := 44) hx hb dX7_leave_38 (by decide) (fun c38 => ?_) (fun c38 => ?_)
        · replace hf := it_t c38 hf
          refine lv_iload_n hx hb dX7_leave_44 rfl (lv_at hl 4 rfl) ?_
          refine lv_istore_n (lv' := [(1, .int l3), (4, .int r24), (0, .ref o_t), (2, .int l2), (3, .int l3)]) hx hb dX7_leave_45 rfl hl (by decide) rfl (fun ls hl => ?_)
          refine lv_iload hx hb dX7_leave_46 (lv_at hl 1 rfl) ?_
          refine lv_istore_n (lv' := [(2, .int r24), (1, .int l3), (4, .int r24), (0, .ref o_t), (3, .int l3)]) hx hb dX7_leave_48 rfl hl (by decide) rfl (fun ls hl => ?_)
          refine lv_iinc (v := l3 + (1 : Int32)) (lv' := [(3, .int (l3 + (1 : Int32))), (2, .int r24), (1, .int l3), (4, .int r24), (0, .ref o_t)]) hx hb dX7_leave_49 hl (k := 4) rfl rfl (by decide) rfl (fun ls hl => ?_)
          refine lv_goto (tgt := 10) hx hb dX7_leave_52 (by decide) ?_
          exact ih10 g32 l3 r24 (l3 + (1 : Int32)) H locs ls hf hP hD hS (lv_sub hl [4, 2, 1, 0] rfl)
        · replace hf := it_f c38 hf
          refine lv_goto (tgt := 49) hx hb dX7_leave_41 (by decide) ?_
          refine lv_iinc (v := l3 + (1 : Int32)) (lv' := [(3, .int (l3 + (1 : Int32))), (4, .int r24), (0, .ref o_t), (1, .int l1), (2, .int l2)]) hx hb dX7_leave_49 hl (k := 4) rfl rfl (by decide) rfl (fun ls hl => ?_)
          refine lv_goto (tgt := 10) hx hb dX7_leave_52 (by decide) ?_
          exact ih10 g32 l1 l2 (l3 + (1 : Int32)) H locs ls hf hP hD hS (lv_sub hl [2, 3, 4, 0] rfl)
  unfold f_X7_leave at hf
  have hl : lv_has ls 5 [(0, .ref o_t)] := hl
  obtain ⟨H, hHe⟩ : ∃ H : Heap, H = s.heap := ⟨_, rfl⟩
  obtain ⟨locs, hle⟩ : ∃ q : List Loc, q = [] := ⟨_, rfl⟩
  have hS : va_S A s.heap H locs := by rw [hHe, hle]; exact hS
  rw [← hHe] at hP
  suffices hgo : W p l e rmX7_leave s m ([.ref o_t] : List Value).toArray below meth c H locs 0 0 Q (F0 m 0 ls []) by rw [hHe, hle] at hgo; exact hgo
  clear hHe hle
  refine lv_bipush (v := (-9 : Int32)) hx hb dX7_leave_0 (by decide) ?_
  refine lv_istore_n (lv' := [(1, .int (-9 : Int32)), (0, .ref o_t)]) hx hb dX7_leave_2 rfl hl (by decide) rfl (fun ls hl => ?_)
  refine lv_aload_n hx hb dX7_leave_3 rfl (lv_at hl 1 rfl) ?_
  obtain ⟨r4, u4, h4, hf⟩ := bd_some hf
  refine calX0 (runV E0.b E0.n (As := []) (rest := []) ⟨hx, hb, hml, hown, hts⟩ (c_X7_manyTrue l D cI o_t a_t S_t _ h4) gX7_leave_X7_manyTrue rfl rfl rfl hdX7_manyTrue ⟨by decide, by decide⟩ hK hP hD 0 rfl rfl rfl hl.1 rfl (Nat.le_of_ble_eq_true rfl) dX7_leave_4 ⟨Nat.zero_le _, Nat.zero_le _⟩) hD hS hA (fun H locs hP hD hS => ?_)
  have hP : va_P D vwCl (gX7 o_t a_t cI u4) H := hP
  have hD : va_D A (gX7 o_t a_t cI u4) := hD
  refine W.eq (g2 := F0 m 7 ls [.int r4]) rfl ?_
  refine lv_istore_n (lv' := [(2, .int r4), (1, .int (-9 : Int32)), (0, .ref o_t)]) hx hb dX7_leave_7 rfl hl (by decide) rfl (fun ls hl => ?_)
  refine lv_iconst (v := (0 : Int32)) hx hb dX7_leave_8 (by decide) ?_
  refine lv_istore_n (lv' := [(3, .int (0 : Int32)), (2, .int r4), (1, .int (-9 : Int32)), (0, .ref o_t)]) hx hb dX7_leave_9 rfl hl (by decide) rfl (fun ls hl => ?_)
  exact j10 1000 u4 (-9 : Int32) r4 (0 : Int32) H locs ls hf hP hD hS (lv_sub hl [3, 2, 1, 0] rfl)
abbrev rmX7_manyWrong : Room := { frames := 6, cells := 0, slots := 0, locals := 133 }
set_option maxHeartbeats 4000000 in
set_option maxRecDepth 100000 in
theorem c_X7_manyWrong (l : Launch) (D : va_G) (cI : ClassId) (o_t : Nat) (a_t : Nat → Nat) (S_t : G) (out : Int32 × G) (hf : f_X7_manyWrong S_t = some out) : Cn E0 l yX7_manyWrong wsX7_manyWrong rmX7_manyWrong D cI [.ref o_t] (gX7 o_t a_t cI S_t) (some (.int out.1)) (gX7 o_t a_t cI out.2) := by
  refine Cn.mk (cc := cX7_manyWrong) (maxL := 3) (ret := (some .int)) (by decide) rfl (Nat.le_of_ble_eq_true rfl) ?_
  intro p e s m below meth c A ls Q hx hb hml hown hts hK hA hP hD hS hl hr hlk hnm hE hQ
  have hown : s.vm.findClass RX7 = some m.cls := hown
  have hinX7 : ∀ w ∈ u_ws RX7 TX7 26, w ∈ wsX7_manyWrong := by decide +kernel
  have j4 : ∀ (n4 : Nat) (S_t : G) (l1 : Int32) (l2 : Int32) (H : Heap) (locs : List Loc) (ls : Array Slot), f_X7_manyWrong_4 n4 S_t l1 l2 = some out → va_P D vwCl (gX7 o_t a_t cI S_t) H → va_D A (gX7 o_t a_t cI S_t) → va_S A s.heap H locs → lv_has ls 3 [(0, .ref o_t), (1, .int l1), (2, .int l2)] → W p l e rmX7_manyWrong s m ([.ref o_t] : List Value).toArray below meth c H locs 0 0 Q (F0 m 4 ls []) := by
    intro n4
    induction n4 with
    | zero =>
      intro S_t l1 l2 H locs ls hf
      exact no_some hf
    | succ n4 ih4 =>
      intro S_t l1 l2 H locs ls hf hP hD hS hl
      replace hf : b_X7_manyWrong_4 (f_X7_manyWrong_4 n4) S_t l1 l2 = some out := hf
      unfold b_X7_manyWrong_4 at hf
      refine lv_iload_n hx hb dX7_manyWrong_4 rfl (lv_at hl 2 rfl) ?_
      refine lv_aload_n hx hb dX7_manyWrong_5 rfl (lv_at hl 0 rfl) ?_
      refine va_get (D := D) (ci := 7) (v := .int (S_t.1 7)) (C := RX7) (T := TX7) (N := 26) hx hb hts hinX7 hown hK hP 0 rfl rfl 7 (by decide) (hts (.fieldLink RX7 62 "OnlyStrangersHearModel" "bells" "I") (by decide +kernel)) (fun _ h9 => h9) rfl dX7_manyWrong_6 ?_
      refine lv_icmp_ge (tgt := 42) hx hb dX7_manyWrong_9 (by decide) (fun c9 => ?_) (fun c9 => ?_)
      · replace hf := it_t c9 hf
        refine lv_iload_n hx hb dX7_manyWrong_42 rfl (lv_at hl 1 rfl) ?_
        have e := so_some hf
        subst e
        exact ri hx hb hK hr hlk hQ dX7_manyWrong_43 hP hD hS
      · replace hf := it_f c9 hf
        refine lv_iload_n hx hb dX7_manyWrong_12 rfl (lv_at hl 1 rfl) ?_
        refine lv_aload_n hx hb dX7_manyWrong_13 rfl (lv_at hl 0 rfl) ?_
        refine lv_iload_n hx hb dX7_manyWrong_14 rfl (lv_at hl 2 rfl) ?_
        obtain ⟨r15, u15, h15, hf⟩ := bd_some hf
        refine calX0 (runV E0.b E0.n (As := [.int l2]) (rest := [.int l1]) ⟨hx, hb, hml, hown, hts⟩ (c_X7_hearers l D cI o_t a_t S_t l2 _ h15) gX7_manyWrong_X7_hearers rfl rfl rfl hdX7_hearers ⟨by decide, by decide⟩ hK hP hD 0 rfl rfl rfl hl.1 rfl (Nat.le_of_ble_eq_true rfl) dX7_manyWrong_15 ⟨Nat.zero_le _, Nat.zero_le _⟩) hD hS hA (fun H locs hP hD hS => ?_)
        have hP : va_P D vwCl (gX7 o_t a_t cI u15) H := hP
        have hD : va_D A (gX7 o_t a_t cI u15) := hD
        refine W.eq (g2 := F0 m 18 ls [.int r15, .int l1]) rfl ?_
        refine lv_if_eq (tgt := 33) hx hb dX7_manyWrong_18 (by decide) (fun c18 => ?_) (fun c18 => ?_)
        · replace hf := it_t c18 hf
          refine lv_iconst (v := (0 : Int32)) hx hb dX7_manyWrong_33 (by decide) ?_
          refine lv_iadd hx hb dX7_manyWrong_34 ?_
          refine lv_istore_n (lv' := [(1, .int (l1 + (0 : Int32))), (0, .ref o_t), (2, .int l2)]) hx hb dX7_manyWrong_35 rfl hl (by decide) rfl (fun ls hl => ?_)
          refine lv_iinc (v := l2 + (1 : Int32)) (lv' := [(2, .int (l2 + (1 : Int32))), (1, .int (l1 + (0 : Int32))), (0, .ref o_t)]) hx hb dX7_manyWrong_36 hl (k := 2) rfl rfl (by decide) rfl (fun ls hl => ?_)
          refine lv_goto (tgt := 4) hx hb dX7_manyWrong_39 (by decide) ?_
          exact ih4 u15 (l1 + (0 : Int32)) (l2 + (1 : Int32)) H locs ls hf hP hD hS (lv_sub hl [2, 1, 0] rfl)
        · replace hf := it_f c18 hf
          refine lv_aload_n hx hb dX7_manyWrong_21 rfl (lv_at hl 0 rfl) ?_
          refine lv_iload_n hx hb dX7_manyWrong_22 rfl (lv_at hl 2 rfl) ?_
          obtain ⟨r23, u23, h23, hf⟩ := bd_some hf
          refine calX0 (runV E0.b E0.n (As := [.int l2]) (rest := [.int l1]) ⟨hx, hb, hml, hown, hts⟩ (c_X7_isTrue l D cI o_t a_t u15 l2 _ h23) gX7_manyWrong_X7_isTrue rfl rfl rfl hdX7_isTrue ⟨by decide, by decide⟩ hK hP hD 0 rfl rfl rfl hl.1 rfl (Nat.le_of_ble_eq_true rfl) dX7_manyWrong_23 ⟨Nat.zero_le _, Nat.zero_le _⟩) hD hS hA (fun H locs hP hD hS => ?_)
          have hP : va_P D vwCl (gX7 o_t a_t cI u23) H := hP
          have hD : va_D A (gX7 o_t a_t cI u23) := hD
          refine W.eq (g2 := F0 m 26 ls [.int r23, .int l1]) rfl ?_
          refine lv_if_ne (tgt := 33) hx hb dX7_manyWrong_26 (by decide) (fun c26 => ?_) (fun c26 => ?_)
          · replace hf := it_f c26 hf
            refine lv_iconst (v := (0 : Int32)) hx hb dX7_manyWrong_33 (by decide) ?_
            refine lv_iadd hx hb dX7_manyWrong_34 ?_
            refine lv_istore_n (lv' := [(1, .int (l1 + (0 : Int32))), (0, .ref o_t), (2, .int l2)]) hx hb dX7_manyWrong_35 rfl hl (by decide) rfl (fun ls hl => ?_)
            refine lv_iinc (v := l2 + (1 : Int32)) (lv' := [(2, .int (l2 + (1 : Int32))), (1, .int (l1 + (0 : Int32))), (0, .ref o_t)]) hx hb dX7_manyWrong_36 hl (k := 2) rfl rfl (by decide) rfl (fun ls hl => ?_)
            refine lv_goto (tgt := 4) hx hb dX7_manyWrong_39 (by decide) ?_
            exact ih4 u23 (l1 + (0 : Int32)) (l2 + (1 : Int32)) H locs ls hf hP hD hS (lv_sub hl [2, 1, 0] rfl)
          · replace hf := it_t c26 hf
            refine lv_iconst (v := (1 : Int32)) hx hb dX7_manyWrong_29 (by decide) ?_
            refine lv_goto (tgt := 34) hx hb dX7_manyWrong_30 (by decide) ?_
            refine lv_iadd hx hb dX7_manyWrong_34 ?_
            refine lv_istore_n (lv' := [(1, .int (l1 + (1 : Int32))), (0, .ref o_t), (2, .int l2)]) hx hb dX7_manyWrong_35 rfl hl (by decide) rfl (fun ls hl => ?_)
            refine lv_iinc (v := l2 + (1 : Int32)) (lv' := [(2, .int (l2 + (1 : Int32))), (1, .int (l1 + (1 : Int32))), (0, .ref o_t)]) hx hb dX7_manyWrong_36 hl (k := 2) rfl rfl (by decide) rfl (fun ls hl => ?_)
            refine lv_goto (tgt := 4) hx hb dX7_manyWrong_39 (by decide) ?_
            exact ih4 u23 (l1 + (1 : Int32)) (l2 + (1 : Int32)) H locs ls hf hP hD hS (lv_sub hl [2, 1, 0] rfl)
  unfold f_X7_manyWrong at hf
  have hl : lv_has ls 3 [(0, .ref o_t)] := hl
  obtain ⟨H, hHe⟩ : ∃ H : Heap, H = s.heap := ⟨_, rfl⟩
  obtain ⟨locs, hle⟩ : ∃ q : List Loc, q = [] := ⟨_, rfl⟩
  have hS : va_S A s.heap H locs := by rw [hHe, hle]; exact hS
  rw [← hHe] at hP
  suffices hgo : W p l e rmX7_manyWrong s m ([.ref o_t] : List Value).toArray below meth c H locs 0 0 Q (F0 m 0 ls []) by rw [hHe, hle] at hgo; exact hgo
  clear hHe hle
  refine lv_iconst (v := (0 : Int32)) hx hb dX7_manyWrong_0 (by decide) ?_
  refine lv_istore_n (lv' := [(1, .int (0 : Int32)), (0, .ref o_t)]) hx hb dX7_manyWrong_1 rfl hl (by decide) rfl (fun ls hl => ?_)
  refine lv_iconst (v := (0 : Int32)) hx hb dX7_manyWrong_2 (by decide) ?_
  refine lv_istore_n (lv' := [(2, .int (0 : Int32)), (1, .int (0 : Int32)), (0, .ref o_t)]) hx hb dX7_manyWrong_3 rfl hl (by decide) rfl (fun ls hl => ?_)
  exact j4 1000 S_t (0 : Int32) (0 : Int32) H locs ls hf hP hD hS (lv_sub hl [2, 1, 0] rfl)
