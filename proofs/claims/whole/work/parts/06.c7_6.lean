abbrev rmX7_liesNow : Room := { frames := 0, cells := 0, slots := 0, locals := 0 }
set_option maxHeartbeats 4000000 in
set_option maxRecDepth 100000 in
theorem c_X7_liesNow (l : Launch) (D : va_G) (cI : ClassId) (o_t : Nat) (a_t : Nat → Nat) (S_t : G) (x1 : Int32) (x2 : Int32) (out : Unit × G) (hf : f_X7_liesNow S_t x1 x2 = some out) : Cn E0 l yX7_liesNow wsX7_liesNow rmX7_liesNow D cI [.ref o_t, .int x1, .int x2] (gX7 o_t a_t cI S_t) none (gX7 o_t a_t cI out.2) := by
  refine Cn.mk (cc := cX7_liesNow) (maxL := 3) (ret := none) (by decide) rfl (Nat.le_of_ble_eq_true rfl) ?_
  intro p e s m below meth c A ls Q hx hb hml hown hts hK hA hP hD hS hl hr hlk hnm hE hQ
  have hown : s.vm.findClass RX7 = some m.cls := hown
  have hinX7 : ∀ w ∈ u_ws RX7 TX7 26, w ∈ wsX7_liesNow := by decide +kernel
  unfold f_X7_liesNow at hf
  have hl : lv_has ls 3 [(0, .ref o_t), (1, .int x1), (2, .int x2)] := hl
  obtain ⟨H, hHe⟩ : ∃ H : Heap, H = s.heap := ⟨_, rfl⟩
  obtain ⟨locs, hle⟩ : ∃ q : List Loc, q = [] := ⟨_, rfl⟩
  have hS : va_S A s.heap H locs := by rw [hHe, hle]; exact hS
  rw [← hHe] at hP
  suffices hgo : W p l e rmX7_liesNow s m ([.ref o_t, .int x1, .int x2] : List Value).toArray below meth c H locs 0 0 Q (F0 m 0 ls []) by rw [hHe, hle] at hgo; exact hgo
  clear hHe hle
  refine lv_iload_n hx hb dX7_liesNow_0 rfl (lv_at hl 2 rfl) ?_
  refine lv_if_ne (tgt := 5) hx hb dX7_liesNow_1 (by decide) (fun c1 => ?_) (fun c1 => ?_)
  · replace hf := it_f c1 hf
    refine lv_aload_n hx hb dX7_liesNow_5 rfl (lv_at hl 0 rfl) ?_
    refine va_get (D := D) (ci := 7) (v := .ref (a_t 3)) (C := RX7) (T := TX7) (N := 26) hx hb hts hinX7 hown hK hP 0 rfl rfl 3 (by decide) (hts (.fieldLink RX7 19 "OnlyStrangersHearModel" "kind" "[I") (by decide +kernel)) (fun _ h9 => h9) rfl dX7_liesNow_6 ?_
    refine lv_iload_n hx hb dX7_liesNow_9 rfl (lv_at hl 1 rfl) ?_
    refine lv_iconst (v := (4 : Int32)) hx hb dX7_liesNow_10 (by decide) ?_
    obtain ⟨b11, hf⟩ := ck_some hf
    refine va_iast hx hb hK hP hD hS 4 0 rfl rfl b11 dX7_liesNow_11 (fun H locs hP hD hS => ?_)
    have hP : va_P D vwCl (gX7 o_t a_t cI (pA S_t 3 x1.toNatClampNeg (4 : Int32))) H := hP
    have hD : va_D A (gX7 o_t a_t cI (pA S_t 3 x1.toNatClampNeg (4 : Int32))) := hD
    obtain ⟨g11, e11, hf⟩ := lt_some hf
    rw [← e11] at hP hD
    refine lv_aload_n hx hb dX7_liesNow_12 rfl (lv_at hl 0 rfl) ?_
    refine va_get (D := D) (ci := 7) (v := .ref (a_t 4)) (C := RX7) (T := TX7) (N := 26) hx hb hts hinX7 hown hK hP 0 rfl rfl 4 (by decide) (hts (.fieldLink RX7 22 "OnlyStrangersHearModel" "figure" "[I") (by decide +kernel)) (fun _ h9 => h9) rfl dX7_liesNow_13 ?_
    refine lv_iload_n hx hb dX7_liesNow_16 rfl (lv_at hl 1 rfl) ?_
    refine lv_iconst (v := (5 : Int32)) hx hb dX7_liesNow_17 (by decide) ?_
    obtain ⟨b18, hf⟩ := ck_some hf
    refine va_iast hx hb hK hP hD hS 5 0 rfl rfl b18 dX7_liesNow_18 (fun H locs hP hD hS => ?_)
    have hP : va_P D vwCl (gX7 o_t a_t cI (pA g11 4 x1.toNatClampNeg (5 : Int32))) H := hP
    have hD : va_D A (gX7 o_t a_t cI (pA g11 4 x1.toNatClampNeg (5 : Int32))) := hD
    obtain ⟨g18, e18, hf⟩ := lt_some hf
    rw [← e18] at hP hD
    have e := so_some hf
    subst e
    exact rv hx hb hK hr hlk hQ dX7_liesNow_19 hP hD hS
  · replace hf := it_t c1 hf
    have e := so_some hf
    subst e
    exact rv hx hb hK hr hlk hQ dX7_liesNow_4 hP hD hS
abbrev rmX7_two : Room := { frames := 7, cells := 0, slots := 0, locals := 157 }
set_option maxHeartbeats 4000000 in
set_option maxRecDepth 100000 in
theorem c_X7_two (l : Launch) (D : va_G) (cI : ClassId) (o_t : Nat) (a_t : Nat → Nat) (S_t : G) (x1 : Int32) (x2 : Int32) (x3 : Int32) (out : Int32 × G) (hf : f_X7_two S_t x1 x2 x3 = some out) : Cn E0 l yX7_two wsX7_two rmX7_two D cI [.ref o_t, .int x1, .int x2, .int x3] (gX7 o_t a_t cI S_t) (some (.int out.1)) (gX7 o_t a_t cI out.2) := by
  refine Cn.mk (cc := cX7_two) (maxL := 6) (ret := (some .int)) (by decide) rfl (Nat.le_of_ble_eq_true rfl) ?_
  intro p e s m below meth c A ls Q hx hb hml hown hts hK hA hP hD hS hl hr hlk hnm hE hQ
  have hown : s.vm.findClass RX7 = some m.cls := hown
  have hinX7 : ∀ w ∈ u_ws RX7 TX7 26, w ∈ wsX7_two := by decide +kernel
  have j102 : ∀ (n102 : Nat) (S_t : G) (l5 : Int32) (H : Heap) (locs : List Loc) (ls : Array Slot), f_X7_two_102 n102 S_t l5 = some out → va_P D vwCl (gX7 o_t a_t cI S_t) H → va_D A (gX7 o_t a_t cI S_t) → va_S A s.heap H locs → lv_has ls 6 [(0, .ref o_t), (5, .int l5)] → W p l e rmX7_two s m ([.ref o_t, .int x1, .int x2, .int x3] : List Value).toArray below meth c H locs 0 0 Q (F0 m 102 ls []) := by
    intro n102
    induction n102 with
    | zero =>
      intro S_t l5 H locs ls hf
      exact no_some hf
    | succ n102 ih102 =>
      intro S_t l5 H locs ls hf hP hD hS hl
      replace hf : b_X7_two_102 (f_X7_two_102 n102) S_t l5 = some out := hf
      unfold b_X7_two_102 at hf
      refine lv_iload hx hb dX7_two_102 (lv_at hl 1 rfl) ?_
      refine lv_iconst (v := (4 : Int32)) hx hb dX7_two_104 (by decide) ?_
      refine lv_icmp_ge (tgt := 165) hx hb dX7_two_105 (by decide) (fun c105 => ?_) (fun c105 => ?_)
      · replace hf := it_t c105 hf
        refine lv_bipush (v := (-9 : Int32)) hx hb dX7_two_165 (by decide) ?_
        have e := so_some hf
        subst e
        exact ri hx hb hK hr hlk hQ dX7_two_167 hP hD hS
      · replace hf := it_f c105 hf
        refine lv_aload_n hx hb dX7_two_108 rfl (lv_at hl 0 rfl) ?_
        refine va_get (D := D) (ci := 7) (v := .ref (a_t 23)) (C := RX7) (T := TX7) (N := 26) hx hb hts hinX7 hown hK hP 0 rfl rfl 23 (by decide) (hts (.fieldLink RX7 50 "OnlyStrangersHearModel" "trueBy" "[I") (by decide +kernel)) (fun _ h9 => h9) rfl dX7_two_109 ?_
        refine lv_iload hx hb dX7_two_112 (lv_at hl 1 rfl) ?_
        refine lv_iconst (v := (2 : Int32)) hx hb dX7_two_114 (by decide) ?_
        refine lv_ixor hx hb dX7_two_115 ?_
        obtain ⟨b116, hf⟩ := ck_some hf
        refine va_iald hx hb hK hP 13 0 rfl rfl b116 dX7_two_116 ?_
        refine lv_aload_n hx hb dX7_two_117 rfl (lv_at hl 0 rfl) ?_
        refine va_get (D := D) (ci := 7) (v := .ref (a_t 23)) (C := RX7) (T := TX7) (N := 26) hx hb hts hinX7 hown hK hP 0 rfl rfl 23 (by decide) (hts (.fieldLink RX7 50 "OnlyStrangersHearModel" "trueBy" "[I") (by decide +kernel)) (fun _ h9 => h9) rfl dX7_two_118 ?_
        refine lv_iload hx hb dX7_two_121 (lv_at hl 1 rfl) ?_
        obtain ⟨b123, hf⟩ := ck_some hf
        refine va_iald hx hb hK hP 13 0 rfl rfl b123 dX7_two_123 ?_
        refine lv_icmp_gt (tgt := 159) hx hb dX7_two_124 (by decide) (fun c124 => ?_) (fun c124 => ?_)
        · replace hf := it_t c124 hf
          refine lv_iinc (v := l5 + (1 : Int32)) (lv' := [(5, .int (l5 + (1 : Int32))), (0, .ref o_t)]) hx hb dX7_two_159 hl (k := 1) rfl rfl (by decide) rfl (fun ls hl => ?_)
          refine lv_goto (tgt := 102) hx hb dX7_two_162 (by decide) ?_
          exact ih102 S_t (l5 + (1 : Int32)) H locs ls hf hP hD hS (lv_sub hl [1, 0] rfl)
        · replace hf := it_f c124 hf
          refine lv_aload_n hx hb dX7_two_127 rfl (lv_at hl 0 rfl) ?_
          refine va_get (D := D) (ci := 7) (v := .ref (a_t 23)) (C := RX7) (T := TX7) (N := 26) hx hb hts hinX7 hown hK hP 0 rfl rfl 23 (by decide) (hts (.fieldLink RX7 50 "OnlyStrangersHearModel" "trueBy" "[I") (by decide +kernel)) (fun _ h9 => h9) rfl dX7_two_128 ?_
          refine lv_iload hx hb dX7_two_131 (lv_at hl 1 rfl) ?_
          refine lv_iconst (v := (1 : Int32)) hx hb dX7_two_133 (by decide) ?_
          refine lv_ixor hx hb dX7_two_134 ?_
          obtain ⟨b135, hf⟩ := ck_some hf
          refine va_iald hx hb hK hP 13 0 rfl rfl b135 dX7_two_135 ?_
          refine lv_aload_n hx hb dX7_two_136 rfl (lv_at hl 0 rfl) ?_
          refine va_get (D := D) (ci := 7) (v := .ref (a_t 23)) (C := RX7) (T := TX7) (N := 26) hx hb hts hinX7 hown hK hP 0 rfl rfl 23 (by decide) (hts (.fieldLink RX7 50 "OnlyStrangersHearModel" "trueBy" "[I") (by decide +kernel)) (fun _ h9 => h9) rfl dX7_two_137 ?_
          refine lv_iload hx hb dX7_two_140 (lv_at hl 1 rfl) ?_
          obtain ⟨b142, hf⟩ := ck_some hf
          refine va_iald hx hb hK hP 13 0 rfl rfl b142 dX7_two_142 ?_
          refine lv_icmp_lt (tgt := 159) hx hb dX7_two_143 (by decide) (fun c143 => ?_) (fun c143 => ?_)
          · replace hf := it_t c143 hf
            refine lv_iinc (v := l5 + (1 : Int32)) (lv' := [(5, .int (l5 + (1 : Int32))), (0, .ref o_t)]) hx hb dX7_two_159 hl (k := 1) rfl rfl (by decide) rfl (fun ls hl => ?_)
            refine lv_goto (tgt := 102) hx hb dX7_two_162 (by decide) ?_
            exact ih102 S_t (l5 + (1 : Int32)) H locs ls hf hP hD hS (lv_sub hl [1, 0] rfl)
          · replace hf := it_f c143 hf
            refine lv_bipush (v := (10 : Int32)) hx hb dX7_two_146 (by decide) ?_
            refine lv_iload hx hb dX7_two_148 (lv_at hl 1 rfl) ?_
            refine lv_iconst (v := (2 : Int32)) hx hb dX7_two_150 (by decide) ?_
            obtain ⟨z151, hf⟩ := nz_some hf
            refine lv_idiv hx hb dX7_two_151 z151 ?_
            refine lv_imul hx hb dX7_two_152 ?_
            refine lv_iload hx hb dX7_two_153 (lv_at hl 1 rfl) ?_
            refine lv_iconst (v := (2 : Int32)) hx hb dX7_two_155 (by decide) ?_
            obtain ⟨z156, hf⟩ := nz_some hf
            refine lv_irem hx hb dX7_two_156 z156 ?_
            refine lv_iadd hx hb dX7_two_157 ?_
            have e := so_some hf
            subst e
            exact ri hx hb hK hr hlk hQ dX7_two_158 hP hD hS
  have j49 : ∀ (n49 : Nat) (S_t : G) (l1 : Int32) (l2 : Int32) (l3 : Int32) (l5 : Int32) (H : Heap) (locs : List Loc) (ls : Array Slot), f_X7_two_49 n49 S_t l1 l2 l3 l5 = some out → va_P D vwCl (gX7 o_t a_t cI S_t) H → va_D A (gX7 o_t a_t cI S_t) → va_S A s.heap H locs → lv_has ls 6 [(0, .ref o_t), (1, .int l1), (2, .int l2), (3, .int l3), (5, .int l5)] → W p l e rmX7_two s m ([.ref o_t, .int x1, .int x2, .int x3] : List Value).toArray below meth c H locs 0 0 Q (F0 m 49 ls []) := by
    intro n49
    induction n49 with
    | zero =>
      intro S_t l1 l2 l3 l5 H locs ls hf
      exact no_some hf
    | succ n49 ih49 =>
      intro S_t l1 l2 l3 l5 H locs ls hf hP hD hS hl
      replace hf : b_X7_two_49 (f_X7_two_49 n49) S_t l1 l2 l3 l5 = some out := hf
      unfold b_X7_two_49 at hf
      refine lv_iload hx hb dX7_two_49 (lv_at hl 4 rfl) ?_
      refine lv_iconst (v := (4 : Int32)) hx hb dX7_two_51 (by decide) ?_
      refine lv_icmp_ge (tgt := 99) hx hb dX7_two_52 (by decide) (fun c52 => ?_) (fun c52 => ?_)
      · replace hf := it_t c52 hf
        refine lv_iconst (v := (0 : Int32)) hx hb dX7_two_99 (by decide) ?_
        refine lv_istore (lv' := [(5, .int (0 : Int32)), (0, .ref o_t), (1, .int l1), (2, .int l2), (3, .int l3)]) hx hb dX7_two_100 hl (by decide) rfl (fun ls hl => ?_)
        exact j102 1000 S_t (0 : Int32) H locs ls hf hP hD hS (lv_sub hl [1, 0] rfl)
      · replace hf := it_f c52 hf
        refine lv_aload_n hx hb dX7_two_55 rfl (lv_at hl 0 rfl) ?_
        obtain ⟨r56, u56, h56, hf⟩ := bd_some hf
        refine calX0 (runV E0.b E0.n (As := []) (rest := []) ⟨hx, hb, hml, hown, hts⟩ (c_X7_changes l D cI o_t a_t S_t _ h56) gX7_two_X7_changes rfl rfl rfl hdX7_changes ⟨by decide, by decide⟩ hK hP hD 0 rfl rfl rfl hl.1 rfl (Nat.le_of_ble_eq_true rfl) dX7_two_56 ⟨Nat.zero_le _, Nat.zero_le _⟩) hD hS hA (fun H locs hP hD hS => ?_)
        have hP : va_P D vwCl (gX7 o_t a_t cI u56) H := hP
        have hD : va_D A (gX7 o_t a_t cI u56) := hD
        refine W.eq (g2 := F0 m 59 ls []) rfl ?_
        refine lv_aload_n hx hb dX7_two_59 rfl (lv_at hl 0 rfl) ?_
        refine lv_iload_n hx hb dX7_two_60 rfl (lv_at hl 1 rfl) ?_
        refine lv_iload hx hb dX7_two_61 (lv_at hl 4 rfl) ?_
        refine lv_iconst (v := (2 : Int32)) hx hb dX7_two_63 (by decide) ?_
        obtain ⟨z64, hf⟩ := nz_some hf
        refine lv_idiv hx hb dX7_two_64 z64 ?_
        obtain ⟨r65, u65, h65, hf⟩ := bd_some hf
        refine calX0 (runV E0.b E0.n (As := [.int l1, .int (l5 / (2 : Int32))]) (rest := []) ⟨hx, hb, hml, hown, hts⟩ (c_X7_liesNow l D cI o_t a_t u56 l1 (l5 / (2 : Int32)) _ h65) gX7_two_X7_liesNow rfl rfl rfl hdX7_liesNow ⟨by decide, by decide⟩ hK hP hD 0 rfl rfl rfl hl.1 rfl (Nat.le_of_ble_eq_true rfl) dX7_two_65 ⟨Nat.zero_le _, Nat.zero_le _⟩) hD hS hA (fun H locs hP hD hS => ?_)
        have hP : va_P D vwCl (gX7 o_t a_t cI u65) H := hP
        have hD : va_D A (gX7 o_t a_t cI u65) := hD
        refine W.eq (g2 := F0 m 68 ls []) rfl ?_
        refine lv_aload_n hx hb dX7_two_68 rfl (lv_at hl 0 rfl) ?_
        refine lv_iload_n hx hb dX7_two_69 rfl (lv_at hl 2 rfl) ?_
        refine lv_iload hx hb dX7_two_70 (lv_at hl 4 rfl) ?_
        refine lv_iconst (v := (2 : Int32)) hx hb dX7_two_72 (by decide) ?_
        obtain ⟨z73, hf⟩ := nz_some hf
        refine lv_irem hx hb dX7_two_73 z73 ?_
        obtain ⟨r74, u74, h74, hf⟩ := bd_some hf
        refine calX0 (runV E0.b E0.n (As := [.int l2, .int (l5 - l5 / (2 : Int32) * (2 : Int32))]) (rest := []) ⟨hx, hb, hml, hown, hts⟩ (c_X7_liesNow l D cI o_t a_t u65 l2 (l5 - l5 / (2 : Int32) * (2 : Int32)) _ h74) gX7_two_X7_liesNow rfl rfl rfl hdX7_liesNow ⟨by decide, by decide⟩ hK hP hD 0 rfl rfl rfl hl.1 rfl (Nat.le_of_ble_eq_true rfl) dX7_two_74 ⟨Nat.zero_le _, Nat.zero_le _⟩) hD hS hA (fun H locs hP hD hS => ?_)
        have hP : va_P D vwCl (gX7 o_t a_t cI u74) H := hP
        have hD : va_D A (gX7 o_t a_t cI u74) := hD
        refine W.eq (g2 := F0 m 77 ls []) rfl ?_
        refine lv_aload_n hx hb dX7_two_77 rfl (lv_at hl 0 rfl) ?_
        refine va_get (D := D) (ci := 7) (v := .ref (a_t 23)) (C := RX7) (T := TX7) (N := 26) hx hb hts hinX7 hown hK hP 0 rfl rfl 23 (by decide) (hts (.fieldLink RX7 50 "OnlyStrangersHearModel" "trueBy" "[I") (by decide +kernel)) (fun _ h9 => h9) rfl dX7_two_78 ?_
        refine lv_iload hx hb dX7_two_81 (lv_at hl 4 rfl) ?_
        refine lv_aload_n hx hb dX7_two_83 rfl (lv_at hl 0 rfl) ?_
        refine lv_iload_n hx hb dX7_two_84 rfl (lv_at hl 3 rfl) ?_
        obtain ⟨r85, u85, h85, hf⟩ := bd_some hf
        refine calX0 (runV E0.b E0.n (As := [.int l3]) (rest := [.int l5, .ref (a_t 23)]) ⟨hx, hb, hml, hown, hts⟩ (c_X7_allTrue l D cI o_t a_t u74 l3 _ h85) gX7_two_X7_allTrue rfl rfl rfl hdX7_allTrue ⟨by decide, by decide⟩ hK hP hD 0 rfl rfl rfl hl.1 rfl (Nat.le_of_ble_eq_true rfl) dX7_two_85 ⟨Nat.zero_le _, Nat.zero_le _⟩) hD hS hA (fun H locs hP hD hS => ?_)
        have hP : va_P D vwCl (gX7 o_t a_t cI u85) H := hP
        have hD : va_D A (gX7 o_t a_t cI u85) := hD
        refine W.eq (g2 := F0 m 88 ls [.int r85, .int l5, .ref (a_t 23)]) rfl ?_
        obtain ⟨b88, hf⟩ := ck_some hf
        refine va_iast hx hb hK hP hD hS 13 0 rfl rfl b88 dX7_two_88 (fun H locs hP hD hS => ?_)
        have hP : va_P D vwCl (gX7 o_t a_t cI (pA u85 23 l5.toNatClampNeg r85)) H := hP
        have hD : va_D A (gX7 o_t a_t cI (pA u85 23 l5.toNatClampNeg r85)) := hD
        obtain ⟨g88, e88, hf⟩ := lt_some hf
        rw [← e88] at hP hD
        refine lv_aload_n hx hb dX7_two_89 rfl (lv_at hl 0 rfl) ?_
        obtain ⟨r90, u90, h90, hf⟩ := bd_some hf
        refine calX0 (runV E0.b E0.n (As := []) (rest := []) ⟨hx, hb, hml, hown, hts⟩ (c_X7_changesBack l D cI o_t a_t g88 _ h90) gX7_two_X7_changesBack rfl rfl rfl hdX7_changesBack ⟨by decide, by decide⟩ hK hP hD 0 rfl rfl rfl hl.1 rfl (Nat.le_of_ble_eq_true rfl) dX7_two_90 ⟨Nat.zero_le _, Nat.zero_le _⟩) hD hS hA (fun H locs hP hD hS => ?_)
        have hP : va_P D vwCl (gX7 o_t a_t cI u90) H := hP
        have hD : va_D A (gX7 o_t a_t cI u90) := hD
        refine W.eq (g2 := F0 m 93 ls []) rfl ?_
        refine lv_iinc (v := l5 + (1 : Int32)) (lv' := [(5, .int (l5 + (1 : Int32))), (0, .ref o_t), (1, .int l1), (2, .int l2), (3, .int l3)]) hx hb dX7_two_93 hl (k := 4) rfl rfl (by decide) rfl (fun ls hl => ?_)
        refine lv_goto (tgt := 49) hx hb dX7_two_96 (by decide) ?_
        exact ih49 u90 l1 l2 l3 (l5 + (1 : Int32)) H locs ls hf hP hD hS (lv_sub hl [1, 2, 3, 4, 0] rfl)
  have j32 : ∀ (S_t : G) (l1 : Int32) (l2 : Int32) (l3 : Int32) (s0 : Int32) (H : Heap) (locs : List Loc) (ls : Array Slot), f_X7_two_32 S_t l1 l2 l3 s0 = some out → va_P D vwCl (gX7 o_t a_t cI S_t) H → va_D A (gX7 o_t a_t cI S_t) → va_S A s.heap H locs → lv_has ls 6 [(0, .ref o_t), (1, .int l1), (2, .int l2), (3, .int l3)] → W p l e rmX7_two s m ([.ref o_t, .int x1, .int x2, .int x3] : List Value).toArray below meth c H locs 0 0 Q (F0 m 32 ls [.int s0]) := by
    intro S_t l1 l2 l3 s0 H locs ls hf hP hD hS hl
    unfold f_X7_two_32 at hf
    refine lv_istore (lv' := [(4, .int s0), (0, .ref o_t), (1, .int l1), (2, .int l2), (3, .int l3)]) hx hb dX7_two_32 hl (by decide) rfl (fun ls hl => ?_)
    refine lv_iload hx hb dX7_two_34 (lv_at hl 0 rfl) ?_
    refine lv_if_eq (tgt := 46) hx hb dX7_two_36 (by decide) (fun c36 => ?_) (fun c36 => ?_)
    · replace hf := it_t c36 hf
      refine lv_iconst (v := (0 : Int32)) hx hb dX7_two_46 (by decide) ?_
      refine lv_istore (lv' := [(5, .int (0 : Int32)), (4, .int s0), (0, .ref o_t), (1, .int l1), (2, .int l2), (3, .int l3)]) hx hb dX7_two_47 hl (by decide) rfl (fun ls hl => ?_)
      exact j49 1000 S_t l1 l2 l3 (0 : Int32) H locs ls hf hP hD hS (lv_sub hl [2, 3, 4, 5, 0] rfl)
    · replace hf := it_f c36 hf
      refine lv_aload_n hx hb dX7_two_39 rfl (lv_at hl 1 rfl) ?_
      refine lv_iload hx hb dX7_two_40 (lv_at hl 0 rfl) ?_
      obtain ⟨r42, u42, h42, hf⟩ := bd_some hf
      refine calX0 (runV E0.b E0.n (As := [.int s0]) (rest := []) ⟨hx, hb, hml, hown, hts⟩ (c_X7_no l D cI o_t a_t S_t s0 _ h42) gX7_two_X7_no rfl rfl rfl hdX7_no ⟨by decide, by decide⟩ hK hP hD 0 rfl rfl rfl hl.1 rfl (Nat.le_of_ble_eq_true rfl) dX7_two_42 ⟨Nat.zero_le _, Nat.zero_le _⟩) hD hS hA (fun H locs hP hD hS => ?_)
      have hP : va_P D vwCl (gX7 o_t a_t cI u42) H := hP
      have hD : va_D A (gX7 o_t a_t cI u42) := hD
      refine W.eq (g2 := F0 m 45 ls [.int r42]) rfl ?_
      have e := so_some hf
      subst e
      exact ri hx hb hK hr hlk hQ dX7_two_45 hP hD hS
  have j21 : ∀ (S_t : G) (l1 : Int32) (l2 : Int32) (l3 : Int32) (H : Heap) (locs : List Loc) (ls : Array Slot), f_X7_two_21 S_t l1 l2 l3 = some out → va_P D vwCl (gX7 o_t a_t cI S_t) H → va_D A (gX7 o_t a_t cI S_t) → va_S A s.heap H locs → lv_has ls 6 [(0, .ref o_t), (1, .int l1), (2, .int l2), (3, .int l3)] → W p l e rmX7_two s m ([.ref o_t, .int x1, .int x2, .int x3] : List Value).toArray below meth c H locs 0 0 Q (F0 m 21 ls []) := by
    intro S_t l1 l2 l3 H locs ls hf hP hD hS hl
    unfold f_X7_two_21 at hf
    refine lv_iconst (v := (-1 : Int32)) hx hb dX7_two_21 (by decide) ?_
    refine lv_goto (tgt := 32) hx hb dX7_two_22 (by decide) ?_
    exact j32 S_t l1 l2 l3 (-1 : Int32) H locs ls hf hP hD hS (lv_sub hl [0, 1, 2, 3] rfl)
  unfold f_X7_two at hf
  have hl : lv_has ls 6 [(0, .ref o_t), (1, .int x1), (2, .int x2), (3, .int x3)] := hl
  obtain ⟨H, hHe⟩ : ∃ H : Heap, H = s.heap := ⟨_, rfl⟩
  obtain ⟨locs, hle⟩ : ∃ q : List Loc, q = [] := ⟨_, rfl⟩
  have hS : va_S A s.heap H locs := by rw [hHe, hle]; exact hS
  rw [← hHe] at hP
  suffices hgo : W p l e rmX7_two s m ([.ref o_t, .int x1, .int x2, .int x3] : List Value).toArray below meth c H locs 0 0 Q (F0 m 0 ls []) by rw [hHe, hle] at hgo; exact hgo
  clear hHe hle
  refine lv_aload_n hx hb dX7_two_0 rfl (lv_at hl 0 rfl) ?_
  refine lv_iload_n hx hb dX7_two_1 rfl (lv_at hl 1 rfl) ?_
  obtain ⟨r2, u2, h2, hf⟩ := bd_some hf
  refine calX0 (runV E0.b E0.n (As := [.int x1]) (rest := []) ⟨hx, hb, hml, hown, hts⟩ (c_X7_isOne l D cI o_t a_t S_t x1 _ h2) gX7_two_X7_isOne rfl rfl rfl hdX7_isOne ⟨by decide, by decide⟩ hK hP hD 0 rfl rfl rfl hl.1 rfl (Nat.le_of_ble_eq_true rfl) dX7_two_2 ⟨Nat.zero_le _, Nat.zero_le _⟩) hD hS hA (fun H locs hP hD hS => ?_)
  have hP : va_P D vwCl (gX7 o_t a_t cI u2) H := hP
  have hD : va_D A (gX7 o_t a_t cI u2) := hD
  refine W.eq (g2 := F0 m 5 ls [.int r2]) rfl ?_
  refine lv_if_eq (tgt := 21) hx hb dX7_two_5 (by decide) (fun c5 => ?_) (fun c5 => ?_)
  · replace hf := it_t c5 hf
    exact j21 u2 x1 x2 x3 H locs ls hf hP hD hS (lv_sub hl [0, 1, 2, 3] rfl)
  · replace hf := it_f c5 hf
    refine lv_aload_n hx hb dX7_two_8 rfl (lv_at hl 0 rfl) ?_
    refine lv_iload_n hx hb dX7_two_9 rfl (lv_at hl 2 rfl) ?_
    obtain ⟨r10, u10, h10, hf⟩ := bd_some hf
    refine calX0 (runV E0.b E0.n (As := [.int x2]) (rest := []) ⟨hx, hb, hml, hown, hts⟩ (c_X7_isOne l D cI o_t a_t u2 x2 _ h10) gX7_two_X7_isOne rfl rfl rfl hdX7_isOne ⟨by decide, by decide⟩ hK hP hD 0 rfl rfl rfl hl.1 rfl (Nat.le_of_ble_eq_true rfl) dX7_two_10 ⟨Nat.zero_le _, Nat.zero_le _⟩) hD hS hA (fun H locs hP hD hS => ?_)
    have hP : va_P D vwCl (gX7 o_t a_t cI u10) H := hP
    have hD : va_D A (gX7 o_t a_t cI u10) := hD
    refine W.eq (g2 := F0 m 13 ls [.int r10]) rfl ?_
    refine lv_if_eq (tgt := 21) hx hb dX7_two_13 (by decide) (fun c13 => ?_) (fun c13 => ?_)
    · replace hf := it_t c13 hf
      exact j21 u10 x1 x2 x3 H locs ls hf hP hD hS (lv_sub hl [0, 1, 2, 3] rfl)
    · replace hf := it_f c13 hf
      refine lv_iload_n hx hb dX7_two_16 rfl (lv_at hl 1 rfl) ?_
      refine lv_iload_n hx hb dX7_two_17 rfl (lv_at hl 2 rfl) ?_
      refine lv_icmp_ne (tgt := 25) hx hb dX7_two_18 (by decide) (fun c18 => ?_) (fun c18 => ?_)
      · replace hf := it_f c18 hf
        refine lv_iload_n hx hb dX7_two_25 rfl (lv_at hl 3 rfl) ?_
        refine lv_iconst (v := (1 : Int32)) hx hb dX7_two_26 (by decide) ?_
        refine lv_bipush (v := (20 : Int32)) hx hb dX7_two_27 (by decide) ?_
        obtain ⟨r29, u29, h29, hf⟩ := bd_some hf
        have hPc : va_P D vwCl [] H := hP.sub (ws' := []) [] rfl
        have hDc : va_D A [] := hD.sub (ws' := []) [] (by decide) rfl
        refine calXe (runS E0.b E0.n (As := [.int x3, .int (1 : Int32), .int (20 : Int32)]) (rest := []) ⟨hx, hb, hml, hown, hts⟩ (c_X7_bound l D cI x3 (1 : Int32) (20 : Int32) _ h29) gX7_two_X7_bound rfl rfl rfl hdX7_bound ⟨by decide, by decide⟩ hK hPc hDc rfl hl.1 rfl (Nat.le_of_ble_eq_true rfl) dX7_two_29 ⟨Nat.zero_le _, Nat.zero_le _⟩) hP hD hS hA (fun H locs hP hD hS => ?_)
        have hP : va_P D vwCl (gX7 o_t a_t cI u10) H := hP
        have hD : va_D A (gX7 o_t a_t cI u10) := hD
        refine W.eq (g2 := F0 m 32 ls [.int r29]) rfl ?_
        exact j32 u10 x1 x2 x3 r29 H locs ls hf hP hD hS (lv_sub hl [0, 1, 2, 3] rfl)
      · replace hf := it_t c18 hf
        exact j21 u10 x1 x2 x3 H locs ls hf hP hD hS (lv_sub hl [0, 1, 2, 3] rfl)
abbrev rmX7_divisor : Room := { frames := 0, cells := 0, slots := 0, locals := 0 }
set_option maxHeartbeats 4000000 in
set_option maxRecDepth 100000 in
theorem c_X7_divisor (l : Launch) (D : va_G) (cI : ClassId) (x0 : Int64) (x2 : Int64) (out : Int64 × Unit) (hf : f_X7_divisor x0 x2 = some out) : Cn E0 l yX7_divisor wsX7_divisor rmX7_divisor D cI [.long x0, .long x2] ([]) (some (.long out.1)) ([]) := by
  refine Cn.mk (cc := cX7_divisor) (maxL := 10) (ret := (some .long)) (by decide) rfl (Nat.le_of_ble_eq_true rfl) ?_
  intro p e s m below meth c A ls Q hx hb hml hown hts hK hA hP hD hS hl hr hlk hnm hE hQ
  have hown : s.vm.findClass RX7 = some m.cls := hown
  have j6 : ∀ (n6 : Nat) (l4 : Int64) (l6 : Int64) (H : Heap) (locs : List Loc) (ls : Array Slot), f_X7_divisor_6 n6 l4 l6 = some out → va_P D vwCl ([]) H → va_D A ([]) → va_S A s.heap H locs → lv_has ls 10 [(4, .long l4), (6, .long l6)] → W p l e rmX7_divisor s m ([.long x0, .long x2] : List Value).toArray below meth c H locs 0 0 Q (F0 m 6 ls []) := by
    intro n6
    induction n6 with
    | zero =>
      intro l4 l6 H locs ls hf
      exact no_some hf
    | succ n6 ih6 =>
      intro l4 l6 H locs ls hf hP hD hS hl
      replace hf : b_X7_divisor_6 (f_X7_divisor_6 n6) l4 l6 = some out := hf
      unfold b_X7_divisor_6 at hf
      refine lv_lload hx hb dX7_divisor_6 (lv_at hl 1 rfl) ?_
      refine lv_lconst (v := (0 : Int64)) hx hb dX7_divisor_8 (by decide) ?_
      refine W.lcmp hx hb dX7_divisor_9 ?_
      refine lv_if_eq (tgt := 31) hx hb dX7_divisor_10 (by decide) (fun c10 => ?_) (fun c10 => ?_)
      · replace hf := it_t c10 hf
        refine lv_lload hx hb dX7_divisor_31 (lv_at hl 0 rfl) ?_
        have e := so_some hf
        subst e
        exact rl hx hb hK hr hlk hQ dX7_divisor_33 hP hD hS
      · replace hf := it_f c10 hf
        refine lv_lload hx hb dX7_divisor_13 (lv_at hl 0 rfl) ?_
        refine lv_lload hx hb dX7_divisor_15 (lv_at hl 1 rfl) ?_
        obtain ⟨z17, hf⟩ := nzl_some hf
        refine lv_lrem hx hb dX7_divisor_17 z17 ?_
        refine lv_lstore (lv' := [(8, .long (l4 - l4 / l6 * l6)), (4, .long l4), (6, .long l6)]) hx hb dX7_divisor_18 hl (by decide) rfl (fun ls hl => ?_)
        refine lv_lload hx hb dX7_divisor_20 (lv_at hl 2 rfl) ?_
        refine lv_lstore (lv' := [(4, .long l6), (8, .long (l4 - l4 / l6 * l6)), (6, .long l6)]) hx hb dX7_divisor_22 hl (by decide) rfl (fun ls hl => ?_)
        refine lv_lload hx hb dX7_divisor_24 (lv_at hl 1 rfl) ?_
        refine lv_lstore (lv' := [(6, .long (l4 - l4 / l6 * l6)), (4, .long l6), (8, .long (l4 - l4 / l6 * l6))]) hx hb dX7_divisor_26 hl (by decide) rfl (fun ls hl => ?_)
        refine lv_goto (tgt := 6) hx hb dX7_divisor_28 (by decide) ?_
        exact ih6 l6 (l4 - l4 / l6 * l6) H locs ls hf hP hD hS (lv_sub hl [1, 0] rfl)
  unfold f_X7_divisor at hf
  have hl : lv_has ls 10 [(0, .long x0), (2, .long x2)] := hl
  obtain ⟨H, hHe⟩ : ∃ H : Heap, H = s.heap := ⟨_, rfl⟩
  obtain ⟨locs, hle⟩ : ∃ q : List Loc, q = [] := ⟨_, rfl⟩
  have hS : va_S A s.heap H locs := by rw [hHe, hle]; exact hS
  rw [← hHe] at hP
  suffices hgo : W p l e rmX7_divisor s m ([.long x0, .long x2] : List Value).toArray below meth c H locs 0 0 Q (F0 m 0 ls []) by rw [hHe, hle] at hgo; exact hgo
  clear hHe hle
  refine lv_lload_n hx hb dX7_divisor_0 rfl (lv_at hl 0 rfl) ?_
  refine lv_lstore (lv' := [(4, .long x0), (0, .long x0), (2, .long x2)]) hx hb dX7_divisor_1 hl (by decide) rfl (fun ls hl => ?_)
  refine lv_lload_n hx hb dX7_divisor_3 rfl (lv_at hl 2 rfl) ?_
  refine lv_lstore (lv' := [(6, .long x2), (4, .long x0), (0, .long x0), (2, .long x2)]) hx hb dX7_divisor_4 hl (by decide) rfl (fun ls hl => ?_)
  exact j6 1000 x0 x2 H locs ls hf hP hD hS (lv_sub hl [1, 0] rfl)
abbrev rmX7_partOf : Room := { frames := 1, cells := 0, slots := 0, locals := 29 }
set_option maxHeartbeats 4000000 in
set_option maxRecDepth 100000 in
theorem c_X7_partOf (l : Launch) (D : va_G) (cI : ClassId) (x0 : Int64) (x2 : Int64) (x4 : Int32) (out : Int64 × Unit) (hf : f_X7_partOf x0 x2 x4 = some out) : Cn E0 l yX7_partOf wsX7_partOf rmX7_partOf D cI [.long x0, .long x2, .int x4] ([]) (some (.long out.1)) ([]) := by
  refine Cn.mk (cc := cX7_partOf) (maxL := 5) (ret := (some .long)) (by decide) rfl (Nat.le_of_ble_eq_true rfl) ?_
  intro p e s m below meth c A ls Q hx hb hml hown hts hK hA hP hD hS hl hr hlk hnm hE hQ
  have hown : s.vm.findClass RX7 = some m.cls := hown
  have j10 : ∀ (l0 : Int64) (l2 : Int64) (s0 : Int64) (H : Heap) (locs : List Loc) (ls : Array Slot), f_X7_partOf_10 l0 l2 s0 = some out → va_P D vwCl ([]) H → va_D A ([]) → va_S A s.heap H locs → lv_has ls 5 [(0, .long l0), (2, .long l2)] → W p l e rmX7_partOf s m ([.long x0, .long x2, .int x4] : List Value).toArray below meth c H locs 0 0 Q (F0 m 10 ls [.long s0]) := by
    intro l0 l2 s0 H locs ls hf hP hD hS hl
    unfold f_X7_partOf_10 at hf
    refine lv_lload_n hx hb dX7_partOf_10 rfl (lv_at hl 0 rfl) ?_
    refine lv_lload_n hx hb dX7_partOf_11 rfl (lv_at hl 1 rfl) ?_
    obtain ⟨r12, u12, h12, hf⟩ := bd_some hf
    refine calX0 (runS E0.b E0.n (As := [.long l0, .long l2]) (rest := [.long s0]) ⟨hx, hb, hml, hown, hts⟩ (c_X7_divisor l D cI l0 l2 _ h12) gX7_partOf_X7_divisor rfl rfl rfl hdX7_divisor ⟨by decide, by decide⟩ hK hP hD rfl hl.1 rfl (Nat.le_of_ble_eq_true rfl) dX7_partOf_12 ⟨Nat.zero_le _, Nat.zero_le _⟩) hD hS hA (fun H locs hP hD hS => ?_)
    have hP : va_P D vwCl ([]) H := hP
    have hD : va_D A ([]) := hD
    refine W.eq (g2 := F0 m 15 ls [.long r12, .long s0]) rfl ?_
    obtain ⟨z15, hf⟩ := nzl_some hf
    refine lv_ldiv hx hb dX7_partOf_15 z15 ?_
    have e := so_some hf
    subst e
    exact rl hx hb hK hr hlk hQ dX7_partOf_16 hP hD hS
  unfold f_X7_partOf at hf
  have hl : lv_has ls 5 [(0, .long x0), (2, .long x2), (4, .int x4)] := hl
  obtain ⟨H, hHe⟩ : ∃ H : Heap, H = s.heap := ⟨_, rfl⟩
  obtain ⟨locs, hle⟩ : ∃ q : List Loc, q = [] := ⟨_, rfl⟩
  have hS : va_S A s.heap H locs := by rw [hHe, hle]; exact hS
  rw [← hHe] at hP
  suffices hgo : W p l e rmX7_partOf s m ([.long x0, .long x2, .int x4] : List Value).toArray below meth c H locs 0 0 Q (F0 m 0 ls []) by rw [hHe, hle] at hgo; exact hgo
  clear hHe hle
  refine lv_iload hx hb dX7_partOf_0 (lv_at hl 2 rfl) ?_
  refine lv_if_ne (tgt := 9) hx hb dX7_partOf_2 (by decide) (fun c2 => ?_) (fun c2 => ?_)
  · replace hf := it_f c2 hf
    refine lv_lload_n hx hb dX7_partOf_9 rfl (lv_at hl 1 rfl) ?_
    exact j10 x0 x2 x2 H locs ls hf hP hD hS (lv_sub hl [0, 1] rfl)
  · replace hf := it_t c2 hf
    refine lv_lload_n hx hb dX7_partOf_5 rfl (lv_at hl 0 rfl) ?_
    refine lv_goto (tgt := 10) hx hb dX7_partOf_6 (by decide) ?_
    exact j10 x0 x2 x0 H locs ls hf hP hD hS (lv_sub hl [0, 1] rfl)
abbrev rmX7_fog : Room := { frames := 3, cells := 0, slots := 0, locals := 68 }
set_option maxHeartbeats 4000000 in
set_option maxRecDepth 100000 in
theorem c_X7_fog (l : Launch) (D : va_G) (cI : ClassId) (o_t : Nat) (a_t : Nat → Nat) (S_t : G) (x1 : Int32) (x2 : Int32) (x3 : Int32) (x4 : Int32) (out : Int64 × G) (hf : f_X7_fog S_t x1 x2 x3 x4 = some out) : Cn E0 l yX7_fog wsX7_fog rmX7_fog D cI [.ref o_t, .int x1, .int x2, .int x3, .int x4] (gX7 o_t a_t cI S_t) (some (.long out.1)) (gX7 o_t a_t cI out.2) := by
  refine Cn.mk (cc := cX7_fog) (maxL := 14) (ret := (some .long)) (by decide) rfl (Nat.le_of_ble_eq_true rfl) ?_
  intro p e s m below meth c A ls Q hx hb hml hown hts hK hA hP hD hS hl hr hlk hnm hE hQ
  have hown : s.vm.findClass RX7 = some m.cls := hown
  have j104 : ∀ (n104 : Nat) (S_t : G) (l1 : Int32) (l2 : Int32) (l3 : Int32) (l4 : Int32) (l6 : Int64) (l8 : Int64) (l10 : Int32) (H : Heap) (locs : List Loc) (ls : Array Slot), f_X7_fog_104 n104 S_t l1 l2 l3 l4 l6 l8 l10 = some out → va_P D vwCl (gX7 o_t a_t cI S_t) H → va_D A (gX7 o_t a_t cI S_t) → va_S A s.heap H locs → lv_has ls 14 [(0, .ref o_t), (1, .int l1), (2, .int l2), (3, .int l3), (4, .int l4), (6, .long l6), (8, .long l8), (10, .int l10)] → W p l e rmX7_fog s m ([.ref o_t, .int x1, .int x2, .int x3, .int x4] : List Value).toArray below meth c H locs 0 0 Q (F0 m 104 ls []) := by
    intro n104
    induction n104 with
    | zero =>
      intro S_t l1 l2 l3 l4 l6 l8 l10 H locs ls hf
      exact no_some hf
    | succ n104 ih104 =>
      have j184 : ∀ (S_t : G) (l1 : Int32) (l2 : Int32) (l3 : Int32) (l4 : Int32) (l8 : Int64) (l10 : Int32) (s0 : Int64) (s1 : Int64) (H : Heap) (locs : List Loc) (ls : Array Slot), f_X7_fog_184 (f_X7_fog_104 n104) S_t l1 l2 l3 l4 l8 l10 s0 s1 = some out → va_P D vwCl (gX7 o_t a_t cI S_t) H → va_D A (gX7 o_t a_t cI S_t) → va_S A s.heap H locs → lv_has ls 14 [(0, .ref o_t), (1, .int l1), (2, .int l2), (3, .int l3), (4, .int l4), (8, .long l8), (10, .int l10)] → W p l e rmX7_fog s m ([.ref o_t, .int x1, .int x2, .int x3, .int x4] : List Value).toArray below meth c H locs 0 0 Q (F0 m 184 ls [.long s1, .long s0]) := by
        intro S_t l1 l2 l3 l4 l8 l10 s0 s1 H locs ls hf hP hD hS hl
        unfold f_X7_fog_184 at hf
        refine lv_ladd hx hb dX7_fog_184 ?_
        refine lv_lstore (lv' := [(6, .long (s0 + s1)), (0, .ref o_t), (1, .int l1), (2, .int l2), (3, .int l3), (4, .int l4), (8, .long l8), (10, .int l10)]) hx hb dX7_fog_185 hl (by decide) rfl (fun ls hl => ?_)
        refine lv_aload_n hx hb dX7_fog_187 rfl (lv_at hl 1 rfl) ?_
        obtain ⟨r188, u188, h188, hf⟩ := bd_some hf
        refine calX0 (runV E0.b E0.n (As := []) (rest := []) ⟨hx, hb, hml, hown, hts⟩ (c_X7_forgets l D cI o_t a_t S_t _ h188) gX7_fog_X7_forgets rfl rfl rfl hdX7_forgets ⟨by decide, by decide⟩ hK hP hD 0 rfl rfl rfl hl.1 rfl (Nat.le_of_ble_eq_true rfl) dX7_fog_188 ⟨Nat.zero_le _, Nat.zero_le _⟩) hD hS hA (fun H locs hP hD hS => ?_)
        have hP : va_P D vwCl (gX7 o_t a_t cI u188) H := hP
        have hD : va_D A (gX7 o_t a_t cI u188) := hD
        refine W.eq (g2 := F0 m 191 ls []) rfl ?_
        refine lv_iinc (v := l10 + (1 : Int32)) (lv' := [(10, .int (l10 + (1 : Int32))), (6, .long (s0 + s1)), (0, .ref o_t), (1, .int l1), (2, .int l2), (3, .int l3), (4, .int l4), (8, .long l8)]) hx hb dX7_fog_191 hl (k := 7) rfl rfl (by decide) rfl (fun ls hl => ?_)
        refine lv_goto (tgt := 104) hx hb dX7_fog_194 (by decide) ?_
        exact ih104 u188 l1 l2 l3 l4 (s0 + s1) l8 (l10 + (1 : Int32)) H locs ls hf hP hD hS (lv_sub hl [2, 3, 4, 5, 6, 1, 7, 0] rfl)
      have j122 : ∀ (n122 : Nat) (S_t : G) (l1 : Int32) (l2 : Int32) (l3 : Int32) (l4 : Int32) (l6 : Int64) (l8 : Int64) (l10 : Int32) (l11 : Int64) (l13 : Int32) (H : Heap) (locs : List Loc) (ls : Array Slot), f_X7_fog_122 (f_X7_fog_104 n104) n122 S_t l1 l2 l3 l4 l6 l8 l10 l11 l13 = some out → va_P D vwCl (gX7 o_t a_t cI S_t) H → va_D A (gX7 o_t a_t cI S_t) → va_S A s.heap H locs → lv_has ls 14 [(0, .ref o_t), (1, .int l1), (2, .int l2), (3, .int l3), (4, .int l4), (6, .long l6), (8, .long l8), (10, .int l10), (11, .long l11), (13, .int l13)] → W p l e rmX7_fog s m ([.ref o_t, .int x1, .int x2, .int x3, .int x4] : List Value).toArray below meth c H locs 0 0 Q (F0 m 122 ls []) := by
        intro n122
        induction n122 with
        | zero =>
          intro S_t l1 l2 l3 l4 l6 l8 l10 l11 l13 H locs ls hf
          exact no_some hf
        | succ n122 ih122 =>
          have j148 : ∀ (S_t : G) (l1 : Int32) (l2 : Int32) (l3 : Int32) (l4 : Int32) (l6 : Int64) (l8 : Int64) (l10 : Int32) (l13 : Int32) (s0 : Int64) (s1 : Int64) (H : Heap) (locs : List Loc) (ls : Array Slot), f_X7_fog_148 (f_X7_fog_104 n104) (f_X7_fog_122 (f_X7_fog_104 n104) n122) S_t l1 l2 l3 l4 l6 l8 l10 l13 s0 s1 = some out → va_P D vwCl (gX7 o_t a_t cI S_t) H → va_D A (gX7 o_t a_t cI S_t) → va_S A s.heap H locs → lv_has ls 14 [(0, .ref o_t), (1, .int l1), (2, .int l2), (3, .int l3), (4, .int l4), (6, .long l6), (8, .long l8), (10, .int l10), (13, .int l13)] → W p l e rmX7_fog s m ([.ref o_t, .int x1, .int x2, .int x3, .int x4] : List Value).toArray below meth c H locs 0 0 Q (F0 m 148 ls [.long s1, .long s0]) := by
            intro S_t l1 l2 l3 l4 l6 l8 l10 l13 s0 s1 H locs ls hf hP hD hS hl
            unfold f_X7_fog_148 at hf
            refine lv_lmul hx hb dX7_fog_148 ?_
            refine lv_lstore (lv' := [(11, .long (s0 * s1)), (0, .ref o_t), (1, .int l1), (2, .int l2), (3, .int l3), (4, .int l4), (6, .long l6), (8, .long l8), (10, .int l10), (13, .int l13)]) hx hb dX7_fog_149 hl (by decide) rfl (fun ls hl => ?_)
            refine lv_aload_n hx hb dX7_fog_151 rfl (lv_at hl 1 rfl) ?_
            refine lv_iload hx hb dX7_fog_152 (lv_at hl 8 rfl) ?_
            refine lv_iload hx hb dX7_fog_154 (lv_at hl 9 rfl) ?_
            obtain ⟨r156, u156, h156, hf⟩ := bd_some hf
            have hPc : va_P D vwCl [] H := hP.sub (ws' := []) [] rfl
            have hDc : va_D A [] := hD.sub (ws' := []) [] (by decide) rfl
            refine calXe (runS E0.b E0.n (As := [.int l10, .int l13]) (rest := [.ref o_t]) ⟨hx, hb, hml, hown, hts⟩ (c_X7_has l D cI l10 l13 _ h156) gX7_fog_X7_has rfl rfl rfl hdX7_has ⟨by decide, by decide⟩ hK hPc hDc rfl hl.1 rfl (Nat.le_of_ble_eq_true rfl) dX7_fog_156 ⟨Nat.zero_le _, Nat.zero_le _⟩) hP hD hS hA (fun H locs hP hD hS => ?_)
            have hP : va_P D vwCl (gX7 o_t a_t cI S_t) H := hP
            have hD : va_D A (gX7 o_t a_t cI S_t) := hD
            refine W.eq (g2 := F0 m 159 ls [.int r156, .ref o_t]) rfl ?_
            obtain ⟨r159, u159, h159, hf⟩ := bd_some hf
            refine calX0 (runV E0.b E0.n (As := [.int r156]) (rest := []) ⟨hx, hb, hml, hown, hts⟩ (c_X7_goesDay l D cI o_t a_t S_t r156 _ h159) gX7_fog_X7_goesDay rfl rfl rfl hdX7_goesDay ⟨by decide, by decide⟩ hK hP hD 0 rfl rfl rfl hl.1 rfl (Nat.le_of_ble_eq_true rfl) dX7_fog_159 ⟨Nat.zero_le _, Nat.zero_le _⟩) hD hS hA (fun H locs hP hD hS => ?_)
            have hP : va_P D vwCl (gX7 o_t a_t cI u159) H := hP
            have hD : va_D A (gX7 o_t a_t cI u159) := hD
            refine W.eq (g2 := F0 m 162 ls []) rfl ?_
            refine lv_iinc (v := l13 + (1 : Int32)) (lv' := [(13, .int (l13 + (1 : Int32))), (11, .long (s0 * s1)), (0, .ref o_t), (1, .int l1), (2, .int l2), (3, .int l3), (4, .int l4), (6, .long l6), (8, .long l8), (10, .int l10)]) hx hb dX7_fog_162 hl (k := 9) rfl rfl (by decide) rfl (fun ls hl => ?_)
            refine lv_goto (tgt := 122) hx hb dX7_fog_165 (by decide) ?_
            exact ih122 u159 l1 l2 l3 l4 l6 l8 l10 (s0 * s1) (l13 + (1 : Int32)) H locs ls hf hP hD hS (lv_sub hl [2, 3, 4, 5, 6, 7, 8, 9, 1, 0] rfl)
          intro S_t l1 l2 l3 l4 l6 l8 l10 l11 l13 H locs ls hf hP hD hS hl
          replace hf : b_X7_fog_122 (f_X7_fog_104 n104) (f_X7_fog_122 (f_X7_fog_104 n104) n122) S_t l1 l2 l3 l4 l6 l8 l10 l11 l13 = some out := hf
          unfold b_X7_fog_122 at hf
          refine lv_iload hx hb dX7_fog_122 (lv_at hl 9 rfl) ?_
          refine lv_iload_n hx hb dX7_fog_124 rfl (lv_at hl 2 rfl) ?_
          refine lv_icmp_ge (tgt := 168) hx hb dX7_fog_125 (by decide) (fun c125 => ?_) (fun c125 => ?_)
          · replace hf := it_t c125 hf
            refine lv_lload hx hb dX7_fog_168 (lv_at hl 5 rfl) ?_
            refine lv_aload_n hx hb dX7_fog_170 rfl (lv_at hl 0 rfl) ?_
            refine lv_iload_n hx hb dX7_fog_171 rfl (lv_at hl 1 rfl) ?_
            obtain ⟨r172, u172, h172, hf⟩ := bd_some hf
            refine calX0 (runV E0.b E0.n (As := [.int l1]) (rest := [.long l6]) ⟨hx, hb, hml, hown, hts⟩ (c_X7_hearers l D cI o_t a_t S_t l1 _ h172) gX7_fog_X7_hearers rfl rfl rfl hdX7_hearers ⟨by decide, by decide⟩ hK hP hD 0 rfl rfl rfl hl.1 rfl (Nat.le_of_ble_eq_true rfl) dX7_fog_172 ⟨Nat.zero_le _, Nat.zero_le _⟩) hD hS hA (fun H locs hP hD hS => ?_)
            have hP : va_P D vwCl (gX7 o_t a_t cI u172) H := hP
            have hD : va_D A (gX7 o_t a_t cI u172) := hD
            refine W.eq (g2 := F0 m 175 ls [.int r172, .long l6]) rfl ?_
            refine lv_if_eq (tgt := 183) hx hb dX7_fog_175 (by decide) (fun c175 => ?_) (fun c175 => ?_)
            · replace hf := it_t c175 hf
              refine lv_lconst (v := (0 : Int64)) hx hb dX7_fog_183 (by decide) ?_
              exact j184 u172 l1 l2 l3 l4 l8 l10 l6 (0 : Int64) H locs ls hf hP hD hS (lv_sub hl [0, 1, 2, 3, 4, 6, 7] rfl)
            · replace hf := it_f c175 hf
              refine lv_lload hx hb dX7_fog_178 (lv_at hl 8 rfl) ?_
              refine lv_goto (tgt := 184) hx hb dX7_fog_180 (by decide) ?_
              exact j184 u172 l1 l2 l3 l4 l8 l10 l6 l11 H locs ls hf hP hD hS (lv_sub hl [0, 1, 2, 3, 4, 6, 7] rfl)
          · replace hf := it_f c125 hf
            refine lv_lload hx hb dX7_fog_128 (lv_at hl 8 rfl) ?_
            refine lv_iload hx hb dX7_fog_130 (lv_at hl 7 rfl) ?_
            refine lv_iload hx hb dX7_fog_132 (lv_at hl 9 rfl) ?_
            obtain ⟨r134, u134, h134, hf⟩ := bd_some hf
            have hPc : va_P D vwCl [] H := hP.sub (ws' := []) [] rfl
            have hDc : va_D A [] := hD.sub (ws' := []) [] (by decide) rfl
            refine calXe (runS E0.b E0.n (As := [.int l10, .int l13]) (rest := [.long l11]) ⟨hx, hb, hml, hown, hts⟩ (c_X7_has l D cI l10 l13 _ h134) gX7_fog_X7_has rfl rfl rfl hdX7_has ⟨by decide, by decide⟩ hK hPc hDc rfl hl.1 rfl (Nat.le_of_ble_eq_true rfl) dX7_fog_134 ⟨Nat.zero_le _, Nat.zero_le _⟩) hP hD hS hA (fun H locs hP hD hS => ?_)
            have hP : va_P D vwCl (gX7 o_t a_t cI S_t) H := hP
            have hD : va_D A (gX7 o_t a_t cI S_t) := hD
            refine W.eq (g2 := F0 m 137 ls [.int r134, .long l11]) rfl ?_
            refine lv_if_eq (tgt := 144) hx hb dX7_fog_137 (by decide) (fun c137 => ?_) (fun c137 => ?_)
            · replace hf := it_t c137 hf
              refine lv_iload_n hx hb dX7_fog_144 rfl (lv_at hl 3 rfl) ?_
              refine lv_iconst (v := (1 : Int32)) hx hb dX7_fog_145 (by decide) ?_
              refine lv_isub hx hb dX7_fog_146 ?_
              refine lv_i2l (v := (l3 - (1 : Int32)).toInt64) hx hb dX7_fog_147 rfl ?_
              exact j148 S_t l1 l2 l3 l4 l6 l8 l10 l13 l11 ((l3 - (1 : Int32)).toInt64) H locs ls hf hP hD hS (lv_sub hl [0, 1, 2, 3, 4, 5, 6, 7, 9] rfl)
            · replace hf := it_f c137 hf
              refine lv_lconst (v := (1 : Int64)) hx hb dX7_fog_140 (by decide) ?_
              refine lv_goto (tgt := 148) hx hb dX7_fog_141 (by decide) ?_
              exact j148 S_t l1 l2 l3 l4 l6 l8 l10 l13 l11 (1 : Int64) H locs ls hf hP hD hS (lv_sub hl [0, 1, 2, 3, 4, 5, 6, 7, 9] rfl)
      intro S_t l1 l2 l3 l4 l6 l8 l10 H locs ls hf hP hD hS hl
      replace hf : b_X7_fog_104 (f_X7_fog_104 n104) S_t l1 l2 l3 l4 l6 l8 l10 = some out := hf
      unfold b_X7_fog_104 at hf
      refine lv_iload hx hb dX7_fog_104 (lv_at hl 7 rfl) ?_
      refine lv_iconst (v := (1 : Int32)) hx hb dX7_fog_106 (by decide) ?_
      refine lv_iload_n hx hb dX7_fog_107 rfl (lv_at hl 2 rfl) ?_
      refine lv_ishl hx hb dX7_fog_108 ?_
      refine lv_icmp_ge (tgt := 197) hx hb dX7_fog_109 (by decide) (fun c109 => ?_) (fun c109 => ?_)
      · replace hf := it_t c109 hf
        refine lv_lload hx hb dX7_fog_197 (lv_at hl 5 rfl) ?_
        refine lv_lload hx hb dX7_fog_199 (lv_at hl 6 rfl) ?_
        refine lv_iload hx hb dX7_fog_201 (lv_at hl 4 rfl) ?_
        obtain ⟨r203, u203, h203, hf⟩ := bd_some hf
        have hPc : va_P D vwCl [] H := hP.sub (ws' := []) [] rfl
        have hDc : va_D A [] := hD.sub (ws' := []) [] (by decide) rfl
        refine calXe (runS E0.b E0.n (As := [.long l6, .long l8, .int l4]) (rest := []) ⟨hx, hb, hml, hown, hts⟩ (c_X7_partOf l D cI l6 l8 l4 _ h203) gX7_fog_X7_partOf rfl rfl rfl hdX7_partOf ⟨by decide, by decide⟩ hK hPc hDc rfl hl.1 rfl (Nat.le_of_ble_eq_true rfl) dX7_fog_203 ⟨Nat.zero_le _, Nat.zero_le _⟩) hP hD hS hA (fun H locs hP hD hS => ?_)
        have hP : va_P D vwCl (gX7 o_t a_t cI S_t) H := hP
        have hD : va_D A (gX7 o_t a_t cI S_t) := hD
        refine W.eq (g2 := F0 m 206 ls [.long r203]) rfl ?_
        have e := so_some hf
        subst e
        exact rl hx hb hK hr hlk hQ dX7_fog_206 hP hD hS
      · replace hf := it_f c109 hf
        refine lv_aload_n hx hb dX7_fog_112 rfl (lv_at hl 0 rfl) ?_
        obtain ⟨r113, u113, h113, hf⟩ := bd_some hf
        refine calX0 (runV E0.b E0.n (As := []) (rest := []) ⟨hx, hb, hml, hown, hts⟩ (c_X7_thinks l D cI o_t a_t S_t _ h113) gX7_fog_X7_thinks rfl rfl rfl hdX7_thinks ⟨by decide, by decide⟩ hK hP hD 0 rfl rfl rfl hl.1 rfl (Nat.le_of_ble_eq_true rfl) dX7_fog_113 ⟨Nat.zero_le _, Nat.zero_le _⟩) hD hS hA (fun H locs hP hD hS => ?_)
        have hP : va_P D vwCl (gX7 o_t a_t cI u113) H := hP
        have hD : va_D A (gX7 o_t a_t cI u113) := hD
        refine W.eq (g2 := F0 m 116 ls []) rfl ?_
        refine lv_lconst (v := (1 : Int64)) hx hb dX7_fog_116 (by decide) ?_
        refine lv_lstore (lv' := [(11, .long (1 : Int64)), (0, .ref o_t), (1, .int l1), (2, .int l2), (3, .int l3), (4, .int l4), (6, .long l6), (8, .long l8), (10, .int l10)]) hx hb dX7_fog_117 hl (by decide) rfl (fun ls hl => ?_)
        refine lv_iconst (v := (0 : Int32)) hx hb dX7_fog_119 (by decide) ?_
        refine lv_istore (lv' := [(13, .int (0 : Int32)), (11, .long (1 : Int64)), (0, .ref o_t), (1, .int l1), (2, .int l2), (3, .int l3), (4, .int l4), (6, .long l6), (8, .long l8), (10, .int l10)]) hx hb dX7_fog_120 hl (by decide) rfl (fun ls hl => ?_)
        exact j122 1000 u113 l1 l2 l3 l4 l6 l8 l10 (1 : Int64) (0 : Int32) H locs ls hf hP hD hS (lv_sub hl [2, 3, 4, 5, 6, 7, 8, 9, 1, 0] rfl)
  have j82 : ∀ (n82 : Nat) (S_t : G) (l1 : Int32) (l2 : Int32) (l3 : Int32) (l4 : Int32) (l6 : Int64) (l8 : Int64) (l10 : Int32) (H : Heap) (locs : List Loc) (ls : Array Slot), f_X7_fog_82 n82 S_t l1 l2 l3 l4 l6 l8 l10 = some out → va_P D vwCl (gX7 o_t a_t cI S_t) H → va_D A (gX7 o_t a_t cI S_t) → va_S A s.heap H locs → lv_has ls 14 [(0, .ref o_t), (1, .int l1), (2, .int l2), (3, .int l3), (4, .int l4), (6, .long l6), (8, .long l8), (10, .int l10)] → W p l e rmX7_fog s m ([.ref o_t, .int x1, .int x2, .int x3, .int x4] : List Value).toArray below meth c H locs 0 0 Q (F0 m 82 ls []) := by
    intro n82
    induction n82 with
    | zero =>
      intro S_t l1 l2 l3 l4 l6 l8 l10 H locs ls hf
      exact no_some hf
    | succ n82 ih82 =>
      intro S_t l1 l2 l3 l4 l6 l8 l10 H locs ls hf hP hD hS hl
      replace hf : b_X7_fog_82 (f_X7_fog_82 n82) S_t l1 l2 l3 l4 l6 l8 l10 = some out := hf
      unfold b_X7_fog_82 at hf
      refine lv_iload hx hb dX7_fog_82 (lv_at hl 7 rfl) ?_
      refine lv_iload_n hx hb dX7_fog_84 rfl (lv_at hl 2 rfl) ?_
      refine lv_icmp_ge (tgt := 101) hx hb dX7_fog_85 (by decide) (fun c85 => ?_) (fun c85 => ?_)
      · replace hf := it_t c85 hf
        refine lv_iconst (v := (0 : Int32)) hx hb dX7_fog_101 (by decide) ?_
        refine lv_istore (lv' := [(10, .int (0 : Int32)), (0, .ref o_t), (1, .int l1), (2, .int l2), (3, .int l3), (4, .int l4), (6, .long l6), (8, .long l8)]) hx hb dX7_fog_102 hl (by decide) rfl (fun ls hl => ?_)
        exact j104 1000 S_t l1 l2 l3 l4 l6 l8 (0 : Int32) H locs ls hf hP hD hS (lv_sub hl [1, 2, 3, 4, 5, 6, 7, 0] rfl)
      · replace hf := it_f c85 hf
        refine lv_lload hx hb dX7_fog_88 (lv_at hl 6 rfl) ?_
        refine lv_iload_n hx hb dX7_fog_90 rfl (lv_at hl 3 rfl) ?_
        refine lv_i2l (v := l3.toInt64) hx hb dX7_fog_91 rfl ?_
        refine lv_lmul hx hb dX7_fog_92 ?_
        refine lv_lstore (lv' := [(8, .long (l8 * l3.toInt64)), (0, .ref o_t), (1, .int l1), (2, .int l2), (3, .int l3), (4, .int l4), (6, .long l6), (10, .int l10)]) hx hb dX7_fog_93 hl (by decide) rfl (fun ls hl => ?_)
        refine lv_iinc (v := l10 + (1 : Int32)) (lv' := [(10, .int (l10 + (1 : Int32))), (8, .long (l8 * l3.toInt64)), (0, .ref o_t), (1, .int l1), (2, .int l2), (3, .int l3), (4, .int l4), (6, .long l6)]) hx hb dX7_fog_95 hl (k := 7) rfl rfl (by decide) rfl (fun ls hl => ?_)
        refine lv_goto (tgt := 82) hx hb dX7_fog_98 (by decide) ?_
        exact ih82 S_t l1 l2 l3 l4 l6 (l8 * l3.toInt64) (l10 + (1 : Int32)) H locs ls hf hP hD hS (lv_sub hl [2, 3, 4, 5, 6, 7, 1, 0] rfl)
  have j59 : ∀ (S_t : G) (l1 : Int32) (l2 : Int32) (l3 : Int32) (l4 : Int32) (s0 : Int32) (H : Heap) (locs : List Loc) (ls : Array Slot), f_X7_fog_59 S_t l1 l2 l3 l4 s0 = some out → va_P D vwCl (gX7 o_t a_t cI S_t) H → va_D A (gX7 o_t a_t cI S_t) → va_S A s.heap H locs → lv_has ls 14 [(0, .ref o_t), (1, .int l1), (2, .int l2), (3, .int l3), (4, .int l4)] → W p l e rmX7_fog s m ([.ref o_t, .int x1, .int x2, .int x3, .int x4] : List Value).toArray below meth c H locs 0 0 Q (F0 m 59 ls [.int s0]) := by
    intro S_t l1 l2 l3 l4 s0 H locs ls hf hP hD hS hl
    unfold f_X7_fog_59 at hf
    refine lv_istore (lv' := [(5, .int s0), (0, .ref o_t), (1, .int l1), (2, .int l2), (3, .int l3), (4, .int l4)]) hx hb dX7_fog_59 hl (by decide) rfl (fun ls hl => ?_)
    refine lv_iload hx hb dX7_fog_61 (lv_at hl 0 rfl) ?_
    refine lv_if_eq (tgt := 73) hx hb dX7_fog_63 (by decide) (fun c63 => ?_) (fun c63 => ?_)
    · replace hf := it_t c63 hf
      refine lv_lconst (v := (0 : Int64)) hx hb dX7_fog_73 (by decide) ?_
      refine lv_lstore (lv' := [(6, .long (0 : Int64)), (5, .int s0), (0, .ref o_t), (1, .int l1), (2, .int l2), (3, .int l3), (4, .int l4)]) hx hb dX7_fog_74 hl (by decide) rfl (fun ls hl => ?_)
      refine lv_lconst (v := (1 : Int64)) hx hb dX7_fog_76 (by decide) ?_
      refine lv_lstore (lv' := [(8, .long (1 : Int64)), (6, .long (0 : Int64)), (5, .int s0), (0, .ref o_t), (1, .int l1), (2, .int l2), (3, .int l3), (4, .int l4)]) hx hb dX7_fog_77 hl (by decide) rfl (fun ls hl => ?_)
      refine lv_iconst (v := (0 : Int32)) hx hb dX7_fog_79 (by decide) ?_
      refine lv_istore (lv' := [(10, .int (0 : Int32)), (8, .long (1 : Int64)), (6, .long (0 : Int64)), (5, .int s0), (0, .ref o_t), (1, .int l1), (2, .int l2), (3, .int l3), (4, .int l4)]) hx hb dX7_fog_80 hl (by decide) rfl (fun ls hl => ?_)
      exact j82 1000 S_t l1 l2 l3 l4 (0 : Int64) (1 : Int64) (0 : Int32) H locs ls hf hP hD hS (lv_sub hl [4, 5, 6, 7, 8, 2, 1, 0] rfl)
    · replace hf := it_f c63 hf
      refine lv_aload_n hx hb dX7_fog_66 rfl (lv_at hl 1 rfl) ?_
      refine lv_iload hx hb dX7_fog_67 (lv_at hl 0 rfl) ?_
      obtain ⟨r69, u69, h69, hf⟩ := bd_some hf
      refine calX0 (runV E0.b E0.n (As := [.int s0]) (rest := []) ⟨hx, hb, hml, hown, hts⟩ (c_X7_lowest l D cI o_t a_t S_t s0 _ h69) gX7_fog_X7_lowest rfl rfl rfl hdX7_lowest ⟨by decide, by decide⟩ hK hP hD 0 rfl rfl rfl hl.1 rfl (Nat.le_of_ble_eq_true rfl) dX7_fog_69 ⟨Nat.zero_le _, Nat.zero_le _⟩) hD hS hA (fun H locs hP hD hS => ?_)
      have hP : va_P D vwCl (gX7 o_t a_t cI u69) H := hP
      have hD : va_D A (gX7 o_t a_t cI u69) := hD
      refine W.eq (g2 := F0 m 72 ls [.long r69]) rfl ?_
      have e := so_some hf
      subst e
      exact rl hx hb hK hr hlk hQ dX7_fog_72 hP hD hS
  have j38 : ∀ (S_t : G) (l1 : Int32) (l2 : Int32) (l3 : Int32) (l4 : Int32) (H : Heap) (locs : List Loc) (ls : Array Slot), f_X7_fog_38 S_t l1 l2 l3 l4 = some out → va_P D vwCl (gX7 o_t a_t cI S_t) H → va_D A (gX7 o_t a_t cI S_t) → va_S A s.heap H locs → lv_has ls 14 [(0, .ref o_t), (1, .int l1), (2, .int l2), (3, .int l3), (4, .int l4)] → W p l e rmX7_fog s m ([.ref o_t, .int x1, .int x2, .int x3, .int x4] : List Value).toArray below meth c H locs 0 0 Q (F0 m 38 ls []) := by
    intro S_t l1 l2 l3 l4 H locs ls hf hP hD hS hl
    unfold f_X7_fog_38 at hf
    refine lv_bipush (v := (-6 : Int32)) hx hb dX7_fog_38 (by decide) ?_
    refine lv_goto (tgt := 59) hx hb dX7_fog_40 (by decide) ?_
    exact j59 S_t l1 l2 l3 l4 (-6 : Int32) H locs ls hf hP hD hS (lv_sub hl [0, 1, 2, 3, 4] rfl)
  have j21 : ∀ (S_t : G) (l1 : Int32) (l2 : Int32) (l3 : Int32) (l4 : Int32) (H : Heap) (locs : List Loc) (ls : Array Slot), f_X7_fog_21 S_t l1 l2 l3 l4 = some out → va_P D vwCl (gX7 o_t a_t cI S_t) H → va_D A (gX7 o_t a_t cI S_t) → va_S A s.heap H locs → lv_has ls 14 [(0, .ref o_t), (1, .int l1), (2, .int l2), (3, .int l3), (4, .int l4)] → W p l e rmX7_fog s m ([.ref o_t, .int x1, .int x2, .int x3, .int x4] : List Value).toArray below meth c H locs 0 0 Q (F0 m 21 ls []) := by
    intro S_t l1 l2 l3 l4 H locs ls hf hP hD hS hl
    unfold f_X7_fog_21 at hf
    refine lv_bipush (v := (-4 : Int32)) hx hb dX7_fog_21 (by decide) ?_
    refine lv_goto (tgt := 59) hx hb dX7_fog_23 (by decide) ?_
    exact j59 S_t l1 l2 l3 l4 (-4 : Int32) H locs ls hf hP hD hS (lv_sub hl [0, 1, 2, 3, 4] rfl)
  unfold f_X7_fog at hf
  have hl : lv_has ls 14 [(0, .ref o_t), (1, .int x1), (2, .int x2), (3, .int x3), (4, .int x4)] := hl
  obtain ⟨H, hHe⟩ : ∃ H : Heap, H = s.heap := ⟨_, rfl⟩
  obtain ⟨locs, hle⟩ : ∃ q : List Loc, q = [] := ⟨_, rfl⟩
  have hS : va_S A s.heap H locs := by rw [hHe, hle]; exact hS
  rw [← hHe] at hP
  suffices hgo : W p l e rmX7_fog s m ([.ref o_t, .int x1, .int x2, .int x3, .int x4] : List Value).toArray below meth c H locs 0 0 Q (F0 m 0 ls []) by rw [hHe, hle] at hgo; exact hgo
  clear hHe hle
  refine lv_aload_n hx hb dX7_fog_0 rfl (lv_at hl 0 rfl) ?_
  refine lv_iload_n hx hb dX7_fog_1 rfl (lv_at hl 1 rfl) ?_
  obtain ⟨r2, u2, h2, hf⟩ := bd_some hf
  refine calX0 (runV E0.b E0.n (As := [.int x1]) (rest := []) ⟨hx, hb, hml, hown, hts⟩ (c_X7_isBell l D cI o_t a_t S_t x1 _ h2) gX7_fog_X7_isBell rfl rfl rfl hdX7_isBell ⟨by decide, by decide⟩ hK hP hD 0 rfl rfl rfl hl.1 rfl (Nat.le_of_ble_eq_true rfl) dX7_fog_2 ⟨Nat.zero_le _, Nat.zero_le _⟩) hD hS hA (fun H locs hP hD hS => ?_)
  have hP : va_P D vwCl (gX7 o_t a_t cI u2) H := hP
  have hD : va_D A (gX7 o_t a_t cI u2) := hD
  refine W.eq (g2 := F0 m 5 ls [.int r2]) rfl ?_
  refine lv_if_ne (tgt := 12) hx hb dX7_fog_5 (by decide) (fun c5 => ?_) (fun c5 => ?_)
  · replace hf := it_f c5 hf
    refine lv_iload_n hx hb dX7_fog_12 rfl (lv_at hl 2 rfl) ?_
    refine lv_if_lt (tgt := 21) hx hb dX7_fog_13 (by decide) (fun c13 => ?_) (fun c13 => ?_)
    · replace hf := it_t c13 hf
      exact j21 u2 x1 x2 x3 x4 H locs ls hf hP hD hS (lv_sub hl [0, 1, 2, 3, 4] rfl)
    · replace hf := it_f c13 hf
      refine lv_iload_n hx hb dX7_fog_16 rfl (lv_at hl 3 rfl) ?_
      refine lv_iconst (v := (2 : Int32)) hx hb dX7_fog_17 (by decide) ?_
      refine lv_icmp_ge (tgt := 26) hx hb dX7_fog_18 (by decide) (fun c18 => ?_) (fun c18 => ?_)
      · replace hf := it_t c18 hf
        refine lv_iload_n hx hb dX7_fog_26 rfl (lv_at hl 2 rfl) ?_
        refine lv_bipush (v := (7 : Int32)) hx hb dX7_fog_27 (by decide) ?_
        refine lv_icmp_gt (tgt := 38) hx hb dX7_fog_29 (by decide) (fun c29 => ?_) (fun c29 => ?_)
        · replace hf := it_t c29 hf
          exact j38 u2 x1 x2 x3 x4 H locs ls hf hP hD hS (lv_sub hl [0, 1, 2, 3, 4] rfl)
        · replace hf := it_f c29 hf
          refine lv_iload_n hx hb dX7_fog_32 rfl (lv_at hl 3 rfl) ?_
          refine lv_bipush (v := (20 : Int32)) hx hb dX7_fog_33 (by decide) ?_
          refine lv_icmp_le (tgt := 43) hx hb dX7_fog_35 (by decide) (fun c35 => ?_) (fun c35 => ?_)
          · replace hf := it_t c35 hf
            refine lv_iload hx hb dX7_fog_43 (lv_at hl 4 rfl) ?_
            refine lv_iconst (v := (0 : Int32)) hx hb dX7_fog_45 (by decide) ?_
            refine lv_iconst (v := (1 : Int32)) hx hb dX7_fog_46 (by decide) ?_
            obtain ⟨r47, u47, h47, hf⟩ := bd_some hf
            have hPc : va_P D vwCl [] H := hP.sub (ws' := []) [] rfl
            have hDc : va_D A [] := hD.sub (ws' := []) [] (by decide) rfl
            refine calXe (runS E0.b E0.n (As := [.int x4, .int (0 : Int32), .int (1 : Int32)]) (rest := []) ⟨hx, hb, hml, hown, hts⟩ (c_X7_isIn l D cI x4 (0 : Int32) (1 : Int32) _ h47) gX7_fog_X7_isIn rfl rfl rfl hdX7_isIn ⟨by decide, by decide⟩ hK hPc hDc rfl hl.1 rfl (Nat.le_of_ble_eq_true rfl) dX7_fog_47 ⟨Nat.zero_le _, Nat.zero_le _⟩) hP hD hS hA (fun H locs hP hD hS => ?_)
            have hP : va_P D vwCl (gX7 o_t a_t cI u2) H := hP
            have hD : va_D A (gX7 o_t a_t cI u2) := hD
            refine W.eq (g2 := F0 m 50 ls [.int r47]) rfl ?_
            refine lv_if_ne (tgt := 58) hx hb dX7_fog_50 (by decide) (fun c50 => ?_) (fun c50 => ?_)
            · replace hf := it_f c50 hf
              refine lv_iconst (v := (0 : Int32)) hx hb dX7_fog_58 (by decide) ?_
              exact j59 u2 x1 x2 x3 x4 (0 : Int32) H locs ls hf hP hD hS (lv_sub hl [0, 1, 2, 3, 4] rfl)
            · replace hf := it_t c50 hf
              refine lv_bipush (v := (-2 : Int32)) hx hb dX7_fog_53 (by decide) ?_
              refine lv_goto (tgt := 59) hx hb dX7_fog_55 (by decide) ?_
              exact j59 u2 x1 x2 x3 x4 (-2 : Int32) H locs ls hf hP hD hS (lv_sub hl [0, 1, 2, 3, 4] rfl)
          · replace hf := it_f c35 hf
            exact j38 u2 x1 x2 x3 x4 H locs ls hf hP hD hS (lv_sub hl [0, 1, 2, 3, 4] rfl)
      · replace hf := it_f c18 hf
        exact j21 u2 x1 x2 x3 x4 H locs ls hf hP hD hS (lv_sub hl [0, 1, 2, 3, 4] rfl)
  · replace hf := it_t c5 hf
    refine lv_iconst (v := (-1 : Int32)) hx hb dX7_fog_8 (by decide) ?_
    refine lv_goto (tgt := 59) hx hb dX7_fog_9 (by decide) ?_
    exact j59 u2 x1 x2 x3 x4 (-1 : Int32) H locs ls hf hP hD hS (lv_sub hl [0, 1, 2, 3, 4] rfl)
abbrev rmX7_allSlept : Room := { frames := 0, cells := 0, slots := 0, locals := 0 }
set_option maxHeartbeats 4000000 in
set_option maxRecDepth 100000 in
theorem c_X7_allSlept (l : Launch) (D : va_G) (cI : ClassId) (o_t : Nat) (a_t : Nat → Nat) (S_t : G) (out : Int32 × G) (hf : f_X7_allSlept S_t = some out) : Cn E0 l yX7_allSlept wsX7_allSlept rmX7_allSlept D cI [.ref o_t] (gX7 o_t a_t cI S_t) (some (.int out.1)) (gX7 o_t a_t cI out.2) := by
  refine Cn.mk (cc := cX7_allSlept) (maxL := 3) (ret := (some .int)) (by decide) rfl (Nat.le_of_ble_eq_true rfl) ?_
  intro p e s m below meth c A ls Q hx hb hml hown hts hK hA hP hD hS hl hr hlk hnm hE hQ
  have hown : s.vm.findClass RX7 = some m.cls := hown
  have hinX7 : ∀ w ∈ u_ws RX7 TX7 26, w ∈ wsX7_allSlept := by decide +kernel
  have j4 : ∀ (n4 : Nat) (S_t : G) (l1 : Int32) (l2 : Int32) (H : Heap) (locs : List Loc) (ls : Array Slot), f_X7_allSlept_4 n4 S_t l1 l2 = some out → va_P D vwCl (gX7 o_t a_t cI S_t) H → va_D A (gX7 o_t a_t cI S_t) → va_S A s.heap H locs → lv_has ls 3 [(0, .ref o_t), (1, .int l1), (2, .int l2)] → W p l e rmX7_allSlept s m ([.ref o_t] : List Value).toArray below meth c H locs 0 0 Q (F0 m 4 ls []) := by
    intro n4
    induction n4 with
    | zero =>
      intro S_t l1 l2 H locs ls hf
      exact no_some hf
    | succ n4 ih4 =>
      intro S_t l1 l2 H locs ls hf hP hD hS hl
      replace hf : b_X7_allSlept_4 (f_X7_allSlept_4 n4) S_t l1 l2 = some out := hf
      unfold b_X7_allSlept_4 at hf
      refine lv_iload_n hx hb dX7_allSlept_4 rfl (lv_at hl 2 rfl) ?_
      refine lv_aload_n hx hb dX7_allSlept_5 rfl (lv_at hl 0 rfl) ?_
      refine va_get (D := D) (ci := 7) (v := .int (S_t.1 8)) (C := RX7) (T := TX7) (N := 26) hx hb hts hinX7 hown hK hP 0 rfl rfl 8 (by decide) (hts (.fieldLink RX7 65 "OnlyStrangersHearModel" "people" "I") (by decide +kernel)) (fun _ h9 => h9) rfl dX7_allSlept_6 ?_
      refine lv_icmp_ge (tgt := 27) hx hb dX7_allSlept_9 (by decide) (fun c9 => ?_) (fun c9 => ?_)
      · replace hf := it_t c9 hf
        refine lv_iload_n hx hb dX7_allSlept_27 rfl (lv_at hl 1 rfl) ?_
        have e := so_some hf
        subst e
        exact ri hx hb hK hr hlk hQ dX7_allSlept_28 hP hD hS
      · replace hf := it_f c9 hf
        refine lv_iload_n hx hb dX7_allSlept_12 rfl (lv_at hl 1 rfl) ?_
        refine lv_aload_n hx hb dX7_allSlept_13 rfl (lv_at hl 0 rfl) ?_
        refine va_get (D := D) (ci := 7) (v := .ref (a_t 5)) (C := RX7) (T := TX7) (N := 26) hx hb hts hinX7 hown hK hP 0 rfl rfl 5 (by decide) (hts (.fieldLink RX7 25 "OnlyStrangersHearModel" "slept" "[I") (by decide +kernel)) (fun _ h9 => h9) rfl dX7_allSlept_14 ?_
        refine lv_iload_n hx hb dX7_allSlept_17 rfl (lv_at hl 2 rfl) ?_
        obtain ⟨b18, hf⟩ := ck_some hf
        refine va_iald hx hb hK hP 6 0 rfl rfl b18 dX7_allSlept_18 ?_
        refine lv_iadd hx hb dX7_allSlept_19 ?_
        refine lv_topi (fun v20 e20 => ?_)
        replace hf := lt_at e20 hf
        refine lv_istore_n (lv' := [(1, .int v20), (0, .ref o_t), (2, .int l2)]) hx hb dX7_allSlept_20 rfl hl (by decide) rfl (fun ls hl => ?_)
        refine lv_iinc (v := l2 + (1 : Int32)) (lv' := [(2, .int (l2 + (1 : Int32))), (1, .int v20), (0, .ref o_t)]) hx hb dX7_allSlept_21 hl (k := 2) rfl rfl (by decide) rfl (fun ls hl => ?_)
        refine lv_goto (tgt := 4) hx hb dX7_allSlept_24 (by decide) ?_
        exact ih4 S_t v20 (l2 + (1 : Int32)) H locs ls hf hP hD hS (lv_sub hl [2, 1, 0] rfl)
  unfold f_X7_allSlept at hf
  have hl : lv_has ls 3 [(0, .ref o_t)] := hl
  obtain ⟨H, hHe⟩ : ∃ H : Heap, H = s.heap := ⟨_, rfl⟩
  obtain ⟨locs, hle⟩ : ∃ q : List Loc, q = [] := ⟨_, rfl⟩
  have hS : va_S A s.heap H locs := by rw [hHe, hle]; exact hS
  rw [← hHe] at hP
  suffices hgo : W p l e rmX7_allSlept s m ([.ref o_t] : List Value).toArray below meth c H locs 0 0 Q (F0 m 0 ls []) by rw [hHe, hle] at hgo; exact hgo
  clear hHe hle
  refine lv_iconst (v := (0 : Int32)) hx hb dX7_allSlept_0 (by decide) ?_
  refine lv_istore_n (lv' := [(1, .int (0 : Int32)), (0, .ref o_t)]) hx hb dX7_allSlept_1 rfl hl (by decide) rfl (fun ls hl => ?_)
  refine lv_iconst (v := (0 : Int32)) hx hb dX7_allSlept_2 (by decide) ?_
  refine lv_istore_n (lv' := [(2, .int (0 : Int32)), (1, .int (0 : Int32)), (0, .ref o_t)]) hx hb dX7_allSlept_3 rfl hl (by decide) rfl (fun ls hl => ?_)
  exact j4 1000 S_t (0 : Int32) (0 : Int32) H locs ls hf hP hD hS (lv_sub hl [2, 1, 0] rfl)
abbrev rmX7_mean : Room := { frames := 2, cells := 0, slots := 0, locals := 53 }
set_option maxHeartbeats 4000000 in
set_option maxRecDepth 100000 in
theorem c_X7_mean (l : Launch) (D : va_G) (cI : ClassId) (o_t : Nat) (a_t : Nat → Nat) (S_t : G) (x1 : Int32) (out : Int64 × G) (hf : f_X7_mean S_t x1 = some out) : Cn E0 l yX7_mean wsX7_mean rmX7_mean D cI [.ref o_t, .int x1] (gX7 o_t a_t cI S_t) (some (.long out.1)) (gX7 o_t a_t cI out.2) := by
  refine Cn.mk (cc := cX7_mean) (maxL := 2) (ret := (some .long)) (by decide) rfl (Nat.le_of_ble_eq_true rfl) ?_
  intro p e s m below meth c A ls Q hx hb hml hown hts hK hA hP hD hS hl hr hlk hnm hE hQ
  have hown : s.vm.findClass RX7 = some m.cls := hown
  have hinX7 : ∀ w ∈ u_ws RX7 TX7 26, w ∈ wsX7_mean := by decide +kernel
  unfold f_X7_mean at hf
  have hl : lv_has ls 2 [(0, .ref o_t), (1, .int x1)] := hl
  obtain ⟨H, hHe⟩ : ∃ H : Heap, H = s.heap := ⟨_, rfl⟩
  obtain ⟨locs, hle⟩ : ∃ q : List Loc, q = [] := ⟨_, rfl⟩
  have hS : va_S A s.heap H locs := by rw [hHe, hle]; exact hS
  rw [← hHe] at hP
  suffices hgo : W p l e rmX7_mean s m ([.ref o_t, .int x1] : List Value).toArray below meth c H locs 0 0 Q (F0 m 0 ls []) by rw [hHe, hle] at hgo; exact hgo
  clear hHe hle
  refine lv_iload_n hx hb dX7_mean_0 rfl (lv_at hl 1 rfl) ?_
  refine lv_iconst (v := (0 : Int32)) hx hb dX7_mean_1 (by decide) ?_
  refine lv_iconst (v := (1 : Int32)) hx hb dX7_mean_2 (by decide) ?_
  obtain ⟨r3, u3, h3, hf⟩ := bd_some hf
  have hPc : va_P D vwCl [] H := hP.sub (ws' := []) [] rfl
  have hDc : va_D A [] := hD.sub (ws' := []) [] (by decide) rfl
  refine calXe (runS E0.b E0.n (As := [.int x1, .int (0 : Int32), .int (1 : Int32)]) (rest := []) ⟨hx, hb, hml, hown, hts⟩ (c_X7_isIn l D cI x1 (0 : Int32) (1 : Int32) _ h3) gX7_mean_X7_isIn rfl rfl rfl hdX7_isIn ⟨by decide, by decide⟩ hK hPc hDc rfl hl.1 rfl (Nat.le_of_ble_eq_true rfl) dX7_mean_3 ⟨Nat.zero_le _, Nat.zero_le _⟩) hP hD hS hA (fun H locs hP hD hS => ?_)
  have hP : va_P D vwCl (gX7 o_t a_t cI S_t) H := hP
  have hD : va_D A (gX7 o_t a_t cI S_t) := hD
  refine W.eq (g2 := F0 m 6 ls [.int r3]) rfl ?_
  refine lv_if_ne (tgt := 16) hx hb dX7_mean_6 (by decide) (fun c6 => ?_) (fun c6 => ?_)
  · replace hf := it_f c6 hf
    refine lv_aload_n hx hb dX7_mean_16 rfl (lv_at hl 0 rfl) ?_
    refine va_get (D := D) (ci := 7) (v := .int (S_t.1 8)) (C := RX7) (T := TX7) (N := 26) hx hb hts hinX7 hown hK hP 0 rfl rfl 8 (by decide) (hts (.fieldLink RX7 65 "OnlyStrangersHearModel" "people" "I") (by decide +kernel)) (fun _ h9 => h9) rfl dX7_mean_17 ?_
    refine lv_if_ne (tgt := 28) hx hb dX7_mean_20 (by decide) (fun c20 => ?_) (fun c20 => ?_)
    · replace hf := it_f c20 hf
      refine lv_aload_n hx hb dX7_mean_28 rfl (lv_at hl 0 rfl) ?_
      obtain ⟨r29, u29, h29, hf⟩ := bd_some hf
      refine calX0 (runV E0.b E0.n (As := []) (rest := []) ⟨hx, hb, hml, hown, hts⟩ (c_X7_allSlept l D cI o_t a_t S_t _ h29) gX7_mean_X7_allSlept rfl rfl rfl hdX7_allSlept ⟨by decide, by decide⟩ hK hP hD 0 rfl rfl rfl hl.1 rfl (Nat.le_of_ble_eq_true rfl) dX7_mean_29 ⟨Nat.zero_le _, Nat.zero_le _⟩) hD hS hA (fun H locs hP hD hS => ?_)
      have hP : va_P D vwCl (gX7 o_t a_t cI u29) H := hP
      have hD : va_D A (gX7 o_t a_t cI u29) := hD
      refine W.eq (g2 := F0 m 32 ls [.int r29]) rfl ?_
      refine lv_i2l (v := r29.toInt64) hx hb dX7_mean_32 rfl ?_
      refine lv_aload_n hx hb dX7_mean_33 rfl (lv_at hl 0 rfl) ?_
      refine va_get (D := D) (ci := 7) (v := .int (u29.1 8)) (C := RX7) (T := TX7) (N := 26) hx hb hts hinX7 hown hK hP 0 rfl rfl 8 (by decide) (hts (.fieldLink RX7 65 "OnlyStrangersHearModel" "people" "I") (by decide +kernel)) (fun _ h9 => h9) rfl dX7_mean_34 ?_
      refine lv_i2l (v := (u29.1 8).toInt64) hx hb dX7_mean_37 rfl ?_
      refine lv_iload_n hx hb dX7_mean_38 rfl (lv_at hl 1 rfl) ?_
      obtain ⟨r39, u39, h39, hf⟩ := bd_some hf
      have hPc : va_P D vwCl [] H := hP.sub (ws' := []) [] rfl
      have hDc : va_D A [] := hD.sub (ws' := []) [] (by decide) rfl
      refine calXe (runS E0.b E0.n (As := [.long r29.toInt64, .long ((u29.1 8).toInt64), .int x1]) (rest := []) ⟨hx, hb, hml, hown, hts⟩ (c_X7_partOf l D cI r29.toInt64 ((u29.1 8).toInt64) x1 _ h39) gX7_mean_X7_partOf rfl rfl rfl hdX7_partOf ⟨by decide, by decide⟩ hK hPc hDc rfl hl.1 rfl (Nat.le_of_ble_eq_true rfl) dX7_mean_39 ⟨Nat.zero_le _, Nat.zero_le _⟩) hP hD hS hA (fun H locs hP hD hS => ?_)
      have hP : va_P D vwCl (gX7 o_t a_t cI u29) H := hP
      have hD : va_D A (gX7 o_t a_t cI u29) := hD
      refine W.eq (g2 := F0 m 42 ls [.long r39]) rfl ?_
      have e := so_some hf
      subst e
      exact rl hx hb hK hr hlk hQ dX7_mean_42 hP hD hS
    · replace hf := it_t c20 hf
      refine lv_iload_n hx hb dX7_mean_23 rfl (lv_at hl 1 rfl) ?_
      refine lv_i2l (v := x1.toInt64) hx hb dX7_mean_24 rfl ?_
      refine lv_goto (tgt := 42) hx hb dX7_mean_25 (by decide) ?_
      have e := so_some hf
      subst e
      exact rl hx hb hK hr hlk hQ dX7_mean_42 hP hD hS
  · replace hf := it_t c6 hf
    refine lv_aload_n hx hb dX7_mean_9 rfl (lv_at hl 0 rfl) ?_
    refine lv_bipush (v := (-2 : Int32)) hx hb dX7_mean_10 (by decide) ?_
    obtain ⟨r12, u12, h12, hf⟩ := bd_some hf
    refine calX0 (runV E0.b E0.n (As := [.int (-2 : Int32)]) (rest := []) ⟨hx, hb, hml, hown, hts⟩ (c_X7_lowest l D cI o_t a_t S_t (-2 : Int32) _ h12) gX7_mean_X7_lowest rfl rfl rfl hdX7_lowest ⟨by decide, by decide⟩ hK hP hD 0 rfl rfl rfl hl.1 rfl (Nat.le_of_ble_eq_true rfl) dX7_mean_12 ⟨Nat.zero_le _, Nat.zero_le _⟩) hD hS hA (fun H locs hP hD hS => ?_)
    have hP : va_P D vwCl (gX7 o_t a_t cI u12) H := hP
    have hD : va_D A (gX7 o_t a_t cI u12) := hD
    refine W.eq (g2 := F0 m 15 ls [.long r12]) rfl ?_
    have e := so_some hf
    subst e
    exact rl hx hb hK hr hlk hQ dX7_mean_15 hP hD hS
abbrev rmX7_isSo : Room := { frames := 3, cells := 0, slots := 0, locals := 68 }
set_option maxHeartbeats 4000000 in
set_option maxRecDepth 100000 in
theorem c_X7_isSo (l : Launch) (D : va_G) (cI : ClassId) (o_t : Nat) (a_t : Nat → Nat) (S_t : G) (x1 : Int32) (x2 : Int32) (out : Int32 × G) (hf : f_X7_isSo S_t x1 x2 = some out) : Cn E0 l yX7_isSo wsX7_isSo rmX7_isSo D cI [.ref o_t, .int x1, .int x2] (gX7 o_t a_t cI S_t) (some (.int out.1)) (gX7 o_t a_t cI out.2) := by
  refine Cn.mk (cc := cX7_isSo) (maxL := 5) (ret := (some .boolean)) (by decide) rfl (Nat.le_of_ble_eq_true rfl) ?_
  intro p e s m below meth c A ls Q hx hb hml hown hts hK hA hP hD hS hl hr hlk hnm hE hQ
  have hown : s.vm.findClass RX7 = some m.cls := hown
  have hinX7 : ∀ w ∈ u_ws RX7 TX7 26, w ∈ wsX7_isSo := by decide +kernel
  have j69 : ∀ (S_t : G) (l3 : Int32) (H : Heap) (locs : List Loc) (ls : Array Slot), f_X7_isSo_69 S_t l3 = some out → va_P D vwCl (gX7 o_t a_t cI S_t) H → va_D A (gX7 o_t a_t cI S_t) → va_S A s.heap H locs → lv_has ls 5 [(0, .ref o_t), (3, .int l3)] → W p l e rmX7_isSo s m ([.ref o_t, .int x1, .int x2] : List Value).toArray below meth c H locs 0 0 Q (F0 m 69 ls []) := by
    intro S_t l3 H locs ls hf hP hD hS hl
    unfold f_X7_isSo_69 at hf
    refine lv_aload_n hx hb dX7_isSo_69 rfl (lv_at hl 0 rfl) ?_
    obtain ⟨r70, u70, h70, hf⟩ := bd_some hf
    refine calX0 (runV E0.b E0.n (As := []) (rest := []) ⟨hx, hb, hml, hown, hts⟩ (c_X7_forgets l D cI o_t a_t S_t _ h70) gX7_isSo_X7_forgets rfl rfl rfl hdX7_forgets ⟨by decide, by decide⟩ hK hP hD 0 rfl rfl rfl hl.1 rfl (Nat.le_of_ble_eq_true rfl) dX7_isSo_70 ⟨Nat.zero_le _, Nat.zero_le _⟩) hD hS hA (fun H locs hP hD hS => ?_)
    have hP : va_P D vwCl (gX7 o_t a_t cI u70) H := hP
    have hD : va_D A (gX7 o_t a_t cI u70) := hD
    refine W.eq (g2 := F0 m 73 ls []) rfl ?_
    refine lv_iload_n hx hb dX7_isSo_73 rfl (lv_at hl 1 rfl) ?_
    obtain ⟨z74, hf⟩ := zb_some hf
    have e := so_some hf
    subst e
    exact rz hx hb hK hr hlk z74 hQ dX7_isSo_74 hP hD hS
  have j9 : ∀ (n9 : Nat) (S_t : G) (l1 : Int32) (l2 : Int32) (l3 : Int32) (l4 : Int32) (H : Heap) (locs : List Loc) (ls : Array Slot), f_X7_isSo_9 n9 S_t l1 l2 l3 l4 = some out → va_P D vwCl (gX7 o_t a_t cI S_t) H → va_D A (gX7 o_t a_t cI S_t) → va_S A s.heap H locs → lv_has ls 5 [(0, .ref o_t), (1, .int l1), (2, .int l2), (3, .int l3), (4, .int l4)] → W p l e rmX7_isSo s m ([.ref o_t, .int x1, .int x2] : List Value).toArray below meth c H locs 0 0 Q (F0 m 9 ls []) := by
    intro n9
    induction n9 with
    | zero =>
      intro S_t l1 l2 l3 l4 H locs ls hf
      exact no_some hf
    | succ n9 ih9 =>
      have j57 : ∀ (S_t : G) (l1 : Int32) (l2 : Int32) (l4 : Int32) (s0 : Int32) (H : Heap) (locs : List Loc) (ls : Array Slot), f_X7_isSo_57 (f_X7_isSo_9 n9) S_t l1 l2 l4 s0 = some out → va_P D vwCl (gX7 o_t a_t cI S_t) H → va_D A (gX7 o_t a_t cI S_t) → va_S A s.heap H locs → lv_has ls 5 [(0, .ref o_t), (1, .int l1), (2, .int l2), (4, .int l4)] → W p l e rmX7_isSo s m ([.ref o_t, .int x1, .int x2] : List Value).toArray below meth c H locs 0 0 Q (F0 m 57 ls [.int s0]) := by
        intro S_t l1 l2 l4 s0 H locs ls hf hP hD hS hl
        unfold f_X7_isSo_57 at hf
        refine lv_istore_n (lv' := [(3, .int s0), (0, .ref o_t), (1, .int l1), (2, .int l2), (4, .int l4)]) hx hb dX7_isSo_57 rfl hl (by decide) rfl (fun ls hl => ?_)
        refine lv_aload_n hx hb dX7_isSo_58 rfl (lv_at hl 1 rfl) ?_
        refine lv_iconst (v := (0 : Int32)) hx hb dX7_isSo_59 (by decide) ?_
        obtain ⟨r60, u60, h60, hf⟩ := bd_some hf
        refine calX0 (runV E0.b E0.n (As := [.int (0 : Int32)]) (rest := []) ⟨hx, hb, hml, hown, hts⟩ (c_X7_goesDay l D cI o_t a_t S_t (0 : Int32) _ h60) gX7_isSo_X7_goesDay rfl rfl rfl hdX7_goesDay ⟨by decide, by decide⟩ hK hP hD 0 rfl rfl rfl hl.1 rfl (Nat.le_of_ble_eq_true rfl) dX7_isSo_60 ⟨Nat.zero_le _, Nat.zero_le _⟩) hD hS hA (fun H locs hP hD hS => ?_)
        have hP : va_P D vwCl (gX7 o_t a_t cI u60) H := hP
        have hD : va_D A (gX7 o_t a_t cI u60) := hD
        refine W.eq (g2 := F0 m 63 ls []) rfl ?_
        refine lv_iinc (v := l4 + (1 : Int32)) (lv' := [(4, .int (l4 + (1 : Int32))), (3, .int s0), (0, .ref o_t), (1, .int l1), (2, .int l2)]) hx hb dX7_isSo_63 hl (k := 4) rfl rfl (by decide) rfl (fun ls hl => ?_)
        refine lv_goto (tgt := 9) hx hb dX7_isSo_66 (by decide) ?_
        exact ih9 u60 l1 l2 s0 (l4 + (1 : Int32)) H locs ls hf hP hD hS (lv_sub hl [2, 3, 4, 1, 0] rfl)
      have j42 : ∀ (S_t : G) (l1 : Int32) (l2 : Int32) (l4 : Int32) (s0 : Int32) (H : Heap) (locs : List Loc) (ls : Array Slot), f_X7_isSo_42 (f_X7_isSo_9 n9) S_t l1 l2 l4 s0 = some out → va_P D vwCl (gX7 o_t a_t cI S_t) H → va_D A (gX7 o_t a_t cI S_t) → va_S A s.heap H locs → lv_has ls 5 [(0, .ref o_t), (1, .int l1), (2, .int l2), (4, .int l4)] → W p l e rmX7_isSo s m ([.ref o_t, .int x1, .int x2] : List Value).toArray below meth c H locs 0 0 Q (F0 m 42 ls [.int s0]) := by
        intro S_t l1 l2 l4 s0 H locs ls hf hP hD hS hl
        unfold f_X7_isSo_42 at hf
        refine lv_aload_n hx hb dX7_isSo_42 rfl (lv_at hl 0 rfl) ?_
        refine va_get (D := D) (ci := 7) (v := .ref (a_t 24)) (C := RX7) (T := TX7) (N := 26) hx hb hts hinX7 hown hK hP 0 rfl rfl 24 (by decide) (hts (.fieldLink RX7 53 "OnlyStrangersHearModel" "row" "[I") (by decide +kernel)) (fun _ h9 => h9) rfl dX7_isSo_43 ?_
        refine lv_iload hx hb dX7_isSo_46 (lv_at hl 3 rfl) ?_
        obtain ⟨b48, hf⟩ := ck_some hf
        refine va_iald hx hb hK hP 14 0 rfl rfl b48 dX7_isSo_48 ?_
        refine lv_icmp_ne (tgt := 56) hx hb dX7_isSo_49 (by decide) (fun c49 => ?_) (fun c49 => ?_)
        · replace hf := it_f c49 hf
          refine lv_iconst (v := (0 : Int32)) hx hb dX7_isSo_56 (by decide) ?_
          exact j57 S_t l1 l2 l4 (0 : Int32) H locs ls hf hP hD hS (lv_sub hl [0, 1, 2, 3] rfl)
        · replace hf := it_t c49 hf
          refine lv_iconst (v := (1 : Int32)) hx hb dX7_isSo_52 (by decide) ?_
          refine lv_goto (tgt := 57) hx hb dX7_isSo_53 (by decide) ?_
          exact j57 S_t l1 l2 l4 (1 : Int32) H locs ls hf hP hD hS (lv_sub hl [0, 1, 2, 3] rfl)
      intro S_t l1 l2 l3 l4 H locs ls hf hP hD hS hl
      replace hf : b_X7_isSo_9 (f_X7_isSo_9 n9) S_t l1 l2 l3 l4 = some out := hf
      unfold b_X7_isSo_9 at hf
      refine lv_iload hx hb dX7_isSo_9 (lv_at hl 4 rfl) ?_
      refine lv_aload_n hx hb dX7_isSo_11 rfl (lv_at hl 0 rfl) ?_
      refine va_get (D := D) (ci := 7) (v := .int (S_t.1 25)) (C := RX7) (T := TX7) (N := 26) hx hb hts hinX7 hown hK hP 0 rfl rfl 25 (by decide) (hts (.fieldLink RX7 288 "OnlyStrangersHearModel" "rowMany" "I") (by decide +kernel)) (fun _ h9 => h9) rfl dX7_isSo_12 ?_
      refine lv_icmp_ge (tgt := 69) hx hb dX7_isSo_15 (by decide) (fun c15 => ?_) (fun c15 => ?_)
      · replace hf := it_t c15 hf
        exact j69 S_t l3 H locs ls hf hP hD hS (lv_sub hl [0, 3] rfl)
      · replace hf := it_f c15 hf
        refine lv_iload_n hx hb dX7_isSo_18 rfl (lv_at hl 3 rfl) ?_
        refine lv_if_eq (tgt := 69) hx hb dX7_isSo_19 (by decide) (fun c19 => ?_) (fun c19 => ?_)
        · replace hf := it_t c19 hf
          exact j69 S_t l3 H locs ls hf hP hD hS (lv_sub hl [0, 3] rfl)
        · replace hf := it_f c19 hf
          refine lv_aload_n hx hb dX7_isSo_22 rfl (lv_at hl 0 rfl) ?_
          refine lv_iload_n hx hb dX7_isSo_23 rfl (lv_at hl 1 rfl) ?_
          refine lv_iload_n hx hb dX7_isSo_24 rfl (lv_at hl 2 rfl) ?_
          obtain ⟨r25, u25, h25, hf⟩ := bd_some hf
          refine calX0 (runV E0.b E0.n (As := [.int l1, .int l2]) (rest := []) ⟨hx, hb, hml, hown, hts⟩ (c_X7_hears l D cI o_t a_t S_t l1 l2 _ h25) gX7_isSo_X7_hears rfl rfl rfl hdX7_hears ⟨by decide, by decide⟩ hK hP hD 0 rfl rfl rfl hl.1 rfl (Nat.le_of_ble_eq_true rfl) dX7_isSo_25 ⟨Nat.zero_le _, Nat.zero_le _⟩) hD hS hA (fun H locs hP hD hS => ?_)
          have hP : va_P D vwCl (gX7 o_t a_t cI u25) H := hP
          have hD : va_D A (gX7 o_t a_t cI u25) := hD
          refine W.eq (g2 := F0 m 28 ls [.int r25]) rfl ?_
          refine lv_if_eq (tgt := 40) hx hb dX7_isSo_28 (by decide) (fun c28 => ?_) (fun c28 => ?_)
          · replace hf := it_t c28 hf
            refine lv_bipush (v := (99 : Int32)) hx hb dX7_isSo_40 (by decide) ?_
            exact j42 u25 l1 l2 l4 (99 : Int32) H locs ls hf hP hD hS (lv_sub hl [0, 1, 2, 4] rfl)
          · replace hf := it_f c28 hf
            refine lv_aload_n hx hb dX7_isSo_31 rfl (lv_at hl 0 rfl) ?_
            refine lv_iload_n hx hb dX7_isSo_32 rfl (lv_at hl 1 rfl) ?_
            refine lv_iload_n hx hb dX7_isSo_33 rfl (lv_at hl 2 rfl) ?_
            obtain ⟨r34, u34, h34, hf⟩ := bd_some hf
            refine calX0 (runV E0.b E0.n (As := [.int l1, .int l2]) (rest := []) ⟨hx, hb, hml, hown, hts⟩ (c_X7_saysOf l D cI o_t a_t u25 l1 l2 _ h34) gX7_isSo_X7_saysOf rfl rfl rfl hdX7_saysOf ⟨by decide, by decide⟩ hK hP hD 0 rfl rfl rfl hl.1 rfl (Nat.le_of_ble_eq_true rfl) dX7_isSo_34 ⟨Nat.zero_le _, Nat.zero_le _⟩) hD hS hA (fun H locs hP hD hS => ?_)
            have hP : va_P D vwCl (gX7 o_t a_t cI u34) H := hP
            have hD : va_D A (gX7 o_t a_t cI u34) := hD
            refine W.eq (g2 := F0 m 37 ls [.int r34]) rfl ?_
            refine lv_goto (tgt := 42) hx hb dX7_isSo_37 (by decide) ?_
            exact j42 u34 l1 l2 l4 r34 H locs ls hf hP hD hS (lv_sub hl [0, 1, 2, 4] rfl)
  unfold f_X7_isSo at hf
  have hl : lv_has ls 5 [(0, .ref o_t), (1, .int x1), (2, .int x2)] := hl
  obtain ⟨H, hHe⟩ : ∃ H : Heap, H = s.heap := ⟨_, rfl⟩
  obtain ⟨locs, hle⟩ : ∃ q : List Loc, q = [] := ⟨_, rfl⟩
  have hS : va_S A s.heap H locs := by rw [hHe, hle]; exact hS
  rw [← hHe] at hP
  suffices hgo : W p l e rmX7_isSo s m ([.ref o_t, .int x1, .int x2] : List Value).toArray below meth c H locs 0 0 Q (F0 m 0 ls []) by rw [hHe, hle] at hgo; exact hgo
  clear hHe hle
  refine lv_aload_n hx hb dX7_isSo_0 rfl (lv_at hl 0 rfl) ?_
  obtain ⟨r1, u1, h1, hf⟩ := bd_some hf
  refine calX0 (runV E0.b E0.n (As := []) (rest := []) ⟨hx, hb, hml, hown, hts⟩ (c_X7_thinks l D cI o_t a_t S_t _ h1) gX7_isSo_X7_thinks rfl rfl rfl hdX7_thinks ⟨by decide, by decide⟩ hK hP hD 0 rfl rfl rfl hl.1 rfl (Nat.le_of_ble_eq_true rfl) dX7_isSo_1 ⟨Nat.zero_le _, Nat.zero_le _⟩) hD hS hA (fun H locs hP hD hS => ?_)
  have hP : va_P D vwCl (gX7 o_t a_t cI u1) H := hP
  have hD : va_D A (gX7 o_t a_t cI u1) := hD
  refine W.eq (g2 := F0 m 4 ls []) rfl ?_
  refine lv_iconst (v := (1 : Int32)) hx hb dX7_isSo_4 (by decide) ?_
  refine lv_istore_n (lv' := [(3, .int (1 : Int32)), (0, .ref o_t), (1, .int x1), (2, .int x2)]) hx hb dX7_isSo_5 rfl hl (by decide) rfl (fun ls hl => ?_)
  refine lv_iconst (v := (0 : Int32)) hx hb dX7_isSo_6 (by decide) ?_
  refine lv_istore (lv' := [(4, .int (0 : Int32)), (3, .int (1 : Int32)), (0, .ref o_t), (1, .int x1), (2, .int x2)]) hx hb dX7_isSo_7 hl (by decide) rfl (fun ls hl => ?_)
  exact j9 1000 u1 x1 x2 (1 : Int32) (0 : Int32) H locs ls hf hP hD hS (lv_sub hl [2, 3, 4, 1, 0] rfl)
abbrev rmX7_bitsFor_s3 : Room := { frames := 4, cells := 0, slots := 0, locals := 92 }
set_option maxHeartbeats 4000000 in
set_option maxRecDepth 100000 in
theorem c_X7_bitsFor_s3 (l : Launch) (D : va_G) (cI : ClassId) (o_t : Nat) (a_t : Nat → Nat) (S_t : G) (x2 : Int32) (x3 : Int32) (x4 : Int32) (out : Int32 × G) (hf : f_X7_bitsFor_s3 S_t x2 x3 x4 = some out) : Cn E0 l yX7_bitsFor wsX7_bitsFor rmX7_bitsFor_s3 D cI [.ref o_t, .ref (a_t 3), .int x2, .int x3, .int x4] (gX7 o_t a_t cI S_t) (some (.int out.1)) (gX7 o_t a_t cI out.2) := by
  refine Cn.mk (cc := cX7_bitsFor) (maxL := 8) (ret := (some .int)) (by decide) rfl (Nat.le_of_ble_eq_true rfl) ?_
  intro p e s m below meth c A ls Q hx hb hml hown hts hK hA hP hD hS hl hr hlk hnm hE hQ
  have hown : s.vm.findClass RX7 = some m.cls := hown
  have j11 : ∀ (n11 : Nat) (S_t : G) (l2 : Int32) (l3 : Int32) (l4 : Int32) (l5 : Int32) (l6 : Int32) (l7 : Int32) (H : Heap) (locs : List Loc) (ls : Array Slot), f_X7_bitsFor_s3_11 n11 S_t l2 l3 l4 l5 l6 l7 = some out → va_P D vwCl (gX7 o_t a_t cI S_t) H → va_D A (gX7 o_t a_t cI S_t) → va_S A s.heap H locs → lv_has ls 8 [(0, .ref o_t), (1, .ref (a_t 3)), (2, .int l2), (3, .int l3), (4, .int l4), (5, .int l5), (6, .int l6), (7, .int l7)] → W p l e rmX7_bitsFor_s3 s m ([.ref o_t, .ref (a_t 3), .int x2, .int x3, .int x4] : List Value).toArray below meth c H locs 0 0 Q (F0 m 11 ls []) := by
    intro n11
    induction n11 with
    | zero =>
      intro S_t l2 l3 l4 l5 l6 l7 H locs ls hf
      exact no_some hf
    | succ n11 ih11 =>
      intro S_t l2 l3 l4 l5 l6 l7 H locs ls hf hP hD hS hl
      replace hf : b_X7_bitsFor_s3_11 (f_X7_bitsFor_s3_11 n11) S_t l2 l3 l4 l5 l6 l7 = some out := hf
      unfold b_X7_bitsFor_s3_11 at hf
      refine lv_iload hx hb dX7_bitsFor_11 (lv_at hl 7 rfl) ?_
      refine lv_iload_n hx hb dX7_bitsFor_13 rfl (lv_at hl 3 rfl) ?_
      refine lv_icmp_ge (tgt := 51) hx hb dX7_bitsFor_14 (by decide) (fun c14 => ?_) (fun c14 => ?_)
      · replace hf := it_t c14 hf
        refine lv_aload_n hx hb dX7_bitsFor_51 rfl (lv_at hl 1 rfl) ?_
        refine lv_iload_n hx hb dX7_bitsFor_52 rfl (lv_at hl 2 rfl) ?_
        refine lv_iload hx hb dX7_bitsFor_53 (lv_at hl 5 rfl) ?_
        obtain ⟨b55, hf⟩ := ck_some hf
        refine va_iast hx hb hK hP hD hS 4 0 rfl rfl b55 dX7_bitsFor_55 (fun H locs hP hD hS => ?_)
        have hP : va_P D vwCl (gX7 o_t a_t cI (pA S_t 3 l2.toNatClampNeg l5)) H := hP
        have hD : va_D A (gX7 o_t a_t cI (pA S_t 3 l2.toNatClampNeg l5)) := hD
        obtain ⟨g55, e55, hf⟩ := lt_some hf
        rw [← e55] at hP hD
        refine lv_iload hx hb dX7_bitsFor_56 (lv_at hl 6 rfl) ?_
        have e := so_some hf
        subst e
        exact ri hx hb hK hr hlk hQ dX7_bitsFor_58 hP hD hS
      · replace hf := it_f c14 hf
        refine lv_aload_n hx hb dX7_bitsFor_17 rfl (lv_at hl 1 rfl) ?_
        refine lv_iload_n hx hb dX7_bitsFor_18 rfl (lv_at hl 2 rfl) ?_
        refine lv_iload hx hb dX7_bitsFor_19 (lv_at hl 7 rfl) ?_
        obtain ⟨b21, hf⟩ := ck_some hf
        refine va_iast hx hb hK hP hD hS 4 0 rfl rfl b21 dX7_bitsFor_21 (fun H locs hP hD hS => ?_)
        have hP : va_P D vwCl (gX7 o_t a_t cI (pA S_t 3 l2.toNatClampNeg l7)) H := hP
        have hD : va_D A (gX7 o_t a_t cI (pA S_t 3 l2.toNatClampNeg l7)) := hD
        obtain ⟨g21, e21, hf⟩ := lt_some hf
        rw [← e21] at hP hD
        refine lv_iload hx hb dX7_bitsFor_22 (lv_at hl 6 rfl) ?_
        refine lv_aload_n hx hb dX7_bitsFor_24 rfl (lv_at hl 0 rfl) ?_
        refine lv_iload_n hx hb dX7_bitsFor_25 rfl (lv_at hl 2 rfl) ?_
        refine lv_iload hx hb dX7_bitsFor_26 (lv_at hl 4 rfl) ?_
        obtain ⟨r28, u28, h28, hf⟩ := bd_some hf
        refine calX0 (runV E0.b E0.n (As := [.int l2, .int l4]) (rest := [.int l6]) ⟨hx, hb, hml, hown, hts⟩ (c_X7_isSo l D cI o_t a_t g21 l2 l4 _ h28) gX7_bitsFor_X7_isSo rfl rfl rfl hdX7_isSo ⟨by decide, by decide⟩ hK hP hD 0 rfl rfl rfl hl.1 rfl (Nat.le_of_ble_eq_true rfl) dX7_bitsFor_28 ⟨Nat.zero_le _, Nat.zero_le _⟩) hD hS hA (fun H locs hP hD hS => ?_)
        have hP : va_P D vwCl (gX7 o_t a_t cI u28) H := hP
        have hD : va_D A (gX7 o_t a_t cI u28) := hD
        refine W.eq (g2 := F0 m 31 ls [.int r28, .int l6]) rfl ?_
        refine lv_if_eq (tgt := 41) hx hb dX7_bitsFor_31 (by decide) (fun c31 => ?_) (fun c31 => ?_)
        · replace hf := it_t c31 hf
          refine lv_iconst (v := (0 : Int32)) hx hb dX7_bitsFor_41 (by decide) ?_
          refine lv_ior hx hb dX7_bitsFor_42 ?_
          refine lv_istore (lv' := [(6, .int (l6 ||| (0 : Int32))), (0, .ref o_t), (1, .ref (a_t 3)), (2, .int l2), (3, .int l3), (4, .int l4), (5, .int l5), (7, .int l7)]) hx hb dX7_bitsFor_43 hl (by decide) rfl (fun ls hl => ?_)
          refine lv_iinc (v := l7 + (1 : Int32)) (lv' := [(7, .int (l7 + (1 : Int32))), (6, .int (l6 ||| (0 : Int32))), (0, .ref o_t), (1, .ref (a_t 3)), (2, .int l2), (3, .int l3), (4, .int l4), (5, .int l5)]) hx hb dX7_bitsFor_45 hl (k := 7) rfl rfl (by decide) rfl (fun ls hl => ?_)
          refine lv_goto (tgt := 11) hx hb dX7_bitsFor_48 (by decide) ?_
          exact ih11 u28 l2 l3 l4 l5 (l6 ||| (0 : Int32)) (l7 + (1 : Int32)) H locs ls hf hP hD hS (lv_sub hl [2, 3, 4, 5, 6, 7, 1, 0] rfl)
        · replace hf := it_f c31 hf
          refine lv_iconst (v := (1 : Int32)) hx hb dX7_bitsFor_34 (by decide) ?_
          refine lv_iload hx hb dX7_bitsFor_35 (lv_at hl 7 rfl) ?_
          refine lv_ishl hx hb dX7_bitsFor_37 ?_
          refine lv_goto (tgt := 42) hx hb dX7_bitsFor_38 (by decide) ?_
          refine lv_ior hx hb dX7_bitsFor_42 ?_
          refine lv_topi (fun v43 e43 => ?_)
          replace hf := lt_at e43 hf
          refine lv_istore (lv' := [(6, .int v43), (0, .ref o_t), (1, .ref (a_t 3)), (2, .int l2), (3, .int l3), (4, .int l4), (5, .int l5), (7, .int l7)]) hx hb dX7_bitsFor_43 hl (by decide) rfl (fun ls hl => ?_)
          refine lv_iinc (v := l7 + (1 : Int32)) (lv' := [(7, .int (l7 + (1 : Int32))), (6, .int v43), (0, .ref o_t), (1, .ref (a_t 3)), (2, .int l2), (3, .int l3), (4, .int l4), (5, .int l5)]) hx hb dX7_bitsFor_45 hl (k := 7) rfl rfl (by decide) rfl (fun ls hl => ?_)
          refine lv_goto (tgt := 11) hx hb dX7_bitsFor_48 (by decide) ?_
          exact ih11 u28 l2 l3 l4 l5 v43 (l7 + (1 : Int32)) H locs ls hf hP hD hS (lv_sub hl [2, 3, 4, 5, 6, 7, 1, 0] rfl)
  unfold f_X7_bitsFor_s3 at hf
  have hl : lv_has ls 8 [(0, .ref o_t), (1, .ref (a_t 3)), (2, .int x2), (3, .int x3), (4, .int x4)] := hl
  obtain ⟨H, hHe⟩ : ∃ H : Heap, H = s.heap := ⟨_, rfl⟩
  obtain ⟨locs, hle⟩ : ∃ q : List Loc, q = [] := ⟨_, rfl⟩
  have hS : va_S A s.heap H locs := by rw [hHe, hle]; exact hS
  rw [← hHe] at hP
  suffices hgo : W p l e rmX7_bitsFor_s3 s m ([.ref o_t, .ref (a_t 3), .int x2, .int x3, .int x4] : List Value).toArray below meth c H locs 0 0 Q (F0 m 0 ls []) by rw [hHe, hle] at hgo; exact hgo
  clear hHe hle
  refine lv_aload_n hx hb dX7_bitsFor_0 rfl (lv_at hl 1 rfl) ?_
  refine lv_iload_n hx hb dX7_bitsFor_1 rfl (lv_at hl 2 rfl) ?_
  obtain ⟨b2, hf⟩ := ck_some hf
  refine va_iald hx hb hK hP 4 0 rfl rfl b2 dX7_bitsFor_2 ?_
  refine lv_istore (lv' := [(5, .int (S_t.2 3 x2.toNatClampNeg)), (0, .ref o_t), (1, .ref (a_t 3)), (2, .int x2), (3, .int x3), (4, .int x4)]) hx hb dX7_bitsFor_3 hl (by decide) rfl (fun ls hl => ?_)
  refine lv_iconst (v := (0 : Int32)) hx hb dX7_bitsFor_5 (by decide) ?_
  refine lv_istore (lv' := [(6, .int (0 : Int32)), (5, .int (S_t.2 3 x2.toNatClampNeg)), (0, .ref o_t), (1, .ref (a_t 3)), (2, .int x2), (3, .int x3), (4, .int x4)]) hx hb dX7_bitsFor_6 hl (by decide) rfl (fun ls hl => ?_)
  refine lv_iconst (v := (0 : Int32)) hx hb dX7_bitsFor_8 (by decide) ?_
  refine lv_istore (lv' := [(7, .int (0 : Int32)), (6, .int (0 : Int32)), (5, .int (S_t.2 3 x2.toNatClampNeg)), (0, .ref o_t), (1, .ref (a_t 3)), (2, .int x2), (3, .int x3), (4, .int x4)]) hx hb dX7_bitsFor_9 hl (by decide) rfl (fun ls hl => ?_)
  exact j11 1000 S_t x2 x3 x4 (S_t.2 3 x2.toNatClampNeg) (0 : Int32) (0 : Int32) H locs ls hf hP hD hS (lv_sub hl [3, 4, 5, 6, 7, 2, 1, 0] rfl)
abbrev rmX7_bitsFor_s4 : Room := { frames := 4, cells := 0, slots := 0, locals := 92 }
set_option maxHeartbeats 4000000 in
set_option maxRecDepth 100000 in
theorem c_X7_bitsFor_s4 (l : Launch) (D : va_G) (cI : ClassId) (o_t : Nat) (a_t : Nat → Nat) (S_t : G) (x2 : Int32) (x3 : Int32) (x4 : Int32) (out : Int32 × G) (hf : f_X7_bitsFor_s4 S_t x2 x3 x4 = some out) : Cn E0 l yX7_bitsFor wsX7_bitsFor rmX7_bitsFor_s4 D cI [.ref o_t, .ref (a_t 4), .int x2, .int x3, .int x4] (gX7 o_t a_t cI S_t) (some (.int out.1)) (gX7 o_t a_t cI out.2) := by
  refine Cn.mk (cc := cX7_bitsFor) (maxL := 8) (ret := (some .int)) (by decide) rfl (Nat.le_of_ble_eq_true rfl) ?_
  intro p e s m below meth c A ls Q hx hb hml hown hts hK hA hP hD hS hl hr hlk hnm hE hQ
  have hown : s.vm.findClass RX7 = some m.cls := hown
  have j11 : ∀ (n11 : Nat) (S_t : G) (l2 : Int32) (l3 : Int32) (l4 : Int32) (l5 : Int32) (l6 : Int32) (l7 : Int32) (H : Heap) (locs : List Loc) (ls : Array Slot), f_X7_bitsFor_s4_11 n11 S_t l2 l3 l4 l5 l6 l7 = some out → va_P D vwCl (gX7 o_t a_t cI S_t) H → va_D A (gX7 o_t a_t cI S_t) → va_S A s.heap H locs → lv_has ls 8 [(0, .ref o_t), (1, .ref (a_t 4)), (2, .int l2), (3, .int l3), (4, .int l4), (5, .int l5), (6, .int l6), (7, .int l7)] → W p l e rmX7_bitsFor_s4 s m ([.ref o_t, .ref (a_t 4), .int x2, .int x3, .int x4] : List Value).toArray below meth c H locs 0 0 Q (F0 m 11 ls []) := by
    intro n11
    induction n11 with
    | zero =>
      intro S_t l2 l3 l4 l5 l6 l7 H locs ls hf
      exact no_some hf
    | succ n11 ih11 =>
      intro S_t l2 l3 l4 l5 l6 l7 H locs ls hf hP hD hS hl
      replace hf : b_X7_bitsFor_s4_11 (f_X7_bitsFor_s4_11 n11) S_t l2 l3 l4 l5 l6 l7 = some out := hf
      unfold b_X7_bitsFor_s4_11 at hf
      refine lv_iload hx hb dX7_bitsFor_11 (lv_at hl 7 rfl) ?_
      refine lv_iload_n hx hb dX7_bitsFor_13 rfl (lv_at hl 3 rfl) ?_
      refine lv_icmp_ge (tgt := 51) hx hb dX7_bitsFor_14 (by decide) (fun c14 => ?_) (fun c14 => ?_)
      · replace hf := it_t c14 hf
        refine lv_aload_n hx hb dX7_bitsFor_51 rfl (lv_at hl 1 rfl) ?_
        refine lv_iload_n hx hb dX7_bitsFor_52 rfl (lv_at hl 2 rfl) ?_
        refine lv_iload hx hb dX7_bitsFor_53 (lv_at hl 5 rfl) ?_
        obtain ⟨b55, hf⟩ := ck_some hf
        refine va_iast hx hb hK hP hD hS 5 0 rfl rfl b55 dX7_bitsFor_55 (fun H locs hP hD hS => ?_)
        have hP : va_P D vwCl (gX7 o_t a_t cI (pA S_t 4 l2.toNatClampNeg l5)) H := hP
        have hD : va_D A (gX7 o_t a_t cI (pA S_t 4 l2.toNatClampNeg l5)) := hD
        obtain ⟨g55, e55, hf⟩ := lt_some hf
        rw [← e55] at hP hD
        refine lv_iload hx hb dX7_bitsFor_56 (lv_at hl 6 rfl) ?_
        have e := so_some hf
        subst e
        exact ri hx hb hK hr hlk hQ dX7_bitsFor_58 hP hD hS
      · replace hf := it_f c14 hf
        refine lv_aload_n hx hb dX7_bitsFor_17 rfl (lv_at hl 1 rfl) ?_
        refine lv_iload_n hx hb dX7_bitsFor_18 rfl (lv_at hl 2 rfl) ?_
        refine lv_iload hx hb dX7_bitsFor_19 (lv_at hl 7 rfl) ?_
        obtain ⟨b21, hf⟩ := ck_some hf
        refine va_iast hx hb hK hP hD hS 5 0 rfl rfl b21 dX7_bitsFor_21 (fun H locs hP hD hS => ?_)
        have hP : va_P D vwCl (gX7 o_t a_t cI (pA S_t 4 l2.toNatClampNeg l7)) H := hP
        have hD : va_D A (gX7 o_t a_t cI (pA S_t 4 l2.toNatClampNeg l7)) := hD
        obtain ⟨g21, e21, hf⟩ := lt_some hf
        rw [← e21] at hP hD
        refine lv_iload hx hb dX7_bitsFor_22 (lv_at hl 6 rfl) ?_
        refine lv_aload_n hx hb dX7_bitsFor_24 rfl (lv_at hl 0 rfl) ?_
        refine lv_iload_n hx hb dX7_bitsFor_25 rfl (lv_at hl 2 rfl) ?_
        refine lv_iload hx hb dX7_bitsFor_26 (lv_at hl 4 rfl) ?_
        obtain ⟨r28, u28, h28, hf⟩ := bd_some hf
        refine calX0 (runV E0.b E0.n (As := [.int l2, .int l4]) (rest := [.int l6]) ⟨hx, hb, hml, hown, hts⟩ (c_X7_isSo l D cI o_t a_t g21 l2 l4 _ h28) gX7_bitsFor_X7_isSo rfl rfl rfl hdX7_isSo ⟨by decide, by decide⟩ hK hP hD 0 rfl rfl rfl hl.1 rfl (Nat.le_of_ble_eq_true rfl) dX7_bitsFor_28 ⟨Nat.zero_le _, Nat.zero_le _⟩) hD hS hA (fun H locs hP hD hS => ?_)
        have hP : va_P D vwCl (gX7 o_t a_t cI u28) H := hP
        have hD : va_D A (gX7 o_t a_t cI u28) := hD
        refine W.eq (g2 := F0 m 31 ls [.int r28, .int l6]) rfl ?_
        refine lv_if_eq (tgt := 41) hx hb dX7_bitsFor_31 (by decide) (fun c31 => ?_) (fun c31 => ?_)
        · replace hf := it_t c31 hf
          refine lv_iconst (v := (0 : Int32)) hx hb dX7_bitsFor_41 (by decide) ?_
          refine lv_ior hx hb dX7_bitsFor_42 ?_
          refine lv_istore (lv' := [(6, .int (l6 ||| (0 : Int32))), (0, .ref o_t), (1, .ref (a_t 4)), (2, .int l2), (3, .int l3), (4, .int l4), (5, .int l5), (7, .int l7)]) hx hb dX7_bitsFor_43 hl (by decide) rfl (fun ls hl => ?_)
          refine lv_iinc (v := l7 + (1 : Int32)) (lv' := [(7, .int (l7 + (1 : Int32))), (6, .int (l6 ||| (0 : Int32))), (0, .ref o_t), (1, .ref (a_t 4)), (2, .int l2), (3, .int l3), (4, .int l4), (5, .int l5)]) hx hb dX7_bitsFor_45 hl (k := 7) rfl rfl (by decide) rfl (fun ls hl => ?_)
          refine lv_goto (tgt := 11) hx hb dX7_bitsFor_48 (by decide) ?_
          exact ih11 u28 l2 l3 l4 l5 (l6 ||| (0 : Int32)) (l7 + (1 : Int32)) H locs ls hf hP hD hS (lv_sub hl [2, 3, 4, 5, 6, 7, 1, 0] rfl)
        · replace hf := it_f c31 hf
          refine lv_iconst (v := (1 : Int32)) hx hb dX7_bitsFor_34 (by decide) ?_
          refine lv_iload hx hb dX7_bitsFor_35 (lv_at hl 7 rfl) ?_
          refine lv_ishl hx hb dX7_bitsFor_37 ?_
          refine lv_goto (tgt := 42) hx hb dX7_bitsFor_38 (by decide) ?_
          refine lv_ior hx hb dX7_bitsFor_42 ?_
          refine lv_topi (fun v43 e43 => ?_)
          replace hf := lt_at e43 hf
          refine lv_istore (lv' := [(6, .int v43), (0, .ref o_t), (1, .ref (a_t 4)), (2, .int l2), (3, .int l3), (4, .int l4), (5, .int l5), (7, .int l7)]) hx hb dX7_bitsFor_43 hl (by decide) rfl (fun ls hl => ?_)
          refine lv_iinc (v := l7 + (1 : Int32)) (lv' := [(7, .int (l7 + (1 : Int32))), (6, .int v43), (0, .ref o_t), (1, .ref (a_t 4)), (2, .int l2), (3, .int l3), (4, .int l4), (5, .int l5)]) hx hb dX7_bitsFor_45 hl (k := 7) rfl rfl (by decide) rfl (fun ls hl => ?_)
          refine lv_goto (tgt := 11) hx hb dX7_bitsFor_48 (by decide) ?_
          exact ih11 u28 l2 l3 l4 l5 v43 (l7 + (1 : Int32)) H locs ls hf hP hD hS (lv_sub hl [2, 3, 4, 5, 6, 7, 1, 0] rfl)
  unfold f_X7_bitsFor_s4 at hf
  have hl : lv_has ls 8 [(0, .ref o_t), (1, .ref (a_t 4)), (2, .int x2), (3, .int x3), (4, .int x4)] := hl
  obtain ⟨H, hHe⟩ : ∃ H : Heap, H = s.heap := ⟨_, rfl⟩
  obtain ⟨locs, hle⟩ : ∃ q : List Loc, q = [] := ⟨_, rfl⟩
  have hS : va_S A s.heap H locs := by rw [hHe, hle]; exact hS
  rw [← hHe] at hP
  suffices hgo : W p l e rmX7_bitsFor_s4 s m ([.ref o_t, .ref (a_t 4), .int x2, .int x3, .int x4] : List Value).toArray below meth c H locs 0 0 Q (F0 m 0 ls []) by rw [hHe, hle] at hgo; exact hgo
  clear hHe hle
  refine lv_aload_n hx hb dX7_bitsFor_0 rfl (lv_at hl 1 rfl) ?_
  refine lv_iload_n hx hb dX7_bitsFor_1 rfl (lv_at hl 2 rfl) ?_
  obtain ⟨b2, hf⟩ := ck_some hf
  refine va_iald hx hb hK hP 5 0 rfl rfl b2 dX7_bitsFor_2 ?_
  refine lv_istore (lv' := [(5, .int (S_t.2 4 x2.toNatClampNeg)), (0, .ref o_t), (1, .ref (a_t 4)), (2, .int x2), (3, .int x3), (4, .int x4)]) hx hb dX7_bitsFor_3 hl (by decide) rfl (fun ls hl => ?_)
  refine lv_iconst (v := (0 : Int32)) hx hb dX7_bitsFor_5 (by decide) ?_
  refine lv_istore (lv' := [(6, .int (0 : Int32)), (5, .int (S_t.2 4 x2.toNatClampNeg)), (0, .ref o_t), (1, .ref (a_t 4)), (2, .int x2), (3, .int x3), (4, .int x4)]) hx hb dX7_bitsFor_6 hl (by decide) rfl (fun ls hl => ?_)
  refine lv_iconst (v := (0 : Int32)) hx hb dX7_bitsFor_8 (by decide) ?_
  refine lv_istore (lv' := [(7, .int (0 : Int32)), (6, .int (0 : Int32)), (5, .int (S_t.2 4 x2.toNatClampNeg)), (0, .ref o_t), (1, .ref (a_t 4)), (2, .int x2), (3, .int x3), (4, .int x4)]) hx hb dX7_bitsFor_9 hl (by decide) rfl (fun ls hl => ?_)
  exact j11 1000 S_t x2 x3 x4 (S_t.2 4 x2.toNatClampNeg) (0 : Int32) (0 : Int32) H locs ls hf hP hD hS (lv_sub hl [3, 4, 5, 6, 7, 2, 1, 0] rfl)
abbrev rmX7_whatIs : Room := { frames := 5, cells := 0, slots := 0, locals := 119 }
set_option maxHeartbeats 4000000 in
set_option maxRecDepth 100000 in
theorem c_X7_whatIs (l : Launch) (D : va_G) (cI : ClassId) (o_t : Nat) (a_t : Nat → Nat) (S_t : G) (x1 : Int32) (x2 : Int32) (x3 : Int32) (out : Int32 × G) (hf : f_X7_whatIs S_t x1 x2 x3 = some out) : Cn E0 l yX7_whatIs wsX7_whatIs rmX7_whatIs D cI [.ref o_t, .int x1, .int x2, .int x3] (gX7 o_t a_t cI S_t) (some (.int out.1)) (gX7 o_t a_t cI out.2) := by
  refine Cn.mk (cc := cX7_whatIs) (maxL := 5) (ret := (some .int)) (by decide) rfl (Nat.le_of_ble_eq_true rfl) ?_
  intro p e s m below meth c A ls Q hx hb hml hown hts hK hA hP hD hS hl hr hlk hnm hE hQ
  have hown : s.vm.findClass RX7 = some m.cls := hown
  have hinX7 : ∀ w ∈ u_ws RX7 TX7 26, w ∈ wsX7_whatIs := by decide +kernel
  have j35 : ∀ (S_t : G) (l1 : Int32) (l2 : Int32) (l3 : Int32) (s0 : Int32) (H : Heap) (locs : List Loc) (ls : Array Slot), f_X7_whatIs_35 S_t l1 l2 l3 s0 = some out → va_P D vwCl (gX7 o_t a_t cI S_t) H → va_D A (gX7 o_t a_t cI S_t) → va_S A s.heap H locs → lv_has ls 5 [(0, .ref o_t), (1, .int l1), (2, .int l2), (3, .int l3)] → W p l e rmX7_whatIs s m ([.ref o_t, .int x1, .int x2, .int x3] : List Value).toArray below meth c H locs 0 0 Q (F0 m 35 ls [.int s0]) := by
    intro S_t l1 l2 l3 s0 H locs ls hf hP hD hS hl
    unfold f_X7_whatIs_35 at hf
    refine lv_istore (lv' := [(4, .int s0), (0, .ref o_t), (1, .int l1), (2, .int l2), (3, .int l3)]) hx hb dX7_whatIs_35 hl (by decide) rfl (fun ls hl => ?_)
    refine lv_iload hx hb dX7_whatIs_37 (lv_at hl 0 rfl) ?_
    refine lv_if_eq (tgt := 49) hx hb dX7_whatIs_39 (by decide) (fun c39 => ?_) (fun c39 => ?_)
    · replace hf := it_t c39 hf
      refine lv_iload_n hx hb dX7_whatIs_49 rfl (lv_at hl 4 rfl) ?_
      refine lv_if_ne (tgt := 68) hx hb dX7_whatIs_50 (by decide) (fun c50 => ?_) (fun c50 => ?_)
      · replace hf := it_f c50 hf
        refine lv_aload_n hx hb dX7_whatIs_68 rfl (lv_at hl 1 rfl) ?_
        refine lv_aload_n hx hb dX7_whatIs_69 rfl (lv_at hl 1 rfl) ?_
        refine va_get (D := D) (ci := 7) (v := .ref (a_t 4)) (C := RX7) (T := TX7) (N := 26) hx hb hts hinX7 hown hK hP 0 rfl rfl 4 (by decide) (hts (.fieldLink RX7 22 "OnlyStrangersHearModel" "figure" "[I") (by decide +kernel)) (fun _ h9 => h9) rfl dX7_whatIs_70 ?_
        refine lv_iload_n hx hb dX7_whatIs_73 rfl (lv_at hl 2 rfl) ?_
        refine lv_bipush (v := (10 : Int32)) hx hb dX7_whatIs_74 (by decide) ?_
        refine lv_iload_n hx hb dX7_whatIs_76 rfl (lv_at hl 3 rfl) ?_
        obtain ⟨r77, u77, h77, hf⟩ := bd_some hf
        refine calX0 (runV E0.b E0.n (As := [.ref (a_t 4), .int l1, .int (10 : Int32), .int l2]) (rest := []) ⟨hx, hb, hml, hown, hts⟩ (c_X7_bitsFor_s4 l D cI o_t a_t S_t l1 (10 : Int32) l2 _ h77) gX7_whatIs_X7_bitsFor rfl rfl rfl hdX7_bitsFor ⟨by decide, by decide⟩ hK hP hD 0 rfl rfl rfl hl.1 rfl (Nat.le_of_ble_eq_true rfl) dX7_whatIs_77 ⟨Nat.zero_le _, Nat.zero_le _⟩) hD hS hA (fun H locs hP hD hS => ?_)
        have hP : va_P D vwCl (gX7 o_t a_t cI u77) H := hP
        have hD : va_D A (gX7 o_t a_t cI u77) := hD
        refine W.eq (g2 := F0 m 80 ls [.int r77]) rfl ?_
        have e := so_some hf
        subst e
        exact ri hx hb hK hr hlk hQ dX7_whatIs_80 hP hD hS
      · replace hf := it_t c50 hf
        refine lv_aload_n hx hb dX7_whatIs_53 rfl (lv_at hl 1 rfl) ?_
        refine lv_aload_n hx hb dX7_whatIs_54 rfl (lv_at hl 1 rfl) ?_
        refine va_get (D := D) (ci := 7) (v := .ref (a_t 3)) (C := RX7) (T := TX7) (N := 26) hx hb hts hinX7 hown hK hP 0 rfl rfl 3 (by decide) (hts (.fieldLink RX7 19 "OnlyStrangersHearModel" "kind" "[I") (by decide +kernel)) (fun _ h9 => h9) rfl dX7_whatIs_55 ?_
        refine lv_iload_n hx hb dX7_whatIs_58 rfl (lv_at hl 2 rfl) ?_
        refine lv_bipush (v := (6 : Int32)) hx hb dX7_whatIs_59 (by decide) ?_
        refine lv_iload_n hx hb dX7_whatIs_61 rfl (lv_at hl 3 rfl) ?_
        obtain ⟨r62, u62, h62, hf⟩ := bd_some hf
        refine calX0 (runV E0.b E0.n (As := [.ref (a_t 3), .int l1, .int (6 : Int32), .int l2]) (rest := []) ⟨hx, hb, hml, hown, hts⟩ (c_X7_bitsFor_s3 l D cI o_t a_t S_t l1 (6 : Int32) l2 _ h62) gX7_whatIs_X7_bitsFor rfl rfl rfl hdX7_bitsFor ⟨by decide, by decide⟩ hK hP hD 0 rfl rfl rfl hl.1 rfl (Nat.le_of_ble_eq_true rfl) dX7_whatIs_62 ⟨Nat.zero_le _, Nat.zero_le _⟩) hD hS hA (fun H locs hP hD hS => ?_)
        have hP : va_P D vwCl (gX7 o_t a_t cI u62) H := hP
        have hD : va_D A (gX7 o_t a_t cI u62) := hD
        refine W.eq (g2 := F0 m 65 ls [.int r62]) rfl ?_
        refine lv_goto (tgt := 80) hx hb dX7_whatIs_65 (by decide) ?_
        have e := so_some hf
        subst e
        exact ri hx hb hK hr hlk hQ dX7_whatIs_80 hP hD hS
    · replace hf := it_f c39 hf
      refine lv_aload_n hx hb dX7_whatIs_42 rfl (lv_at hl 1 rfl) ?_
      refine lv_iload hx hb dX7_whatIs_43 (lv_at hl 0 rfl) ?_
      obtain ⟨r45, u45, h45, hf⟩ := bd_some hf
      refine calX0 (runV E0.b E0.n (As := [.int s0]) (rest := []) ⟨hx, hb, hml, hown, hts⟩ (c_X7_no l D cI o_t a_t S_t s0 _ h45) gX7_whatIs_X7_no rfl rfl rfl hdX7_no ⟨by decide, by decide⟩ hK hP hD 0 rfl rfl rfl hl.1 rfl (Nat.le_of_ble_eq_true rfl) dX7_whatIs_45 ⟨Nat.zero_le _, Nat.zero_le _⟩) hD hS hA (fun H locs hP hD hS => ?_)
      have hP : va_P D vwCl (gX7 o_t a_t cI u45) H := hP
      have hD : va_D A (gX7 o_t a_t cI u45) := hD
      refine W.eq (g2 := F0 m 48 ls [.int r45]) rfl ?_
      have e := so_some hf
      subst e
      exact ri hx hb hK hr hlk hQ dX7_whatIs_48 hP hD hS
  have j16 : ∀ (S_t : G) (l1 : Int32) (l2 : Int32) (l3 : Int32) (H : Heap) (locs : List Loc) (ls : Array Slot), f_X7_whatIs_16 S_t l1 l2 l3 = some out → va_P D vwCl (gX7 o_t a_t cI S_t) H → va_D A (gX7 o_t a_t cI S_t) → va_S A s.heap H locs → lv_has ls 5 [(0, .ref o_t), (1, .int l1), (2, .int l2), (3, .int l3)] → W p l e rmX7_whatIs s m ([.ref o_t, .int x1, .int x2, .int x3] : List Value).toArray below meth c H locs 0 0 Q (F0 m 16 ls []) := by
    intro S_t l1 l2 l3 H locs ls hf hP hD hS hl
    unfold f_X7_whatIs_16 at hf
    refine lv_iconst (v := (-1 : Int32)) hx hb dX7_whatIs_16 (by decide) ?_
    refine lv_goto (tgt := 35) hx hb dX7_whatIs_17 (by decide) ?_
    exact j35 S_t l1 l2 l3 (-1 : Int32) H locs ls hf hP hD hS (lv_sub hl [0, 1, 2, 3] rfl)
  unfold f_X7_whatIs at hf
  have hl : lv_has ls 5 [(0, .ref o_t), (1, .int x1), (2, .int x2), (3, .int x3)] := hl
  obtain ⟨H, hHe⟩ : ∃ H : Heap, H = s.heap := ⟨_, rfl⟩
  obtain ⟨locs, hle⟩ : ∃ q : List Loc, q = [] := ⟨_, rfl⟩
  have hS : va_S A s.heap H locs := by rw [hHe, hle]; exact hS
  rw [← hHe] at hP
  suffices hgo : W p l e rmX7_whatIs s m ([.ref o_t, .int x1, .int x2, .int x3] : List Value).toArray below meth c H locs 0 0 Q (F0 m 0 ls []) by rw [hHe, hle] at hgo; exact hgo
  clear hHe hle
  refine lv_aload_n hx hb dX7_whatIs_0 rfl (lv_at hl 0 rfl) ?_
  refine lv_iload_n hx hb dX7_whatIs_1 rfl (lv_at hl 1 rfl) ?_
  obtain ⟨r2, u2, h2, hf⟩ := bd_some hf
  refine calX0 (runV E0.b E0.n (As := [.int x1]) (rest := []) ⟨hx, hb, hml, hown, hts⟩ (c_X7_isOne l D cI o_t a_t S_t x1 _ h2) gX7_whatIs_X7_isOne rfl rfl rfl hdX7_isOne ⟨by decide, by decide⟩ hK hP hD 0 rfl rfl rfl hl.1 rfl (Nat.le_of_ble_eq_true rfl) dX7_whatIs_2 ⟨Nat.zero_le _, Nat.zero_le _⟩) hD hS hA (fun H locs hP hD hS => ?_)
  have hP : va_P D vwCl (gX7 o_t a_t cI u2) H := hP
  have hD : va_D A (gX7 o_t a_t cI u2) := hD
  refine W.eq (g2 := F0 m 5 ls [.int r2]) rfl ?_
  refine lv_if_eq (tgt := 16) hx hb dX7_whatIs_5 (by decide) (fun c5 => ?_) (fun c5 => ?_)
  · replace hf := it_t c5 hf
    exact j16 u2 x1 x2 x3 H locs ls hf hP hD hS (lv_sub hl [0, 1, 2, 3] rfl)
  · replace hf := it_f c5 hf
    refine lv_aload_n hx hb dX7_whatIs_8 rfl (lv_at hl 0 rfl) ?_
    refine lv_iload_n hx hb dX7_whatIs_9 rfl (lv_at hl 2 rfl) ?_
    obtain ⟨r10, u10, h10, hf⟩ := bd_some hf
    refine calX0 (runV E0.b E0.n (As := [.int x2]) (rest := []) ⟨hx, hb, hml, hown, hts⟩ (c_X7_isBell l D cI o_t a_t u2 x2 _ h10) gX7_whatIs_X7_isBell rfl rfl rfl hdX7_isBell ⟨by decide, by decide⟩ hK hP hD 0 rfl rfl rfl hl.1 rfl (Nat.le_of_ble_eq_true rfl) dX7_whatIs_10 ⟨Nat.zero_le _, Nat.zero_le _⟩) hD hS hA (fun H locs hP hD hS => ?_)
    have hP : va_P D vwCl (gX7 o_t a_t cI u10) H := hP
    have hD : va_D A (gX7 o_t a_t cI u10) := hD
    refine W.eq (g2 := F0 m 13 ls [.int r10]) rfl ?_
    refine lv_if_ne (tgt := 20) hx hb dX7_whatIs_13 (by decide) (fun c13 => ?_) (fun c13 => ?_)
    · replace hf := it_f c13 hf
      refine lv_iload_n hx hb dX7_whatIs_20 rfl (lv_at hl 3 rfl) ?_
      refine lv_iconst (v := (0 : Int32)) hx hb dX7_whatIs_21 (by decide) ?_
      refine lv_iconst (v := (1 : Int32)) hx hb dX7_whatIs_22 (by decide) ?_
      obtain ⟨r23, u23, h23, hf⟩ := bd_some hf
      have hPc : va_P D vwCl [] H := hP.sub (ws' := []) [] rfl
      have hDc : va_D A [] := hD.sub (ws' := []) [] (by decide) rfl
      refine calXe (runS E0.b E0.n (As := [.int x3, .int (0 : Int32), .int (1 : Int32)]) (rest := []) ⟨hx, hb, hml, hown, hts⟩ (c_X7_isIn l D cI x3 (0 : Int32) (1 : Int32) _ h23) gX7_whatIs_X7_isIn rfl rfl rfl hdX7_isIn ⟨by decide, by decide⟩ hK hPc hDc rfl hl.1 rfl (Nat.le_of_ble_eq_true rfl) dX7_whatIs_23 ⟨Nat.zero_le _, Nat.zero_le _⟩) hP hD hS hA (fun H locs hP hD hS => ?_)
      have hP : va_P D vwCl (gX7 o_t a_t cI u10) H := hP
      have hD : va_D A (gX7 o_t a_t cI u10) := hD
      refine W.eq (g2 := F0 m 26 ls [.int r23]) rfl ?_
      refine lv_if_ne (tgt := 34) hx hb dX7_whatIs_26 (by decide) (fun c26 => ?_) (fun c26 => ?_)
      · replace hf := it_f c26 hf
        refine lv_iconst (v := (0 : Int32)) hx hb dX7_whatIs_34 (by decide) ?_
        exact j35 u10 x1 x2 x3 (0 : Int32) H locs ls hf hP hD hS (lv_sub hl [0, 1, 2, 3] rfl)
      · replace hf := it_t c26 hf
        refine lv_bipush (v := (-2 : Int32)) hx hb dX7_whatIs_29 (by decide) ?_
        refine lv_goto (tgt := 35) hx hb dX7_whatIs_31 (by decide) ?_
        exact j35 u10 x1 x2 x3 (-2 : Int32) H locs ls hf hP hD hS (lv_sub hl [0, 1, 2, 3] rfl)
    · replace hf := it_t c13 hf
      exact j16 u10 x1 x2 x3 H locs ls hf hP hD hS (lv_sub hl [0, 1, 2, 3] rfl)
abbrev rmX7_row : Room := { frames := 1, cells := 0, slots := 0, locals := 22 }
set_option maxHeartbeats 4000000 in
set_option maxRecDepth 100000 in
theorem c_X7_row (l : Launch) (D : va_G) (cI : ClassId) (o_t : Nat) (a_t : Nat → Nat) (S_t : G) (x1 : Int32) (out : Int32 × G) (hf : f_X7_row S_t x1 = some out) : Cn E0 l yX7_row wsX7_row rmX7_row D cI [.ref o_t, .int x1] (gX7 o_t a_t cI S_t) (some (.int out.1)) (gX7 o_t a_t cI out.2) := by
  refine Cn.mk (cc := cX7_row) (maxL := 3) (ret := (some .int)) (by decide) rfl (Nat.le_of_ble_eq_true rfl) ?_
  intro p e s m below meth c A ls Q hx hb hml hown hts hK hA hP hD hS hl hr hlk hnm hE hQ
  have hown : s.vm.findClass RX7 = some m.cls := hown
  have hinX7 : ∀ w ∈ u_ws RX7 TX7 26, w ∈ wsX7_row := by decide +kernel
  have j24 : ∀ (S_t : G) (l1 : Int32) (l2 : Int32) (H : Heap) (locs : List Loc) (ls : Array Slot), f_X7_row_24 S_t l1 l2 = some out → va_P D vwCl (gX7 o_t a_t cI S_t) H → va_D A (gX7 o_t a_t cI S_t) → va_S A s.heap H locs → lv_has ls 3 [(0, .ref o_t), (1, .int l1), (2, .int l2)] → W p l e rmX7_row s m ([.ref o_t, .int x1] : List Value).toArray below meth c H locs 0 0 Q (F0 m 24 ls []) := by
    intro S_t l1 l2 H locs ls hf hP hD hS hl
    unfold f_X7_row_24 at hf
    refine lv_iload_n hx hb dX7_row_24 rfl (lv_at hl 2 rfl) ?_
    refine lv_if_eq (tgt := 34) hx hb dX7_row_25 (by decide) (fun c25 => ?_) (fun c25 => ?_)
    · replace hf := it_t c25 hf
      refine lv_aload_n hx hb dX7_row_34 rfl (lv_at hl 0 rfl) ?_
      refine va_get (D := D) (ci := 7) (v := .ref (a_t 24)) (C := RX7) (T := TX7) (N := 26) hx hb hts hinX7 hown hK hP 0 rfl rfl 24 (by decide) (hts (.fieldLink RX7 53 "OnlyStrangersHearModel" "row" "[I") (by decide +kernel)) (fun _ h9 => h9) rfl dX7_row_35 ?_
      refine lv_aload_n hx hb dX7_row_38 rfl (lv_at hl 0 rfl) ?_
      refine va_get (D := D) (ci := 7) (v := .int (S_t.1 25)) (C := RX7) (T := TX7) (N := 26) hx hb hts hinX7 hown hK hP 0 rfl rfl 25 (by decide) (hts (.fieldLink RX7 288 "OnlyStrangersHearModel" "rowMany" "I") (by decide +kernel)) (fun _ h9 => h9) rfl dX7_row_39 ?_
      refine lv_iload_n hx hb dX7_row_42 rfl (lv_at hl 1 rfl) ?_
      obtain ⟨b43, hf⟩ := ck_some hf
      refine va_iast hx hb hK hP hD hS 14 0 rfl rfl b43 dX7_row_43 (fun H locs hP hD hS => ?_)
      have hP : va_P D vwCl (gX7 o_t a_t cI (pA S_t 24 (S_t.1 25).toNatClampNeg l1)) H := hP
      have hD : va_D A (gX7 o_t a_t cI (pA S_t 24 (S_t.1 25).toNatClampNeg l1)) := hD
      obtain ⟨g43, e43, hf⟩ := lt_some hf
      rw [← e43] at hP hD
      refine lv_aload_n hx hb dX7_row_44 rfl (lv_at hl 0 rfl) ?_
      refine lv_dup hx hb dX7_row_45 rfl ?_
      refine va_get (D := D) (ci := 7) (v := .int (g43.1 25)) (C := RX7) (T := TX7) (N := 26) hx hb hts hinX7 hown hK hP 0 rfl rfl 25 (by decide) (hts (.fieldLink RX7 288 "OnlyStrangersHearModel" "rowMany" "I") (by decide +kernel)) (fun _ h9 => h9) rfl dX7_row_46 ?_
      refine lv_iconst (v := (1 : Int32)) hx hb dX7_row_49 (by decide) ?_
      refine lv_iadd hx hb dX7_row_50 ?_
      refine va_put (D := D) (ci := 7) (v := .int ((g43.1 25) + (1 : Int32))) (ty := .int) (C := RX7) (T := TX7) (N := 26) hx hb hts hinX7 tyX7 tyX7_ok nmX7 hown hK hP hD hS 0 rfl rfl 25 (by decide) (hts (.fieldLink RX7 288 "OnlyStrangersHearModel" "rowMany" "I") (by decide +kernel)) (fun _ h9 => h9) rfl (by decide +kernel) rfl rfl (Nat.le_of_ble_eq_true rfl) dX7_row_51 (fun H locs hP hD hS => ?_)
      have hP : va_P D vwCl (gX7 o_t a_t cI (pF g43 25 ((g43.1 25) + (1 : Int32)))) H := hP
      have hD : va_D A (gX7 o_t a_t cI (pF g43 25 ((g43.1 25) + (1 : Int32)))) := hD
      obtain ⟨g51, e51, hf⟩ := lt_some hf
      rw [← e51] at hP hD
      refine lv_aload_n hx hb dX7_row_54 rfl (lv_at hl 0 rfl) ?_
      refine va_get (D := D) (ci := 7) (v := .int (g51.1 25)) (C := RX7) (T := TX7) (N := 26) hx hb hts hinX7 hown hK hP 0 rfl rfl 25 (by decide) (hts (.fieldLink RX7 288 "OnlyStrangersHearModel" "rowMany" "I") (by decide +kernel)) (fun _ h9 => h9) rfl dX7_row_55 ?_
      have e := so_some hf
      subst e
      exact ri hx hb hK hr hlk hQ dX7_row_58 hP hD hS
    · replace hf := it_f c25 hf
      refine lv_aload_n hx hb dX7_row_28 rfl (lv_at hl 0 rfl) ?_
      refine lv_iload_n hx hb dX7_row_29 rfl (lv_at hl 2 rfl) ?_
      obtain ⟨r30, u30, h30, hf⟩ := bd_some hf
      refine calX0 (runV E0.b E0.n (As := [.int l2]) (rest := []) ⟨hx, hb, hml, hown, hts⟩ (c_X7_no l D cI o_t a_t S_t l2 _ h30) gX7_row_X7_no rfl rfl rfl hdX7_no ⟨by decide, by decide⟩ hK hP hD 0 rfl rfl rfl hl.1 rfl (Nat.le_of_ble_eq_true rfl) dX7_row_30 ⟨Nat.zero_le _, Nat.zero_le _⟩) hD hS hA (fun H locs hP hD hS => ?_)
      have hP : va_P D vwCl (gX7 o_t a_t cI u30) H := hP
      have hD : va_D A (gX7 o_t a_t cI u30) := hD
      refine W.eq (g2 := F0 m 33 ls [.int r30]) rfl ?_
      have e := so_some hf
      subst e
      exact ri hx hb hK hr hlk hQ dX7_row_33 hP hD hS
  unfold f_X7_row at hf
  have hl : lv_has ls 3 [(0, .ref o_t), (1, .int x1)] := hl
  obtain ⟨H, hHe⟩ : ∃ H : Heap, H = s.heap := ⟨_, rfl⟩
  obtain ⟨locs, hle⟩ : ∃ q : List Loc, q = [] := ⟨_, rfl⟩
  have hS : va_S A s.heap H locs := by rw [hHe, hle]; exact hS
  rw [← hHe] at hP
  suffices hgo : W p l e rmX7_row s m ([.ref o_t, .int x1] : List Value).toArray below meth c H locs 0 0 Q (F0 m 0 ls []) by rw [hHe, hle] at hgo; exact hgo
  clear hHe hle
  refine lv_iload_n hx hb dX7_row_0 rfl (lv_at hl 1 rfl) ?_
  refine lv_iconst (v := (0 : Int32)) hx hb dX7_row_1 (by decide) ?_
  refine lv_bipush (v := (99 : Int32)) hx hb dX7_row_2 (by decide) ?_
  obtain ⟨r4, u4, h4, hf⟩ := bd_some hf
  have hPc : va_P D vwCl [] H := hP.sub (ws' := []) [] rfl
  have hDc : va_D A [] := hD.sub (ws' := []) [] (by decide) rfl
  refine calXe (runS E0.b E0.n (As := [.int x1, .int (0 : Int32), .int (99 : Int32)]) (rest := []) ⟨hx, hb, hml, hown, hts⟩ (c_X7_bound l D cI x1 (0 : Int32) (99 : Int32) _ h4) gX7_row_X7_bound rfl rfl rfl hdX7_bound ⟨by decide, by decide⟩ hK hPc hDc rfl hl.1 rfl (Nat.le_of_ble_eq_true rfl) dX7_row_4 ⟨Nat.zero_le _, Nat.zero_le _⟩) hP hD hS hA (fun H locs hP hD hS => ?_)
  have hP : va_P D vwCl (gX7 o_t a_t cI S_t) H := hP
  have hD : va_D A (gX7 o_t a_t cI S_t) := hD
  refine W.eq (g2 := F0 m 7 ls [.int r4]) rfl ?_
  refine lv_istore_n (lv' := [(2, .int r4), (0, .ref o_t), (1, .int x1)]) hx hb dX7_row_7 rfl hl (by decide) rfl (fun ls hl => ?_)
  refine lv_iload_n hx hb dX7_row_8 rfl (lv_at hl 0 rfl) ?_
  refine lv_if_ne (tgt := 24) hx hb dX7_row_9 (by decide) (fun c9 => ?_) (fun c9 => ?_)
  · replace hf := it_f c9 hf
    exact j24 S_t x1 r4 H locs ls hf hP hD hS (lv_sub hl [1, 2, 0] rfl)
  · replace hf := it_t c9 hf
    refine lv_aload_n hx hb dX7_row_12 rfl (lv_at hl 1 rfl) ?_
    refine va_get (D := D) (ci := 7) (v := .int (S_t.1 25)) (C := RX7) (T := TX7) (N := 26) hx hb hts hinX7 hown hK hP 0 rfl rfl 25 (by decide) (hts (.fieldLink RX7 288 "OnlyStrangersHearModel" "rowMany" "I") (by decide +kernel)) (fun _ h9 => h9) rfl dX7_row_13 ?_
    refine lv_bipush (v := (16 : Int32)) hx hb dX7_row_16 (by decide) ?_
    refine lv_icmp_ne (tgt := 24) hx hb dX7_row_18 (by decide) (fun c18 => ?_) (fun c18 => ?_)
    · replace hf := it_f c18 hf
      exact j24 S_t x1 r4 H locs ls hf hP hD hS (lv_sub hl [1, 2, 0] rfl)
    · replace hf := it_t c18 hf
      refine lv_bipush (v := (-6 : Int32)) hx hb dX7_row_21 (by decide) ?_
      refine lv_istore_n (lv' := [(2, .int (-6 : Int32)), (0, .ref o_t), (1, .int x1)]) hx hb dX7_row_23 rfl hl (by decide) rfl (fun ls hl => ?_)
      exact j24 S_t x1 (-6 : Int32) H locs ls hf hP hD hS (lv_sub hl [1, 2, 0] rfl)
