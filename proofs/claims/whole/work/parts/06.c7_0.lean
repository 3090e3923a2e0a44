abbrev rmX7_no : Room := { frames := 0, cells := 0, slots := 0, locals := 0 }
set_option maxHeartbeats 4000000 in
set_option maxRecDepth 100000 in
theorem c_X7_no (l : Launch) (D : va_G) (cI : ClassId) (o_t : Nat) (a_t : Nat → Nat) (S_t : G) (x1 : Int32) (out : Int32 × G) (hf : f_X7_no S_t x1 = some out) : Cn E0 l yX7_no wsX7_no rmX7_no D cI [.ref o_t, .int x1] (gX7 o_t a_t cI S_t) (some (.int out.1)) (gX7 o_t a_t cI out.2) := by
  refine Cn.mk (cc := cX7_no) (maxL := 2) (ret := (some .int)) (by decide) rfl (Nat.le_of_ble_eq_true rfl) ?_
  intro p e s m below meth c A ls Q hx hb hml hown hts hK hA hP hD hS hl hr hlk hnm hE hQ
  have hown : s.vm.findClass RX7 = some m.cls := hown
  have hinX7 : ∀ w ∈ u_ws RX7 TX7 26, w ∈ wsX7_no := by decide +kernel
  unfold f_X7_no at hf
  have hl : lv_has ls 2 [(0, .ref o_t), (1, .int x1)] := hl
  obtain ⟨H, hHe⟩ : ∃ H : Heap, H = s.heap := ⟨_, rfl⟩
  obtain ⟨locs, hle⟩ : ∃ q : List Loc, q = [] := ⟨_, rfl⟩
  have hS : va_S A s.heap H locs := by rw [hHe, hle]; exact hS
  rw [← hHe] at hP
  suffices hgo : W p l e rmX7_no s m ([.ref o_t, .int x1] : List Value).toArray below meth c H locs 0 0 Q (F0 m 0 ls []) by rw [hHe, hle] at hgo; exact hgo
  clear hHe hle
  refine lv_aload_n hx hb dX7_no_0 rfl (lv_at hl 0 rfl) ?_
  refine va_get (D := D) (ci := 7) (v := .ref (a_t 0)) (C := RX7) (T := TX7) (N := 26) hx hb hts hinX7 hown hK hP 0 rfl rfl 0 (by decide) (hts (.fieldLink RX7 7 "OnlyStrangersHearModel" "refused" "[I") (by decide +kernel)) (fun _ h9 => h9) rfl dX7_no_1 ?_
  refine lv_iload_n hx hb dX7_no_4 rfl (lv_at hl 1 rfl) ?_
  refine lv_ineg hx hb dX7_no_5 ?_
  refine lv_dup2_11 hx hb dX7_no_6 rfl rfl ?_
  obtain ⟨b7, hf⟩ := ck_some hf
  refine va_iald hx hb hK hP 1 0 rfl rfl b7 dX7_no_7 ?_
  refine lv_iconst (v := (1 : Int32)) hx hb dX7_no_8 (by decide) ?_
  refine lv_iadd hx hb dX7_no_9 ?_
  obtain ⟨b10, hf⟩ := ck_some hf
  refine va_iast hx hb hK hP hD hS 1 0 rfl rfl b10 dX7_no_10 (fun H locs hP hD hS => ?_)
  have hP : va_P D vwCl (gX7 o_t a_t cI (pA S_t 0 (-x1).toNatClampNeg ((S_t.2 0 (-x1).toNatClampNeg) + (1 : Int32)))) H := hP
  have hD : va_D A (gX7 o_t a_t cI (pA S_t 0 (-x1).toNatClampNeg ((S_t.2 0 (-x1).toNatClampNeg) + (1 : Int32)))) := hD
  obtain ⟨g10, e10, hf⟩ := lt_some hf
  rw [← e10] at hP hD
  refine lv_iload_n hx hb dX7_no_11 rfl (lv_at hl 1 rfl) ?_
  have e := so_some hf
  subst e
  exact ri hx hb hK hr hlk hQ dX7_no_12 hP hD hS
abbrev rmX7_lower : Room := { frames := 0, cells := 0, slots := 0, locals := 0 }
set_option maxHeartbeats 4000000 in
set_option maxRecDepth 100000 in
theorem c_X7_lower (l : Launch) (D : va_G) (cI : ClassId) (o_t : Nat) (a_t : Nat → Nat) (S_t : G) (x1 : Int32) (out : Int32 × G) (hf : f_X7_lower S_t x1 = some out) : Cn E0 l yX7_lower wsX7_lower rmX7_lower D cI [.ref o_t, .int x1] (gX7 o_t a_t cI S_t) (some (.int out.1)) (gX7 o_t a_t cI out.2) := by
  refine Cn.mk (cc := cX7_lower) (maxL := 2) (ret := (some .int)) (by decide) rfl (Nat.le_of_ble_eq_true rfl) ?_
  intro p e s m below meth c A ls Q hx hb hml hown hts hK hA hP hD hS hl hr hlk hnm hE hQ
  have hown : s.vm.findClass RX7 = some m.cls := hown
  have hinX7 : ∀ w ∈ u_ws RX7 TX7 26, w ∈ wsX7_lower := by decide +kernel
  unfold f_X7_lower at hf
  have hl : lv_has ls 2 [(0, .ref o_t), (1, .int x1)] := hl
  obtain ⟨H, hHe⟩ : ∃ H : Heap, H = s.heap := ⟨_, rfl⟩
  obtain ⟨locs, hle⟩ : ∃ q : List Loc, q = [] := ⟨_, rfl⟩
  have hS : va_S A s.heap H locs := by rw [hHe, hle]; exact hS
  rw [← hHe] at hP
  suffices hgo : W p l e rmX7_lower s m ([.ref o_t, .int x1] : List Value).toArray below meth c H locs 0 0 Q (F0 m 0 ls []) by rw [hHe, hle] at hgo; exact hgo
  clear hHe hle
  refine lv_aload_n hx hb dX7_lower_0 rfl (lv_at hl 0 rfl) ?_
  refine va_get (D := D) (ci := 7) (v := .ref (a_t 0)) (C := RX7) (T := TX7) (N := 26) hx hb hts hinX7 hown hK hP 0 rfl rfl 0 (by decide) (hts (.fieldLink RX7 7 "OnlyStrangersHearModel" "refused" "[I") (by decide +kernel)) (fun _ h9 => h9) rfl dX7_lower_1 ?_
  refine lv_iload_n hx hb dX7_lower_4 rfl (lv_at hl 1 rfl) ?_
  refine lv_ineg hx hb dX7_lower_5 ?_
  refine lv_dup2_11 hx hb dX7_lower_6 rfl rfl ?_
  obtain ⟨b7, hf⟩ := ck_some hf
  refine va_iald hx hb hK hP 1 0 rfl rfl b7 dX7_lower_7 ?_
  refine lv_iconst (v := (1 : Int32)) hx hb dX7_lower_8 (by decide) ?_
  refine lv_iadd hx hb dX7_lower_9 ?_
  obtain ⟨b10, hf⟩ := ck_some hf
  refine va_iast hx hb hK hP hD hS 1 0 rfl rfl b10 dX7_lower_10 (fun H locs hP hD hS => ?_)
  have hP : va_P D vwCl (gX7 o_t a_t cI (pA S_t 0 (-x1).toNatClampNeg ((S_t.2 0 (-x1).toNatClampNeg) + (1 : Int32)))) H := hP
  have hD : va_D A (gX7 o_t a_t cI (pA S_t 0 (-x1).toNatClampNeg ((S_t.2 0 (-x1).toNatClampNeg) + (1 : Int32)))) := hD
  obtain ⟨g10, e10, hf⟩ := lt_some hf
  rw [← e10] at hP hD
  refine lv_ldc (v := (1000000000 : Int32)) hx hb hown (hts (.constant RX7 59 (1000000000)) (by decide +kernel)) dX7_lower_11 ?_
  refine lv_iload_n hx hb dX7_lower_13 rfl (lv_at hl 1 rfl) ?_
  refine lv_isub hx hb dX7_lower_14 ?_
  have e := so_some hf
  subst e
  exact ri hx hb hK hr hlk hQ dX7_lower_15 hP hD hS
abbrev rmX7_lowest : Room := { frames := 0, cells := 0, slots := 0, locals := 0 }
set_option maxHeartbeats 4000000 in
set_option maxRecDepth 100000 in
theorem c_X7_lowest (l : Launch) (D : va_G) (cI : ClassId) (o_t : Nat) (a_t : Nat → Nat) (S_t : G) (x1 : Int32) (out : Int64 × G) (hf : f_X7_lowest S_t x1 = some out) : Cn E0 l yX7_lowest wsX7_lowest rmX7_lowest D cI [.ref o_t, .int x1] (gX7 o_t a_t cI S_t) (some (.long out.1)) (gX7 o_t a_t cI out.2) := by
  refine Cn.mk (cc := cX7_lowest) (maxL := 2) (ret := (some .long)) (by decide) rfl (Nat.le_of_ble_eq_true rfl) ?_
  intro p e s m below meth c A ls Q hx hb hml hown hts hK hA hP hD hS hl hr hlk hnm hE hQ
  have hown : s.vm.findClass RX7 = some m.cls := hown
  have hinX7 : ∀ w ∈ u_ws RX7 TX7 26, w ∈ wsX7_lowest := by decide +kernel
  unfold f_X7_lowest at hf
  have hl : lv_has ls 2 [(0, .ref o_t), (1, .int x1)] := hl
  obtain ⟨H, hHe⟩ : ∃ H : Heap, H = s.heap := ⟨_, rfl⟩
  obtain ⟨locs, hle⟩ : ∃ q : List Loc, q = [] := ⟨_, rfl⟩
  have hS : va_S A s.heap H locs := by rw [hHe, hle]; exact hS
  rw [← hHe] at hP
  suffices hgo : W p l e rmX7_lowest s m ([.ref o_t, .int x1] : List Value).toArray below meth c H locs 0 0 Q (F0 m 0 ls []) by rw [hHe, hle] at hgo; exact hgo
  clear hHe hle
  refine lv_aload_n hx hb dX7_lowest_0 rfl (lv_at hl 0 rfl) ?_
  refine va_get (D := D) (ci := 7) (v := .ref (a_t 0)) (C := RX7) (T := TX7) (N := 26) hx hb hts hinX7 hown hK hP 0 rfl rfl 0 (by decide) (hts (.fieldLink RX7 7 "OnlyStrangersHearModel" "refused" "[I") (by decide +kernel)) (fun _ h9 => h9) rfl dX7_lowest_1 ?_
  refine lv_iload_n hx hb dX7_lowest_4 rfl (lv_at hl 1 rfl) ?_
  refine lv_ineg hx hb dX7_lowest_5 ?_
  refine lv_dup2_11 hx hb dX7_lowest_6 rfl rfl ?_
  obtain ⟨b7, hf⟩ := ck_some hf
  refine va_iald hx hb hK hP 1 0 rfl rfl b7 dX7_lowest_7 ?_
  refine lv_iconst (v := (1 : Int32)) hx hb dX7_lowest_8 (by decide) ?_
  refine lv_iadd hx hb dX7_lowest_9 ?_
  obtain ⟨b10, hf⟩ := ck_some hf
  refine va_iast hx hb hK hP hD hS 1 0 rfl rfl b10 dX7_lowest_10 (fun H locs hP hD hS => ?_)
  have hP : va_P D vwCl (gX7 o_t a_t cI (pA S_t 0 (-x1).toNatClampNeg ((S_t.2 0 (-x1).toNatClampNeg) + (1 : Int32)))) H := hP
  have hD : va_D A (gX7 o_t a_t cI (pA S_t 0 (-x1).toNatClampNeg ((S_t.2 0 (-x1).toNatClampNeg) + (1 : Int32)))) := hD
  obtain ⟨g10, e10, hf⟩ := lt_some hf
  rw [← e10] at hP hD
  refine lv_ldc2 (v := (4000000000000000000 : Int64)) hx hb hown (hts (.constantLong RX7 60 (4000000000000000000)) (by decide +kernel)) dX7_lowest_11 ?_
  refine lv_iload_n hx hb dX7_lowest_14 rfl (lv_at hl 1 rfl) ?_
  refine lv_i2l (v := x1.toInt64) hx hb dX7_lowest_15 rfl ?_
  refine lv_lsub hx hb dX7_lowest_16 ?_
  have e := so_some hf
  subst e
  exact rl hx hb hK hr hlk hQ dX7_lowest_17 hP hD hS
abbrev rmX7_isIn : Room := { frames := 0, cells := 0, slots := 0, locals := 0 }
set_option maxHeartbeats 4000000 in
set_option maxRecDepth 100000 in
theorem c_X7_isIn (l : Launch) (D : va_G) (cI : ClassId) (x0 : Int32) (x1 : Int32) (x2 : Int32) (out : Int32 × Unit) (hf : f_X7_isIn x0 x1 x2 = some out) : Cn E0 l yX7_isIn wsX7_isIn rmX7_isIn D cI [.int x0, .int x1, .int x2] ([]) (some (.int out.1)) ([]) := by
  refine Cn.mk (cc := cX7_isIn) (maxL := 3) (ret := (some .boolean)) (by decide) rfl (Nat.le_of_ble_eq_true rfl) ?_
  intro p e s m below meth c A ls Q hx hb hml hown hts hK hA hP hD hS hl hr hlk hnm hE hQ
  have hown : s.vm.findClass RX7 = some m.cls := hown
  unfold f_X7_isIn at hf
  have hl : lv_has ls 3 [(0, .int x0), (1, .int x1), (2, .int x2)] := hl
  obtain ⟨H, hHe⟩ : ∃ H : Heap, H = s.heap := ⟨_, rfl⟩
  obtain ⟨locs, hle⟩ : ∃ q : List Loc, q = [] := ⟨_, rfl⟩
  have hS : va_S A s.heap H locs := by rw [hHe, hle]; exact hS
  rw [← hHe] at hP
  suffices hgo : W p l e rmX7_isIn s m ([.int x0, .int x1, .int x2] : List Value).toArray below meth c H locs 0 0 Q (F0 m 0 ls []) by rw [hHe, hle] at hgo; exact hgo
  clear hHe hle
  refine lv_iload_n hx hb dX7_isIn_0 rfl (lv_at hl 0 rfl) ?_
  refine lv_iload_n hx hb dX7_isIn_1 rfl (lv_at hl 1 rfl) ?_
  refine lv_icmp_lt (tgt := 14) hx hb dX7_isIn_2 (by decide) (fun c2 => ?_) (fun c2 => ?_)
  · replace hf := it_t c2 hf
    refine lv_iconst (v := (0 : Int32)) hx hb dX7_isIn_14 (by decide) ?_
    have e := so_some hf
    subst e
    exact rz hx hb hK hr hlk (Or.inl rfl) hQ dX7_isIn_15 hP hD hS
  · replace hf := it_f c2 hf
    refine lv_iload_n hx hb dX7_isIn_5 rfl (lv_at hl 0 rfl) ?_
    refine lv_iload_n hx hb dX7_isIn_6 rfl (lv_at hl 2 rfl) ?_
    refine lv_icmp_gt (tgt := 14) hx hb dX7_isIn_7 (by decide) (fun c7 => ?_) (fun c7 => ?_)
    · replace hf := it_t c7 hf
      refine lv_iconst (v := (0 : Int32)) hx hb dX7_isIn_14 (by decide) ?_
      have e := so_some hf
      subst e
      exact rz hx hb hK hr hlk (Or.inl rfl) hQ dX7_isIn_15 hP hD hS
    · replace hf := it_f c7 hf
      refine lv_iconst (v := (1 : Int32)) hx hb dX7_isIn_10 (by decide) ?_
      refine lv_goto (tgt := 15) hx hb dX7_isIn_11 (by decide) ?_
      have e := so_some hf
      subst e
      exact rz hx hb hK hr hlk (Or.inr rfl) hQ dX7_isIn_15 hP hD hS
abbrev rmX7_bound : Room := { frames := 0, cells := 0, slots := 0, locals := 0 }
set_option maxHeartbeats 4000000 in
set_option maxRecDepth 100000 in
theorem c_X7_bound (l : Launch) (D : va_G) (cI : ClassId) (x0 : Int32) (x1 : Int32) (x2 : Int32) (out : Int32 × Unit) (hf : f_X7_bound x0 x1 x2 = some out) : Cn E0 l yX7_bound wsX7_bound rmX7_bound D cI [.int x0, .int x1, .int x2] ([]) (some (.int out.1)) ([]) := by
  refine Cn.mk (cc := cX7_bound) (maxL := 3) (ret := (some .int)) (by decide) rfl (Nat.le_of_ble_eq_true rfl) ?_
  intro p e s m below meth c A ls Q hx hb hml hown hts hK hA hP hD hS hl hr hlk hnm hE hQ
  have hown : s.vm.findClass RX7 = some m.cls := hown
  unfold f_X7_bound at hf
  have hl : lv_has ls 3 [(0, .int x0), (1, .int x1), (2, .int x2)] := hl
  obtain ⟨H, hHe⟩ : ∃ H : Heap, H = s.heap := ⟨_, rfl⟩
  obtain ⟨locs, hle⟩ : ∃ q : List Loc, q = [] := ⟨_, rfl⟩
  have hS : va_S A s.heap H locs := by rw [hHe, hle]; exact hS
  rw [← hHe] at hP
  suffices hgo : W p l e rmX7_bound s m ([.int x0, .int x1, .int x2] : List Value).toArray below meth c H locs 0 0 Q (F0 m 0 ls []) by rw [hHe, hle] at hgo; exact hgo
  clear hHe hle
  refine lv_iload_n hx hb dX7_bound_0 rfl (lv_at hl 0 rfl) ?_
  refine lv_iload_n hx hb dX7_bound_1 rfl (lv_at hl 1 rfl) ?_
  refine lv_icmp_ge (tgt := 10) hx hb dX7_bound_2 (by decide) (fun c2 => ?_) (fun c2 => ?_)
  · replace hf := it_t c2 hf
    refine lv_iload_n hx hb dX7_bound_10 rfl (lv_at hl 0 rfl) ?_
    refine lv_iload_n hx hb dX7_bound_11 rfl (lv_at hl 2 rfl) ?_
    refine lv_icmp_le (tgt := 20) hx hb dX7_bound_12 (by decide) (fun c12 => ?_) (fun c12 => ?_)
    · replace hf := it_t c12 hf
      refine lv_iconst (v := (0 : Int32)) hx hb dX7_bound_20 (by decide) ?_
      have e := so_some hf
      subst e
      exact ri hx hb hK hr hlk hQ dX7_bound_21 hP hD hS
    · replace hf := it_f c12 hf
      refine lv_bipush (v := (-6 : Int32)) hx hb dX7_bound_15 (by decide) ?_
      refine lv_goto (tgt := 21) hx hb dX7_bound_17 (by decide) ?_
      have e := so_some hf
      subst e
      exact ri hx hb hK hr hlk hQ dX7_bound_21 hP hD hS
  · replace hf := it_f c2 hf
    refine lv_bipush (v := (-4 : Int32)) hx hb dX7_bound_5 (by decide) ?_
    refine lv_goto (tgt := 21) hx hb dX7_bound_7 (by decide) ?_
    have e := so_some hf
    subst e
    exact ri hx hb hK hr hlk hQ dX7_bound_21 hP hD hS
abbrev rmX7_held : Room := { frames := 0, cells := 0, slots := 0, locals := 0 }
set_option maxHeartbeats 4000000 in
set_option maxRecDepth 100000 in
theorem c_X7_held (l : Launch) (D : va_G) (cI : ClassId) (x0 : Int32) (x1 : Int32) (x2 : Int32) (out : Int32 × Unit) (hf : f_X7_held x0 x1 x2 = some out) : Cn E0 l yX7_held wsX7_held rmX7_held D cI [.int x0, .int x1, .int x2] ([]) (some (.int out.1)) ([]) := by
  refine Cn.mk (cc := cX7_held) (maxL := 3) (ret := (some .int)) (by decide) rfl (Nat.le_of_ble_eq_true rfl) ?_
  intro p e s m below meth c A ls Q hx hb hml hown hts hK hA hP hD hS hl hr hlk hnm hE hQ
  have hown : s.vm.findClass RX7 = some m.cls := hown
  unfold f_X7_held at hf
  have hl : lv_has ls 3 [(0, .int x0), (1, .int x1), (2, .int x2)] := hl
  obtain ⟨H, hHe⟩ : ∃ H : Heap, H = s.heap := ⟨_, rfl⟩
  obtain ⟨locs, hle⟩ : ∃ q : List Loc, q = [] := ⟨_, rfl⟩
  have hS : va_S A s.heap H locs := by rw [hHe, hle]; exact hS
  rw [← hHe] at hP
  suffices hgo : W p l e rmX7_held s m ([.int x0, .int x1, .int x2] : List Value).toArray below meth c H locs 0 0 Q (F0 m 0 ls []) by rw [hHe, hle] at hgo; exact hgo
  clear hHe hle
  refine lv_iload_n hx hb dX7_held_0 rfl (lv_at hl 0 rfl) ?_
  refine lv_iload_n hx hb dX7_held_1 rfl (lv_at hl 1 rfl) ?_
  refine lv_icmp_ge (tgt := 9) hx hb dX7_held_2 (by decide) (fun c2 => ?_) (fun c2 => ?_)
  · replace hf := it_t c2 hf
    refine lv_iload_n hx hb dX7_held_9 rfl (lv_at hl 0 rfl) ?_
    refine lv_iload_n hx hb dX7_held_10 rfl (lv_at hl 2 rfl) ?_
    refine lv_icmp_le (tgt := 18) hx hb dX7_held_11 (by decide) (fun c11 => ?_) (fun c11 => ?_)
    · replace hf := it_t c11 hf
      refine lv_iload_n hx hb dX7_held_18 rfl (lv_at hl 0 rfl) ?_
      have e := so_some hf
      subst e
      exact ri hx hb hK hr hlk hQ dX7_held_19 hP hD hS
    · replace hf := it_f c11 hf
      refine lv_iload_n hx hb dX7_held_14 rfl (lv_at hl 2 rfl) ?_
      refine lv_goto (tgt := 19) hx hb dX7_held_15 (by decide) ?_
      have e := so_some hf
      subst e
      exact ri hx hb hK hr hlk hQ dX7_held_19 hP hD hS
  · replace hf := it_f c2 hf
    refine lv_iload_n hx hb dX7_held_5 rfl (lv_at hl 1 rfl) ?_
    refine lv_goto (tgt := 19) hx hb dX7_held_6 (by decide) ?_
    have e := so_some hf
    subst e
    exact ri hx hb hK hr hlk hQ dX7_held_19 hP hD hS
abbrev rmX7_has : Room := { frames := 0, cells := 0, slots := 0, locals := 0 }
set_option maxHeartbeats 4000000 in
set_option maxRecDepth 100000 in
theorem c_X7_has (l : Launch) (D : va_G) (cI : ClassId) (x0 : Int32) (x1 : Int32) (out : Int32 × Unit) (hf : f_X7_has x0 x1 = some out) : Cn E0 l yX7_has wsX7_has rmX7_has D cI [.int x0, .int x1] ([]) (some (.int out.1)) ([]) := by
  refine Cn.mk (cc := cX7_has) (maxL := 2) (ret := (some .boolean)) (by decide) rfl (Nat.le_of_ble_eq_true rfl) ?_
  intro p e s m below meth c A ls Q hx hb hml hown hts hK hA hP hD hS hl hr hlk hnm hE hQ
  have hown : s.vm.findClass RX7 = some m.cls := hown
  unfold f_X7_has at hf
  have hl : lv_has ls 2 [(0, .int x0), (1, .int x1)] := hl
  obtain ⟨H, hHe⟩ : ∃ H : Heap, H = s.heap := ⟨_, rfl⟩
  obtain ⟨locs, hle⟩ : ∃ q : List Loc, q = [] := ⟨_, rfl⟩
  have hS : va_S A s.heap H locs := by rw [hHe, hle]; exact hS
  rw [← hHe] at hP
  suffices hgo : W p l e rmX7_has s m ([.int x0, .int x1] : List Value).toArray below meth c H locs 0 0 Q (F0 m 0 ls []) by rw [hHe, hle] at hgo; exact hgo
  clear hHe hle
  refine lv_iload_n hx hb dX7_has_0 rfl (lv_at hl 0 rfl) ?_
  refine lv_iload_n hx hb dX7_has_1 rfl (lv_at hl 1 rfl) ?_
  refine lv_ishr hx hb dX7_has_2 ?_
  refine lv_iconst (v := (1 : Int32)) hx hb dX7_has_3 (by decide) ?_
  refine lv_iand hx hb dX7_has_4 ?_
  refine lv_iconst (v := (1 : Int32)) hx hb dX7_has_5 (by decide) ?_
  refine lv_icmp_ne (tgt := 13) hx hb dX7_has_6 (by decide) (fun c6 => ?_) (fun c6 => ?_)
  · replace hf := it_f c6 hf
    refine lv_iconst (v := (0 : Int32)) hx hb dX7_has_13 (by decide) ?_
    have e := so_some hf
    subst e
    exact rz hx hb hK hr hlk (Or.inl rfl) hQ dX7_has_14 hP hD hS
  · replace hf := it_t c6 hf
    refine lv_iconst (v := (1 : Int32)) hx hb dX7_has_9 (by decide) ?_
    refine lv_goto (tgt := 14) hx hb dX7_has_10 (by decide) ?_
    have e := so_some hf
    subst e
    exact rz hx hb hK hr hlk (Or.inr rfl) hQ dX7_has_14 hP hD hS
abbrev rmX7_bits : Room := { frames := 0, cells := 0, slots := 0, locals := 0 }
set_option maxHeartbeats 4000000 in
set_option maxRecDepth 100000 in
theorem c_X7_bits (l : Launch) (D : va_G) (cI : ClassId) (x0 : Int32) (out : Int32 × Unit) (hf : f_X7_bits x0 = some out) : Cn E0 l yX7_bits wsX7_bits rmX7_bits D cI [.int x0] ([]) (some (.int out.1)) ([]) := by
  refine Cn.mk (cc := cX7_bits) (maxL := 3) (ret := (some .int)) (by decide) rfl (Nat.le_of_ble_eq_true rfl) ?_
  intro p e s m below meth c A ls Q hx hb hml hown hts hK hA hP hD hS hl hr hlk hnm hE hQ
  have hown : s.vm.findClass RX7 = some m.cls := hown
  have j4 : ∀ (n4 : Nat) (l0 : Int32) (l1 : Int32) (l2 : Int32) (H : Heap) (locs : List Loc) (ls : Array Slot), f_X7_bits_4 n4 l0 l1 l2 = some out → va_P D vwCl ([]) H → va_D A ([]) → va_S A s.heap H locs → lv_has ls 3 [(0, .int l0), (1, .int l1), (2, .int l2)] → W p l e rmX7_bits s m ([.int x0] : List Value).toArray below meth c H locs 0 0 Q (F0 m 4 ls []) := by
    intro n4
    induction n4 with
    | zero =>
      intro l0 l1 l2 H locs ls hf
      exact no_some hf
    | succ n4 ih4 =>
      intro l0 l1 l2 H locs ls hf hP hD hS hl
      replace hf : b_X7_bits_4 (f_X7_bits_4 n4) l0 l1 l2 = some out := hf
      unfold b_X7_bits_4 at hf
      refine lv_iload_n hx hb dX7_bits_4 rfl (lv_at hl 2 rfl) ?_
      refine lv_bipush (v := (31 : Int32)) hx hb dX7_bits_5 (by decide) ?_
      refine lv_icmp_ge (tgt := 24) hx hb dX7_bits_7 (by decide) (fun c7 => ?_) (fun c7 => ?_)
      · replace hf := it_t c7 hf
        refine lv_iload_n hx hb dX7_bits_24 rfl (lv_at hl 1 rfl) ?_
        have e := so_some hf
        subst e
        exact ri hx hb hK hr hlk hQ dX7_bits_25 hP hD hS
      · replace hf := it_f c7 hf
        refine lv_iload_n hx hb dX7_bits_10 rfl (lv_at hl 1 rfl) ?_
        refine lv_iload_n hx hb dX7_bits_11 rfl (lv_at hl 0 rfl) ?_
        refine lv_iload_n hx hb dX7_bits_12 rfl (lv_at hl 2 rfl) ?_
        refine lv_ishr hx hb dX7_bits_13 ?_
        refine lv_iconst (v := (1 : Int32)) hx hb dX7_bits_14 (by decide) ?_
        refine lv_iand hx hb dX7_bits_15 ?_
        refine lv_iadd hx hb dX7_bits_16 ?_
        refine lv_topi (fun v17 e17 => ?_)
        replace hf := lt_at e17 hf
        refine lv_istore_n (lv' := [(1, .int v17), (0, .int l0), (2, .int l2)]) hx hb dX7_bits_17 rfl hl (by decide) rfl (fun ls hl => ?_)
        refine lv_iinc (v := l2 + (1 : Int32)) (lv' := [(2, .int (l2 + (1 : Int32))), (1, .int v17), (0, .int l0)]) hx hb dX7_bits_18 hl (k := 2) rfl rfl (by decide) rfl (fun ls hl => ?_)
        refine lv_goto (tgt := 4) hx hb dX7_bits_21 (by decide) ?_
        exact ih4 l0 v17 (l2 + (1 : Int32)) H locs ls hf hP hD hS (lv_sub hl [2, 1, 0] rfl)
  unfold f_X7_bits at hf
  have hl : lv_has ls 3 [(0, .int x0)] := hl
  obtain ⟨H, hHe⟩ : ∃ H : Heap, H = s.heap := ⟨_, rfl⟩
  obtain ⟨locs, hle⟩ : ∃ q : List Loc, q = [] := ⟨_, rfl⟩
  have hS : va_S A s.heap H locs := by rw [hHe, hle]; exact hS
  rw [← hHe] at hP
  suffices hgo : W p l e rmX7_bits s m ([.int x0] : List Value).toArray below meth c H locs 0 0 Q (F0 m 0 ls []) by rw [hHe, hle] at hgo; exact hgo
  clear hHe hle
  refine lv_iconst (v := (0 : Int32)) hx hb dX7_bits_0 (by decide) ?_
  refine lv_istore_n (lv' := [(1, .int (0 : Int32)), (0, .int x0)]) hx hb dX7_bits_1 rfl hl (by decide) rfl (fun ls hl => ?_)
  refine lv_iconst (v := (0 : Int32)) hx hb dX7_bits_2 (by decide) ?_
  refine lv_istore_n (lv' := [(2, .int (0 : Int32)), (1, .int (0 : Int32)), (0, .int x0)]) hx hb dX7_bits_3 rfl hl (by decide) rfl (fun ls hl => ?_)
  exact j4 1000 x0 (0 : Int32) (0 : Int32) H locs ls hf hP hD hS (lv_sub hl [2, 1, 0] rfl)
abbrev rmX7_isBell : Room := { frames := 0, cells := 0, slots := 0, locals := 0 }
set_option maxHeartbeats 4000000 in
set_option maxRecDepth 100000 in
theorem c_X7_isBell (l : Launch) (D : va_G) (cI : ClassId) (o_t : Nat) (a_t : Nat → Nat) (S_t : G) (x1 : Int32) (out : Int32 × G) (hf : f_X7_isBell S_t x1 = some out) : Cn E0 l yX7_isBell wsX7_isBell rmX7_isBell D cI [.ref o_t, .int x1] (gX7 o_t a_t cI S_t) (some (.int out.1)) (gX7 o_t a_t cI out.2) := by
  refine Cn.mk (cc := cX7_isBell) (maxL := 2) (ret := (some .boolean)) (by decide) rfl (Nat.le_of_ble_eq_true rfl) ?_
  intro p e s m below meth c A ls Q hx hb hml hown hts hK hA hP hD hS hl hr hlk hnm hE hQ
  have hown : s.vm.findClass RX7 = some m.cls := hown
  have hinX7 : ∀ w ∈ u_ws RX7 TX7 26, w ∈ wsX7_isBell := by decide +kernel
  unfold f_X7_isBell at hf
  have hl : lv_has ls 2 [(0, .ref o_t), (1, .int x1)] := hl
  obtain ⟨H, hHe⟩ : ∃ H : Heap, H = s.heap := ⟨_, rfl⟩
  obtain ⟨locs, hle⟩ : ∃ q : List Loc, q = [] := ⟨_, rfl⟩
  have hS : va_S A s.heap H locs := by rw [hHe, hle]; exact hS
  rw [← hHe] at hP
  suffices hgo : W p l e rmX7_isBell s m ([.ref o_t, .int x1] : List Value).toArray below meth c H locs 0 0 Q (F0 m 0 ls []) by rw [hHe, hle] at hgo; exact hgo
  clear hHe hle
  refine lv_iload_n hx hb dX7_isBell_0 rfl (lv_at hl 1 rfl) ?_
  refine lv_if_lt (tgt := 16) hx hb dX7_isBell_1 (by decide) (fun c1 => ?_) (fun c1 => ?_)
  · replace hf := it_t c1 hf
    refine lv_iconst (v := (0 : Int32)) hx hb dX7_isBell_16 (by decide) ?_
    have e := so_some hf
    subst e
    exact rz hx hb hK hr hlk (Or.inl rfl) hQ dX7_isBell_17 hP hD hS
  · replace hf := it_f c1 hf
    refine lv_iload_n hx hb dX7_isBell_4 rfl (lv_at hl 1 rfl) ?_
    refine lv_aload_n hx hb dX7_isBell_5 rfl (lv_at hl 0 rfl) ?_
    refine va_get (D := D) (ci := 7) (v := .int (S_t.1 7)) (C := RX7) (T := TX7) (N := 26) hx hb hts hinX7 hown hK hP 0 rfl rfl 7 (by decide) (hts (.fieldLink RX7 62 "OnlyStrangersHearModel" "bells" "I") (by decide +kernel)) (fun _ h9 => h9) rfl dX7_isBell_6 ?_
    refine lv_icmp_ge (tgt := 16) hx hb dX7_isBell_9 (by decide) (fun c9 => ?_) (fun c9 => ?_)
    · replace hf := it_t c9 hf
      refine lv_iconst (v := (0 : Int32)) hx hb dX7_isBell_16 (by decide) ?_
      have e := so_some hf
      subst e
      exact rz hx hb hK hr hlk (Or.inl rfl) hQ dX7_isBell_17 hP hD hS
    · replace hf := it_f c9 hf
      refine lv_iconst (v := (1 : Int32)) hx hb dX7_isBell_12 (by decide) ?_
      refine lv_goto (tgt := 17) hx hb dX7_isBell_13 (by decide) ?_
      have e := so_some hf
      subst e
      exact rz hx hb hK hr hlk (Or.inr rfl) hQ dX7_isBell_17 hP hD hS
abbrev rmX7_isOne : Room := { frames := 0, cells := 0, slots := 0, locals := 0 }
set_option maxHeartbeats 4000000 in
set_option maxRecDepth 100000 in
theorem c_X7_isOne (l : Launch) (D : va_G) (cI : ClassId) (o_t : Nat) (a_t : Nat → Nat) (S_t : G) (x1 : Int32) (out : Int32 × G) (hf : f_X7_isOne S_t x1 = some out) : Cn E0 l yX7_isOne wsX7_isOne rmX7_isOne D cI [.ref o_t, .int x1] (gX7 o_t a_t cI S_t) (some (.int out.1)) (gX7 o_t a_t cI out.2) := by
  refine Cn.mk (cc := cX7_isOne) (maxL := 2) (ret := (some .boolean)) (by decide) rfl (Nat.le_of_ble_eq_true rfl) ?_
  intro p e s m below meth c A ls Q hx hb hml hown hts hK hA hP hD hS hl hr hlk hnm hE hQ
  have hown : s.vm.findClass RX7 = some m.cls := hown
  have hinX7 : ∀ w ∈ u_ws RX7 TX7 26, w ∈ wsX7_isOne := by decide +kernel
  unfold f_X7_isOne at hf
  have hl : lv_has ls 2 [(0, .ref o_t), (1, .int x1)] := hl
  obtain ⟨H, hHe⟩ : ∃ H : Heap, H = s.heap := ⟨_, rfl⟩
  obtain ⟨locs, hle⟩ : ∃ q : List Loc, q = [] := ⟨_, rfl⟩
  have hS : va_S A s.heap H locs := by rw [hHe, hle]; exact hS
  rw [← hHe] at hP
  suffices hgo : W p l e rmX7_isOne s m ([.ref o_t, .int x1] : List Value).toArray below meth c H locs 0 0 Q (F0 m 0 ls []) by rw [hHe, hle] at hgo; exact hgo
  clear hHe hle
  refine lv_iload_n hx hb dX7_isOne_0 rfl (lv_at hl 1 rfl) ?_
  refine lv_if_lt (tgt := 16) hx hb dX7_isOne_1 (by decide) (fun c1 => ?_) (fun c1 => ?_)
  · replace hf := it_t c1 hf
    refine lv_iconst (v := (0 : Int32)) hx hb dX7_isOne_16 (by decide) ?_
    have e := so_some hf
    subst e
    exact rz hx hb hK hr hlk (Or.inl rfl) hQ dX7_isOne_17 hP hD hS
  · replace hf := it_f c1 hf
    refine lv_iload_n hx hb dX7_isOne_4 rfl (lv_at hl 1 rfl) ?_
    refine lv_aload_n hx hb dX7_isOne_5 rfl (lv_at hl 0 rfl) ?_
    refine va_get (D := D) (ci := 7) (v := .int (S_t.1 8)) (C := RX7) (T := TX7) (N := 26) hx hb hts hinX7 hown hK hP 0 rfl rfl 8 (by decide) (hts (.fieldLink RX7 65 "OnlyStrangersHearModel" "people" "I") (by decide +kernel)) (fun _ h9 => h9) rfl dX7_isOne_6 ?_
    refine lv_icmp_ge (tgt := 16) hx hb dX7_isOne_9 (by decide) (fun c9 => ?_) (fun c9 => ?_)
    · replace hf := it_t c9 hf
      refine lv_iconst (v := (0 : Int32)) hx hb dX7_isOne_16 (by decide) ?_
      have e := so_some hf
      subst e
      exact rz hx hb hK hr hlk (Or.inl rfl) hQ dX7_isOne_17 hP hD hS
    · replace hf := it_f c9 hf
      refine lv_iconst (v := (1 : Int32)) hx hb dX7_isOne_12 (by decide) ?_
      refine lv_goto (tgt := 17) hx hb dX7_isOne_13 (by decide) ?_
      have e := so_some hf
      subst e
      exact rz hx hb hK hr hlk (Or.inr rfl) hQ dX7_isOne_17 hP hD hS
abbrev rmX7_letter : Room := { frames := 1, cells := 0, slots := 0, locals := 22 }
set_option maxHeartbeats 4000000 in
set_option maxRecDepth 100000 in
theorem c_X7_letter (l : Launch) (D : va_G) (cI : ClassId) (o_t : Nat) (a_t : Nat → Nat) (S_t : G) (x1 : Int32) (out : Int32 × G) (hf : f_X7_letter S_t x1 = some out) : Cn E0 l yX7_letter wsX7_letter rmX7_letter D cI [.ref o_t, .int x1] (gX7 o_t a_t cI S_t) (some (.int out.1)) (gX7 o_t a_t cI out.2) := by
  refine Cn.mk (cc := cX7_letter) (maxL := 3) (ret := (some .int)) (by decide) rfl (Nat.le_of_ble_eq_true rfl) ?_
  intro p e s m below meth c A ls Q hx hb hml hown hts hK hA hP hD hS hl hr hlk hnm hE hQ
  have hown : s.vm.findClass RX7 = some m.cls := hown
  have hinX7 : ∀ w ∈ u_ws RX7 TX7 26, w ∈ wsX7_letter := by decide +kernel
  have j25 : ∀ (S_t : G) (l1 : Int32) (l2 : Int32) (H : Heap) (locs : List Loc) (ls : Array Slot), f_X7_letter_25 S_t l1 l2 = some out → va_P D vwCl (gX7 o_t a_t cI S_t) H → va_D A (gX7 o_t a_t cI S_t) → va_S A s.heap H locs → lv_has ls 3 [(0, .ref o_t), (1, .int l1), (2, .int l2)] → W p l e rmX7_letter s m ([.ref o_t, .int x1] : List Value).toArray below meth c H locs 0 0 Q (F0 m 25 ls []) := by
    intro S_t l1 l2 H locs ls hf hP hD hS hl
    unfold f_X7_letter_25 at hf
    refine lv_iload_n hx hb dX7_letter_25 rfl (lv_at hl 2 rfl) ?_
    refine lv_if_eq (tgt := 35) hx hb dX7_letter_26 (by decide) (fun c26 => ?_) (fun c26 => ?_)
    · replace hf := it_t c26 hf
      refine lv_aload_n hx hb dX7_letter_35 rfl (lv_at hl 0 rfl) ?_
      refine va_get (D := D) (ci := 7) (v := .ref (a_t 12)) (C := RX7) (T := TX7) (N := 26) hx hb hts hinX7 hown hK hP 0 rfl rfl 12 (by decide) (hts (.fieldLink RX7 35 "OnlyStrangersHearModel" "tape" "[I") (by decide +kernel)) (fun _ h9 => h9) rfl dX7_letter_36 ?_
      refine lv_aload_n hx hb dX7_letter_39 rfl (lv_at hl 0 rfl) ?_
      refine va_get (D := D) (ci := 7) (v := .int (S_t.1 16)) (C := RX7) (T := TX7) (N := 26) hx hb hts hinX7 hown hK hP 0 rfl rfl 16 (by decide) (hts (.fieldLink RX7 72 "OnlyStrangersHearModel" "taped" "I") (by decide +kernel)) (fun _ h9 => h9) rfl dX7_letter_40 ?_
      refine lv_iload_n hx hb dX7_letter_43 rfl (lv_at hl 1 rfl) ?_
      obtain ⟨b44, hf⟩ := ck_some hf
      refine va_iast hx hb hK hP hD hS 8 0 rfl rfl b44 dX7_letter_44 (fun H locs hP hD hS => ?_)
      have hP : va_P D vwCl (gX7 o_t a_t cI (pA S_t 12 (S_t.1 16).toNatClampNeg l1)) H := hP
      have hD : va_D A (gX7 o_t a_t cI (pA S_t 12 (S_t.1 16).toNatClampNeg l1)) := hD
      obtain ⟨g44, e44, hf⟩ := lt_some hf
      rw [← e44] at hP hD
      refine lv_aload_n hx hb dX7_letter_45 rfl (lv_at hl 0 rfl) ?_
      refine lv_dup hx hb dX7_letter_46 rfl ?_
      refine va_get (D := D) (ci := 7) (v := .int (g44.1 16)) (C := RX7) (T := TX7) (N := 26) hx hb hts hinX7 hown hK hP 0 rfl rfl 16 (by decide) (hts (.fieldLink RX7 72 "OnlyStrangersHearModel" "taped" "I") (by decide +kernel)) (fun _ h9 => h9) rfl dX7_letter_47 ?_
      refine lv_iconst (v := (1 : Int32)) hx hb dX7_letter_50 (by decide) ?_
      refine lv_iadd hx hb dX7_letter_51 ?_
      refine va_put (D := D) (ci := 7) (v := .int ((g44.1 16) + (1 : Int32))) (ty := .int) (C := RX7) (T := TX7) (N := 26) hx hb hts hinX7 tyX7 tyX7_ok nmX7 hown hK hP hD hS 0 rfl rfl 16 (by decide) (hts (.fieldLink RX7 72 "OnlyStrangersHearModel" "taped" "I") (by decide +kernel)) (fun _ h9 => h9) rfl (by decide +kernel) rfl rfl (Nat.le_of_ble_eq_true rfl) dX7_letter_52 (fun H locs hP hD hS => ?_)
      have hP : va_P D vwCl (gX7 o_t a_t cI (pF g44 16 ((g44.1 16) + (1 : Int32)))) H := hP
      have hD : va_D A (gX7 o_t a_t cI (pF g44 16 ((g44.1 16) + (1 : Int32)))) := hD
      obtain ⟨g52, e52, hf⟩ := lt_some hf
      rw [← e52] at hP hD
      refine lv_aload_n hx hb dX7_letter_55 rfl (lv_at hl 0 rfl) ?_
      refine va_get (D := D) (ci := 7) (v := .int (g52.1 16)) (C := RX7) (T := TX7) (N := 26) hx hb hts hinX7 hown hK hP 0 rfl rfl 16 (by decide) (hts (.fieldLink RX7 72 "OnlyStrangersHearModel" "taped" "I") (by decide +kernel)) (fun _ h9 => h9) rfl dX7_letter_56 ?_
      have e := so_some hf
      subst e
      exact ri hx hb hK hr hlk hQ dX7_letter_59 hP hD hS
    · replace hf := it_f c26 hf
      refine lv_aload_n hx hb dX7_letter_29 rfl (lv_at hl 0 rfl) ?_
      refine lv_iload_n hx hb dX7_letter_30 rfl (lv_at hl 2 rfl) ?_
      obtain ⟨r31, u31, h31, hf⟩ := bd_some hf
      refine calX0 (runV E0.b E0.n (As := [.int l2]) (rest := []) ⟨hx, hb, hml, hown, hts⟩ (c_X7_no l D cI o_t a_t S_t l2 _ h31) gX7_letter_X7_no rfl rfl rfl hdX7_no ⟨by decide, by decide⟩ hK hP hD 0 rfl rfl rfl hl.1 rfl (Nat.le_of_ble_eq_true rfl) dX7_letter_31 ⟨Nat.zero_le _, Nat.zero_le _⟩) hD hS hA (fun H locs hP hD hS => ?_)
      have hP : va_P D vwCl (gX7 o_t a_t cI u31) H := hP
      have hD : va_D A (gX7 o_t a_t cI u31) := hD
      refine W.eq (g2 := F0 m 34 ls [.int r31]) rfl ?_
      have e := so_some hf
      subst e
      exact ri hx hb hK hr hlk hQ dX7_letter_34 hP hD hS
  unfold f_X7_letter at hf
  have hl : lv_has ls 3 [(0, .ref o_t), (1, .int x1)] := hl
  obtain ⟨H, hHe⟩ : ∃ H : Heap, H = s.heap := ⟨_, rfl⟩
  obtain ⟨locs, hle⟩ : ∃ q : List Loc, q = [] := ⟨_, rfl⟩
  have hS : va_S A s.heap H locs := by rw [hHe, hle]; exact hS
  rw [← hHe] at hP
  suffices hgo : W p l e rmX7_letter s m ([.ref o_t, .int x1] : List Value).toArray below meth c H locs 0 0 Q (F0 m 0 ls []) by rw [hHe, hle] at hgo; exact hgo
  clear hHe hle
  refine lv_iload_n hx hb dX7_letter_0 rfl (lv_at hl 1 rfl) ?_
  refine lv_iconst (v := (0 : Int32)) hx hb dX7_letter_1 (by decide) ?_
  refine lv_sipush (v := (255 : Int32)) hx hb dX7_letter_2 (by decide) ?_
  obtain ⟨r5, u5, h5, hf⟩ := bd_some hf
  have hPc : va_P D vwCl [] H := hP.sub (ws' := []) [] rfl
  have hDc : va_D A [] := hD.sub (ws' := []) [] (by decide) rfl
  refine calXe (runS E0.b E0.n (As := [.int x1, .int (0 : Int32), .int (255 : Int32)]) (rest := []) ⟨hx, hb, hml, hown, hts⟩ (c_X7_bound l D cI x1 (0 : Int32) (255 : Int32) _ h5) gX7_letter_X7_bound rfl rfl rfl hdX7_bound ⟨by decide, by decide⟩ hK hPc hDc rfl hl.1 rfl (Nat.le_of_ble_eq_true rfl) dX7_letter_5 ⟨Nat.zero_le _, Nat.zero_le _⟩) hP hD hS hA (fun H locs hP hD hS => ?_)
  have hP : va_P D vwCl (gX7 o_t a_t cI S_t) H := hP
  have hD : va_D A (gX7 o_t a_t cI S_t) := hD
  refine W.eq (g2 := F0 m 8 ls [.int r5]) rfl ?_
  refine lv_istore_n (lv' := [(2, .int r5), (0, .ref o_t), (1, .int x1)]) hx hb dX7_letter_8 rfl hl (by decide) rfl (fun ls hl => ?_)
  refine lv_iload_n hx hb dX7_letter_9 rfl (lv_at hl 0 rfl) ?_
  refine lv_if_ne (tgt := 25) hx hb dX7_letter_10 (by decide) (fun c10 => ?_) (fun c10 => ?_)
  · replace hf := it_f c10 hf
    exact j25 S_t x1 r5 H locs ls hf hP hD hS (lv_sub hl [1, 2, 0] rfl)
  · replace hf := it_t c10 hf
    refine lv_aload_n hx hb dX7_letter_13 rfl (lv_at hl 1 rfl) ?_
    refine va_get (D := D) (ci := 7) (v := .int (S_t.1 16)) (C := RX7) (T := TX7) (N := 26) hx hb hts hinX7 hown hK hP 0 rfl rfl 16 (by decide) (hts (.fieldLink RX7 72 "OnlyStrangersHearModel" "taped" "I") (by decide +kernel)) (fun _ h9 => h9) rfl dX7_letter_14 ?_
    refine lv_bipush (v := (96 : Int32)) hx hb dX7_letter_17 (by decide) ?_
    refine lv_icmp_ne (tgt := 25) hx hb dX7_letter_19 (by decide) (fun c19 => ?_) (fun c19 => ?_)
    · replace hf := it_f c19 hf
      exact j25 S_t x1 r5 H locs ls hf hP hD hS (lv_sub hl [1, 2, 0] rfl)
    · replace hf := it_t c19 hf
      refine lv_bipush (v := (-6 : Int32)) hx hb dX7_letter_22 (by decide) ?_
      refine lv_istore_n (lv' := [(2, .int (-6 : Int32)), (0, .ref o_t), (1, .int x1)]) hx hb dX7_letter_24 rfl hl (by decide) rfl (fun ls hl => ?_)
      exact j25 S_t x1 (-6 : Int32) H locs ls hf hP hD hS (lv_sub hl [1, 2, 0] rfl)
abbrev rmX7_nextLetter : Room := { frames := 0, cells := 0, slots := 0, locals := 0 }
set_option maxHeartbeats 4000000 in
set_option maxRecDepth 100000 in
theorem c_X7_nextLetter (l : Launch) (D : va_G) (cI : ClassId) (o_t : Nat) (a_t : Nat → Nat) (S_t : G) (out : Int32 × G) (hf : f_X7_nextLetter S_t = some out) : Cn E0 l yX7_nextLetter wsX7_nextLetter rmX7_nextLetter D cI [.ref o_t] (gX7 o_t a_t cI S_t) (some (.int out.1)) (gX7 o_t a_t cI out.2) := by
  refine Cn.mk (cc := cX7_nextLetter) (maxL := 1) (ret := (some .int)) (by decide) rfl (Nat.le_of_ble_eq_true rfl) ?_
  intro p e s m below meth c A ls Q hx hb hml hown hts hK hA hP hD hS hl hr hlk hnm hE hQ
  have hown : s.vm.findClass RX7 = some m.cls := hown
  have hinX7 : ∀ w ∈ u_ws RX7 TX7 26, w ∈ wsX7_nextLetter := by decide +kernel
  unfold f_X7_nextLetter at hf
  have hl : lv_has ls 1 [(0, .ref o_t)] := hl
  obtain ⟨H, hHe⟩ : ∃ H : Heap, H = s.heap := ⟨_, rfl⟩
  obtain ⟨locs, hle⟩ : ∃ q : List Loc, q = [] := ⟨_, rfl⟩
  have hS : va_S A s.heap H locs := by rw [hHe, hle]; exact hS
  rw [← hHe] at hP
  suffices hgo : W p l e rmX7_nextLetter s m ([.ref o_t] : List Value).toArray below meth c H locs 0 0 Q (F0 m 0 ls []) by rw [hHe, hle] at hgo; exact hgo
  clear hHe hle
  refine lv_aload_n hx hb dX7_nextLetter_0 rfl (lv_at hl 0 rfl) ?_
  refine va_get (D := D) (ci := 7) (v := .int (S_t.1 17)) (C := RX7) (T := TX7) (N := 26) hx hb hts hinX7 hown hK hP 0 rfl rfl 17 (by decide) (hts (.fieldLink RX7 79 "OnlyStrangersHearModel" "at" "I") (by decide +kernel)) (fun _ h9 => h9) rfl dX7_nextLetter_1 ?_
  refine lv_aload_n hx hb dX7_nextLetter_4 rfl (lv_at hl 0 rfl) ?_
  refine va_get (D := D) (ci := 7) (v := .int (S_t.1 16)) (C := RX7) (T := TX7) (N := 26) hx hb hts hinX7 hown hK hP 0 rfl rfl 16 (by decide) (hts (.fieldLink RX7 72 "OnlyStrangersHearModel" "taped" "I") (by decide +kernel)) (fun _ h9 => h9) rfl dX7_nextLetter_5 ?_
  refine lv_icmp_ge (tgt := 23) hx hb dX7_nextLetter_8 (by decide) (fun c8 => ?_) (fun c8 => ?_)
  · replace hf := it_t c8 hf
    refine lv_iconst (v := (-1 : Int32)) hx hb dX7_nextLetter_23 (by decide) ?_
    have e := so_some hf
    subst e
    exact ri hx hb hK hr hlk hQ dX7_nextLetter_24 hP hD hS
  · replace hf := it_f c8 hf
    refine lv_aload_n hx hb dX7_nextLetter_11 rfl (lv_at hl 0 rfl) ?_
    refine va_get (D := D) (ci := 7) (v := .ref (a_t 12)) (C := RX7) (T := TX7) (N := 26) hx hb hts hinX7 hown hK hP 0 rfl rfl 12 (by decide) (hts (.fieldLink RX7 35 "OnlyStrangersHearModel" "tape" "[I") (by decide +kernel)) (fun _ h9 => h9) rfl dX7_nextLetter_12 ?_
    refine lv_aload_n hx hb dX7_nextLetter_15 rfl (lv_at hl 0 rfl) ?_
    refine va_get (D := D) (ci := 7) (v := .int (S_t.1 17)) (C := RX7) (T := TX7) (N := 26) hx hb hts hinX7 hown hK hP 0 rfl rfl 17 (by decide) (hts (.fieldLink RX7 79 "OnlyStrangersHearModel" "at" "I") (by decide +kernel)) (fun _ h9 => h9) rfl dX7_nextLetter_16 ?_
    obtain ⟨b19, hf⟩ := ck_some hf
    refine va_iald hx hb hK hP 8 0 rfl rfl b19 dX7_nextLetter_19 ?_
    refine lv_goto (tgt := 24) hx hb dX7_nextLetter_20 (by decide) ?_
    have e := so_some hf
    subst e
    exact ri hx hb hK hr hlk hQ dX7_nextLetter_24 hP hD hS
abbrev rmX7_readsDigits : Room := { frames := 1, cells := 0, slots := 0, locals := 22 }
set_option maxHeartbeats 4000000 in
set_option maxRecDepth 100000 in
theorem c_X7_readsDigits (l : Launch) (D : va_G) (cI : ClassId) (o_t : Nat) (a_t : Nat → Nat) (S_t : G) (x1 : Int32) (x2 : Int32) (out : Int32 × G) (hf : f_X7_readsDigits S_t x1 x2 = some out) : Cn E0 l yX7_readsDigits wsX7_readsDigits rmX7_readsDigits D cI [.ref o_t, .int x1, .int x2] (gX7 o_t a_t cI S_t) (some (.int out.1)) (gX7 o_t a_t cI out.2) := by
  refine Cn.mk (cc := cX7_readsDigits) (maxL := 5) (ret := (some .boolean)) (by decide) rfl (Nat.le_of_ble_eq_true rfl) ?_
  intro p e s m below meth c A ls Q hx hb hml hown hts hK hA hP hD hS hl hr hlk hnm hE hQ
  have hown : s.vm.findClass RX7 = some m.cls := hown
  have hinX7 : ∀ w ∈ u_ws RX7 TX7 26, w ∈ wsX7_readsDigits := by decide +kernel
  have j5 : ∀ (n5 : Nat) (S_t : G) (l1 : Int32) (l2 : Int32) (l3 : Int32) (l4 : Int32) (H : Heap) (locs : List Loc) (ls : Array Slot), f_X7_readsDigits_5 n5 S_t l1 l2 l3 l4 = some out → va_P D vwCl (gX7 o_t a_t cI S_t) H → va_D A (gX7 o_t a_t cI S_t) → va_S A s.heap H locs → lv_has ls 5 [(0, .ref o_t), (1, .int l1), (2, .int l2), (3, .int l3), (4, .int l4)] → W p l e rmX7_readsDigits s m ([.ref o_t, .int x1, .int x2] : List Value).toArray below meth c H locs 0 0 Q (F0 m 5 ls []) := by
    intro n5
    induction n5 with
    | zero =>
      intro S_t l1 l2 l3 l4 H locs ls hf
      exact no_some hf
    | succ n5 ih5 =>
      intro S_t l1 l2 l3 l4 H locs ls hf hP hD hS hl
      replace hf : b_X7_readsDigits_5 (f_X7_readsDigits_5 n5) S_t l1 l2 l3 l4 = some out := hf
      unfold b_X7_readsDigits_5 at hf
      refine lv_iload hx hb dX7_readsDigits_5 (lv_at hl 4 rfl) ?_
      refine lv_iload_n hx hb dX7_readsDigits_7 rfl (lv_at hl 2 rfl) ?_
      refine lv_icmp_ge (tgt := 56) hx hb dX7_readsDigits_8 (by decide) (fun c8 => ?_) (fun c8 => ?_)
      · replace hf := it_t c8 hf
        refine lv_aload_n hx hb dX7_readsDigits_56 rfl (lv_at hl 0 rfl) ?_
        refine va_get (D := D) (ci := 7) (v := .ref (a_t 15)) (C := RX7) (T := TX7) (N := 26) hx hb hts hinX7 hown hK hP 0 rfl rfl 15 (by decide) (hts (.fieldLink RX7 44 "OnlyStrangersHearModel" "told" "[I") (by decide +kernel)) (fun _ h9 => h9) rfl dX7_readsDigits_57 ?_
        refine lv_iload_n hx hb dX7_readsDigits_60 rfl (lv_at hl 1 rfl) ?_
        refine lv_iload_n hx hb dX7_readsDigits_61 rfl (lv_at hl 3 rfl) ?_
        obtain ⟨b62, hf⟩ := ck_some hf
        refine va_iast hx hb hK hP hD hS 11 0 rfl rfl b62 dX7_readsDigits_62 (fun H locs hP hD hS => ?_)
        have hP : va_P D vwCl (gX7 o_t a_t cI (pA S_t 15 l1.toNatClampNeg l3)) H := hP
        have hD : va_D A (gX7 o_t a_t cI (pA S_t 15 l1.toNatClampNeg l3)) := hD
        obtain ⟨g62, e62, hf⟩ := lt_some hf
        rw [← e62] at hP hD
        refine lv_iconst (v := (1 : Int32)) hx hb dX7_readsDigits_63 (by decide) ?_
        have e := so_some hf
        subst e
        exact rz hx hb hK hr hlk (Or.inr rfl) hQ dX7_readsDigits_64 hP hD hS
      · replace hf := it_f c8 hf
        refine lv_aload_n hx hb dX7_readsDigits_11 rfl (lv_at hl 0 rfl) ?_
        obtain ⟨r12, u12, h12, hf⟩ := bd_some hf
        refine calX0 (runV E0.b E0.n (As := []) (rest := []) ⟨hx, hb, hml, hown, hts⟩ (c_X7_nextLetter l D cI o_t a_t S_t _ h12) gX7_readsDigits_X7_nextLetter rfl rfl rfl hdX7_nextLetter ⟨by decide, by decide⟩ hK hP hD 0 rfl rfl rfl hl.1 rfl (Nat.le_of_ble_eq_true rfl) dX7_readsDigits_12 ⟨Nat.zero_le _, Nat.zero_le _⟩) hD hS hA (fun H locs hP hD hS => ?_)
        have hP : va_P D vwCl (gX7 o_t a_t cI u12) H := hP
        have hD : va_D A (gX7 o_t a_t cI u12) := hD
        refine W.eq (g2 := F0 m 15 ls [.int r12]) rfl ?_
        refine lv_bipush (v := (48 : Int32)) hx hb dX7_readsDigits_15 (by decide) ?_
        refine lv_bipush (v := (57 : Int32)) hx hb dX7_readsDigits_17 (by decide) ?_
        obtain ⟨r19, u19, h19, hf⟩ := bd_some hf
        have hPc : va_P D vwCl [] H := hP.sub (ws' := []) [] rfl
        have hDc : va_D A [] := hD.sub (ws' := []) [] (by decide) rfl
        refine calXe (runS E0.b E0.n (As := [.int r12, .int (48 : Int32), .int (57 : Int32)]) (rest := []) ⟨hx, hb, hml, hown, hts⟩ (c_X7_isIn l D cI r12 (48 : Int32) (57 : Int32) _ h19) gX7_readsDigits_X7_isIn rfl rfl rfl hdX7_isIn ⟨by decide, by decide⟩ hK hPc hDc rfl hl.1 rfl (Nat.le_of_ble_eq_true rfl) dX7_readsDigits_19 ⟨Nat.zero_le _, Nat.zero_le _⟩) hP hD hS hA (fun H locs hP hD hS => ?_)
        have hP : va_P D vwCl (gX7 o_t a_t cI u12) H := hP
        have hD : va_D A (gX7 o_t a_t cI u12) := hD
        refine W.eq (g2 := F0 m 22 ls [.int r19]) rfl ?_
        refine lv_if_ne (tgt := 27) hx hb dX7_readsDigits_22 (by decide) (fun c22 => ?_) (fun c22 => ?_)
        · replace hf := it_f c22 hf
          refine lv_bipush (v := (10 : Int32)) hx hb dX7_readsDigits_27 (by decide) ?_
          refine lv_iload_n hx hb dX7_readsDigits_29 rfl (lv_at hl 3 rfl) ?_
          refine lv_imul hx hb dX7_readsDigits_30 ?_
          refine lv_aload_n hx hb dX7_readsDigits_31 rfl (lv_at hl 0 rfl) ?_
          obtain ⟨r32, u32, h32, hf⟩ := bd_some hf
          refine calX0 (runV E0.b E0.n (As := []) (rest := [.int ((10 : Int32) * l3)]) ⟨hx, hb, hml, hown, hts⟩ (c_X7_nextLetter l D cI o_t a_t u12 _ h32) gX7_readsDigits_X7_nextLetter rfl rfl rfl hdX7_nextLetter ⟨by decide, by decide⟩ hK hP hD 0 rfl rfl rfl hl.1 rfl (Nat.le_of_ble_eq_true rfl) dX7_readsDigits_32 ⟨Nat.zero_le _, Nat.zero_le _⟩) hD hS hA (fun H locs hP hD hS => ?_)
          have hP : va_P D vwCl (gX7 o_t a_t cI u32) H := hP
          have hD : va_D A (gX7 o_t a_t cI u32) := hD
          refine W.eq (g2 := F0 m 35 ls [.int r32, .int ((10 : Int32) * l3)]) rfl ?_
          refine lv_iadd hx hb dX7_readsDigits_35 ?_
          refine lv_bipush (v := (48 : Int32)) hx hb dX7_readsDigits_36 (by decide) ?_
          refine lv_isub hx hb dX7_readsDigits_38 ?_
          refine lv_topi (fun v39 e39 => ?_)
          replace hf := lt_at e39 hf
          refine lv_istore_n (lv' := [(3, .int v39), (0, .ref o_t), (1, .int l1), (2, .int l2), (4, .int l4)]) hx hb dX7_readsDigits_39 rfl hl (by decide) rfl (fun ls hl => ?_)
          refine lv_aload_n hx hb dX7_readsDigits_40 rfl (lv_at hl 1 rfl) ?_
          refine lv_dup hx hb dX7_readsDigits_41 rfl ?_
          refine va_get (D := D) (ci := 7) (v := .int (u32.1 17)) (C := RX7) (T := TX7) (N := 26) hx hb hts hinX7 hown hK hP 0 rfl rfl 17 (by decide) (hts (.fieldLink RX7 79 "OnlyStrangersHearModel" "at" "I") (by decide +kernel)) (fun _ h9 => h9) rfl dX7_readsDigits_42 ?_
          refine lv_iconst (v := (1 : Int32)) hx hb dX7_readsDigits_45 (by decide) ?_
          refine lv_iadd hx hb dX7_readsDigits_46 ?_
          refine va_put (D := D) (ci := 7) (v := .int ((u32.1 17) + (1 : Int32))) (ty := .int) (C := RX7) (T := TX7) (N := 26) hx hb hts hinX7 tyX7 tyX7_ok nmX7 hown hK hP hD hS 0 rfl rfl 17 (by decide) (hts (.fieldLink RX7 79 "OnlyStrangersHearModel" "at" "I") (by decide +kernel)) (fun _ h9 => h9) rfl (by decide +kernel) rfl rfl (Nat.le_of_ble_eq_true rfl) dX7_readsDigits_47 (fun H locs hP hD hS => ?_)
          have hP : va_P D vwCl (gX7 o_t a_t cI (pF u32 17 ((u32.1 17) + (1 : Int32)))) H := hP
          have hD : va_D A (gX7 o_t a_t cI (pF u32 17 ((u32.1 17) + (1 : Int32)))) := hD
          obtain ⟨g47, e47, hf⟩ := lt_some hf
          rw [← e47] at hP hD
          refine lv_iinc (v := l4 + (1 : Int32)) (lv' := [(4, .int (l4 + (1 : Int32))), (3, .int v39), (0, .ref o_t), (1, .int l1), (2, .int l2)]) hx hb dX7_readsDigits_50 hl (k := 4) rfl rfl (by decide) rfl (fun ls hl => ?_)
          refine lv_goto (tgt := 5) hx hb dX7_readsDigits_53 (by decide) ?_
          exact ih5 g47 l1 l2 v39 (l4 + (1 : Int32)) H locs ls hf hP hD hS (lv_sub hl [2, 3, 4, 1, 0] rfl)
        · replace hf := it_t c22 hf
          refine lv_iconst (v := (0 : Int32)) hx hb dX7_readsDigits_25 (by decide) ?_
          have e := so_some hf
          subst e
          exact rz hx hb hK hr hlk (Or.inl rfl) hQ dX7_readsDigits_26 hP hD hS
  unfold f_X7_readsDigits at hf
  have hl : lv_has ls 5 [(0, .ref o_t), (1, .int x1), (2, .int x2)] := hl
  obtain ⟨H, hHe⟩ : ∃ H : Heap, H = s.heap := ⟨_, rfl⟩
  obtain ⟨locs, hle⟩ : ∃ q : List Loc, q = [] := ⟨_, rfl⟩
  have hS : va_S A s.heap H locs := by rw [hHe, hle]; exact hS
  rw [← hHe] at hP
  suffices hgo : W p l e rmX7_readsDigits s m ([.ref o_t, .int x1, .int x2] : List Value).toArray below meth c H locs 0 0 Q (F0 m 0 ls []) by rw [hHe, hle] at hgo; exact hgo
  clear hHe hle
  refine lv_iconst (v := (0 : Int32)) hx hb dX7_readsDigits_0 (by decide) ?_
  refine lv_istore_n (lv' := [(3, .int (0 : Int32)), (0, .ref o_t), (1, .int x1), (2, .int x2)]) hx hb dX7_readsDigits_1 rfl hl (by decide) rfl (fun ls hl => ?_)
  refine lv_iconst (v := (0 : Int32)) hx hb dX7_readsDigits_2 (by decide) ?_
  refine lv_istore (lv' := [(4, .int (0 : Int32)), (3, .int (0 : Int32)), (0, .ref o_t), (1, .int x1), (2, .int x2)]) hx hb dX7_readsDigits_3 hl (by decide) rfl (fun ls hl => ?_)
  exact j5 1000 S_t x1 x2 (0 : Int32) (0 : Int32) H locs ls hf hP hD hS (lv_sub hl [2, 3, 4, 1, 0] rfl)
abbrev rmX7_kindOf : Room := { frames := 0, cells := 0, slots := 0, locals := 0 }
set_option maxHeartbeats 4000000 in
set_option maxRecDepth 100000 in
theorem c_X7_kindOf (l : Launch) (D : va_G) (cI : ClassId) (x0 : Int32) (out : Int32 × Unit) (hf : f_X7_kindOf x0 = some out) : Cn E0 l yX7_kindOf wsX7_kindOf rmX7_kindOf D cI [.int x0] ([]) (some (.int out.1)) ([]) := by
  refine Cn.mk (cc := cX7_kindOf) (maxL := 1) (ret := (some .int)) (by decide) rfl (Nat.le_of_ble_eq_true rfl) ?_
  intro p e s m below meth c A ls Q hx hb hml hown hts hK hA hP hD hS hl hr hlk hnm hE hQ
  have hown : s.vm.findClass RX7 = some m.cls := hown
  unfold f_X7_kindOf at hf
  have hl : lv_has ls 1 [(0, .int x0)] := hl
  obtain ⟨H, hHe⟩ : ∃ H : Heap, H = s.heap := ⟨_, rfl⟩
  obtain ⟨locs, hle⟩ : ∃ q : List Loc, q = [] := ⟨_, rfl⟩
  have hS : va_S A s.heap H locs := by rw [hHe, hle]; exact hS
  rw [← hHe] at hP
  suffices hgo : W p l e rmX7_kindOf s m ([.int x0] : List Value).toArray below meth c H locs 0 0 Q (F0 m 0 ls []) by rw [hHe, hle] at hgo; exact hgo
  clear hHe hle
  refine lv_iload_n hx hb dX7_kindOf_0 rfl (lv_at hl 0 rfl) ?_
  refine lv_bipush (v := (112 : Int32)) hx hb dX7_kindOf_1 (by decide) ?_
  refine lv_icmp_ne (tgt := 10) hx hb dX7_kindOf_3 (by decide) (fun c3 => ?_) (fun c3 => ?_)
  · replace hf := it_f c3 hf
    refine lv_iload_n hx hb dX7_kindOf_10 rfl (lv_at hl 0 rfl) ?_
    refine lv_bipush (v := (99 : Int32)) hx hb dX7_kindOf_11 (by decide) ?_
    refine lv_icmp_ne (tgt := 20) hx hb dX7_kindOf_13 (by decide) (fun c13 => ?_) (fun c13 => ?_)
    · replace hf := it_f c13 hf
      refine lv_iload_n hx hb dX7_kindOf_20 rfl (lv_at hl 0 rfl) ?_
      refine lv_bipush (v := (119 : Int32)) hx hb dX7_kindOf_21 (by decide) ?_
      refine lv_icmp_ne (tgt := 30) hx hb dX7_kindOf_23 (by decide) (fun c23 => ?_) (fun c23 => ?_)
      · replace hf := it_f c23 hf
        refine lv_iload_n hx hb dX7_kindOf_30 rfl (lv_at hl 0 rfl) ?_
        refine lv_bipush (v := (100 : Int32)) hx hb dX7_kindOf_31 (by decide) ?_
        refine lv_icmp_ne (tgt := 40) hx hb dX7_kindOf_33 (by decide) (fun c33 => ?_) (fun c33 => ?_)
        · replace hf := it_f c33 hf
          refine lv_iload_n hx hb dX7_kindOf_40 rfl (lv_at hl 0 rfl) ?_
          refine lv_bipush (v := (108 : Int32)) hx hb dX7_kindOf_41 (by decide) ?_
          refine lv_icmp_ne (tgt := 50) hx hb dX7_kindOf_43 (by decide) (fun c43 => ?_) (fun c43 => ?_)
          · replace hf := it_f c43 hf
            refine lv_iload_n hx hb dX7_kindOf_50 rfl (lv_at hl 0 rfl) ?_
            refine lv_bipush (v := (111 : Int32)) hx hb dX7_kindOf_51 (by decide) ?_
            refine lv_icmp_ne (tgt := 60) hx hb dX7_kindOf_53 (by decide) (fun c53 => ?_) (fun c53 => ?_)
            · replace hf := it_f c53 hf
              refine lv_iconst (v := (-1 : Int32)) hx hb dX7_kindOf_60 (by decide) ?_
              have e := so_some hf
              subst e
              exact ri hx hb hK hr hlk hQ dX7_kindOf_61 hP hD hS
            · replace hf := it_t c53 hf
              refine lv_iconst (v := (5 : Int32)) hx hb dX7_kindOf_56 (by decide) ?_
              refine lv_goto (tgt := 61) hx hb dX7_kindOf_57 (by decide) ?_
              have e := so_some hf
              subst e
              exact ri hx hb hK hr hlk hQ dX7_kindOf_61 hP hD hS
          · replace hf := it_t c43 hf
            refine lv_iconst (v := (4 : Int32)) hx hb dX7_kindOf_46 (by decide) ?_
            refine lv_goto (tgt := 61) hx hb dX7_kindOf_47 (by decide) ?_
            have e := so_some hf
            subst e
            exact ri hx hb hK hr hlk hQ dX7_kindOf_61 hP hD hS
        · replace hf := it_t c33 hf
          refine lv_iconst (v := (3 : Int32)) hx hb dX7_kindOf_36 (by decide) ?_
          refine lv_goto (tgt := 61) hx hb dX7_kindOf_37 (by decide) ?_
          have e := so_some hf
          subst e
          exact ri hx hb hK hr hlk hQ dX7_kindOf_61 hP hD hS
      · replace hf := it_t c23 hf
        refine lv_iconst (v := (2 : Int32)) hx hb dX7_kindOf_26 (by decide) ?_
        refine lv_goto (tgt := 61) hx hb dX7_kindOf_27 (by decide) ?_
        have e := so_some hf
        subst e
        exact ri hx hb hK hr hlk hQ dX7_kindOf_61 hP hD hS
    · replace hf := it_t c13 hf
      refine lv_iconst (v := (1 : Int32)) hx hb dX7_kindOf_16 (by decide) ?_
      refine lv_goto (tgt := 61) hx hb dX7_kindOf_17 (by decide) ?_
      have e := so_some hf
      subst e
      exact ri hx hb hK hr hlk hQ dX7_kindOf_61 hP hD hS
  · replace hf := it_t c3 hf
    refine lv_iconst (v := (0 : Int32)) hx hb dX7_kindOf_6 (by decide) ?_
    refine lv_goto (tgt := 61) hx hb dX7_kindOf_7 (by decide) ?_
    have e := so_some hf
    subst e
    exact ri hx hb hK hr hlk hQ dX7_kindOf_61 hP hD hS
abbrev rmX7_readsOne : Room := { frames := 2, cells := 0, slots := 0, locals := 46 }
set_option maxHeartbeats 4000000 in
set_option maxRecDepth 100000 in
theorem c_X7_readsOne (l : Launch) (D : va_G) (cI : ClassId) (o_t : Nat) (a_t : Nat → Nat) (S_t : G) (x1 : Int32) (out : Int32 × G) (hf : f_X7_readsOne S_t x1 = some out) : Cn E0 l yX7_readsOne wsX7_readsOne rmX7_readsOne D cI [.ref o_t, .int x1] (gX7 o_t a_t cI S_t) (some (.int out.1)) (gX7 o_t a_t cI out.2) := by
  refine Cn.mk (cc := cX7_readsOne) (maxL := 2) (ret := (some .boolean)) (by decide) rfl (Nat.le_of_ble_eq_true rfl) ?_
  intro p e s m below meth c A ls Q hx hb hml hown hts hK hA hP hD hS hl hr hlk hnm hE hQ
  have hown : s.vm.findClass RX7 = some m.cls := hown
  have hinX7 : ∀ w ∈ u_ws RX7 TX7 26, w ∈ wsX7_readsOne := by decide +kernel
  unfold f_X7_readsOne at hf
  have hl : lv_has ls 2 [(0, .ref o_t), (1, .int x1)] := hl
  obtain ⟨H, hHe⟩ : ∃ H : Heap, H = s.heap := ⟨_, rfl⟩
  obtain ⟨locs, hle⟩ : ∃ q : List Loc, q = [] := ⟨_, rfl⟩
  have hS : va_S A s.heap H locs := by rw [hHe, hle]; exact hS
  rw [← hHe] at hP
  suffices hgo : W p l e rmX7_readsOne s m ([.ref o_t, .int x1] : List Value).toArray below meth c H locs 0 0 Q (F0 m 0 ls []) by rw [hHe, hle] at hgo; exact hgo
  clear hHe hle
  refine lv_aload_n hx hb dX7_readsOne_0 rfl (lv_at hl 0 rfl) ?_
  refine va_get (D := D) (ci := 7) (v := .ref (a_t 15)) (C := RX7) (T := TX7) (N := 26) hx hb hts hinX7 hown hK hP 0 rfl rfl 15 (by decide) (hts (.fieldLink RX7 44 "OnlyStrangersHearModel" "told" "[I") (by decide +kernel)) (fun _ h9 => h9) rfl dX7_readsOne_1 ?_
  refine lv_iload_n hx hb dX7_readsOne_4 rfl (lv_at hl 1 rfl) ?_
  refine lv_aload_n hx hb dX7_readsOne_5 rfl (lv_at hl 0 rfl) ?_
  obtain ⟨r6, u6, h6, hf⟩ := bd_some hf
  refine calX0 (runV E0.b E0.n (As := []) (rest := [.int x1, .ref (a_t 15)]) ⟨hx, hb, hml, hown, hts⟩ (c_X7_nextLetter l D cI o_t a_t S_t _ h6) gX7_readsOne_X7_nextLetter rfl rfl rfl hdX7_nextLetter ⟨by decide, by decide⟩ hK hP hD 0 rfl rfl rfl hl.1 rfl (Nat.le_of_ble_eq_true rfl) dX7_readsOne_6 ⟨Nat.zero_le _, Nat.zero_le _⟩) hD hS hA (fun H locs hP hD hS => ?_)
  have hP : va_P D vwCl (gX7 o_t a_t cI u6) H := hP
  have hD : va_D A (gX7 o_t a_t cI u6) := hD
  refine W.eq (g2 := F0 m 9 ls [.int r6, .int x1, .ref (a_t 15)]) rfl ?_
  obtain ⟨r9, u9, h9, hf⟩ := bd_some hf
  have hPc : va_P D vwCl [] H := hP.sub (ws' := []) [] rfl
  have hDc : va_D A [] := hD.sub (ws' := []) [] (by decide) rfl
  refine calXe (runS E0.b E0.n (As := [.int r6]) (rest := [.int x1, .ref (a_t 15)]) ⟨hx, hb, hml, hown, hts⟩ (c_X7_kindOf l D cI r6 _ h9) gX7_readsOne_X7_kindOf rfl rfl rfl hdX7_kindOf ⟨by decide, by decide⟩ hK hPc hDc rfl hl.1 rfl (Nat.le_of_ble_eq_true rfl) dX7_readsOne_9 ⟨Nat.zero_le _, Nat.zero_le _⟩) hP hD hS hA (fun H locs hP hD hS => ?_)
  have hP : va_P D vwCl (gX7 o_t a_t cI u6) H := hP
  have hD : va_D A (gX7 o_t a_t cI u6) := hD
  refine W.eq (g2 := F0 m 12 ls [.int r9, .int x1, .ref (a_t 15)]) rfl ?_
  obtain ⟨b12, hf⟩ := ck_some hf
  refine va_iast hx hb hK hP hD hS 11 0 rfl rfl b12 dX7_readsOne_12 (fun H locs hP hD hS => ?_)
  have hP : va_P D vwCl (gX7 o_t a_t cI (pA u6 15 x1.toNatClampNeg r9)) H := hP
  have hD : va_D A (gX7 o_t a_t cI (pA u6 15 x1.toNatClampNeg r9)) := hD
  obtain ⟨g12, e12, hf⟩ := lt_some hf
  rw [← e12] at hP hD
  refine lv_aload_n hx hb dX7_readsOne_13 rfl (lv_at hl 0 rfl) ?_
  refine va_get (D := D) (ci := 7) (v := .ref (a_t 15)) (C := RX7) (T := TX7) (N := 26) hx hb hts hinX7 hown hK hP 0 rfl rfl 15 (by decide) (hts (.fieldLink RX7 44 "OnlyStrangersHearModel" "told" "[I") (by decide +kernel)) (fun _ h9 => h9) rfl dX7_readsOne_14 ?_
  refine lv_iload_n hx hb dX7_readsOne_17 rfl (lv_at hl 1 rfl) ?_
  obtain ⟨b18, hf⟩ := ck_some hf
  refine va_iald hx hb hK hP 11 0 rfl rfl b18 dX7_readsOne_18 ?_
  refine lv_if_ge (tgt := 24) hx hb dX7_readsOne_19 (by decide) (fun c19 => ?_) (fun c19 => ?_)
  · replace hf := it_t c19 hf
    refine lv_aload_n hx hb dX7_readsOne_24 rfl (lv_at hl 0 rfl) ?_
    refine lv_dup hx hb dX7_readsOne_25 rfl ?_
    refine va_get (D := D) (ci := 7) (v := .int (g12.1 17)) (C := RX7) (T := TX7) (N := 26) hx hb hts hinX7 hown hK hP 0 rfl rfl 17 (by decide) (hts (.fieldLink RX7 79 "OnlyStrangersHearModel" "at" "I") (by decide +kernel)) (fun _ h9 => h9) rfl dX7_readsOne_26 ?_
    refine lv_iconst (v := (1 : Int32)) hx hb dX7_readsOne_29 (by decide) ?_
    refine lv_iadd hx hb dX7_readsOne_30 ?_
    refine va_put (D := D) (ci := 7) (v := .int ((g12.1 17) + (1 : Int32))) (ty := .int) (C := RX7) (T := TX7) (N := 26) hx hb hts hinX7 tyX7 tyX7_ok nmX7 hown hK hP hD hS 0 rfl rfl 17 (by decide) (hts (.fieldLink RX7 79 "OnlyStrangersHearModel" "at" "I") (by decide +kernel)) (fun _ h9 => h9) rfl (by decide +kernel) rfl rfl (Nat.le_of_ble_eq_true rfl) dX7_readsOne_31 (fun H locs hP hD hS => ?_)
    have hP : va_P D vwCl (gX7 o_t a_t cI (pF g12 17 ((g12.1 17) + (1 : Int32)))) H := hP
    have hD : va_D A (gX7 o_t a_t cI (pF g12 17 ((g12.1 17) + (1 : Int32)))) := hD
    obtain ⟨g31, e31, hf⟩ := lt_some hf
    rw [← e31] at hP hD
    refine lv_aload_n hx hb dX7_readsOne_34 rfl (lv_at hl 0 rfl) ?_
    refine lv_iload_n hx hb dX7_readsOne_35 rfl (lv_at hl 1 rfl) ?_
    refine lv_iconst (v := (1 : Int32)) hx hb dX7_readsOne_36 (by decide) ?_
    refine lv_iadd hx hb dX7_readsOne_37 ?_
    refine lv_iconst (v := (1 : Int32)) hx hb dX7_readsOne_38 (by decide) ?_
    obtain ⟨r39, u39, h39, hf⟩ := bd_some hf
    refine calX0 (runV E0.b E0.n (As := [.int (x1 + (1 : Int32)), .int (1 : Int32)]) (rest := []) ⟨hx, hb, hml, hown, hts⟩ (c_X7_readsDigits l D cI o_t a_t g31 (x1 + (1 : Int32)) (1 : Int32) _ h39) gX7_readsOne_X7_readsDigits rfl rfl rfl hdX7_readsDigits ⟨by decide, by decide⟩ hK hP hD 0 rfl rfl rfl hl.1 rfl (Nat.le_of_ble_eq_true rfl) dX7_readsOne_39 ⟨Nat.zero_le _, Nat.zero_le _⟩) hD hS hA (fun H locs hP hD hS => ?_)
    have hP : va_P D vwCl (gX7 o_t a_t cI u39) H := hP
    have hD : va_D A (gX7 o_t a_t cI u39) := hD
    refine W.eq (g2 := F0 m 42 ls [.int r39]) rfl ?_
    refine lv_if_eq (tgt := 60) hx hb dX7_readsOne_42 (by decide) (fun c42 => ?_) (fun c42 => ?_)
    · replace hf := it_t c42 hf
      refine lv_iconst (v := (0 : Int32)) hx hb dX7_readsOne_60 (by decide) ?_
      have e := so_some hf
      subst e
      exact rz hx hb hK hr hlk (Or.inl rfl) hQ dX7_readsOne_61 hP hD hS
    · replace hf := it_f c42 hf
      refine lv_aload_n hx hb dX7_readsOne_45 rfl (lv_at hl 0 rfl) ?_
      refine lv_iload_n hx hb dX7_readsOne_46 rfl (lv_at hl 1 rfl) ?_
      refine lv_iconst (v := (2 : Int32)) hx hb dX7_readsOne_47 (by decide) ?_
      refine lv_iadd hx hb dX7_readsOne_48 ?_
      refine lv_iconst (v := (2 : Int32)) hx hb dX7_readsOne_49 (by decide) ?_
      obtain ⟨r50, u50, h50, hf⟩ := bd_some hf
      refine calX0 (runV E0.b E0.n (As := [.int (x1 + (2 : Int32)), .int (2 : Int32)]) (rest := []) ⟨hx, hb, hml, hown, hts⟩ (c_X7_readsDigits l D cI o_t a_t u39 (x1 + (2 : Int32)) (2 : Int32) _ h50) gX7_readsOne_X7_readsDigits rfl rfl rfl hdX7_readsDigits ⟨by decide, by decide⟩ hK hP hD 0 rfl rfl rfl hl.1 rfl (Nat.le_of_ble_eq_true rfl) dX7_readsOne_50 ⟨Nat.zero_le _, Nat.zero_le _⟩) hD hS hA (fun H locs hP hD hS => ?_)
      have hP : va_P D vwCl (gX7 o_t a_t cI u50) H := hP
      have hD : va_D A (gX7 o_t a_t cI u50) := hD
      refine W.eq (g2 := F0 m 53 ls [.int r50]) rfl ?_
      refine lv_if_eq (tgt := 60) hx hb dX7_readsOne_53 (by decide) (fun c53 => ?_) (fun c53 => ?_)
      · replace hf := it_t c53 hf
        refine lv_iconst (v := (0 : Int32)) hx hb dX7_readsOne_60 (by decide) ?_
        have e := so_some hf
        subst e
        exact rz hx hb hK hr hlk (Or.inl rfl) hQ dX7_readsOne_61 hP hD hS
      · replace hf := it_f c53 hf
        refine lv_iconst (v := (1 : Int32)) hx hb dX7_readsOne_56 (by decide) ?_
        refine lv_goto (tgt := 61) hx hb dX7_readsOne_57 (by decide) ?_
        have e := so_some hf
        subst e
        exact rz hx hb hK hr hlk (Or.inr rfl) hQ dX7_readsOne_61 hP hD hS
  · replace hf := it_f c19 hf
    refine lv_iconst (v := (0 : Int32)) hx hb dX7_readsOne_22 (by decide) ?_
    have e := so_some hf
    subst e
    exact rz hx hb hK hr hlk (Or.inl rfl) hQ dX7_readsOne_23 hP hD hS
abbrev rmX7_readsAll : Room := { frames := 3, cells := 0, slots := 0, locals := 67 }
set_option maxHeartbeats 4000000 in
set_option maxRecDepth 100000 in
theorem c_X7_readsAll (l : Launch) (D : va_G) (cI : ClassId) (o_t : Nat) (a_t : Nat → Nat) (S_t : G) (x1 : Int32) (x2 : Int32) (out : Int32 × G) (hf : f_X7_readsAll S_t x1 x2 = some out) : Cn E0 l yX7_readsAll wsX7_readsAll rmX7_readsAll D cI [.ref o_t, .int x1, .int x2] (gX7 o_t a_t cI S_t) (some (.int out.1)) (gX7 o_t a_t cI out.2) := by
  refine Cn.mk (cc := cX7_readsAll) (maxL := 3) (ret := (some .boolean)) (by decide) rfl (Nat.le_of_ble_eq_true rfl) ?_
  intro p e s m below meth c A ls Q hx hb hml hown hts hK hA hP hD hS hl hr hlk hnm hE hQ
  have hown : s.vm.findClass RX7 = some m.cls := hown
  unfold f_X7_readsAll at hf
  have hl : lv_has ls 3 [(0, .ref o_t), (1, .int x1), (2, .int x2)] := hl
  obtain ⟨H, hHe⟩ : ∃ H : Heap, H = s.heap := ⟨_, rfl⟩
  obtain ⟨locs, hle⟩ : ∃ q : List Loc, q = [] := ⟨_, rfl⟩
  have hS : va_S A s.heap H locs := by rw [hHe, hle]; exact hS
  rw [← hHe] at hP
  suffices hgo : W p l e rmX7_readsAll s m ([.ref o_t, .int x1, .int x2] : List Value).toArray below meth c H locs 0 0 Q (F0 m 0 ls []) by rw [hHe, hle] at hgo; exact hgo
  clear hHe hle
  refine lv_iload_n hx hb dX7_readsAll_0 rfl (lv_at hl 1 rfl) ?_
  by_cases ck98 : x1 = (98 : Int32)
  · replace hf := it_t ck98 hf
    refine lv_lookup (off := 51) (tgt := 52) hx hb dX7_readsAll_1 (by decide) (by rw [ck98]; decide) (by decide) ?_
    refine lv_aload_n hx hb dX7_readsAll_52 rfl (lv_at hl 0 rfl) ?_
    refine lv_iload_n hx hb dX7_readsAll_53 rfl (lv_at hl 2 rfl) ?_
    refine lv_iconst (v := (2 : Int32)) hx hb dX7_readsAll_54 (by decide) ?_
    obtain ⟨r55, u55, h55, hf⟩ := bd_some hf
    refine calX0 (runV E0.b E0.n (As := [.int x2, .int (2 : Int32)]) (rest := []) ⟨hx, hb, hml, hown, hts⟩ (c_X7_readsDigits l D cI o_t a_t S_t x2 (2 : Int32) _ h55) gX7_readsAll_X7_readsDigits rfl rfl rfl hdX7_readsDigits ⟨by decide, by decide⟩ hK hP hD 0 rfl rfl rfl hl.1 rfl (Nat.le_of_ble_eq_true rfl) dX7_readsAll_55 ⟨Nat.zero_le _, Nat.zero_le _⟩) hD hS hA (fun H locs hP hD hS => ?_)
    have hP : va_P D vwCl (gX7 o_t a_t cI u55) H := hP
    have hD : va_D A (gX7 o_t a_t cI u55) := hD
    refine W.eq (g2 := F0 m 58 ls [.int r55]) rfl ?_
    refine lv_if_eq (tgt := 76) hx hb dX7_readsAll_58 (by decide) (fun c58 => ?_) (fun c58 => ?_)
    · replace hf := it_t c58 hf
      refine lv_iconst (v := (0 : Int32)) hx hb dX7_readsAll_76 (by decide) ?_
      have e := so_some hf
      subst e
      exact rz hx hb hK hr hlk (Or.inl rfl) hQ dX7_readsAll_77 hP hD hS
    · replace hf := it_f c58 hf
      refine lv_aload_n hx hb dX7_readsAll_61 rfl (lv_at hl 0 rfl) ?_
      refine lv_iload_n hx hb dX7_readsAll_62 rfl (lv_at hl 2 rfl) ?_
      refine lv_iconst (v := (1 : Int32)) hx hb dX7_readsAll_63 (by decide) ?_
      refine lv_iadd hx hb dX7_readsAll_64 ?_
      refine lv_iconst (v := (1 : Int32)) hx hb dX7_readsAll_65 (by decide) ?_
      obtain ⟨r66, u66, h66, hf⟩ := bd_some hf
      refine calX0 (runV E0.b E0.n (As := [.int (x2 + (1 : Int32)), .int (1 : Int32)]) (rest := []) ⟨hx, hb, hml, hown, hts⟩ (c_X7_readsDigits l D cI o_t a_t u55 (x2 + (1 : Int32)) (1 : Int32) _ h66) gX7_readsAll_X7_readsDigits rfl rfl rfl hdX7_readsDigits ⟨by decide, by decide⟩ hK hP hD 0 rfl rfl rfl hl.1 rfl (Nat.le_of_ble_eq_true rfl) dX7_readsAll_66 ⟨Nat.zero_le _, Nat.zero_le _⟩) hD hS hA (fun H locs hP hD hS => ?_)
      have hP : va_P D vwCl (gX7 o_t a_t cI u66) H := hP
      have hD : va_D A (gX7 o_t a_t cI u66) := hD
      refine W.eq (g2 := F0 m 69 ls [.int r66]) rfl ?_
      refine lv_if_eq (tgt := 76) hx hb dX7_readsAll_69 (by decide) (fun c69 => ?_) (fun c69 => ?_)
      · replace hf := it_t c69 hf
        refine lv_iconst (v := (0 : Int32)) hx hb dX7_readsAll_76 (by decide) ?_
        have e := so_some hf
        subst e
        exact rz hx hb hK hr hlk (Or.inl rfl) hQ dX7_readsAll_77 hP hD hS
      · replace hf := it_f c69 hf
        refine lv_iconst (v := (1 : Int32)) hx hb dX7_readsAll_72 (by decide) ?_
        refine lv_goto (tgt := 77) hx hb dX7_readsAll_73 (by decide) ?_
        have e := so_some hf
        subst e
        exact rz hx hb hK hr hlk (Or.inr rfl) hQ dX7_readsAll_77 hP hD hS
  · replace hf := it_f ck98 hf
    by_cases ck101 : x1 = (101 : Int32)
    · replace hf := it_t ck101 hf
      refine lv_lookup (off := 135) (tgt := 136) hx hb dX7_readsAll_1 (by decide) (by rw [ck101]; decide) (by decide) ?_
      refine lv_aload_n hx hb dX7_readsAll_136 rfl (lv_at hl 0 rfl) ?_
      refine lv_iload_n hx hb dX7_readsAll_137 rfl (lv_at hl 2 rfl) ?_
      refine lv_iconst (v := (1 : Int32)) hx hb dX7_readsAll_138 (by decide) ?_
      obtain ⟨r139, u139, h139, hf⟩ := bd_some hf
      refine calX0 (runV E0.b E0.n (As := [.int x2, .int (1 : Int32)]) (rest := []) ⟨hx, hb, hml, hown, hts⟩ (c_X7_readsDigits l D cI o_t a_t S_t x2 (1 : Int32) _ h139) gX7_readsAll_X7_readsDigits rfl rfl rfl hdX7_readsDigits ⟨by decide, by decide⟩ hK hP hD 0 rfl rfl rfl hl.1 rfl (Nat.le_of_ble_eq_true rfl) dX7_readsAll_139 ⟨Nat.zero_le _, Nat.zero_le _⟩) hD hS hA (fun H locs hP hD hS => ?_)
      have hP : va_P D vwCl (gX7 o_t a_t cI u139) H := hP
      have hD : va_D A (gX7 o_t a_t cI u139) := hD
      refine W.eq (g2 := F0 m 142 ls [.int r139]) rfl ?_
      obtain ⟨z142, hf⟩ := zb_some hf
      have e := so_some hf
      subst e
      exact rz hx hb hK hr hlk z142 hQ dX7_readsAll_142 hP hD hS
    · replace hf := it_f ck101 hf
      by_cases ck103 : x1 = (103 : Int32)
      · replace hf := it_t ck103 hf
        refine lv_lookup (off := 83) (tgt := 84) hx hb dX7_readsAll_1 (by decide) (by rw [ck103]; decide) (by decide) ?_
        refine lv_aload_n hx hb dX7_readsAll_84 rfl (lv_at hl 0 rfl) ?_
        refine lv_iload_n hx hb dX7_readsAll_85 rfl (lv_at hl 2 rfl) ?_
        refine lv_iconst (v := (1 : Int32)) hx hb dX7_readsAll_86 (by decide) ?_
        obtain ⟨r87, u87, h87, hf⟩ := bd_some hf
        refine calX0 (runV E0.b E0.n (As := [.int x2, .int (1 : Int32)]) (rest := []) ⟨hx, hb, hml, hown, hts⟩ (c_X7_readsDigits l D cI o_t a_t S_t x2 (1 : Int32) _ h87) gX7_readsAll_X7_readsDigits rfl rfl rfl hdX7_readsDigits ⟨by decide, by decide⟩ hK hP hD 0 rfl rfl rfl hl.1 rfl (Nat.le_of_ble_eq_true rfl) dX7_readsAll_87 ⟨Nat.zero_le _, Nat.zero_le _⟩) hD hS hA (fun H locs hP hD hS => ?_)
        have hP : va_P D vwCl (gX7 o_t a_t cI u87) H := hP
        have hD : va_D A (gX7 o_t a_t cI u87) := hD
        refine W.eq (g2 := F0 m 90 ls [.int r87]) rfl ?_
        refine lv_if_eq (tgt := 108) hx hb dX7_readsAll_90 (by decide) (fun c90 => ?_) (fun c90 => ?_)
        · replace hf := it_t c90 hf
          refine lv_iconst (v := (0 : Int32)) hx hb dX7_readsAll_108 (by decide) ?_
          have e := so_some hf
          subst e
          exact rz hx hb hK hr hlk (Or.inl rfl) hQ dX7_readsAll_109 hP hD hS
        · replace hf := it_f c90 hf
          refine lv_aload_n hx hb dX7_readsAll_93 rfl (lv_at hl 0 rfl) ?_
          refine lv_iload_n hx hb dX7_readsAll_94 rfl (lv_at hl 2 rfl) ?_
          refine lv_iconst (v := (1 : Int32)) hx hb dX7_readsAll_95 (by decide) ?_
          refine lv_iadd hx hb dX7_readsAll_96 ?_
          refine lv_iconst (v := (1 : Int32)) hx hb dX7_readsAll_97 (by decide) ?_
          obtain ⟨r98, u98, h98, hf⟩ := bd_some hf
          refine calX0 (runV E0.b E0.n (As := [.int (x2 + (1 : Int32)), .int (1 : Int32)]) (rest := []) ⟨hx, hb, hml, hown, hts⟩ (c_X7_readsDigits l D cI o_t a_t u87 (x2 + (1 : Int32)) (1 : Int32) _ h98) gX7_readsAll_X7_readsDigits rfl rfl rfl hdX7_readsDigits ⟨by decide, by decide⟩ hK hP hD 0 rfl rfl rfl hl.1 rfl (Nat.le_of_ble_eq_true rfl) dX7_readsAll_98 ⟨Nat.zero_le _, Nat.zero_le _⟩) hD hS hA (fun H locs hP hD hS => ?_)
          have hP : va_P D vwCl (gX7 o_t a_t cI u98) H := hP
          have hD : va_D A (gX7 o_t a_t cI u98) := hD
          refine W.eq (g2 := F0 m 101 ls [.int r98]) rfl ?_
          refine lv_if_eq (tgt := 108) hx hb dX7_readsAll_101 (by decide) (fun c101 => ?_) (fun c101 => ?_)
          · replace hf := it_t c101 hf
            refine lv_iconst (v := (0 : Int32)) hx hb dX7_readsAll_108 (by decide) ?_
            have e := so_some hf
            subst e
            exact rz hx hb hK hr hlk (Or.inl rfl) hQ dX7_readsAll_109 hP hD hS
          · replace hf := it_f c101 hf
            refine lv_iconst (v := (1 : Int32)) hx hb dX7_readsAll_104 (by decide) ?_
            refine lv_goto (tgt := 109) hx hb dX7_readsAll_105 (by decide) ?_
            have e := so_some hf
            subst e
            exact rz hx hb hK hr hlk (Or.inr rfl) hQ dX7_readsAll_109 hP hD hS
      · replace hf := it_f ck103 hf
        by_cases ck112 : x1 = (112 : Int32)
        · replace hf := it_t ck112 hf
          refine lv_lookup (off := 77) (tgt := 78) hx hb dX7_readsAll_1 (by decide) (by rw [ck112]; decide) (by decide) ?_
          refine lv_aload_n hx hb dX7_readsAll_78 rfl (lv_at hl 0 rfl) ?_
          refine lv_iload_n hx hb dX7_readsAll_79 rfl (lv_at hl 2 rfl) ?_
          obtain ⟨r80, u80, h80, hf⟩ := bd_some hf
          refine calX0 (runV E0.b E0.n (As := [.int x2]) (rest := []) ⟨hx, hb, hml, hown, hts⟩ (c_X7_readsOne l D cI o_t a_t S_t x2 _ h80) gX7_readsAll_X7_readsOne rfl rfl rfl hdX7_readsOne ⟨by decide, by decide⟩ hK hP hD 0 rfl rfl rfl hl.1 rfl (Nat.le_of_ble_eq_true rfl) dX7_readsAll_80 ⟨Nat.zero_le _, Nat.zero_le _⟩) hD hS hA (fun H locs hP hD hS => ?_)
          have hP : va_P D vwCl (gX7 o_t a_t cI u80) H := hP
          have hD : va_D A (gX7 o_t a_t cI u80) := hD
          refine W.eq (g2 := F0 m 83 ls [.int r80]) rfl ?_
          obtain ⟨z83, hf⟩ := zb_some hf
          have e := so_some hf
          subst e
          exact rz hx hb hK hr hlk z83 hQ dX7_readsAll_83 hP hD hS
        · replace hf := it_f ck112 hf
          by_cases ck115 : x1 = (115 : Int32)
          · replace hf := it_t ck115 hf
            refine lv_lookup (off := 109) (tgt := 110) hx hb dX7_readsAll_1 (by decide) (by rw [ck115]; decide) (by decide) ?_
            refine lv_aload_n hx hb dX7_readsAll_110 rfl (lv_at hl 0 rfl) ?_
            refine lv_iload_n hx hb dX7_readsAll_111 rfl (lv_at hl 2 rfl) ?_
            refine lv_iconst (v := (1 : Int32)) hx hb dX7_readsAll_112 (by decide) ?_
            obtain ⟨r113, u113, h113, hf⟩ := bd_some hf
            refine calX0 (runV E0.b E0.n (As := [.int x2, .int (1 : Int32)]) (rest := []) ⟨hx, hb, hml, hown, hts⟩ (c_X7_readsDigits l D cI o_t a_t S_t x2 (1 : Int32) _ h113) gX7_readsAll_X7_readsDigits rfl rfl rfl hdX7_readsDigits ⟨by decide, by decide⟩ hK hP hD 0 rfl rfl rfl hl.1 rfl (Nat.le_of_ble_eq_true rfl) dX7_readsAll_113 ⟨Nat.zero_le _, Nat.zero_le _⟩) hD hS hA (fun H locs hP hD hS => ?_)
            have hP : va_P D vwCl (gX7 o_t a_t cI u113) H := hP
            have hD : va_D A (gX7 o_t a_t cI u113) := hD
            refine W.eq (g2 := F0 m 116 ls [.int r113]) rfl ?_
            refine lv_if_eq (tgt := 134) hx hb dX7_readsAll_116 (by decide) (fun c116 => ?_) (fun c116 => ?_)
            · replace hf := it_t c116 hf
              refine lv_iconst (v := (0 : Int32)) hx hb dX7_readsAll_134 (by decide) ?_
              have e := so_some hf
              subst e
              exact rz hx hb hK hr hlk (Or.inl rfl) hQ dX7_readsAll_135 hP hD hS
            · replace hf := it_f c116 hf
              refine lv_aload_n hx hb dX7_readsAll_119 rfl (lv_at hl 0 rfl) ?_
              refine lv_iload_n hx hb dX7_readsAll_120 rfl (lv_at hl 2 rfl) ?_
              refine lv_iconst (v := (1 : Int32)) hx hb dX7_readsAll_121 (by decide) ?_
              refine lv_iadd hx hb dX7_readsAll_122 ?_
              refine lv_iconst (v := (2 : Int32)) hx hb dX7_readsAll_123 (by decide) ?_
              obtain ⟨r124, u124, h124, hf⟩ := bd_some hf
              refine calX0 (runV E0.b E0.n (As := [.int (x2 + (1 : Int32)), .int (2 : Int32)]) (rest := []) ⟨hx, hb, hml, hown, hts⟩ (c_X7_readsDigits l D cI o_t a_t u113 (x2 + (1 : Int32)) (2 : Int32) _ h124) gX7_readsAll_X7_readsDigits rfl rfl rfl hdX7_readsDigits ⟨by decide, by decide⟩ hK hP hD 0 rfl rfl rfl hl.1 rfl (Nat.le_of_ble_eq_true rfl) dX7_readsAll_124 ⟨Nat.zero_le _, Nat.zero_le _⟩) hD hS hA (fun H locs hP hD hS => ?_)
              have hP : va_P D vwCl (gX7 o_t a_t cI u124) H := hP
              have hD : va_D A (gX7 o_t a_t cI u124) := hD
              refine W.eq (g2 := F0 m 127 ls [.int r124]) rfl ?_
              refine lv_if_eq (tgt := 134) hx hb dX7_readsAll_127 (by decide) (fun c127 => ?_) (fun c127 => ?_)
              · replace hf := it_t c127 hf
                refine lv_iconst (v := (0 : Int32)) hx hb dX7_readsAll_134 (by decide) ?_
                have e := so_some hf
                subst e
                exact rz hx hb hK hr hlk (Or.inl rfl) hQ dX7_readsAll_135 hP hD hS
              · replace hf := it_f c127 hf
                refine lv_iconst (v := (1 : Int32)) hx hb dX7_readsAll_130 (by decide) ?_
                refine lv_goto (tgt := 135) hx hb dX7_readsAll_131 (by decide) ?_
                have e := so_some hf
                subst e
                exact rz hx hb hK hr hlk (Or.inr rfl) hQ dX7_readsAll_135 hP hD hS
          · replace hf := it_f ck115 hf
            refine lv_lookup (off := 142) (tgt := 143) hx hb dX7_readsAll_1 (by decide) (by rw [lv_osw (k := 98) (a := 98) ck98 (by decide)]; rw [lv_osw (k := 101) (a := 101) ck101 (by decide)]; rw [lv_osw (k := 103) (a := 103) ck103 (by decide)]; rw [lv_osw (k := 112) (a := 112) ck112 (by decide)]; rw [lv_osw (k := 115) (a := 115) ck115 (by decide)]; rfl) (by decide) ?_
            refine lv_aload_n hx hb dX7_readsAll_143 rfl (lv_at hl 0 rfl) ?_
            refine lv_iload_n hx hb dX7_readsAll_144 rfl (lv_at hl 2 rfl) ?_
            refine lv_iconst (v := (2 : Int32)) hx hb dX7_readsAll_145 (by decide) ?_
            obtain ⟨r146, u146, h146, hf⟩ := bd_some hf
            refine calX0 (runV E0.b E0.n (As := [.int x2, .int (2 : Int32)]) (rest := []) ⟨hx, hb, hml, hown, hts⟩ (c_X7_readsDigits l D cI o_t a_t S_t x2 (2 : Int32) _ h146) gX7_readsAll_X7_readsDigits rfl rfl rfl hdX7_readsDigits ⟨by decide, by decide⟩ hK hP hD 0 rfl rfl rfl hl.1 rfl (Nat.le_of_ble_eq_true rfl) dX7_readsAll_146 ⟨Nat.zero_le _, Nat.zero_le _⟩) hD hS hA (fun H locs hP hD hS => ?_)
            have hP : va_P D vwCl (gX7 o_t a_t cI u146) H := hP
            have hD : va_D A (gX7 o_t a_t cI u146) := hD
            refine W.eq (g2 := F0 m 149 ls [.int r146]) rfl ?_
            obtain ⟨z149, hf⟩ := zb_some hf
            have e := so_some hf
            subst e
            exact rz hx hb hK hr hlk z149 hQ dX7_readsAll_149 hP hD hS
abbrev rmX7_statement : Room := { frames := 4, cells := 0, slots := 0, locals := 89 }
set_option maxHeartbeats 4000000 in
set_option maxRecDepth 100000 in
theorem c_X7_statement (l : Launch) (D : va_G) (cI : ClassId) (o_t : Nat) (a_t : Nat → Nat) (S_t : G) (out : Int32 × G) (hf : f_X7_statement S_t = some out) : Cn E0 l yX7_statement wsX7_statement rmX7_statement D cI [.ref o_t] (gX7 o_t a_t cI S_t) (some (.int out.1)) (gX7 o_t a_t cI out.2) := by
  refine Cn.mk (cc := cX7_statement) (maxL := 2) (ret := (some .boolean)) (by decide) rfl (Nat.le_of_ble_eq_true rfl) ?_
  intro p e s m below meth c A ls Q hx hb hml hown hts hK hA hP hD hS hl hr hlk hnm hE hQ
  have hown : s.vm.findClass RX7 = some m.cls := hown
  have hinX7 : ∀ w ∈ u_ws RX7 TX7 26, w ∈ wsX7_statement := by decide +kernel
  have j43 : ∀ (S_t : G) (l1 : Int32) (H : Heap) (locs : List Loc) (ls : Array Slot), f_X7_statement_43 S_t l1 = some out → va_P D vwCl (gX7 o_t a_t cI S_t) H → va_D A (gX7 o_t a_t cI S_t) → va_S A s.heap H locs → lv_has ls 2 [(0, .ref o_t), (1, .int l1)] → W p l e rmX7_statement s m ([.ref o_t] : List Value).toArray below meth c H locs 0 0 Q (F0 m 43 ls []) := by
    intro S_t l1 H locs ls hf hP hD hS hl
    unfold f_X7_statement_43 at hf
    refine lv_aload_n hx hb dX7_statement_43 rfl (lv_at hl 0 rfl) ?_
    refine va_get (D := D) (ci := 7) (v := .ref (a_t 13)) (C := RX7) (T := TX7) (N := 26) hx hb hts hinX7 hown hK hP 0 rfl rfl 13 (by decide) (hts (.fieldLink RX7 38 "OnlyStrangersHearModel" "letter" "[I") (by decide +kernel)) (fun _ h9 => h9) rfl dX7_statement_44 ?_
    refine lv_aload_n hx hb dX7_statement_47 rfl (lv_at hl 0 rfl) ?_
    refine va_get (D := D) (ci := 7) (v := .int (S_t.1 18)) (C := RX7) (T := TX7) (N := 26) hx hb hts hinX7 hown hK hP 0 rfl rfl 18 (by decide) (hts (.fieldLink RX7 101 "OnlyStrangersHearModel" "statements" "I") (by decide +kernel)) (fun _ h9 => h9) rfl dX7_statement_48 ?_
    refine lv_iload_n hx hb dX7_statement_51 rfl (lv_at hl 1 rfl) ?_
    obtain ⟨b52, hf⟩ := ck_some hf
    refine va_iast hx hb hK hP hD hS 9 0 rfl rfl b52 dX7_statement_52 (fun H locs hP hD hS => ?_)
    have hP : va_P D vwCl (gX7 o_t a_t cI (pA S_t 13 (S_t.1 18).toNatClampNeg l1)) H := hP
    have hD : va_D A (gX7 o_t a_t cI (pA S_t 13 (S_t.1 18).toNatClampNeg l1)) := hD
    obtain ⟨g52, e52, hf⟩ := lt_some hf
    rw [← e52] at hP hD
    refine lv_aload_n hx hb dX7_statement_53 rfl (lv_at hl 0 rfl) ?_
    refine va_get (D := D) (ci := 7) (v := .ref (a_t 14)) (C := RX7) (T := TX7) (N := 26) hx hb hts hinX7 hown hK hP 0 rfl rfl 14 (by decide) (hts (.fieldLink RX7 41 "OnlyStrangersHearModel" "letterAt" "[I") (by decide +kernel)) (fun _ h9 => h9) rfl dX7_statement_54 ?_
    refine lv_aload_n hx hb dX7_statement_57 rfl (lv_at hl 0 rfl) ?_
    refine va_get (D := D) (ci := 7) (v := .int (g52.1 18)) (C := RX7) (T := TX7) (N := 26) hx hb hts hinX7 hown hK hP 0 rfl rfl 18 (by decide) (hts (.fieldLink RX7 101 "OnlyStrangersHearModel" "statements" "I") (by decide +kernel)) (fun _ h9 => h9) rfl dX7_statement_58 ?_
    refine lv_aload_n hx hb dX7_statement_61 rfl (lv_at hl 0 rfl) ?_
    refine va_get (D := D) (ci := 7) (v := .int (g52.1 17)) (C := RX7) (T := TX7) (N := 26) hx hb hts hinX7 hown hK hP 0 rfl rfl 17 (by decide) (hts (.fieldLink RX7 79 "OnlyStrangersHearModel" "at" "I") (by decide +kernel)) (fun _ h9 => h9) rfl dX7_statement_62 ?_
    obtain ⟨b65, hf⟩ := ck_some hf
    refine va_iast hx hb hK hP hD hS 10 0 rfl rfl b65 dX7_statement_65 (fun H locs hP hD hS => ?_)
    have hP : va_P D vwCl (gX7 o_t a_t cI (pA g52 14 (g52.1 18).toNatClampNeg (g52.1 17))) H := hP
    have hD : va_D A (gX7 o_t a_t cI (pA g52 14 (g52.1 18).toNatClampNeg (g52.1 17))) := hD
    obtain ⟨g65, e65, hf⟩ := lt_some hf
    rw [← e65] at hP hD
    refine lv_aload_n hx hb dX7_statement_66 rfl (lv_at hl 0 rfl) ?_
    refine lv_dup hx hb dX7_statement_67 rfl ?_
    refine va_get (D := D) (ci := 7) (v := .int (g65.1 17)) (C := RX7) (T := TX7) (N := 26) hx hb hts hinX7 hown hK hP 0 rfl rfl 17 (by decide) (hts (.fieldLink RX7 79 "OnlyStrangersHearModel" "at" "I") (by decide +kernel)) (fun _ h9 => h9) rfl dX7_statement_68 ?_
    refine lv_iconst (v := (1 : Int32)) hx hb dX7_statement_71 (by decide) ?_
    refine lv_iadd hx hb dX7_statement_72 ?_
    refine va_put (D := D) (ci := 7) (v := .int ((g65.1 17) + (1 : Int32))) (ty := .int) (C := RX7) (T := TX7) (N := 26) hx hb hts hinX7 tyX7 tyX7_ok nmX7 hown hK hP hD hS 0 rfl rfl 17 (by decide) (hts (.fieldLink RX7 79 "OnlyStrangersHearModel" "at" "I") (by decide +kernel)) (fun _ h9 => h9) rfl (by decide +kernel) rfl rfl (Nat.le_of_ble_eq_true rfl) dX7_statement_73 (fun H locs hP hD hS => ?_)
    have hP : va_P D vwCl (gX7 o_t a_t cI (pF g65 17 ((g65.1 17) + (1 : Int32)))) H := hP
    have hD : va_D A (gX7 o_t a_t cI (pF g65 17 ((g65.1 17) + (1 : Int32)))) := hD
    obtain ⟨g73, e73, hf⟩ := lt_some hf
    rw [← e73] at hP hD
    refine lv_aload_n hx hb dX7_statement_76 rfl (lv_at hl 0 rfl) ?_
    refine lv_iload_n hx hb dX7_statement_77 rfl (lv_at hl 1 rfl) ?_
    refine lv_iconst (v := (3 : Int32)) hx hb dX7_statement_78 (by decide) ?_
    refine lv_aload_n hx hb dX7_statement_79 rfl (lv_at hl 0 rfl) ?_
    refine va_get (D := D) (ci := 7) (v := .int (g73.1 18)) (C := RX7) (T := TX7) (N := 26) hx hb hts hinX7 hown hK hP 0 rfl rfl 18 (by decide) (hts (.fieldLink RX7 101 "OnlyStrangersHearModel" "statements" "I") (by decide +kernel)) (fun _ h9 => h9) rfl dX7_statement_80 ?_
    refine lv_imul hx hb dX7_statement_83 ?_
    obtain ⟨r84, u84, h84, hf⟩ := bd_some hf
    refine calX0 (runV E0.b E0.n (As := [.int l1, .int ((3 : Int32) * (g73.1 18))]) (rest := []) ⟨hx, hb, hml, hown, hts⟩ (c_X7_readsAll l D cI o_t a_t g73 l1 ((3 : Int32) * (g73.1 18)) _ h84) gX7_statement_X7_readsAll rfl rfl rfl hdX7_readsAll ⟨by decide, by decide⟩ hK hP hD 0 rfl rfl rfl hl.1 rfl (Nat.le_of_ble_eq_true rfl) dX7_statement_84 ⟨Nat.zero_le _, Nat.zero_le _⟩) hD hS hA (fun H locs hP hD hS => ?_)
    have hP : va_P D vwCl (gX7 o_t a_t cI u84) H := hP
    have hD : va_D A (gX7 o_t a_t cI u84) := hD
    refine W.eq (g2 := F0 m 87 ls [.int r84]) rfl ?_
    refine lv_if_eq (tgt := 99) hx hb dX7_statement_87 (by decide) (fun c87 => ?_) (fun c87 => ?_)
    · replace hf := it_t c87 hf
      refine lv_iconst (v := (0 : Int32)) hx hb dX7_statement_99 (by decide) ?_
      have e := so_some hf
      subst e
      exact rz hx hb hK hr hlk (Or.inl rfl) hQ dX7_statement_100 hP hD hS
    · replace hf := it_f c87 hf
      refine lv_aload_n hx hb dX7_statement_90 rfl (lv_at hl 0 rfl) ?_
      obtain ⟨r91, u91, h91, hf⟩ := bd_some hf
      refine calX0 (runV E0.b E0.n (As := []) (rest := []) ⟨hx, hb, hml, hown, hts⟩ (c_X7_nextLetter l D cI o_t a_t u84 _ h91) gX7_statement_X7_nextLetter rfl rfl rfl hdX7_nextLetter ⟨by decide, by decide⟩ hK hP hD 0 rfl rfl rfl hl.1 rfl (Nat.le_of_ble_eq_true rfl) dX7_statement_91 ⟨Nat.zero_le _, Nat.zero_le _⟩) hD hS hA (fun H locs hP hD hS => ?_)
      have hP : va_P D vwCl (gX7 o_t a_t cI u91) H := hP
      have hD : va_D A (gX7 o_t a_t cI u91) := hD
      refine W.eq (g2 := F0 m 94 ls [.int r91]) rfl ?_
      refine lv_bipush (v := (59 : Int32)) hx hb dX7_statement_94 (by decide) ?_
      refine lv_icmp_eq (tgt := 101) hx hb dX7_statement_96 (by decide) (fun c96 => ?_) (fun c96 => ?_)
      · replace hf := it_t c96 hf
        refine lv_aload_n hx hb dX7_statement_101 rfl (lv_at hl 0 rfl) ?_
        refine lv_dup hx hb dX7_statement_102 rfl ?_
        refine va_get (D := D) (ci := 7) (v := .int (u91.1 17)) (C := RX7) (T := TX7) (N := 26) hx hb hts hinX7 hown hK hP 0 rfl rfl 17 (by decide) (hts (.fieldLink RX7 79 "OnlyStrangersHearModel" "at" "I") (by decide +kernel)) (fun _ h9 => h9) rfl dX7_statement_103 ?_
        refine lv_iconst (v := (1 : Int32)) hx hb dX7_statement_106 (by decide) ?_
        refine lv_iadd hx hb dX7_statement_107 ?_
        refine va_put (D := D) (ci := 7) (v := .int ((u91.1 17) + (1 : Int32))) (ty := .int) (C := RX7) (T := TX7) (N := 26) hx hb hts hinX7 tyX7 tyX7_ok nmX7 hown hK hP hD hS 0 rfl rfl 17 (by decide) (hts (.fieldLink RX7 79 "OnlyStrangersHearModel" "at" "I") (by decide +kernel)) (fun _ h9 => h9) rfl (by decide +kernel) rfl rfl (Nat.le_of_ble_eq_true rfl) dX7_statement_108 (fun H locs hP hD hS => ?_)
        have hP : va_P D vwCl (gX7 o_t a_t cI (pF u91 17 ((u91.1 17) + (1 : Int32)))) H := hP
        have hD : va_D A (gX7 o_t a_t cI (pF u91 17 ((u91.1 17) + (1 : Int32)))) := hD
        obtain ⟨g108, e108, hf⟩ := lt_some hf
        rw [← e108] at hP hD
        refine lv_iconst (v := (1 : Int32)) hx hb dX7_statement_111 (by decide) ?_
        have e := so_some hf
        subst e
        exact rz hx hb hK hr hlk (Or.inr rfl) hQ dX7_statement_112 hP hD hS
      · replace hf := it_f c96 hf
        refine lv_iconst (v := (0 : Int32)) hx hb dX7_statement_99 (by decide) ?_
        have e := so_some hf
        subst e
        exact rz hx hb hK hr hlk (Or.inl rfl) hQ dX7_statement_100 hP hD hS
  unfold f_X7_statement at hf
  have hl : lv_has ls 2 [(0, .ref o_t)] := hl
  obtain ⟨H, hHe⟩ : ∃ H : Heap, H = s.heap := ⟨_, rfl⟩
  obtain ⟨locs, hle⟩ : ∃ q : List Loc, q = [] := ⟨_, rfl⟩
  have hS : va_S A s.heap H locs := by rw [hHe, hle]; exact hS
  rw [← hHe] at hP
  suffices hgo : W p l e rmX7_statement s m ([.ref o_t] : List Value).toArray below meth c H locs 0 0 Q (F0 m 0 ls []) by rw [hHe, hle] at hgo; exact hgo
  clear hHe hle
  refine lv_aload_n hx hb dX7_statement_0 rfl (lv_at hl 0 rfl) ?_
  obtain ⟨r1, u1, h1, hf⟩ := bd_some hf
  refine calX0 (runV E0.b E0.n (As := []) (rest := []) ⟨hx, hb, hml, hown, hts⟩ (c_X7_nextLetter l D cI o_t a_t S_t _ h1) gX7_statement_X7_nextLetter rfl rfl rfl hdX7_nextLetter ⟨by decide, by decide⟩ hK hP hD 0 rfl rfl rfl hl.1 rfl (Nat.le_of_ble_eq_true rfl) dX7_statement_1 ⟨Nat.zero_le _, Nat.zero_le _⟩) hD hS hA (fun H locs hP hD hS => ?_)
  have hP : va_P D vwCl (gX7 o_t a_t cI u1) H := hP
  have hD : va_D A (gX7 o_t a_t cI u1) := hD
  refine W.eq (g2 := F0 m 4 ls [.int r1]) rfl ?_
  refine lv_istore_n (lv' := [(1, .int r1), (0, .ref o_t)]) hx hb dX7_statement_4 rfl hl (by decide) rfl (fun ls hl => ?_)
  refine lv_iload_n hx hb dX7_statement_5 rfl (lv_at hl 0 rfl) ?_
  refine lv_bipush (v := (98 : Int32)) hx hb dX7_statement_6 (by decide) ?_
  refine lv_icmp_eq (tgt := 43) hx hb dX7_statement_8 (by decide) (fun c8 => ?_) (fun c8 => ?_)
  · replace hf := it_t c8 hf
    exact j43 u1 r1 H locs ls hf hP hD hS (lv_sub hl [1, 0] rfl)
  · replace hf := it_f c8 hf
    refine lv_iload_n hx hb dX7_statement_11 rfl (lv_at hl 0 rfl) ?_
    refine lv_bipush (v := (112 : Int32)) hx hb dX7_statement_12 (by decide) ?_
    refine lv_icmp_eq (tgt := 43) hx hb dX7_statement_14 (by decide) (fun c14 => ?_) (fun c14 => ?_)
    · replace hf := it_t c14 hf
      exact j43 u1 r1 H locs ls hf hP hD hS (lv_sub hl [1, 0] rfl)
    · replace hf := it_f c14 hf
      refine lv_iload_n hx hb dX7_statement_17 rfl (lv_at hl 0 rfl) ?_
      refine lv_bipush (v := (103 : Int32)) hx hb dX7_statement_18 (by decide) ?_
      refine lv_icmp_eq (tgt := 43) hx hb dX7_statement_20 (by decide) (fun c20 => ?_) (fun c20 => ?_)
      · replace hf := it_t c20 hf
        exact j43 u1 r1 H locs ls hf hP hD hS (lv_sub hl [1, 0] rfl)
      · replace hf := it_f c20 hf
        refine lv_iload_n hx hb dX7_statement_23 rfl (lv_at hl 0 rfl) ?_
        refine lv_bipush (v := (115 : Int32)) hx hb dX7_statement_24 (by decide) ?_
        refine lv_icmp_eq (tgt := 43) hx hb dX7_statement_26 (by decide) (fun c26 => ?_) (fun c26 => ?_)
        · replace hf := it_t c26 hf
          exact j43 u1 r1 H locs ls hf hP hD hS (lv_sub hl [1, 0] rfl)
        · replace hf := it_f c26 hf
          refine lv_iload_n hx hb dX7_statement_29 rfl (lv_at hl 0 rfl) ?_
          refine lv_bipush (v := (101 : Int32)) hx hb dX7_statement_30 (by decide) ?_
          refine lv_icmp_eq (tgt := 43) hx hb dX7_statement_32 (by decide) (fun c32 => ?_) (fun c32 => ?_)
          · replace hf := it_t c32 hf
            exact j43 u1 r1 H locs ls hf hP hD hS (lv_sub hl [1, 0] rfl)
          · replace hf := it_f c32 hf
            refine lv_iload_n hx hb dX7_statement_35 rfl (lv_at hl 0 rfl) ?_
            refine lv_bipush (v := (100 : Int32)) hx hb dX7_statement_36 (by decide) ?_
            refine lv_icmp_eq (tgt := 43) hx hb dX7_statement_38 (by decide) (fun c38 => ?_) (fun c38 => ?_)
            · replace hf := it_t c38 hf
              exact j43 u1 r1 H locs ls hf hP hD hS (lv_sub hl [1, 0] rfl)
            · replace hf := it_f c38 hf
              refine lv_iconst (v := (0 : Int32)) hx hb dX7_statement_41 (by decide) ?_
              have e := so_some hf
              subst e
              exact rz hx hb hK hr hlk (Or.inl rfl) hQ dX7_statement_42 hP hD hS
abbrev rmX7_comesBell : Room := { frames := 0, cells := 0, slots := 0, locals := 0 }
set_option maxHeartbeats 4000000 in
set_option maxRecDepth 100000 in
theorem c_X7_comesBell (l : Launch) (D : va_G) (cI : ClassId) (o_t : Nat) (a_t : Nat → Nat) (S_t : G) (x1 : Int32) (x2 : Int32) (out : Int32 × G) (hf : f_X7_comesBell S_t x1 x2 = some out) : Cn E0 l yX7_comesBell wsX7_comesBell rmX7_comesBell D cI [.ref o_t, .int x1, .int x2] (gX7 o_t a_t cI S_t) (some (.int out.1)) (gX7 o_t a_t cI out.2) := by
  refine Cn.mk (cc := cX7_comesBell) (maxL := 3) (ret := (some .boolean)) (by decide) rfl (Nat.le_of_ble_eq_true rfl) ?_
  intro p e s m below meth c A ls Q hx hb hml hown hts hK hA hP hD hS hl hr hlk hnm hE hQ
  have hown : s.vm.findClass RX7 = some m.cls := hown
  have hinX7 : ∀ w ∈ u_ws RX7 TX7 26, w ∈ wsX7_comesBell := by decide +kernel
  unfold f_X7_comesBell at hf
  have hl : lv_has ls 3 [(0, .ref o_t), (1, .int x1), (2, .int x2)] := hl
  obtain ⟨H, hHe⟩ : ∃ H : Heap, H = s.heap := ⟨_, rfl⟩
  obtain ⟨locs, hle⟩ : ∃ q : List Loc, q = [] := ⟨_, rfl⟩
  have hS : va_S A s.heap H locs := by rw [hHe, hle]; exact hS
  rw [← hHe] at hP
  suffices hgo : W p l e rmX7_comesBell s m ([.ref o_t, .int x1, .int x2] : List Value).toArray below meth c H locs 0 0 Q (F0 m 0 ls []) by rw [hHe, hle] at hgo; exact hgo
  clear hHe hle
  refine lv_iload_n hx hb dX7_comesBell_0 rfl (lv_at hl 1 rfl) ?_
  refine lv_bipush (v := (24 : Int32)) hx hb dX7_comesBell_1 (by decide) ?_
  refine lv_icmp_ge (tgt := 19) hx hb dX7_comesBell_3 (by decide) (fun c3 => ?_) (fun c3 => ?_)
  · replace hf := it_t c3 hf
    refine lv_iconst (v := (0 : Int32)) hx hb dX7_comesBell_19 (by decide) ?_
    have e := so_some hf
    subst e
    exact rz hx hb hK hr hlk (Or.inl rfl) hQ dX7_comesBell_20 hP hD hS
  · replace hf := it_f c3 hf
    refine lv_iload_n hx hb dX7_comesBell_6 rfl (lv_at hl 2 rfl) ?_
    refine lv_if_eq (tgt := 19) hx hb dX7_comesBell_7 (by decide) (fun c7 => ?_) (fun c7 => ?_)
    · replace hf := it_t c7 hf
      refine lv_iconst (v := (0 : Int32)) hx hb dX7_comesBell_19 (by decide) ?_
      have e := so_some hf
      subst e
      exact rz hx hb hK hr hlk (Or.inl rfl) hQ dX7_comesBell_20 hP hD hS
    · replace hf := it_f c7 hf
      refine lv_aload_n hx hb dX7_comesBell_10 rfl (lv_at hl 0 rfl) ?_
      refine va_get (D := D) (ci := 7) (v := .int (S_t.1 7)) (C := RX7) (T := TX7) (N := 26) hx hb hts hinX7 hown hK hP 0 rfl rfl 7 (by decide) (hts (.fieldLink RX7 62 "OnlyStrangersHearModel" "bells" "I") (by decide +kernel)) (fun _ h9 => h9) rfl dX7_comesBell_11 ?_
      refine lv_bipush (v := (6 : Int32)) hx hb dX7_comesBell_14 (by decide) ?_
      refine lv_icmp_ne (tgt := 21) hx hb dX7_comesBell_16 (by decide) (fun c16 => ?_) (fun c16 => ?_)
      · replace hf := it_f c16 hf
        refine lv_aload_n hx hb dX7_comesBell_21 rfl (lv_at hl 0 rfl) ?_
        refine va_get (D := D) (ci := 7) (v := .ref (a_t 1)) (C := RX7) (T := TX7) (N := 26) hx hb hts hinX7 hown hK hP 0 rfl rfl 1 (by decide) (hts (.fieldLink RX7 13 "OnlyStrangersHearModel" "hour" "[I") (by decide +kernel)) (fun _ h9 => h9) rfl dX7_comesBell_22 ?_
        refine lv_aload_n hx hb dX7_comesBell_25 rfl (lv_at hl 0 rfl) ?_
        refine va_get (D := D) (ci := 7) (v := .int (S_t.1 7)) (C := RX7) (T := TX7) (N := 26) hx hb hts hinX7 hown hK hP 0 rfl rfl 7 (by decide) (hts (.fieldLink RX7 62 "OnlyStrangersHearModel" "bells" "I") (by decide +kernel)) (fun _ h9 => h9) rfl dX7_comesBell_26 ?_
        refine lv_iload_n hx hb dX7_comesBell_29 rfl (lv_at hl 1 rfl) ?_
        obtain ⟨b30, hf⟩ := ck_some hf
        refine va_iast hx hb hK hP hD hS 2 0 rfl rfl b30 dX7_comesBell_30 (fun H locs hP hD hS => ?_)
        have hP : va_P D vwCl (gX7 o_t a_t cI (pA S_t 1 (S_t.1 7).toNatClampNeg x1)) H := hP
        have hD : va_D A (gX7 o_t a_t cI (pA S_t 1 (S_t.1 7).toNatClampNeg x1)) := hD
        obtain ⟨g30, e30, hf⟩ := lt_some hf
        rw [← e30] at hP hD
        refine lv_aload_n hx hb dX7_comesBell_31 rfl (lv_at hl 0 rfl) ?_
        refine va_get (D := D) (ci := 7) (v := .ref (a_t 2)) (C := RX7) (T := TX7) (N := 26) hx hb hts hinX7 hown hK hP 0 rfl rfl 2 (by decide) (hts (.fieldLink RX7 16 "OnlyStrangersHearModel" "every" "[I") (by decide +kernel)) (fun _ h9 => h9) rfl dX7_comesBell_32 ?_
        refine lv_aload_n hx hb dX7_comesBell_35 rfl (lv_at hl 0 rfl) ?_
        refine va_get (D := D) (ci := 7) (v := .int (g30.1 7)) (C := RX7) (T := TX7) (N := 26) hx hb hts hinX7 hown hK hP 0 rfl rfl 7 (by decide) (hts (.fieldLink RX7 62 "OnlyStrangersHearModel" "bells" "I") (by decide +kernel)) (fun _ h9 => h9) rfl dX7_comesBell_36 ?_
        refine lv_iload_n hx hb dX7_comesBell_39 rfl (lv_at hl 2 rfl) ?_
        obtain ⟨b40, hf⟩ := ck_some hf
        refine va_iast hx hb hK hP hD hS 3 0 rfl rfl b40 dX7_comesBell_40 (fun H locs hP hD hS => ?_)
        have hP : va_P D vwCl (gX7 o_t a_t cI (pA g30 2 (g30.1 7).toNatClampNeg x2)) H := hP
        have hD : va_D A (gX7 o_t a_t cI (pA g30 2 (g30.1 7).toNatClampNeg x2)) := hD
        obtain ⟨g40, e40, hf⟩ := lt_some hf
        rw [← e40] at hP hD
        refine lv_aload_n hx hb dX7_comesBell_41 rfl (lv_at hl 0 rfl) ?_
        refine lv_dup hx hb dX7_comesBell_42 rfl ?_
        refine va_get (D := D) (ci := 7) (v := .int (g40.1 7)) (C := RX7) (T := TX7) (N := 26) hx hb hts hinX7 hown hK hP 0 rfl rfl 7 (by decide) (hts (.fieldLink RX7 62 "OnlyStrangersHearModel" "bells" "I") (by decide +kernel)) (fun _ h9 => h9) rfl dX7_comesBell_43 ?_
        refine lv_iconst (v := (1 : Int32)) hx hb dX7_comesBell_46 (by decide) ?_
        refine lv_iadd hx hb dX7_comesBell_47 ?_
        refine va_put (D := D) (ci := 7) (v := .int ((g40.1 7) + (1 : Int32))) (ty := .int) (C := RX7) (T := TX7) (N := 26) hx hb hts hinX7 tyX7 tyX7_ok nmX7 hown hK hP hD hS 0 rfl rfl 7 (by decide) (hts (.fieldLink RX7 62 "OnlyStrangersHearModel" "bells" "I") (by decide +kernel)) (fun _ h9 => h9) rfl (by decide +kernel) rfl rfl (Nat.le_of_ble_eq_true rfl) dX7_comesBell_48 (fun H locs hP hD hS => ?_)
        have hP : va_P D vwCl (gX7 o_t a_t cI (pF g40 7 ((g40.1 7) + (1 : Int32)))) H := hP
        have hD : va_D A (gX7 o_t a_t cI (pF g40 7 ((g40.1 7) + (1 : Int32)))) := hD
        obtain ⟨g48, e48, hf⟩ := lt_some hf
        rw [← e48] at hP hD
        refine lv_iconst (v := (1 : Int32)) hx hb dX7_comesBell_51 (by decide) ?_
        have e := so_some hf
        subst e
        exact rz hx hb hK hr hlk (Or.inr rfl) hQ dX7_comesBell_52 hP hD hS
      · replace hf := it_t c16 hf
        refine lv_iconst (v := (0 : Int32)) hx hb dX7_comesBell_19 (by decide) ?_
        have e := so_some hf
        subst e
        exact rz hx hb hK hr hlk (Or.inl rfl) hQ dX7_comesBell_20 hP hD hS
abbrev rmX7_comesOne : Room := { frames := 0, cells := 0, slots := 0, locals := 0 }
set_option maxHeartbeats 4000000 in
set_option maxRecDepth 100000 in
theorem c_X7_comesOne (l : Launch) (D : va_G) (cI : ClassId) (o_t : Nat) (a_t : Nat → Nat) (S_t : G) (x1 : Int32) (x2 : Int32) (x3 : Int32) (out : Int32 × G) (hf : f_X7_comesOne S_t x1 x2 x3 = some out) : Cn E0 l yX7_comesOne wsX7_comesOne rmX7_comesOne D cI [.ref o_t, .int x1, .int x2, .int x3] (gX7 o_t a_t cI S_t) (some (.int out.1)) (gX7 o_t a_t cI out.2) := by
  refine Cn.mk (cc := cX7_comesOne) (maxL := 4) (ret := (some .boolean)) (by decide) rfl (Nat.le_of_ble_eq_true rfl) ?_
  intro p e s m below meth c A ls Q hx hb hml hown hts hK hA hP hD hS hl hr hlk hnm hE hQ
  have hown : s.vm.findClass RX7 = some m.cls := hown
  have hinX7 : ∀ w ∈ u_ws RX7 TX7 26, w ∈ wsX7_comesOne := by decide +kernel
  unfold f_X7_comesOne at hf
  have hl : lv_has ls 4 [(0, .ref o_t), (1, .int x1), (2, .int x2), (3, .int x3)] := hl
  obtain ⟨H, hHe⟩ : ∃ H : Heap, H = s.heap := ⟨_, rfl⟩
  obtain ⟨locs, hle⟩ : ∃ q : List Loc, q = [] := ⟨_, rfl⟩
  have hS : va_S A s.heap H locs := by rw [hHe, hle]; exact hS
  rw [← hHe] at hP
  suffices hgo : W p l e rmX7_comesOne s m ([.ref o_t, .int x1, .int x2, .int x3] : List Value).toArray below meth c H locs 0 0 Q (F0 m 0 ls []) by rw [hHe, hle] at hgo; exact hgo
  clear hHe hle
  refine lv_aload_n hx hb dX7_comesOne_0 rfl (lv_at hl 0 rfl) ?_
  refine va_get (D := D) (ci := 7) (v := .int (S_t.1 8)) (C := RX7) (T := TX7) (N := 26) hx hb hts hinX7 hown hK hP 0 rfl rfl 8 (by decide) (hts (.fieldLink RX7 65 "OnlyStrangersHearModel" "people" "I") (by decide +kernel)) (fun _ h9 => h9) rfl dX7_comesOne_1 ?_
  refine lv_bipush (v := (8 : Int32)) hx hb dX7_comesOne_4 (by decide) ?_
  refine lv_icmp_ne (tgt := 11) hx hb dX7_comesOne_6 (by decide) (fun c6 => ?_) (fun c6 => ?_)
  · replace hf := it_f c6 hf
    refine lv_aload_n hx hb dX7_comesOne_11 rfl (lv_at hl 0 rfl) ?_
    refine va_get (D := D) (ci := 7) (v := .ref (a_t 3)) (C := RX7) (T := TX7) (N := 26) hx hb hts hinX7 hown hK hP 0 rfl rfl 3 (by decide) (hts (.fieldLink RX7 19 "OnlyStrangersHearModel" "kind" "[I") (by decide +kernel)) (fun _ h9 => h9) rfl dX7_comesOne_12 ?_
    refine lv_aload_n hx hb dX7_comesOne_15 rfl (lv_at hl 0 rfl) ?_
    refine va_get (D := D) (ci := 7) (v := .int (S_t.1 8)) (C := RX7) (T := TX7) (N := 26) hx hb hts hinX7 hown hK hP 0 rfl rfl 8 (by decide) (hts (.fieldLink RX7 65 "OnlyStrangersHearModel" "people" "I") (by decide +kernel)) (fun _ h9 => h9) rfl dX7_comesOne_16 ?_
    refine lv_iload_n hx hb dX7_comesOne_19 rfl (lv_at hl 1 rfl) ?_
    obtain ⟨b20, hf⟩ := ck_some hf
    refine va_iast hx hb hK hP hD hS 4 0 rfl rfl b20 dX7_comesOne_20 (fun H locs hP hD hS => ?_)
    have hP : va_P D vwCl (gX7 o_t a_t cI (pA S_t 3 (S_t.1 8).toNatClampNeg x1)) H := hP
    have hD : va_D A (gX7 o_t a_t cI (pA S_t 3 (S_t.1 8).toNatClampNeg x1)) := hD
    obtain ⟨g20, e20, hf⟩ := lt_some hf
    rw [← e20] at hP hD
    refine lv_aload_n hx hb dX7_comesOne_21 rfl (lv_at hl 0 rfl) ?_
    refine va_get (D := D) (ci := 7) (v := .ref (a_t 4)) (C := RX7) (T := TX7) (N := 26) hx hb hts hinX7 hown hK hP 0 rfl rfl 4 (by decide) (hts (.fieldLink RX7 22 "OnlyStrangersHearModel" "figure" "[I") (by decide +kernel)) (fun _ h9 => h9) rfl dX7_comesOne_22 ?_
    refine lv_aload_n hx hb dX7_comesOne_25 rfl (lv_at hl 0 rfl) ?_
    refine va_get (D := D) (ci := 7) (v := .int (g20.1 8)) (C := RX7) (T := TX7) (N := 26) hx hb hts hinX7 hown hK hP 0 rfl rfl 8 (by decide) (hts (.fieldLink RX7 65 "OnlyStrangersHearModel" "people" "I") (by decide +kernel)) (fun _ h9 => h9) rfl dX7_comesOne_26 ?_
    refine lv_iload_n hx hb dX7_comesOne_29 rfl (lv_at hl 2 rfl) ?_
    obtain ⟨b30, hf⟩ := ck_some hf
    refine va_iast hx hb hK hP hD hS 5 0 rfl rfl b30 dX7_comesOne_30 (fun H locs hP hD hS => ?_)
    have hP : va_P D vwCl (gX7 o_t a_t cI (pA g20 4 (g20.1 8).toNatClampNeg x2)) H := hP
    have hD : va_D A (gX7 o_t a_t cI (pA g20 4 (g20.1 8).toNatClampNeg x2)) := hD
    obtain ⟨g30, e30, hf⟩ := lt_some hf
    rw [← e30] at hP hD
    refine lv_aload_n hx hb dX7_comesOne_31 rfl (lv_at hl 0 rfl) ?_
    refine va_get (D := D) (ci := 7) (v := .ref (a_t 5)) (C := RX7) (T := TX7) (N := 26) hx hb hts hinX7 hown hK hP 0 rfl rfl 5 (by decide) (hts (.fieldLink RX7 25 "OnlyStrangersHearModel" "slept" "[I") (by decide +kernel)) (fun _ h9 => h9) rfl dX7_comesOne_32 ?_
    refine lv_aload_n hx hb dX7_comesOne_35 rfl (lv_at hl 0 rfl) ?_
    refine va_get (D := D) (ci := 7) (v := .int (g30.1 8)) (C := RX7) (T := TX7) (N := 26) hx hb hts hinX7 hown hK hP 0 rfl rfl 8 (by decide) (hts (.fieldLink RX7 65 "OnlyStrangersHearModel" "people" "I") (by decide +kernel)) (fun _ h9 => h9) rfl dX7_comesOne_36 ?_
    refine lv_iload_n hx hb dX7_comesOne_39 rfl (lv_at hl 3 rfl) ?_
    obtain ⟨b40, hf⟩ := ck_some hf
    refine va_iast hx hb hK hP hD hS 6 0 rfl rfl b40 dX7_comesOne_40 (fun H locs hP hD hS => ?_)
    have hP : va_P D vwCl (gX7 o_t a_t cI (pA g30 5 (g30.1 8).toNatClampNeg x3)) H := hP
    have hD : va_D A (gX7 o_t a_t cI (pA g30 5 (g30.1 8).toNatClampNeg x3)) := hD
    obtain ⟨g40, e40, hf⟩ := lt_some hf
    rw [← e40] at hP hD
    refine lv_aload_n hx hb dX7_comesOne_41 rfl (lv_at hl 0 rfl) ?_
    refine va_get (D := D) (ci := 7) (v := .ref (a_t 6)) (C := RX7) (T := TX7) (N := 26) hx hb hts hinX7 hown hK hP 0 rfl rfl 6 (by decide) (hts (.fieldLink RX7 28 "OnlyStrangersHearModel" "away" "[I") (by decide +kernel)) (fun _ h9 => h9) rfl dX7_comesOne_42 ?_
    refine lv_aload_n hx hb dX7_comesOne_45 rfl (lv_at hl 0 rfl) ?_
    refine va_get (D := D) (ci := 7) (v := .int (g40.1 8)) (C := RX7) (T := TX7) (N := 26) hx hb hts hinX7 hown hK hP 0 rfl rfl 8 (by decide) (hts (.fieldLink RX7 65 "OnlyStrangersHearModel" "people" "I") (by decide +kernel)) (fun _ h9 => h9) rfl dX7_comesOne_46 ?_
    refine lv_iconst (v := (0 : Int32)) hx hb dX7_comesOne_49 (by decide) ?_
    obtain ⟨b50, hf⟩ := ck_some hf
    refine va_iast hx hb hK hP hD hS 7 0 rfl rfl b50 dX7_comesOne_50 (fun H locs hP hD hS => ?_)
    have hP : va_P D vwCl (gX7 o_t a_t cI (pA g40 6 (g40.1 8).toNatClampNeg (0 : Int32))) H := hP
    have hD : va_D A (gX7 o_t a_t cI (pA g40 6 (g40.1 8).toNatClampNeg (0 : Int32))) := hD
    obtain ⟨g50, e50, hf⟩ := lt_some hf
    rw [← e50] at hP hD
    refine lv_aload_n hx hb dX7_comesOne_51 rfl (lv_at hl 0 rfl) ?_
    refine lv_dup hx hb dX7_comesOne_52 rfl ?_
    refine va_get (D := D) (ci := 7) (v := .int (g50.1 8)) (C := RX7) (T := TX7) (N := 26) hx hb hts hinX7 hown hK hP 0 rfl rfl 8 (by decide) (hts (.fieldLink RX7 65 "OnlyStrangersHearModel" "people" "I") (by decide +kernel)) (fun _ h9 => h9) rfl dX7_comesOne_53 ?_
    refine lv_iconst (v := (1 : Int32)) hx hb dX7_comesOne_56 (by decide) ?_
    refine lv_iadd hx hb dX7_comesOne_57 ?_
    refine va_put (D := D) (ci := 7) (v := .int ((g50.1 8) + (1 : Int32))) (ty := .int) (C := RX7) (T := TX7) (N := 26) hx hb hts hinX7 tyX7 tyX7_ok nmX7 hown hK hP hD hS 0 rfl rfl 8 (by decide) (hts (.fieldLink RX7 65 "OnlyStrangersHearModel" "people" "I") (by decide +kernel)) (fun _ h9 => h9) rfl (by decide +kernel) rfl rfl (Nat.le_of_ble_eq_true rfl) dX7_comesOne_58 (fun H locs hP hD hS => ?_)
    have hP : va_P D vwCl (gX7 o_t a_t cI (pF g50 8 ((g50.1 8) + (1 : Int32)))) H := hP
    have hD : va_D A (gX7 o_t a_t cI (pF g50 8 ((g50.1 8) + (1 : Int32)))) := hD
    obtain ⟨g58, e58, hf⟩ := lt_some hf
    rw [← e58] at hP hD
    refine lv_iconst (v := (1 : Int32)) hx hb dX7_comesOne_61 (by decide) ?_
    have e := so_some hf
    subst e
    exact rz hx hb hK hr hlk (Or.inr rfl) hQ dX7_comesOne_62 hP hD hS
  · replace hf := it_t c6 hf
    refine lv_iconst (v := (0 : Int32)) hx hb dX7_comesOne_9 (by decide) ?_
    have e := so_some hf
    subst e
    exact rz hx hb hK hr hlk (Or.inl rfl) hQ dX7_comesOne_10 hP hD hS
