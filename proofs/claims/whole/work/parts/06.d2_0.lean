abbrev rmX2_at : Room := { frames := 0, cells := 0, slots := 0, locals := 0 }
set_option maxHeartbeats 4000000 in
set_option maxRecDepth 100000 in
theorem c_X2_at (l : Launch) (D : va_G) (cI : ClassId) (o_t : Nat) (a_t : Nat → Nat) (S_t : G) (x1 : Int32) (out : Int32 × G) (hf : f_X2_at S_t x1 = some out) : Cn E0 l yX2_at wsX2_at rmX2_at D cI [.ref o_t, .int x1] (gX2 o_t a_t cI S_t) (some (.int out.1)) (gX2 o_t a_t cI out.2) := by
  refine Cn.mk (cc := cX2_at) (maxL := 2) (ret := (some .int)) (by decide) rfl (Nat.le_of_ble_eq_true rfl) ?_
  intro p e s m below meth c A ls Q hx hb hml hown hts hK hA hP hD hS hl hr hlk hnm hE hQ
  have hown : s.vm.findClass RX2 = some m.cls := hown
  have hinX2 : ∀ w ∈ u_ws RX2 TX2 2, w ∈ wsX2_at := by decide +kernel
  unfold f_X2_at at hf
  have hl : lv_has ls 2 [(0, .ref o_t), (1, .int x1)] := hl
  obtain ⟨H, hHe⟩ : ∃ H : Heap, H = s.heap := ⟨_, rfl⟩
  obtain ⟨locs, hle⟩ : ∃ q : List Loc, q = [] := ⟨_, rfl⟩
  have hS : va_S A s.heap H locs := by rw [hHe, hle]; exact hS
  rw [← hHe] at hP
  suffices hgo : W p l e rmX2_at s m ([.ref o_t, .int x1] : List Value).toArray below meth c H locs 0 0 Q (F0 m 0 ls []) by rw [hHe, hle] at hgo; exact hgo
  clear hHe hle
  refine lv_iload_n hx hb dX2_at_0 rfl (lv_at hl 1 rfl) ?_
  refine lv_if_lt (tgt := 21) hx hb dX2_at_1 (by decide) (fun c1 => ?_) (fun c1 => ?_)
  · replace hf := it_t c1 hf
    refine lv_bipush (v := (-9 : Int32)) hx hb dX2_at_21 (by decide) ?_
    have e := so_some hf
    subst e
    exact ri hx hb hK hr hlk hQ dX2_at_23 hP hD hS
  · replace hf := it_f c1 hf
    refine lv_iload_n hx hb dX2_at_4 rfl (lv_at hl 1 rfl) ?_
    refine lv_aload_n hx hb dX2_at_5 rfl (lv_at hl 0 rfl) ?_
    refine va_get (D := D) (ci := 2) (v := .int (S_t.1 1)) (C := RX2) (T := TX2) (N := 2) hx hb hts hinX2 hown hK hP 0 rfl rfl 1 (by decide) (hts (.fieldLink RX2 15 "OnlyStrangersHear$Numbers" "size" "I") (by decide +kernel)) (fun _ h9 => h9) rfl dX2_at_6 ?_
    refine lv_icmp_ge (tgt := 21) hx hb dX2_at_9 (by decide) (fun c9 => ?_) (fun c9 => ?_)
    · replace hf := it_t c9 hf
      refine lv_bipush (v := (-9 : Int32)) hx hb dX2_at_21 (by decide) ?_
      have e := so_some hf
      subst e
      exact ri hx hb hK hr hlk hQ dX2_at_23 hP hD hS
    · replace hf := it_f c9 hf
      refine lv_aload_n hx hb dX2_at_12 rfl (lv_at hl 0 rfl) ?_
      refine va_get (D := D) (ci := 2) (v := .ref (a_t 0)) (C := RX2) (T := TX2) (N := 2) hx hb hts hinX2 hown hK hP 0 rfl rfl 0 (by decide) (hts (.fieldLink RX2 9 "OnlyStrangersHear$Numbers" "values" "[I") (by decide +kernel)) (fun _ h9 => h9) rfl dX2_at_13 ?_
      refine lv_iload_n hx hb dX2_at_16 rfl (lv_at hl 1 rfl) ?_
      obtain ⟨b17, hf⟩ := ck_some hf
      refine va_iald hx hb hK hP 1 0 rfl rfl b17 dX2_at_17 ?_
      refine lv_goto (tgt := 23) hx hb dX2_at_18 (by decide) ?_
      have e := so_some hf
      subst e
      exact ri hx hb hK hr hlk hQ dX2_at_23 hP hD hS
abbrev rmX2_add : Room := { frames := 0, cells := 0, slots := 0, locals := 0 }
set_option maxHeartbeats 4000000 in
set_option maxRecDepth 100000 in
theorem c_X2_add (l : Launch) (D : va_G) (cI : ClassId) (o_t : Nat) (a_t : Nat → Nat) (S_t : G) (x1 : Int32) (out : Unit × G) (hf : f_X2_add S_t x1 = some out) : Cn E0 l yX2_add wsX2_add rmX2_add D cI [.ref o_t, .int x1] (gX2 o_t a_t cI S_t) none (gX2 o_t a_t cI out.2) := by
  refine Cn.mk (cc := cX2_add) (maxL := 2) (ret := none) (by decide) rfl (Nat.le_of_ble_eq_true rfl) ?_
  intro p e s m below meth c A ls Q hx hb hml hown hts hK hA hP hD hS hl hr hlk hnm hE hQ
  have hown : s.vm.findClass RX2 = some m.cls := hown
  have hinX2 : ∀ w ∈ u_ws RX2 TX2 2, w ∈ wsX2_add := by decide +kernel
  unfold f_X2_add at hf
  have hl : lv_has ls 2 [(0, .ref o_t), (1, .int x1)] := hl
  obtain ⟨H, hHe⟩ : ∃ H : Heap, H = s.heap := ⟨_, rfl⟩
  obtain ⟨locs, hle⟩ : ∃ q : List Loc, q = [] := ⟨_, rfl⟩
  have hS : va_S A s.heap H locs := by rw [hHe, hle]; exact hS
  rw [← hHe] at hP
  suffices hgo : W p l e rmX2_add s m ([.ref o_t, .int x1] : List Value).toArray below meth c H locs 0 0 Q (F0 m 0 ls []) by rw [hHe, hle] at hgo; exact hgo
  clear hHe hle
  refine lv_aload_n hx hb dX2_add_0 rfl (lv_at hl 0 rfl) ?_
  refine va_get (D := D) (ci := 2) (v := .int (S_t.1 1)) (C := RX2) (T := TX2) (N := 2) hx hb hts hinX2 hown hK hP 0 rfl rfl 1 (by decide) (hts (.fieldLink RX2 15 "OnlyStrangersHear$Numbers" "size" "I") (by decide +kernel)) (fun _ h9 => h9) rfl dX2_add_1 ?_
  refine lv_bipush (v := (16 : Int32)) hx hb dX2_add_4 (by decide) ?_
  refine lv_icmp_ge (tgt := 29) hx hb dX2_add_6 (by decide) (fun c6 => ?_) (fun c6 => ?_)
  · replace hf := it_t c6 hf
    have e := so_some hf
    subst e
    exact rv hx hb hK hr hlk hQ dX2_add_29 hP hD hS
  · replace hf := it_f c6 hf
    refine lv_aload_n hx hb dX2_add_9 rfl (lv_at hl 0 rfl) ?_
    refine va_get (D := D) (ci := 2) (v := .ref (a_t 0)) (C := RX2) (T := TX2) (N := 2) hx hb hts hinX2 hown hK hP 0 rfl rfl 0 (by decide) (hts (.fieldLink RX2 9 "OnlyStrangersHear$Numbers" "values" "[I") (by decide +kernel)) (fun _ h9 => h9) rfl dX2_add_10 ?_
    refine lv_aload_n hx hb dX2_add_13 rfl (lv_at hl 0 rfl) ?_
    refine va_get (D := D) (ci := 2) (v := .int (S_t.1 1)) (C := RX2) (T := TX2) (N := 2) hx hb hts hinX2 hown hK hP 0 rfl rfl 1 (by decide) (hts (.fieldLink RX2 15 "OnlyStrangersHear$Numbers" "size" "I") (by decide +kernel)) (fun _ h9 => h9) rfl dX2_add_14 ?_
    refine lv_iload_n hx hb dX2_add_17 rfl (lv_at hl 1 rfl) ?_
    obtain ⟨b18, hf⟩ := ck_some hf
    refine va_iast hx hb hK hP hD hS 1 0 rfl rfl b18 dX2_add_18 (fun H locs hP hD hS => ?_)
    have hP : va_P D vwCl (gX2 o_t a_t cI (pA S_t 0 (S_t.1 1).toNatClampNeg x1)) H := hP
    have hD : va_D A (gX2 o_t a_t cI (pA S_t 0 (S_t.1 1).toNatClampNeg x1)) := hD
    obtain ⟨g18, e18, hf⟩ := lt_some hf
    rw [← e18] at hP hD
    refine lv_aload_n hx hb dX2_add_19 rfl (lv_at hl 0 rfl) ?_
    refine lv_dup hx hb dX2_add_20 rfl ?_
    refine va_get (D := D) (ci := 2) (v := .int (g18.1 1)) (C := RX2) (T := TX2) (N := 2) hx hb hts hinX2 hown hK hP 0 rfl rfl 1 (by decide) (hts (.fieldLink RX2 15 "OnlyStrangersHear$Numbers" "size" "I") (by decide +kernel)) (fun _ h9 => h9) rfl dX2_add_21 ?_
    refine lv_iconst (v := (1 : Int32)) hx hb dX2_add_24 (by decide) ?_
    refine lv_iadd hx hb dX2_add_25 ?_
    refine va_put (D := D) (ci := 2) (v := .int ((g18.1 1) + (1 : Int32))) (ty := .int) (C := RX2) (T := TX2) (N := 2) hx hb hts hinX2 tyX2 tyX2_ok nmX2 hown hK hP hD hS 0 rfl rfl 1 (by decide) (hts (.fieldLink RX2 15 "OnlyStrangersHear$Numbers" "size" "I") (by decide +kernel)) (fun _ h9 => h9) rfl (by decide +kernel) rfl rfl (Nat.le_of_ble_eq_true rfl) dX2_add_26 (fun H locs hP hD hS => ?_)
    have hP : va_P D vwCl (gX2 o_t a_t cI (pF g18 1 ((g18.1 1) + (1 : Int32)))) H := hP
    have hD : va_D A (gX2 o_t a_t cI (pF g18 1 ((g18.1 1) + (1 : Int32)))) := hD
    obtain ⟨g26, e26, hf⟩ := lt_some hf
    rw [← e26] at hP hD
    have e := so_some hf
    subst e
    exact rv hx hb hK hr hlk hQ dX2_add_29 hP hD hS
abbrev rmX2_forget : Room := { frames := 0, cells := 0, slots := 0, locals := 0 }
set_option maxHeartbeats 4000000 in
set_option maxRecDepth 100000 in
theorem c_X2_forget (l : Launch) (D : va_G) (cI : ClassId) (o_t : Nat) (a_t : Nat → Nat) (S_t : G) (out : Unit × G) (hf : f_X2_forget S_t = some out) : Cn E0 l yX2_forget wsX2_forget rmX2_forget D cI [.ref o_t] (gX2 o_t a_t cI S_t) none (gX2 o_t a_t cI out.2) := by
  refine Cn.mk (cc := cX2_forget) (maxL := 1) (ret := none) (by decide) rfl (Nat.le_of_ble_eq_true rfl) ?_
  intro p e s m below meth c A ls Q hx hb hml hown hts hK hA hP hD hS hl hr hlk hnm hE hQ
  have hown : s.vm.findClass RX2 = some m.cls := hown
  have hinX2 : ∀ w ∈ u_ws RX2 TX2 2, w ∈ wsX2_forget := by decide +kernel
  unfold f_X2_forget at hf
  have hl : lv_has ls 1 [(0, .ref o_t)] := hl
  obtain ⟨H, hHe⟩ : ∃ H : Heap, H = s.heap := ⟨_, rfl⟩
  obtain ⟨locs, hle⟩ : ∃ q : List Loc, q = [] := ⟨_, rfl⟩
  have hS : va_S A s.heap H locs := by rw [hHe, hle]; exact hS
  rw [← hHe] at hP
  suffices hgo : W p l e rmX2_forget s m ([.ref o_t] : List Value).toArray below meth c H locs 0 0 Q (F0 m 0 ls []) by rw [hHe, hle] at hgo; exact hgo
  clear hHe hle
  refine lv_aload_n hx hb dX2_forget_0 rfl (lv_at hl 0 rfl) ?_
  refine lv_iconst (v := (0 : Int32)) hx hb dX2_forget_1 (by decide) ?_
  refine va_put (D := D) (ci := 2) (v := .int (0 : Int32)) (ty := .int) (C := RX2) (T := TX2) (N := 2) hx hb hts hinX2 tyX2 tyX2_ok nmX2 hown hK hP hD hS 0 rfl rfl 1 (by decide) (hts (.fieldLink RX2 15 "OnlyStrangersHear$Numbers" "size" "I") (by decide +kernel)) (fun _ h9 => h9) rfl (by decide +kernel) rfl rfl (Nat.le_of_ble_eq_true rfl) dX2_forget_2 (fun H locs hP hD hS => ?_)
  have hP : va_P D vwCl (gX2 o_t a_t cI (pF S_t 1 (0 : Int32))) H := hP
  have hD : va_D A (gX2 o_t a_t cI (pF S_t 1 (0 : Int32))) := hD
  obtain ⟨g2, e2, hf⟩ := lt_some hf
  rw [← e2] at hP hD
  have e := so_some hf
  subst e
  exact rv hx hb hK hr hlk hQ dX2_forget_5 hP hD hS
