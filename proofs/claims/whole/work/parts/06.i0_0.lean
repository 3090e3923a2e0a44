abbrev rmX0_add : Room := { frames := 0, cells := 0, slots := 0, locals := 0 }
set_option maxHeartbeats 4000000 in
set_option maxRecDepth 100000 in
theorem c_X0_add (l : Launch) (D : va_G) (cI : ClassId) (o_t : Nat) (a_t : Nat → Nat) (S_t : G) (x1 : Int32) (out : Unit × G) (hf : f_X0_add S_t x1 = some out) : Cn E0 l yX0_add wsX0_add rmX0_add D cI [.ref o_t, .int x1] (gX0 o_t a_t cI S_t) none (gX0 o_t a_t cI out.2) := by
  refine Cn.mk (cc := cX0_add) (maxL := 2) (ret := none) (by decide) rfl (Nat.le_of_ble_eq_true rfl) ?_
  intro p e s m below meth c A ls Q hx hb hml hown hts hK hA hP hD hS hl hr hlk hnm hE hQ
  have hown : s.vm.findClass RX0 = some m.cls := hown
  have hinX0 : ∀ w ∈ u_ws RX0 TX0 3, w ∈ wsX0_add := by decide +kernel
  unfold f_X0_add at hf
  have hl : lv_has ls 2 [(0, .ref o_t), (1, .int x1)] := hl
  obtain ⟨H, hHe⟩ : ∃ H : Heap, H = s.heap := ⟨_, rfl⟩
  obtain ⟨locs, hle⟩ : ∃ q : List Loc, q = [] := ⟨_, rfl⟩
  have hS : va_S A s.heap H locs := by rw [hHe, hle]; exact hS
  rw [← hHe] at hP
  suffices hgo : W p l e rmX0_add s m ([.ref o_t, .int x1] : List Value).toArray below meth c H locs 0 0 Q (F0 m 0 ls []) by rw [hHe, hle] at hgo; exact hgo
  clear hHe hle
  refine lv_aload_n hx hb dX0_add_0 rfl (lv_at hl 0 rfl) ?_
  refine va_get (D := D) (ci := 0) (v := .int (S_t.1 2)) (C := RX0) (T := TX0) (N := 3) hx hb hts hinX0 hown hK hP 0 rfl rfl 2 (by decide) (hts (.fieldLink RX0 22 "OnlyStrangersHear$Letters" "told" "I") (by decide +kernel)) (fun _ h9 => h9) rfl dX0_add_1 ?_
  refine lv_bipush (v := (96 : Int32)) hx hb dX0_add_4 (by decide) ?_
  refine lv_icmp_ge (tgt := 29) hx hb dX0_add_6 (by decide) (fun c6 => ?_) (fun c6 => ?_)
  · replace hf := it_t c6 hf
    have e := so_some hf
    subst e
    exact rv hx hb hK hr hlk hQ dX0_add_29 hP hD hS
  · replace hf := it_f c6 hf
    refine lv_aload_n hx hb dX0_add_9 rfl (lv_at hl 0 rfl) ?_
    refine va_get (D := D) (ci := 0) (v := .ref (a_t 0)) (C := RX0) (T := TX0) (N := 3) hx hb hts hinX0 hown hK hP 0 rfl rfl 0 (by decide) (hts (.fieldLink RX0 9 "OnlyStrangersHear$Letters" "signs" "[I") (by decide +kernel)) (fun _ h9 => h9) rfl dX0_add_10 ?_
    refine lv_aload_n hx hb dX0_add_13 rfl (lv_at hl 0 rfl) ?_
    refine va_get (D := D) (ci := 0) (v := .int (S_t.1 2)) (C := RX0) (T := TX0) (N := 3) hx hb hts hinX0 hown hK hP 0 rfl rfl 2 (by decide) (hts (.fieldLink RX0 22 "OnlyStrangersHear$Letters" "told" "I") (by decide +kernel)) (fun _ h9 => h9) rfl dX0_add_14 ?_
    refine lv_iload_n hx hb dX0_add_17 rfl (lv_at hl 1 rfl) ?_
    obtain ⟨b18, hf⟩ := ck_some hf
    refine va_iast hx hb hK hP hD hS 1 0 rfl rfl b18 dX0_add_18 (fun H locs hP hD hS => ?_)
    have hP : va_P D vwCl (gX0 o_t a_t cI (pA S_t 0 (S_t.1 2).toNatClampNeg x1)) H := hP
    have hD : va_D A (gX0 o_t a_t cI (pA S_t 0 (S_t.1 2).toNatClampNeg x1)) := hD
    obtain ⟨g18, e18, hf⟩ := lt_some hf
    rw [← e18] at hP hD
    refine lv_aload_n hx hb dX0_add_19 rfl (lv_at hl 0 rfl) ?_
    refine lv_dup hx hb dX0_add_20 rfl ?_
    refine va_get (D := D) (ci := 0) (v := .int (g18.1 2)) (C := RX0) (T := TX0) (N := 3) hx hb hts hinX0 hown hK hP 0 rfl rfl 2 (by decide) (hts (.fieldLink RX0 22 "OnlyStrangersHear$Letters" "told" "I") (by decide +kernel)) (fun _ h9 => h9) rfl dX0_add_21 ?_
    refine lv_iconst (v := (1 : Int32)) hx hb dX0_add_24 (by decide) ?_
    refine lv_iadd hx hb dX0_add_25 ?_
    refine va_put (D := D) (ci := 0) (v := .int ((g18.1 2) + (1 : Int32))) (ty := .int) (C := RX0) (T := TX0) (N := 3) hx hb hts hinX0 tyX0 tyX0_ok nmX0 hown hK hP hD hS 0 rfl rfl 2 (by decide) (hts (.fieldLink RX0 22 "OnlyStrangersHear$Letters" "told" "I") (by decide +kernel)) (fun _ h9 => h9) rfl (by decide +kernel) rfl rfl (Nat.le_of_ble_eq_true rfl) dX0_add_26 (fun H locs hP hD hS => ?_)
    have hP : va_P D vwCl (gX0 o_t a_t cI (pF g18 2 ((g18.1 2) + (1 : Int32)))) H := hP
    have hD : va_D A (gX0 o_t a_t cI (pF g18 2 ((g18.1 2) + (1 : Int32)))) := hD
    obtain ⟨g26, e26, hf⟩ := lt_some hf
    rw [← e26] at hP hD
    have e := so_some hf
    subst e
    exact rv hx hb hK hr hlk hQ dX0_add_29 hP hD hS
abbrev rmX0_forget : Room := { frames := 0, cells := 0, slots := 0, locals := 0 }
set_option maxHeartbeats 4000000 in
set_option maxRecDepth 100000 in
theorem c_X0_forget (l : Launch) (D : va_G) (cI : ClassId) (o_t : Nat) (a_t : Nat → Nat) (S_t : G) (out : Unit × G) (hf : f_X0_forget S_t = some out) : Cn E0 l yX0_forget wsX0_forget rmX0_forget D cI [.ref o_t] (gX0 o_t a_t cI S_t) none (gX0 o_t a_t cI out.2) := by
  refine Cn.mk (cc := cX0_forget) (maxL := 1) (ret := none) (by decide) rfl (Nat.le_of_ble_eq_true rfl) ?_
  intro p e s m below meth c A ls Q hx hb hml hown hts hK hA hP hD hS hl hr hlk hnm hE hQ
  have hown : s.vm.findClass RX0 = some m.cls := hown
  have hinX0 : ∀ w ∈ u_ws RX0 TX0 3, w ∈ wsX0_forget := by decide +kernel
  unfold f_X0_forget at hf
  have hl : lv_has ls 1 [(0, .ref o_t)] := hl
  obtain ⟨H, hHe⟩ : ∃ H : Heap, H = s.heap := ⟨_, rfl⟩
  obtain ⟨locs, hle⟩ : ∃ q : List Loc, q = [] := ⟨_, rfl⟩
  have hS : va_S A s.heap H locs := by rw [hHe, hle]; exact hS
  rw [← hHe] at hP
  suffices hgo : W p l e rmX0_forget s m ([.ref o_t] : List Value).toArray below meth c H locs 0 0 Q (F0 m 0 ls []) by rw [hHe, hle] at hgo; exact hgo
  clear hHe hle
  refine lv_aload_n hx hb dX0_forget_0 rfl (lv_at hl 0 rfl) ?_
  refine lv_iconst (v := (0 : Int32)) hx hb dX0_forget_1 (by decide) ?_
  refine va_put (D := D) (ci := 0) (v := .int (0 : Int32)) (ty := .int) (C := RX0) (T := TX0) (N := 3) hx hb hts hinX0 tyX0 tyX0_ok nmX0 hown hK hP hD hS 0 rfl rfl 2 (by decide) (hts (.fieldLink RX0 22 "OnlyStrangersHear$Letters" "told" "I") (by decide +kernel)) (fun _ h9 => h9) rfl (by decide +kernel) rfl rfl (Nat.le_of_ble_eq_true rfl) dX0_forget_2 (fun H locs hP hD hS => ?_)
  have hP : va_P D vwCl (gX0 o_t a_t cI (pF S_t 2 (0 : Int32))) H := hP
  have hD : va_D A (gX0 o_t a_t cI (pF S_t 2 (0 : Int32))) := hD
  obtain ⟨g2, e2, hf⟩ := lt_some hf
  rw [← e2] at hP hD
  have e := so_some hf
  subst e
  exact rv hx hb hK hr hlk hQ dX0_forget_5 hP hD hS
abbrev rmX0_digitsBehind : Room := { frames := 0, cells := 0, slots := 0, locals := 0 }
set_option maxHeartbeats 4000000 in
set_option maxRecDepth 100000 in
theorem c_X0_digitsBehind (l : Launch) (D : va_G) (cI : ClassId) (x0 : Int32) (out : Int32 × Unit) (hf : f_X0_digitsBehind x0 = some out) : Cn E0 l yX0_digitsBehind wsX0_digitsBehind rmX0_digitsBehind D cI [.int x0] ([]) (some (.int out.1)) ([]) := by
  refine Cn.mk (cc := cX0_digitsBehind) (maxL := 1) (ret := (some .int)) (by decide) rfl (Nat.le_of_ble_eq_true rfl) ?_
  intro p e s m below meth c A ls Q hx hb hml hown hts hK hA hP hD hS hl hr hlk hnm hE hQ
  have hown : s.vm.findClass RX0 = some m.cls := hown
  unfold f_X0_digitsBehind at hf
  have hl : lv_has ls 1 [(0, .int x0)] := hl
  obtain ⟨H, hHe⟩ : ∃ H : Heap, H = s.heap := ⟨_, rfl⟩
  obtain ⟨locs, hle⟩ : ∃ q : List Loc, q = [] := ⟨_, rfl⟩
  have hS : va_S A s.heap H locs := by rw [hHe, hle]; exact hS
  rw [← hHe] at hP
  suffices hgo : W p l e rmX0_digitsBehind s m ([.int x0] : List Value).toArray below meth c H locs 0 0 Q (F0 m 0 ls []) by rw [hHe, hle] at hgo; exact hgo
  clear hHe hle
  refine lv_iload_n hx hb dX0_digitsBehind_0 rfl (lv_at hl 0 rfl) ?_
  by_cases ck98 : x0 = (98 : Int32)
  · replace hf := it_t ck98 hf
    refine lv_tableIn (off := 87) (tgt := 88) hx hb dX0_digitsBehind_1 (by rw [ck98]; decide) (by rw [ck98]; decide) (by rw [ck98]; decide) (by decide) ?_
    refine lv_iconst (v := (3 : Int32)) hx hb dX0_digitsBehind_88 (by decide) ?_
    have e := so_some hf
    subst e
    exact ri hx hb hK hr hlk hQ dX0_digitsBehind_89 hP hD hS
  · replace hf := it_f ck98 hf
    by_cases ck100 : x0 = (100 : Int32)
    · replace hf := it_t ck100 hf
      refine lv_tableIn (off := 89) (tgt := 90) hx hb dX0_digitsBehind_1 (by rw [ck100]; decide) (by rw [ck100]; decide) (by rw [ck100]; decide) (by decide) ?_
      refine lv_iconst (v := (2 : Int32)) hx hb dX0_digitsBehind_90 (by decide) ?_
      have e := so_some hf
      subst e
      exact ri hx hb hK hr hlk hQ dX0_digitsBehind_91 hP hD hS
    · replace hf := it_f ck100 hf
      by_cases ck101 : x0 = (101 : Int32)
      · replace hf := it_t ck101 hf
        refine lv_tableIn (off := 91) (tgt := 92) hx hb dX0_digitsBehind_1 (by rw [ck101]; decide) (by rw [ck101]; decide) (by rw [ck101]; decide) (by decide) ?_
        refine lv_iconst (v := (1 : Int32)) hx hb dX0_digitsBehind_92 (by decide) ?_
        have e := so_some hf
        subst e
        exact ri hx hb hK hr hlk hQ dX0_digitsBehind_93 hP hD hS
      · replace hf := it_f ck101 hf
        by_cases ck103 : x0 = (103 : Int32)
        · replace hf := it_t ck103 hf
          refine lv_tableIn (off := 89) (tgt := 90) hx hb dX0_digitsBehind_1 (by rw [ck103]; decide) (by rw [ck103]; decide) (by rw [ck103]; decide) (by decide) ?_
          refine lv_iconst (v := (2 : Int32)) hx hb dX0_digitsBehind_90 (by decide) ?_
          have e := so_some hf
          subst e
          exact ri hx hb hK hr hlk hQ dX0_digitsBehind_91 hP hD hS
        · replace hf := it_f ck103 hf
          by_cases ck112 : x0 = (112 : Int32)
          · replace hf := it_t ck112 hf
            refine lv_tableIn (off := 87) (tgt := 88) hx hb dX0_digitsBehind_1 (by rw [ck112]; decide) (by rw [ck112]; decide) (by rw [ck112]; decide) (by decide) ?_
            refine lv_iconst (v := (3 : Int32)) hx hb dX0_digitsBehind_88 (by decide) ?_
            have e := so_some hf
            subst e
            exact ri hx hb hK hr hlk hQ dX0_digitsBehind_89 hP hD hS
          · replace hf := it_f ck112 hf
            by_cases ck115 : x0 = (115 : Int32)
            · replace hf := it_t ck115 hf
              refine lv_tableIn (off := 87) (tgt := 88) hx hb dX0_digitsBehind_1 (by rw [ck115]; decide) (by rw [ck115]; decide) (by rw [ck115]; decide) (by decide) ?_
              refine lv_iconst (v := (3 : Int32)) hx hb dX0_digitsBehind_88 (by decide) ?_
              have e := so_some hf
              subst e
              exact ri hx hb hK hr hlk hQ dX0_digitsBehind_89 hP hD hS
            · replace hf := it_f ck115 hf
              by_cases clo : x0.toInt < 98
              · refine lv_tableOut (tgt := 94) hx hb dX0_digitsBehind_1 (Or.inl clo) (by decide) ?_
                refine lv_iconst (v := (0 : Int32)) hx hb dX0_digitsBehind_94 (by decide) ?_
                have e := so_some hf
                subst e
                exact ri hx hb hK hr hlk hQ dX0_digitsBehind_95 hP hD hS
              by_cases chi : 115 < x0.toInt
              · refine lv_tableOut (tgt := 94) hx hb dX0_digitsBehind_1 (Or.inr chi) (by decide) ?_
                refine lv_iconst (v := (0 : Int32)) hx hb dX0_digitsBehind_94 (by decide) ?_
                have e := so_some hf
                subst e
                exact ri hx hb hK hr hlk hQ dX0_digitsBehind_95 hP hD hS
              by_cases cd99 : x0 = (99 : Int32)
              · refine lv_tableIn (off := 93) (tgt := 94) hx hb dX0_digitsBehind_1 clo chi (by rw [cd99]; decide) (by decide) ?_
                refine lv_iconst (v := (0 : Int32)) hx hb dX0_digitsBehind_94 (by decide) ?_
                have e := so_some hf
                subst e
                exact ri hx hb hK hr hlk hQ dX0_digitsBehind_95 hP hD hS
              by_cases cd102 : x0 = (102 : Int32)
              · refine lv_tableIn (off := 93) (tgt := 94) hx hb dX0_digitsBehind_1 clo chi (by rw [cd102]; decide) (by decide) ?_
                refine lv_iconst (v := (0 : Int32)) hx hb dX0_digitsBehind_94 (by decide) ?_
                have e := so_some hf
                subst e
                exact ri hx hb hK hr hlk hQ dX0_digitsBehind_95 hP hD hS
              by_cases cd104 : x0 = (104 : Int32)
              · refine lv_tableIn (off := 93) (tgt := 94) hx hb dX0_digitsBehind_1 clo chi (by rw [cd104]; decide) (by decide) ?_
                refine lv_iconst (v := (0 : Int32)) hx hb dX0_digitsBehind_94 (by decide) ?_
                have e := so_some hf
                subst e
                exact ri hx hb hK hr hlk hQ dX0_digitsBehind_95 hP hD hS
              by_cases cd105 : x0 = (105 : Int32)
              · refine lv_tableIn (off := 93) (tgt := 94) hx hb dX0_digitsBehind_1 clo chi (by rw [cd105]; decide) (by decide) ?_
                refine lv_iconst (v := (0 : Int32)) hx hb dX0_digitsBehind_94 (by decide) ?_
                have e := so_some hf
                subst e
                exact ri hx hb hK hr hlk hQ dX0_digitsBehind_95 hP hD hS
              by_cases cd106 : x0 = (106 : Int32)
              · refine lv_tableIn (off := 93) (tgt := 94) hx hb dX0_digitsBehind_1 clo chi (by rw [cd106]; decide) (by decide) ?_
                refine lv_iconst (v := (0 : Int32)) hx hb dX0_digitsBehind_94 (by decide) ?_
                have e := so_some hf
                subst e
                exact ri hx hb hK hr hlk hQ dX0_digitsBehind_95 hP hD hS
              by_cases cd107 : x0 = (107 : Int32)
              · refine lv_tableIn (off := 93) (tgt := 94) hx hb dX0_digitsBehind_1 clo chi (by rw [cd107]; decide) (by decide) ?_
                refine lv_iconst (v := (0 : Int32)) hx hb dX0_digitsBehind_94 (by decide) ?_
                have e := so_some hf
                subst e
                exact ri hx hb hK hr hlk hQ dX0_digitsBehind_95 hP hD hS
              by_cases cd108 : x0 = (108 : Int32)
              · refine lv_tableIn (off := 93) (tgt := 94) hx hb dX0_digitsBehind_1 clo chi (by rw [cd108]; decide) (by decide) ?_
                refine lv_iconst (v := (0 : Int32)) hx hb dX0_digitsBehind_94 (by decide) ?_
                have e := so_some hf
                subst e
                exact ri hx hb hK hr hlk hQ dX0_digitsBehind_95 hP hD hS
              by_cases cd109 : x0 = (109 : Int32)
              · refine lv_tableIn (off := 93) (tgt := 94) hx hb dX0_digitsBehind_1 clo chi (by rw [cd109]; decide) (by decide) ?_
                refine lv_iconst (v := (0 : Int32)) hx hb dX0_digitsBehind_94 (by decide) ?_
                have e := so_some hf
                subst e
                exact ri hx hb hK hr hlk hQ dX0_digitsBehind_95 hP hD hS
              by_cases cd110 : x0 = (110 : Int32)
              · refine lv_tableIn (off := 93) (tgt := 94) hx hb dX0_digitsBehind_1 clo chi (by rw [cd110]; decide) (by decide) ?_
                refine lv_iconst (v := (0 : Int32)) hx hb dX0_digitsBehind_94 (by decide) ?_
                have e := so_some hf
                subst e
                exact ri hx hb hK hr hlk hQ dX0_digitsBehind_95 hP hD hS
              by_cases cd111 : x0 = (111 : Int32)
              · refine lv_tableIn (off := 93) (tgt := 94) hx hb dX0_digitsBehind_1 clo chi (by rw [cd111]; decide) (by decide) ?_
                refine lv_iconst (v := (0 : Int32)) hx hb dX0_digitsBehind_94 (by decide) ?_
                have e := so_some hf
                subst e
                exact ri hx hb hK hr hlk hQ dX0_digitsBehind_95 hP hD hS
              by_cases cd113 : x0 = (113 : Int32)
              · refine lv_tableIn (off := 93) (tgt := 94) hx hb dX0_digitsBehind_1 clo chi (by rw [cd113]; decide) (by decide) ?_
                refine lv_iconst (v := (0 : Int32)) hx hb dX0_digitsBehind_94 (by decide) ?_
                have e := so_some hf
                subst e
                exact ri hx hb hK hr hlk hQ dX0_digitsBehind_95 hP hD hS
              by_cases cd114 : x0 = (114 : Int32)
              · refine lv_tableIn (off := 93) (tgt := 94) hx hb dX0_digitsBehind_1 clo chi (by rw [cd114]; decide) (by decide) ?_
                refine lv_iconst (v := (0 : Int32)) hx hb dX0_digitsBehind_94 (by decide) ?_
                have e := so_some hf
                subst e
                exact ri hx hb hK hr hlk hQ dX0_digitsBehind_95 hP hD hS
              exact (sw_no (x := x0) (lo := 98) (hi := 115) clo chi (ks := [98, 99, 100, 101, 102, 103, 104, 105, 106, 107, 108, 109, 110, 111, 112, 113, 114, 115]) (by decide) (List.forall_mem_cons.mpr ⟨lv_neT (k := 98) (a := 98) ck98 (by decide), (List.forall_mem_cons.mpr ⟨lv_neT (k := 99) (a := 99) cd99 (by decide), (List.forall_mem_cons.mpr ⟨lv_neT (k := 100) (a := 100) ck100 (by decide), (List.forall_mem_cons.mpr ⟨lv_neT (k := 101) (a := 101) ck101 (by decide), (List.forall_mem_cons.mpr ⟨lv_neT (k := 102) (a := 102) cd102 (by decide), (List.forall_mem_cons.mpr ⟨lv_neT (k := 103) (a := 103) ck103 (by decide), (List.forall_mem_cons.mpr ⟨lv_neT (k := 104) (a := 104) cd104 (by decide), (List.forall_mem_cons.mpr ⟨lv_neT (k := 105) (a := 105) cd105 (by decide), (List.forall_mem_cons.mpr ⟨lv_neT (k := 106) (a := 106) cd106 (by decide), (List.forall_mem_cons.mpr ⟨lv_neT (k := 107) (a := 107) cd107 (by decide), (List.forall_mem_cons.mpr ⟨lv_neT (k := 108) (a := 108) cd108 (by decide), (List.forall_mem_cons.mpr ⟨lv_neT (k := 109) (a := 109) cd109 (by decide), (List.forall_mem_cons.mpr ⟨lv_neT (k := 110) (a := 110) cd110 (by decide), (List.forall_mem_cons.mpr ⟨lv_neT (k := 111) (a := 111) cd111 (by decide), (List.forall_mem_cons.mpr ⟨lv_neT (k := 112) (a := 112) ck112 (by decide), (List.forall_mem_cons.mpr ⟨lv_neT (k := 113) (a := 113) cd113 (by decide), (List.forall_mem_cons.mpr ⟨lv_neT (k := 114) (a := 114) cd114 (by decide), (List.forall_mem_cons.mpr ⟨lv_neT (k := 115) (a := 115) ck115 (by decide), (fun _ h => absurd h List.not_mem_nil)⟩)⟩)⟩)⟩)⟩)⟩)⟩)⟩)⟩)⟩)⟩)⟩)⟩)⟩)⟩)⟩)⟩)⟩)).elim
abbrev rmX0_faultOfForm : Room := { frames := 5, cells := 0, slots := 0, locals := 111 }
set_option maxHeartbeats 4000000 in
set_option maxRecDepth 100000 in
theorem c_X0_faultOfForm (l : Launch) (D : va_G) (cI : ClassId) (o_t : Nat) (a_t : Nat → Nat) (S_t : G) (out : Int32 × G) (hf : f_X0_faultOfForm S_t = some out) : Cn EX l yX0_faultOfForm wsX0_faultOfForm rmX0_faultOfForm D cI [.ref o_t] (gX0 o_t a_t cI S_t) (some (.int out.1)) (gX0 o_t a_t cI out.2) := by
  refine Cn.mk (cc := cX0_faultOfForm) (maxL := 6) (ret := (some .int)) (by decide) rfl (Nat.le_of_ble_eq_true rfl) ?_
  intro p e s m below meth c A ls Q hx hb hml hown hts hK hA hP hD hS hl hr hlk hnm hE hQ
  have hown : s.vm.findClass RX0 = some m.cls := hown
  have hinX0 : ∀ w ∈ u_ws RX0 TX0 3, w ∈ wsX0_faultOfForm := by decide +kernel
  have j9 : ∀ (n9 : Nat) (S_t : G) (l1 : Int32) (l2 : Int32) (l3 : Int32) (l4 : Int32) (H : Heap) (locs : List Loc) (ls : Array Slot), f_X0_faultOfForm_9 n9 S_t l1 l2 l3 l4 = some out → va_P D vwCl (gX0 o_t a_t cI S_t) H → va_D A (gX0 o_t a_t cI S_t) → va_S A s.heap H locs → lv_has ls 6 [(0, .ref o_t), (1, .int l1), (2, .int l2), (3, .int l3), (4, .int l4)] → W p l e rmX0_faultOfForm s m ([.ref o_t] : List Value).toArray below meth c H locs 0 0 Q (F0 m 9 ls []) := by
    intro n9
    induction n9 with
    | zero =>
      intro S_t l1 l2 l3 l4 H locs ls hf
      exact no_some hf
    | succ n9 ih9 =>
      intro S_t l1 l2 l3 l4 H locs ls hf hP hD hS hl
      replace hf : b_X0_faultOfForm_9 (f_X0_faultOfForm_9 n9) S_t l1 l2 l3 l4 = some out := hf
      unfold b_X0_faultOfForm_9 at hf
      refine lv_iload hx hb dX0_faultOfForm_9 (lv_at hl 4 rfl) ?_
      refine lv_aload_n hx hb dX0_faultOfForm_11 rfl (lv_at hl 0 rfl) ?_
      refine va_get (D := D) (ci := 0) (v := .int (S_t.1 2)) (C := RX0) (T := TX0) (N := 3) hx hb hts hinX0 hown hK hP 0 rfl rfl 2 (by decide) (hts (.fieldLink RX0 22 "OnlyStrangersHear$Letters" "told" "I") (by decide +kernel)) (fun _ h9 => h9) rfl dX0_faultOfForm_12 ?_
      refine lv_icmp_ge (tgt := 127) hx hb dX0_faultOfForm_15 (by decide) (fun c15 => ?_) (fun c15 => ?_)
      · replace hf := it_t c15 hf
        refine lv_iload_n hx hb dX0_faultOfForm_127 rfl (lv_at hl 1 rfl) ?_
        refine lv_if_ne (tgt := 138) hx hb dX0_faultOfForm_128 (by decide) (fun c128 => ?_) (fun c128 => ?_)
        · replace hf := it_f c128 hf
          refine lv_aload_n hx hb dX0_faultOfForm_138 rfl (lv_at hl 0 rfl) ?_
          refine va_get (D := D) (ci := 0) (v := .int (S_t.1 2)) (C := RX0) (T := TX0) (N := 3) hx hb hts hinX0 hown hK hP 0 rfl rfl 2 (by decide) (hts (.fieldLink RX0 22 "OnlyStrangersHear$Letters" "told" "I") (by decide +kernel)) (fun _ h9 => h9) rfl dX0_faultOfForm_139 ?_
          refine lv_goto (tgt := 147) hx hb dX0_faultOfForm_142 (by decide) ?_
          have e := so_some hf
          subst e
          exact ri hx hb hK hr hlk hQ dX0_faultOfForm_147 hP hD hS
        · replace hf := it_t c128 hf
          refine lv_aload_n hx hb dX0_faultOfForm_131 rfl (lv_at hl 0 rfl) ?_
          refine va_get (D := D) (ci := 0) (v := .int (S_t.1 2)) (C := RX0) (T := TX0) (N := 3) hx hb hts hinX0 hown hK hP 0 rfl rfl 2 (by decide) (hts (.fieldLink RX0 22 "OnlyStrangersHear$Letters" "told" "I") (by decide +kernel)) (fun _ h9 => h9) rfl dX0_faultOfForm_132 ?_
          refine lv_if_ne (tgt := 145) hx hb dX0_faultOfForm_135 (by decide) (fun c135 => ?_) (fun c135 => ?_)
          · replace hf := it_f c135 hf
            refine lv_bipush (v := (-9 : Int32)) hx hb dX0_faultOfForm_145 (by decide) ?_
            have e := so_some hf
            subst e
            exact ri hx hb hK hr hlk hQ dX0_faultOfForm_147 hP hD hS
          · replace hf := it_t c135 hf
            refine lv_aload_n hx hb dX0_faultOfForm_138 rfl (lv_at hl 0 rfl) ?_
            refine va_get (D := D) (ci := 0) (v := .int (S_t.1 2)) (C := RX0) (T := TX0) (N := 3) hx hb hts hinX0 hown hK hP 0 rfl rfl 2 (by decide) (hts (.fieldLink RX0 22 "OnlyStrangersHear$Letters" "told" "I") (by decide +kernel)) (fun _ h9 => h9) rfl dX0_faultOfForm_139 ?_
            refine lv_goto (tgt := 147) hx hb dX0_faultOfForm_142 (by decide) ?_
            have e := so_some hf
            subst e
            exact ri hx hb hK hr hlk hQ dX0_faultOfForm_147 hP hD hS
      · replace hf := it_f c15 hf
        refine lv_aload_n hx hb dX0_faultOfForm_18 rfl (lv_at hl 0 rfl) ?_
        refine va_get (D := D) (ci := 0) (v := .ref (a_t 0)) (C := RX0) (T := TX0) (N := 3) hx hb hts hinX0 hown hK hP 0 rfl rfl 0 (by decide) (hts (.fieldLink RX0 9 "OnlyStrangersHear$Letters" "signs" "[I") (by decide +kernel)) (fun _ h9 => h9) rfl dX0_faultOfForm_19 ?_
        refine lv_iload hx hb dX0_faultOfForm_22 (lv_at hl 4 rfl) ?_
        obtain ⟨b24, hf⟩ := ck_some hf
        refine va_iald hx hb hK hP 1 0 rfl rfl b24 dX0_faultOfForm_24 ?_
        refine lv_istore (lv' := [(5, .int (S_t.2 0 l4.toNatClampNeg)), (0, .ref o_t), (1, .int l1), (2, .int l2), (3, .int l3), (4, .int l4)]) hx hb dX0_faultOfForm_25 hl (by decide) rfl (fun ls hl => ?_)
        refine lv_iload_n hx hb dX0_faultOfForm_27 rfl (lv_at hl 2 rfl) ?_
        refine lv_if_ne (tgt := 62) hx hb dX0_faultOfForm_28 (by decide) (fun c28 => ?_) (fun c28 => ?_)
        · replace hf := it_f c28 hf
          refine lv_iload_n hx hb dX0_faultOfForm_62 rfl (lv_at hl 3 rfl) ?_
          refine lv_if_eq (tgt := 82) hx hb dX0_faultOfForm_63 (by decide) (fun c63 => ?_) (fun c63 => ?_)
          · replace hf := it_t c63 hf
            refine lv_iload_n hx hb dX0_faultOfForm_82 rfl (lv_at hl 4 rfl) ?_
            refine lv_if_le (tgt := 109) hx hb dX0_faultOfForm_83 (by decide) (fun c83 => ?_) (fun c83 => ?_)
            · replace hf := it_t c83 hf
              refine lv_iload hx hb dX0_faultOfForm_109 (lv_at hl 0 rfl) ?_
              refine lv_bipush (v := (59 : Int32)) hx hb dX0_faultOfForm_111 (by decide) ?_
              refine lv_icmp_eq (tgt := 119) hx hb dX0_faultOfForm_113 (by decide) (fun c113 => ?_) (fun c113 => ?_)
              · replace hf := it_t c113 hf
                refine lv_iconst (v := (0 : Int32)) hx hb dX0_faultOfForm_119 (by decide) ?_
                refine lv_istore_n (lv' := [(1, .int (0 : Int32)), (5, .int (S_t.2 0 l4.toNatClampNeg)), (0, .ref o_t), (2, .int l2), (3, .int l3), (4, .int l4)]) hx hb dX0_faultOfForm_120 rfl hl (by decide) rfl (fun ls hl => ?_)
                refine lv_iinc (v := l4 + (1 : Int32)) (lv' := [(4, .int (l4 + (1 : Int32))), (1, .int (0 : Int32)), (5, .int (S_t.2 0 l4.toNatClampNeg)), (0, .ref o_t), (2, .int l2), (3, .int l3)]) hx hb dX0_faultOfForm_121 hl (k := 5) rfl rfl (by decide) rfl (fun ls hl => ?_)
                refine lv_goto (tgt := 9) hx hb dX0_faultOfForm_124 (by decide) ?_
                exact ih9 S_t (0 : Int32) l2 l3 (l4 + (1 : Int32)) H locs ls hf hP hD hS (lv_sub hl [3, 1, 4, 5, 0] rfl)
              · replace hf := it_f c113 hf
                refine lv_iload hx hb dX0_faultOfForm_116 (lv_at hl 5 rfl) ?_
                have e := so_some hf
                subst e
                exact ri hx hb hK hr hlk hQ dX0_faultOfForm_118 hP hD hS
            · replace hf := it_f c83 hf
              refine lv_iload hx hb dX0_faultOfForm_86 (lv_at hl 0 rfl) ?_
              refine lv_bipush (v := (48 : Int32)) hx hb dX0_faultOfForm_88 (by decide) ?_
              refine lv_icmp_lt (tgt := 100) hx hb dX0_faultOfForm_90 (by decide) (fun c90 => ?_) (fun c90 => ?_)
              · replace hf := it_t c90 hf
                refine lv_iload hx hb dX0_faultOfForm_100 (lv_at hl 5 rfl) ?_
                have e := so_some hf
                subst e
                exact ri hx hb hK hr hlk hQ dX0_faultOfForm_102 hP hD hS
              · replace hf := it_f c90 hf
                refine lv_iload hx hb dX0_faultOfForm_93 (lv_at hl 0 rfl) ?_
                refine lv_bipush (v := (57 : Int32)) hx hb dX0_faultOfForm_95 (by decide) ?_
                refine lv_icmp_le (tgt := 103) hx hb dX0_faultOfForm_97 (by decide) (fun c97 => ?_) (fun c97 => ?_)
                · replace hf := it_t c97 hf
                  refine lv_iinc (v := l3 + (-1 : Int32)) (lv' := [(3, .int (l3 + (-1 : Int32))), (5, .int (S_t.2 0 l4.toNatClampNeg)), (0, .ref o_t), (1, .int l1), (2, .int l2), (4, .int l4)]) hx hb dX0_faultOfForm_103 hl (k := 4) rfl rfl (by decide) rfl (fun ls hl => ?_)
                  refine lv_goto (tgt := 121) hx hb dX0_faultOfForm_106 (by decide) ?_
                  refine lv_iinc (v := l4 + (1 : Int32)) (lv' := [(4, .int (l4 + (1 : Int32))), (3, .int (l3 + (-1 : Int32))), (5, .int (S_t.2 0 l4.toNatClampNeg)), (0, .ref o_t), (1, .int l1), (2, .int l2)]) hx hb dX0_faultOfForm_121 hl (k := 5) rfl rfl (by decide) rfl (fun ls hl => ?_)
                  refine lv_goto (tgt := 9) hx hb dX0_faultOfForm_124 (by decide) ?_
                  exact ih9 S_t l1 l2 (l3 + (-1 : Int32)) (l4 + (1 : Int32)) H locs ls hf hP hD hS (lv_sub hl [3, 4, 5, 1, 0] rfl)
                · replace hf := it_f c97 hf
                  refine lv_iload hx hb dX0_faultOfForm_100 (lv_at hl 5 rfl) ?_
                  have e := so_some hf
                  subst e
                  exact ri hx hb hK hr hlk hQ dX0_faultOfForm_102 hP hD hS
          · replace hf := it_f c63 hf
            refine lv_iload hx hb dX0_faultOfForm_66 (lv_at hl 0 rfl) ?_
            obtain ⟨r68, u68, h68, hf⟩ := bd_some hf
            have hPc : va_P D vwCl [] H := hP.sub (ws' := []) [] rfl
            have hDc : va_D A [] := hD.sub (ws' := []) [] (by decide) rfl
            refine calXe (runS EX.b (EX.n hE hS (va_free (wc := []) hD hS hA [] rfl)) (As := [.int (S_t.2 0 l4.toNatClampNeg)]) (rest := []) ⟨hx, hb, hml, hown, hts⟩ (c_X0_kindBy l D cI (S_t.2 0 l4.toNatClampNeg) _ h68) gX0_faultOfForm_X0_kindBy rfl rfl rfl hdX0_kindBy ⟨by decide, by decide⟩ hK hPc hDc rfl hl.1 rfl (Nat.le_of_ble_eq_true rfl) dX0_faultOfForm_68 ⟨Nat.zero_le _, Nat.zero_le _⟩) hP hD hS hA (fun H locs hP hD hS => ?_)
            have hP : va_P D vwCl (gX0 o_t a_t cI S_t) H := hP
            have hD : va_D A (gX0 o_t a_t cI S_t) := hD
            refine W.eq (g2 := F0 m 71 ls [.int r68]) rfl ?_
            refine lv_if_ge (tgt := 77) hx hb dX0_faultOfForm_71 (by decide) (fun c71 => ?_) (fun c71 => ?_)
            · replace hf := it_t c71 hf
              refine lv_iconst (v := (0 : Int32)) hx hb dX0_faultOfForm_77 (by decide) ?_
              refine lv_istore_n (lv' := [(2, .int (0 : Int32)), (5, .int (S_t.2 0 l4.toNatClampNeg)), (0, .ref o_t), (1, .int l1), (3, .int l3), (4, .int l4)]) hx hb dX0_faultOfForm_78 rfl hl (by decide) rfl (fun ls hl => ?_)
              refine lv_goto (tgt := 121) hx hb dX0_faultOfForm_79 (by decide) ?_
              refine lv_iinc (v := l4 + (1 : Int32)) (lv' := [(4, .int (l4 + (1 : Int32))), (2, .int (0 : Int32)), (5, .int (S_t.2 0 l4.toNatClampNeg)), (0, .ref o_t), (1, .int l1), (3, .int l3)]) hx hb dX0_faultOfForm_121 hl (k := 5) rfl rfl (by decide) rfl (fun ls hl => ?_)
              refine lv_goto (tgt := 9) hx hb dX0_faultOfForm_124 (by decide) ?_
              exact ih9 S_t l1 (0 : Int32) l3 (l4 + (1 : Int32)) H locs ls hf hP hD hS (lv_sub hl [3, 4, 1, 5, 0] rfl)
            · replace hf := it_f c71 hf
              refine lv_iload hx hb dX0_faultOfForm_74 (lv_at hl 5 rfl) ?_
              have e := so_some hf
              subst e
              exact ri hx hb hK hr hlk hQ dX0_faultOfForm_76 hP hD hS
        · replace hf := it_t c28 hf
          refine lv_iload hx hb dX0_faultOfForm_31 (lv_at hl 0 rfl) ?_
          obtain ⟨r33, u33, h33, hf⟩ := bd_some hf
          have hPc : va_P D vwCl [] H := hP.sub (ws' := []) [] rfl
          have hDc : va_D A [] := hD.sub (ws' := []) [] (by decide) rfl
          refine calXe (runS E0.b E0.n (As := [.int (S_t.2 0 l4.toNatClampNeg)]) (rest := []) ⟨hx, hb, hml, hown, hts⟩ (c_X0_digitsBehind l D cI (S_t.2 0 l4.toNatClampNeg) _ h33) gX0_faultOfForm_X0_digitsBehind rfl rfl rfl hdX0_digitsBehind ⟨by decide, by decide⟩ hK hPc hDc rfl hl.1 rfl (Nat.le_of_ble_eq_true rfl) dX0_faultOfForm_33 ⟨Nat.zero_le _, Nat.zero_le _⟩) hP hD hS hA (fun H locs hP hD hS => ?_)
          have hP : va_P D vwCl (gX0 o_t a_t cI S_t) H := hP
          have hD : va_D A (gX0 o_t a_t cI S_t) := hD
          refine W.eq (g2 := F0 m 36 ls [.int r33]) rfl ?_
          refine lv_istore_n (lv' := [(3, .int r33), (5, .int (S_t.2 0 l4.toNatClampNeg)), (0, .ref o_t), (1, .int l1), (2, .int l2), (4, .int l4)]) hx hb dX0_faultOfForm_36 rfl hl (by decide) rfl (fun ls hl => ?_)
          refine lv_iload_n hx hb dX0_faultOfForm_37 rfl (lv_at hl 0 rfl) ?_
          refine lv_if_ne (tgt := 44) hx hb dX0_faultOfForm_38 (by decide) (fun c38 => ?_) (fun c38 => ?_)
          · replace hf := it_f c38 hf
            refine lv_iconst (v := (1 : Int32)) hx hb dX0_faultOfForm_44 (by decide) ?_
            refine lv_istore_n (lv' := [(1, .int (1 : Int32)), (3, .int r33), (5, .int (S_t.2 0 l4.toNatClampNeg)), (0, .ref o_t), (2, .int l2), (4, .int l4)]) hx hb dX0_faultOfForm_45 rfl hl (by decide) rfl (fun ls hl => ?_)
            refine lv_iload hx hb dX0_faultOfForm_46 (lv_at hl 2 rfl) ?_
            refine lv_bipush (v := (112 : Int32)) hx hb dX0_faultOfForm_48 (by decide) ?_
            refine lv_icmp_ne (tgt := 57) hx hb dX0_faultOfForm_50 (by decide) (fun c50 => ?_) (fun c50 => ?_)
            · replace hf := it_f c50 hf
              refine lv_iconst (v := (0 : Int32)) hx hb dX0_faultOfForm_57 (by decide) ?_
              refine lv_istore_n (lv' := [(2, .int (0 : Int32)), (1, .int (1 : Int32)), (3, .int r33), (5, .int (S_t.2 0 l4.toNatClampNeg)), (0, .ref o_t), (4, .int l4)]) hx hb dX0_faultOfForm_58 rfl hl (by decide) rfl (fun ls hl => ?_)
              refine lv_goto (tgt := 121) hx hb dX0_faultOfForm_59 (by decide) ?_
              refine lv_iinc (v := l4 + (1 : Int32)) (lv' := [(4, .int (l4 + (1 : Int32))), (2, .int (0 : Int32)), (1, .int (1 : Int32)), (3, .int r33), (5, .int (S_t.2 0 l4.toNatClampNeg)), (0, .ref o_t)]) hx hb dX0_faultOfForm_121 hl (k := 5) rfl rfl (by decide) rfl (fun ls hl => ?_)
              refine lv_goto (tgt := 9) hx hb dX0_faultOfForm_124 (by decide) ?_
              exact ih9 S_t (1 : Int32) (0 : Int32) r33 (l4 + (1 : Int32)) H locs ls hf hP hD hS (lv_sub hl [5, 2, 1, 3, 0] rfl)
            · replace hf := it_t c50 hf
              refine lv_iconst (v := (1 : Int32)) hx hb dX0_faultOfForm_53 (by decide) ?_
              refine lv_goto (tgt := 58) hx hb dX0_faultOfForm_54 (by decide) ?_
              refine lv_istore_n (lv' := [(2, .int (1 : Int32)), (1, .int (1 : Int32)), (3, .int r33), (5, .int (S_t.2 0 l4.toNatClampNeg)), (0, .ref o_t), (4, .int l4)]) hx hb dX0_faultOfForm_58 rfl hl (by decide) rfl (fun ls hl => ?_)
              refine lv_goto (tgt := 121) hx hb dX0_faultOfForm_59 (by decide) ?_
              refine lv_iinc (v := l4 + (1 : Int32)) (lv' := [(4, .int (l4 + (1 : Int32))), (2, .int (1 : Int32)), (1, .int (1 : Int32)), (3, .int r33), (5, .int (S_t.2 0 l4.toNatClampNeg)), (0, .ref o_t)]) hx hb dX0_faultOfForm_121 hl (k := 5) rfl rfl (by decide) rfl (fun ls hl => ?_)
              refine lv_goto (tgt := 9) hx hb dX0_faultOfForm_124 (by decide) ?_
              exact ih9 S_t (1 : Int32) (1 : Int32) r33 (l4 + (1 : Int32)) H locs ls hf hP hD hS (lv_sub hl [5, 2, 1, 3, 0] rfl)
          · replace hf := it_t c38 hf
            refine lv_iload hx hb dX0_faultOfForm_41 (lv_at hl 5 rfl) ?_
            have e := so_some hf
            subst e
            exact ri hx hb hK hr hlk hQ dX0_faultOfForm_43 hP hD hS
  unfold f_X0_faultOfForm at hf
  have hl : lv_has ls 6 [(0, .ref o_t)] := hl
  obtain ⟨H, hHe⟩ : ∃ H : Heap, H = s.heap := ⟨_, rfl⟩
  obtain ⟨locs, hle⟩ : ∃ q : List Loc, q = [] := ⟨_, rfl⟩
  have hS : va_S A s.heap H locs := by rw [hHe, hle]; exact hS
  rw [← hHe] at hP
  suffices hgo : W p l e rmX0_faultOfForm s m ([.ref o_t] : List Value).toArray below meth c H locs 0 0 Q (F0 m 0 ls []) by rw [hHe, hle] at hgo; exact hgo
  clear hHe hle
  refine lv_iconst (v := (0 : Int32)) hx hb dX0_faultOfForm_0 (by decide) ?_
  refine lv_istore_n (lv' := [(1, .int (0 : Int32)), (0, .ref o_t)]) hx hb dX0_faultOfForm_1 rfl hl (by decide) rfl (fun ls hl => ?_)
  refine lv_iconst (v := (0 : Int32)) hx hb dX0_faultOfForm_2 (by decide) ?_
  refine lv_istore_n (lv' := [(2, .int (0 : Int32)), (1, .int (0 : Int32)), (0, .ref o_t)]) hx hb dX0_faultOfForm_3 rfl hl (by decide) rfl (fun ls hl => ?_)
  refine lv_iconst (v := (0 : Int32)) hx hb dX0_faultOfForm_4 (by decide) ?_
  refine lv_istore_n (lv' := [(3, .int (0 : Int32)), (2, .int (0 : Int32)), (1, .int (0 : Int32)), (0, .ref o_t)]) hx hb dX0_faultOfForm_5 rfl hl (by decide) rfl (fun ls hl => ?_)
  refine lv_iconst (v := (0 : Int32)) hx hb dX0_faultOfForm_6 (by decide) ?_
  refine lv_istore (lv' := [(4, .int (0 : Int32)), (3, .int (0 : Int32)), (2, .int (0 : Int32)), (1, .int (0 : Int32)), (0, .ref o_t)]) hx hb dX0_faultOfForm_7 hl (by decide) rfl (fun ls hl => ?_)
  exact j9 1000 S_t (0 : Int32) (0 : Int32) (0 : Int32) (0 : Int32) H locs ls hf hP hD hS (lv_sub hl [4, 3, 2, 1, 0] rfl)
abbrev rmX0_signAt : Room := { frames := 0, cells := 0, slots := 0, locals := 0 }
set_option maxHeartbeats 4000000 in
set_option maxRecDepth 100000 in
theorem c_X0_signAt (l : Launch) (D : va_G) (cI : ClassId) (o_t : Nat) (a_t : Nat → Nat) (S_t : G) (x1 : Int32) (out : Int32 × G) (hf : f_X0_signAt S_t x1 = some out) : Cn E0 l yX0_signAt wsX0_signAt rmX0_signAt D cI [.ref o_t, .int x1] (gX0 o_t a_t cI S_t) (some (.int out.1)) (gX0 o_t a_t cI out.2) := by
  refine Cn.mk (cc := cX0_signAt) (maxL := 2) (ret := (some .int)) (by decide) rfl (Nat.le_of_ble_eq_true rfl) ?_
  intro p e s m below meth c A ls Q hx hb hml hown hts hK hA hP hD hS hl hr hlk hnm hE hQ
  have hown : s.vm.findClass RX0 = some m.cls := hown
  have hinX0 : ∀ w ∈ u_ws RX0 TX0 3, w ∈ wsX0_signAt := by decide +kernel
  unfold f_X0_signAt at hf
  have hl : lv_has ls 2 [(0, .ref o_t), (1, .int x1)] := hl
  obtain ⟨H, hHe⟩ : ∃ H : Heap, H = s.heap := ⟨_, rfl⟩
  obtain ⟨locs, hle⟩ : ∃ q : List Loc, q = [] := ⟨_, rfl⟩
  have hS : va_S A s.heap H locs := by rw [hHe, hle]; exact hS
  rw [← hHe] at hP
  suffices hgo : W p l e rmX0_signAt s m ([.ref o_t, .int x1] : List Value).toArray below meth c H locs 0 0 Q (F0 m 0 ls []) by rw [hHe, hle] at hgo; exact hgo
  clear hHe hle
  refine lv_iload_n hx hb dX0_signAt_0 rfl (lv_at hl 1 rfl) ?_
  refine lv_if_lt (tgt := 21) hx hb dX0_signAt_1 (by decide) (fun c1 => ?_) (fun c1 => ?_)
  · replace hf := it_t c1 hf
    refine lv_bipush (v := (48 : Int32)) hx hb dX0_signAt_21 (by decide) ?_
    have e := so_some hf
    subst e
    exact ri hx hb hK hr hlk hQ dX0_signAt_23 hP hD hS
  · replace hf := it_f c1 hf
    refine lv_iload_n hx hb dX0_signAt_4 rfl (lv_at hl 1 rfl) ?_
    refine lv_aload_n hx hb dX0_signAt_5 rfl (lv_at hl 0 rfl) ?_
    refine va_get (D := D) (ci := 0) (v := .int (S_t.1 2)) (C := RX0) (T := TX0) (N := 3) hx hb hts hinX0 hown hK hP 0 rfl rfl 2 (by decide) (hts (.fieldLink RX0 22 "OnlyStrangersHear$Letters" "told" "I") (by decide +kernel)) (fun _ h9 => h9) rfl dX0_signAt_6 ?_
    refine lv_icmp_ge (tgt := 21) hx hb dX0_signAt_9 (by decide) (fun c9 => ?_) (fun c9 => ?_)
    · replace hf := it_t c9 hf
      refine lv_bipush (v := (48 : Int32)) hx hb dX0_signAt_21 (by decide) ?_
      have e := so_some hf
      subst e
      exact ri hx hb hK hr hlk hQ dX0_signAt_23 hP hD hS
    · replace hf := it_f c9 hf
      refine lv_aload_n hx hb dX0_signAt_12 rfl (lv_at hl 0 rfl) ?_
      refine va_get (D := D) (ci := 0) (v := .ref (a_t 0)) (C := RX0) (T := TX0) (N := 3) hx hb hts hinX0 hown hK hP 0 rfl rfl 0 (by decide) (hts (.fieldLink RX0 9 "OnlyStrangersHear$Letters" "signs" "[I") (by decide +kernel)) (fun _ h9 => h9) rfl dX0_signAt_13 ?_
      refine lv_iload_n hx hb dX0_signAt_16 rfl (lv_at hl 1 rfl) ?_
      obtain ⟨b17, hf⟩ := ck_some hf
      refine va_iald hx hb hK hP 1 0 rfl rfl b17 dX0_signAt_17 ?_
      refine lv_goto (tgt := 23) hx hb dX0_signAt_18 (by decide) ?_
      have e := so_some hf
      subst e
      exact ri hx hb hK hr hlk hQ dX0_signAt_23 hP hD hS
abbrev rmX0_number : Room := { frames := 1, cells := 0, slots := 0, locals := 21 }
set_option maxHeartbeats 4000000 in
set_option maxRecDepth 100000 in
theorem c_X0_number (l : Launch) (D : va_G) (cI : ClassId) (o_t : Nat) (a_t : Nat → Nat) (S_t : G) (x1 : Int32) (x2 : Int32) (out : Int32 × G) (hf : f_X0_number S_t x1 x2 = some out) : Cn E0 l yX0_number wsX0_number rmX0_number D cI [.ref o_t, .int x1, .int x2] (gX0 o_t a_t cI S_t) (some (.int out.1)) (gX0 o_t a_t cI out.2) := by
  refine Cn.mk (cc := cX0_number) (maxL := 5) (ret := (some .int)) (by decide) rfl (Nat.le_of_ble_eq_true rfl) ?_
  intro p e s m below meth c A ls Q hx hb hml hown hts hK hA hP hD hS hl hr hlk hnm hE hQ
  have hown : s.vm.findClass RX0 = some m.cls := hown
  have j5 : ∀ (n5 : Nat) (S_t : G) (l1 : Int32) (l2 : Int32) (l3 : Int32) (l4 : Int32) (H : Heap) (locs : List Loc) (ls : Array Slot), f_X0_number_5 n5 S_t l1 l2 l3 l4 = some out → va_P D vwCl (gX0 o_t a_t cI S_t) H → va_D A (gX0 o_t a_t cI S_t) → va_S A s.heap H locs → lv_has ls 5 [(0, .ref o_t), (1, .int l1), (2, .int l2), (3, .int l3), (4, .int l4)] → W p l e rmX0_number s m ([.ref o_t, .int x1, .int x2] : List Value).toArray below meth c H locs 0 0 Q (F0 m 5 ls []) := by
    intro n5
    induction n5 with
    | zero =>
      intro S_t l1 l2 l3 l4 H locs ls hf
      exact no_some hf
    | succ n5 ih5 =>
      intro S_t l1 l2 l3 l4 H locs ls hf hP hD hS hl
      replace hf : b_X0_number_5 (f_X0_number_5 n5) S_t l1 l2 l3 l4 = some out := hf
      unfold b_X0_number_5 at hf
      refine lv_iload hx hb dX0_number_5 (lv_at hl 4 rfl) ?_
      refine lv_iload_n hx hb dX0_number_7 rfl (lv_at hl 2 rfl) ?_
      refine lv_icmp_ge (tgt := 34) hx hb dX0_number_8 (by decide) (fun c8 => ?_) (fun c8 => ?_)
      · replace hf := it_t c8 hf
        refine lv_iload_n hx hb dX0_number_34 rfl (lv_at hl 3 rfl) ?_
        have e := so_some hf
        subst e
        exact ri hx hb hK hr hlk hQ dX0_number_35 hP hD hS
      · replace hf := it_f c8 hf
        refine lv_bipush (v := (10 : Int32)) hx hb dX0_number_11 (by decide) ?_
        refine lv_iload_n hx hb dX0_number_13 rfl (lv_at hl 3 rfl) ?_
        refine lv_imul hx hb dX0_number_14 ?_
        refine lv_aload_n hx hb dX0_number_15 rfl (lv_at hl 0 rfl) ?_
        refine lv_iload_n hx hb dX0_number_16 rfl (lv_at hl 1 rfl) ?_
        refine lv_iload hx hb dX0_number_17 (lv_at hl 4 rfl) ?_
        refine lv_iadd hx hb dX0_number_19 ?_
        obtain ⟨r20, u20, h20, hf⟩ := bd_some hf
        refine calX0 (runV E0.b E0.n (As := [.int (l1 + l4)]) (rest := [.int ((10 : Int32) * l3)]) ⟨hx, hb, hml, hown, hts⟩ (c_X0_signAt l D cI o_t a_t S_t (l1 + l4) _ h20) gX0_number_X0_signAt rfl rfl rfl hdX0_signAt ⟨by decide, by decide⟩ hK hP hD 0 rfl rfl rfl hl.1 rfl (Nat.le_of_ble_eq_true rfl) dX0_number_20 ⟨Nat.zero_le _, Nat.zero_le _⟩) hD hS hA (fun H locs hP hD hS => ?_)
        have hP : va_P D vwCl (gX0 o_t a_t cI u20) H := hP
        have hD : va_D A (gX0 o_t a_t cI u20) := hD
        refine W.eq (g2 := F0 m 23 ls [.int r20, .int ((10 : Int32) * l3)]) rfl ?_
        refine lv_iadd hx hb dX0_number_23 ?_
        refine lv_bipush (v := (48 : Int32)) hx hb dX0_number_24 (by decide) ?_
        refine lv_isub hx hb dX0_number_26 ?_
        refine lv_topi (fun v27 e27 => ?_)
        replace hf := lt_at e27 hf
        refine lv_istore_n (lv' := [(3, .int v27), (0, .ref o_t), (1, .int l1), (2, .int l2), (4, .int l4)]) hx hb dX0_number_27 rfl hl (by decide) rfl (fun ls hl => ?_)
        refine lv_iinc (v := l4 + (1 : Int32)) (lv' := [(4, .int (l4 + (1 : Int32))), (3, .int v27), (0, .ref o_t), (1, .int l1), (2, .int l2)]) hx hb dX0_number_28 hl (k := 4) rfl rfl (by decide) rfl (fun ls hl => ?_)
        refine lv_goto (tgt := 5) hx hb dX0_number_31 (by decide) ?_
        exact ih5 u20 l1 l2 v27 (l4 + (1 : Int32)) H locs ls hf hP hD hS (lv_sub hl [2, 3, 4, 1, 0] rfl)
  unfold f_X0_number at hf
  have hl : lv_has ls 5 [(0, .ref o_t), (1, .int x1), (2, .int x2)] := hl
  obtain ⟨H, hHe⟩ : ∃ H : Heap, H = s.heap := ⟨_, rfl⟩
  obtain ⟨locs, hle⟩ : ∃ q : List Loc, q = [] := ⟨_, rfl⟩
  have hS : va_S A s.heap H locs := by rw [hHe, hle]; exact hS
  rw [← hHe] at hP
  suffices hgo : W p l e rmX0_number s m ([.ref o_t, .int x1, .int x2] : List Value).toArray below meth c H locs 0 0 Q (F0 m 0 ls []) by rw [hHe, hle] at hgo; exact hgo
  clear hHe hle
  refine lv_iconst (v := (0 : Int32)) hx hb dX0_number_0 (by decide) ?_
  refine lv_istore_n (lv' := [(3, .int (0 : Int32)), (0, .ref o_t), (1, .int x1), (2, .int x2)]) hx hb dX0_number_1 rfl hl (by decide) rfl (fun ls hl => ?_)
  refine lv_iconst (v := (0 : Int32)) hx hb dX0_number_2 (by decide) ?_
  refine lv_istore (lv' := [(4, .int (0 : Int32)), (3, .int (0 : Int32)), (0, .ref o_t), (1, .int x1), (2, .int x2)]) hx hb dX0_number_3 hl (by decide) rfl (fun ls hl => ?_)
  exact j5 1000 S_t x1 x2 (0 : Int32) (0 : Int32) H locs ls hf hP hD hS (lv_sub hl [2, 3, 4, 1, 0] rfl)
abbrev rmX0_stateAway : Room := { frames := 0, cells := 0, slots := 0, locals := 0 }
set_option maxHeartbeats 4000000 in
set_option maxRecDepth 100000 in
theorem c_X0_stateAway (l : Launch) (D : va_G) (cI : ClassId) (o_t : Nat) (a_t : Nat → Nat) (a_t_1 : Nat → Nat) (S_t : G) (S_t_1 : G) (x1 : Int32) (x2 : Int32) (out : Int32 × G × G) (hf : f_X0_stateAway S_t S_t_1 x1 x2 = some out) : Cn E0 l yX0_stateAway wsX0_stateAway rmX0_stateAway D cI [.ref o_t, .int x1, .int x2] (gX0 o_t a_t cI S_t ++ gX4 (a_t 1) a_t_1 cI S_t_1) (some (.int out.1)) (gX0 o_t a_t cI out.2.1 ++ gX4 (a_t 1) a_t_1 cI out.2.2) := by
  refine Cn.mk (cc := cX0_stateAway) (maxL := 3) (ret := (some .boolean)) (by decide) rfl (Nat.le_of_ble_eq_true rfl) ?_
  intro p e s m below meth c A ls Q hx hb hml hown hts hK hA hP hD hS hl hr hlk hnm hE hQ
  have hown : s.vm.findClass RX0 = some m.cls := hown
  have hinX0 : ∀ w ∈ u_ws RX0 TX0 3, w ∈ wsX0_stateAway := by decide +kernel
  have hinX4 : ∀ w ∈ u_ws RX4 TX4 10, w ∈ wsX0_stateAway := by decide +kernel
  unfold f_X0_stateAway at hf
  have hl : lv_has ls 3 [(0, .ref o_t), (1, .int x1), (2, .int x2)] := hl
  obtain ⟨H, hHe⟩ : ∃ H : Heap, H = s.heap := ⟨_, rfl⟩
  obtain ⟨locs, hle⟩ : ∃ q : List Loc, q = [] := ⟨_, rfl⟩
  have hS : va_S A s.heap H locs := by rw [hHe, hle]; exact hS
  rw [← hHe] at hP
  suffices hgo : W p l e rmX0_stateAway s m ([.ref o_t, .int x1, .int x2] : List Value).toArray below meth c H locs 0 0 Q (F0 m 0 ls []) by rw [hHe, hle] at hgo; exact hgo
  clear hHe hle
  refine lv_iload_n hx hb dX0_stateAway_0 rfl (lv_at hl 1 rfl) ?_
  refine lv_aload_n hx hb dX0_stateAway_1 rfl (lv_at hl 0 rfl) ?_
  refine va_get (D := D) (ci := 0) (v := .ref (a_t 1)) (C := RX0) (T := TX0) (N := 3) hx hb hts hinX0 hown hK hP 0 rfl rfl 1 (by decide) (hts (.fieldLink RX0 18 "OnlyStrangersHear$Letters" "draft" "LOnlyStrangersHear$Town;") (by decide +kernel)) (fun _ h9 => h9) rfl dX0_stateAway_2 ?_
  refine va_get (D := D) (ci := 4) (v := .int (S_t_1.1 3)) (C := RX4) (T := TX4) (N := 10) hx hb hts hinX4 hown hK hP 2 rfl rfl 3 (by decide) (hts (.fieldLink RX0 79 "OnlyStrangersHear$Town" "people" "I") (by decide +kernel)) (fun _ h9 => h9) rfl dX0_stateAway_5 ?_
  refine lv_icmp_lt (tgt := 13) hx hb dX0_stateAway_8 (by decide) (fun c8 => ?_) (fun c8 => ?_)
  · replace hf := it_t c8 hf
    refine lv_aload_n hx hb dX0_stateAway_13 rfl (lv_at hl 0 rfl) ?_
    refine va_get (D := D) (ci := 0) (v := .ref (a_t 1)) (C := RX0) (T := TX0) (N := 3) hx hb hts hinX0 hown hK hP 0 rfl rfl 1 (by decide) (hts (.fieldLink RX0 18 "OnlyStrangersHear$Letters" "draft" "LOnlyStrangersHear$Town;") (by decide +kernel)) (fun _ h9 => h9) rfl dX0_stateAway_14 ?_
    refine va_get (D := D) (ci := 4) (v := .ref (a_t_1 7)) (C := RX4) (T := TX4) (N := 10) hx hb hts hinX4 hown hK hP 2 rfl rfl 7 (by decide) (hts (.fieldLink RX0 82 "OnlyStrangersHear$Town" "away" "[I") (by decide +kernel)) (fun _ h9 => h9) rfl dX0_stateAway_17 ?_
    refine lv_iload_n hx hb dX0_stateAway_20 rfl (lv_at hl 1 rfl) ?_
    refine lv_iload_n hx hb dX0_stateAway_21 rfl (lv_at hl 2 rfl) ?_
    obtain ⟨b22, hf⟩ := ck_some hf
    refine va_iast hx hb hK hP hD hS 8 0 rfl rfl b22 dX0_stateAway_22 (fun H locs hP hD hS => ?_)
    have hP : va_P D vwCl (gX0 o_t a_t cI S_t ++ gX4 (a_t 1) a_t_1 cI (pA S_t_1 7 x1.toNatClampNeg x2)) H := hP
    have hD : va_D A (gX0 o_t a_t cI S_t ++ gX4 (a_t 1) a_t_1 cI (pA S_t_1 7 x1.toNatClampNeg x2)) := hD
    obtain ⟨g22, e22, hf⟩ := lt_some hf
    rw [← e22] at hP hD
    refine lv_iconst (v := (1 : Int32)) hx hb dX0_stateAway_23 (by decide) ?_
    have e := so_some hf
    subst e
    exact rz hx hb hK hr hlk (Or.inr rfl) hQ dX0_stateAway_24 hP hD hS
  · replace hf := it_f c8 hf
    refine lv_iconst (v := (0 : Int32)) hx hb dX0_stateAway_11 (by decide) ?_
    have e := so_some hf
    subst e
    exact rz hx hb hK hr hlk (Or.inl rfl) hQ dX0_stateAway_12 hP hD hS
abbrev rmX0_stateSlept : Room := { frames := 0, cells := 0, slots := 0, locals := 0 }
set_option maxHeartbeats 4000000 in
set_option maxRecDepth 100000 in
theorem c_X0_stateSlept (l : Launch) (D : va_G) (cI : ClassId) (o_t : Nat) (a_t : Nat → Nat) (a_t_1 : Nat → Nat) (S_t : G) (S_t_1 : G) (x1 : Int32) (x2 : Int32) (out : Int32 × G × G) (hf : f_X0_stateSlept S_t S_t_1 x1 x2 = some out) : Cn E0 l yX0_stateSlept wsX0_stateSlept rmX0_stateSlept D cI [.ref o_t, .int x1, .int x2] (gX0 o_t a_t cI S_t ++ gX4 (a_t 1) a_t_1 cI S_t_1) (some (.int out.1)) (gX0 o_t a_t cI out.2.1 ++ gX4 (a_t 1) a_t_1 cI out.2.2) := by
  refine Cn.mk (cc := cX0_stateSlept) (maxL := 3) (ret := (some .boolean)) (by decide) rfl (Nat.le_of_ble_eq_true rfl) ?_
  intro p e s m below meth c A ls Q hx hb hml hown hts hK hA hP hD hS hl hr hlk hnm hE hQ
  have hown : s.vm.findClass RX0 = some m.cls := hown
  have hinX0 : ∀ w ∈ u_ws RX0 TX0 3, w ∈ wsX0_stateSlept := by decide +kernel
  have hinX4 : ∀ w ∈ u_ws RX4 TX4 10, w ∈ wsX0_stateSlept := by decide +kernel
  unfold f_X0_stateSlept at hf
  have hl : lv_has ls 3 [(0, .ref o_t), (1, .int x1), (2, .int x2)] := hl
  obtain ⟨H, hHe⟩ : ∃ H : Heap, H = s.heap := ⟨_, rfl⟩
  obtain ⟨locs, hle⟩ : ∃ q : List Loc, q = [] := ⟨_, rfl⟩
  have hS : va_S A s.heap H locs := by rw [hHe, hle]; exact hS
  rw [← hHe] at hP
  suffices hgo : W p l e rmX0_stateSlept s m ([.ref o_t, .int x1, .int x2] : List Value).toArray below meth c H locs 0 0 Q (F0 m 0 ls []) by rw [hHe, hle] at hgo; exact hgo
  clear hHe hle
  refine lv_iload_n hx hb dX0_stateSlept_0 rfl (lv_at hl 1 rfl) ?_
  refine lv_aload_n hx hb dX0_stateSlept_1 rfl (lv_at hl 0 rfl) ?_
  refine va_get (D := D) (ci := 0) (v := .ref (a_t 1)) (C := RX0) (T := TX0) (N := 3) hx hb hts hinX0 hown hK hP 0 rfl rfl 1 (by decide) (hts (.fieldLink RX0 18 "OnlyStrangersHear$Letters" "draft" "LOnlyStrangersHear$Town;") (by decide +kernel)) (fun _ h9 => h9) rfl dX0_stateSlept_2 ?_
  refine va_get (D := D) (ci := 4) (v := .int (S_t_1.1 3)) (C := RX4) (T := TX4) (N := 10) hx hb hts hinX4 hown hK hP 2 rfl rfl 3 (by decide) (hts (.fieldLink RX0 79 "OnlyStrangersHear$Town" "people" "I") (by decide +kernel)) (fun _ h9 => h9) rfl dX0_stateSlept_5 ?_
  refine lv_icmp_lt (tgt := 13) hx hb dX0_stateSlept_8 (by decide) (fun c8 => ?_) (fun c8 => ?_)
  · replace hf := it_t c8 hf
    refine lv_aload_n hx hb dX0_stateSlept_13 rfl (lv_at hl 0 rfl) ?_
    refine va_get (D := D) (ci := 0) (v := .ref (a_t 1)) (C := RX0) (T := TX0) (N := 3) hx hb hts hinX0 hown hK hP 0 rfl rfl 1 (by decide) (hts (.fieldLink RX0 18 "OnlyStrangersHear$Letters" "draft" "LOnlyStrangersHear$Town;") (by decide +kernel)) (fun _ h9 => h9) rfl dX0_stateSlept_14 ?_
    refine va_get (D := D) (ci := 4) (v := .ref (a_t_1 6)) (C := RX4) (T := TX4) (N := 10) hx hb hts hinX4 hown hK hP 2 rfl rfl 6 (by decide) (hts (.fieldLink RX0 85 "OnlyStrangersHear$Town" "slept" "[I") (by decide +kernel)) (fun _ h9 => h9) rfl dX0_stateSlept_17 ?_
    refine lv_iload_n hx hb dX0_stateSlept_20 rfl (lv_at hl 1 rfl) ?_
    refine lv_iload_n hx hb dX0_stateSlept_21 rfl (lv_at hl 2 rfl) ?_
    obtain ⟨b22, hf⟩ := ck_some hf
    refine va_iast hx hb hK hP hD hS 7 0 rfl rfl b22 dX0_stateSlept_22 (fun H locs hP hD hS => ?_)
    have hP : va_P D vwCl (gX0 o_t a_t cI S_t ++ gX4 (a_t 1) a_t_1 cI (pA S_t_1 6 x1.toNatClampNeg x2)) H := hP
    have hD : va_D A (gX0 o_t a_t cI S_t ++ gX4 (a_t 1) a_t_1 cI (pA S_t_1 6 x1.toNatClampNeg x2)) := hD
    obtain ⟨g22, e22, hf⟩ := lt_some hf
    rw [← e22] at hP hD
    refine lv_iconst (v := (1 : Int32)) hx hb dX0_stateSlept_23 (by decide) ?_
    have e := so_some hf
    subst e
    exact rz hx hb hK hr hlk (Or.inr rfl) hQ dX0_stateSlept_24 hP hD hS
  · replace hf := it_f c8 hf
    refine lv_iconst (v := (0 : Int32)) hx hb dX0_stateSlept_11 (by decide) ?_
    have e := so_some hf
    subst e
    exact rz hx hb hK hr hlk (Or.inl rfl) hQ dX0_stateSlept_12 hP hD hS
abbrev rmX0_stateBeds : Room := { frames := 0, cells := 0, slots := 0, locals := 0 }
set_option maxHeartbeats 4000000 in
set_option maxRecDepth 100000 in
theorem c_X0_stateBeds (l : Launch) (D : va_G) (cI : ClassId) (o_t : Nat) (a_t : Nat → Nat) (a_t_1 : Nat → Nat) (S_t : G) (S_t_1 : G) (x1 : Int32) (out : Int32 × G × G) (hf : f_X0_stateBeds S_t S_t_1 x1 = some out) : Cn E0 l yX0_stateBeds wsX0_stateBeds rmX0_stateBeds D cI [.ref o_t, .int x1] (gX0 o_t a_t cI S_t ++ gX4 (a_t 1) a_t_1 cI S_t_1) (some (.int out.1)) (gX0 o_t a_t cI out.2.1 ++ gX4 (a_t 1) a_t_1 cI out.2.2) := by
  refine Cn.mk (cc := cX0_stateBeds) (maxL := 2) (ret := (some .boolean)) (by decide) rfl (Nat.le_of_ble_eq_true rfl) ?_
  intro p e s m below meth c A ls Q hx hb hml hown hts hK hA hP hD hS hl hr hlk hnm hE hQ
  have hown : s.vm.findClass RX0 = some m.cls := hown
  have hinX0 : ∀ w ∈ u_ws RX0 TX0 3, w ∈ wsX0_stateBeds := by decide +kernel
  have hinX4 : ∀ w ∈ u_ws RX4 TX4 10, w ∈ wsX0_stateBeds := by decide +kernel
  unfold f_X0_stateBeds at hf
  have hl : lv_has ls 2 [(0, .ref o_t), (1, .int x1)] := hl
  obtain ⟨H, hHe⟩ : ∃ H : Heap, H = s.heap := ⟨_, rfl⟩
  obtain ⟨locs, hle⟩ : ∃ q : List Loc, q = [] := ⟨_, rfl⟩
  have hS : va_S A s.heap H locs := by rw [hHe, hle]; exact hS
  rw [← hHe] at hP
  suffices hgo : W p l e rmX0_stateBeds s m ([.ref o_t, .int x1] : List Value).toArray below meth c H locs 0 0 Q (F0 m 0 ls []) by rw [hHe, hle] at hgo; exact hgo
  clear hHe hle
  refine lv_iload_n hx hb dX0_stateBeds_0 rfl (lv_at hl 1 rfl) ?_
  refine lv_iconst (v := (1 : Int32)) hx hb dX0_stateBeds_1 (by decide) ?_
  refine lv_icmp_lt (tgt := 11) hx hb dX0_stateBeds_2 (by decide) (fun c2 => ?_) (fun c2 => ?_)
  · replace hf := it_t c2 hf
    refine lv_iconst (v := (0 : Int32)) hx hb dX0_stateBeds_11 (by decide) ?_
    have e := so_some hf
    subst e
    exact rz hx hb hK hr hlk (Or.inl rfl) hQ dX0_stateBeds_12 hP hD hS
  · replace hf := it_f c2 hf
    refine lv_iload_n hx hb dX0_stateBeds_5 rfl (lv_at hl 1 rfl) ?_
    refine lv_bipush (v := (8 : Int32)) hx hb dX0_stateBeds_6 (by decide) ?_
    refine lv_icmp_le (tgt := 13) hx hb dX0_stateBeds_8 (by decide) (fun c8 => ?_) (fun c8 => ?_)
    · replace hf := it_t c8 hf
      refine lv_aload_n hx hb dX0_stateBeds_13 rfl (lv_at hl 0 rfl) ?_
      refine va_get (D := D) (ci := 0) (v := .ref (a_t 1)) (C := RX0) (T := TX0) (N := 3) hx hb hts hinX0 hown hK hP 0 rfl rfl 1 (by decide) (hts (.fieldLink RX0 18 "OnlyStrangersHear$Letters" "draft" "LOnlyStrangersHear$Town;") (by decide +kernel)) (fun _ h9 => h9) rfl dX0_stateBeds_14 ?_
      refine lv_iload_n hx hb dX0_stateBeds_17 rfl (lv_at hl 1 rfl) ?_
      refine va_put (D := D) (ci := 4) (v := .int x1) (ty := .int) (C := RX4) (T := TX4) (N := 10) hx hb hts hinX4 tyX4 tyX4_ok nmX4 hown hK hP hD hS 2 rfl rfl 9 (by decide) (hts (.fieldLink RX0 88 "OnlyStrangersHear$Town" "bedCount" "I") (by decide +kernel)) (fun _ h9 => h9) rfl (by decide +kernel) rfl rfl (Nat.le_of_ble_eq_true rfl) dX0_stateBeds_18 (fun H locs hP hD hS => ?_)
      have hP : va_P D vwCl (gX0 o_t a_t cI S_t ++ gX4 (a_t 1) a_t_1 cI (pF S_t_1 9 x1)) H := hP
      have hD : va_D A (gX0 o_t a_t cI S_t ++ gX4 (a_t 1) a_t_1 cI (pF S_t_1 9 x1)) := hD
      obtain ⟨g18, e18, hf⟩ := lt_some hf
      rw [← e18] at hP hD
      refine lv_iconst (v := (1 : Int32)) hx hb dX0_stateBeds_21 (by decide) ?_
      have e := so_some hf
      subst e
      exact rz hx hb hK hr hlk (Or.inr rfl) hQ dX0_stateBeds_22 hP hD hS
    · replace hf := it_f c8 hf
      refine lv_iconst (v := (0 : Int32)) hx hb dX0_stateBeds_11 (by decide) ?_
      have e := so_some hf
      subst e
      exact rz hx hb hK hr hlk (Or.inl rfl) hQ dX0_stateBeds_12 hP hD hS
abbrev rmX0_stateDays : Room := { frames := 3, cells := 0, slots := 0, locals := 68 }
set_option maxHeartbeats 4000000 in
set_option maxRecDepth 100000 in
theorem c_X0_stateDays (l : Launch) (D : va_G) (cI : ClassId) (o_t : Nat) (a_t : Nat → Nat) (a_t_1 : Nat → Nat) (S_t : G) (S_t_1 : G) (x1 : Int32) (out : Int32 × G × G) (hf : f_X0_stateDays S_t S_t_1 x1 = some out) : Cn E0 l yX0_stateDays wsX0_stateDays rmX0_stateDays D cI [.ref o_t, .int x1] (gX0 o_t a_t cI S_t ++ gX4 (a_t 1) a_t_1 cI S_t_1) (some (.int out.1)) (gX0 o_t a_t cI out.2.1 ++ gX4 (a_t 1) a_t_1 cI out.2.2) := by
  refine Cn.mk (cc := cX0_stateDays) (maxL := 2) (ret := (some .boolean)) (by decide) rfl (Nat.le_of_ble_eq_true rfl) ?_
  intro p e s m below meth c A ls Q hx hb hml hown hts hK hA hP hD hS hl hr hlk hnm hE hQ
  have hown : s.vm.findClass RX0 = some m.cls := hown
  have hinX0 : ∀ w ∈ u_ws RX0 TX0 3, w ∈ wsX0_stateDays := by decide +kernel
  have hinX4 : ∀ w ∈ u_ws RX4 TX4 10, w ∈ wsX0_stateDays := by decide +kernel
  unfold f_X0_stateDays at hf
  have hl : lv_has ls 2 [(0, .ref o_t), (1, .int x1)] := hl
  obtain ⟨H, hHe⟩ : ∃ H : Heap, H = s.heap := ⟨_, rfl⟩
  obtain ⟨locs, hle⟩ : ∃ q : List Loc, q = [] := ⟨_, rfl⟩
  have hS : va_S A s.heap H locs := by rw [hHe, hle]; exact hS
  rw [← hHe] at hP
  suffices hgo : W p l e rmX0_stateDays s m ([.ref o_t, .int x1] : List Value).toArray below meth c H locs 0 0 Q (F0 m 0 ls []) by rw [hHe, hle] at hgo; exact hgo
  clear hHe hle
  refine lv_iload_n hx hb dX0_stateDays_0 rfl (lv_at hl 1 rfl) ?_
  refine lv_iconst (v := (1 : Int32)) hx hb dX0_stateDays_1 (by decide) ?_
  refine lv_icmp_lt (tgt := 26) hx hb dX0_stateDays_2 (by decide) (fun c2 => ?_) (fun c2 => ?_)
  · replace hf := it_t c2 hf
    refine lv_iconst (v := (0 : Int32)) hx hb dX0_stateDays_26 (by decide) ?_
    have e := so_some hf
    subst e
    exact rz hx hb hK hr hlk (Or.inl rfl) hQ dX0_stateDays_27 hP hD hS
  · replace hf := it_f c2 hf
    refine lv_iload_n hx hb dX0_stateDays_5 rfl (lv_at hl 1 rfl) ?_
    refine lv_bipush (v := (60 : Int32)) hx hb dX0_stateDays_6 (by decide) ?_
    refine lv_icmp_gt (tgt := 26) hx hb dX0_stateDays_8 (by decide) (fun c8 => ?_) (fun c8 => ?_)
    · replace hf := it_t c8 hf
      refine lv_iconst (v := (0 : Int32)) hx hb dX0_stateDays_26 (by decide) ?_
      have e := so_some hf
      subst e
      exact rz hx hb hK hr hlk (Or.inl rfl) hQ dX0_stateDays_27 hP hD hS
    · replace hf := it_f c8 hf
      refine lv_iload_n hx hb dX0_stateDays_11 rfl (lv_at hl 1 rfl) ?_
      refine lv_sipush (v := (999 : Int32)) hx hb dX0_stateDays_12 (by decide) ?_
      refine lv_aload_n hx hb dX0_stateDays_15 rfl (lv_at hl 0 rfl) ?_
      refine va_get (D := D) (ci := 0) (v := .ref (a_t 1)) (C := RX0) (T := TX0) (N := 3) hx hb hts hinX0 hown hK hP 0 rfl rfl 1 (by decide) (hts (.fieldLink RX0 18 "OnlyStrangersHear$Letters" "draft" "LOnlyStrangersHear$Town;") (by decide +kernel)) (fun _ h9 => h9) rfl dX0_stateDays_16 ?_
      refine va_get (D := D) (ci := 4) (v := .int (S_t_1.1 8)) (C := RX4) (T := TX4) (N := 10) hx hb hts hinX4 hown hK hP 2 rfl rfl 8 (by decide) (hts (.fieldLink RX0 91 "OnlyStrangersHear$Town" "day" "I") (by decide +kernel)) (fun _ h9 => h9) rfl dX0_stateDays_19 ?_
      refine lv_isub hx hb dX0_stateDays_22 ?_
      refine lv_icmp_le (tgt := 28) hx hb dX0_stateDays_23 (by decide) (fun c23 => ?_) (fun c23 => ?_)
      · replace hf := it_t c23 hf
        refine lv_aload_n hx hb dX0_stateDays_28 rfl (lv_at hl 0 rfl) ?_
        refine va_get (D := D) (ci := 0) (v := .ref (a_t 1)) (C := RX0) (T := TX0) (N := 3) hx hb hts hinX0 hown hK hP 0 rfl rfl 1 (by decide) (hts (.fieldLink RX0 18 "OnlyStrangersHear$Letters" "draft" "LOnlyStrangersHear$Town;") (by decide +kernel)) (fun _ h9 => h9) rfl dX0_stateDays_29 ?_
        refine lv_iload_n hx hb dX0_stateDays_32 rfl (lv_at hl 1 rfl) ?_
        obtain ⟨r33, u33, h33, hf⟩ := bd_some hf
        have hPc := hP.sub (ws' := gX4 (a_t 1) a_t_1 cI S_t_1) [2, 3, 4, 5, 6, 7, 8] rfl
        have hDc := hD.sub (ws' := gX4 (a_t 1) a_t_1 cI S_t_1) [2, 3, 4, 5, 6, 7, 8] (by decide) rfl
        refine calX (runV E0.b E0.n (As := [.int x1]) (rest := []) ⟨hx, hb, hml, hown, hts⟩ (c_X4_pass l D cI (a_t 1) a_t_1 S_t_1 x1 _ h33) gX0_stateDays_X4_pass rfl rfl rfl hdX4_pass ⟨by decide, by decide⟩ hK hPc hDc 0 rfl rfl rfl hl.1 rfl (Nat.le_of_ble_eq_true rfl) dX0_stateDays_33 ⟨Nat.zero_le _, Nat.zero_le _⟩) hP hD hS hA [2, 3, 4, 5, 6, 7, 8] [0, 1] [0, 1, 2, 3, 4, 5, 6, 7, 8] (wr := gX0 o_t a_t cI S_t) (wn := gX0 o_t a_t cI S_t ++ gX4 (a_t 1) a_t_1 cI u33) rfl rfl (by decide) (by decide) rfl (by decide) (fun H locs hP hD hS => ?_)
        have hP : va_P D vwCl (gX0 o_t a_t cI S_t ++ gX4 (a_t 1) a_t_1 cI u33) H := hP
        have hD : va_D A (gX0 o_t a_t cI S_t ++ gX4 (a_t 1) a_t_1 cI u33) := hD
        refine W.eq (g2 := F0 m 36 ls []) rfl ?_
        refine lv_iconst (v := (1 : Int32)) hx hb dX0_stateDays_36 (by decide) ?_
        have e := so_some hf
        subst e
        exact rz hx hb hK hr hlk (Or.inr rfl) hQ dX0_stateDays_37 hP hD hS
      · replace hf := it_f c23 hf
        refine lv_iconst (v := (0 : Int32)) hx hb dX0_stateDays_26 (by decide) ?_
        have e := so_some hf
        subst e
        exact rz hx hb hK hr hlk (Or.inl rfl) hQ dX0_stateDays_27 hP hD hS
abbrev rmX0_state : Room := { frames := 5, cells := 0, slots := 0, locals := 111 }
set_option maxHeartbeats 4000000 in
set_option maxRecDepth 100000 in
theorem c_X0_state (l : Launch) (D : va_G) (cI : ClassId) (o_t : Nat) (a_t : Nat → Nat) (a_t_1 : Nat → Nat) (S_t : G) (S_t_1 : G) (x1 : Int32) (out : Int32 × G × G) (hf : f_X0_state S_t S_t_1 x1 = some out) : Cn EX l yX0_state wsX0_state rmX0_state D cI [.ref o_t, .int x1] (gX0 o_t a_t cI S_t ++ gX4 (a_t 1) a_t_1 cI S_t_1) (some (.int out.1)) (gX0 o_t a_t cI out.2.1 ++ gX4 (a_t 1) a_t_1 cI out.2.2) := by
  refine Cn.mk (cc := cX0_state) (maxL := 2) (ret := (some .boolean)) (by decide) rfl (Nat.le_of_ble_eq_true rfl) ?_
  intro p e s m below meth c A ls Q hx hb hml hown hts hK hA hP hD hS hl hr hlk hnm hE hQ
  have hown : s.vm.findClass RX0 = some m.cls := hown
  have hinX0 : ∀ w ∈ u_ws RX0 TX0 3, w ∈ wsX0_state := by decide +kernel
  unfold f_X0_state at hf
  have hl : lv_has ls 2 [(0, .ref o_t), (1, .int x1)] := hl
  obtain ⟨H, hHe⟩ : ∃ H : Heap, H = s.heap := ⟨_, rfl⟩
  obtain ⟨locs, hle⟩ : ∃ q : List Loc, q = [] := ⟨_, rfl⟩
  have hS : va_S A s.heap H locs := by rw [hHe, hle]; exact hS
  rw [← hHe] at hP
  suffices hgo : W p l e rmX0_state s m ([.ref o_t, .int x1] : List Value).toArray below meth c H locs 0 0 Q (F0 m 0 ls []) by rw [hHe, hle] at hgo; exact hgo
  clear hHe hle
  refine lv_aload_n hx hb dX0_state_0 rfl (lv_at hl 0 rfl) ?_
  refine lv_iload_n hx hb dX0_state_1 rfl (lv_at hl 1 rfl) ?_
  obtain ⟨r2, u2, h2, hf⟩ := bd_some hf
  have hPc := hP.sub (ws' := gX0 o_t a_t cI S_t) [0, 1] rfl
  have hDc := hD.sub (ws' := gX0 o_t a_t cI S_t) [0, 1] (by decide) rfl
  refine calX (runV E0.b E0.n (As := [.int x1]) (rest := []) ⟨hx, hb, hml, hown, hts⟩ (c_X0_signAt l D cI o_t a_t S_t x1 _ h2) gX0_state_X0_signAt rfl rfl rfl hdX0_signAt ⟨by decide, by decide⟩ hK hPc hDc 0 rfl rfl rfl hl.1 rfl (Nat.le_of_ble_eq_true rfl) dX0_state_2 ⟨Nat.zero_le _, Nat.zero_le _⟩) hP hD hS hA [0, 1] [2, 3, 4, 5, 6, 7, 8] [7, 8, 0, 1, 2, 3, 4, 5, 6] (wr := gX4 (a_t 1) a_t_1 cI S_t_1) (wn := gX0 o_t a_t cI u2 ++ gX4 (a_t 1) a_t_1 cI S_t_1) rfl rfl (by decide) (by decide) rfl (by decide) (fun H locs hP hD hS => ?_)
  have hP : va_P D vwCl (gX0 o_t a_t cI u2 ++ gX4 (a_t 1) a_t_1 cI S_t_1) H := hP
  have hD : va_D A (gX0 o_t a_t cI u2 ++ gX4 (a_t 1) a_t_1 cI S_t_1) := hD
  refine W.eq (g2 := F0 m 5 ls [.int r2]) rfl ?_
  by_cases ck98 : r2 = (98 : Int32)
  · replace hf := it_t ck98 hf
    refine lv_lookup (off := 51) (tgt := 56) hx hb dX0_state_5 (by decide) (by rw [ck98]; decide) (by decide) ?_
    refine lv_aload_n hx hb dX0_state_56 rfl (lv_at hl 0 rfl) ?_
    refine va_get (D := D) (ci := 0) (v := .ref (a_t 1)) (C := RX0) (T := TX0) (N := 3) hx hb hts hinX0 hown hK hP 0 rfl rfl 1 (by decide) (hts (.fieldLink RX0 18 "OnlyStrangersHear$Letters" "draft" "LOnlyStrangersHear$Town;") (by decide +kernel)) (fun _ h9 => h9) rfl dX0_state_57 ?_
    refine lv_aload_n hx hb dX0_state_60 rfl (lv_at hl 0 rfl) ?_
    refine lv_iload_n hx hb dX0_state_61 rfl (lv_at hl 1 rfl) ?_
    refine lv_iconst (v := (1 : Int32)) hx hb dX0_state_62 (by decide) ?_
    refine lv_iadd hx hb dX0_state_63 ?_
    refine lv_iconst (v := (2 : Int32)) hx hb dX0_state_64 (by decide) ?_
    obtain ⟨r65, u65, h65, hf⟩ := bd_some hf
    have hPc := hP.sub (ws' := gX0 o_t a_t cI u2) [0, 1] rfl
    have hDc := hD.sub (ws' := gX0 o_t a_t cI u2) [0, 1] (by decide) rfl
    refine calX (runV E0.b E0.n (As := [.int (x1 + (1 : Int32)), .int (2 : Int32)]) (rest := [.ref (a_t 1)]) ⟨hx, hb, hml, hown, hts⟩ (c_X0_number l D cI o_t a_t u2 (x1 + (1 : Int32)) (2 : Int32) _ h65) gX0_state_X0_number rfl rfl rfl hdX0_number ⟨by decide, by decide⟩ hK hPc hDc 0 rfl rfl rfl hl.1 rfl (Nat.le_of_ble_eq_true rfl) dX0_state_65 ⟨Nat.zero_le _, Nat.zero_le _⟩) hP hD hS hA [0, 1] [2, 3, 4, 5, 6, 7, 8] [7, 8, 0, 1, 2, 3, 4, 5, 6] (wr := gX4 (a_t 1) a_t_1 cI S_t_1) (wn := gX0 o_t a_t cI u65 ++ gX4 (a_t 1) a_t_1 cI S_t_1) rfl rfl (by decide) (by decide) rfl (by decide) (fun H locs hP hD hS => ?_)
    have hP : va_P D vwCl (gX0 o_t a_t cI u65 ++ gX4 (a_t 1) a_t_1 cI S_t_1) H := hP
    have hD : va_D A (gX0 o_t a_t cI u65 ++ gX4 (a_t 1) a_t_1 cI S_t_1) := hD
    refine W.eq (g2 := F0 m 68 ls [.int r65, .ref (a_t 1)]) rfl ?_
    refine lv_aload_n hx hb dX0_state_68 rfl (lv_at hl 0 rfl) ?_
    refine lv_iload_n hx hb dX0_state_69 rfl (lv_at hl 1 rfl) ?_
    refine lv_iconst (v := (3 : Int32)) hx hb dX0_state_70 (by decide) ?_
    refine lv_iadd hx hb dX0_state_71 ?_
    refine lv_iconst (v := (1 : Int32)) hx hb dX0_state_72 (by decide) ?_
    obtain ⟨r73, u73, h73, hf⟩ := bd_some hf
    have hPc := hP.sub (ws' := gX0 o_t a_t cI u65) [0, 1] rfl
    have hDc := hD.sub (ws' := gX0 o_t a_t cI u65) [0, 1] (by decide) rfl
    refine calX (runV E0.b E0.n (As := [.int (x1 + (3 : Int32)), .int (1 : Int32)]) (rest := [.int r65, .ref (a_t 1)]) ⟨hx, hb, hml, hown, hts⟩ (c_X0_number l D cI o_t a_t u65 (x1 + (3 : Int32)) (1 : Int32) _ h73) gX0_state_X0_number rfl rfl rfl hdX0_number ⟨by decide, by decide⟩ hK hPc hDc 0 rfl rfl rfl hl.1 rfl (Nat.le_of_ble_eq_true rfl) dX0_state_73 ⟨Nat.zero_le _, Nat.zero_le _⟩) hP hD hS hA [0, 1] [2, 3, 4, 5, 6, 7, 8] [7, 8, 0, 1, 2, 3, 4, 5, 6] (wr := gX4 (a_t 1) a_t_1 cI S_t_1) (wn := gX0 o_t a_t cI u73 ++ gX4 (a_t 1) a_t_1 cI S_t_1) rfl rfl (by decide) (by decide) rfl (by decide) (fun H locs hP hD hS => ?_)
    have hP : va_P D vwCl (gX0 o_t a_t cI u73 ++ gX4 (a_t 1) a_t_1 cI S_t_1) H := hP
    have hD : va_D A (gX0 o_t a_t cI u73 ++ gX4 (a_t 1) a_t_1 cI S_t_1) := hD
    refine W.eq (g2 := F0 m 76 ls [.int r73, .int r65, .ref (a_t 1)]) rfl ?_
    obtain ⟨r76, u76, h76, hf⟩ := bd_some hf
    have hPc := hP.sub (ws' := gX4 (a_t 1) a_t_1 cI S_t_1) [2, 3, 4, 5, 6, 7, 8] rfl
    have hDc := hD.sub (ws' := gX4 (a_t 1) a_t_1 cI S_t_1) [2, 3, 4, 5, 6, 7, 8] (by decide) rfl
    refine calX (runV E0.b E0.n (As := [.int r65, .int r73]) (rest := []) ⟨hx, hb, hml, hown, hts⟩ (c_X4_addBell l D cI (a_t 1) a_t_1 S_t_1 r65 r73 _ h76) gX0_state_X4_addBell rfl rfl rfl hdX4_addBell ⟨by decide, by decide⟩ hK hPc hDc 0 rfl rfl rfl hl.1 rfl (Nat.le_of_ble_eq_true rfl) dX0_state_76 ⟨Nat.zero_le _, Nat.zero_le _⟩) hP hD hS hA [2, 3, 4, 5, 6, 7, 8] [0, 1] [0, 1, 2, 3, 4, 5, 6, 7, 8] (wr := gX0 o_t a_t cI u73) (wn := gX0 o_t a_t cI u73 ++ gX4 (a_t 1) a_t_1 cI u76) rfl rfl (by decide) (by decide) rfl (by decide) (fun H locs hP hD hS => ?_)
    have hP : va_P D vwCl (gX0 o_t a_t cI u73 ++ gX4 (a_t 1) a_t_1 cI u76) H := hP
    have hD : va_D A (gX0 o_t a_t cI u73 ++ gX4 (a_t 1) a_t_1 cI u76) := hD
    refine W.eq (g2 := F0 m 79 ls [.int r76]) rfl ?_
    obtain ⟨z79, hf⟩ := zb_some hf
    have e := so_some hf
    subst e
    exact rz hx hb hK hr hlk z79 hQ dX0_state_79 hP hD hS
  · replace hf := it_f ck98 hf
    by_cases ck101 : r2 = (101 : Int32)
    · replace hf := it_t ck101 hf
      refine lv_lookup (off := 151) (tgt := 156) hx hb dX0_state_5 (by decide) (by rw [ck101]; decide) (by decide) ?_
      refine lv_aload_n hx hb dX0_state_156 rfl (lv_at hl 0 rfl) ?_
      refine lv_aload_n hx hb dX0_state_157 rfl (lv_at hl 0 rfl) ?_
      refine lv_iload_n hx hb dX0_state_158 rfl (lv_at hl 1 rfl) ?_
      refine lv_iconst (v := (1 : Int32)) hx hb dX0_state_159 (by decide) ?_
      refine lv_iadd hx hb dX0_state_160 ?_
      refine lv_iconst (v := (1 : Int32)) hx hb dX0_state_161 (by decide) ?_
      obtain ⟨r162, u162, h162, hf⟩ := bd_some hf
      have hPc := hP.sub (ws' := gX0 o_t a_t cI u2) [0, 1] rfl
      have hDc := hD.sub (ws' := gX0 o_t a_t cI u2) [0, 1] (by decide) rfl
      refine calX (runV E0.b E0.n (As := [.int (x1 + (1 : Int32)), .int (1 : Int32)]) (rest := [.ref o_t]) ⟨hx, hb, hml, hown, hts⟩ (c_X0_number l D cI o_t a_t u2 (x1 + (1 : Int32)) (1 : Int32) _ h162) gX0_state_X0_number rfl rfl rfl hdX0_number ⟨by decide, by decide⟩ hK hPc hDc 0 rfl rfl rfl hl.1 rfl (Nat.le_of_ble_eq_true rfl) dX0_state_162 ⟨Nat.zero_le _, Nat.zero_le _⟩) hP hD hS hA [0, 1] [2, 3, 4, 5, 6, 7, 8] [7, 8, 0, 1, 2, 3, 4, 5, 6] (wr := gX4 (a_t 1) a_t_1 cI S_t_1) (wn := gX0 o_t a_t cI u162 ++ gX4 (a_t 1) a_t_1 cI S_t_1) rfl rfl (by decide) (by decide) rfl (by decide) (fun H locs hP hD hS => ?_)
      have hP : va_P D vwCl (gX0 o_t a_t cI u162 ++ gX4 (a_t 1) a_t_1 cI S_t_1) H := hP
      have hD : va_D A (gX0 o_t a_t cI u162 ++ gX4 (a_t 1) a_t_1 cI S_t_1) := hD
      refine W.eq (g2 := F0 m 165 ls [.int r162, .ref o_t]) rfl ?_
      obtain ⟨r165, u165, h165, hf⟩ := bd_some hf
      refine calX0 (runV E0.b E0.n (As := [.int r162]) (rest := []) ⟨hx, hb, hml, hown, hts⟩ (c_X0_stateBeds l D cI o_t a_t a_t_1 u162 S_t_1 r162 _ h165) gX0_state_X0_stateBeds rfl rfl rfl hdX0_stateBeds ⟨by decide, by decide⟩ hK hP hD 0 rfl rfl rfl hl.1 rfl (Nat.le_of_ble_eq_true rfl) dX0_state_165 ⟨Nat.zero_le _, Nat.zero_le _⟩) hD hS hA (fun H locs hP hD hS => ?_)
      have hP : va_P D vwCl (gX0 o_t a_t cI u165.1 ++ gX4 (a_t 1) a_t_1 cI u165.2) H := hP
      have hD : va_D A (gX0 o_t a_t cI u165.1 ++ gX4 (a_t 1) a_t_1 cI u165.2) := hD
      refine W.eq (g2 := F0 m 168 ls [.int r165]) rfl ?_
      obtain ⟨z168, hf⟩ := zb_some hf
      have e := so_some hf
      subst e
      exact rz hx hb hK hr hlk z168 hQ dX0_state_168 hP hD hS
    · replace hf := it_f ck101 hf
      by_cases ck103 : r2 = (103 : Int32)
      · replace hf := it_t ck103 hf
        refine lv_lookup (off := 109) (tgt := 114) hx hb dX0_state_5 (by decide) (by rw [ck103]; decide) (by decide) ?_
        refine lv_aload_n hx hb dX0_state_114 rfl (lv_at hl 0 rfl) ?_
        refine lv_aload_n hx hb dX0_state_115 rfl (lv_at hl 0 rfl) ?_
        refine lv_iload_n hx hb dX0_state_116 rfl (lv_at hl 1 rfl) ?_
        refine lv_iconst (v := (1 : Int32)) hx hb dX0_state_117 (by decide) ?_
        refine lv_iadd hx hb dX0_state_118 ?_
        refine lv_iconst (v := (1 : Int32)) hx hb dX0_state_119 (by decide) ?_
        obtain ⟨r120, u120, h120, hf⟩ := bd_some hf
        have hPc := hP.sub (ws' := gX0 o_t a_t cI u2) [0, 1] rfl
        have hDc := hD.sub (ws' := gX0 o_t a_t cI u2) [0, 1] (by decide) rfl
        refine calX (runV E0.b E0.n (As := [.int (x1 + (1 : Int32)), .int (1 : Int32)]) (rest := [.ref o_t]) ⟨hx, hb, hml, hown, hts⟩ (c_X0_number l D cI o_t a_t u2 (x1 + (1 : Int32)) (1 : Int32) _ h120) gX0_state_X0_number rfl rfl rfl hdX0_number ⟨by decide, by decide⟩ hK hPc hDc 0 rfl rfl rfl hl.1 rfl (Nat.le_of_ble_eq_true rfl) dX0_state_120 ⟨Nat.zero_le _, Nat.zero_le _⟩) hP hD hS hA [0, 1] [2, 3, 4, 5, 6, 7, 8] [7, 8, 0, 1, 2, 3, 4, 5, 6] (wr := gX4 (a_t 1) a_t_1 cI S_t_1) (wn := gX0 o_t a_t cI u120 ++ gX4 (a_t 1) a_t_1 cI S_t_1) rfl rfl (by decide) (by decide) rfl (by decide) (fun H locs hP hD hS => ?_)
        have hP : va_P D vwCl (gX0 o_t a_t cI u120 ++ gX4 (a_t 1) a_t_1 cI S_t_1) H := hP
        have hD : va_D A (gX0 o_t a_t cI u120 ++ gX4 (a_t 1) a_t_1 cI S_t_1) := hD
        refine W.eq (g2 := F0 m 123 ls [.int r120, .ref o_t]) rfl ?_
        refine lv_aload_n hx hb dX0_state_123 rfl (lv_at hl 0 rfl) ?_
        refine lv_iload_n hx hb dX0_state_124 rfl (lv_at hl 1 rfl) ?_
        refine lv_iconst (v := (2 : Int32)) hx hb dX0_state_125 (by decide) ?_
        refine lv_iadd hx hb dX0_state_126 ?_
        refine lv_iconst (v := (1 : Int32)) hx hb dX0_state_127 (by decide) ?_
        obtain ⟨r128, u128, h128, hf⟩ := bd_some hf
        have hPc := hP.sub (ws' := gX0 o_t a_t cI u120) [0, 1] rfl
        have hDc := hD.sub (ws' := gX0 o_t a_t cI u120) [0, 1] (by decide) rfl
        refine calX (runV E0.b E0.n (As := [.int (x1 + (2 : Int32)), .int (1 : Int32)]) (rest := [.int r120, .ref o_t]) ⟨hx, hb, hml, hown, hts⟩ (c_X0_number l D cI o_t a_t u120 (x1 + (2 : Int32)) (1 : Int32) _ h128) gX0_state_X0_number rfl rfl rfl hdX0_number ⟨by decide, by decide⟩ hK hPc hDc 0 rfl rfl rfl hl.1 rfl (Nat.le_of_ble_eq_true rfl) dX0_state_128 ⟨Nat.zero_le _, Nat.zero_le _⟩) hP hD hS hA [0, 1] [2, 3, 4, 5, 6, 7, 8] [7, 8, 0, 1, 2, 3, 4, 5, 6] (wr := gX4 (a_t 1) a_t_1 cI S_t_1) (wn := gX0 o_t a_t cI u128 ++ gX4 (a_t 1) a_t_1 cI S_t_1) rfl rfl (by decide) (by decide) rfl (by decide) (fun H locs hP hD hS => ?_)
        have hP : va_P D vwCl (gX0 o_t a_t cI u128 ++ gX4 (a_t 1) a_t_1 cI S_t_1) H := hP
        have hD : va_D A (gX0 o_t a_t cI u128 ++ gX4 (a_t 1) a_t_1 cI S_t_1) := hD
        refine W.eq (g2 := F0 m 131 ls [.int r128, .int r120, .ref o_t]) rfl ?_
        obtain ⟨r131, u131, h131, hf⟩ := bd_some hf
        refine calX0 (runV E0.b E0.n (As := [.int r120, .int r128]) (rest := []) ⟨hx, hb, hml, hown, hts⟩ (c_X0_stateAway l D cI o_t a_t a_t_1 u128 S_t_1 r120 r128 _ h131) gX0_state_X0_stateAway rfl rfl rfl hdX0_stateAway ⟨by decide, by decide⟩ hK hP hD 0 rfl rfl rfl hl.1 rfl (Nat.le_of_ble_eq_true rfl) dX0_state_131 ⟨Nat.zero_le _, Nat.zero_le _⟩) hD hS hA (fun H locs hP hD hS => ?_)
        have hP : va_P D vwCl (gX0 o_t a_t cI u131.1 ++ gX4 (a_t 1) a_t_1 cI u131.2) H := hP
        have hD : va_D A (gX0 o_t a_t cI u131.1 ++ gX4 (a_t 1) a_t_1 cI u131.2) := hD
        refine W.eq (g2 := F0 m 134 ls [.int r131]) rfl ?_
        obtain ⟨z134, hf⟩ := zb_some hf
        have e := so_some hf
        subst e
        exact rz hx hb hK hr hlk z134 hQ dX0_state_134 hP hD hS
      · replace hf := it_f ck103 hf
        by_cases ck112 : r2 = (112 : Int32)
        · replace hf := it_t ck112 hf
          refine lv_lookup (off := 75) (tgt := 80) hx hb dX0_state_5 (by decide) (by rw [ck112]; decide) (by decide) ?_
          refine lv_aload_n hx hb dX0_state_80 rfl (lv_at hl 0 rfl) ?_
          refine va_get (D := D) (ci := 0) (v := .ref (a_t 1)) (C := RX0) (T := TX0) (N := 3) hx hb hts hinX0 hown hK hP 0 rfl rfl 1 (by decide) (hts (.fieldLink RX0 18 "OnlyStrangersHear$Letters" "draft" "LOnlyStrangersHear$Town;") (by decide +kernel)) (fun _ h9 => h9) rfl dX0_state_81 ?_
          refine lv_aload_n hx hb dX0_state_84 rfl (lv_at hl 0 rfl) ?_
          refine lv_iload_n hx hb dX0_state_85 rfl (lv_at hl 1 rfl) ?_
          refine lv_iconst (v := (1 : Int32)) hx hb dX0_state_86 (by decide) ?_
          refine lv_iadd hx hb dX0_state_87 ?_
          obtain ⟨r88, u88, h88, hf⟩ := bd_some hf
          have hPc := hP.sub (ws' := gX0 o_t a_t cI u2) [0, 1] rfl
          have hDc := hD.sub (ws' := gX0 o_t a_t cI u2) [0, 1] (by decide) rfl
          refine calX (runV E0.b E0.n (As := [.int (x1 + (1 : Int32))]) (rest := [.ref (a_t 1)]) ⟨hx, hb, hml, hown, hts⟩ (c_X0_signAt l D cI o_t a_t u2 (x1 + (1 : Int32)) _ h88) gX0_state_X0_signAt rfl rfl rfl hdX0_signAt ⟨by decide, by decide⟩ hK hPc hDc 0 rfl rfl rfl hl.1 rfl (Nat.le_of_ble_eq_true rfl) dX0_state_88 ⟨Nat.zero_le _, Nat.zero_le _⟩) hP hD hS hA [0, 1] [2, 3, 4, 5, 6, 7, 8] [7, 8, 0, 1, 2, 3, 4, 5, 6] (wr := gX4 (a_t 1) a_t_1 cI S_t_1) (wn := gX0 o_t a_t cI u88 ++ gX4 (a_t 1) a_t_1 cI S_t_1) rfl rfl (by decide) (by decide) rfl (by decide) (fun H locs hP hD hS => ?_)
          have hP : va_P D vwCl (gX0 o_t a_t cI u88 ++ gX4 (a_t 1) a_t_1 cI S_t_1) H := hP
          have hD : va_D A (gX0 o_t a_t cI u88 ++ gX4 (a_t 1) a_t_1 cI S_t_1) := hD
          refine W.eq (g2 := F0 m 91 ls [.int r88, .ref (a_t 1)]) rfl ?_
          obtain ⟨r91, u91, h91, hf⟩ := bd_some hf
          have hPc : va_P D vwCl [] H := hP.sub (ws' := []) [] rfl
          have hDc : va_D A [] := hD.sub (ws' := []) [] (by decide) rfl
          refine calXe (runS EX.b (EX.n hE hS (va_free (wc := []) hD hS hA [] rfl)) (As := [.int r88]) (rest := [.ref (a_t 1)]) ⟨hx, hb, hml, hown, hts⟩ (c_X0_kindBy l D cI r88 _ h91) gX0_state_X0_kindBy rfl rfl rfl hdX0_kindBy ⟨by decide, by decide⟩ hK hPc hDc rfl hl.1 rfl (Nat.le_of_ble_eq_true rfl) dX0_state_91 ⟨Nat.zero_le _, Nat.zero_le _⟩) hP hD hS hA (fun H locs hP hD hS => ?_)
          have hP : va_P D vwCl (gX0 o_t a_t cI u88 ++ gX4 (a_t 1) a_t_1 cI S_t_1) H := hP
          have hD : va_D A (gX0 o_t a_t cI u88 ++ gX4 (a_t 1) a_t_1 cI S_t_1) := hD
          refine W.eq (g2 := F0 m 94 ls [.int r91, .ref (a_t 1)]) rfl ?_
          refine lv_aload_n hx hb dX0_state_94 rfl (lv_at hl 0 rfl) ?_
          refine lv_iload_n hx hb dX0_state_95 rfl (lv_at hl 1 rfl) ?_
          refine lv_iconst (v := (2 : Int32)) hx hb dX0_state_96 (by decide) ?_
          refine lv_iadd hx hb dX0_state_97 ?_
          refine lv_iconst (v := (1 : Int32)) hx hb dX0_state_98 (by decide) ?_
          obtain ⟨r99, u99, h99, hf⟩ := bd_some hf
          have hPc := hP.sub (ws' := gX0 o_t a_t cI u88) [0, 1] rfl
          have hDc := hD.sub (ws' := gX0 o_t a_t cI u88) [0, 1] (by decide) rfl
          refine calX (runV E0.b E0.n (As := [.int (x1 + (2 : Int32)), .int (1 : Int32)]) (rest := [.int r91, .ref (a_t 1)]) ⟨hx, hb, hml, hown, hts⟩ (c_X0_number l D cI o_t a_t u88 (x1 + (2 : Int32)) (1 : Int32) _ h99) gX0_state_X0_number rfl rfl rfl hdX0_number ⟨by decide, by decide⟩ hK hPc hDc 0 rfl rfl rfl hl.1 rfl (Nat.le_of_ble_eq_true rfl) dX0_state_99 ⟨Nat.zero_le _, Nat.zero_le _⟩) hP hD hS hA [0, 1] [2, 3, 4, 5, 6, 7, 8] [7, 8, 0, 1, 2, 3, 4, 5, 6] (wr := gX4 (a_t 1) a_t_1 cI S_t_1) (wn := gX0 o_t a_t cI u99 ++ gX4 (a_t 1) a_t_1 cI S_t_1) rfl rfl (by decide) (by decide) rfl (by decide) (fun H locs hP hD hS => ?_)
          have hP : va_P D vwCl (gX0 o_t a_t cI u99 ++ gX4 (a_t 1) a_t_1 cI S_t_1) H := hP
          have hD : va_D A (gX0 o_t a_t cI u99 ++ gX4 (a_t 1) a_t_1 cI S_t_1) := hD
          refine W.eq (g2 := F0 m 102 ls [.int r99, .int r91, .ref (a_t 1)]) rfl ?_
          refine lv_aload_n hx hb dX0_state_102 rfl (lv_at hl 0 rfl) ?_
          refine lv_iload_n hx hb dX0_state_103 rfl (lv_at hl 1 rfl) ?_
          refine lv_iconst (v := (3 : Int32)) hx hb dX0_state_104 (by decide) ?_
          refine lv_iadd hx hb dX0_state_105 ?_
          refine lv_iconst (v := (2 : Int32)) hx hb dX0_state_106 (by decide) ?_
          obtain ⟨r107, u107, h107, hf⟩ := bd_some hf
          have hPc := hP.sub (ws' := gX0 o_t a_t cI u99) [0, 1] rfl
          have hDc := hD.sub (ws' := gX0 o_t a_t cI u99) [0, 1] (by decide) rfl
          refine calX (runV E0.b E0.n (As := [.int (x1 + (3 : Int32)), .int (2 : Int32)]) (rest := [.int r99, .int r91, .ref (a_t 1)]) ⟨hx, hb, hml, hown, hts⟩ (c_X0_number l D cI o_t a_t u99 (x1 + (3 : Int32)) (2 : Int32) _ h107) gX0_state_X0_number rfl rfl rfl hdX0_number ⟨by decide, by decide⟩ hK hPc hDc 0 rfl rfl rfl hl.1 rfl (Nat.le_of_ble_eq_true rfl) dX0_state_107 ⟨Nat.zero_le _, Nat.zero_le _⟩) hP hD hS hA [0, 1] [2, 3, 4, 5, 6, 7, 8] [7, 8, 0, 1, 2, 3, 4, 5, 6] (wr := gX4 (a_t 1) a_t_1 cI S_t_1) (wn := gX0 o_t a_t cI u107 ++ gX4 (a_t 1) a_t_1 cI S_t_1) rfl rfl (by decide) (by decide) rfl (by decide) (fun H locs hP hD hS => ?_)
          have hP : va_P D vwCl (gX0 o_t a_t cI u107 ++ gX4 (a_t 1) a_t_1 cI S_t_1) H := hP
          have hD : va_D A (gX0 o_t a_t cI u107 ++ gX4 (a_t 1) a_t_1 cI S_t_1) := hD
          refine W.eq (g2 := F0 m 110 ls [.int r107, .int r99, .int r91, .ref (a_t 1)]) rfl ?_
          obtain ⟨r110, u110, h110, hf⟩ := bd_some hf
          have hPc := hP.sub (ws' := gX4 (a_t 1) a_t_1 cI S_t_1) [2, 3, 4, 5, 6, 7, 8] rfl
          have hDc := hD.sub (ws' := gX4 (a_t 1) a_t_1 cI S_t_1) [2, 3, 4, 5, 6, 7, 8] (by decide) rfl
          refine calX (runV E0.b E0.n (As := [.int r91, .int r99, .int r107]) (rest := []) ⟨hx, hb, hml, hown, hts⟩ (c_X4_addPerson l D cI (a_t 1) a_t_1 S_t_1 r91 r99 r107 _ h110) gX0_state_X4_addPerson rfl rfl rfl hdX4_addPerson ⟨by decide, by decide⟩ hK hPc hDc 0 rfl rfl rfl hl.1 rfl (Nat.le_of_ble_eq_true rfl) dX0_state_110 ⟨Nat.zero_le _, Nat.zero_le _⟩) hP hD hS hA [2, 3, 4, 5, 6, 7, 8] [0, 1] [0, 1, 2, 3, 4, 5, 6, 7, 8] (wr := gX0 o_t a_t cI u107) (wn := gX0 o_t a_t cI u107 ++ gX4 (a_t 1) a_t_1 cI u110) rfl rfl (by decide) (by decide) rfl (by decide) (fun H locs hP hD hS => ?_)
          have hP : va_P D vwCl (gX0 o_t a_t cI u107 ++ gX4 (a_t 1) a_t_1 cI u110) H := hP
          have hD : va_D A (gX0 o_t a_t cI u107 ++ gX4 (a_t 1) a_t_1 cI u110) := hD
          refine W.eq (g2 := F0 m 113 ls [.int r110]) rfl ?_
          obtain ⟨z113, hf⟩ := zb_some hf
          have e := so_some hf
          subst e
          exact rz hx hb hK hr hlk z113 hQ dX0_state_113 hP hD hS
        · replace hf := it_f ck112 hf
          by_cases ck115 : r2 = (115 : Int32)
          · replace hf := it_t ck115 hf
            refine lv_lookup (off := 130) (tgt := 135) hx hb dX0_state_5 (by decide) (by rw [ck115]; decide) (by decide) ?_
            refine lv_aload_n hx hb dX0_state_135 rfl (lv_at hl 0 rfl) ?_
            refine lv_aload_n hx hb dX0_state_136 rfl (lv_at hl 0 rfl) ?_
            refine lv_iload_n hx hb dX0_state_137 rfl (lv_at hl 1 rfl) ?_
            refine lv_iconst (v := (1 : Int32)) hx hb dX0_state_138 (by decide) ?_
            refine lv_iadd hx hb dX0_state_139 ?_
            refine lv_iconst (v := (1 : Int32)) hx hb dX0_state_140 (by decide) ?_
            obtain ⟨r141, u141, h141, hf⟩ := bd_some hf
            have hPc := hP.sub (ws' := gX0 o_t a_t cI u2) [0, 1] rfl
            have hDc := hD.sub (ws' := gX0 o_t a_t cI u2) [0, 1] (by decide) rfl
            refine calX (runV E0.b E0.n (As := [.int (x1 + (1 : Int32)), .int (1 : Int32)]) (rest := [.ref o_t]) ⟨hx, hb, hml, hown, hts⟩ (c_X0_number l D cI o_t a_t u2 (x1 + (1 : Int32)) (1 : Int32) _ h141) gX0_state_X0_number rfl rfl rfl hdX0_number ⟨by decide, by decide⟩ hK hPc hDc 0 rfl rfl rfl hl.1 rfl (Nat.le_of_ble_eq_true rfl) dX0_state_141 ⟨Nat.zero_le _, Nat.zero_le _⟩) hP hD hS hA [0, 1] [2, 3, 4, 5, 6, 7, 8] [7, 8, 0, 1, 2, 3, 4, 5, 6] (wr := gX4 (a_t 1) a_t_1 cI S_t_1) (wn := gX0 o_t a_t cI u141 ++ gX4 (a_t 1) a_t_1 cI S_t_1) rfl rfl (by decide) (by decide) rfl (by decide) (fun H locs hP hD hS => ?_)
            have hP : va_P D vwCl (gX0 o_t a_t cI u141 ++ gX4 (a_t 1) a_t_1 cI S_t_1) H := hP
            have hD : va_D A (gX0 o_t a_t cI u141 ++ gX4 (a_t 1) a_t_1 cI S_t_1) := hD
            refine W.eq (g2 := F0 m 144 ls [.int r141, .ref o_t]) rfl ?_
            refine lv_aload_n hx hb dX0_state_144 rfl (lv_at hl 0 rfl) ?_
            refine lv_iload_n hx hb dX0_state_145 rfl (lv_at hl 1 rfl) ?_
            refine lv_iconst (v := (2 : Int32)) hx hb dX0_state_146 (by decide) ?_
            refine lv_iadd hx hb dX0_state_147 ?_
            refine lv_iconst (v := (2 : Int32)) hx hb dX0_state_148 (by decide) ?_
            obtain ⟨r149, u149, h149, hf⟩ := bd_some hf
            have hPc := hP.sub (ws' := gX0 o_t a_t cI u141) [0, 1] rfl
            have hDc := hD.sub (ws' := gX0 o_t a_t cI u141) [0, 1] (by decide) rfl
            refine calX (runV E0.b E0.n (As := [.int (x1 + (2 : Int32)), .int (2 : Int32)]) (rest := [.int r141, .ref o_t]) ⟨hx, hb, hml, hown, hts⟩ (c_X0_number l D cI o_t a_t u141 (x1 + (2 : Int32)) (2 : Int32) _ h149) gX0_state_X0_number rfl rfl rfl hdX0_number ⟨by decide, by decide⟩ hK hPc hDc 0 rfl rfl rfl hl.1 rfl (Nat.le_of_ble_eq_true rfl) dX0_state_149 ⟨Nat.zero_le _, Nat.zero_le _⟩) hP hD hS hA [0, 1] [2, 3, 4, 5, 6, 7, 8] [7, 8, 0, 1, 2, 3, 4, 5, 6] (wr := gX4 (a_t 1) a_t_1 cI S_t_1) (wn := gX0 o_t a_t cI u149 ++ gX4 (a_t 1) a_t_1 cI S_t_1) rfl rfl (by decide) (by decide) rfl (by decide) (fun H locs hP hD hS => ?_)
            have hP : va_P D vwCl (gX0 o_t a_t cI u149 ++ gX4 (a_t 1) a_t_1 cI S_t_1) H := hP
            have hD : va_D A (gX0 o_t a_t cI u149 ++ gX4 (a_t 1) a_t_1 cI S_t_1) := hD
            refine W.eq (g2 := F0 m 152 ls [.int r149, .int r141, .ref o_t]) rfl ?_
            obtain ⟨r152, u152, h152, hf⟩ := bd_some hf
            refine calX0 (runV E0.b E0.n (As := [.int r141, .int r149]) (rest := []) ⟨hx, hb, hml, hown, hts⟩ (c_X0_stateSlept l D cI o_t a_t a_t_1 u149 S_t_1 r141 r149 _ h152) gX0_state_X0_stateSlept rfl rfl rfl hdX0_stateSlept ⟨by decide, by decide⟩ hK hP hD 0 rfl rfl rfl hl.1 rfl (Nat.le_of_ble_eq_true rfl) dX0_state_152 ⟨Nat.zero_le _, Nat.zero_le _⟩) hD hS hA (fun H locs hP hD hS => ?_)
            have hP : va_P D vwCl (gX0 o_t a_t cI u152.1 ++ gX4 (a_t 1) a_t_1 cI u152.2) H := hP
            have hD : va_D A (gX0 o_t a_t cI u152.1 ++ gX4 (a_t 1) a_t_1 cI u152.2) := hD
            refine W.eq (g2 := F0 m 155 ls [.int r152]) rfl ?_
            obtain ⟨z155, hf⟩ := zb_some hf
            have e := so_some hf
            subst e
            exact rz hx hb hK hr hlk z155 hQ dX0_state_155 hP hD hS
          · replace hf := it_f ck115 hf
            refine lv_lookup (off := 164) (tgt := 169) hx hb dX0_state_5 (by decide) (by rw [lv_osw (k := 98) (a := 98) ck98 (by decide)]; rw [lv_osw (k := 101) (a := 101) ck101 (by decide)]; rw [lv_osw (k := 103) (a := 103) ck103 (by decide)]; rw [lv_osw (k := 112) (a := 112) ck112 (by decide)]; rw [lv_osw (k := 115) (a := 115) ck115 (by decide)]; rfl) (by decide) ?_
            refine lv_aload_n hx hb dX0_state_169 rfl (lv_at hl 0 rfl) ?_
            refine lv_aload_n hx hb dX0_state_170 rfl (lv_at hl 0 rfl) ?_
            refine lv_iload_n hx hb dX0_state_171 rfl (lv_at hl 1 rfl) ?_
            refine lv_iconst (v := (1 : Int32)) hx hb dX0_state_172 (by decide) ?_
            refine lv_iadd hx hb dX0_state_173 ?_
            refine lv_iconst (v := (2 : Int32)) hx hb dX0_state_174 (by decide) ?_
            obtain ⟨r175, u175, h175, hf⟩ := bd_some hf
            have hPc := hP.sub (ws' := gX0 o_t a_t cI u2) [0, 1] rfl
            have hDc := hD.sub (ws' := gX0 o_t a_t cI u2) [0, 1] (by decide) rfl
            refine calX (runV E0.b E0.n (As := [.int (x1 + (1 : Int32)), .int (2 : Int32)]) (rest := [.ref o_t]) ⟨hx, hb, hml, hown, hts⟩ (c_X0_number l D cI o_t a_t u2 (x1 + (1 : Int32)) (2 : Int32) _ h175) gX0_state_X0_number rfl rfl rfl hdX0_number ⟨by decide, by decide⟩ hK hPc hDc 0 rfl rfl rfl hl.1 rfl (Nat.le_of_ble_eq_true rfl) dX0_state_175 ⟨Nat.zero_le _, Nat.zero_le _⟩) hP hD hS hA [0, 1] [2, 3, 4, 5, 6, 7, 8] [7, 8, 0, 1, 2, 3, 4, 5, 6] (wr := gX4 (a_t 1) a_t_1 cI S_t_1) (wn := gX0 o_t a_t cI u175 ++ gX4 (a_t 1) a_t_1 cI S_t_1) rfl rfl (by decide) (by decide) rfl (by decide) (fun H locs hP hD hS => ?_)
            have hP : va_P D vwCl (gX0 o_t a_t cI u175 ++ gX4 (a_t 1) a_t_1 cI S_t_1) H := hP
            have hD : va_D A (gX0 o_t a_t cI u175 ++ gX4 (a_t 1) a_t_1 cI S_t_1) := hD
            refine W.eq (g2 := F0 m 178 ls [.int r175, .ref o_t]) rfl ?_
            obtain ⟨r178, u178, h178, hf⟩ := bd_some hf
            refine calX0 (runV E0.b E0.n (As := [.int r175]) (rest := []) ⟨hx, hb, hml, hown, hts⟩ (c_X0_stateDays l D cI o_t a_t a_t_1 u175 S_t_1 r175 _ h178) gX0_state_X0_stateDays rfl rfl rfl hdX0_stateDays ⟨by decide, by decide⟩ hK hP hD 0 rfl rfl rfl hl.1 rfl (Nat.le_of_ble_eq_true rfl) dX0_state_178 ⟨Nat.zero_le _, Nat.zero_le _⟩) hD hS hA (fun H locs hP hD hS => ?_)
            have hP : va_P D vwCl (gX0 o_t a_t cI u178.1 ++ gX4 (a_t 1) a_t_1 cI u178.2) H := hP
            have hD : va_D A (gX0 o_t a_t cI u178.1 ++ gX4 (a_t 1) a_t_1 cI u178.2) := hD
            refine W.eq (g2 := F0 m 181 ls [.int r178]) rfl ?_
            obtain ⟨z181, hf⟩ := zb_some hf
            have e := so_some hf
            subst e
            exact rz hx hb hK hr hlk z181 hQ dX0_state_181 hP hD hS
abbrev rmX0_tell : Room := { frames := 6, cells := 0, slots := 0, locals := 136 }
set_option maxHeartbeats 4000000 in
set_option maxRecDepth 100000 in
theorem c_X0_tell (l : Launch) (D : va_G) (cI : ClassId) (o_t : Nat) (a_t : Nat → Nat) (a_t_1 : Nat → Nat) (o_p1 : Nat) (a_p1 : Nat → Nat) (S_t : G) (S_t_1 : G) (S_p1 : G) (out : Int32 × G × G × G) (hf : f_X0_tell S_t S_t_1 S_p1 = some out) : Cn EX l yX0_tell wsX0_tell rmX0_tell D cI [.ref o_t, .ref o_p1] (gX0 o_t a_t cI S_t ++ (gX4 (a_t 1) a_t_1 cI S_t_1 ++ gX4 o_p1 a_p1 cI S_p1)) (some (.int out.1)) (gX0 o_t a_t cI out.2.1 ++ (gX4 (a_t 1) a_t_1 cI out.2.2.1 ++ gX4 o_p1 a_p1 cI out.2.2.2)) := by
  refine Cn.mk (cc := cX0_tell) (maxL := 5) (ret := (some .int)) (by decide) rfl (Nat.le_of_ble_eq_true rfl) ?_
  intro p e s m below meth c A ls Q hx hb hml hown hts hK hA hP hD hS hl hr hlk hnm hE hQ
  have hown : s.vm.findClass RX0 = some m.cls := hown
  have hinX0 : ∀ w ∈ u_ws RX0 TX0 3, w ∈ wsX0_tell := by decide +kernel
  have j28 : ∀ (n28 : Nat) (S_t : G) (S_t_1 : G) (S_p1 : G) (l3 : Int32) (l4 : Int32) (H : Heap) (locs : List Loc) (ls : Array Slot), f_X0_tell_28 n28 S_t S_t_1 S_p1 l3 l4 = some out → va_P D vwCl (gX0 o_t a_t cI S_t ++ (gX4 (a_t 1) a_t_1 cI S_t_1 ++ gX4 o_p1 a_p1 cI S_p1)) H → va_D A (gX0 o_t a_t cI S_t ++ (gX4 (a_t 1) a_t_1 cI S_t_1 ++ gX4 o_p1 a_p1 cI S_p1)) → va_S A s.heap H locs → lv_has ls 5 [(0, .ref o_t), (1, .ref o_p1), (3, .int l3), (4, .int l4)] → W p l e rmX0_tell s m ([.ref o_t, .ref o_p1] : List Value).toArray below meth c H locs 0 0 Q (F0 m 28 ls []) := by
    intro n28
    induction n28 with
    | zero =>
      intro S_t S_t_1 S_p1 l3 l4 H locs ls hf
      exact no_some hf
    | succ n28 ih28 =>
      have j56 : ∀ (S_t : G) (S_t_1 : G) (S_p1 : G) (l3 : Int32) (l4 : Int32) (H : Heap) (locs : List Loc) (ls : Array Slot), f_X0_tell_56 (f_X0_tell_28 n28) S_t S_t_1 S_p1 l3 l4 = some out → va_P D vwCl (gX0 o_t a_t cI S_t ++ (gX4 (a_t 1) a_t_1 cI S_t_1 ++ gX4 o_p1 a_p1 cI S_p1)) H → va_D A (gX0 o_t a_t cI S_t ++ (gX4 (a_t 1) a_t_1 cI S_t_1 ++ gX4 o_p1 a_p1 cI S_p1)) → va_S A s.heap H locs → lv_has ls 5 [(0, .ref o_t), (1, .ref o_p1), (3, .int l3), (4, .int l4)] → W p l e rmX0_tell s m ([.ref o_t, .ref o_p1] : List Value).toArray below meth c H locs 0 0 Q (F0 m 56 ls []) := by
        intro S_t S_t_1 S_p1 l3 l4 H locs ls hf hP hD hS hl
        unfold f_X0_tell_56 at hf
        refine lv_aload_n hx hb dX0_tell_56 rfl (lv_at hl 0 rfl) ?_
        refine lv_iload hx hb dX0_tell_57 (lv_at hl 3 rfl) ?_
        obtain ⟨r59, u59, h59, hf⟩ := bd_some hf
        have hPc := hP.sub (ws' := gX0 o_t a_t cI S_t ++ gX4 (a_t 1) a_t_1 cI S_t_1) [0, 1, 2, 3, 4, 5, 6, 7, 8] rfl
        have hDc := hD.sub (ws' := gX0 o_t a_t cI S_t ++ gX4 (a_t 1) a_t_1 cI S_t_1) [0, 1, 2, 3, 4, 5, 6, 7, 8] (by decide) rfl
        refine calX (runV EX.b (EX.n hE hS (va_free (wc := gX0 o_t a_t cI S_t ++ gX4 (a_t 1) a_t_1 cI S_t_1) hD hS hA [0, 1, 2, 3, 4, 5, 6, 7, 8] rfl)) (As := [.int l4]) (rest := []) ⟨hx, hb, hml, hown, hts⟩ (c_X0_state l D cI o_t a_t a_t_1 S_t S_t_1 l4 _ h59) gX0_tell_X0_state rfl rfl rfl hdX0_state ⟨by decide, by decide⟩ hK hPc hDc 0 rfl rfl rfl hl.1 rfl (Nat.le_of_ble_eq_true rfl) dX0_tell_59 ⟨Nat.zero_le _, Nat.zero_le _⟩) hP hD hS hA [0, 1, 2, 3, 4, 5, 6, 7, 8] [9, 10, 11, 12, 13, 14, 15] [7, 8, 9, 10, 11, 12, 13, 14, 15, 0, 1, 2, 3, 4, 5, 6] (wr := gX4 o_p1 a_p1 cI S_p1) (wn := gX0 o_t a_t cI u59.1 ++ (gX4 (a_t 1) a_t_1 cI u59.2 ++ gX4 o_p1 a_p1 cI S_p1)) rfl rfl (by decide) (by decide) rfl (by decide) (fun H locs hP hD hS => ?_)
        have hP : va_P D vwCl (gX0 o_t a_t cI u59.1 ++ (gX4 (a_t 1) a_t_1 cI u59.2 ++ gX4 o_p1 a_p1 cI S_p1)) H := hP
        have hD : va_D A (gX0 o_t a_t cI u59.1 ++ (gX4 (a_t 1) a_t_1 cI u59.2 ++ gX4 o_p1 a_p1 cI S_p1)) := hD
        refine W.eq (g2 := F0 m 62 ls [.int r59]) rfl ?_
        refine lv_if_ne (tgt := 72) hx hb dX0_tell_62 (by decide) (fun c62 => ?_) (fun c62 => ?_)
        · replace hf := it_f c62 hf
          refine lv_iinc (v := l3 + (1 : Int32)) (lv' := [(3, .int (l3 + (1 : Int32))), (0, .ref o_t), (1, .ref o_p1), (4, .int l4)]) hx hb dX0_tell_72 hl (k := 2) rfl rfl (by decide) rfl (fun ls hl => ?_)
          refine lv_iinc (v := l4 + (1 : Int32)) (lv' := [(4, .int (l4 + (1 : Int32))), (3, .int (l3 + (1 : Int32))), (0, .ref o_t), (1, .ref o_p1)]) hx hb dX0_tell_75 hl (k := 3) rfl rfl (by decide) rfl (fun ls hl => ?_)
          refine lv_goto (tgt := 28) hx hb dX0_tell_78 (by decide) ?_
          exact ih28 u59.1 u59.2 S_p1 (l3 + (1 : Int32)) (l4 + (1 : Int32)) H locs ls hf hP hD hS (lv_sub hl [2, 3, 1, 0] rfl)
        · replace hf := it_t c62 hf
          refine lv_sipush (v := (-2000 : Int32)) hx hb dX0_tell_65 (by decide) ?_
          refine lv_iload hx hb dX0_tell_68 (lv_at hl 3 rfl) ?_
          refine lv_isub hx hb dX0_tell_70 ?_
          have e := so_some hf
          subst e
          exact ri hx hb hK hr hlk hQ dX0_tell_71 hP hD hS
      intro S_t S_t_1 S_p1 l3 l4 H locs ls hf hP hD hS hl
      replace hf : b_X0_tell_28 (f_X0_tell_28 n28) S_t S_t_1 S_p1 l3 l4 = some out := hf
      unfold b_X0_tell_28 at hf
      refine lv_iload hx hb dX0_tell_28 (lv_at hl 3 rfl) ?_
      refine lv_aload_n hx hb dX0_tell_30 rfl (lv_at hl 0 rfl) ?_
      refine va_get (D := D) (ci := 0) (v := .int (S_t.1 2)) (C := RX0) (T := TX0) (N := 3) hx hb hts hinX0 hown hK hP 0 rfl rfl 2 (by decide) (hts (.fieldLink RX0 22 "OnlyStrangersHear$Letters" "told" "I") (by decide +kernel)) (fun _ h9 => h9) rfl dX0_tell_31 ?_
      refine lv_icmp_ge (tgt := 81) hx hb dX0_tell_34 (by decide) (fun c34 => ?_) (fun c34 => ?_)
      · replace hf := it_t c34 hf
        refine lv_aload_n hx hb dX0_tell_81 rfl (lv_at hl 1 rfl) ?_
        refine lv_aload_n hx hb dX0_tell_82 rfl (lv_at hl 0 rfl) ?_
        refine va_get (D := D) (ci := 0) (v := .ref (a_t 1)) (C := RX0) (T := TX0) (N := 3) hx hb hts hinX0 hown hK hP 0 rfl rfl 1 (by decide) (hts (.fieldLink RX0 18 "OnlyStrangersHear$Letters" "draft" "LOnlyStrangersHear$Town;") (by decide +kernel)) (fun _ h9 => h9) rfl dX0_tell_83 ?_
        obtain ⟨r86, u86, h86, hf⟩ := bd_some hf
        have hPc := hP.sub (ws' := gX4 o_p1 a_p1 cI S_p1 ++ gX4 (a_t 1) a_t_1 cI S_t_1) [9, 10, 11, 12, 13, 14, 15, 2, 3, 4, 5, 6, 7, 8] rfl
        have hDc := hD.sub (ws' := gX4 o_p1 a_p1 cI S_p1 ++ gX4 (a_t 1) a_t_1 cI S_t_1) [9, 10, 11, 12, 13, 14, 15, 2, 3, 4, 5, 6, 7, 8] (by decide) rfl
        refine calX (runV E0.b E0.n (As := [.ref (a_t 1)]) (rest := []) ⟨hx, hb, hml, hown, hts⟩ (c_X4_become l D cI o_p1 a_p1 (a_t 1) a_t_1 S_p1 S_t_1 _ h86) gX0_tell_X4_become rfl rfl rfl hdX4_become ⟨by decide, by decide⟩ hK hPc hDc 0 rfl rfl rfl hl.1 rfl (Nat.le_of_ble_eq_true rfl) dX0_tell_86 ⟨Nat.zero_le _, Nat.zero_le _⟩) hP hD hS hA [9, 10, 11, 12, 13, 14, 15, 2, 3, 4, 5, 6, 7, 8] [0, 1] [0, 1, 9, 10, 11, 12, 13, 14, 15, 2, 3, 4, 5, 6, 7, 8] (wr := gX0 o_t a_t cI S_t) (wn := gX0 o_t a_t cI S_t ++ (gX4 (a_t 1) a_t_1 cI u86.2 ++ gX4 o_p1 a_p1 cI u86.1)) rfl rfl (by decide) (by decide) rfl (by decide) (fun H locs hP hD hS => ?_)
        have hP : va_P D vwCl (gX0 o_t a_t cI S_t ++ (gX4 (a_t 1) a_t_1 cI u86.2 ++ gX4 o_p1 a_p1 cI u86.1)) H := hP
        have hD : va_D A (gX0 o_t a_t cI S_t ++ (gX4 (a_t 1) a_t_1 cI u86.2 ++ gX4 o_p1 a_p1 cI u86.1)) := hD
        refine W.eq (g2 := F0 m 89 ls []) rfl ?_
        refine lv_iload_n hx hb dX0_tell_89 rfl (lv_at hl 2 rfl) ?_
        have e := so_some hf
        subst e
        exact ri hx hb hK hr hlk hQ dX0_tell_90 hP hD hS
      · replace hf := it_f c34 hf
        refine lv_iload hx hb dX0_tell_37 (lv_at hl 3 rfl) ?_
        refine lv_if_eq (tgt := 56) hx hb dX0_tell_39 (by decide) (fun c39 => ?_) (fun c39 => ?_)
        · replace hf := it_t c39 hf
          exact j56 S_t S_t_1 S_p1 l3 l4 H locs ls hf hP hD hS (lv_sub hl [0, 1, 2, 3] rfl)
        · replace hf := it_f c39 hf
          refine lv_aload_n hx hb dX0_tell_42 rfl (lv_at hl 0 rfl) ?_
          refine va_get (D := D) (ci := 0) (v := .ref (a_t 0)) (C := RX0) (T := TX0) (N := 3) hx hb hts hinX0 hown hK hP 0 rfl rfl 0 (by decide) (hts (.fieldLink RX0 9 "OnlyStrangersHear$Letters" "signs" "[I") (by decide +kernel)) (fun _ h9 => h9) rfl dX0_tell_43 ?_
          refine lv_iload hx hb dX0_tell_46 (lv_at hl 3 rfl) ?_
          refine lv_iconst (v := (1 : Int32)) hx hb dX0_tell_48 (by decide) ?_
          refine lv_isub hx hb dX0_tell_49 ?_
          obtain ⟨b50, hf⟩ := ck_some hf
          refine va_iald hx hb hK hP 1 0 rfl rfl b50 dX0_tell_50 ?_
          refine lv_bipush (v := (59 : Int32)) hx hb dX0_tell_51 (by decide) ?_
          refine lv_icmp_ne (tgt := 75) hx hb dX0_tell_53 (by decide) (fun c53 => ?_) (fun c53 => ?_)
          · replace hf := it_f c53 hf
            refine lv_iinc (v := l4 + (1 : Int32)) (lv' := [(4, .int (l4 + (1 : Int32))), (0, .ref o_t), (1, .ref o_p1), (3, .int l3)]) hx hb dX0_tell_75 hl (k := 3) rfl rfl (by decide) rfl (fun ls hl => ?_)
            refine lv_goto (tgt := 28) hx hb dX0_tell_78 (by decide) ?_
            exact ih28 S_t S_t_1 S_p1 l3 (l4 + (1 : Int32)) H locs ls hf hP hD hS (lv_sub hl [1, 2, 3, 0] rfl)
          · replace hf := it_t c53 hf
            exact j56 S_t S_t_1 S_p1 l3 l4 H locs ls hf hP hD hS (lv_sub hl [0, 1, 2, 3] rfl)
  unfold f_X0_tell at hf
  have hl : lv_has ls 5 [(0, .ref o_t), (1, .ref o_p1)] := hl
  obtain ⟨H, hHe⟩ : ∃ H : Heap, H = s.heap := ⟨_, rfl⟩
  obtain ⟨locs, hle⟩ : ∃ q : List Loc, q = [] := ⟨_, rfl⟩
  have hS : va_S A s.heap H locs := by rw [hHe, hle]; exact hS
  rw [← hHe] at hP
  suffices hgo : W p l e rmX0_tell s m ([.ref o_t, .ref o_p1] : List Value).toArray below meth c H locs 0 0 Q (F0 m 0 ls []) by rw [hHe, hle] at hgo; exact hgo
  clear hHe hle
  refine lv_aload_n hx hb dX0_tell_0 rfl (lv_at hl 0 rfl) ?_
  obtain ⟨r1, u1, h1, hf⟩ := bd_some hf
  have hPc := hP.sub (ws' := gX0 o_t a_t cI S_t) [0, 1] rfl
  have hDc := hD.sub (ws' := gX0 o_t a_t cI S_t) [0, 1] (by decide) rfl
  refine calX (runV EX.b (EX.n hE hS (va_free (wc := gX0 o_t a_t cI S_t) hD hS hA [0, 1] rfl)) (As := []) (rest := []) ⟨hx, hb, hml, hown, hts⟩ (c_X0_faultOfForm l D cI o_t a_t S_t _ h1) gX0_tell_X0_faultOfForm rfl rfl rfl hdX0_faultOfForm ⟨by decide, by decide⟩ hK hPc hDc 0 rfl rfl rfl hl.1 rfl (Nat.le_of_ble_eq_true rfl) dX0_tell_1 ⟨Nat.zero_le _, Nat.zero_le _⟩) hP hD hS hA [0, 1] [2, 3, 4, 5, 6, 7, 8, 9, 10, 11, 12, 13, 14, 15] [14, 15, 0, 1, 2, 3, 4, 5, 6, 7, 8, 9, 10, 11, 12, 13] (wr := gX4 (a_t 1) a_t_1 cI S_t_1 ++ gX4 o_p1 a_p1 cI S_p1) (wn := gX0 o_t a_t cI u1 ++ (gX4 (a_t 1) a_t_1 cI S_t_1 ++ gX4 o_p1 a_p1 cI S_p1)) rfl rfl (by decide) (by decide) rfl (by decide) (fun H locs hP hD hS => ?_)
  have hP : va_P D vwCl (gX0 o_t a_t cI u1 ++ (gX4 (a_t 1) a_t_1 cI S_t_1 ++ gX4 o_p1 a_p1 cI S_p1)) H := hP
  have hD : va_D A (gX0 o_t a_t cI u1 ++ (gX4 (a_t 1) a_t_1 cI S_t_1 ++ gX4 o_p1 a_p1 cI S_p1)) := hD
  refine W.eq (g2 := F0 m 4 ls [.int r1]) rfl ?_
  refine lv_istore_n (lv' := [(2, .int r1), (0, .ref o_t), (1, .ref o_p1)]) hx hb dX0_tell_4 rfl hl (by decide) rfl (fun ls hl => ?_)
  refine lv_iload_n hx hb dX0_tell_5 rfl (lv_at hl 0 rfl) ?_
  refine lv_if_lt (tgt := 15) hx hb dX0_tell_6 (by decide) (fun c6 => ?_) (fun c6 => ?_)
  · replace hf := it_t c6 hf
    refine lv_aload_n hx hb dX0_tell_15 rfl (lv_at hl 1 rfl) ?_
    refine va_get (D := D) (ci := 0) (v := .ref (a_t 1)) (C := RX0) (T := TX0) (N := 3) hx hb hts hinX0 hown hK hP 0 rfl rfl 1 (by decide) (hts (.fieldLink RX0 18 "OnlyStrangersHear$Letters" "draft" "LOnlyStrangersHear$Town;") (by decide +kernel)) (fun _ h9 => h9) rfl dX0_tell_16 ?_
    refine lv_aload_n hx hb dX0_tell_19 rfl (lv_at hl 2 rfl) ?_
    obtain ⟨r20, u20, h20, hf⟩ := bd_some hf
    have hPc := hP.sub (ws' := gX4 (a_t 1) a_t_1 cI S_t_1 ++ gX4 o_p1 a_p1 cI S_p1) [2, 3, 4, 5, 6, 7, 8, 9, 10, 11, 12, 13, 14, 15] rfl
    have hDc := hD.sub (ws' := gX4 (a_t 1) a_t_1 cI S_t_1 ++ gX4 o_p1 a_p1 cI S_p1) [2, 3, 4, 5, 6, 7, 8, 9, 10, 11, 12, 13, 14, 15] (by decide) rfl
    refine calX (runV E0.b E0.n (As := [.ref o_p1]) (rest := []) ⟨hx, hb, hml, hown, hts⟩ (c_X4_become l D cI (a_t 1) a_t_1 o_p1 a_p1 S_t_1 S_p1 _ h20) gX0_tell_X4_become rfl rfl rfl hdX4_become ⟨by decide, by decide⟩ hK hPc hDc 0 rfl rfl rfl hl.1 rfl (Nat.le_of_ble_eq_true rfl) dX0_tell_20 ⟨Nat.zero_le _, Nat.zero_le _⟩) hP hD hS hA [2, 3, 4, 5, 6, 7, 8, 9, 10, 11, 12, 13, 14, 15] [0, 1] [0, 1, 2, 3, 4, 5, 6, 7, 8, 9, 10, 11, 12, 13, 14, 15] (wr := gX0 o_t a_t cI u1) (wn := gX0 o_t a_t cI u1 ++ (gX4 (a_t 1) a_t_1 cI u20.1 ++ gX4 o_p1 a_p1 cI u20.2)) rfl rfl (by decide) (by decide) rfl (by decide) (fun H locs hP hD hS => ?_)
    have hP : va_P D vwCl (gX0 o_t a_t cI u1 ++ (gX4 (a_t 1) a_t_1 cI u20.1 ++ gX4 o_p1 a_p1 cI u20.2)) H := hP
    have hD : va_D A (gX0 o_t a_t cI u1 ++ (gX4 (a_t 1) a_t_1 cI u20.1 ++ gX4 o_p1 a_p1 cI u20.2)) := hD
    refine W.eq (g2 := F0 m 23 ls []) rfl ?_
    refine lv_iconst (v := (0 : Int32)) hx hb dX0_tell_23 (by decide) ?_
    refine lv_istore_n (lv' := [(3, .int (0 : Int32)), (2, .int r1), (0, .ref o_t), (1, .ref o_p1)]) hx hb dX0_tell_24 rfl hl (by decide) rfl (fun ls hl => ?_)
    refine lv_iconst (v := (0 : Int32)) hx hb dX0_tell_25 (by decide) ?_
    refine lv_istore (lv' := [(4, .int (0 : Int32)), (3, .int (0 : Int32)), (2, .int r1), (0, .ref o_t), (1, .ref o_p1)]) hx hb dX0_tell_26 hl (by decide) rfl (fun ls hl => ?_)
    exact j28 1000 u1 u20.1 u20.2 (0 : Int32) (0 : Int32) H locs ls hf hP hD hS (lv_sub hl [3, 4, 1, 0] rfl)
  · replace hf := it_f c6 hf
    refine lv_sipush (v := (-1000 : Int32)) hx hb dX0_tell_9 (by decide) ?_
    refine lv_iload_n hx hb dX0_tell_12 rfl (lv_at hl 0 rfl) ?_
    refine lv_isub hx hb dX0_tell_13 ?_
    have e := so_some hf
    subst e
    exact ri hx hb hK hr hlk hQ dX0_tell_14 hP hD hS
