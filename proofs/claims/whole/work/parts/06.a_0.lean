abbrev rmJ6_bitCount_0f7a4 : Room := { frames := 0, cells := 0, slots := 0, locals := 0 }
set_option maxHeartbeats 4000000 in
set_option maxRecDepth 100000 in
theorem c_J6_bitCount_0f7a4 (l : Launch) (D : va_G) (cI : ClassId) (x0 : Int32) (out : Int32 × Unit) (hf : f_J6_bitCount_0f7a4 x0 = some out) : Cn E0 l yJ6_bitCount_0f7a4 wsJ6_bitCount_0f7a4 rmJ6_bitCount_0f7a4 D cI [.int x0] ([]) (some (.int out.1)) ([]) := by
  refine Cn.mk (cc := cJ6_bitCount_0f7a4) (maxL := 1) (ret := (some .int)) (by decide) rfl (Nat.le_of_ble_eq_true rfl) ?_
  intro p e s m below meth c A ls Q hx hb hml hown hts hK hA hP hD hS hl hr hlk hnm hE hQ
  have hown : s.vm.findClass RJ6 = some m.cls := hown
  unfold f_J6_bitCount_0f7a4 at hf
  have hl : lv_has ls 1 [(0, .int x0)] := hl
  obtain ⟨H, hHe⟩ : ∃ H : Heap, H = s.heap := ⟨_, rfl⟩
  obtain ⟨locs, hle⟩ : ∃ q : List Loc, q = [] := ⟨_, rfl⟩
  have hS : va_S A s.heap H locs := by rw [hHe, hle]; exact hS
  rw [← hHe] at hP
  suffices hgo : W p l e rmJ6_bitCount_0f7a4 s m ([.int x0] : List Value).toArray below meth c H locs 0 0 Q (F0 m 0 ls []) by rw [hHe, hle] at hgo; exact hgo
  clear hHe hle
  refine lv_iload_n hx hb dJ6_bitCount_0f7a4_0 rfl (lv_at hl 0 rfl) ?_
  refine lv_iload_n hx hb dJ6_bitCount_0f7a4_1 rfl (lv_at hl 0 rfl) ?_
  refine lv_iconst (v := (1 : Int32)) hx hb dJ6_bitCount_0f7a4_2 (by decide) ?_
  refine lv_iushr (v := (x0.toUInt32 >>> ((1 : Int32).toUInt32 &&& Int32.toUInt32 31)).toInt32) hx hb dJ6_bitCount_0f7a4_3 rfl ?_
  refine lv_ldcw (v := (1431655765 : Int32)) hx hb hown (hts (.constant RJ6 265 (1431655765)) (by decide +kernel)) dJ6_bitCount_0f7a4_4 ?_
  refine lv_iand hx hb dJ6_bitCount_0f7a4_7 ?_
  refine lv_isub hx hb dJ6_bitCount_0f7a4_8 ?_
  refine lv_topi (fun v9 e9 => ?_)
  replace hf := lt_at e9 hf
  refine lv_istore_n (lv' := [(0, .int v9)]) hx hb dJ6_bitCount_0f7a4_9 rfl hl (by decide) rfl (fun ls hl => ?_)
  refine lv_iload_n hx hb dJ6_bitCount_0f7a4_10 rfl (lv_at hl 0 rfl) ?_
  refine lv_ldcw (v := (858993459 : Int32)) hx hb hown (hts (.constant RJ6 266 (858993459)) (by decide +kernel)) dJ6_bitCount_0f7a4_11 ?_
  refine lv_iand hx hb dJ6_bitCount_0f7a4_14 ?_
  refine lv_iload_n hx hb dJ6_bitCount_0f7a4_15 rfl (lv_at hl 0 rfl) ?_
  refine lv_iconst (v := (2 : Int32)) hx hb dJ6_bitCount_0f7a4_16 (by decide) ?_
  refine lv_iushr (v := (v9.toUInt32 >>> ((2 : Int32).toUInt32 &&& Int32.toUInt32 31)).toInt32) hx hb dJ6_bitCount_0f7a4_17 rfl ?_
  refine lv_ldcw (v := (858993459 : Int32)) hx hb hown (hts (.constant RJ6 266 (858993459)) (by decide +kernel)) dJ6_bitCount_0f7a4_18 ?_
  refine lv_iand hx hb dJ6_bitCount_0f7a4_21 ?_
  refine lv_iadd hx hb dJ6_bitCount_0f7a4_22 ?_
  refine lv_topi (fun v23 e23 => ?_)
  replace hf := lt_at e23 hf
  refine lv_istore_n (lv' := [(0, .int v23)]) hx hb dJ6_bitCount_0f7a4_23 rfl hl (by decide) rfl (fun ls hl => ?_)
  refine lv_iload_n hx hb dJ6_bitCount_0f7a4_24 rfl (lv_at hl 0 rfl) ?_
  refine lv_iload_n hx hb dJ6_bitCount_0f7a4_25 rfl (lv_at hl 0 rfl) ?_
  refine lv_iconst (v := (4 : Int32)) hx hb dJ6_bitCount_0f7a4_26 (by decide) ?_
  refine lv_iushr (v := (v23.toUInt32 >>> ((4 : Int32).toUInt32 &&& Int32.toUInt32 31)).toInt32) hx hb dJ6_bitCount_0f7a4_27 rfl ?_
  refine lv_iadd hx hb dJ6_bitCount_0f7a4_28 ?_
  refine lv_ldcw (v := (252645135 : Int32)) hx hb hown (hts (.constant RJ6 267 (252645135)) (by decide +kernel)) dJ6_bitCount_0f7a4_29 ?_
  refine lv_iand hx hb dJ6_bitCount_0f7a4_32 ?_
  refine lv_topi (fun v33 e33 => ?_)
  replace hf := lt_at e33 hf
  refine lv_istore_n (lv' := [(0, .int v33)]) hx hb dJ6_bitCount_0f7a4_33 rfl hl (by decide) rfl (fun ls hl => ?_)
  refine lv_iload_n hx hb dJ6_bitCount_0f7a4_34 rfl (lv_at hl 0 rfl) ?_
  refine lv_iload_n hx hb dJ6_bitCount_0f7a4_35 rfl (lv_at hl 0 rfl) ?_
  refine lv_bipush (v := (8 : Int32)) hx hb dJ6_bitCount_0f7a4_36 (by decide) ?_
  refine lv_iushr (v := (v33.toUInt32 >>> ((8 : Int32).toUInt32 &&& Int32.toUInt32 31)).toInt32) hx hb dJ6_bitCount_0f7a4_38 rfl ?_
  refine lv_iadd hx hb dJ6_bitCount_0f7a4_39 ?_
  refine lv_topi (fun v40 e40 => ?_)
  replace hf := lt_at e40 hf
  refine lv_istore_n (lv' := [(0, .int v40)]) hx hb dJ6_bitCount_0f7a4_40 rfl hl (by decide) rfl (fun ls hl => ?_)
  refine lv_iload_n hx hb dJ6_bitCount_0f7a4_41 rfl (lv_at hl 0 rfl) ?_
  refine lv_iload_n hx hb dJ6_bitCount_0f7a4_42 rfl (lv_at hl 0 rfl) ?_
  refine lv_bipush (v := (16 : Int32)) hx hb dJ6_bitCount_0f7a4_43 (by decide) ?_
  refine lv_iushr (v := (v40.toUInt32 >>> ((16 : Int32).toUInt32 &&& Int32.toUInt32 31)).toInt32) hx hb dJ6_bitCount_0f7a4_45 rfl ?_
  refine lv_iadd hx hb dJ6_bitCount_0f7a4_46 ?_
  refine lv_topi (fun v47 e47 => ?_)
  replace hf := lt_at e47 hf
  refine lv_istore_n (lv' := [(0, .int v47)]) hx hb dJ6_bitCount_0f7a4_47 rfl hl (by decide) rfl (fun ls hl => ?_)
  refine lv_iload_n hx hb dJ6_bitCount_0f7a4_48 rfl (lv_at hl 0 rfl) ?_
  refine lv_bipush (v := (63 : Int32)) hx hb dJ6_bitCount_0f7a4_49 (by decide) ?_
  refine lv_iand hx hb dJ6_bitCount_0f7a4_51 ?_
  have e := so_some hf
  subst e
  exact ri hx hb hK hr hlk hQ dJ6_bitCount_0f7a4_52 hP hD hS
abbrev rmJ0_isLatin1_aae02 : Room := { frames := 0, cells := 0, slots := 0, locals := 0 }
set_option maxHeartbeats 4000000 in
set_option maxRecDepth 100000 in
theorem c_J0_isLatin1_aae02 (l : Launch) (D : va_G) (cI : ClassId) (adK adV : Nat → Nat) (out : Int32 × Unit) (hf : f_J0_isLatin1_aae02 = some out) : Cn (ES adK adV) l yJ0_isLatin1_aae02 wsJ0_isLatin1_aae02 rmJ0_isLatin1_aae02 D cI [.ref (adK 0)] ([]) (some (.int out.1)) ([]) := by
  refine Cn.mk (cc := cJ0_isLatin1_aae02) (maxL := 1) (ret := (some .boolean)) (by decide) rfl (Nat.le_of_ble_eq_true rfl) ?_
  intro p e s m below meth c A ls Q hx hb hml hown hts hK hA hP hD hS hl hr hlk hnm hE hQ
  have hown : s.vm.findClass RJ0 = some m.cls := hown
  unfold f_J0_isLatin1_aae02 at hf
  have hl : lv_has ls 1 [(0, .ref (adK 0))] := hl
  obtain ⟨H, hHe⟩ : ∃ H : Heap, H = s.heap := ⟨_, rfl⟩
  obtain ⟨locs, hle⟩ : ∃ q : List Loc, q = [] := ⟨_, rfl⟩
  have hS : va_S A s.heap H locs := by rw [hHe, hle]; exact hS
  rw [← hHe] at hP
  suffices hgo : W p l e rmJ0_isLatin1_aae02 s m ([.ref (adK 0)] : List Value).toArray below meth c H locs 0 0 Q (F0 m 0 ls []) by rw [hHe, hle] at hgo; exact hgo
  clear hHe hle
  refine va_gets hx hb hE.2.2 hS hown (hts (.fieldLink RJ0 38 "java/lang/String" "COMPACT_STRINGS" "Z") (by decide +kernel)) (fun _ h9 => h9) dJ0_isLatin1_aae02_0 ?_
  refine lv_if_eq (tgt := 17) hx hb dJ0_isLatin1_aae02_3 (by decide) (fun c3 => ?_) (fun c3 => ?_)
  · replace hf := it_t c3 hf
    refine lv_iconst (v := (0 : Int32)) hx hb dJ0_isLatin1_aae02_17 (by decide) ?_
    have e := so_some hf
    subst e
    exact rz hx hb hK hr hlk (Or.inl rfl) hQ dJ0_isLatin1_aae02_18 hP hD hS
  · replace hf := it_f c3 hf
    refine lv_aload_n hx hb dJ0_isLatin1_aae02_6 rfl (lv_at hl 0 rfl) ?_
    refine vk_getf hx hb (hE.2.1.1 0 (by decide)).2.1 hS hown (hts (.fieldLink RJ0 15 "java/lang/String" "coder" "B") (by decide +kernel)) (fun _ h9 => h9) dJ0_isLatin1_aae02_7 ?_
    refine lv_if_ne (tgt := 17) hx hb dJ0_isLatin1_aae02_10 (by decide) (fun c10 => ?_) (fun c10 => ?_)
    · replace hf := it_f c10 hf
      refine lv_iconst (v := (0 : Int32)) hx hb dJ0_isLatin1_aae02_17 (by decide) ?_
      have e := so_some hf
      subst e
      exact rz hx hb hK hr hlk (Or.inl rfl) hQ dJ0_isLatin1_aae02_18 hP hD hS
    · replace hf := it_t c10 hf
      refine lv_iconst (v := (1 : Int32)) hx hb dJ0_isLatin1_aae02_13 (by decide) ?_
      refine lv_goto (tgt := 18) hx hb dJ0_isLatin1_aae02_14 (by decide) ?_
      have e := so_some hf
      subst e
      exact rz hx hb hK hr hlk (Or.inr rfl) hQ dJ0_isLatin1_aae02_18 hP hD hS
abbrev rmJ0_coder_7d493 : Room := { frames := 0, cells := 0, slots := 0, locals := 0 }
set_option maxHeartbeats 4000000 in
set_option maxRecDepth 100000 in
theorem c_J0_coder_7d493 (l : Launch) (D : va_G) (cI : ClassId) (adK adV : Nat → Nat) (out : Int32 × Unit) (hf : f_J0_coder_7d493 = some out) : Cn (ES adK adV) l yJ0_coder_7d493 wsJ0_coder_7d493 rmJ0_coder_7d493 D cI [.ref (adK 0)] ([]) (some (.int out.1)) ([]) := by
  refine Cn.mk (cc := cJ0_coder_7d493) (maxL := 1) (ret := (some .byte)) (by decide) rfl (Nat.le_of_ble_eq_true rfl) ?_
  intro p e s m below meth c A ls Q hx hb hml hown hts hK hA hP hD hS hl hr hlk hnm hE hQ
  have hown : s.vm.findClass RJ0 = some m.cls := hown
  unfold f_J0_coder_7d493 at hf
  have hl : lv_has ls 1 [(0, .ref (adK 0))] := hl
  obtain ⟨H, hHe⟩ : ∃ H : Heap, H = s.heap := ⟨_, rfl⟩
  obtain ⟨locs, hle⟩ : ∃ q : List Loc, q = [] := ⟨_, rfl⟩
  have hS : va_S A s.heap H locs := by rw [hHe, hle]; exact hS
  rw [← hHe] at hP
  suffices hgo : W p l e rmJ0_coder_7d493 s m ([.ref (adK 0)] : List Value).toArray below meth c H locs 0 0 Q (F0 m 0 ls []) by rw [hHe, hle] at hgo; exact hgo
  clear hHe hle
  refine va_gets hx hb hE.2.2 hS hown (hts (.fieldLink RJ0 38 "java/lang/String" "COMPACT_STRINGS" "Z") (by decide +kernel)) (fun _ h9 => h9) dJ0_coder_7d493_0 ?_
  refine lv_if_eq (tgt := 13) hx hb dJ0_coder_7d493_3 (by decide) (fun c3 => ?_) (fun c3 => ?_)
  · replace hf := it_t c3 hf
    refine lv_iconst (v := (1 : Int32)) hx hb dJ0_coder_7d493_13 (by decide) ?_
    have e := so_some hf
    subst e
    exact rb hx hb hK hr hlk rfl hQ dJ0_coder_7d493_14 hP hD hS
  · replace hf := it_f c3 hf
    refine lv_aload_n hx hb dJ0_coder_7d493_6 rfl (lv_at hl 0 rfl) ?_
    refine vk_getf hx hb (hE.2.1.1 0 (by decide)).2.1 hS hown (hts (.fieldLink RJ0 15 "java/lang/String" "coder" "B") (by decide +kernel)) (fun _ h9 => h9) dJ0_coder_7d493_7 ?_
    refine lv_goto (tgt := 14) hx hb dJ0_coder_7d493_10 (by decide) ?_
    have e := so_some hf
    subst e
    exact rb hx hb hK hr hlk rfl hQ dJ0_coder_7d493_14 hP hD hS
abbrev rmJ0_length_8abf5 : Room := { frames := 1, cells := 0, slots := 0, locals := 20 }
set_option maxHeartbeats 4000000 in
set_option maxRecDepth 100000 in
theorem c_J0_length_8abf5 (l : Launch) (D : va_G) (cI : ClassId) (adK adV : Nat → Nat) (out : Int32 × Unit) (hf : f_J0_length_8abf5 = some out) : Cn (ES adK adV) l yJ0_length_8abf5 wsJ0_length_8abf5 rmJ0_length_8abf5 D cI [.ref (adK 0)] ([]) (some (.int out.1)) ([]) := by
  refine Cn.mk (cc := cJ0_length_8abf5) (maxL := 1) (ret := (some .int)) (by decide) rfl (Nat.le_of_ble_eq_true rfl) ?_
  intro p e s m below meth c A ls Q hx hb hml hown hts hK hA hP hD hS hl hr hlk hnm hE hQ
  have hown : s.vm.findClass RJ0 = some m.cls := hown
  unfold f_J0_length_8abf5 at hf
  have hl : lv_has ls 1 [(0, .ref (adK 0))] := hl
  obtain ⟨H, hHe⟩ : ∃ H : Heap, H = s.heap := ⟨_, rfl⟩
  obtain ⟨locs, hle⟩ : ∃ q : List Loc, q = [] := ⟨_, rfl⟩
  have hS : va_S A s.heap H locs := by rw [hHe, hle]; exact hS
  rw [← hHe] at hP
  suffices hgo : W p l e rmJ0_length_8abf5 s m ([.ref (adK 0)] : List Value).toArray below meth c H locs 0 0 Q (F0 m 0 ls []) by rw [hHe, hle] at hgo; exact hgo
  clear hHe hle
  refine lv_aload_n hx hb dJ0_length_8abf5_0 rfl (lv_at hl 0 rfl) ?_
  refine vk_getf hx hb (hE.2.1.1 0 (by decide)).2.2.1 hS hown (hts (.fieldLink RJ0 9 "java/lang/String" "value" "[B") (by decide +kernel)) (fun _ h9 => h9) dJ0_length_8abf5_1 ?_
  refine va_tlen (v := (6 : Int32)) hx hb (hE.2.1.1 0 (by decide)).2.2.2 hS rfl dJ0_length_8abf5_4 ?_
  refine lv_aload_n hx hb dJ0_length_8abf5_5 rfl (lv_at hl 0 rfl) ?_
  obtain ⟨r6, u6, h6, hf⟩ := bd_some hf
  refine calX0 (runVT hE hS (fr0 hD hS hA) (As := []) (rest := [.int (6 : Int32)]) ⟨hx, hb, hml, hown, hts⟩ (c_J0_coder_7d493 l D cI adK adV _ h6) gJ0_length_8abf5_J0_coder_7d493 rfl rfl rfl hdJ0_coder_7d493 rfl ⟨by decide, by decide⟩ hK hP hD rfl hl.1 rfl (Nat.le_of_ble_eq_true rfl) dJ0_length_8abf5_6 ⟨Nat.zero_le _, Nat.zero_le _⟩) hD hS hA (fun H locs hP hD hS => ?_)
  have hP : va_P D vwCl ([]) H := hP
  have hD : va_D A ([]) := hD
  refine W.eq (g2 := F0 m 9 ls [.int r6, .int (6 : Int32)]) rfl ?_
  refine lv_ishr hx hb dJ0_length_8abf5_9 ?_
  have e := so_some hf
  subst e
  exact ri hx hb hK hr hlk hQ dJ0_length_8abf5_10 hP hD hS
abbrev rmJ1_canEncode_9a6ad : Room := { frames := 0, cells := 0, slots := 0, locals := 0 }
set_option maxHeartbeats 4000000 in
set_option maxRecDepth 100000 in
theorem c_J1_canEncode_9a6ad (l : Launch) (D : va_G) (cI : ClassId) (x0 : Int32) (out : Int32 × Unit) (hf : f_J1_canEncode_9a6ad x0 = some out) : Cn E0 l yJ1_canEncode_9a6ad wsJ1_canEncode_9a6ad rmJ1_canEncode_9a6ad D cI [.int x0] ([]) (some (.int out.1)) ([]) := by
  refine Cn.mk (cc := cJ1_canEncode_9a6ad) (maxL := 1) (ret := (some .boolean)) (by decide) rfl (Nat.le_of_ble_eq_true rfl) ?_
  intro p e s m below meth c A ls Q hx hb hml hown hts hK hA hP hD hS hl hr hlk hnm hE hQ
  have hown : s.vm.findClass RJ1 = some m.cls := hown
  unfold f_J1_canEncode_9a6ad at hf
  have hl : lv_has ls 1 [(0, .int x0)] := hl
  obtain ⟨H, hHe⟩ : ∃ H : Heap, H = s.heap := ⟨_, rfl⟩
  obtain ⟨locs, hle⟩ : ∃ q : List Loc, q = [] := ⟨_, rfl⟩
  have hS : va_S A s.heap H locs := by rw [hHe, hle]; exact hS
  rw [← hHe] at hP
  suffices hgo : W p l e rmJ1_canEncode_9a6ad s m ([.int x0] : List Value).toArray below meth c H locs 0 0 Q (F0 m 0 ls []) by rw [hHe, hle] at hgo; exact hgo
  clear hHe hle
  refine lv_iload_n hx hb dJ1_canEncode_9a6ad_0 rfl (lv_at hl 0 rfl) ?_
  refine lv_if_lt (tgt := 15) hx hb dJ1_canEncode_9a6ad_1 (by decide) (fun c1 => ?_) (fun c1 => ?_)
  · replace hf := it_t c1 hf
    refine lv_iconst (v := (0 : Int32)) hx hb dJ1_canEncode_9a6ad_15 (by decide) ?_
    have e := so_some hf
    subst e
    exact rz hx hb hK hr hlk (Or.inl rfl) hQ dJ1_canEncode_9a6ad_16 hP hD hS
  · replace hf := it_f c1 hf
    refine lv_iload_n hx hb dJ1_canEncode_9a6ad_4 rfl (lv_at hl 0 rfl) ?_
    refine lv_sipush (v := (255 : Int32)) hx hb dJ1_canEncode_9a6ad_5 (by decide) ?_
    refine lv_icmp_gt (tgt := 15) hx hb dJ1_canEncode_9a6ad_8 (by decide) (fun c8 => ?_) (fun c8 => ?_)
    · replace hf := it_t c8 hf
      refine lv_iconst (v := (0 : Int32)) hx hb dJ1_canEncode_9a6ad_15 (by decide) ?_
      have e := so_some hf
      subst e
      exact rz hx hb hK hr hlk (Or.inl rfl) hQ dJ1_canEncode_9a6ad_16 hP hD hS
    · replace hf := it_f c8 hf
      refine lv_iconst (v := (1 : Int32)) hx hb dJ1_canEncode_9a6ad_11 (by decide) ?_
      refine lv_goto (tgt := 16) hx hb dJ1_canEncode_9a6ad_12 (by decide) ?_
      have e := so_some hf
      subst e
      exact rz hx hb hK hr hlk (Or.inr rfl) hQ dJ1_canEncode_9a6ad_16 hP hD hS
abbrev rmJ1_indexOfChar_4cfef : Room := { frames := 0, cells := 0, slots := 0, locals := 0 }
set_option maxHeartbeats 4000000 in
set_option maxRecDepth 100000 in
theorem c_J1_indexOfChar_4cfef (l : Launch) (D : va_G) (cI : ClassId) (adK adV : Nat → Nat) (x1 : Int32) (x2 : Int32) (x3 : Int32) (out : Int32 × Unit) (hf : f_J1_indexOfChar_4cfef x1 x2 x3 = some out) : Cn (ES adK adV) l yJ1_indexOfChar_4cfef wsJ1_indexOfChar_4cfef rmJ1_indexOfChar_4cfef D cI [.ref (adV 0), .int x1, .int x2, .int x3] ([]) (some (.int out.1)) ([]) := by
  refine Cn.mk (cc := cJ1_indexOfChar_4cfef) (maxL := 6) (ret := (some .int)) (by decide) rfl (Nat.le_of_ble_eq_true rfl) ?_
  intro p e s m below meth c A ls Q hx hb hml hown hts hK hA hP hD hS hl hr hlk hnm hE hQ
  have hown : s.vm.findClass RJ1 = some m.cls := hown
  have j7 : ∀ (n7 : Nat) (l3 : Int32) (l4 : Int32) (l5 : Int32) (H : Heap) (locs : List Loc) (ls : Array Slot), f_J1_indexOfChar_4cfef_7 n7 l3 l4 l5 = some out → va_P D vwCl ([]) H → va_D A ([]) → va_S A s.heap H locs → lv_has ls 6 [(0, .ref (adV 0)), (3, .int l3), (4, .int l4), (5, .int l5)] → W p l e rmJ1_indexOfChar_4cfef s m ([.ref (adV 0), .int x1, .int x2, .int x3] : List Value).toArray below meth c H locs 0 0 Q (F0 m 7 ls []) := by
    intro n7
    induction n7 with
    | zero =>
      intro l3 l4 l5 H locs ls hf
      exact no_some hf
    | succ n7 ih7 =>
      intro l3 l4 l5 H locs ls hf hP hD hS hl
      replace hf : b_J1_indexOfChar_4cfef_7 (f_J1_indexOfChar_4cfef_7 n7) l3 l4 l5 = some out := hf
      unfold b_J1_indexOfChar_4cfef_7 at hf
      refine lv_iload hx hb dJ1_indexOfChar_4cfef_7 (lv_at hl 3 rfl) ?_
      refine lv_iload_n hx hb dJ1_indexOfChar_4cfef_9 rfl (lv_at hl 1 rfl) ?_
      refine lv_icmp_ge (tgt := 31) hx hb dJ1_indexOfChar_4cfef_10 (by decide) (fun c10 => ?_) (fun c10 => ?_)
      · replace hf := it_t c10 hf
        refine lv_iconst (v := (-1 : Int32)) hx hb dJ1_indexOfChar_4cfef_31 (by decide) ?_
        have e := so_some hf
        subst e
        exact ri hx hb hK hr hlk hQ dJ1_indexOfChar_4cfef_32 hP hD hS
      · replace hf := it_f c10 hf
        refine lv_aload_n hx hb dJ1_indexOfChar_4cfef_13 rfl (lv_at hl 0 rfl) ?_
        refine lv_iload hx hb dJ1_indexOfChar_4cfef_14 (lv_at hl 3 rfl) ?_
        obtain ⟨b16, hf⟩ := ck_some hf
        refine va_tb (v := .int ([(112 : Int32), 99, 119, 100, 108, 111].getD l5.toNatClampNeg 0)) hx hb (hE.2.1.1 0 (by decide)).2.2.2 hS b16 rfl dJ1_indexOfChar_4cfef_16 ?_
        refine lv_iload hx hb dJ1_indexOfChar_4cfef_17 (lv_at hl 2 rfl) ?_
        refine lv_icmp_ne (tgt := 25) hx hb dJ1_indexOfChar_4cfef_19 (by decide) (fun c19 => ?_) (fun c19 => ?_)
        · replace hf := it_f c19 hf
          refine lv_iinc (v := l5 + (1 : Int32)) (lv' := [(5, .int (l5 + (1 : Int32))), (0, .ref (adV 0)), (3, .int l3), (4, .int l4)]) hx hb dJ1_indexOfChar_4cfef_25 hl (k := 3) rfl rfl (by decide) rfl (fun ls hl => ?_)
          refine lv_goto (tgt := 7) hx hb dJ1_indexOfChar_4cfef_28 (by decide) ?_
          exact ih7 l3 l4 (l5 + (1 : Int32)) H locs ls hf hP hD hS (lv_sub hl [1, 2, 3, 0] rfl)
        · replace hf := it_t c19 hf
          refine lv_iload hx hb dJ1_indexOfChar_4cfef_22 (lv_at hl 3 rfl) ?_
          have e := so_some hf
          subst e
          exact ri hx hb hK hr hlk hQ dJ1_indexOfChar_4cfef_24 hP hD hS
  unfold f_J1_indexOfChar_4cfef at hf
  have hl : lv_has ls 6 [(0, .ref (adV 0)), (1, .int x1), (2, .int x2), (3, .int x3)] := hl
  obtain ⟨H, hHe⟩ : ∃ H : Heap, H = s.heap := ⟨_, rfl⟩
  obtain ⟨locs, hle⟩ : ∃ q : List Loc, q = [] := ⟨_, rfl⟩
  have hS : va_S A s.heap H locs := by rw [hHe, hle]; exact hS
  rw [← hHe] at hP
  suffices hgo : W p l e rmJ1_indexOfChar_4cfef s m ([.ref (adV 0), .int x1, .int x2, .int x3] : List Value).toArray below meth c H locs 0 0 Q (F0 m 0 ls []) by rw [hHe, hle] at hgo; exact hgo
  clear hHe hle
  refine lv_iload_n hx hb dJ1_indexOfChar_4cfef_0 rfl (lv_at hl 1 rfl) ?_
  refine lv_i2b (v := x1.toInt8.toInt32) hx hb dJ1_indexOfChar_4cfef_1 rfl ?_
  refine lv_istore (lv' := [(4, .int x1.toInt8.toInt32), (0, .ref (adV 0)), (1, .int x1), (2, .int x2), (3, .int x3)]) hx hb dJ1_indexOfChar_4cfef_2 hl (by decide) rfl (fun ls hl => ?_)
  refine lv_iload_n hx hb dJ1_indexOfChar_4cfef_4 rfl (lv_at hl 3 rfl) ?_
  refine lv_istore (lv' := [(5, .int x2), (4, .int x1.toInt8.toInt32), (0, .ref (adV 0)), (1, .int x1), (2, .int x2), (3, .int x3)]) hx hb dJ1_indexOfChar_4cfef_5 hl (by decide) rfl (fun ls hl => ?_)
  exact j7 1000 x3 x1.toInt8.toInt32 x2 H locs ls hf hP hD hS (lv_sub hl [2, 5, 1, 0] rfl)
abbrev rmJ1_indexOf_4cfef : Room := { frames := 1, cells := 0, slots := 0, locals := 25 }
set_option maxHeartbeats 4000000 in
set_option maxRecDepth 100000 in
theorem c_J1_indexOf_4cfef (l : Launch) (D : va_G) (cI : ClassId) (adK adV : Nat → Nat) (x1 : Int32) (x2 : Int32) (x3 : Int32) (out : Int32 × Unit) (hf : f_J1_indexOf_4cfef x1 x2 x3 = some out) : Cn (ES adK adV) l yJ1_indexOf_4cfef wsJ1_indexOf_4cfef rmJ1_indexOf_4cfef D cI [.ref (adV 0), .int x1, .int x2, .int x3] ([]) (some (.int out.1)) ([]) := by
  refine Cn.mk (cc := cJ1_indexOf_4cfef) (maxL := 4) (ret := (some .int)) (by decide) rfl (Nat.le_of_ble_eq_true rfl) ?_
  intro p e s m below meth c A ls Q hx hb hml hown hts hK hA hP hD hS hl hr hlk hnm hE hQ
  have hown : s.vm.findClass RJ1 = some m.cls := hown
  unfold f_J1_indexOf_4cfef at hf
  have hl : lv_has ls 4 [(0, .ref (adV 0)), (1, .int x1), (2, .int x2), (3, .int x3)] := hl
  obtain ⟨H, hHe⟩ : ∃ H : Heap, H = s.heap := ⟨_, rfl⟩
  obtain ⟨locs, hle⟩ : ∃ q : List Loc, q = [] := ⟨_, rfl⟩
  have hS : va_S A s.heap H locs := by rw [hHe, hle]; exact hS
  rw [← hHe] at hP
  suffices hgo : W p l e rmJ1_indexOf_4cfef s m ([.ref (adV 0), .int x1, .int x2, .int x3] : List Value).toArray below meth c H locs 0 0 Q (F0 m 0 ls []) by rw [hHe, hle] at hgo; exact hgo
  clear hHe hle
  refine lv_iload_n hx hb dJ1_indexOf_4cfef_0 rfl (lv_at hl 1 rfl) ?_
  obtain ⟨r1, u1, h1, hf⟩ := bd_some hf
  refine calX0 (runS E0.b E0.n (As := [.int x1]) (rest := []) ⟨hx, hb, hml, hown, hts⟩ (c_J1_canEncode_9a6ad l D cI x1 _ h1) gJ1_indexOf_4cfef_J1_canEncode_9a6ad rfl rfl rfl hdJ1_canEncode_9a6ad ⟨by decide, by decide⟩ hK hP hD rfl hl.1 rfl (Nat.le_of_ble_eq_true rfl) dJ1_indexOf_4cfef_1 ⟨Nat.zero_le _, Nat.zero_le _⟩) hD hS hA (fun H locs hP hD hS => ?_)
  have hP : va_P D vwCl ([]) H := hP
  have hD : va_D A ([]) := hD
  refine W.eq (g2 := F0 m 4 ls [.int r1]) rfl ?_
  refine lv_if_ne (tgt := 9) hx hb dJ1_indexOf_4cfef_4 (by decide) (fun c4 => ?_) (fun c4 => ?_)
  · replace hf := it_f c4 hf
    refine lv_iload_n hx hb dJ1_indexOf_4cfef_9 rfl (lv_at hl 2 rfl) ?_
    refine lv_iconst (v := (0 : Int32)) hx hb dJ1_indexOf_4cfef_10 (by decide) ?_
    refine va_mmax hx hb (by rw [hml]; exact hl.1.symm) hown (hts (.methodLink RJ1 92 Lib.Math.max.name) (by decide +kernel)) (hts (.static Lib.Math.max.name) (by decide +kernel)) (hts (.initialized "java/lang/Math") (by decide +kernel)) (hts (.code Lib.Math.max.name Lib.Math.max.code 2 (some .int)) (by decide +kernel)) (by decide) (Nat.le_of_ble_eq_true rfl) (Nat.zero_le _) (Nat.zero_le _) dJ1_indexOf_4cfef_11 ?_
    refine lv_topi (fun v14 e14 => ?_)
    replace hf := lt_at e14 hf
    refine lv_istore_n (lv' := [(2, .int v14), (0, .ref (adV 0)), (1, .int x1), (3, .int x3)]) hx hb dJ1_indexOf_4cfef_14 rfl hl (by decide) rfl (fun ls hl => ?_)
    refine lv_iload_n hx hb dJ1_indexOf_4cfef_15 rfl (lv_at hl 3 rfl) ?_
    refine lv_aload_n hx hb dJ1_indexOf_4cfef_16 rfl (lv_at hl 1 rfl) ?_
    refine va_tlen (v := (6 : Int32)) hx hb (hE.2.1.1 0 (by decide)).2.2.2 hS rfl dJ1_indexOf_4cfef_17 ?_
    refine va_mmin hx hb (by rw [hml]; exact hl.1.symm) hown (hts (.methodLink RJ1 38 Lib.Math.min.name) (by decide +kernel)) (hts (.static Lib.Math.min.name) (by decide +kernel)) (hts (.initialized "java/lang/Math") (by decide +kernel)) (hts (.code Lib.Math.min.name Lib.Math.min.code 2 (some .int)) (by decide +kernel)) (by decide) (Nat.le_of_ble_eq_true rfl) (Nat.zero_le _) (Nat.zero_le _) dJ1_indexOf_4cfef_18 ?_
    refine lv_topi (fun v21 e21 => ?_)
    replace hf := lt_at e21 hf
    refine lv_istore_n (lv' := [(3, .int v21), (2, .int v14), (0, .ref (adV 0)), (1, .int x1)]) hx hb dJ1_indexOf_4cfef_21 rfl hl (by decide) rfl (fun ls hl => ?_)
    refine lv_iload_n hx hb dJ1_indexOf_4cfef_22 rfl (lv_at hl 1 rfl) ?_
    refine lv_iload_n hx hb dJ1_indexOf_4cfef_23 rfl (lv_at hl 0 rfl) ?_
    refine lv_icmp_lt (tgt := 29) hx hb dJ1_indexOf_4cfef_24 (by decide) (fun c24 => ?_) (fun c24 => ?_)
    · replace hf := it_t c24 hf
      refine lv_aload_n hx hb dJ1_indexOf_4cfef_29 rfl (lv_at hl 2 rfl) ?_
      refine lv_iload_n hx hb dJ1_indexOf_4cfef_30 rfl (lv_at hl 3 rfl) ?_
      refine lv_iload_n hx hb dJ1_indexOf_4cfef_31 rfl (lv_at hl 1 rfl) ?_
      refine lv_iload_n hx hb dJ1_indexOf_4cfef_32 rfl (lv_at hl 0 rfl) ?_
      obtain ⟨r33, u33, h33, hf⟩ := bd_some hf
      refine calX0 (runS ES.b (hE.n hS (fr0 hD hS hA)) (As := [.ref (adV 0), .int x1, .int v14, .int v21]) (rest := []) ⟨hx, hb, hml, hown, hts⟩ (c_J1_indexOfChar_4cfef l D cI adK adV x1 v14 v21 _ h33) gJ1_indexOf_4cfef_J1_indexOfChar_4cfef rfl rfl rfl hdJ1_indexOfChar_4cfef ⟨by decide, by decide⟩ hK hP hD rfl hl.1 rfl (Nat.le_of_ble_eq_true rfl) dJ1_indexOf_4cfef_33 ⟨Nat.zero_le _, Nat.zero_le _⟩) hD hS hA (fun H locs hP hD hS => ?_)
      have hP : va_P D vwCl ([]) H := hP
      have hD : va_D A ([]) := hD
      refine W.eq (g2 := F0 m 36 ls [.int r33]) rfl ?_
      have e := so_some hf
      subst e
      exact ri hx hb hK hr hlk hQ dJ1_indexOf_4cfef_36 hP hD hS
    · replace hf := it_f c24 hf
      refine lv_iconst (v := (-1 : Int32)) hx hb dJ1_indexOf_4cfef_27 (by decide) ?_
      have e := so_some hf
      subst e
      exact ri hx hb hK hr hlk hQ dJ1_indexOf_4cfef_28 hP hD hS
  · replace hf := it_t c4 hf
    refine lv_iconst (v := (-1 : Int32)) hx hb dJ1_indexOf_4cfef_7 (by decide) ?_
    have e := so_some hf
    subst e
    exact ri hx hb hK hr hlk hQ dJ1_indexOf_4cfef_8 hP hD hS
abbrev rmJ0_indexOf_7cf53 : Room := { frames := 2, cells := 0, slots := 0, locals := 48 }
set_option maxHeartbeats 4000000 in
set_option maxRecDepth 100000 in
theorem c_J0_indexOf_7cf53 (l : Launch) (D : va_G) (cI : ClassId) (adK adV : Nat → Nat) (x1 : Int32) (x2 : Int32) (out : Int32 × Unit) (hf : f_J0_indexOf_7cf53 x1 x2 = some out) : Cn (ES adK adV) l yJ0_indexOf_7cf53 wsJ0_indexOf_7cf53 rmJ0_indexOf_7cf53 D cI [.ref (adK 0), .int x1, .int x2] ([]) (some (.int out.1)) ([]) := by
  refine Cn.mk (cc := cJ0_indexOf_7cf53) (maxL := 3) (ret := (some .int)) (by decide) rfl (Nat.le_of_ble_eq_true rfl) ?_
  intro p e s m below meth c A ls Q hx hb hml hown hts hK hA hP hD hS hl hr hlk hnm hE hQ
  have hown : s.vm.findClass RJ0 = some m.cls := hown
  unfold f_J0_indexOf_7cf53 at hf
  have hl : lv_has ls 3 [(0, .ref (adK 0)), (1, .int x1), (2, .int x2)] := hl
  obtain ⟨H, hHe⟩ : ∃ H : Heap, H = s.heap := ⟨_, rfl⟩
  obtain ⟨locs, hle⟩ : ∃ q : List Loc, q = [] := ⟨_, rfl⟩
  have hS : va_S A s.heap H locs := by rw [hHe, hle]; exact hS
  rw [← hHe] at hP
  suffices hgo : W p l e rmJ0_indexOf_7cf53 s m ([.ref (adK 0), .int x1, .int x2] : List Value).toArray below meth c H locs 0 0 Q (F0 m 0 ls []) by rw [hHe, hle] at hgo; exact hgo
  clear hHe hle
  refine lv_aload_n hx hb dJ0_indexOf_7cf53_0 rfl (lv_at hl 0 rfl) ?_
  obtain ⟨r1, u1, h1, hf⟩ := bd_some hf
  refine calX0 (runVT hE hS (fr0 hD hS hA) (As := []) (rest := []) ⟨hx, hb, hml, hown, hts⟩ (c_J0_isLatin1_aae02 l D cI adK adV _ h1) gJ0_indexOf_7cf53_J0_isLatin1_aae02 rfl rfl rfl hdJ0_isLatin1_aae02 rfl ⟨by decide, by decide⟩ hK hP hD rfl hl.1 rfl (Nat.le_of_ble_eq_true rfl) dJ0_indexOf_7cf53_1 ⟨Nat.zero_le _, Nat.zero_le _⟩) hD hS hA (fun H locs hP hD hS => ?_)
  have hP : va_P D vwCl ([]) H := hP
  have hD : va_D A ([]) := hD
  refine W.eq (g2 := F0 m 4 ls [.int r1]) rfl ?_
  refine lv_if_eq (tgt := 23) hx hb dJ0_indexOf_7cf53_4 (by decide) (fun c4 => ?_) (fun c4 => ?_)
  · replace hf := it_t c4 hf
    refine lv_aload_n hx hb dJ0_indexOf_7cf53_23 rfl (lv_at hl 0 rfl) ?_
    refine vk_getf hx hb (hE.2.1.1 0 (by decide)).2.2.1 hS hown (hts (.fieldLink RJ0 9 "java/lang/String" "value" "[B") (by decide +kernel)) (fun _ h9 => h9) dJ0_indexOf_7cf53_24 ?_
    refine lv_iload_n hx hb dJ0_indexOf_7cf53_27 rfl (lv_at hl 1 rfl) ?_
    refine lv_iload_n hx hb dJ0_indexOf_7cf53_28 rfl (lv_at hl 2 rfl) ?_
    refine lv_aload_n hx hb dJ0_indexOf_7cf53_29 rfl (lv_at hl 0 rfl) ?_
    obtain ⟨r30, u30, h30, hf⟩ := bd_some hf
    refine calX0 (runVT hE hS (fr0 hD hS hA) (As := []) (rest := [.int x2, .int x1, .ref (adV 0)]) ⟨hx, hb, hml, hown, hts⟩ (c_J0_length_8abf5 l D cI adK adV _ h30) gJ0_indexOf_7cf53_J0_length_8abf5 rfl rfl rfl hdJ0_length_8abf5 rfl ⟨by decide, by decide⟩ hK hP hD rfl hl.1 rfl (Nat.le_of_ble_eq_true rfl) dJ0_indexOf_7cf53_30 ⟨Nat.zero_le _, Nat.zero_le _⟩) hD hS hA (fun H locs hP hD hS => ?_)
    have hP : va_P D vwCl ([]) H := hP
    have hD : va_D A ([]) := hD
    refine W.eq (g2 := F0 m 33 ls [.int r30, .int x2, .int x1, .ref (adV 0)]) rfl ?_
    exact no_some hf
  · replace hf := it_f c4 hf
    refine lv_aload_n hx hb dJ0_indexOf_7cf53_7 rfl (lv_at hl 0 rfl) ?_
    refine vk_getf hx hb (hE.2.1.1 0 (by decide)).2.2.1 hS hown (hts (.fieldLink RJ0 9 "java/lang/String" "value" "[B") (by decide +kernel)) (fun _ h9 => h9) dJ0_indexOf_7cf53_8 ?_
    refine lv_iload_n hx hb dJ0_indexOf_7cf53_11 rfl (lv_at hl 1 rfl) ?_
    refine lv_iload_n hx hb dJ0_indexOf_7cf53_12 rfl (lv_at hl 2 rfl) ?_
    refine lv_aload_n hx hb dJ0_indexOf_7cf53_13 rfl (lv_at hl 0 rfl) ?_
    obtain ⟨r14, u14, h14, hf⟩ := bd_some hf
    refine calX0 (runVT hE hS (fr0 hD hS hA) (As := []) (rest := [.int x2, .int x1, .ref (adV 0)]) ⟨hx, hb, hml, hown, hts⟩ (c_J0_length_8abf5 l D cI adK adV _ h14) gJ0_indexOf_7cf53_J0_length_8abf5 rfl rfl rfl hdJ0_length_8abf5 rfl ⟨by decide, by decide⟩ hK hP hD rfl hl.1 rfl (Nat.le_of_ble_eq_true rfl) dJ0_indexOf_7cf53_14 ⟨Nat.zero_le _, Nat.zero_le _⟩) hD hS hA (fun H locs hP hD hS => ?_)
    have hP : va_P D vwCl ([]) H := hP
    have hD : va_D A ([]) := hD
    refine W.eq (g2 := F0 m 17 ls [.int r14, .int x2, .int x1, .ref (adV 0)]) rfl ?_
    obtain ⟨r17, u17, h17, hf⟩ := bd_some hf
    refine calX0 (runS ES.b (hE.n hS (fr0 hD hS hA)) (As := [.ref (adV 0), .int x1, .int x2, .int r14]) (rest := []) ⟨hx, hb, hml, hown, hts⟩ (c_J1_indexOf_4cfef l D cI adK adV x1 x2 r14 _ h17) gJ0_indexOf_7cf53_J1_indexOf_4cfef rfl rfl rfl hdJ1_indexOf_4cfef ⟨by decide, by decide⟩ hK hP hD rfl hl.1 rfl (Nat.le_of_ble_eq_true rfl) dJ0_indexOf_7cf53_17 ⟨Nat.zero_le _, Nat.zero_le _⟩) hD hS hA (fun H locs hP hD hS => ?_)
    have hP : va_P D vwCl ([]) H := hP
    have hD : va_D A ([]) := hD
    refine W.eq (g2 := F0 m 20 ls [.int r17]) rfl ?_
    refine lv_goto (tgt := 36) hx hb dJ0_indexOf_7cf53_20 (by decide) ?_
    have e := so_some hf
    subst e
    exact ri hx hb hK hr hlk hQ dJ0_indexOf_7cf53_36 hP hD hS
abbrev rmJ0_indexOf_0f7a4 : Room := { frames := 3, cells := 0, slots := 0, locals := 70 }
set_option maxHeartbeats 4000000 in
set_option maxRecDepth 100000 in
theorem c_J0_indexOf_0f7a4 (l : Launch) (D : va_G) (cI : ClassId) (adK adV : Nat → Nat) (x1 : Int32) (out : Int32 × Unit) (hf : f_J0_indexOf_0f7a4 x1 = some out) : Cn (ES adK adV) l yJ0_indexOf_0f7a4 wsJ0_indexOf_0f7a4 rmJ0_indexOf_0f7a4 D cI [.ref (adK 0), .int x1] ([]) (some (.int out.1)) ([]) := by
  refine Cn.mk (cc := cJ0_indexOf_0f7a4) (maxL := 2) (ret := (some .int)) (by decide) rfl (Nat.le_of_ble_eq_true rfl) ?_
  intro p e s m below meth c A ls Q hx hb hml hown hts hK hA hP hD hS hl hr hlk hnm hE hQ
  have hown : s.vm.findClass RJ0 = some m.cls := hown
  unfold f_J0_indexOf_0f7a4 at hf
  have hl : lv_has ls 2 [(0, .ref (adK 0)), (1, .int x1)] := hl
  obtain ⟨H, hHe⟩ : ∃ H : Heap, H = s.heap := ⟨_, rfl⟩
  obtain ⟨locs, hle⟩ : ∃ q : List Loc, q = [] := ⟨_, rfl⟩
  have hS : va_S A s.heap H locs := by rw [hHe, hle]; exact hS
  rw [← hHe] at hP
  suffices hgo : W p l e rmJ0_indexOf_0f7a4 s m ([.ref (adK 0), .int x1] : List Value).toArray below meth c H locs 0 0 Q (F0 m 0 ls []) by rw [hHe, hle] at hgo; exact hgo
  clear hHe hle
  refine lv_aload_n hx hb dJ0_indexOf_0f7a4_0 rfl (lv_at hl 0 rfl) ?_
  refine lv_iload_n hx hb dJ0_indexOf_0f7a4_1 rfl (lv_at hl 1 rfl) ?_
  refine lv_iconst (v := (0 : Int32)) hx hb dJ0_indexOf_0f7a4_2 (by decide) ?_
  obtain ⟨r3, u3, h3, hf⟩ := bd_some hf
  refine calX0 (runVT hE hS (fr0 hD hS hA) (As := [.int x1, .int (0 : Int32)]) (rest := []) ⟨hx, hb, hml, hown, hts⟩ (c_J0_indexOf_7cf53 l D cI adK adV x1 (0 : Int32) _ h3) gJ0_indexOf_0f7a4_J0_indexOf_7cf53 rfl rfl rfl hdJ0_indexOf_7cf53 rfl ⟨by decide, by decide⟩ hK hP hD rfl hl.1 rfl (Nat.le_of_ble_eq_true rfl) dJ0_indexOf_0f7a4_3 ⟨Nat.zero_le _, Nat.zero_le _⟩) hD hS hA (fun H locs hP hD hS => ?_)
  have hP : va_P D vwCl ([]) H := hP
  have hD : va_D A ([]) := hD
  refine W.eq (g2 := F0 m 6 ls [.int r3]) rfl ?_
  have e := so_some hf
  subst e
  exact ri hx hb hK hr hlk hQ dJ0_indexOf_0f7a4_6 hP hD hS
abbrev rmX6_leastBit : Room := { frames := 0, cells := 0, slots := 0, locals := 0 }
set_option maxHeartbeats 4000000 in
set_option maxRecDepth 100000 in
theorem c_X6_leastBit (l : Launch) (D : va_G) (cI : ClassId) (x0 : Int32) (out : Int32 × Unit) (hf : f_X6_leastBit x0 = some out) : Cn E0 l yX6_leastBit wsX6_leastBit rmX6_leastBit D cI [.int x0] ([]) (some (.int out.1)) ([]) := by
  refine Cn.mk (cc := cX6_leastBit) (maxL := 2) (ret := (some .int)) (by decide) rfl (Nat.le_of_ble_eq_true rfl) ?_
  intro p e s m below meth c A ls Q hx hb hml hown hts hK hA hP hD hS hl hr hlk hnm hE hQ
  have hown : s.vm.findClass RX6 = some m.cls := hown
  have j2 : ∀ (n2 : Nat) (l0 : Int32) (l1 : Int32) (H : Heap) (locs : List Loc) (ls : Array Slot), f_X6_leastBit_2 n2 l0 l1 = some out → va_P D vwCl ([]) H → va_D A ([]) → va_S A s.heap H locs → lv_has ls 2 [(0, .int l0), (1, .int l1)] → W p l e rmX6_leastBit s m ([.int x0] : List Value).toArray below meth c H locs 0 0 Q (F0 m 2 ls []) := by
    intro n2
    induction n2 with
    | zero =>
      intro l0 l1 H locs ls hf
      exact no_some hf
    | succ n2 ih2 =>
      intro l0 l1 H locs ls hf hP hD hS hl
      replace hf : b_X6_leastBit_2 (f_X6_leastBit_2 n2) l0 l1 = some out := hf
      unfold b_X6_leastBit_2 at hf
      refine lv_iload_n hx hb dX6_leastBit_2 rfl (lv_at hl 1 rfl) ?_
      refine lv_bipush (v := (8 : Int32)) hx hb dX6_leastBit_3 (by decide) ?_
      refine lv_icmp_ge (tgt := 24) hx hb dX6_leastBit_5 (by decide) (fun c5 => ?_) (fun c5 => ?_)
      · replace hf := it_t c5 hf
        refine lv_bipush (v := (-9 : Int32)) hx hb dX6_leastBit_24 (by decide) ?_
        have e := so_some hf
        subst e
        exact ri hx hb hK hr hlk hQ dX6_leastBit_26 hP hD hS
      · replace hf := it_f c5 hf
        refine lv_iload_n hx hb dX6_leastBit_8 rfl (lv_at hl 0 rfl) ?_
        refine lv_iload_n hx hb dX6_leastBit_9 rfl (lv_at hl 1 rfl) ?_
        refine lv_ishr hx hb dX6_leastBit_10 ?_
        refine lv_iconst (v := (1 : Int32)) hx hb dX6_leastBit_11 (by decide) ?_
        refine lv_iand hx hb dX6_leastBit_12 ?_
        refine lv_if_eq (tgt := 18) hx hb dX6_leastBit_13 (by decide) (fun c13 => ?_) (fun c13 => ?_)
        · replace hf := it_t c13 hf
          refine lv_iinc (v := l1 + (1 : Int32)) (lv' := [(1, .int (l1 + (1 : Int32))), (0, .int l0)]) hx hb dX6_leastBit_18 hl (k := 1) rfl rfl (by decide) rfl (fun ls hl => ?_)
          refine lv_goto (tgt := 2) hx hb dX6_leastBit_21 (by decide) ?_
          exact ih2 l0 (l1 + (1 : Int32)) H locs ls hf hP hD hS (lv_sub hl [1, 0] rfl)
        · replace hf := it_f c13 hf
          refine lv_iload_n hx hb dX6_leastBit_16 rfl (lv_at hl 1 rfl) ?_
          have e := so_some hf
          subst e
          exact ri hx hb hK hr hlk hQ dX6_leastBit_17 hP hD hS
  unfold f_X6_leastBit at hf
  have hl : lv_has ls 2 [(0, .int x0)] := hl
  obtain ⟨H, hHe⟩ : ∃ H : Heap, H = s.heap := ⟨_, rfl⟩
  obtain ⟨locs, hle⟩ : ∃ q : List Loc, q = [] := ⟨_, rfl⟩
  have hS : va_S A s.heap H locs := by rw [hHe, hle]; exact hS
  rw [← hHe] at hP
  suffices hgo : W p l e rmX6_leastBit s m ([.int x0] : List Value).toArray below meth c H locs 0 0 Q (F0 m 0 ls []) by rw [hHe, hle] at hgo; exact hgo
  clear hHe hle
  refine lv_iconst (v := (0 : Int32)) hx hb dX6_leastBit_0 (by decide) ?_
  refine lv_istore_n (lv' := [(1, .int (0 : Int32)), (0, .int x0)]) hx hb dX6_leastBit_1 rfl hl (by decide) rfl (fun ls hl => ?_)
  exact j2 1000 x0 (0 : Int32) H locs ls hf hP hD hS (lv_sub hl [1, 0] rfl)
abbrev rmX6_power : Room := { frames := 0, cells := 0, slots := 0, locals := 0 }
set_option maxHeartbeats 4000000 in
set_option maxRecDepth 100000 in
theorem c_X6_power (l : Launch) (D : va_G) (cI : ClassId) (x0 : Int32) (x1 : Int32) (out : Int64 × Unit) (hf : f_X6_power x0 x1 = some out) : Cn E0 l yX6_power wsX6_power rmX6_power D cI [.int x0, .int x1] ([]) (some (.long out.1)) ([]) := by
  refine Cn.mk (cc := cX6_power) (maxL := 5) (ret := (some .long)) (by decide) rfl (Nat.le_of_ble_eq_true rfl) ?_
  intro p e s m below meth c A ls Q hx hb hml hown hts hK hA hP hD hS hl hr hlk hnm hE hQ
  have hown : s.vm.findClass RX6 = some m.cls := hown
  have j5 : ∀ (n5 : Nat) (l0 : Int32) (l1 : Int32) (l2 : Int64) (l4 : Int32) (H : Heap) (locs : List Loc) (ls : Array Slot), f_X6_power_5 n5 l0 l1 l2 l4 = some out → va_P D vwCl ([]) H → va_D A ([]) → va_S A s.heap H locs → lv_has ls 5 [(0, .int l0), (1, .int l1), (2, .long l2), (4, .int l4)] → W p l e rmX6_power s m ([.int x0, .int x1] : List Value).toArray below meth c H locs 0 0 Q (F0 m 5 ls []) := by
    intro n5
    induction n5 with
    | zero =>
      intro l0 l1 l2 l4 H locs ls hf
      exact no_some hf
    | succ n5 ih5 =>
      intro l0 l1 l2 l4 H locs ls hf hP hD hS hl
      replace hf : b_X6_power_5 (f_X6_power_5 n5) l0 l1 l2 l4 = some out := hf
      unfold b_X6_power_5 at hf
      refine lv_iload hx hb dX6_power_5 (lv_at hl 3 rfl) ?_
      refine lv_iload_n hx hb dX6_power_7 rfl (lv_at hl 1 rfl) ?_
      refine lv_icmp_ge (tgt := 22) hx hb dX6_power_8 (by decide) (fun c8 => ?_) (fun c8 => ?_)
      · replace hf := it_t c8 hf
        refine lv_lload_n hx hb dX6_power_22 rfl (lv_at hl 2 rfl) ?_
        have e := so_some hf
        subst e
        exact rl hx hb hK hr hlk hQ dX6_power_23 hP hD hS
      · replace hf := it_f c8 hf
        refine lv_lload_n hx hb dX6_power_11 rfl (lv_at hl 2 rfl) ?_
        refine lv_iload_n hx hb dX6_power_12 rfl (lv_at hl 0 rfl) ?_
        refine lv_i2l (v := l0.toInt64) hx hb dX6_power_13 rfl ?_
        refine lv_lmul hx hb dX6_power_14 ?_
        refine lv_lstore_n (lv' := [(2, .long (l2 * l0.toInt64)), (0, .int l0), (1, .int l1), (4, .int l4)]) hx hb dX6_power_15 rfl hl (by decide) rfl (fun ls hl => ?_)
        refine lv_iinc (v := l4 + (1 : Int32)) (lv' := [(4, .int (l4 + (1 : Int32))), (2, .long (l2 * l0.toInt64)), (0, .int l0), (1, .int l1)]) hx hb dX6_power_16 hl (k := 3) rfl rfl (by decide) rfl (fun ls hl => ?_)
        refine lv_goto (tgt := 5) hx hb dX6_power_19 (by decide) ?_
        exact ih5 l0 l1 (l2 * l0.toInt64) (l4 + (1 : Int32)) H locs ls hf hP hD hS (lv_sub hl [2, 3, 1, 0] rfl)
  unfold f_X6_power at hf
  have hl : lv_has ls 5 [(0, .int x0), (1, .int x1)] := hl
  obtain ⟨H, hHe⟩ : ∃ H : Heap, H = s.heap := ⟨_, rfl⟩
  obtain ⟨locs, hle⟩ : ∃ q : List Loc, q = [] := ⟨_, rfl⟩
  have hS : va_S A s.heap H locs := by rw [hHe, hle]; exact hS
  rw [← hHe] at hP
  suffices hgo : W p l e rmX6_power s m ([.int x0, .int x1] : List Value).toArray below meth c H locs 0 0 Q (F0 m 0 ls []) by rw [hHe, hle] at hgo; exact hgo
  clear hHe hle
  refine lv_lconst (v := (1 : Int64)) hx hb dX6_power_0 (by decide) ?_
  refine lv_lstore_n (lv' := [(2, .long (1 : Int64)), (0, .int x0), (1, .int x1)]) hx hb dX6_power_1 rfl hl (by decide) rfl (fun ls hl => ?_)
  refine lv_iconst (v := (0 : Int32)) hx hb dX6_power_2 (by decide) ?_
  refine lv_istore (lv' := [(4, .int (0 : Int32)), (2, .long (1 : Int64)), (0, .int x0), (1, .int x1)]) hx hb dX6_power_3 hl (by decide) rfl (fun ls hl => ?_)
  exact j5 1000 x0 x1 (1 : Int64) (0 : Int32) H locs ls hf hP hD hS (lv_sub hl [2, 3, 1, 0] rfl)
abbrev rmX6_range : Room := { frames := 0, cells := 0, slots := 0, locals := 0 }
set_option maxHeartbeats 4000000 in
set_option maxRecDepth 100000 in
theorem c_X6_range (l : Launch) (D : va_G) (cI : ClassId) (x0 : Int32) (x1 : Int32) (x2 : Int32) (out : Int32 × Unit) (hf : f_X6_range x0 x1 x2 = some out) : Cn E0 l yX6_range wsX6_range rmX6_range D cI [.int x0, .int x1, .int x2] ([]) (some (.int out.1)) ([]) := by
  refine Cn.mk (cc := cX6_range) (maxL := 3) (ret := (some .int)) (by decide) rfl (Nat.le_of_ble_eq_true rfl) ?_
  intro p e s m below meth c A ls Q hx hb hml hown hts hK hA hP hD hS hl hr hlk hnm hE hQ
  have hown : s.vm.findClass RX6 = some m.cls := hown
  unfold f_X6_range at hf
  have hl : lv_has ls 3 [(0, .int x0), (1, .int x1), (2, .int x2)] := hl
  obtain ⟨H, hHe⟩ : ∃ H : Heap, H = s.heap := ⟨_, rfl⟩
  obtain ⟨locs, hle⟩ : ∃ q : List Loc, q = [] := ⟨_, rfl⟩
  have hS : va_S A s.heap H locs := by rw [hHe, hle]; exact hS
  rw [← hHe] at hP
  suffices hgo : W p l e rmX6_range s m ([.int x0, .int x1, .int x2] : List Value).toArray below meth c H locs 0 0 Q (F0 m 0 ls []) by rw [hHe, hle] at hgo; exact hgo
  clear hHe hle
  refine lv_iload_n hx hb dX6_range_0 rfl (lv_at hl 0 rfl) ?_
  refine lv_iload_n hx hb dX6_range_1 rfl (lv_at hl 1 rfl) ?_
  refine lv_icmp_ge (tgt := 8) hx hb dX6_range_2 (by decide) (fun c2 => ?_) (fun c2 => ?_)
  · replace hf := it_t c2 hf
    refine lv_iload_n hx hb dX6_range_8 rfl (lv_at hl 0 rfl) ?_
    refine lv_iload_n hx hb dX6_range_9 rfl (lv_at hl 2 rfl) ?_
    refine lv_icmp_le (tgt := 18) hx hb dX6_range_10 (by decide) (fun c10 => ?_) (fun c10 => ?_)
    · replace hf := it_t c10 hf
      refine lv_iconst (v := (0 : Int32)) hx hb dX6_range_18 (by decide) ?_
      have e := so_some hf
      subst e
      exact ri hx hb hK hr hlk hQ dX6_range_19 hP hD hS
    · replace hf := it_f c10 hf
      refine lv_bipush (v := (-6 : Int32)) hx hb dX6_range_13 (by decide) ?_
      refine lv_goto (tgt := 19) hx hb dX6_range_15 (by decide) ?_
      have e := so_some hf
      subst e
      exact ri hx hb hK hr hlk hQ dX6_range_19 hP hD hS
  · replace hf := it_f c2 hf
    refine lv_bipush (v := (-4 : Int32)) hx hb dX6_range_5 (by decide) ?_
    have e := so_some hf
    subst e
    exact ri hx hb hK hr hlk hQ dX6_range_7 hP hD hS
abbrev rmX6_first : Room := { frames := 0, cells := 0, slots := 0, locals := 0 }
set_option maxHeartbeats 4000000 in
set_option maxRecDepth 100000 in
theorem c_X6_first (l : Launch) (D : va_G) (cI : ClassId) (x0 : Int32) (x1 : Int32) (out : Int32 × Unit) (hf : f_X6_first x0 x1 = some out) : Cn E0 l yX6_first wsX6_first rmX6_first D cI [.int x0, .int x1] ([]) (some (.int out.1)) ([]) := by
  refine Cn.mk (cc := cX6_first) (maxL := 2) (ret := (some .int)) (by decide) rfl (Nat.le_of_ble_eq_true rfl) ?_
  intro p e s m below meth c A ls Q hx hb hml hown hts hK hA hP hD hS hl hr hlk hnm hE hQ
  have hown : s.vm.findClass RX6 = some m.cls := hown
  unfold f_X6_first at hf
  have hl : lv_has ls 2 [(0, .int x0), (1, .int x1)] := hl
  obtain ⟨H, hHe⟩ : ∃ H : Heap, H = s.heap := ⟨_, rfl⟩
  obtain ⟨locs, hle⟩ : ∃ q : List Loc, q = [] := ⟨_, rfl⟩
  have hS : va_S A s.heap H locs := by rw [hHe, hle]; exact hS
  rw [← hHe] at hP
  suffices hgo : W p l e rmX6_first s m ([.int x0, .int x1] : List Value).toArray below meth c H locs 0 0 Q (F0 m 0 ls []) by rw [hHe, hle] at hgo; exact hgo
  clear hHe hle
  refine lv_iload_n hx hb dX6_first_0 rfl (lv_at hl 0 rfl) ?_
  refine lv_if_eq (tgt := 8) hx hb dX6_first_1 (by decide) (fun c1 => ?_) (fun c1 => ?_)
  · replace hf := it_t c1 hf
    refine lv_iload_n hx hb dX6_first_8 rfl (lv_at hl 1 rfl) ?_
    have e := so_some hf
    subst e
    exact ri hx hb hK hr hlk hQ dX6_first_9 hP hD hS
  · replace hf := it_f c1 hf
    refine lv_iload_n hx hb dX6_first_4 rfl (lv_at hl 0 rfl) ?_
    refine lv_goto (tgt := 9) hx hb dX6_first_5 (by decide) ?_
    have e := so_some hf
    subst e
    exact ri hx hb hK hr hlk hQ dX6_first_9 hP hD hS
abbrev rmX6_choice : Room := { frames := 0, cells := 0, slots := 0, locals := 0 }
set_option maxHeartbeats 4000000 in
set_option maxRecDepth 100000 in
theorem c_X6_choice (l : Launch) (D : va_G) (cI : ClassId) (x0 : Int32) (x1 : Int32) (out : Int32 × Unit) (hf : f_X6_choice x0 x1 = some out) : Cn E0 l yX6_choice wsX6_choice rmX6_choice D cI [.int x0, .int x1] ([]) (some (.int out.1)) ([]) := by
  refine Cn.mk (cc := cX6_choice) (maxL := 2) (ret := (some .int)) (by decide) rfl (Nat.le_of_ble_eq_true rfl) ?_
  intro p e s m below meth c A ls Q hx hb hml hown hts hK hA hP hD hS hl hr hlk hnm hE hQ
  have hown : s.vm.findClass RX6 = some m.cls := hown
  unfold f_X6_choice at hf
  have hl : lv_has ls 2 [(0, .int x0), (1, .int x1)] := hl
  obtain ⟨H, hHe⟩ : ∃ H : Heap, H = s.heap := ⟨_, rfl⟩
  obtain ⟨locs, hle⟩ : ∃ q : List Loc, q = [] := ⟨_, rfl⟩
  have hS : va_S A s.heap H locs := by rw [hHe, hle]; exact hS
  rw [← hHe] at hP
  suffices hgo : W p l e rmX6_choice s m ([.int x0, .int x1] : List Value).toArray below meth c H locs 0 0 Q (F0 m 0 ls []) by rw [hHe, hle] at hgo; exact hgo
  clear hHe hle
  refine lv_iload_n hx hb dX6_choice_0 rfl (lv_at hl 0 rfl) ?_
  refine lv_if_lt (tgt := 13) hx hb dX6_choice_1 (by decide) (fun c1 => ?_) (fun c1 => ?_)
  · replace hf := it_t c1 hf
    refine lv_bipush (v := (-2 : Int32)) hx hb dX6_choice_13 (by decide) ?_
    have e := so_some hf
    subst e
    exact ri hx hb hK hr hlk hQ dX6_choice_15 hP hD hS
  · replace hf := it_f c1 hf
    refine lv_iload_n hx hb dX6_choice_4 rfl (lv_at hl 0 rfl) ?_
    refine lv_iload_n hx hb dX6_choice_5 rfl (lv_at hl 1 rfl) ?_
    refine lv_icmp_ge (tgt := 13) hx hb dX6_choice_6 (by decide) (fun c6 => ?_) (fun c6 => ?_)
    · replace hf := it_t c6 hf
      refine lv_bipush (v := (-2 : Int32)) hx hb dX6_choice_13 (by decide) ?_
      have e := so_some hf
      subst e
      exact ri hx hb hK hr hlk hQ dX6_choice_15 hP hD hS
    · replace hf := it_f c6 hf
      refine lv_iconst (v := (0 : Int32)) hx hb dX6_choice_9 (by decide) ?_
      refine lv_goto (tgt := 15) hx hb dX6_choice_10 (by decide) ?_
      have e := so_some hf
      subst e
      exact ri hx hb hK hr hlk hQ dX6_choice_15 hP hD hS
abbrev rmX6_bothRanges : Room := { frames := 0, cells := 0, slots := 0, locals := 0 }
set_option maxHeartbeats 4000000 in
set_option maxRecDepth 100000 in
theorem c_X6_bothRanges (l : Launch) (D : va_G) (cI : ClassId) (x0 : Int32) (x1 : Int32) (x2 : Int32) (x3 : Int32) (out : Int32 × Unit) (hf : f_X6_bothRanges x0 x1 x2 x3 = some out) : Cn E0 l yX6_bothRanges wsX6_bothRanges rmX6_bothRanges D cI [.int x0, .int x1, .int x2, .int x3] ([]) (some (.int out.1)) ([]) := by
  refine Cn.mk (cc := cX6_bothRanges) (maxL := 4) (ret := (some .int)) (by decide) rfl (Nat.le_of_ble_eq_true rfl) ?_
  intro p e s m below meth c A ls Q hx hb hml hown hts hK hA hP hD hS hl hr hlk hnm hE hQ
  have hown : s.vm.findClass RX6 = some m.cls := hown
  unfold f_X6_bothRanges at hf
  have hl : lv_has ls 4 [(0, .int x0), (1, .int x1), (2, .int x2), (3, .int x3)] := hl
  obtain ⟨H, hHe⟩ : ∃ H : Heap, H = s.heap := ⟨_, rfl⟩
  obtain ⟨locs, hle⟩ : ∃ q : List Loc, q = [] := ⟨_, rfl⟩
  have hS : va_S A s.heap H locs := by rw [hHe, hle]; exact hS
  rw [← hHe] at hP
  suffices hgo : W p l e rmX6_bothRanges s m ([.int x0, .int x1, .int x2, .int x3] : List Value).toArray below meth c H locs 0 0 Q (F0 m 0 ls []) by rw [hHe, hle] at hgo; exact hgo
  clear hHe hle
  refine lv_iload_n hx hb dX6_bothRanges_0 rfl (lv_at hl 0 rfl) ?_
  refine lv_iconst (v := (1 : Int32)) hx hb dX6_bothRanges_1 (by decide) ?_
  refine lv_icmp_lt (tgt := 10) hx hb dX6_bothRanges_2 (by decide) (fun c2 => ?_) (fun c2 => ?_)
  · replace hf := it_t c2 hf
    refine lv_bipush (v := (-4 : Int32)) hx hb dX6_bothRanges_10 (by decide) ?_
    have e := so_some hf
    subst e
    exact ri hx hb hK hr hlk hQ dX6_bothRanges_12 hP hD hS
  · replace hf := it_f c2 hf
    refine lv_iload_n hx hb dX6_bothRanges_5 rfl (lv_at hl 2 rfl) ?_
    refine lv_iconst (v := (1 : Int32)) hx hb dX6_bothRanges_6 (by decide) ?_
    refine lv_icmp_ge (tgt := 13) hx hb dX6_bothRanges_7 (by decide) (fun c7 => ?_) (fun c7 => ?_)
    · replace hf := it_t c7 hf
      refine lv_iload_n hx hb dX6_bothRanges_13 rfl (lv_at hl 0 rfl) ?_
      refine lv_iload_n hx hb dX6_bothRanges_14 rfl (lv_at hl 1 rfl) ?_
      refine lv_icmp_gt (tgt := 23) hx hb dX6_bothRanges_15 (by decide) (fun c15 => ?_) (fun c15 => ?_)
      · replace hf := it_t c15 hf
        refine lv_bipush (v := (-6 : Int32)) hx hb dX6_bothRanges_23 (by decide) ?_
        refine lv_goto (tgt := 29) hx hb dX6_bothRanges_25 (by decide) ?_
        have e := so_some hf
        subst e
        exact ri hx hb hK hr hlk hQ dX6_bothRanges_29 hP hD hS
      · replace hf := it_f c15 hf
        refine lv_iload_n hx hb dX6_bothRanges_18 rfl (lv_at hl 2 rfl) ?_
        refine lv_iload_n hx hb dX6_bothRanges_19 rfl (lv_at hl 3 rfl) ?_
        refine lv_icmp_le (tgt := 28) hx hb dX6_bothRanges_20 (by decide) (fun c20 => ?_) (fun c20 => ?_)
        · replace hf := it_t c20 hf
          refine lv_iconst (v := (0 : Int32)) hx hb dX6_bothRanges_28 (by decide) ?_
          have e := so_some hf
          subst e
          exact ri hx hb hK hr hlk hQ dX6_bothRanges_29 hP hD hS
        · replace hf := it_f c20 hf
          refine lv_bipush (v := (-6 : Int32)) hx hb dX6_bothRanges_23 (by decide) ?_
          refine lv_goto (tgt := 29) hx hb dX6_bothRanges_25 (by decide) ?_
          have e := so_some hf
          subst e
          exact ri hx hb hK hr hlk hQ dX6_bothRanges_29 hP hD hS
    · replace hf := it_f c7 hf
      refine lv_bipush (v := (-4 : Int32)) hx hb dX6_bothRanges_10 (by decide) ?_
      have e := so_some hf
      subst e
      exact ri hx hb hK hr hlk hQ dX6_bothRanges_12 hP hD hS
abbrev rmX6_commonDivisor : Room := { frames := 0, cells := 0, slots := 0, locals := 0 }
set_option maxHeartbeats 4000000 in
set_option maxRecDepth 100000 in
theorem c_X6_commonDivisor (l : Launch) (D : va_G) (cI : ClassId) (x0 : Int64) (x2 : Int64) (out : Int64 × Unit) (hf : f_X6_commonDivisor x0 x2 = some out) : Cn E0 l yX6_commonDivisor wsX6_commonDivisor rmX6_commonDivisor D cI [.long x0, .long x2] ([]) (some (.long out.1)) ([]) := by
  refine Cn.mk (cc := cX6_commonDivisor) (maxL := 11) (ret := (some .long)) (by decide) rfl (Nat.le_of_ble_eq_true rfl) ?_
  intro p e s m below meth c A ls Q hx hb hml hown hts hK hA hP hD hS hl hr hlk hnm hE hQ
  have hown : s.vm.findClass RX6 = some m.cls := hown
  have j9 : ∀ (n9 : Nat) (l4 : Int64) (l6 : Int64) (l8 : Int32) (H : Heap) (locs : List Loc) (ls : Array Slot), f_X6_commonDivisor_9 n9 l4 l6 l8 = some out → va_P D vwCl ([]) H → va_D A ([]) → va_S A s.heap H locs → lv_has ls 11 [(4, .long l4), (6, .long l6), (8, .int l8)] → W p l e rmX6_commonDivisor s m ([.long x0, .long x2] : List Value).toArray below meth c H locs 0 0 Q (F0 m 9 ls []) := by
    intro n9
    induction n9 with
    | zero =>
      intro l4 l6 l8 H locs ls hf
      exact no_some hf
    | succ n9 ih9 =>
      intro l4 l6 l8 H locs ls hf hP hD hS hl
      replace hf : b_X6_commonDivisor_9 (f_X6_commonDivisor_9 n9) l4 l6 l8 = some out := hf
      unfold b_X6_commonDivisor_9 at hf
      refine lv_iload hx hb dX6_commonDivisor_9 (lv_at hl 2 rfl) ?_
      refine lv_bipush (v := (100 : Int32)) hx hb dX6_commonDivisor_11 (by decide) ?_
      refine lv_icmp_ge (tgt := 44) hx hb dX6_commonDivisor_13 (by decide) (fun c13 => ?_) (fun c13 => ?_)
      · replace hf := it_t c13 hf
        refine lv_lload hx hb dX6_commonDivisor_44 (lv_at hl 0 rfl) ?_
        have e := so_some hf
        subst e
        exact rl hx hb hK hr hlk hQ dX6_commonDivisor_46 hP hD hS
      · replace hf := it_f c13 hf
        refine lv_lload hx hb dX6_commonDivisor_16 (lv_at hl 1 rfl) ?_
        refine lv_lconst (v := (0 : Int64)) hx hb dX6_commonDivisor_18 (by decide) ?_
        refine W.lcmp hx hb dX6_commonDivisor_19 ?_
        refine lv_if_eq (tgt := 44) hx hb dX6_commonDivisor_20 (by decide) (fun c20 => ?_) (fun c20 => ?_)
        · replace hf := it_t c20 hf
          refine lv_lload hx hb dX6_commonDivisor_44 (lv_at hl 0 rfl) ?_
          have e := so_some hf
          subst e
          exact rl hx hb hK hr hlk hQ dX6_commonDivisor_46 hP hD hS
        · replace hf := it_f c20 hf
          refine lv_lload hx hb dX6_commonDivisor_23 (lv_at hl 0 rfl) ?_
          refine lv_lload hx hb dX6_commonDivisor_25 (lv_at hl 1 rfl) ?_
          obtain ⟨z27, hf⟩ := nzl_some hf
          refine lv_lrem hx hb dX6_commonDivisor_27 z27 ?_
          refine lv_lstore (lv' := [(9, .long (l4 - l4 / l6 * l6)), (4, .long l4), (6, .long l6), (8, .int l8)]) hx hb dX6_commonDivisor_28 hl (by decide) rfl (fun ls hl => ?_)
          refine lv_lload hx hb dX6_commonDivisor_30 (lv_at hl 2 rfl) ?_
          refine lv_lstore (lv' := [(4, .long l6), (9, .long (l4 - l4 / l6 * l6)), (6, .long l6), (8, .int l8)]) hx hb dX6_commonDivisor_32 hl (by decide) rfl (fun ls hl => ?_)
          refine lv_lload hx hb dX6_commonDivisor_34 (lv_at hl 1 rfl) ?_
          refine lv_lstore (lv' := [(6, .long (l4 - l4 / l6 * l6)), (4, .long l6), (9, .long (l4 - l4 / l6 * l6)), (8, .int l8)]) hx hb dX6_commonDivisor_36 hl (by decide) rfl (fun ls hl => ?_)
          refine lv_iinc (v := l8 + (1 : Int32)) (lv' := [(8, .int (l8 + (1 : Int32))), (6, .long (l4 - l4 / l6 * l6)), (4, .long l6), (9, .long (l4 - l4 / l6 * l6))]) hx hb dX6_commonDivisor_38 hl (k := 3) rfl rfl (by decide) rfl (fun ls hl => ?_)
          refine lv_goto (tgt := 9) hx hb dX6_commonDivisor_41 (by decide) ?_
          exact ih9 l6 (l4 - l4 / l6 * l6) (l8 + (1 : Int32)) H locs ls hf hP hD hS (lv_sub hl [2, 1, 0] rfl)
  unfold f_X6_commonDivisor at hf
  have hl : lv_has ls 11 [(0, .long x0), (2, .long x2)] := hl
  obtain ⟨H, hHe⟩ : ∃ H : Heap, H = s.heap := ⟨_, rfl⟩
  obtain ⟨locs, hle⟩ : ∃ q : List Loc, q = [] := ⟨_, rfl⟩
  have hS : va_S A s.heap H locs := by rw [hHe, hle]; exact hS
  rw [← hHe] at hP
  suffices hgo : W p l e rmX6_commonDivisor s m ([.long x0, .long x2] : List Value).toArray below meth c H locs 0 0 Q (F0 m 0 ls []) by rw [hHe, hle] at hgo; exact hgo
  clear hHe hle
  refine lv_lload_n hx hb dX6_commonDivisor_0 rfl (lv_at hl 0 rfl) ?_
  refine lv_lstore (lv' := [(4, .long x0), (0, .long x0), (2, .long x2)]) hx hb dX6_commonDivisor_1 hl (by decide) rfl (fun ls hl => ?_)
  refine lv_lload_n hx hb dX6_commonDivisor_3 rfl (lv_at hl 2 rfl) ?_
  refine lv_lstore (lv' := [(6, .long x2), (4, .long x0), (0, .long x0), (2, .long x2)]) hx hb dX6_commonDivisor_4 hl (by decide) rfl (fun ls hl => ?_)
  refine lv_iconst (v := (0 : Int32)) hx hb dX6_commonDivisor_6 (by decide) ?_
  refine lv_istore (lv' := [(8, .int (0 : Int32)), (6, .long x2), (4, .long x0), (0, .long x0), (2, .long x2)]) hx hb dX6_commonDivisor_7 hl (by decide) rfl (fun ls hl => ?_)
  exact j9 1000 x0 x2 (0 : Int32) H locs ls hf hP hD hS (lv_sub hl [2, 1, 0] rfl)
abbrev rmX6_partOf : Room := { frames := 1, cells := 0, slots := 0, locals := 30 }
set_option maxHeartbeats 4000000 in
set_option maxRecDepth 100000 in
theorem c_X6_partOf (l : Launch) (D : va_G) (cI : ClassId) (x0 : Int64) (x2 : Int64) (x4 : Int32) (out : Int64 × Unit) (hf : f_X6_partOf x0 x2 x4 = some out) : Cn E0 l yX6_partOf wsX6_partOf rmX6_partOf D cI [.long x0, .long x2, .int x4] ([]) (some (.long out.1)) ([]) := by
  refine Cn.mk (cc := cX6_partOf) (maxL := 7) (ret := (some .long)) (by decide) rfl (Nat.le_of_ble_eq_true rfl) ?_
  intro p e s m below meth c A ls Q hx hb hml hown hts hK hA hP hD hS hl hr hlk hnm hE hQ
  have hown : s.vm.findClass RX6 = some m.cls := hown
  unfold f_X6_partOf at hf
  have hl : lv_has ls 7 [(0, .long x0), (2, .long x2), (4, .int x4)] := hl
  obtain ⟨H, hHe⟩ : ∃ H : Heap, H = s.heap := ⟨_, rfl⟩
  obtain ⟨locs, hle⟩ : ∃ q : List Loc, q = [] := ⟨_, rfl⟩
  have hS : va_S A s.heap H locs := by rw [hHe, hle]; exact hS
  rw [← hHe] at hP
  suffices hgo : W p l e rmX6_partOf s m ([.long x0, .long x2, .int x4] : List Value).toArray below meth c H locs 0 0 Q (F0 m 0 ls []) by rw [hHe, hle] at hgo; exact hgo
  clear hHe hle
  refine lv_lload_n hx hb dX6_partOf_0 rfl (lv_at hl 0 rfl) ?_
  refine lv_lload_n hx hb dX6_partOf_1 rfl (lv_at hl 1 rfl) ?_
  obtain ⟨r2, u2, h2, hf⟩ := bd_some hf
  refine calX0 (runS E0.b E0.n (As := [.long x0, .long x2]) (rest := []) ⟨hx, hb, hml, hown, hts⟩ (c_X6_commonDivisor l D cI x0 x2 _ h2) gX6_partOf_X6_commonDivisor rfl rfl rfl hdX6_commonDivisor ⟨by decide, by decide⟩ hK hP hD rfl hl.1 rfl (Nat.le_of_ble_eq_true rfl) dX6_partOf_2 ⟨Nat.zero_le _, Nat.zero_le _⟩) hD hS hA (fun H locs hP hD hS => ?_)
  have hP : va_P D vwCl ([]) H := hP
  have hD : va_D A ([]) := hD
  refine W.eq (g2 := F0 m 5 ls [.long r2]) rfl ?_
  refine lv_lstore (lv' := [(5, .long r2), (0, .long x0), (2, .long x2), (4, .int x4)]) hx hb dX6_partOf_5 hl (by decide) rfl (fun ls hl => ?_)
  refine lv_lload hx hb dX6_partOf_7 (lv_at hl 0 rfl) ?_
  refine lv_lconst (v := (1 : Int64)) hx hb dX6_partOf_9 (by decide) ?_
  refine W.lcmp hx hb dX6_partOf_10 ?_
  refine lv_if_ge (tgt := 16) hx hb dX6_partOf_11 (by decide) (fun c11 => ?_) (fun c11 => ?_)
  · replace hf := it_t c11 hf
    refine lv_iload hx hb dX6_partOf_16 (lv_at hl 3 rfl) ?_
    refine lv_if_ne (tgt := 28) hx hb dX6_partOf_18 (by decide) (fun c18 => ?_) (fun c18 => ?_)
    · replace hf := it_f c18 hf
      refine lv_lload_n hx hb dX6_partOf_28 rfl (lv_at hl 2 rfl) ?_
      refine lv_lload hx hb dX6_partOf_29 (lv_at hl 0 rfl) ?_
      obtain ⟨z31, hf⟩ := nzl_some hf
      refine lv_ldiv hx hb dX6_partOf_31 z31 ?_
      have e := so_some hf
      subst e
      exact rl hx hb hK hr hlk hQ dX6_partOf_32 hP hD hS
    · replace hf := it_t c18 hf
      refine lv_lload_n hx hb dX6_partOf_21 rfl (lv_at hl 1 rfl) ?_
      refine lv_lload hx hb dX6_partOf_22 (lv_at hl 0 rfl) ?_
      obtain ⟨z24, hf⟩ := nzl_some hf
      refine lv_ldiv hx hb dX6_partOf_24 z24 ?_
      refine lv_goto (tgt := 32) hx hb dX6_partOf_25 (by decide) ?_
      have e := so_some hf
      subst e
      exact rl hx hb hK hr hlk hQ dX6_partOf_32 hP hD hS
  · replace hf := it_f c11 hf
    refine lv_lconst (v := (0 : Int64)) hx hb dX6_partOf_14 (by decide) ?_
    have e := so_some hf
    subst e
    exact rl hx hb hK hr hlk hQ dX6_partOf_15 hP hD hS
abbrev rmX0_kindBy : Room := { frames := 4, cells := 0, slots := 0, locals := 91 }
set_option maxHeartbeats 4000000 in
set_option maxRecDepth 100000 in
theorem c_X0_kindBy (l : Launch) (D : va_G) (cI : ClassId) (x0 : Int32) (out : Int32 × Unit) (hf : f_X0_kindBy x0 = some out) : Cn EX l yX0_kindBy wsX0_kindBy rmX0_kindBy D cI [.int x0] ([]) (some (.int out.1)) ([]) := by
  refine Cn.mk (cc := cX0_kindBy) (maxL := 1) (ret := (some .int)) (by decide) rfl (Nat.le_of_ble_eq_true rfl) ?_
  intro p e s m below meth c A ls Q hx hb hml hown hts hK hA hP hD hS hl hr hlk hnm hE hQ
  have hown : s.vm.findClass RX0 = some m.cls := hown
  obtain ⟨-, -, adK, adV, hE⟩ := hE
  unfold f_X0_kindBy at hf
  have hl : lv_has ls 1 [(0, .int x0)] := hl
  obtain ⟨H, hHe⟩ : ∃ H : Heap, H = s.heap := ⟨_, rfl⟩
  obtain ⟨locs, hle⟩ : ∃ q : List Loc, q = [] := ⟨_, rfl⟩
  have hS : va_S A s.heap H locs := by rw [hHe, hle]; exact hS
  rw [← hHe] at hP
  suffices hgo : W p l e rmX0_kindBy s m ([.int x0] : List Value).toArray below meth c H locs 0 0 Q (F0 m 0 ls []) by rw [hHe, hle] at hgo; exact hgo
  clear hHe hle
  refine va_ldcS hx hb hown hE.1 dX0_kindBy_0 ?_
  refine lv_iload_n hx hb dX0_kindBy_2 rfl (lv_at hl 0 rfl) ?_
  refine lv_i2c (v := (x0.toUInt32 % 65536).toInt32) hx hb dX0_kindBy_3 rfl ?_
  obtain ⟨r4, u4, h4, hf⟩ := bd_some hf
  refine calX0 (runVT hE hS (fr0 hD hS hA) (As := [.int ((x0.toUInt32 % 65536).toInt32)]) (rest := []) ⟨hx, hb, hml, hown, hts⟩ (c_J0_indexOf_0f7a4 l D cI adK adV ((x0.toUInt32 % 65536).toInt32) _ h4) gX0_kindBy_J0_indexOf_0f7a4 rfl rfl rfl hdJ0_indexOf_0f7a4 rfl ⟨by decide, by decide⟩ hK hP hD rfl hl.1 rfl (Nat.le_of_ble_eq_true rfl) dX0_kindBy_4 ⟨Nat.zero_le _, Nat.zero_le _⟩) hD hS hA (fun H locs hP hD hS => ?_)
  have hP : va_P D vwCl ([]) H := hP
  have hD : va_D A ([]) := hD
  refine W.eq (g2 := F0 m 7 ls [.int r4]) rfl ?_
  have e := so_some hf
  subst e
  exact ri hx hb hK hr hlk hQ dX0_kindBy_7 hP hD hS
