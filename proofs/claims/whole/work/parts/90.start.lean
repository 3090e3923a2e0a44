/-! the law's walk from its entry -/
theorem inv0 : InvE Z0 Z4 Z4 Z0 Z0 Z7 := by
  refine ⟨fun k _ => if k = 9 then 8 else 0, ⟨rfl, rfl, rfl, rfl, fun b hb => absurd hb (Nat.not_lt_zero b), fun p hp => absurd hp (Nat.not_lt_zero p), ?_⟩, ⟨rfl, rfl, rfl, rfl, fun b hb => absurd hb (Nat.not_lt_zero b), fun p hp => absurd hp (Nat.not_lt_zero p), ?_⟩, by decide, ⟨rfl, fun q h => by cases h⟩, fun _ _ => rfl, ⟨0, fun _ => 0, ⟨rfl, by decide, fun d hd => absurd hd (Nat.not_lt_zero d)⟩, ⟨rfl, by decide, fun d hd => absurd hd (Nat.not_lt_zero d)⟩⟩, ⟨fun _ => 0, 0, ⟨rfl, by decide, fun d hd => absurd hd (Nat.not_lt_zero d)⟩, ⟨rfl, by decide, fun d hd => absurd hd (Nat.not_lt_zero d)⟩⟩, Or.inl ⟨rfl, rfl⟩⟩
  · exact ⟨by decide, by decide, by decide, by decide, fun b hb => absurd hb (Nat.not_lt_zero b), fun p hp => absurd hp (Nat.not_lt_zero p)⟩
  · exact ⟨by decide, by decide, by decide, by decide, fun b hb => absurd hb (Nat.not_lt_zero b), fun p hp => absurd hp (Nat.not_lt_zero p)⟩
theorem ex_start {s : State} {b : Nat} (hts : ∀ w ∈ lw_tbl, w.before #[Value.ref b] s = true) (hgv : (Jvm.Cond.and given_1 narrow_1).before #[Value.ref b] s = true) : EX (fun q : Nat => s.heap.size ≤ q) s := by
  have hs := flat_of_before _ hgv
  have hAn : ∀ a : Nat, a < s.heap.size → ¬ (fun q : Nat => s.heap.size ≤ q) a := fun a h z => Nat.lt_irrefl _ (Nat.lt_of_lt_of_le h z)
  obtain ⟨adK, adV, hvS, hvR⟩ := vk_Sof (args := #[Value.ref b]) (s := s) (N := 1) (tm := fun _ => Term.string RX0 45) (len := [6]) (byt := [[112, 99, 119, 100, 108, 111]]) (A := fun q : Nat => s.heap.size ≤ q)
    (fun i hi => by
      have : i = 0 := by omega
      subst this
      decide)
    (fun i _ => hs _ (by decide +kernel)) (fun i _ => hs _ (by decide +kernel)) (fun i _ => hs _ (by decide +kernel))
    (fun i hi => by
      have : i = 0 := by omega
      subst this
      exact hs _ (by decide +kernel))
    (fun i hi j hj => by
      have : i = 0 := by omega
      subst this
      have hj6 : j < 6 := hj
      rcases (show j = 0 ∨ j = 1 ∨ j = 2 ∨ j = 3 ∨ j = 4 ∨ j = 5 by omega) with rfl | rfl | rfl | rfl | rfl | rfl
      · exact hs _ (by decide +kernel)
      · exact hs _ (by decide +kernel)
      · exact hs _ (by decide +kernel)
      · exact hs _ (by decide +kernel)
      · exact hs _ (by decide +kernel)
      · exact hs _ (by decide +kernel))
    (fun i j hi hj h => absurd (by omega) h) hAn
  have h1 : (Cond.eq (.static "java/lang/String" "COMPACT_STRINGS" "Z") (.int 1)).before #[Value.ref b] s = true := hs _ (by decide +kernel)
  exact ⟨va_Nw.of rfl (hts (.methodLinkNest RX1 34 yX6_leastBit RX6) (by decide +kernel)), va_Nw.of rfl (hts (.methodLinkNest RX1 62 yX6_power RX6) (by decide +kernel)), adK, adV, vk_R.of (hts (.stringRef RX0 45 "pcwdlo") (by decide +kernel)) (hvR 0 (by decide)), hvS, va_Zof (hts (.laysStatic "java/lang/String" "COMPACT_STRINGS" "Z") (by decide +kernel)) (hts (.initialized "java/lang/String") (by decide +kernel)) (va_eqt h1) hAn⟩
set_option maxHeartbeats 4000000 in
theorem k_start {s : State} {b : Nat} (hts : ∀ w ∈ lw_tbl, w.before #[Value.ref b] s = true) : ∃ (D : va_G) (cI : ClassId), va_K D vwCl [(cI, .int)] s := by
  obtain ⟨c0, i0, k0⟩ := u_known (C := RX0) (T := TX0) (N := 3) (n := 3) hts inX0 (hts (.instantiable RX0 3) (by decide +kernel))
  obtain ⟨c1, i1, k1⟩ := u_known (C := RX1) (T := TX1) (N := 1) (n := 1) hts inX1 (hts (.instantiable RX1 1) (by decide +kernel))
  obtain ⟨c2, i2, k2⟩ := u_known (C := RX2) (T := TX2) (N := 2) (n := 2) hts inX2 (hts (.instantiable RX2 2) (by decide +kernel))
  obtain ⟨c3, i3, k3⟩ := u_known (C := RX3) (T := TX3) (N := 2) (n := 2) hts inX3 (hts (.instantiable RX3 2) (by decide +kernel))
  obtain ⟨c4, i4, k4⟩ := u_known (C := RX4) (T := TX4) (N := 10) (n := 10) hts inX4 (hts (.instantiable RX4 10) (by decide +kernel))
  obtain ⟨c5, i5, k5⟩ := u_known (C := RX5) (T := TX5) (N := 1) (n := 1) hts inX5 (hts (.instantiable RX5 1) (by decide +kernel))
  obtain ⟨c6, i6, k6⟩ := u_known (C := RX6) (T := TX6) (N := 9) (n := 9) hts inX6 (hts (.instantiable RX6 9) (by decide +kernel))
  obtain ⟨c7, i7, k7⟩ := u_known (C := RX7) (T := TX7) (N := 26) (n := 26) hts inX7 (hts (.instantiable RX7 26) (by decide +kernel))
  obtain ⟨cI, kA, comp, h1, h2, h3⟩ := Cond.arrayClass_spec (hts (.arrayClass .int) (by decide +kernel))
  refine ⟨(fun k => if k = 0 then c0 else if k = 1 then c1 else if k = 2 then c2 else if k = 3 then c3 else if k = 4 then c4 else if k = 5 then c5 else if k = 6 then c6 else c7, fun k => if k = 0 then i0 else if k = 1 then i1 else if k = 2 then i2 else if k = 3 then i3 else if k = 4 then i4 else if k = 5 then i5 else if k = 6 then i6 else i7), cI, ⟨?_, ?_⟩⟩
  · intro k q hq
    match k, hq with
    | 0, hq => cases hq; exact k0
    | 1, hq => cases hq; exact k1
    | 2, hq => cases hq; exact k2
    | 3, hq => cases hq; exact k3
    | 4, hq => cases hq; exact k4
    | 5, hq => cases hq; exact k5
    | 6, hq => cases hq; exact k6
    | 7, hq => cases hq; exact k7
    | k + 8, hq => simp [vwCl] at hq
  · intro k q hq
    match k, hq with
    | 0, hq => cases hq; exact ⟨fun n z => ⟨fun k h => (by cases h), kA, h2, comp, h3⟩, h1⟩
    | k + 1, hq => simp at hq
set_option maxHeartbeats 4000000 in
set_option maxRecDepth 100000 in
theorem whole_start {p : Program} {e : Env} {s : State} {m : MethodId} {below : List Frame} {meth : Method} {c : Code} (l : Launch) (hflags : l.flags = flags0) {b L : Nat} {xs : Nat → Int32} (hL : L ≤ 2560) (C0 : lw_At p s m meth c b L xs) : W p l e room_1 s m #[Value.ref b] below meth c s.heap [] 0 0 (lw_Z below #[Value.ref b] s) (entryFrame m ([Value.ref b] : List Value).toArray 4) := by
  obtain ⟨hx, hb, hr, hml, hown, ht0, hX, hbl, hlk, hgv⟩ := id C0
  have hb : c.code = cL_law := hb
  have hown : s.vm.findClass RL = some m.cls := hown
  have hE := ex_start ht0 hgv
  obtain ⟨D, cI, hK⟩ := k_start ht0
  have hts : ∀ w ∈ wsL_law, w.before #[Value.ref b] s = true := fun w h => ht0 w (wsL_law_in w h)
  have hA : ∀ q : Nat, s.heap.size ≤ q → (fun q : Nat => s.heap.size ≤ q) q := fun _ h => h
  have hS : va_S (fun q : Nat => s.heap.size ≤ q) s.heap s.heap [] := va_S.rf
  have hP : va_P D vwCl [] s.heap := fun k q h => by simp at h
  have hD : va_D (fun q : Nat => s.heap.size ≤ q) [] := ⟨fun i j p q h => by simp at h, fun k q h => by simp at h⟩
  have hl := lv_entry ([.ref b]) (n := 4) (Nat.le_of_ble_eq_true rfl)
  rw [lg_entry_eq]
  generalize (lg_sl ([.ref b]) ++ List.replicate (4 - (lg_sl ([.ref b])).length) Slot.unset).toArray = ls at hl ⊢
  have hl : lv_has ls 4 [(0, .ref b)] := hl
  have hinX6 : ∀ w ∈ u_ws RX6 TX6 9, w ∈ lw_tbl := inX6
  have hinX7 : ∀ w ∈ u_ws RX7 TX7 26, w ∈ lw_tbl := inX7
  refine va_new (ci := 6) (fs := [.null, .null, .int 0, .null, .null, .null, .null, .null, .null]) (C := RX6) (T := TX6) (N := 9) hx hb ht0 hinX6 tyX6 tyX6_ok hown (ht0 (.classLink RL 7 RX6) (by decide +kernel)) (ht0 (.instantiable RX6 9) (by decide +kernel)) (ht0 (.initialized RX6) (by decide +kernel)) hK hP hD hS hA rfl (by decide) (by decide) (by decide) dL_law_0 (fun o_x H hP hD hS => ?_)
  have hP : va_P D vwCl [(o_x, .inr (6, [.null, .null, .int 0, .null, .null, .null, .null, .null, .null]))] H := hP
  have hD : va_D (fun q : Nat => s.heap.size ≤ q) [(o_x, .inr (6, [.null, .null, .int 0, .null, .null, .null, .null, .null, .null]))] := hD
  refine W.widen (k := 1) (n := 9) (by decide) (by decide) ?_
  refine lv_dup hx hb dL_law_3 rfl ?_
  refine calK (rest := [.ref o_x]) ⟨hx, hb, hml, hown, hts⟩ (i_X6 l D cI o_x) gL_law_X6_init rfl rfl rfl (ht0 (.initialized RX6) (by decide +kernel)) (ht0 (.methodLink RL 9 yX6_init) (by decide +kernel)) (ht0 (.instanceMethod yX6_init) (by decide +kernel)) rfl (by decide +kernel) ⟨by decide, by decide⟩ hK hP hD hS hA [0] [] (wr := []) rfl rfl (by decide) (by decide) (by decide) hl.1 (Nat.le_of_ble_eq_true rfl) dL_law_4 ⟨by decide, by decide⟩ (fun u H locs hP hD hS => ?_)
  have hP : va_P D vwCl (gX6 o_x u.1 cI Z0 ++ (gX4 (u.1 0) u.2.1 cI Z4 ++ (gX4 (u.1 1) u.2.2.1 cI Z4 ++ (gX0 (u.1 3) u.2.2.2.1 cI Z0 ++ (gX4 (u.2.2.2.1 1) u.2.2.2.2.1 cI Z4 ++ (gX2 (u.1 4) u.2.2.2.2.2.1 cI Z0 ++ (gX5 (u.1 5) u.2.2.2.2.2.2.1 cI Z0 ++ (gX1 (u.1 6) u.2.2.2.2.2.2.2.1 ++ (gX4 (u.2.2.2.2.2.2.2.1 0) u.2.2.2.2.2.2.2.2.1 cI Z4 ++ (gX3 (u.1 7) u.2.2.2.2.2.2.2.2.2.1 cI Z0 ++ gX4 (u.2.2.2.2.2.2.2.2.2.1 0) u.2.2.2.2.2.2.2.2.2.2 cI Z4)))))))))) H := hP
  have hD : va_D (fun q : Nat => s.heap.size ≤ q) (gX6 o_x u.1 cI Z0 ++ (gX4 (u.1 0) u.2.1 cI Z4 ++ (gX4 (u.1 1) u.2.2.1 cI Z4 ++ (gX0 (u.1 3) u.2.2.2.1 cI Z0 ++ (gX4 (u.2.2.2.1 1) u.2.2.2.2.1 cI Z4 ++ (gX2 (u.1 4) u.2.2.2.2.2.1 cI Z0 ++ (gX5 (u.1 5) u.2.2.2.2.2.2.1 cI Z0 ++ (gX1 (u.1 6) u.2.2.2.2.2.2.2.1 ++ (gX4 (u.2.2.2.2.2.2.2.1 0) u.2.2.2.2.2.2.2.2.1 cI Z4 ++ (gX3 (u.1 7) u.2.2.2.2.2.2.2.2.2.1 cI Z0 ++ gX4 (u.2.2.2.2.2.2.2.2.2.1 0) u.2.2.2.2.2.2.2.2.2.2 cI Z4)))))))))) := hD
  obtain ⟨a_x, a_x_0, a_x_1, a_x_3, a_x_3_1, a_x_4, a_x_5, a_x_6, a_x_6_0, a_x_7, a_x_7_0⟩ := u
  refine W.widen (k := 46) (n := 419) (by decide) (by decide) ?_
  refine W.eq (g2 := F0 m 7 ls [.ref o_x]) rfl ?_
  refine lv_astore_n (lv' := [(1, .ref o_x), (0, .ref b)]) hx hb dL_law_7 rfl hl (by decide) rfl (fun ls hl => ?_)
  refine va_new (ci := 7) (fs := [.null, .null, .null, .null, .null, .null, .null, .int 0, .int 0, .int 0, .int 0, .int 0, .null, .null, .null, .null, .int 0, .int 0, .int 0, .null, .int 0, .int 0, .int 0, .null, .null, .int 0]) (C := RX7) (T := TX7) (N := 26) hx hb ht0 hinX7 tyX7 tyX7_ok hown (ht0 (.classLink RL 10 RX7) (by decide +kernel)) (ht0 (.instantiable RX7 26) (by decide +kernel)) (ht0 (.initialized RX7) (by decide +kernel)) hK hP hD hS hA rfl (by decide) (by decide) (by decide) dL_law_8 (fun o_m H hP hD hS => ?_)
  refine W.widen (k := 47) (n := 445) (by decide) (by decide) ?_
  refine lv_dup hx hb dL_law_11 rfl ?_
  refine calK (rest := [.ref o_m]) ⟨hx, hb, hml, hown, hts⟩ (i_X7 l D cI o_m) gL_law_X7_init rfl rfl rfl (ht0 (.initialized RX7) (by decide +kernel)) (ht0 (.methodLink RL 12 yX7_init) (by decide +kernel)) (ht0 (.instanceMethod yX7_init) (by decide +kernel)) rfl (by decide +kernel) ⟨by decide, by decide⟩ hK hP hD hS hA [46] [0, 1, 2, 3, 4, 5, 6, 7, 8, 9, 10, 11, 12, 13, 14, 15, 16, 17, 18, 19, 20, 21, 22, 23, 24, 25, 26, 27, 28, 29, 30, 31, 32, 33, 34, 35, 36, 37, 38, 39, 40, 41, 42, 43, 44, 45] (wr := gX6 o_x a_x cI Z0 ++ (gX4 (a_x 0) a_x_0 cI Z4 ++ (gX4 (a_x 1) a_x_1 cI Z4 ++ (gX0 (a_x 3) a_x_3 cI Z0 ++ (gX4 (a_x_3 1) a_x_3_1 cI Z4 ++ (gX2 (a_x 4) a_x_4 cI Z0 ++ (gX5 (a_x 5) a_x_5 cI Z0 ++ (gX1 (a_x 6) a_x_6 ++ (gX4 (a_x_6 0) a_x_6_0 cI Z4 ++ (gX3 (a_x 7) a_x_7 cI Z0 ++ gX4 (a_x_7 0) a_x_7_0 cI Z4)))))))))) rfl rfl (by decide) (by decide) (by decide) hl.1 (Nat.le_of_ble_eq_true rfl) dL_law_12 ⟨by decide, by decide⟩ (fun a_m H locs hP hD hS => ?_)
  refine W.widen (k := 61) (n := 996) (by decide) (by decide) ?_
  refine W.eq (g2 := F0 m 15 ls [.ref o_m]) rfl ?_
  refine lv_astore_n (lv' := [(2, .ref o_m), (1, .ref o_x), (0, .ref b)]) hx hb dL_law_15 rfl hl (by decide) rfl (fun ls hl => ?_)
  refine lv_iconst (v := (0 : Int32)) hx hb dL_law_16 (by decide) ?_
  refine lv_istore_n (lv' := [(3, .int 0), (2, .ref o_m), (1, .ref o_x), (0, .ref b)]) hx hb dL_law_17 rfl hl (by decide) rfl (fun ls hl => ?_)
  have hP9 : va_P D vwCl (gX6 o_x a_x cI Z0 ++ (gX4 (a_x 0) a_x_0 cI Z4 ++ (gX4 (a_x 1) a_x_1 cI Z4 ++ (gX0 (a_x 3) a_x_3 cI Z0 ++ (gX4 (a_x_3 1) a_x_3_1 cI Z4 ++ (gX2 (a_x 4) a_x_4 cI Z0 ++ (gX5 (a_x 5) a_x_5 cI Z0 ++ (gX1 (a_x 6) a_x_6 ++ (gX4 (a_x_6 0) a_x_6_0 cI Z4 ++ (gX3 (a_x 7) a_x_7 cI Z0 ++ (gX4 (a_x_7 0) a_x_7_0 cI Z4 ++ gX7 o_m a_m cI Z7))))))))))) H := hP.sub [0, 1, 2, 3, 4, 5, 6, 7, 8, 9, 10, 11, 12, 13, 14, 15, 16, 17, 18, 19, 20, 21, 22, 23, 24, 25, 26, 27, 28, 29, 30, 31, 32, 33, 34, 35, 36, 37, 38, 39, 40, 41, 42, 43, 44, 45, 46, 47, 48, 49, 50, 51, 52, 53, 54, 55, 56, 57, 58, 59, 60] rfl
  have hD9 : va_D (fun q : Nat => s.heap.size ≤ q) (gX6 o_x a_x cI Z0 ++ (gX4 (a_x 0) a_x_0 cI Z4 ++ (gX4 (a_x 1) a_x_1 cI Z4 ++ (gX0 (a_x 3) a_x_3 cI Z0 ++ (gX4 (a_x_3 1) a_x_3_1 cI Z4 ++ (gX2 (a_x 4) a_x_4 cI Z0 ++ (gX5 (a_x 5) a_x_5 cI Z0 ++ (gX1 (a_x 6) a_x_6 ++ (gX4 (a_x_6 0) a_x_6_0 cI Z4 ++ (gX3 (a_x 7) a_x_7 cI Z0 ++ (gX4 (a_x_7 0) a_x_7_0 cI Z4 ++ gX7 o_m a_m cI Z7))))))))))) := hD.sub [0, 1, 2, 3, 4, 5, 6, 7, 8, 9, 10, 11, 12, 13, 14, 15, 16, 17, 18, 19, 20, 21, 22, 23, 24, 25, 26, 27, 28, 29, 30, 31, 32, 33, 34, 35, 36, 37, 38, 39, 40, 41, 42, 43, 44, 45, 46, 47, 48, 49, 50, 51, 52, 53, 54, 55, 56, 57, 58, 59, 60] (by decide) rfl
  have hf : f_L_law_18 xs L 513 Z0 Z4 Z4 Z0 Z4 Z0 Z0 Z4 Z0 Z4 Z7 (0 : Int32) = some 1 := law_one xs hL 513 0 Z0 Z4 Z4 Z0 Z4 Z0 Z0 Z4 Z0 Z4 Z7 (by omega) (by omega) inv0
  exact law_loop (out := 1) rfl hx hb hml hr hown hts hX hbl hlk hK hE 513 Z0 Z4 Z4 Z0 Z4 Z0 Z0 Z4 Z0 Z4 Z7 0 H locs ls hf hP9 hD9 hS (lv_sub hl [3, 2, 1, 0] rfl)
