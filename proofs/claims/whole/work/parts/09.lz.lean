set_option maxHeartbeats 8000000 in
set_option maxRecDepth 100000 in
theorem law_loop {p : Program} {l : Launch} {e : Env} {s : State} {m : MethodId} {below : List Frame} {meth : Method} {c : Code} {b L : Nat} {xs : Nat → Int32} {D : va_G} {cI : ClassId} {out : Int32} {o_x : Nat} {a_x : Nat → Nat} {a_x_0 : Nat → Nat} {a_x_1 : Nat → Nat} {a_x_3 : Nat → Nat} {a_x_3_1 : Nat → Nat} {a_x_4 : Nat → Nat} {a_x_5 : Nat → Nat} {a_x_6 : Nat → Nat} {a_x_6_0 : Nat → Nat} {a_x_7 : Nat → Nat} {a_x_7_0 : Nat → Nat} {o_m : Nat} {a_m : Nat → Nat} (hout : out = 1) (hx : p.tables.exec = Jvm.exec) (hb : c.code = cL_law) (hml : c.maxLocals = 4) (hr : meth.sig.returnType = ret) (hown : s.vm.findClass RL = some m.cls) (hts : ∀ w ∈ wsL_law, w.before (#[Value.ref b]) s = true) (hX : va_X b L xs s s.heap) (hbl : b < s.heap.size) (hlk : meth.locks = false) (hK : va_K D vwCl [(cI, .int)] s) (hE : EX (fun q : Nat => s.heap.size ≤ q) s) : ∀ (n : Nat) (S_x : G) (S_x_0 : G) (S_x_1 : G) (S_x_3 : G) (S_x_3_1 : G) (S_x_4 : G) (S_x_5 : G) (S_x_6_0 : G) (S_x_7 : G) (S_x_7_0 : G) (S_m : G) (l3 : Int32) (H : Heap) (locs : List Loc) (ls : Array Slot), f_L_law_18 xs L n S_x S_x_0 S_x_1 S_x_3 S_x_3_1 S_x_4 S_x_5 S_x_6_0 S_x_7 S_x_7_0 S_m l3 = some out → va_P D vwCl (gX6 o_x a_x cI S_x ++ (gX4 (a_x 0) a_x_0 cI S_x_0 ++ (gX4 (a_x 1) a_x_1 cI S_x_1 ++ (gX0 (a_x 3) a_x_3 cI S_x_3 ++ (gX4 (a_x_3 1) a_x_3_1 cI S_x_3_1 ++ (gX2 (a_x 4) a_x_4 cI S_x_4 ++ (gX5 (a_x 5) a_x_5 cI S_x_5 ++ (gX1 (a_x 6) a_x_6 ++ (gX4 (a_x_6 0) a_x_6_0 cI S_x_6_0 ++ (gX3 (a_x 7) a_x_7 cI S_x_7 ++ (gX4 (a_x_7 0) a_x_7_0 cI S_x_7_0 ++ gX7 o_m a_m cI S_m))))))))))) H → va_D (fun q : Nat => s.heap.size ≤ q) (gX6 o_x a_x cI S_x ++ (gX4 (a_x 0) a_x_0 cI S_x_0 ++ (gX4 (a_x 1) a_x_1 cI S_x_1 ++ (gX0 (a_x 3) a_x_3 cI S_x_3 ++ (gX4 (a_x_3 1) a_x_3_1 cI S_x_3_1 ++ (gX2 (a_x 4) a_x_4 cI S_x_4 ++ (gX5 (a_x 5) a_x_5 cI S_x_5 ++ (gX1 (a_x 6) a_x_6 ++ (gX4 (a_x_6 0) a_x_6_0 cI S_x_6_0 ++ (gX3 (a_x 7) a_x_7 cI S_x_7 ++ (gX4 (a_x_7 0) a_x_7_0 cI S_x_7_0 ++ gX7 o_m a_m cI S_m))))))))))) → va_S (fun q : Nat => s.heap.size ≤ q) s.heap H locs → lv_has ls 4 [(0, .ref b), (1, .ref o_x), (2, .ref o_m), (3, .int l3)] → W p l e room_1 s m #[Value.ref b] below meth c H locs 61 996 (lw_Z below #[Value.ref b] s) (F0 m 18 ls []) := by
  have hA : ∀ q : Nat, s.heap.size ≤ q → (fun q : Nat => s.heap.size ≤ q) q := fun _ h => h
  have hbA : ¬ (fun q : Nat => s.heap.size ≤ q) b := Nat.not_le.mpr hbl
  intro n
  induction n with
  | zero =>
    intro S_x S_x_0 S_x_1 S_x_3 S_x_3_1 S_x_4 S_x_5 S_x_6_0 S_x_7 S_x_7_0 S_m l3 H locs ls hf
    exact no_some hf
  | succ n ih18 =>
    intro S_x S_x_0 S_x_1 S_x_3 S_x_3_1 S_x_4 S_x_5 S_x_6_0 S_x_7 S_x_7_0 S_m l3 H locs ls hf hP hD hS hl
    replace hf : b_L_law_18 xs L (f_L_law_18 xs L n) S_x S_x_0 S_x_1 S_x_3 S_x_3_1 S_x_4 S_x_5 S_x_6_0 S_x_7 S_x_7_0 S_m l3 = some out := hf
    unfold b_L_law_18 at hf
    refine lv_iload_n hx hb dL_law_18 rfl (lv_at hl 3 rfl) ?_
    refine lv_aload_n hx hb dL_law_19 rfl (lv_at hl 0 rfl) ?_
    refine va_slen hx hb hX hbl hbA hS dL_law_20 ?_
    refine lv_iconst (v := (5 : Int32)) hx hb dL_law_21 (by decide) ?_
    refine lv_isub hx hb dL_law_22 ?_
    refine lv_icmp_gt (tgt := 1309) hx hb dL_law_23 (by decide) (fun c23 => ?_) (fun c23 => ?_)
    · replace hf := it_t c23 hf
      refine lv_iconst (v := (1 : Int32)) hx hb dL_law_1309 (by decide) ?_
      refine va_forget (fun q hq => hS.2.2 q hq) ?_
      exact lw_ret hx hb hr hlk dL_law_1310
    · replace hf := it_f c23 hf
      refine lv_aload_n hx hb dL_law_26 rfl (lv_at hl 0 rfl) ?_
      refine lv_iload_n hx hb dL_law_27 rfl (lv_at hl 3 rfl) ?_
      obtain ⟨b28, hf⟩ := ck_some hf
      refine va_sld hx hb hX hbl hbA hS b28 dL_law_28 ?_
      refine lv_bipush (v := (63 : Int32)) hx hb dL_law_29 (by decide) ?_
      refine lv_iand hx hb dL_law_31 ?_
      by_cases ck0 : ((xs l3.toNatClampNeg) &&& (63 : Int32)) = (0 : Int32)
      · replace hf := it_t ck0 hf
        refine lv_tableIn (off := 172) (tgt := 204) hx hb dL_law_32 (by rw [ck0]; decide) (by rw [ck0]; decide) (by rw [ck0]; decide) (by decide) ?_
        exact law_c204 hout hx hb hml hr hown hts hX hbl hlk hK hE (f_L_law_18 xs L n) ih18 S_x S_x_0 S_x_1 S_x_3 S_x_3_1 S_x_4 S_x_5 S_x_6_0 S_x_7 S_x_7_0 S_m l3 H locs ls hf hP hD hS (lv_sub hl [0, 1, 2, 3] rfl)
      · replace hf := it_f ck0 hf
        by_cases ck1 : ((xs l3.toNatClampNeg) &&& (63 : Int32)) = (1 : Int32)
        · replace hf := it_t ck1 hf
          refine lv_tableIn (off := 195) (tgt := 227) hx hb dL_law_32 (by rw [ck1]; decide) (by rw [ck1]; decide) (by rw [ck1]; decide) (by decide) ?_
          exact law_c227 hout hx hb hml hr hown hts hX hbl hlk hK hE (f_L_law_18 xs L n) ih18 S_x S_x_0 S_x_1 S_x_3 S_x_3_1 S_x_4 S_x_5 S_x_6_0 S_x_7 S_x_7_0 S_m l3 H locs ls hf hP hD hS (lv_sub hl [0, 1, 2, 3] rfl)
        · replace hf := it_f ck1 hf
          by_cases ck2 : ((xs l3.toNatClampNeg) &&& (63 : Int32)) = (2 : Int32)
          · replace hf := it_t ck2 hf
            refine lv_tableIn (off := 208) (tgt := 240) hx hb dL_law_32 (by rw [ck2]; decide) (by rw [ck2]; decide) (by rw [ck2]; decide) (by decide) ?_
            exact law_c240 hout hx hb hml hr hown hts hX hbl hlk hK hE (f_L_law_18 xs L n) ih18 S_x S_x_0 S_x_1 S_x_3 S_x_3_1 S_x_4 S_x_5 S_x_6_0 S_x_7 S_x_7_0 S_m l3 H locs ls hf hP hD hS (lv_sub hl [0, 1, 2, 3] rfl)
          · replace hf := it_f ck2 hf
            by_cases ck3 : ((xs l3.toNatClampNeg) &&& (63 : Int32)) = (3 : Int32)
            · replace hf := it_t ck3 hf
              refine lv_tableIn (off := 241) (tgt := 273) hx hb dL_law_32 (by rw [ck3]; decide) (by rw [ck3]; decide) (by rw [ck3]; decide) (by decide) ?_
              exact law_c273 hout hx hb hml hr hown hts hX hbl hlk hK hE (f_L_law_18 xs L n) ih18 S_x S_x_0 S_x_1 S_x_3 S_x_3_1 S_x_4 S_x_5 S_x_6_0 S_x_7 S_x_7_0 S_m l3 H locs ls hf hP hD hS (lv_sub hl [0, 1, 2, 3] rfl)
            · replace hf := it_f ck3 hf
              by_cases ck4 : ((xs l3.toNatClampNeg) &&& (63 : Int32)) = (4 : Int32)
              · replace hf := it_t ck4 hf
                refine lv_tableIn (off := 274) (tgt := 306) hx hb dL_law_32 (by rw [ck4]; decide) (by rw [ck4]; decide) (by rw [ck4]; decide) (by decide) ?_
                exact law_c306 hout hx hb hml hr hown hts hX hbl hlk hK hE (f_L_law_18 xs L n) ih18 S_x S_x_0 S_x_1 S_x_3 S_x_3_1 S_x_4 S_x_5 S_x_6_0 S_x_7 S_x_7_0 S_m l3 H locs ls hf hP hD hS (lv_sub hl [0, 1, 2, 3] rfl)
              · replace hf := it_f ck4 hf
                by_cases ck5 : ((xs l3.toNatClampNeg) &&& (63 : Int32)) = (5 : Int32)
                · replace hf := it_t ck5 hf
                  refine lv_tableIn (off := 307) (tgt := 339) hx hb dL_law_32 (by rw [ck5]; decide) (by rw [ck5]; decide) (by rw [ck5]; decide) (by decide) ?_
                  exact law_c339 hout hx hb hml hr hown hts hX hbl hlk hK hE (f_L_law_18 xs L n) ih18 S_x S_x_0 S_x_1 S_x_3 S_x_3_1 S_x_4 S_x_5 S_x_6_0 S_x_7 S_x_7_0 S_m l3 H locs ls hf hP hD hS (lv_sub hl [0, 1, 2, 3] rfl)
                · replace hf := it_f ck5 hf
                  by_cases ck6 : ((xs l3.toNatClampNeg) &&& (63 : Int32)) = (6 : Int32)
                  · replace hf := it_t ck6 hf
                    refine lv_tableIn (off := 340) (tgt := 372) hx hb dL_law_32 (by rw [ck6]; decide) (by rw [ck6]; decide) (by rw [ck6]; decide) (by decide) ?_
                    exact law_c372 hout hx hb hml hr hown hts hX hbl hlk hK hE (f_L_law_18 xs L n) ih18 S_x S_x_0 S_x_1 S_x_3 S_x_3_1 S_x_4 S_x_5 S_x_6_0 S_x_7 S_x_7_0 S_m l3 H locs ls hf hP hD hS (lv_sub hl [0, 1, 2, 3] rfl)
                  · replace hf := it_f ck6 hf
                    by_cases ck7 : ((xs l3.toNatClampNeg) &&& (63 : Int32)) = (7 : Int32)
                    · replace hf := it_t ck7 hf
                      refine lv_tableIn (off := 373) (tgt := 405) hx hb dL_law_32 (by rw [ck7]; decide) (by rw [ck7]; decide) (by rw [ck7]; decide) (by decide) ?_
                      exact law_c405 hout hx hb hml hr hown hts hX hbl hlk hK hE (f_L_law_18 xs L n) ih18 S_x S_x_0 S_x_1 S_x_3 S_x_3_1 S_x_4 S_x_5 S_x_6_0 S_x_7 S_x_7_0 S_m l3 H locs ls hf hP hD hS (lv_sub hl [0, 1, 2, 3] rfl)
                    · replace hf := it_f ck7 hf
                      by_cases ck8 : ((xs l3.toNatClampNeg) &&& (63 : Int32)) = (8 : Int32)
                      · replace hf := it_t ck8 hf
                        refine lv_tableIn (off := 396) (tgt := 428) hx hb dL_law_32 (by rw [ck8]; decide) (by rw [ck8]; decide) (by rw [ck8]; decide) (by decide) ?_
                        exact law_c428 hout hx hb hml hr hown hts hX hbl hlk hK hE (f_L_law_18 xs L n) ih18 S_x S_x_0 S_x_1 S_x_3 S_x_3_1 S_x_4 S_x_5 S_x_6_0 S_x_7 S_x_7_0 S_m l3 H locs ls hf hP hD hS (lv_sub hl [0, 1, 2, 3] rfl)
                      · replace hf := it_f ck8 hf
                        by_cases ck9 : ((xs l3.toNatClampNeg) &&& (63 : Int32)) = (9 : Int32)
                        · replace hf := it_t ck9 hf
                          refine lv_tableIn (off := 439) (tgt := 471) hx hb dL_law_32 (by rw [ck9]; decide) (by rw [ck9]; decide) (by rw [ck9]; decide) (by decide) ?_
                          exact law_c471 hout hx hb hml hr hown hts hX hbl hlk hK hE (f_L_law_18 xs L n) ih18 S_x S_x_0 S_x_1 S_x_3 S_x_3_1 S_x_4 S_x_5 S_x_6_0 S_x_7 S_x_7_0 S_m l3 H locs ls hf hP hD hS (lv_sub hl [0, 1, 2, 3] rfl)
                        · replace hf := it_f ck9 hf
                          by_cases ck10 : ((xs l3.toNatClampNeg) &&& (63 : Int32)) = (10 : Int32)
                          · replace hf := it_t ck10 hf
                            refine lv_tableIn (off := 462) (tgt := 494) hx hb dL_law_32 (by rw [ck10]; decide) (by rw [ck10]; decide) (by rw [ck10]; decide) (by decide) ?_
                            exact law_c494 hout hx hb hml hr hown hts hX hbl hlk hK hE (f_L_law_18 xs L n) ih18 S_x S_x_0 S_x_1 S_x_3 S_x_3_1 S_x_4 S_x_5 S_x_6_0 S_x_7 S_x_7_0 S_m l3 H locs ls hf hP hD hS (lv_sub hl [0, 1, 2, 3] rfl)
                          · replace hf := it_f ck10 hf
                            by_cases ck11 : ((xs l3.toNatClampNeg) &&& (63 : Int32)) = (11 : Int32)
                            · replace hf := it_t ck11 hf
                              refine lv_tableIn (off := 505) (tgt := 537) hx hb dL_law_32 (by rw [ck11]; decide) (by rw [ck11]; decide) (by rw [ck11]; decide) (by decide) ?_
                              exact law_c537 hout hx hb hml hr hown hts hX hbl hlk hK hE (f_L_law_18 xs L n) ih18 S_x S_x_0 S_x_1 S_x_3 S_x_3_1 S_x_4 S_x_5 S_x_6_0 S_x_7 S_x_7_0 S_m l3 H locs ls hf hP hD hS (lv_sub hl [0, 1, 2, 3] rfl)
                            · replace hf := it_f ck11 hf
                              by_cases ck12 : ((xs l3.toNatClampNeg) &&& (63 : Int32)) = (12 : Int32)
                              · replace hf := it_t ck12 hf
                                refine lv_tableIn (off := 548) (tgt := 580) hx hb dL_law_32 (by rw [ck12]; decide) (by rw [ck12]; decide) (by rw [ck12]; decide) (by decide) ?_
                                exact law_c580 hout hx hb hml hr hown hts hX hbl hlk hK hE (f_L_law_18 xs L n) ih18 S_x S_x_0 S_x_1 S_x_3 S_x_3_1 S_x_4 S_x_5 S_x_6_0 S_x_7 S_x_7_0 S_m l3 H locs ls hf hP hD hS (lv_sub hl [0, 1, 2, 3] rfl)
                              · replace hf := it_f ck12 hf
                                by_cases ck13 : ((xs l3.toNatClampNeg) &&& (63 : Int32)) = (13 : Int32)
                                · replace hf := it_t ck13 hf
                                  refine lv_tableIn (off := 571) (tgt := 603) hx hb dL_law_32 (by rw [ck13]; decide) (by rw [ck13]; decide) (by rw [ck13]; decide) (by decide) ?_
                                  exact law_c603 hout hx hb hml hr hown hts hX hbl hlk hK hE (f_L_law_18 xs L n) ih18 S_x S_x_0 S_x_1 S_x_3 S_x_3_1 S_x_4 S_x_5 S_x_6_0 S_x_7 S_x_7_0 S_m l3 H locs ls hf hP hD hS (lv_sub hl [0, 1, 2, 3] rfl)
                                · replace hf := it_f ck13 hf
                                  by_cases ck14 : ((xs l3.toNatClampNeg) &&& (63 : Int32)) = (14 : Int32)
                                  · replace hf := it_t ck14 hf
                                    refine lv_tableIn (off := 594) (tgt := 626) hx hb dL_law_32 (by rw [ck14]; decide) (by rw [ck14]; decide) (by rw [ck14]; decide) (by decide) ?_
                                    exact law_c626 hout hx hb hml hr hown hts hX hbl hlk hK hE (f_L_law_18 xs L n) ih18 S_x S_x_0 S_x_1 S_x_3 S_x_3_1 S_x_4 S_x_5 S_x_6_0 S_x_7 S_x_7_0 S_m l3 H locs ls hf hP hD hS (lv_sub hl [0, 1, 2, 3] rfl)
                                  · replace hf := it_f ck14 hf
                                    by_cases ck15 : ((xs l3.toNatClampNeg) &&& (63 : Int32)) = (15 : Int32)
                                    · replace hf := it_t ck15 hf
                                      refine lv_tableIn (off := 637) (tgt := 669) hx hb dL_law_32 (by rw [ck15]; decide) (by rw [ck15]; decide) (by rw [ck15]; decide) (by decide) ?_
                                      exact law_c669 hout hx hb hml hr hown hts hX hbl hlk hK hE (f_L_law_18 xs L n) ih18 S_x S_x_0 S_x_1 S_x_3 S_x_3_1 S_x_4 S_x_5 S_x_6_0 S_x_7 S_x_7_0 S_m l3 H locs ls hf hP hD hS (lv_sub hl [0, 1, 2, 3] rfl)
                                    · replace hf := it_f ck15 hf
                                      by_cases ck16 : ((xs l3.toNatClampNeg) &&& (63 : Int32)) = (16 : Int32)
                                      · replace hf := it_t ck16 hf
                                        refine lv_tableIn (off := 680) (tgt := 712) hx hb dL_law_32 (by rw [ck16]; decide) (by rw [ck16]; decide) (by rw [ck16]; decide) (by decide) ?_
                                        exact law_c712 hout hx hb hml hr hown hts hX hbl hlk hK hE (f_L_law_18 xs L n) ih18 S_x S_x_0 S_x_1 S_x_3 S_x_3_1 S_x_4 S_x_5 S_x_6_0 S_x_7 S_x_7_0 S_m l3 H locs ls hf hP hD hS (lv_sub hl [0, 1, 2, 3] rfl)
                                      · replace hf := it_f ck16 hf
                                        by_cases ck17 : ((xs l3.toNatClampNeg) &&& (63 : Int32)) = (17 : Int32)
                                        · replace hf := it_t ck17 hf
                                          refine lv_tableIn (off := 713) (tgt := 745) hx hb dL_law_32 (by rw [ck17]; decide) (by rw [ck17]; decide) (by rw [ck17]; decide) (by decide) ?_
                                          exact law_c745 hout hx hb hml hr hown hts hX hbl hlk hK hE (f_L_law_18 xs L n) ih18 S_x S_x_0 S_x_1 S_x_3 S_x_3_1 S_x_4 S_x_5 S_x_6_0 S_x_7 S_x_7_0 S_m l3 H locs ls hf hP hD hS (lv_sub hl [0, 1, 2, 3] rfl)
                                        · replace hf := it_f ck17 hf
                                          by_cases ck18 : ((xs l3.toNatClampNeg) &&& (63 : Int32)) = (18 : Int32)
                                          · replace hf := it_t ck18 hf
                                            refine lv_tableIn (off := 736) (tgt := 768) hx hb dL_law_32 (by rw [ck18]; decide) (by rw [ck18]; decide) (by rw [ck18]; decide) (by decide) ?_
                                            exact law_c768 hout hx hb hml hr hown hts hX hbl hlk hK hE (f_L_law_18 xs L n) ih18 S_x S_x_0 S_x_1 S_x_3 S_x_3_1 S_x_4 S_x_5 S_x_6_0 S_x_7 S_x_7_0 S_m l3 H locs ls hf hP hD hS (lv_sub hl [0, 1, 2, 3] rfl)
                                          · replace hf := it_f ck18 hf
                                            by_cases ck19 : ((xs l3.toNatClampNeg) &&& (63 : Int32)) = (19 : Int32)
                                            · replace hf := it_t ck19 hf
                                              refine lv_tableIn (off := 759) (tgt := 791) hx hb dL_law_32 (by rw [ck19]; decide) (by rw [ck19]; decide) (by rw [ck19]; decide) (by decide) ?_
                                              exact law_c791 hout hx hb hml hr hown hts hX hbl hlk hK hE (f_L_law_18 xs L n) ih18 S_x S_x_0 S_x_1 S_x_3 S_x_3_1 S_x_4 S_x_5 S_x_6_0 S_x_7 S_x_7_0 S_m l3 H locs ls hf hP hD hS (lv_sub hl [0, 1, 2, 3] rfl)
                                            · replace hf := it_f ck19 hf
                                              by_cases ck20 : ((xs l3.toNatClampNeg) &&& (63 : Int32)) = (20 : Int32)
                                              · replace hf := it_t ck20 hf
                                                refine lv_tableIn (off := 772) (tgt := 804) hx hb dL_law_32 (by rw [ck20]; decide) (by rw [ck20]; decide) (by rw [ck20]; decide) (by decide) ?_
                                                exact law_c804 hout hx hb hml hr hown hts hX hbl hlk hK hE (f_L_law_18 xs L n) ih18 S_x S_x_0 S_x_1 S_x_3 S_x_3_1 S_x_4 S_x_5 S_x_6_0 S_x_7 S_x_7_0 S_m l3 H locs ls hf hP hD hS (lv_sub hl [0, 1, 2, 3] rfl)
                                              · replace hf := it_f ck20 hf
                                                by_cases ck21 : ((xs l3.toNatClampNeg) &&& (63 : Int32)) = (21 : Int32)
                                                · replace hf := it_t ck21 hf
                                                  refine lv_tableIn (off := 795) (tgt := 827) hx hb dL_law_32 (by rw [ck21]; decide) (by rw [ck21]; decide) (by rw [ck21]; decide) (by decide) ?_
                                                  exact law_c827 hout hx hb hml hr hown hts hX hbl hlk hK hE (f_L_law_18 xs L n) ih18 S_x S_x_0 S_x_1 S_x_3 S_x_3_1 S_x_4 S_x_5 S_x_6_0 S_x_7 S_x_7_0 S_m l3 H locs ls hf hP hD hS (lv_sub hl [0, 1, 2, 3] rfl)
                                                · replace hf := it_f ck21 hf
                                                  by_cases ck22 : ((xs l3.toNatClampNeg) &&& (63 : Int32)) = (22 : Int32)
                                                  · replace hf := it_t ck22 hf
                                                    refine lv_tableIn (off := 818) (tgt := 850) hx hb dL_law_32 (by rw [ck22]; decide) (by rw [ck22]; decide) (by rw [ck22]; decide) (by decide) ?_
                                                    exact law_c850 hout hx hb hml hr hown hts hX hbl hlk hK hE (f_L_law_18 xs L n) ih18 S_x S_x_0 S_x_1 S_x_3 S_x_3_1 S_x_4 S_x_5 S_x_6_0 S_x_7 S_x_7_0 S_m l3 H locs ls hf hP hD hS (lv_sub hl [0, 1, 2, 3] rfl)
                                                  · replace hf := it_f ck22 hf
                                                    by_cases ck23 : ((xs l3.toNatClampNeg) &&& (63 : Int32)) = (23 : Int32)
                                                    · replace hf := it_t ck23 hf
                                                      refine lv_tableIn (off := 841) (tgt := 873) hx hb dL_law_32 (by rw [ck23]; decide) (by rw [ck23]; decide) (by rw [ck23]; decide) (by decide) ?_
                                                      exact law_c873 hout hx hb hml hr hown hts hX hbl hlk hK hE (f_L_law_18 xs L n) ih18 S_x S_x_0 S_x_1 S_x_3 S_x_3_1 S_x_4 S_x_5 S_x_6_0 S_x_7 S_x_7_0 S_m l3 H locs ls hf hP hD hS (lv_sub hl [0, 1, 2, 3] rfl)
                                                    · replace hf := it_f ck23 hf
                                                      by_cases ck24 : ((xs l3.toNatClampNeg) &&& (63 : Int32)) = (24 : Int32)
                                                      · replace hf := it_t ck24 hf
                                                        refine lv_tableIn (off := 864) (tgt := 896) hx hb dL_law_32 (by rw [ck24]; decide) (by rw [ck24]; decide) (by rw [ck24]; decide) (by decide) ?_
                                                        exact law_c896 hout hx hb hml hr hown hts hX hbl hlk hK hE (f_L_law_18 xs L n) ih18 S_x S_x_0 S_x_1 S_x_3 S_x_3_1 S_x_4 S_x_5 S_x_6_0 S_x_7 S_x_7_0 S_m l3 H locs ls hf hP hD hS (lv_sub hl [0, 1, 2, 3] rfl)
                                                      · replace hf := it_f ck24 hf
                                                        by_cases ck25 : ((xs l3.toNatClampNeg) &&& (63 : Int32)) = (25 : Int32)
                                                        · replace hf := it_t ck25 hf
                                                          refine lv_tableIn (off := 887) (tgt := 919) hx hb dL_law_32 (by rw [ck25]; decide) (by rw [ck25]; decide) (by rw [ck25]; decide) (by decide) ?_
                                                          exact law_c919 hout hx hb hml hr hown hts hX hbl hlk hK hE (f_L_law_18 xs L n) ih18 S_x S_x_0 S_x_1 S_x_3 S_x_3_1 S_x_4 S_x_5 S_x_6_0 S_x_7 S_x_7_0 S_m l3 H locs ls hf hP hD hS (lv_sub hl [0, 1, 2, 3] rfl)
                                                        · replace hf := it_f ck25 hf
                                                          by_cases ck26 : ((xs l3.toNatClampNeg) &&& (63 : Int32)) = (26 : Int32)
                                                          · replace hf := it_t ck26 hf
                                                            refine lv_tableIn (off := 910) (tgt := 942) hx hb dL_law_32 (by rw [ck26]; decide) (by rw [ck26]; decide) (by rw [ck26]; decide) (by decide) ?_
                                                            exact law_c942 hout hx hb hml hr hown hts hX hbl hlk hK hE (f_L_law_18 xs L n) ih18 S_x S_x_0 S_x_1 S_x_3 S_x_3_1 S_x_4 S_x_5 S_x_6_0 S_x_7 S_x_7_0 S_m l3 H locs ls hf hP hD hS (lv_sub hl [0, 1, 2, 3] rfl)
                                                          · replace hf := it_f ck26 hf
                                                            by_cases ck27 : ((xs l3.toNatClampNeg) &&& (63 : Int32)) = (27 : Int32)
                                                            · replace hf := it_t ck27 hf
                                                              refine lv_tableIn (off := 923) (tgt := 955) hx hb dL_law_32 (by rw [ck27]; decide) (by rw [ck27]; decide) (by rw [ck27]; decide) (by decide) ?_
                                                              exact law_c955 hout hx hb hml hr hown hts hX hbl hlk hK hE (f_L_law_18 xs L n) ih18 S_x S_x_0 S_x_1 S_x_3 S_x_3_1 S_x_4 S_x_5 S_x_6_0 S_x_7 S_x_7_0 S_m l3 H locs ls hf hP hD hS (lv_sub hl [0, 1, 2, 3] rfl)
                                                            · replace hf := it_f ck27 hf
                                                              by_cases ck28 : ((xs l3.toNatClampNeg) &&& (63 : Int32)) = (28 : Int32)
                                                              · replace hf := it_t ck28 hf
                                                                refine lv_tableIn (off := 966) (tgt := 998) hx hb dL_law_32 (by rw [ck28]; decide) (by rw [ck28]; decide) (by rw [ck28]; decide) (by decide) ?_
                                                                exact law_c998 hout hx hb hml hr hown hts hX hbl hlk hK hE (f_L_law_18 xs L n) ih18 S_x S_x_0 S_x_1 S_x_3 S_x_3_1 S_x_4 S_x_5 S_x_6_0 S_x_7 S_x_7_0 S_m l3 H locs ls hf hP hD hS (lv_sub hl [0, 1, 2, 3] rfl)
                                                              · replace hf := it_f ck28 hf
                                                                by_cases ck29 : ((xs l3.toNatClampNeg) &&& (63 : Int32)) = (29 : Int32)
                                                                · replace hf := it_t ck29 hf
                                                                  refine lv_tableIn (off := 1009) (tgt := 1041) hx hb dL_law_32 (by rw [ck29]; decide) (by rw [ck29]; decide) (by rw [ck29]; decide) (by decide) ?_
                                                                  exact law_c1041 hout hx hb hml hr hown hts hX hbl hlk hK hE (f_L_law_18 xs L n) ih18 S_x S_x_0 S_x_1 S_x_3 S_x_3_1 S_x_4 S_x_5 S_x_6_0 S_x_7 S_x_7_0 S_m l3 H locs ls hf hP hD hS (lv_sub hl [0, 1, 2, 3] rfl)
                                                                · replace hf := it_f ck29 hf
                                                                  by_cases ck30 : ((xs l3.toNatClampNeg) &&& (63 : Int32)) = (30 : Int32)
                                                                  · replace hf := it_t ck30 hf
                                                                    refine lv_tableIn (off := 1063) (tgt := 1095) hx hb dL_law_32 (by rw [ck30]; decide) (by rw [ck30]; decide) (by rw [ck30]; decide) (by decide) ?_
                                                                    exact law_c1095 hout hx hb hml hr hown hts hX hbl hlk hK hE (f_L_law_18 xs L n) ih18 S_x S_x_0 S_x_1 S_x_3 S_x_3_1 S_x_4 S_x_5 S_x_6_0 S_x_7 S_x_7_0 S_m l3 H locs ls hf hP hD hS (lv_sub hl [0, 1, 2, 3] rfl)
                                                                  · replace hf := it_f ck30 hf
                                                                    by_cases ck31 : ((xs l3.toNatClampNeg) &&& (63 : Int32)) = (31 : Int32)
                                                                    · replace hf := it_t ck31 hf
                                                                      refine lv_tableIn (off := 1087) (tgt := 1119) hx hb dL_law_32 (by rw [ck31]; decide) (by rw [ck31]; decide) (by rw [ck31]; decide) (by decide) ?_
                                                                      exact law_c1119 hout hx hb hml hr hown hts hX hbl hlk hK hE (f_L_law_18 xs L n) ih18 S_x S_x_0 S_x_1 S_x_3 S_x_3_1 S_x_4 S_x_5 S_x_6_0 S_x_7 S_x_7_0 S_m l3 H locs ls hf hP hD hS (lv_sub hl [0, 1, 2, 3] rfl)
                                                                    · replace hf := it_f ck31 hf
                                                                      by_cases ck32 : ((xs l3.toNatClampNeg) &&& (63 : Int32)) = (32 : Int32)
                                                                      · replace hf := it_t ck32 hf
                                                                        refine lv_tableIn (off := 1130) (tgt := 1162) hx hb dL_law_32 (by rw [ck32]; decide) (by rw [ck32]; decide) (by rw [ck32]; decide) (by decide) ?_
                                                                        exact law_c1162 hout hx hb hml hr hown hts hX hbl hlk hK hE (f_L_law_18 xs L n) ih18 S_x S_x_0 S_x_1 S_x_3 S_x_3_1 S_x_4 S_x_5 S_x_6_0 S_x_7 S_x_7_0 S_m l3 H locs ls hf hP hD hS (lv_sub hl [0, 1, 2, 3] rfl)
                                                                      · replace hf := it_f ck32 hf
                                                                        by_cases ck33 : ((xs l3.toNatClampNeg) &&& (63 : Int32)) = (33 : Int32)
                                                                        · replace hf := it_t ck33 hf
                                                                          refine lv_tableIn (off := 1153) (tgt := 1185) hx hb dL_law_32 (by rw [ck33]; decide) (by rw [ck33]; decide) (by rw [ck33]; decide) (by decide) ?_
                                                                          exact law_c1185 hout hx hb hml hr hown hts hX hbl hlk hK hE (f_L_law_18 xs L n) ih18 S_x S_x_0 S_x_1 S_x_3 S_x_3_1 S_x_4 S_x_5 S_x_6_0 S_x_7 S_x_7_0 S_m l3 H locs ls hf hP hD hS (lv_sub hl [0, 1, 2, 3] rfl)
                                                                        · replace hf := it_f ck33 hf
                                                                          by_cases ck34 : ((xs l3.toNatClampNeg) &&& (63 : Int32)) = (34 : Int32)
                                                                          · replace hf := it_t ck34 hf
                                                                            refine lv_tableIn (off := 1166) (tgt := 1198) hx hb dL_law_32 (by rw [ck34]; decide) (by rw [ck34]; decide) (by rw [ck34]; decide) (by decide) ?_
                                                                            exact law_c1198 hout hx hb hml hr hown hts hX hbl hlk hK hE (f_L_law_18 xs L n) ih18 S_x S_x_0 S_x_1 S_x_3 S_x_3_1 S_x_4 S_x_5 S_x_6_0 S_x_7 S_x_7_0 S_m l3 H locs ls hf hP hD hS (lv_sub hl [0, 1, 2, 3] rfl)
                                                                          · replace hf := it_f ck34 hf
                                                                            by_cases ck35 : ((xs l3.toNatClampNeg) &&& (63 : Int32)) = (35 : Int32)
                                                                            · replace hf := it_t ck35 hf
                                                                              refine lv_tableIn (off := 1179) (tgt := 1211) hx hb dL_law_32 (by rw [ck35]; decide) (by rw [ck35]; decide) (by rw [ck35]; decide) (by decide) ?_
                                                                              exact law_c1211 hout hx hb hml hr hown hts hX hbl hlk hK hE (f_L_law_18 xs L n) ih18 S_x S_x_0 S_x_1 S_x_3 S_x_3_1 S_x_4 S_x_5 S_x_6_0 S_x_7 S_x_7_0 S_m l3 H locs ls hf hP hD hS (lv_sub hl [0, 1, 2, 3] rfl)
                                                                            · replace hf := it_f ck35 hf
                                                                              by_cases ck36 : ((xs l3.toNatClampNeg) &&& (63 : Int32)) = (36 : Int32)
                                                                              · replace hf := it_t ck36 hf
                                                                                refine lv_tableIn (off := 1222) (tgt := 1254) hx hb dL_law_32 (by rw [ck36]; decide) (by rw [ck36]; decide) (by rw [ck36]; decide) (by decide) ?_
                                                                                exact law_c1254 hout hx hb hml hr hown hts hX hbl hlk hK hE (f_L_law_18 xs L n) ih18 S_x S_x_0 S_x_1 S_x_3 S_x_3_1 S_x_4 S_x_5 S_x_6_0 S_x_7 S_x_7_0 S_m l3 H locs ls hf hP hD hS (lv_sub hl [0, 1, 2, 3] rfl)
                                                                              · replace hf := it_f ck36 hf
                                                                                by_cases ck37 : ((xs l3.toNatClampNeg) &&& (63 : Int32)) = (37 : Int32)
                                                                                · replace hf := it_t ck37 hf
                                                                                  refine lv_tableIn (off := 1235) (tgt := 1267) hx hb dL_law_32 (by rw [ck37]; decide) (by rw [ck37]; decide) (by rw [ck37]; decide) (by decide) ?_
                                                                                  exact law_c1267 hout hx hb hml hr hown hts hX hbl hlk hK hE (f_L_law_18 xs L n) ih18 S_x S_x_0 S_x_1 S_x_3 S_x_3_1 S_x_4 S_x_5 S_x_6_0 S_x_7 S_x_7_0 S_m l3 H locs ls hf hP hD hS (lv_sub hl [0, 1, 2, 3] rfl)
                                                                                · replace hf := it_f ck37 hf
                                                                                  by_cases ck38 : ((xs l3.toNatClampNeg) &&& (63 : Int32)) = (38 : Int32)
                                                                                  · replace hf := it_t ck38 hf
                                                                                    refine lv_tableIn (off := 1248) (tgt := 1280) hx hb dL_law_32 (by rw [ck38]; decide) (by rw [ck38]; decide) (by rw [ck38]; decide) (by decide) ?_
                                                                                    exact law_c1280 hout hx hb hml hr hown hts hX hbl hlk hK hE (f_L_law_18 xs L n) ih18 S_x S_x_0 S_x_1 S_x_3 S_x_3_1 S_x_4 S_x_5 S_x_6_0 S_x_7 S_x_7_0 S_m l3 H locs ls hf hP hD hS (lv_sub hl [0, 1, 2, 3] rfl)
                                                                                  · replace hf := it_f ck38 hf
                                                                                    by_cases clo : ((xs l3.toNatClampNeg) &&& (63 : Int32)).toInt < 0
                                                                                    · refine lv_tableOut (tgt := 1303) hx hb dL_law_32 (Or.inl clo) (by decide) ?_
                                                                                      refine lv_iinc (v := l3 + (5 : Int32)) (lv' := [(3, .int (l3 + (5 : Int32))), (0, .ref b), (1, .ref o_x), (2, .ref o_m)]) hx hb dL_law_1303 hl (k := 3) rfl rfl (by decide) rfl (fun ls hl => ?_)
                                                                                      refine lv_goto (tgt := 18) hx hb dL_law_1306 (by decide) ?_
                                                                                      exact ih18 S_x S_x_0 S_x_1 S_x_3 S_x_3_1 S_x_4 S_x_5 S_x_6_0 S_x_7 S_x_7_0 S_m (l3 + (5 : Int32)) H locs ls hf hP hD hS (lv_sub hl [1, 2, 3, 0] rfl)
                                                                                    by_cases chi : 38 < ((xs l3.toNatClampNeg) &&& (63 : Int32)).toInt
                                                                                    · refine lv_tableOut (tgt := 1303) hx hb dL_law_32 (Or.inr chi) (by decide) ?_
                                                                                      refine lv_iinc (v := l3 + (5 : Int32)) (lv' := [(3, .int (l3 + (5 : Int32))), (0, .ref b), (1, .ref o_x), (2, .ref o_m)]) hx hb dL_law_1303 hl (k := 3) rfl rfl (by decide) rfl (fun ls hl => ?_)
                                                                                      refine lv_goto (tgt := 18) hx hb dL_law_1306 (by decide) ?_
                                                                                      exact ih18 S_x S_x_0 S_x_1 S_x_3 S_x_3_1 S_x_4 S_x_5 S_x_6_0 S_x_7 S_x_7_0 S_m (l3 + (5 : Int32)) H locs ls hf hP hD hS (lv_sub hl [1, 2, 3, 0] rfl)
                                                                                    exact (sw_no (x := ((xs l3.toNatClampNeg) &&& (63 : Int32))) (lo := 0) (hi := 38) clo chi (ks := [0, 1, 2, 3, 4, 5, 6, 7, 8, 9, 10, 11, 12, 13, 14, 15, 16, 17, 18, 19, 20, 21, 22, 23, 24, 25, 26, 27, 28, 29, 30, 31, 32, 33, 34, 35, 36, 37, 38]) (by decide) (List.forall_mem_cons.mpr ⟨lv_neT (k := 0) (a := 0) ck0 (by decide), (List.forall_mem_cons.mpr ⟨lv_neT (k := 1) (a := 1) ck1 (by decide), (List.forall_mem_cons.mpr ⟨lv_neT (k := 2) (a := 2) ck2 (by decide), (List.forall_mem_cons.mpr ⟨lv_neT (k := 3) (a := 3) ck3 (by decide), (List.forall_mem_cons.mpr ⟨lv_neT (k := 4) (a := 4) ck4 (by decide), (List.forall_mem_cons.mpr ⟨lv_neT (k := 5) (a := 5) ck5 (by decide), (List.forall_mem_cons.mpr ⟨lv_neT (k := 6) (a := 6) ck6 (by decide), (List.forall_mem_cons.mpr ⟨lv_neT (k := 7) (a := 7) ck7 (by decide), (List.forall_mem_cons.mpr ⟨lv_neT (k := 8) (a := 8) ck8 (by decide), (List.forall_mem_cons.mpr ⟨lv_neT (k := 9) (a := 9) ck9 (by decide), (List.forall_mem_cons.mpr ⟨lv_neT (k := 10) (a := 10) ck10 (by decide), (List.forall_mem_cons.mpr ⟨lv_neT (k := 11) (a := 11) ck11 (by decide), (List.forall_mem_cons.mpr ⟨lv_neT (k := 12) (a := 12) ck12 (by decide), (List.forall_mem_cons.mpr ⟨lv_neT (k := 13) (a := 13) ck13 (by decide), (List.forall_mem_cons.mpr ⟨lv_neT (k := 14) (a := 14) ck14 (by decide), (List.forall_mem_cons.mpr ⟨lv_neT (k := 15) (a := 15) ck15 (by decide), (List.forall_mem_cons.mpr ⟨lv_neT (k := 16) (a := 16) ck16 (by decide), (List.forall_mem_cons.mpr ⟨lv_neT (k := 17) (a := 17) ck17 (by decide), (List.forall_mem_cons.mpr ⟨lv_neT (k := 18) (a := 18) ck18 (by decide), (List.forall_mem_cons.mpr ⟨lv_neT (k := 19) (a := 19) ck19 (by decide), (List.forall_mem_cons.mpr ⟨lv_neT (k := 20) (a := 20) ck20 (by decide), (List.forall_mem_cons.mpr ⟨lv_neT (k := 21) (a := 21) ck21 (by decide), (List.forall_mem_cons.mpr ⟨lv_neT (k := 22) (a := 22) ck22 (by decide), (List.forall_mem_cons.mpr ⟨lv_neT (k := 23) (a := 23) ck23 (by decide), (List.forall_mem_cons.mpr ⟨lv_neT (k := 24) (a := 24) ck24 (by decide), (List.forall_mem_cons.mpr ⟨lv_neT (k := 25) (a := 25) ck25 (by decide), (List.forall_mem_cons.mpr ⟨lv_neT (k := 26) (a := 26) ck26 (by decide), (List.forall_mem_cons.mpr ⟨lv_neT (k := 27) (a := 27) ck27 (by decide), (List.forall_mem_cons.mpr ⟨lv_neT (k := 28) (a := 28) ck28 (by decide), (List.forall_mem_cons.mpr ⟨lv_neT (k := 29) (a := 29) ck29 (by decide), (List.forall_mem_cons.mpr ⟨lv_neT (k := 30) (a := 30) ck30 (by decide), (List.forall_mem_cons.mpr ⟨lv_neT (k := 31) (a := 31) ck31 (by decide), (List.forall_mem_cons.mpr ⟨lv_neT (k := 32) (a := 32) ck32 (by decide), (List.forall_mem_cons.mpr ⟨lv_neT (k := 33) (a := 33) ck33 (by decide), (List.forall_mem_cons.mpr ⟨lv_neT (k := 34) (a := 34) ck34 (by decide), (List.forall_mem_cons.mpr ⟨lv_neT (k := 35) (a := 35) ck35 (by decide), (List.forall_mem_cons.mpr ⟨lv_neT (k := 36) (a := 36) ck36 (by decide), (List.forall_mem_cons.mpr ⟨lv_neT (k := 37) (a := 37) ck37 (by decide), (List.forall_mem_cons.mpr ⟨lv_neT (k := 38) (a := 38) ck38 (by decide), (fun _ h => absurd h List.not_mem_nil)⟩)⟩)⟩)⟩)⟩)⟩)⟩)⟩)⟩)⟩)⟩)⟩)⟩)⟩)⟩)⟩)⟩)⟩)⟩)⟩)⟩)⟩)⟩)⟩)⟩)⟩)⟩)⟩)⟩)⟩)⟩)⟩)⟩)⟩)⟩)⟩)⟩)⟩)⟩)).elim
