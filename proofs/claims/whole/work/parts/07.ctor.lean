
/-- the contract of a constructor: out of the new object's cell the world wd u, with mc cells of ms slots more -/
def Kn {B : Type} (l : Launch) (y : MethodName) (w : List Cond) (rm : Room) (D : va_G) (cI : ClassId) (o : Nat) (w0 : va_W) (wd : B → va_W) (mc ms : Nat) : Prop :=
  ∀ sz : Nat, Met l y w rm (va_Pc [.ref o] (fun U => U.heap.size = sz ∧ va_P D vwCl w0 U.heap ∧ va_K D vwCl [(cI, .int)] U ∧ va_D (fun _ => True) w0))
    (va_Qv (fun _ : B => True) (fun u t => va_P D vwCl (wd u) t.heap ∧ va_K D vwCl [(cI, .int)] t ∧ va_D (va_A w0 sz) (wd u)) (va_A w0 sz)) mc ms (va_A w0 sz)
theorem Kn.mk {B : Type} {l : Launch} {y : MethodName} {w w' : List Cond} {rm : Room} {D : va_G} {cI : ClassId} {o : Nat} {w0 : va_W} {wd : B → va_W} {mc ms : Nat} {cc : ByteArray} {maxL : Nat}
    (hy : plainName y.cls = true) (hw : w = Cond.code y cc maxL none :: w') (hlen : (lg_sl [.ref o]).length ≤ maxL)
    (body : ∀ (p : Program) (e : Env) (s : State) (m : MethodId) (below : List Frame) (meth : Method) (c : Code) (A : Nat → Prop) (ls : Array Slot) (Q : State → Prop),
      p.tables.exec = Jvm.exec → c.code = cc → c.maxLocals = maxL → s.vm.findClass y.cls = some m.cls → (∀ q ∈ w, q.before ([.ref o] : List Value).toArray s = true) → va_K D vwCl [(cI, .int)] s → (∀ q, s.heap.size ≤ q → A q) →
      va_P D vwCl w0 s.heap → va_D A w0 → va_S A s.heap s.heap [] → lv_has ls maxL (lv_args 0 [.ref o]) → meth.sig.returnType = none → meth.locks = false → meth.name = y.name →
      Q = MQ below (va_Qv (fun _ : B => True) (fun u t => va_P D vwCl (wd u) t.heap ∧ va_K D vwCl [(cI, .int)] t ∧ va_D A (wd u)) A) ([.ref o] : List Value).toArray s mc ms A →
      W p l e rm s m ([.ref o] : List Value).toArray below meth c s.heap [] 0 0 Q (F0 m 0 ls [])) : Kn l y w rm D cI o w0 wd mc ms := by
  intro sz
  refine Met.ofW (cc := cc) (maxL := maxL) (ret := none) hy hw ?_
  intro p e s m args below meth c s₁ B hml hv
  obtain ⟨rfl, hsz, hP, hK, hD0⟩ := hv
  subst hsz
  rw [lg_entry_eq]
  exact body p e s m below meth c _ _ _ B.exec B.bytes hml (findClass_of_methodNamed B.named) (atoms_spec (ws := w) B.pre) hK (fun q h => Or.inr h) hP (hD0.self (sz := s.heap.size)) va_S.rf (lv_entry [.ref o] hlen) B.returns B.notSynchronized (name_of_methodNamed B.named B.method).1 rfl
theorem kv {B : Type} {p : Program} {l : Launch} {e : Env} {R : Room} {s : State} {m : MethodId} {args : Array Value} {below : List Frame} {meth : Method} {c : Code} {H : Heap} {locs : List Loc} {D : va_G} {cI : ClassId} {A : Nat → Prop} {wd : B → va_W} {cc : ByteArray} {pc mc ms : Nat} {ls : Array Slot} {Q : State → Prop}
    (hx : p.tables.exec = Jvm.exec) (hb : c.code = cc) (hK : va_K D vwCl [(cI, .int)] s) (hr : meth.sig.returnType = none) (hlk : meth.locks = false) (u : B)
    (hQ : Q = MQ below (va_Qv (fun _ : B => True) (fun u t => va_P D vwCl (wd u) t.heap ∧ va_K D vwCl [(cI, .int)] t ∧ va_D A (wd u)) A) args s mc ms A)
    (hdg : decode cc pc = .ok (.return_, 1)) (hP : va_P D vwCl (wd u) H) (hD : va_D A (wd u)) (hS : va_S A s.heap H locs) :
    W p l e R s m args below meth c H locs mc ms Q (F0 m pc ls []) := by
  subst hQ
  exact W.vret hx hb hr (fun t ht hW => ⟨⟨u, rfl, trivial, by rw [ht]; exact hP, va_K.moved hW.alike hK, hD⟩, hS.F ht⟩) hS.2.2 hdg hlk
/-- a constructor's call, on the world's last cell -/
theorem calK {B : Type} {p : Program} {l : Launch} {e : Env} {R : Room} {s : State} {m : MethodId} {args : Array Value} {below : List Frame} {meth : Method} {c : Code} {H H0 : Heap} {locs : List Loc} {cells slots : Nat} {D : va_G} {cI : ClassId} {A : Nat → Prop} {ws w0 wr : va_W} {wd : B → va_W} {cc bytes : ByteArray} {pc nL index maxL mc ms : Nat} {ls : Array Slot} {Q : State → Prop} {y : MethodName} {w w' Ts : List Cond} {rm : Room} {b : Nat} {rest : List Value} {own : String}
    (fx : CallFix p m c cc nL s args Ts own) (hC : Kn l y w rm D cI b w0 wd mc ms) (hG : GoodIn Ts w) (hw : w = Cond.code y bytes maxL none :: w') (hrc : rm.cells = mc) (hrs : rm.slots = ms) (hini : (Cond.initialized y.cls).before args s = true) (hlk : (Cond.methodLink own index y).before args s = true) (hin : (Cond.instanceMethod y).before args s = true) (hy1 : y.name = "<init>")
    (hd : y.cls ≠ "java/lang/invoke/MethodHandle" ∧ y.cls ≠ "java/lang/invoke/VarHandle" ∧ (parseMethodDescriptor y.desc).map (fun d => d.parameters.length) = some 0) (hR : rm.frames + 1 ≤ R.frames ∧ 8 + (maxL + 11) + rm.locals ≤ R.locals)
    (hK : va_K D vwCl [(cI, .int)] s) (hP : va_P D vwCl ws H) (hD : va_D A ws) (hS : va_S A H0 H locs) (hA : ∀ q, H0.size ≤ q → A q)
    (isC isR : List Nat) (h1 : isC.map (fun i => ws[i]?) = w0.map some) (h2 : isR.map (fun i => ws[i]?) = wr.map some) (hnC : va_nd isC = true) (hn : va_nd isR = true) (hdis : ∀ i ∈ isR, i ∉ isC)
    (hsz : ls.size = nL) (hW : (rest.map fun v => v.category).sum ≤ 8) (hdg : decode cc pc = .ok (.invokespecial index, 3)) (hcs : cells + mc ≤ R.cells ∧ slots + ms ≤ R.slots)
    (kk : ∀ (u : B) (H1 : Heap) (locs1 : List Loc), va_P D vwCl (wr ++ wd u) H1 → va_D A (wr ++ wd u) → va_S A H0 H1 locs1 → W p l e R s m args below meth c H1 locs1 (cells + mc) (slots + ms) Q (F0 m (pc + 3) ls rest)) : W p l e R s m args below meth c H locs cells slots Q (F0 m pc ls (.ref b :: rest)) := by
  have hPc : va_P D vwCl w0 H := by
    intro k q hq
    have g1 : (isC.map (fun i => ws[i]?))[k]? = some (some q) := by rw [h1, List.getElem?_map, hq]; rfl
    rw [List.getElem?_map] at g1
    cases hi : isC[k]? with
    | none => rw [hi] at g1; cases g1
    | some i => rw [hi] at g1; exact hP i q (Option.some.inj g1)
  have hDc := hD.sub isC hnC h1
  have hFc := va_free hD hS hA isC h1
  refine va_callv (va_runI (As := []) (rest := rest) fx (hC H.size) (cwI 0 fx.2.2.2.2 hG hw hrc hrs hini hlk hin hy1 hd hR) ⟨fun a U g mk q => by obtain ⟨q0, q1, qP, qK, qD⟩ := q; exact ⟨q0, q1, qP, va_K.moved (u := U) (U := U.calling g mk a) (Vm.Alike.refl U.vm) qK, qD⟩, fun U hU hW => ⟨rfl, by rw [hU], by rw [hU]; exact hPc, va_K.moved hW.alike hK, hDc.weaken (fun _ _ _ _ => trivial)⟩⟩ rfl rfl hsz rfl (lv_room hW) hdg hcs) hS (fun q _ h => hFc q h) hFc (fun u t H1 locs1 ht hvm hw hB hz1 hk1 hS1 => ?_)
  obtain ⟨hP1, hK1, hD1⟩ := hB
  rw [ht] at hP1
  obtain ⟨hP2, hD2⟩ := va_join hP hD isC isR h1 h2 hn hdis hk1 hFc hP1 hD1
  exact kk u H1 locs1 hP2 hD2 hS1
theorem cA_eq {D : va_G} {cI cA : ClassId} {s : State} (h : va_K D vwCl ([(cI, .int)] ++ [(cA, .int)]) s) : cA = cI := by
  have h1 : s.vm.findClass ("[" ++ (FieldType.int).toString) = some cI := (h.2 0 (cI, .int) rfl).2
  have h2 : s.vm.findClass ("[" ++ (FieldType.int).toString) = some cA := (h.2 1 (cA, .int) rfl).2
  exact Option.some.inj (h2.symm.trans h1)
def Z0 : G := (fun _ => 0, fun _ _ => 0)
def Z4 : G := (fun k => if k = 9 then 8 else 0, fun _ _ => 0)
def Z7 : G := (fun k => if k = 10 then 8 else if k = 11 then -9 else 0, fun _ _ => 0)
abbrev rmX4_init : Room := { frames := 1, cells := 6, slots := 44, locals := 12 }
set_option maxHeartbeats 4000000 in
set_option maxRecDepth 100000 in
theorem i_X4 (l : Launch) (D : va_G) (cI : ClassId) (o : Nat) : Kn (B := (Nat → Nat)) l yX4_init wsX4_init rmX4_init D cI o [(o, .inr (4, [.int 0, .null, .null, .int 0, .null, .null, .null, .null, .int 0, .int 0]))] (fun u => gX4 o u cI Z4) 6 44 := by
  refine Kn.mk (cc := cX4_init) (maxL := 1) (by decide) rfl (Nat.le_of_ble_eq_true rfl) ?_
  intro p e s m below meth c A ls Q hx hb hml hown hts hK hA hP hD hS hl hr hlk hnm hQ
  have hown : s.vm.findClass RX4 = some m.cls := hown
  have hinX4 : ∀ w ∈ u_ws RX4 TX4 10, w ∈ wsX4_init := by decide +kernel
  have hl : lv_has ls 1 [(0, .ref o)] := hl
  refine lv_aload_n hx hb dX4_init_0 rfl (lv_at hl 0 rfl) ?_
  refine W.objInit hx hb hown (hts (.methodLink RX4 3 objectInit) (by decide +kernel)) (hts (.instanceMethod objectInit) (by decide +kernel)) (hts _ (List.mem_cons_of_mem _ (List.mem_append_left _ (List.mem_of_getElem? (i := 2) rfl)))) rfl (by rw [hml]; exact hl.1) rfl dX4_init_1 (by decide) (Nat.le_of_ble_eq_true rfl) ?_
  refine W.eq (g2 := F0 m 4 ls []) rfl ?_
  refine lv_aload_n hx hb dX4_init_4 rfl (lv_at hl 0 rfl) ?_
  refine lv_bipush (v := (6 : Int32)) hx hb dX4_init_5 (by decide) ?_
  refine va_newa (atype := .int) (n := (6 : Int32)) (N' := 6) (a0 := (6, .inl (fun _ => 0))) hx hb (hts (.arrayClass .int) (by decide +kernel)) rfl hK hP hD hS hA (fun _ => rfl) (by decide) (by decide) (by decide) (by decide) (by decide) dX4_init_7 (fun q7 cA H hK2 hP hD hS => ?_)
  have ecA := cA_eq hK2
  rw [ecA] at hP hD
  clear hK2 ecA cA
  have hP : va_P D vwCl ([(o, .inr (4, [.int 0, .null, .null, .int 0, .null, .null, .null, .null, .int 0, .int 0])), (q7, .inl (cI, 6, .inl (fun _ => 0)))]) H := hP
  have hD : va_D A ([(o, .inr (4, [.int 0, .null, .null, .int 0, .null, .null, .null, .null, .int 0, .int 0])), (q7, .inl (cI, 6, .inl (fun _ => 0)))]) := hD
  refine W.widen (k := 1) (n := 6) (by decide) (by decide) ?_
  refine va_putF (D := D) (ci := 4) (v := .ref q7) (ty := .array .int) (C := RX4) (T := TX4) (N := 10) hx hb hts hinX4 tyX4 tyX4_ok nmX4 hown hK hP hD hS 0 rfl rfl 1 (by decide) (hts (.fieldLink RX4 9 "OnlyStrangersHear$Town" "hour" "[I") (by decide +kernel)) (fun _ h9 => h9) rfl hnm rfl (by decide +kernel) rfl rfl (Nat.le_of_ble_eq_true rfl) dX4_init_9 (fun H locs hP hD hS => ?_)
  have hP : va_P D vwCl ([(o, .inr (4, [.int 0, .ref q7, .null, .int 0, .null, .null, .null, .null, .int 0, .int 0])), (q7, .inl (cI, 6, .inl (fun _ => 0)))]) H := hP
  have hD : va_D A ([(o, .inr (4, [.int 0, .ref q7, .null, .int 0, .null, .null, .null, .null, .int 0, .int 0])), (q7, .inl (cI, 6, .inl (fun _ => 0)))]) := hD
  refine lv_aload_n hx hb dX4_init_12 rfl (lv_at hl 0 rfl) ?_
  refine lv_bipush (v := (6 : Int32)) hx hb dX4_init_13 (by decide) ?_
  refine va_newa (atype := .int) (n := (6 : Int32)) (N' := 6) (a0 := (6, .inl (fun _ => 0))) hx hb (hts (.arrayClass .int) (by decide +kernel)) rfl hK hP hD hS hA (fun _ => rfl) (by decide) (by decide) (by decide) (by decide) (by decide) dX4_init_15 (fun q15 cA H hK2 hP hD hS => ?_)
  have ecA := cA_eq hK2
  rw [ecA] at hP hD
  clear hK2 ecA cA
  have hP : va_P D vwCl ([(o, .inr (4, [.int 0, .ref q7, .null, .int 0, .null, .null, .null, .null, .int 0, .int 0])), (q7, .inl (cI, 6, .inl (fun _ => 0))), (q15, .inl (cI, 6, .inl (fun _ => 0)))]) H := hP
  have hD : va_D A ([(o, .inr (4, [.int 0, .ref q7, .null, .int 0, .null, .null, .null, .null, .int 0, .int 0])), (q7, .inl (cI, 6, .inl (fun _ => 0))), (q15, .inl (cI, 6, .inl (fun _ => 0)))]) := hD
  refine W.widen (k := 2) (n := 12) (by decide) (by decide) ?_
  refine va_putF (D := D) (ci := 4) (v := .ref q15) (ty := .array .int) (C := RX4) (T := TX4) (N := 10) hx hb hts hinX4 tyX4 tyX4_ok nmX4 hown hK hP hD hS 0 rfl rfl 2 (by decide) (hts (.fieldLink RX4 15 "OnlyStrangersHear$Town" "every" "[I") (by decide +kernel)) (fun _ h9 => h9) rfl hnm rfl (by decide +kernel) rfl rfl (Nat.le_of_ble_eq_true rfl) dX4_init_17 (fun H locs hP hD hS => ?_)
  have hP : va_P D vwCl ([(o, .inr (4, [.int 0, .ref q7, .ref q15, .int 0, .null, .null, .null, .null, .int 0, .int 0])), (q7, .inl (cI, 6, .inl (fun _ => 0))), (q15, .inl (cI, 6, .inl (fun _ => 0)))]) H := hP
  have hD : va_D A ([(o, .inr (4, [.int 0, .ref q7, .ref q15, .int 0, .null, .null, .null, .null, .int 0, .int 0])), (q7, .inl (cI, 6, .inl (fun _ => 0))), (q15, .inl (cI, 6, .inl (fun _ => 0)))]) := hD
  refine lv_aload_n hx hb dX4_init_20 rfl (lv_at hl 0 rfl) ?_
  refine lv_bipush (v := (8 : Int32)) hx hb dX4_init_21 (by decide) ?_
  refine va_newa (atype := .int) (n := (8 : Int32)) (N' := 8) (a0 := (8, .inl (fun _ => 0))) hx hb (hts (.arrayClass .int) (by decide +kernel)) rfl hK hP hD hS hA (fun _ => rfl) (by decide) (by decide) (by decide) (by decide) (by decide) dX4_init_23 (fun q23 cA H hK2 hP hD hS => ?_)
  have ecA := cA_eq hK2
  rw [ecA] at hP hD
  clear hK2 ecA cA
  have hP : va_P D vwCl ([(o, .inr (4, [.int 0, .ref q7, .ref q15, .int 0, .null, .null, .null, .null, .int 0, .int 0])), (q7, .inl (cI, 6, .inl (fun _ => 0))), (q15, .inl (cI, 6, .inl (fun _ => 0))), (q23, .inl (cI, 8, .inl (fun _ => 0)))]) H := hP
  have hD : va_D A ([(o, .inr (4, [.int 0, .ref q7, .ref q15, .int 0, .null, .null, .null, .null, .int 0, .int 0])), (q7, .inl (cI, 6, .inl (fun _ => 0))), (q15, .inl (cI, 6, .inl (fun _ => 0))), (q23, .inl (cI, 8, .inl (fun _ => 0)))]) := hD
  refine W.widen (k := 3) (n := 20) (by decide) (by decide) ?_
  refine va_putF (D := D) (ci := 4) (v := .ref q23) (ty := .array .int) (C := RX4) (T := TX4) (N := 10) hx hb hts hinX4 tyX4 tyX4_ok nmX4 hown hK hP hD hS 0 rfl rfl 4 (by decide) (hts (.fieldLink RX4 18 "OnlyStrangersHear$Town" "kind" "[I") (by decide +kernel)) (fun _ h9 => h9) rfl hnm rfl (by decide +kernel) rfl rfl (Nat.le_of_ble_eq_true rfl) dX4_init_25 (fun H locs hP hD hS => ?_)
  have hP : va_P D vwCl ([(o, .inr (4, [.int 0, .ref q7, .ref q15, .int 0, .ref q23, .null, .null, .null, .int 0, .int 0])), (q7, .inl (cI, 6, .inl (fun _ => 0))), (q15, .inl (cI, 6, .inl (fun _ => 0))), (q23, .inl (cI, 8, .inl (fun _ => 0)))]) H := hP
  have hD : va_D A ([(o, .inr (4, [.int 0, .ref q7, .ref q15, .int 0, .ref q23, .null, .null, .null, .int 0, .int 0])), (q7, .inl (cI, 6, .inl (fun _ => 0))), (q15, .inl (cI, 6, .inl (fun _ => 0))), (q23, .inl (cI, 8, .inl (fun _ => 0)))]) := hD
  refine lv_aload_n hx hb dX4_init_28 rfl (lv_at hl 0 rfl) ?_
  refine lv_bipush (v := (8 : Int32)) hx hb dX4_init_29 (by decide) ?_
  refine va_newa (atype := .int) (n := (8 : Int32)) (N' := 8) (a0 := (8, .inl (fun _ => 0))) hx hb (hts (.arrayClass .int) (by decide +kernel)) rfl hK hP hD hS hA (fun _ => rfl) (by decide) (by decide) (by decide) (by decide) (by decide) dX4_init_31 (fun q31 cA H hK2 hP hD hS => ?_)
  have ecA := cA_eq hK2
  rw [ecA] at hP hD
  clear hK2 ecA cA
  have hP : va_P D vwCl ([(o, .inr (4, [.int 0, .ref q7, .ref q15, .int 0, .ref q23, .null, .null, .null, .int 0, .int 0])), (q7, .inl (cI, 6, .inl (fun _ => 0))), (q15, .inl (cI, 6, .inl (fun _ => 0))), (q23, .inl (cI, 8, .inl (fun _ => 0))), (q31, .inl (cI, 8, .inl (fun _ => 0)))]) H := hP
  have hD : va_D A ([(o, .inr (4, [.int 0, .ref q7, .ref q15, .int 0, .ref q23, .null, .null, .null, .int 0, .int 0])), (q7, .inl (cI, 6, .inl (fun _ => 0))), (q15, .inl (cI, 6, .inl (fun _ => 0))), (q23, .inl (cI, 8, .inl (fun _ => 0))), (q31, .inl (cI, 8, .inl (fun _ => 0)))]) := hD
  refine W.widen (k := 4) (n := 28) (by decide) (by decide) ?_
  refine va_putF (D := D) (ci := 4) (v := .ref q31) (ty := .array .int) (C := RX4) (T := TX4) (N := 10) hx hb hts hinX4 tyX4 tyX4_ok nmX4 hown hK hP hD hS 0 rfl rfl 5 (by decide) (hts (.fieldLink RX4 21 "OnlyStrangersHear$Town" "figure" "[I") (by decide +kernel)) (fun _ h9 => h9) rfl hnm rfl (by decide +kernel) rfl rfl (Nat.le_of_ble_eq_true rfl) dX4_init_33 (fun H locs hP hD hS => ?_)
  have hP : va_P D vwCl ([(o, .inr (4, [.int 0, .ref q7, .ref q15, .int 0, .ref q23, .ref q31, .null, .null, .int 0, .int 0])), (q7, .inl (cI, 6, .inl (fun _ => 0))), (q15, .inl (cI, 6, .inl (fun _ => 0))), (q23, .inl (cI, 8, .inl (fun _ => 0))), (q31, .inl (cI, 8, .inl (fun _ => 0)))]) H := hP
  have hD : va_D A ([(o, .inr (4, [.int 0, .ref q7, .ref q15, .int 0, .ref q23, .ref q31, .null, .null, .int 0, .int 0])), (q7, .inl (cI, 6, .inl (fun _ => 0))), (q15, .inl (cI, 6, .inl (fun _ => 0))), (q23, .inl (cI, 8, .inl (fun _ => 0))), (q31, .inl (cI, 8, .inl (fun _ => 0)))]) := hD
  refine lv_aload_n hx hb dX4_init_36 rfl (lv_at hl 0 rfl) ?_
  refine lv_bipush (v := (8 : Int32)) hx hb dX4_init_37 (by decide) ?_
  refine va_newa (atype := .int) (n := (8 : Int32)) (N' := 8) (a0 := (8, .inl (fun _ => 0))) hx hb (hts (.arrayClass .int) (by decide +kernel)) rfl hK hP hD hS hA (fun _ => rfl) (by decide) (by decide) (by decide) (by decide) (by decide) dX4_init_39 (fun q39 cA H hK2 hP hD hS => ?_)
  have ecA := cA_eq hK2
  rw [ecA] at hP hD
  clear hK2 ecA cA
  have hP : va_P D vwCl ([(o, .inr (4, [.int 0, .ref q7, .ref q15, .int 0, .ref q23, .ref q31, .null, .null, .int 0, .int 0])), (q7, .inl (cI, 6, .inl (fun _ => 0))), (q15, .inl (cI, 6, .inl (fun _ => 0))), (q23, .inl (cI, 8, .inl (fun _ => 0))), (q31, .inl (cI, 8, .inl (fun _ => 0))), (q39, .inl (cI, 8, .inl (fun _ => 0)))]) H := hP
  have hD : va_D A ([(o, .inr (4, [.int 0, .ref q7, .ref q15, .int 0, .ref q23, .ref q31, .null, .null, .int 0, .int 0])), (q7, .inl (cI, 6, .inl (fun _ => 0))), (q15, .inl (cI, 6, .inl (fun _ => 0))), (q23, .inl (cI, 8, .inl (fun _ => 0))), (q31, .inl (cI, 8, .inl (fun _ => 0))), (q39, .inl (cI, 8, .inl (fun _ => 0)))]) := hD
  refine W.widen (k := 5) (n := 36) (by decide) (by decide) ?_
  refine va_putF (D := D) (ci := 4) (v := .ref q39) (ty := .array .int) (C := RX4) (T := TX4) (N := 10) hx hb hts hinX4 tyX4 tyX4_ok nmX4 hown hK hP hD hS 0 rfl rfl 6 (by decide) (hts (.fieldLink RX4 24 "OnlyStrangersHear$Town" "slept" "[I") (by decide +kernel)) (fun _ h9 => h9) rfl hnm rfl (by decide +kernel) rfl rfl (Nat.le_of_ble_eq_true rfl) dX4_init_41 (fun H locs hP hD hS => ?_)
  have hP : va_P D vwCl ([(o, .inr (4, [.int 0, .ref q7, .ref q15, .int 0, .ref q23, .ref q31, .ref q39, .null, .int 0, .int 0])), (q7, .inl (cI, 6, .inl (fun _ => 0))), (q15, .inl (cI, 6, .inl (fun _ => 0))), (q23, .inl (cI, 8, .inl (fun _ => 0))), (q31, .inl (cI, 8, .inl (fun _ => 0))), (q39, .inl (cI, 8, .inl (fun _ => 0)))]) H := hP
  have hD : va_D A ([(o, .inr (4, [.int 0, .ref q7, .ref q15, .int 0, .ref q23, .ref q31, .ref q39, .null, .int 0, .int 0])), (q7, .inl (cI, 6, .inl (fun _ => 0))), (q15, .inl (cI, 6, .inl (fun _ => 0))), (q23, .inl (cI, 8, .inl (fun _ => 0))), (q31, .inl (cI, 8, .inl (fun _ => 0))), (q39, .inl (cI, 8, .inl (fun _ => 0)))]) := hD
  refine lv_aload_n hx hb dX4_init_44 rfl (lv_at hl 0 rfl) ?_
  refine lv_bipush (v := (8 : Int32)) hx hb dX4_init_45 (by decide) ?_
  refine va_newa (atype := .int) (n := (8 : Int32)) (N' := 8) (a0 := (8, .inl (fun _ => 0))) hx hb (hts (.arrayClass .int) (by decide +kernel)) rfl hK hP hD hS hA (fun _ => rfl) (by decide) (by decide) (by decide) (by decide) (by decide) dX4_init_47 (fun q47 cA H hK2 hP hD hS => ?_)
  have ecA := cA_eq hK2
  rw [ecA] at hP hD
  clear hK2 ecA cA
  have hP : va_P D vwCl ([(o, .inr (4, [.int 0, .ref q7, .ref q15, .int 0, .ref q23, .ref q31, .ref q39, .null, .int 0, .int 0])), (q7, .inl (cI, 6, .inl (fun _ => 0))), (q15, .inl (cI, 6, .inl (fun _ => 0))), (q23, .inl (cI, 8, .inl (fun _ => 0))), (q31, .inl (cI, 8, .inl (fun _ => 0))), (q39, .inl (cI, 8, .inl (fun _ => 0))), (q47, .inl (cI, 8, .inl (fun _ => 0)))]) H := hP
  have hD : va_D A ([(o, .inr (4, [.int 0, .ref q7, .ref q15, .int 0, .ref q23, .ref q31, .ref q39, .null, .int 0, .int 0])), (q7, .inl (cI, 6, .inl (fun _ => 0))), (q15, .inl (cI, 6, .inl (fun _ => 0))), (q23, .inl (cI, 8, .inl (fun _ => 0))), (q31, .inl (cI, 8, .inl (fun _ => 0))), (q39, .inl (cI, 8, .inl (fun _ => 0))), (q47, .inl (cI, 8, .inl (fun _ => 0)))]) := hD
  refine W.widen (k := 6) (n := 44) (by decide) (by decide) ?_
  refine va_putF (D := D) (ci := 4) (v := .ref q47) (ty := .array .int) (C := RX4) (T := TX4) (N := 10) hx hb hts hinX4 tyX4 tyX4_ok nmX4 hown hK hP hD hS 0 rfl rfl 7 (by decide) (hts (.fieldLink RX4 27 "OnlyStrangersHear$Town" "away" "[I") (by decide +kernel)) (fun _ h9 => h9) rfl hnm rfl (by decide +kernel) rfl rfl (Nat.le_of_ble_eq_true rfl) dX4_init_49 (fun H locs hP hD hS => ?_)
  have hP : va_P D vwCl ([(o, .inr (4, [.int 0, .ref q7, .ref q15, .int 0, .ref q23, .ref q31, .ref q39, .ref q47, .int 0, .int 0])), (q7, .inl (cI, 6, .inl (fun _ => 0))), (q15, .inl (cI, 6, .inl (fun _ => 0))), (q23, .inl (cI, 8, .inl (fun _ => 0))), (q31, .inl (cI, 8, .inl (fun _ => 0))), (q39, .inl (cI, 8, .inl (fun _ => 0))), (q47, .inl (cI, 8, .inl (fun _ => 0)))]) H := hP
  have hD : va_D A ([(o, .inr (4, [.int 0, .ref q7, .ref q15, .int 0, .ref q23, .ref q31, .ref q39, .ref q47, .int 0, .int 0])), (q7, .inl (cI, 6, .inl (fun _ => 0))), (q15, .inl (cI, 6, .inl (fun _ => 0))), (q23, .inl (cI, 8, .inl (fun _ => 0))), (q31, .inl (cI, 8, .inl (fun _ => 0))), (q39, .inl (cI, 8, .inl (fun _ => 0))), (q47, .inl (cI, 8, .inl (fun _ => 0)))]) := hD
  refine lv_aload_n hx hb dX4_init_52 rfl (lv_at hl 0 rfl) ?_
  refine lv_bipush (v := (8 : Int32)) hx hb dX4_init_53 (by decide) ?_
  refine va_put (D := D) (ci := 4) (v := .int (8 : Int32)) (ty := .int) (C := RX4) (T := TX4) (N := 10) hx hb hts hinX4 tyX4 tyX4_ok nmX4 hown hK hP hD hS 0 rfl rfl 9 (by decide) (hts (.fieldLink RX4 30 "OnlyStrangersHear$Town" "bedCount" "I") (by decide +kernel)) (fun _ h9 => h9) rfl (by decide +kernel) rfl rfl (Nat.le_of_ble_eq_true rfl) dX4_init_55 (fun H locs hP hD hS => ?_)
  have hP : va_P D vwCl ([(o, .inr (4, [.int 0, .ref q7, .ref q15, .int 0, .ref q23, .ref q31, .ref q39, .ref q47, .int 0, .int (8 : Int32)])), (q7, .inl (cI, 6, .inl (fun _ => 0))), (q15, .inl (cI, 6, .inl (fun _ => 0))), (q23, .inl (cI, 8, .inl (fun _ => 0))), (q31, .inl (cI, 8, .inl (fun _ => 0))), (q39, .inl (cI, 8, .inl (fun _ => 0))), (q47, .inl (cI, 8, .inl (fun _ => 0)))]) H := hP
  have hD : va_D A ([(o, .inr (4, [.int 0, .ref q7, .ref q15, .int 0, .ref q23, .ref q31, .ref q39, .ref q47, .int 0, .int (8 : Int32)])), (q7, .inl (cI, 6, .inl (fun _ => 0))), (q15, .inl (cI, 6, .inl (fun _ => 0))), (q23, .inl (cI, 8, .inl (fun _ => 0))), (q31, .inl (cI, 8, .inl (fun _ => 0))), (q39, .inl (cI, 8, .inl (fun _ => 0))), (q47, .inl (cI, 8, .inl (fun _ => 0)))]) := hD
  obtain ⟨U, hU⟩ : ∃ U : (Nat → Nat), U = (fun k : Nat => if k = 1 then q7 else if k = 2 then q15 else if k = 4 then q23 else if k = 5 then q31 else if k = 6 then q39 else if k = 7 then q47 else 0) := ⟨_, rfl⟩
  have hP9 : va_P D vwCl (gX4 o U cI Z4) H := by rw [hU]; exact hP.sub [0, 1, 2, 3, 4, 5, 6] rfl
  have hD9 : va_D A (gX4 o U cI Z4) := by rw [hU]; exact hD.sub [0, 1, 2, 3, 4, 5, 6] (by decide) rfl
  exact kv hx hb hK hr hlk U hQ dX4_init_58 hP9 hD9 hS
abbrev rmX0_init : Room := { frames := 2, cells := 8, slots := 150, locals := 32 }
set_option maxHeartbeats 4000000 in
set_option maxRecDepth 100000 in
theorem i_X0 (l : Launch) (D : va_G) (cI : ClassId) (o : Nat) : Kn (B := (Nat → Nat) × (Nat → Nat)) l yX0_init wsX0_init rmX0_init D cI o [(o, .inr (0, [.null, .null, .int 0]))] (fun u => gX0 o u.1 cI Z0 ++ gX4 (u.1 1) u.2 cI Z4) 8 150 := by
  refine Kn.mk (cc := cX0_init) (maxL := 1) (by decide) rfl (Nat.le_of_ble_eq_true rfl) ?_
  intro p e s m below meth c A ls Q hx hb hml hown hts hK hA hP hD hS hl hr hlk hnm hQ
  have hown : s.vm.findClass RX0 = some m.cls := hown
  have hinX0 : ∀ w ∈ u_ws RX0 TX0 3, w ∈ wsX0_init := by decide +kernel
  have hinX4 : ∀ w ∈ u_ws RX4 TX4 10, w ∈ wsX0_init := by decide +kernel
  have hl : lv_has ls 1 [(0, .ref o)] := hl
  refine lv_aload_n hx hb dX0_init_0 rfl (lv_at hl 0 rfl) ?_
  refine W.objInit hx hb hown (hts (.methodLink RX0 3 objectInit) (by decide +kernel)) (hts (.instanceMethod objectInit) (by decide +kernel)) (hts _ (List.mem_cons_of_mem _ (List.mem_append_left _ (List.mem_of_getElem? (i := 2) rfl)))) rfl (by rw [hml]; exact hl.1) rfl dX0_init_1 (by decide) (Nat.le_of_ble_eq_true rfl) ?_
  refine W.eq (g2 := F0 m 4 ls []) rfl ?_
  refine lv_aload_n hx hb dX0_init_4 rfl (lv_at hl 0 rfl) ?_
  refine lv_bipush (v := (96 : Int32)) hx hb dX0_init_5 (by decide) ?_
  refine va_newa (atype := .int) (n := (96 : Int32)) (N' := 96) (a0 := (96, .inl (fun _ => 0))) hx hb (hts (.arrayClass .int) (by decide +kernel)) rfl hK hP hD hS hA (fun _ => rfl) (by decide) (by decide) (by decide) (by decide) (by decide) dX0_init_7 (fun q7 cA H hK2 hP hD hS => ?_)
  have ecA := cA_eq hK2
  rw [ecA] at hP hD
  clear hK2 ecA cA
  have hP : va_P D vwCl ([(o, .inr (0, [.null, .null, .int 0])), (q7, .inl (cI, 96, .inl (fun _ => 0)))]) H := hP
  have hD : va_D A ([(o, .inr (0, [.null, .null, .int 0])), (q7, .inl (cI, 96, .inl (fun _ => 0)))]) := hD
  refine W.widen (k := 1) (n := 96) (by decide) (by decide) ?_
  refine va_putF (D := D) (ci := 0) (v := .ref q7) (ty := .array .int) (C := RX0) (T := TX0) (N := 3) hx hb hts hinX0 tyX0 tyX0_ok nmX0 hown hK hP hD hS 0 rfl rfl 0 (by decide) (hts (.fieldLink RX0 9 "OnlyStrangersHear$Letters" "signs" "[I") (by decide +kernel)) (fun _ h9 => h9) rfl hnm rfl (by decide +kernel) rfl rfl (Nat.le_of_ble_eq_true rfl) dX0_init_9 (fun H locs hP hD hS => ?_)
  have hP : va_P D vwCl ([(o, .inr (0, [.ref q7, .null, .int 0])), (q7, .inl (cI, 96, .inl (fun _ => 0)))]) H := hP
  have hD : va_D A ([(o, .inr (0, [.ref q7, .null, .int 0])), (q7, .inl (cI, 96, .inl (fun _ => 0)))]) := hD
  refine lv_aload_n hx hb dX0_init_12 rfl (lv_at hl 0 rfl) ?_
  refine va_new (ci := 4) (fs := [.int 0, .null, .null, .int 0, .null, .null, .null, .null, .int 0, .int 0]) (C := RX4) (T := TX4) (N := 10) hx hb hts hinX4 tyX4 tyX4_ok hown (hts (.classLink RX0 15 RX4) (by decide +kernel)) (hts (.instantiable RX4 10) (by decide +kernel)) (hts (.initialized RX4) (by decide +kernel)) hK hP hD hS hA rfl (by decide) (by decide) (by decide) dX0_init_13 (fun q13 H hP hD hS => ?_)
  have hP : va_P D vwCl ([(o, .inr (0, [.ref q7, .null, .int 0])), (q7, .inl (cI, 96, .inl (fun _ => 0))), (q13, .inr (4, [.int 0, .null, .null, .int 0, .null, .null, .null, .null, .int 0, .int 0]))]) H := hP
  have hD : va_D A ([(o, .inr (0, [.ref q7, .null, .int 0])), (q7, .inl (cI, 96, .inl (fun _ => 0))), (q13, .inr (4, [.int 0, .null, .null, .int 0, .null, .null, .null, .null, .int 0, .int 0]))]) := hD
  refine W.widen (k := 2) (n := 106) (by decide) (by decide) ?_
  refine lv_dup hx hb dX0_init_16 rfl ?_
  refine calK (rest := [.ref q13, .ref o]) ⟨hx, hb, hml, hown, hts⟩ (i_X4 l D cI q13) gX0_init_X4_init rfl rfl rfl (hts (.initialized RX4) (by decide +kernel)) (hts (.methodLink RX0 17 yX4_init) (by decide +kernel)) (hts (.instanceMethod yX4_init) (by decide +kernel)) rfl (by decide +kernel) ⟨by decide, by decide⟩ hK hP hD hS hA [2] [0, 1] (wr := [(o, .inr (0, [.ref q7, .null, .int 0])), (q7, .inl (cI, 96, .inl (fun _ => 0)))]) rfl rfl (by decide) (by decide) (by decide) hl.1 (Nat.le_of_ble_eq_true rfl) dX0_init_17 ⟨by decide, by decide⟩ (fun u17 H locs hP hD hS => ?_)
  have hP : va_P D vwCl ([(o, .inr (0, [.ref q7, .null, .int 0])), (q7, .inl (cI, 96, .inl (fun _ => 0)))] ++ gX4 q13 u17 cI Z4) H := hP
  have hD : va_D A ([(o, .inr (0, [.ref q7, .null, .int 0])), (q7, .inl (cI, 96, .inl (fun _ => 0)))] ++ gX4 q13 u17 cI Z4) := hD
  refine W.widen (k := 8) (n := 150) (by decide) (by decide) ?_
  refine W.eq (g2 := F0 m 20 ls [.ref q13, .ref o]) rfl ?_
  refine va_putF (D := D) (ci := 0) (v := .ref q13) (ty := .object "OnlyStrangersHear$Town") (C := RX0) (T := TX0) (N := 3) hx hb hts hinX0 tyX0 tyX0_ok nmX0 hown hK hP hD hS 0 rfl rfl 1 (by decide) (hts (.fieldLink RX0 18 "OnlyStrangersHear$Letters" "draft" "LOnlyStrangersHear$Town;") (by decide +kernel)) (fun _ h9 => h9) rfl hnm rfl (by decide +kernel) rfl rfl (Nat.le_of_ble_eq_true rfl) dX0_init_20 (fun H locs hP hD hS => ?_)
  have hP : va_P D vwCl ([(o, .inr (0, [.ref q7, .ref q13, .int 0])), (q7, .inl (cI, 96, .inl (fun _ => 0)))] ++ gX4 q13 u17 cI Z4) H := hP
  have hD : va_D A ([(o, .inr (0, [.ref q7, .ref q13, .int 0])), (q7, .inl (cI, 96, .inl (fun _ => 0)))] ++ gX4 q13 u17 cI Z4) := hD
  obtain ⟨U, hU⟩ : ∃ U : (Nat → Nat) × (Nat → Nat), U = ((fun k : Nat => if k = 0 then q7 else if k = 1 then q13 else 0), u17) := ⟨_, rfl⟩
  have hP9 : va_P D vwCl (gX0 o U.1 cI Z0 ++ gX4 (U.1 1) U.2 cI Z4) H := by rw [hU]; exact hP.sub [0, 1, 2, 3, 4, 5, 6, 7, 8] rfl
  have hD9 : va_D A (gX0 o U.1 cI Z0 ++ gX4 (U.1 1) U.2 cI Z4) := by rw [hU]; exact hD.sub [0, 1, 2, 3, 4, 5, 6, 7, 8] (by decide) rfl
  exact kv hx hb hK hr hlk U hQ dX0_init_23 hP9 hD9 hS
abbrev rmX1_init : Room := { frames := 2, cells := 7, slots := 54, locals := 32 }
set_option maxHeartbeats 4000000 in
set_option maxRecDepth 100000 in
theorem i_X1 (l : Launch) (D : va_G) (cI : ClassId) (o : Nat) : Kn (B := (Nat → Nat) × (Nat → Nat)) l yX1_init wsX1_init rmX1_init D cI o [(o, .inr (1, [.null]))] (fun u => gX1 o u.1 ++ gX4 (u.1 0) u.2 cI Z4) 7 54 := by
  refine Kn.mk (cc := cX1_init) (maxL := 1) (by decide) rfl (Nat.le_of_ble_eq_true rfl) ?_
  intro p e s m below meth c A ls Q hx hb hml hown hts hK hA hP hD hS hl hr hlk hnm hQ
  have hown : s.vm.findClass RX1 = some m.cls := hown
  have hinX1 : ∀ w ∈ u_ws RX1 TX1 1, w ∈ wsX1_init := by decide +kernel
  have hinX4 : ∀ w ∈ u_ws RX4 TX4 10, w ∈ wsX1_init := by decide +kernel
  have hl : lv_has ls 1 [(0, .ref o)] := hl
  refine lv_aload_n hx hb dX1_init_0 rfl (lv_at hl 0 rfl) ?_
  refine W.objInit hx hb hown (hts (.methodLink RX1 3 objectInit) (by decide +kernel)) (hts (.instanceMethod objectInit) (by decide +kernel)) (hts _ (List.mem_cons_of_mem _ (List.mem_append_left _ (List.mem_of_getElem? (i := 2) rfl)))) rfl (by rw [hml]; exact hl.1) rfl dX1_init_1 (by decide) (Nat.le_of_ble_eq_true rfl) ?_
  refine W.eq (g2 := F0 m 4 ls []) rfl ?_
  refine lv_aload_n hx hb dX1_init_4 rfl (lv_at hl 0 rfl) ?_
  refine va_new (ci := 4) (fs := [.int 0, .null, .null, .int 0, .null, .null, .null, .null, .int 0, .int 0]) (C := RX4) (T := TX4) (N := 10) hx hb hts hinX4 tyX4 tyX4_ok hown (hts (.classLink RX1 9 RX4) (by decide +kernel)) (hts (.instantiable RX4 10) (by decide +kernel)) (hts (.initialized RX4) (by decide +kernel)) hK hP hD hS hA rfl (by decide) (by decide) (by decide) dX1_init_5 (fun q5 H hP hD hS => ?_)
  have hP : va_P D vwCl ([(o, .inr (1, [.null])), (q5, .inr (4, [.int 0, .null, .null, .int 0, .null, .null, .null, .null, .int 0, .int 0]))]) H := hP
  have hD : va_D A ([(o, .inr (1, [.null])), (q5, .inr (4, [.int 0, .null, .null, .int 0, .null, .null, .null, .null, .int 0, .int 0]))]) := hD
  refine W.widen (k := 1) (n := 10) (by decide) (by decide) ?_
  refine lv_dup hx hb dX1_init_8 rfl ?_
  refine calK (rest := [.ref q5, .ref o]) ⟨hx, hb, hml, hown, hts⟩ (i_X4 l D cI q5) gX1_init_X4_init rfl rfl rfl (hts (.initialized RX4) (by decide +kernel)) (hts (.methodLink RX1 11 yX4_init) (by decide +kernel)) (hts (.instanceMethod yX4_init) (by decide +kernel)) rfl (by decide +kernel) ⟨by decide, by decide⟩ hK hP hD hS hA [1] [0] (wr := [(o, .inr (1, [.null]))]) rfl rfl (by decide) (by decide) (by decide) hl.1 (Nat.le_of_ble_eq_true rfl) dX1_init_9 ⟨by decide, by decide⟩ (fun u9 H locs hP hD hS => ?_)
  have hP : va_P D vwCl ([(o, .inr (1, [.null]))] ++ gX4 q5 u9 cI Z4) H := hP
  have hD : va_D A ([(o, .inr (1, [.null]))] ++ gX4 q5 u9 cI Z4) := hD
  refine W.widen (k := 7) (n := 54) (by decide) (by decide) ?_
  refine W.eq (g2 := F0 m 12 ls [.ref q5, .ref o]) rfl ?_
  refine va_putF (D := D) (ci := 1) (v := .ref q5) (ty := .object "OnlyStrangersHear$Town") (C := RX1) (T := TX1) (N := 1) hx hb hts hinX1 tyX1 tyX1_ok nmX1 hown hK hP hD hS 0 rfl rfl 0 (by decide) (hts (.fieldLink RX1 12 "OnlyStrangersHear$Mind" "then" "LOnlyStrangersHear$Town;") (by decide +kernel)) (fun _ h9 => h9) rfl hnm rfl (by decide +kernel) rfl rfl (Nat.le_of_ble_eq_true rfl) dX1_init_12 (fun H locs hP hD hS => ?_)
  have hP : va_P D vwCl ([(o, .inr (1, [.ref q5]))] ++ gX4 q5 u9 cI Z4) H := hP
  have hD : va_D A ([(o, .inr (1, [.ref q5]))] ++ gX4 q5 u9 cI Z4) := hD
  obtain ⟨U, hU⟩ : ∃ U : (Nat → Nat) × (Nat → Nat), U = ((fun k : Nat => if k = 0 then q5 else 0), u9) := ⟨_, rfl⟩
  have hP9 : va_P D vwCl (gX1 o U.1 ++ gX4 (U.1 0) U.2 cI Z4) H := by rw [hU]; exact hP.sub [0, 1, 2, 3, 4, 5, 6, 7] rfl
  have hD9 : va_D A (gX1 o U.1 ++ gX4 (U.1 0) U.2 cI Z4) := by rw [hU]; exact hD.sub [0, 1, 2, 3, 4, 5, 6, 7] (by decide) rfl
  exact kv hx hb hK hr hlk U hQ dX1_init_15 hP9 hD9 hS
abbrev rmX2_init : Room := { frames := 1, cells := 1, slots := 16, locals := 12 }
set_option maxHeartbeats 4000000 in
set_option maxRecDepth 100000 in
theorem i_X2 (l : Launch) (D : va_G) (cI : ClassId) (o : Nat) : Kn (B := (Nat → Nat)) l yX2_init wsX2_init rmX2_init D cI o [(o, .inr (2, [.null, .int 0]))] (fun u => gX2 o u cI Z0) 1 16 := by
  refine Kn.mk (cc := cX2_init) (maxL := 1) (by decide) rfl (Nat.le_of_ble_eq_true rfl) ?_
  intro p e s m below meth c A ls Q hx hb hml hown hts hK hA hP hD hS hl hr hlk hnm hQ
  have hown : s.vm.findClass RX2 = some m.cls := hown
  have hinX2 : ∀ w ∈ u_ws RX2 TX2 2, w ∈ wsX2_init := by decide +kernel
  have hl : lv_has ls 1 [(0, .ref o)] := hl
  refine lv_aload_n hx hb dX2_init_0 rfl (lv_at hl 0 rfl) ?_
  refine W.objInit hx hb hown (hts (.methodLink RX2 3 objectInit) (by decide +kernel)) (hts (.instanceMethod objectInit) (by decide +kernel)) (hts _ (List.mem_cons_of_mem _ (List.mem_append_left _ (List.mem_of_getElem? (i := 2) rfl)))) rfl (by rw [hml]; exact hl.1) rfl dX2_init_1 (by decide) (Nat.le_of_ble_eq_true rfl) ?_
  refine W.eq (g2 := F0 m 4 ls []) rfl ?_
  refine lv_aload_n hx hb dX2_init_4 rfl (lv_at hl 0 rfl) ?_
  refine lv_bipush (v := (16 : Int32)) hx hb dX2_init_5 (by decide) ?_
  refine va_newa (atype := .int) (n := (16 : Int32)) (N' := 16) (a0 := (16, .inl (fun _ => 0))) hx hb (hts (.arrayClass .int) (by decide +kernel)) rfl hK hP hD hS hA (fun _ => rfl) (by decide) (by decide) (by decide) (by decide) (by decide) dX2_init_7 (fun q7 cA H hK2 hP hD hS => ?_)
  have ecA := cA_eq hK2
  rw [ecA] at hP hD
  clear hK2 ecA cA
  have hP : va_P D vwCl ([(o, .inr (2, [.null, .int 0])), (q7, .inl (cI, 16, .inl (fun _ => 0)))]) H := hP
  have hD : va_D A ([(o, .inr (2, [.null, .int 0])), (q7, .inl (cI, 16, .inl (fun _ => 0)))]) := hD
  refine W.widen (k := 1) (n := 16) (by decide) (by decide) ?_
  refine va_putF (D := D) (ci := 2) (v := .ref q7) (ty := .array .int) (C := RX2) (T := TX2) (N := 2) hx hb hts hinX2 tyX2 tyX2_ok nmX2 hown hK hP hD hS 0 rfl rfl 0 (by decide) (hts (.fieldLink RX2 9 "OnlyStrangersHear$Numbers" "values" "[I") (by decide +kernel)) (fun _ h9 => h9) rfl hnm rfl (by decide +kernel) rfl rfl (Nat.le_of_ble_eq_true rfl) dX2_init_9 (fun H locs hP hD hS => ?_)
  have hP : va_P D vwCl ([(o, .inr (2, [.ref q7, .int 0])), (q7, .inl (cI, 16, .inl (fun _ => 0)))]) H := hP
  have hD : va_D A ([(o, .inr (2, [.ref q7, .int 0])), (q7, .inl (cI, 16, .inl (fun _ => 0)))]) := hD
  obtain ⟨U, hU⟩ : ∃ U : (Nat → Nat), U = (fun k : Nat => if k = 0 then q7 else 0) := ⟨_, rfl⟩
  have hP9 : va_P D vwCl (gX2 o U cI Z0) H := by rw [hU]; exact hP.sub [0, 1] rfl
  have hD9 : va_D A (gX2 o U cI Z0) := by rw [hU]; exact hD.sub [0, 1] (by decide) rfl
  exact kv hx hb hK hr hlk U hQ dX2_init_12 hP9 hD9 hS
abbrev rmX3_init : Room := { frames := 2, cells := 8, slots := 58, locals := 32 }
set_option maxHeartbeats 4000000 in
set_option maxRecDepth 100000 in
theorem i_X3 (l : Launch) (D : va_G) (cI : ClassId) (o : Nat) : Kn (B := (Nat → Nat) × (Nat → Nat)) l yX3_init wsX3_init rmX3_init D cI o [(o, .inr (3, [.null, .null]))] (fun u => gX3 o u.1 cI Z0 ++ gX4 (u.1 0) u.2 cI Z4) 8 58 := by
  refine Kn.mk (cc := cX3_init) (maxL := 1) (by decide) rfl (Nat.le_of_ble_eq_true rfl) ?_
  intro p e s m below meth c A ls Q hx hb hml hown hts hK hA hP hD hS hl hr hlk hnm hQ
  have hown : s.vm.findClass RX3 = some m.cls := hown
  have hinX3 : ∀ w ∈ u_ws RX3 TX3 2, w ∈ wsX3_init := by decide +kernel
  have hinX4 : ∀ w ∈ u_ws RX4 TX4 10, w ∈ wsX3_init := by decide +kernel
  have hl : lv_has ls 1 [(0, .ref o)] := hl
  refine lv_aload_n hx hb dX3_init_0 rfl (lv_at hl 0 rfl) ?_
  refine W.objInit hx hb hown (hts (.methodLink RX3 3 objectInit) (by decide +kernel)) (hts (.instanceMethod objectInit) (by decide +kernel)) (hts _ (List.mem_cons_of_mem _ (List.mem_append_left _ (List.mem_of_getElem? (i := 2) rfl)))) rfl (by rw [hml]; exact hl.1) rfl dX3_init_1 (by decide) (Nat.le_of_ble_eq_true rfl) ?_
  refine W.eq (g2 := F0 m 4 ls []) rfl ?_
  refine lv_aload_n hx hb dX3_init_4 rfl (lv_at hl 0 rfl) ?_
  refine va_new (ci := 4) (fs := [.int 0, .null, .null, .int 0, .null, .null, .null, .null, .int 0, .int 0]) (C := RX4) (T := TX4) (N := 10) hx hb hts hinX4 tyX4 tyX4_ok hown (hts (.classLink RX3 9 RX4) (by decide +kernel)) (hts (.instantiable RX4 10) (by decide +kernel)) (hts (.initialized RX4) (by decide +kernel)) hK hP hD hS hA rfl (by decide) (by decide) (by decide) dX3_init_5 (fun q5 H hP hD hS => ?_)
  have hP : va_P D vwCl ([(o, .inr (3, [.null, .null])), (q5, .inr (4, [.int 0, .null, .null, .int 0, .null, .null, .null, .null, .int 0, .int 0]))]) H := hP
  have hD : va_D A ([(o, .inr (3, [.null, .null])), (q5, .inr (4, [.int 0, .null, .null, .int 0, .null, .null, .null, .null, .int 0, .int 0]))]) := hD
  refine W.widen (k := 1) (n := 10) (by decide) (by decide) ?_
  refine lv_dup hx hb dX3_init_8 rfl ?_
  refine calK (rest := [.ref q5, .ref o]) ⟨hx, hb, hml, hown, hts⟩ (i_X4 l D cI q5) gX3_init_X4_init rfl rfl rfl (hts (.initialized RX4) (by decide +kernel)) (hts (.methodLink RX3 11 yX4_init) (by decide +kernel)) (hts (.instanceMethod yX4_init) (by decide +kernel)) rfl (by decide +kernel) ⟨by decide, by decide⟩ hK hP hD hS hA [1] [0] (wr := [(o, .inr (3, [.null, .null]))]) rfl rfl (by decide) (by decide) (by decide) hl.1 (Nat.le_of_ble_eq_true rfl) dX3_init_9 ⟨by decide, by decide⟩ (fun u9 H locs hP hD hS => ?_)
  have hP : va_P D vwCl ([(o, .inr (3, [.null, .null]))] ++ gX4 q5 u9 cI Z4) H := hP
  have hD : va_D A ([(o, .inr (3, [.null, .null]))] ++ gX4 q5 u9 cI Z4) := hD
  refine W.widen (k := 7) (n := 54) (by decide) (by decide) ?_
  refine W.eq (g2 := F0 m 12 ls [.ref q5, .ref o]) rfl ?_
  refine va_putF (D := D) (ci := 3) (v := .ref q5) (ty := .object "OnlyStrangersHear$Town") (C := RX3) (T := TX3) (N := 2) hx hb hts hinX3 tyX3 tyX3_ok nmX3 hown hK hP hD hS 0 rfl rfl 0 (by decide) (hts (.fieldLink RX3 12 "OnlyStrangersHear$Plans" "trial" "LOnlyStrangersHear$Town;") (by decide +kernel)) (fun _ h9 => h9) rfl hnm rfl (by decide +kernel) rfl rfl (Nat.le_of_ble_eq_true rfl) dX3_init_12 (fun H locs hP hD hS => ?_)
  have hP : va_P D vwCl ([(o, .inr (3, [.ref q5, .null]))] ++ gX4 q5 u9 cI Z4) H := hP
  have hD : va_D A ([(o, .inr (3, [.ref q5, .null]))] ++ gX4 q5 u9 cI Z4) := hD
  refine lv_aload_n hx hb dX3_init_15 rfl (lv_at hl 0 rfl) ?_
  refine lv_iconst (v := (4 : Int32)) hx hb dX3_init_16 (by decide) ?_
  refine va_newa (atype := .int) (n := (4 : Int32)) (N' := 4) (a0 := (4, .inl (fun _ => 0))) hx hb (hts (.arrayClass .int) (by decide +kernel)) rfl hK hP hD hS hA (fun _ => rfl) (by decide) (by decide) (by decide) (by decide) (by decide) dX3_init_17 (fun q17 cA H hK2 hP hD hS => ?_)
  have ecA := cA_eq hK2
  rw [ecA] at hP hD
  clear hK2 ecA cA
  have hP : va_P D vwCl ([(o, .inr (3, [.ref q5, .null]))] ++ (gX4 q5 u9 cI Z4 ++ [(q17, .inl (cI, 4, .inl (fun _ => 0)))])) H := hP
  have hD : va_D A ([(o, .inr (3, [.ref q5, .null]))] ++ (gX4 q5 u9 cI Z4 ++ [(q17, .inl (cI, 4, .inl (fun _ => 0)))])) := hD
  refine W.widen (k := 8) (n := 58) (by decide) (by decide) ?_
  refine va_putF (D := D) (ci := 3) (v := .ref q17) (ty := .array .int) (C := RX3) (T := TX3) (N := 2) hx hb hts hinX3 tyX3 tyX3_ok nmX3 hown hK hP hD hS 0 rfl rfl 1 (by decide) (hts (.fieldLink RX3 18 "OnlyStrangersHear$Plans" "outcome" "[I") (by decide +kernel)) (fun _ h9 => h9) rfl hnm rfl (by decide +kernel) rfl rfl (Nat.le_of_ble_eq_true rfl) dX3_init_19 (fun H locs hP hD hS => ?_)
  have hP : va_P D vwCl ([(o, .inr (3, [.ref q5, .ref q17]))] ++ (gX4 q5 u9 cI Z4 ++ [(q17, .inl (cI, 4, .inl (fun _ => 0)))])) H := hP
  have hD : va_D A ([(o, .inr (3, [.ref q5, .ref q17]))] ++ (gX4 q5 u9 cI Z4 ++ [(q17, .inl (cI, 4, .inl (fun _ => 0)))])) := hD
  obtain ⟨U, hU⟩ : ∃ U : (Nat → Nat) × (Nat → Nat), U = ((fun k : Nat => if k = 0 then q5 else if k = 1 then q17 else 0), u9) := ⟨_, rfl⟩
  have hP9 : va_P D vwCl (gX3 o U.1 cI Z0 ++ gX4 (U.1 0) U.2 cI Z4) H := by rw [hU]; exact hP.sub [0, 8, 1, 2, 3, 4, 5, 6, 7] rfl
  have hD9 : va_D A (gX3 o U.1 cI Z0 ++ gX4 (U.1 0) U.2 cI Z4) := by rw [hU]; exact hD.sub [0, 8, 1, 2, 3, 4, 5, 6, 7] (by decide) rfl
  exact kv hx hb hK hr hlk U hQ dX3_init_22 hP9 hD9 hS
abbrev rmX5_init : Room := { frames := 1, cells := 1, slots := 8, locals := 12 }
set_option maxHeartbeats 4000000 in
set_option maxRecDepth 100000 in
theorem i_X5 (l : Launch) (D : va_G) (cI : ClassId) (o : Nat) : Kn (B := (Nat → Nat)) l yX5_init wsX5_init rmX5_init D cI o [(o, .inr (5, [.null]))] (fun u => gX5 o u cI Z0) 1 8 := by
  refine Kn.mk (cc := cX5_init) (maxL := 1) (by decide) rfl (Nat.le_of_ble_eq_true rfl) ?_
  intro p e s m below meth c A ls Q hx hb hml hown hts hK hA hP hD hS hl hr hlk hnm hQ
  have hown : s.vm.findClass RX5 = some m.cls := hown
  have hinX5 : ∀ w ∈ u_ws RX5 TX5 1, w ∈ wsX5_init := by decide +kernel
  have hl : lv_has ls 1 [(0, .ref o)] := hl
  refine lv_aload_n hx hb dX5_init_0 rfl (lv_at hl 0 rfl) ?_
  refine W.objInit hx hb hown (hts (.methodLink RX5 3 objectInit) (by decide +kernel)) (hts (.instanceMethod objectInit) (by decide +kernel)) (hts _ (List.mem_cons_of_mem _ (List.mem_append_left _ (List.mem_of_getElem? (i := 2) rfl)))) rfl (by rw [hml]; exact hl.1) rfl dX5_init_1 (by decide) (Nat.le_of_ble_eq_true rfl) ?_
  refine W.eq (g2 := F0 m 4 ls []) rfl ?_
  refine lv_aload_n hx hb dX5_init_4 rfl (lv_at hl 0 rfl) ?_
  refine lv_bipush (v := (8 : Int32)) hx hb dX5_init_5 (by decide) ?_
  refine va_newa (atype := .int) (n := (8 : Int32)) (N' := 8) (a0 := (8, .inl (fun _ => 0))) hx hb (hts (.arrayClass .int) (by decide +kernel)) rfl hK hP hD hS hA (fun _ => rfl) (by decide) (by decide) (by decide) (by decide) (by decide) dX5_init_7 (fun q7 cA H hK2 hP hD hS => ?_)
  have ecA := cA_eq hK2
  rw [ecA] at hP hD
  clear hK2 ecA cA
  have hP : va_P D vwCl ([(o, .inr (5, [.null])), (q7, .inl (cI, 8, .inl (fun _ => 0)))]) H := hP
  have hD : va_D A ([(o, .inr (5, [.null])), (q7, .inl (cI, 8, .inl (fun _ => 0)))]) := hD
  refine W.widen (k := 1) (n := 8) (by decide) (by decide) ?_
  refine va_putF (D := D) (ci := 5) (v := .ref q7) (ty := .array .int) (C := RX5) (T := TX5) (N := 1) hx hb hts hinX5 tyX5 tyX5_ok nmX5 hown hK hP hD hS 0 rfl rfl 0 (by decide) (hts (.fieldLink RX5 9 "OnlyStrangersHear$Voices" "foes" "[I") (by decide +kernel)) (fun _ h9 => h9) rfl hnm rfl (by decide +kernel) rfl rfl (Nat.le_of_ble_eq_true rfl) dX5_init_9 (fun H locs hP hD hS => ?_)
  have hP : va_P D vwCl ([(o, .inr (5, [.ref q7])), (q7, .inl (cI, 8, .inl (fun _ => 0)))]) H := hP
  have hD : va_D A ([(o, .inr (5, [.ref q7])), (q7, .inl (cI, 8, .inl (fun _ => 0)))]) := hD
  obtain ⟨U, hU⟩ : ∃ U : (Nat → Nat), U = (fun k : Nat => if k = 0 then q7 else 0) := ⟨_, rfl⟩
  have hP9 : va_P D vwCl (gX5 o U cI Z0) H := by rw [hU]; exact hP.sub [0, 1] rfl
  have hD9 : va_D A (gX5 o U cI Z0) := by rw [hU]; exact hD.sub [0, 1] (by decide) rfl
  exact kv hx hb hK hr hlk U hQ dX5_init_12 hP9 hD9 hS
abbrev rmX6_init : Room := { frames := 3, cells := 45, slots := 410, locals := 52 }
set_option maxHeartbeats 4000000 in
set_option maxRecDepth 100000 in
theorem i_X6 (l : Launch) (D : va_G) (cI : ClassId) (o : Nat) : Kn (B := (Nat → Nat) × (Nat → Nat) × (Nat → Nat) × (Nat → Nat) × (Nat → Nat) × (Nat → Nat) × (Nat → Nat) × (Nat → Nat) × (Nat → Nat) × (Nat → Nat) × (Nat → Nat)) l yX6_init wsX6_init rmX6_init D cI o [(o, .inr (6, [.null, .null, .int 0, .null, .null, .null, .null, .null, .null]))] (fun u => gX6 o u.1 cI Z0 ++ (gX4 (u.1 0) u.2.1 cI Z4 ++ (gX4 (u.1 1) u.2.2.1 cI Z4 ++ (gX0 (u.1 3) u.2.2.2.1 cI Z0 ++ (gX4 (u.2.2.2.1 1) u.2.2.2.2.1 cI Z4 ++ (gX2 (u.1 4) u.2.2.2.2.2.1 cI Z0 ++ (gX5 (u.1 5) u.2.2.2.2.2.2.1 cI Z0 ++ (gX1 (u.1 6) u.2.2.2.2.2.2.2.1 ++ (gX4 (u.2.2.2.2.2.2.2.1 0) u.2.2.2.2.2.2.2.2.1 cI Z4 ++ (gX3 (u.1 7) u.2.2.2.2.2.2.2.2.2.1 cI Z0 ++ gX4 (u.2.2.2.2.2.2.2.2.2.1 0) u.2.2.2.2.2.2.2.2.2.2 cI Z4)))))))))) 45 410 := by
  refine Kn.mk (cc := cX6_init) (maxL := 1) (by decide) rfl (Nat.le_of_ble_eq_true rfl) ?_
  intro p e s m below meth c A ls Q hx hb hml hown hts hK hA hP hD hS hl hr hlk hnm hQ
  have hown : s.vm.findClass RX6 = some m.cls := hown
  have hinX0 : ∀ w ∈ u_ws RX0 TX0 3, w ∈ wsX6_init := by decide +kernel
  have hinX1 : ∀ w ∈ u_ws RX1 TX1 1, w ∈ wsX6_init := by decide +kernel
  have hinX2 : ∀ w ∈ u_ws RX2 TX2 2, w ∈ wsX6_init := by decide +kernel
  have hinX3 : ∀ w ∈ u_ws RX3 TX3 2, w ∈ wsX6_init := by decide +kernel
  have hinX4 : ∀ w ∈ u_ws RX4 TX4 10, w ∈ wsX6_init := by decide +kernel
  have hinX5 : ∀ w ∈ u_ws RX5 TX5 1, w ∈ wsX6_init := by decide +kernel
  have hinX6 : ∀ w ∈ u_ws RX6 TX6 9, w ∈ wsX6_init := by decide +kernel
  have hl : lv_has ls 1 [(0, .ref o)] := hl
  refine lv_aload_n hx hb dX6_init_0 rfl (lv_at hl 0 rfl) ?_
  refine W.objInit hx hb hown (hts (.methodLink RX6 1 objectInit) (by decide +kernel)) (hts (.instanceMethod objectInit) (by decide +kernel)) (hts _ (List.mem_cons_of_mem _ (List.mem_append_left _ (List.mem_of_getElem? (i := 2) rfl)))) rfl (by rw [hml]; exact hl.1) rfl dX6_init_1 (by decide) (Nat.le_of_ble_eq_true rfl) ?_
  refine W.eq (g2 := F0 m 4 ls []) rfl ?_
  refine lv_aload_n hx hb dX6_init_4 rfl (lv_at hl 0 rfl) ?_
  refine va_new (ci := 4) (fs := [.int 0, .null, .null, .int 0, .null, .null, .null, .null, .int 0, .int 0]) (C := RX4) (T := TX4) (N := 10) hx hb hts hinX4 tyX4 tyX4_ok hown (hts (.classLink RX6 7 RX4) (by decide +kernel)) (hts (.instantiable RX4 10) (by decide +kernel)) (hts (.initialized RX4) (by decide +kernel)) hK hP hD hS hA rfl (by decide) (by decide) (by decide) dX6_init_5 (fun q5 H hP hD hS => ?_)
  have hP : va_P D vwCl ([(o, .inr (6, [.null, .null, .int 0, .null, .null, .null, .null, .null, .null])), (q5, .inr (4, [.int 0, .null, .null, .int 0, .null, .null, .null, .null, .int 0, .int 0]))]) H := hP
  have hD : va_D A ([(o, .inr (6, [.null, .null, .int 0, .null, .null, .null, .null, .null, .null])), (q5, .inr (4, [.int 0, .null, .null, .int 0, .null, .null, .null, .null, .int 0, .int 0]))]) := hD
  refine W.widen (k := 1) (n := 10) (by decide) (by decide) ?_
  refine lv_dup hx hb dX6_init_8 rfl ?_
  refine calK (rest := [.ref q5, .ref o]) ⟨hx, hb, hml, hown, hts⟩ (i_X4 l D cI q5) gX6_init_X4_init rfl rfl rfl (hts (.initialized RX4) (by decide +kernel)) (hts (.methodLink RX6 9 yX4_init) (by decide +kernel)) (hts (.instanceMethod yX4_init) (by decide +kernel)) rfl (by decide +kernel) ⟨by decide, by decide⟩ hK hP hD hS hA [1] [0] (wr := [(o, .inr (6, [.null, .null, .int 0, .null, .null, .null, .null, .null, .null]))]) rfl rfl (by decide) (by decide) (by decide) hl.1 (Nat.le_of_ble_eq_true rfl) dX6_init_9 ⟨by decide, by decide⟩ (fun u9 H locs hP hD hS => ?_)
  have hP : va_P D vwCl ([(o, .inr (6, [.null, .null, .int 0, .null, .null, .null, .null, .null, .null]))] ++ gX4 q5 u9 cI Z4) H := hP
  have hD : va_D A ([(o, .inr (6, [.null, .null, .int 0, .null, .null, .null, .null, .null, .null]))] ++ gX4 q5 u9 cI Z4) := hD
  refine W.widen (k := 7) (n := 54) (by decide) (by decide) ?_
  refine W.eq (g2 := F0 m 12 ls [.ref q5, .ref o]) rfl ?_
  refine va_putF (D := D) (ci := 6) (v := .ref q5) (ty := .object "OnlyStrangersHear$Town") (C := RX6) (T := TX6) (N := 9) hx hb hts hinX6 tyX6 tyX6_ok nmX6 hown hK hP hD hS 0 rfl rfl 0 (by decide) (hts (.fieldLink RX6 10 "OnlyStrangersHear" "now" "LOnlyStrangersHear$Town;") (by decide +kernel)) (fun _ h9 => h9) rfl hnm rfl (by decide +kernel) rfl rfl (Nat.le_of_ble_eq_true rfl) dX6_init_12 (fun H locs hP hD hS => ?_)
  have hP : va_P D vwCl ([(o, .inr (6, [.ref q5, .null, .int 0, .null, .null, .null, .null, .null, .null]))] ++ gX4 q5 u9 cI Z4) H := hP
  have hD : va_D A ([(o, .inr (6, [.ref q5, .null, .int 0, .null, .null, .null, .null, .null, .null]))] ++ gX4 q5 u9 cI Z4) := hD
  refine lv_aload_n hx hb dX6_init_15 rfl (lv_at hl 0 rfl) ?_
  refine va_new (ci := 4) (fs := [.int 0, .null, .null, .int 0, .null, .null, .null, .null, .int 0, .int 0]) (C := RX4) (T := TX4) (N := 10) hx hb hts hinX4 tyX4 tyX4_ok hown (hts (.classLink RX6 7 RX4) (by decide +kernel)) (hts (.instantiable RX4 10) (by decide +kernel)) (hts (.initialized RX4) (by decide +kernel)) hK hP hD hS hA rfl (by decide) (by decide) (by decide) dX6_init_16 (fun q16 H hP hD hS => ?_)
  have hP : va_P D vwCl ([(o, .inr (6, [.ref q5, .null, .int 0, .null, .null, .null, .null, .null, .null]))] ++ (gX4 q5 u9 cI Z4 ++ [(q16, .inr (4, [.int 0, .null, .null, .int 0, .null, .null, .null, .null, .int 0, .int 0]))])) H := hP
  have hD : va_D A ([(o, .inr (6, [.ref q5, .null, .int 0, .null, .null, .null, .null, .null, .null]))] ++ (gX4 q5 u9 cI Z4 ++ [(q16, .inr (4, [.int 0, .null, .null, .int 0, .null, .null, .null, .null, .int 0, .int 0]))])) := hD
  refine W.widen (k := 8) (n := 64) (by decide) (by decide) ?_
  refine lv_dup hx hb dX6_init_19 rfl ?_
  refine calK (rest := [.ref q16, .ref o]) ⟨hx, hb, hml, hown, hts⟩ (i_X4 l D cI q16) gX6_init_X4_init rfl rfl rfl (hts (.initialized RX4) (by decide +kernel)) (hts (.methodLink RX6 9 yX4_init) (by decide +kernel)) (hts (.instanceMethod yX4_init) (by decide +kernel)) rfl (by decide +kernel) ⟨by decide, by decide⟩ hK hP hD hS hA [8] [0, 1, 2, 3, 4, 5, 6, 7] (wr := [(o, .inr (6, [.ref q5, .null, .int 0, .null, .null, .null, .null, .null, .null]))] ++ gX4 q5 u9 cI Z4) rfl rfl (by decide) (by decide) (by decide) hl.1 (Nat.le_of_ble_eq_true rfl) dX6_init_20 ⟨by decide, by decide⟩ (fun u20 H locs hP hD hS => ?_)
  have hP : va_P D vwCl ([(o, .inr (6, [.ref q5, .null, .int 0, .null, .null, .null, .null, .null, .null]))] ++ (gX4 q5 u9 cI Z4 ++ gX4 q16 u20 cI Z4)) H := hP
  have hD : va_D A ([(o, .inr (6, [.ref q5, .null, .int 0, .null, .null, .null, .null, .null, .null]))] ++ (gX4 q5 u9 cI Z4 ++ gX4 q16 u20 cI Z4)) := hD
  refine W.widen (k := 14) (n := 108) (by decide) (by decide) ?_
  refine W.eq (g2 := F0 m 23 ls [.ref q16, .ref o]) rfl ?_
  refine va_putF (D := D) (ci := 6) (v := .ref q16) (ty := .object "OnlyStrangersHear$Town") (C := RX6) (T := TX6) (N := 9) hx hb hts hinX6 tyX6 tyX6_ok nmX6 hown hK hP hD hS 0 rfl rfl 1 (by decide) (hts (.fieldLink RX6 16 "OnlyStrangersHear" "kept" "LOnlyStrangersHear$Town;") (by decide +kernel)) (fun _ h9 => h9) rfl hnm rfl (by decide +kernel) rfl rfl (Nat.le_of_ble_eq_true rfl) dX6_init_23 (fun H locs hP hD hS => ?_)
  have hP : va_P D vwCl ([(o, .inr (6, [.ref q5, .ref q16, .int 0, .null, .null, .null, .null, .null, .null]))] ++ (gX4 q5 u9 cI Z4 ++ gX4 q16 u20 cI Z4)) H := hP
  have hD : va_D A ([(o, .inr (6, [.ref q5, .ref q16, .int 0, .null, .null, .null, .null, .null, .null]))] ++ (gX4 q5 u9 cI Z4 ++ gX4 q16 u20 cI Z4)) := hD
  refine lv_aload_n hx hb dX6_init_26 rfl (lv_at hl 0 rfl) ?_
  refine va_new (ci := 0) (fs := [.null, .null, .int 0]) (C := RX0) (T := TX0) (N := 3) hx hb hts hinX0 tyX0 tyX0_ok hown (hts (.classLink RX6 19 RX0) (by decide +kernel)) (hts (.instantiable RX0 3) (by decide +kernel)) (hts (.initialized RX0) (by decide +kernel)) hK hP hD hS hA rfl (by decide) (by decide) (by decide) dX6_init_27 (fun q27 H hP hD hS => ?_)
  have hP : va_P D vwCl ([(o, .inr (6, [.ref q5, .ref q16, .int 0, .null, .null, .null, .null, .null, .null]))] ++ (gX4 q5 u9 cI Z4 ++ (gX4 q16 u20 cI Z4 ++ [(q27, .inr (0, [.null, .null, .int 0]))]))) H := hP
  have hD : va_D A ([(o, .inr (6, [.ref q5, .ref q16, .int 0, .null, .null, .null, .null, .null, .null]))] ++ (gX4 q5 u9 cI Z4 ++ (gX4 q16 u20 cI Z4 ++ [(q27, .inr (0, [.null, .null, .int 0]))]))) := hD
  refine W.widen (k := 15) (n := 111) (by decide) (by decide) ?_
  refine lv_dup hx hb dX6_init_30 rfl ?_
  refine calK (rest := [.ref q27, .ref o]) ⟨hx, hb, hml, hown, hts⟩ (i_X0 l D cI q27) gX6_init_X0_init rfl rfl rfl (hts (.initialized RX0) (by decide +kernel)) (hts (.methodLink RX6 21 yX0_init) (by decide +kernel)) (hts (.instanceMethod yX0_init) (by decide +kernel)) rfl (by decide +kernel) ⟨by decide, by decide⟩ hK hP hD hS hA [15] [0, 1, 2, 3, 4, 5, 6, 7, 8, 9, 10, 11, 12, 13, 14] (wr := [(o, .inr (6, [.ref q5, .ref q16, .int 0, .null, .null, .null, .null, .null, .null]))] ++ (gX4 q5 u9 cI Z4 ++ gX4 q16 u20 cI Z4)) rfl rfl (by decide) (by decide) (by decide) hl.1 (Nat.le_of_ble_eq_true rfl) dX6_init_31 ⟨by decide, by decide⟩ (fun u31 H locs hP hD hS => ?_)
  have hP : va_P D vwCl ([(o, .inr (6, [.ref q5, .ref q16, .int 0, .null, .null, .null, .null, .null, .null]))] ++ (gX4 q5 u9 cI Z4 ++ (gX4 q16 u20 cI Z4 ++ gX0 q27 u31.1 cI Z0 ++ gX4 (u31.1 1) u31.2 cI Z4))) H := hP
  have hD : va_D A ([(o, .inr (6, [.ref q5, .ref q16, .int 0, .null, .null, .null, .null, .null, .null]))] ++ (gX4 q5 u9 cI Z4 ++ (gX4 q16 u20 cI Z4 ++ gX0 q27 u31.1 cI Z0 ++ gX4 (u31.1 1) u31.2 cI Z4))) := hD
  refine W.widen (k := 23) (n := 261) (by decide) (by decide) ?_
  refine W.eq (g2 := F0 m 34 ls [.ref q27, .ref o]) rfl ?_
  refine va_putF (D := D) (ci := 6) (v := .ref q27) (ty := .object "OnlyStrangersHear$Letters") (C := RX6) (T := TX6) (N := 9) hx hb hts hinX6 tyX6 tyX6_ok nmX6 hown hK hP hD hS 0 rfl rfl 3 (by decide) (hts (.fieldLink RX6 22 "OnlyStrangersHear" "letters" "LOnlyStrangersHear$Letters;") (by decide +kernel)) (fun _ h9 => h9) rfl hnm rfl (by decide +kernel) rfl rfl (Nat.le_of_ble_eq_true rfl) dX6_init_34 (fun H locs hP hD hS => ?_)
  have hP : va_P D vwCl ([(o, .inr (6, [.ref q5, .ref q16, .int 0, .ref q27, .null, .null, .null, .null, .null]))] ++ (gX4 q5 u9 cI Z4 ++ (gX4 q16 u20 cI Z4 ++ gX0 q27 u31.1 cI Z0 ++ gX4 (u31.1 1) u31.2 cI Z4))) H := hP
  have hD : va_D A ([(o, .inr (6, [.ref q5, .ref q16, .int 0, .ref q27, .null, .null, .null, .null, .null]))] ++ (gX4 q5 u9 cI Z4 ++ (gX4 q16 u20 cI Z4 ++ gX0 q27 u31.1 cI Z0 ++ gX4 (u31.1 1) u31.2 cI Z4))) := hD
  refine lv_aload_n hx hb dX6_init_37 rfl (lv_at hl 0 rfl) ?_
  refine va_new (ci := 2) (fs := [.null, .int 0]) (C := RX2) (T := TX2) (N := 2) hx hb hts hinX2 tyX2 tyX2_ok hown (hts (.classLink RX6 26 RX2) (by decide +kernel)) (hts (.instantiable RX2 2) (by decide +kernel)) (hts (.initialized RX2) (by decide +kernel)) hK hP hD hS hA rfl (by decide) (by decide) (by decide) dX6_init_38 (fun q38 H hP hD hS => ?_)
  have hP : va_P D vwCl ([(o, .inr (6, [.ref q5, .ref q16, .int 0, .ref q27, .null, .null, .null, .null, .null]))] ++ (gX4 q5 u9 cI Z4 ++ (gX4 q16 u20 cI Z4 ++ (gX0 q27 u31.1 cI Z0 ++ gX4 (u31.1 1) u31.2 cI Z4 ++ [(q38, .inr (2, [.null, .int 0]))])))) H := hP
  have hD : va_D A ([(o, .inr (6, [.ref q5, .ref q16, .int 0, .ref q27, .null, .null, .null, .null, .null]))] ++ (gX4 q5 u9 cI Z4 ++ (gX4 q16 u20 cI Z4 ++ (gX0 q27 u31.1 cI Z0 ++ gX4 (u31.1 1) u31.2 cI Z4 ++ [(q38, .inr (2, [.null, .int 0]))])))) := hD
  refine W.widen (k := 24) (n := 263) (by decide) (by decide) ?_
  refine lv_dup hx hb dX6_init_41 rfl ?_
  refine calK (rest := [.ref q38, .ref o]) ⟨hx, hb, hml, hown, hts⟩ (i_X2 l D cI q38) gX6_init_X2_init rfl rfl rfl (hts (.initialized RX2) (by decide +kernel)) (hts (.methodLink RX6 28 yX2_init) (by decide +kernel)) (hts (.instanceMethod yX2_init) (by decide +kernel)) rfl (by decide +kernel) ⟨by decide, by decide⟩ hK hP hD hS hA [24] [0, 1, 2, 3, 4, 5, 6, 7, 8, 9, 10, 11, 12, 13, 14, 15, 16, 17, 18, 19, 20, 21, 22, 23] (wr := [(o, .inr (6, [.ref q5, .ref q16, .int 0, .ref q27, .null, .null, .null, .null, .null]))] ++ (gX4 q5 u9 cI Z4 ++ (gX4 q16 u20 cI Z4 ++ gX0 q27 u31.1 cI Z0 ++ gX4 (u31.1 1) u31.2 cI Z4))) rfl rfl (by decide) (by decide) (by decide) hl.1 (Nat.le_of_ble_eq_true rfl) dX6_init_42 ⟨by decide, by decide⟩ (fun u42 H locs hP hD hS => ?_)
  have hP : va_P D vwCl ([(o, .inr (6, [.ref q5, .ref q16, .int 0, .ref q27, .null, .null, .null, .null, .null]))] ++ (gX4 q5 u9 cI Z4 ++ (gX4 q16 u20 cI Z4 ++ (gX0 q27 u31.1 cI Z0 ++ gX4 (u31.1 1) u31.2 cI Z4 ++ gX2 q38 u42 cI Z0)))) H := hP
  have hD : va_D A ([(o, .inr (6, [.ref q5, .ref q16, .int 0, .ref q27, .null, .null, .null, .null, .null]))] ++ (gX4 q5 u9 cI Z4 ++ (gX4 q16 u20 cI Z4 ++ (gX0 q27 u31.1 cI Z0 ++ gX4 (u31.1 1) u31.2 cI Z4 ++ gX2 q38 u42 cI Z0)))) := hD
  refine W.widen (k := 25) (n := 279) (by decide) (by decide) ?_
  refine W.eq (g2 := F0 m 45 ls [.ref q38, .ref o]) rfl ?_
  refine va_putF (D := D) (ci := 6) (v := .ref q38) (ty := .object "OnlyStrangersHear$Numbers") (C := RX6) (T := TX6) (N := 9) hx hb hts hinX6 tyX6 tyX6_ok nmX6 hown hK hP hD hS 0 rfl rfl 4 (by decide) (hts (.fieldLink RX6 29 "OnlyStrangersHear" "numbers" "LOnlyStrangersHear$Numbers;") (by decide +kernel)) (fun _ h9 => h9) rfl hnm rfl (by decide +kernel) rfl rfl (Nat.le_of_ble_eq_true rfl) dX6_init_45 (fun H locs hP hD hS => ?_)
  have hP : va_P D vwCl ([(o, .inr (6, [.ref q5, .ref q16, .int 0, .ref q27, .ref q38, .null, .null, .null, .null]))] ++ (gX4 q5 u9 cI Z4 ++ (gX4 q16 u20 cI Z4 ++ (gX0 q27 u31.1 cI Z0 ++ gX4 (u31.1 1) u31.2 cI Z4 ++ gX2 q38 u42 cI Z0)))) H := hP
  have hD : va_D A ([(o, .inr (6, [.ref q5, .ref q16, .int 0, .ref q27, .ref q38, .null, .null, .null, .null]))] ++ (gX4 q5 u9 cI Z4 ++ (gX4 q16 u20 cI Z4 ++ (gX0 q27 u31.1 cI Z0 ++ gX4 (u31.1 1) u31.2 cI Z4 ++ gX2 q38 u42 cI Z0)))) := hD
  refine lv_aload_n hx hb dX6_init_48 rfl (lv_at hl 0 rfl) ?_
  refine va_new (ci := 5) (fs := [.null]) (C := RX5) (T := TX5) (N := 1) hx hb hts hinX5 tyX5 tyX5_ok hown (hts (.classLink RX6 33 RX5) (by decide +kernel)) (hts (.instantiable RX5 1) (by decide +kernel)) (hts (.initialized RX5) (by decide +kernel)) hK hP hD hS hA rfl (by decide) (by decide) (by decide) dX6_init_49 (fun q49 H hP hD hS => ?_)
  have hP : va_P D vwCl ([(o, .inr (6, [.ref q5, .ref q16, .int 0, .ref q27, .ref q38, .null, .null, .null, .null]))] ++ (gX4 q5 u9 cI Z4 ++ (gX4 q16 u20 cI Z4 ++ (gX0 q27 u31.1 cI Z0 ++ gX4 (u31.1 1) u31.2 cI Z4 ++ (gX2 q38 u42 cI Z0 ++ [(q49, .inr (5, [.null]))]))))) H := hP
  have hD : va_D A ([(o, .inr (6, [.ref q5, .ref q16, .int 0, .ref q27, .ref q38, .null, .null, .null, .null]))] ++ (gX4 q5 u9 cI Z4 ++ (gX4 q16 u20 cI Z4 ++ (gX0 q27 u31.1 cI Z0 ++ gX4 (u31.1 1) u31.2 cI Z4 ++ (gX2 q38 u42 cI Z0 ++ [(q49, .inr (5, [.null]))]))))) := hD
  refine W.widen (k := 26) (n := 280) (by decide) (by decide) ?_
  refine lv_dup hx hb dX6_init_52 rfl ?_
  refine calK (rest := [.ref q49, .ref o]) ⟨hx, hb, hml, hown, hts⟩ (i_X5 l D cI q49) gX6_init_X5_init rfl rfl rfl (hts (.initialized RX5) (by decide +kernel)) (hts (.methodLink RX6 35 yX5_init) (by decide +kernel)) (hts (.instanceMethod yX5_init) (by decide +kernel)) rfl (by decide +kernel) ⟨by decide, by decide⟩ hK hP hD hS hA [26] [0, 1, 2, 3, 4, 5, 6, 7, 8, 9, 10, 11, 12, 13, 14, 15, 16, 17, 18, 19, 20, 21, 22, 23, 24, 25] (wr := [(o, .inr (6, [.ref q5, .ref q16, .int 0, .ref q27, .ref q38, .null, .null, .null, .null]))] ++ (gX4 q5 u9 cI Z4 ++ (gX4 q16 u20 cI Z4 ++ (gX0 q27 u31.1 cI Z0 ++ gX4 (u31.1 1) u31.2 cI Z4 ++ gX2 q38 u42 cI Z0)))) rfl rfl (by decide) (by decide) (by decide) hl.1 (Nat.le_of_ble_eq_true rfl) dX6_init_53 ⟨by decide, by decide⟩ (fun u53 H locs hP hD hS => ?_)
  have hP : va_P D vwCl ([(o, .inr (6, [.ref q5, .ref q16, .int 0, .ref q27, .ref q38, .null, .null, .null, .null]))] ++ (gX4 q5 u9 cI Z4 ++ (gX4 q16 u20 cI Z4 ++ (gX0 q27 u31.1 cI Z0 ++ gX4 (u31.1 1) u31.2 cI Z4 ++ (gX2 q38 u42 cI Z0 ++ gX5 q49 u53 cI Z0))))) H := hP
  have hD : va_D A ([(o, .inr (6, [.ref q5, .ref q16, .int 0, .ref q27, .ref q38, .null, .null, .null, .null]))] ++ (gX4 q5 u9 cI Z4 ++ (gX4 q16 u20 cI Z4 ++ (gX0 q27 u31.1 cI Z0 ++ gX4 (u31.1 1) u31.2 cI Z4 ++ (gX2 q38 u42 cI Z0 ++ gX5 q49 u53 cI Z0))))) := hD
  refine W.widen (k := 27) (n := 288) (by decide) (by decide) ?_
  refine W.eq (g2 := F0 m 56 ls [.ref q49, .ref o]) rfl ?_
  refine va_putF (D := D) (ci := 6) (v := .ref q49) (ty := .object "OnlyStrangersHear$Voices") (C := RX6) (T := TX6) (N := 9) hx hb hts hinX6 tyX6 tyX6_ok nmX6 hown hK hP hD hS 0 rfl rfl 5 (by decide) (hts (.fieldLink RX6 36 "OnlyStrangersHear" "voices" "LOnlyStrangersHear$Voices;") (by decide +kernel)) (fun _ h9 => h9) rfl hnm rfl (by decide +kernel) rfl rfl (Nat.le_of_ble_eq_true rfl) dX6_init_56 (fun H locs hP hD hS => ?_)
  have hP : va_P D vwCl ([(o, .inr (6, [.ref q5, .ref q16, .int 0, .ref q27, .ref q38, .ref q49, .null, .null, .null]))] ++ (gX4 q5 u9 cI Z4 ++ (gX4 q16 u20 cI Z4 ++ (gX0 q27 u31.1 cI Z0 ++ gX4 (u31.1 1) u31.2 cI Z4 ++ (gX2 q38 u42 cI Z0 ++ gX5 q49 u53 cI Z0))))) H := hP
  have hD : va_D A ([(o, .inr (6, [.ref q5, .ref q16, .int 0, .ref q27, .ref q38, .ref q49, .null, .null, .null]))] ++ (gX4 q5 u9 cI Z4 ++ (gX4 q16 u20 cI Z4 ++ (gX0 q27 u31.1 cI Z0 ++ gX4 (u31.1 1) u31.2 cI Z4 ++ (gX2 q38 u42 cI Z0 ++ gX5 q49 u53 cI Z0))))) := hD
  refine lv_aload_n hx hb dX6_init_59 rfl (lv_at hl 0 rfl) ?_
  refine va_new (ci := 1) (fs := [.null]) (C := RX1) (T := TX1) (N := 1) hx hb hts hinX1 tyX1 tyX1_ok hown (hts (.classLink RX6 40 RX1) (by decide +kernel)) (hts (.instantiable RX1 1) (by decide +kernel)) (hts (.initialized RX1) (by decide +kernel)) hK hP hD hS hA rfl (by decide) (by decide) (by decide) dX6_init_60 (fun q60 H hP hD hS => ?_)
  have hP : va_P D vwCl ([(o, .inr (6, [.ref q5, .ref q16, .int 0, .ref q27, .ref q38, .ref q49, .null, .null, .null]))] ++ (gX4 q5 u9 cI Z4 ++ (gX4 q16 u20 cI Z4 ++ (gX0 q27 u31.1 cI Z0 ++ gX4 (u31.1 1) u31.2 cI Z4 ++ (gX2 q38 u42 cI Z0 ++ (gX5 q49 u53 cI Z0 ++ [(q60, .inr (1, [.null]))])))))) H := hP
  have hD : va_D A ([(o, .inr (6, [.ref q5, .ref q16, .int 0, .ref q27, .ref q38, .ref q49, .null, .null, .null]))] ++ (gX4 q5 u9 cI Z4 ++ (gX4 q16 u20 cI Z4 ++ (gX0 q27 u31.1 cI Z0 ++ gX4 (u31.1 1) u31.2 cI Z4 ++ (gX2 q38 u42 cI Z0 ++ (gX5 q49 u53 cI Z0 ++ [(q60, .inr (1, [.null]))])))))) := hD
  refine W.widen (k := 28) (n := 289) (by decide) (by decide) ?_
  refine lv_dup hx hb dX6_init_63 rfl ?_
  refine calK (rest := [.ref q60, .ref o]) ⟨hx, hb, hml, hown, hts⟩ (i_X1 l D cI q60) gX6_init_X1_init rfl rfl rfl (hts (.initialized RX1) (by decide +kernel)) (hts (.methodLink RX6 42 yX1_init) (by decide +kernel)) (hts (.instanceMethod yX1_init) (by decide +kernel)) rfl (by decide +kernel) ⟨by decide, by decide⟩ hK hP hD hS hA [28] [0, 1, 2, 3, 4, 5, 6, 7, 8, 9, 10, 11, 12, 13, 14, 15, 16, 17, 18, 19, 20, 21, 22, 23, 24, 25, 26, 27] (wr := [(o, .inr (6, [.ref q5, .ref q16, .int 0, .ref q27, .ref q38, .ref q49, .null, .null, .null]))] ++ (gX4 q5 u9 cI Z4 ++ (gX4 q16 u20 cI Z4 ++ (gX0 q27 u31.1 cI Z0 ++ gX4 (u31.1 1) u31.2 cI Z4 ++ (gX2 q38 u42 cI Z0 ++ gX5 q49 u53 cI Z0))))) rfl rfl (by decide) (by decide) (by decide) hl.1 (Nat.le_of_ble_eq_true rfl) dX6_init_64 ⟨by decide, by decide⟩ (fun u64 H locs hP hD hS => ?_)
  have hP : va_P D vwCl ([(o, .inr (6, [.ref q5, .ref q16, .int 0, .ref q27, .ref q38, .ref q49, .null, .null, .null]))] ++ (gX4 q5 u9 cI Z4 ++ (gX4 q16 u20 cI Z4 ++ (gX0 q27 u31.1 cI Z0 ++ gX4 (u31.1 1) u31.2 cI Z4 ++ (gX2 q38 u42 cI Z0 ++ (gX5 q49 u53 cI Z0 ++ gX1 q60 u64.1 ++ gX4 (u64.1 0) u64.2 cI Z4)))))) H := hP
  have hD : va_D A ([(o, .inr (6, [.ref q5, .ref q16, .int 0, .ref q27, .ref q38, .ref q49, .null, .null, .null]))] ++ (gX4 q5 u9 cI Z4 ++ (gX4 q16 u20 cI Z4 ++ (gX0 q27 u31.1 cI Z0 ++ gX4 (u31.1 1) u31.2 cI Z4 ++ (gX2 q38 u42 cI Z0 ++ (gX5 q49 u53 cI Z0 ++ gX1 q60 u64.1 ++ gX4 (u64.1 0) u64.2 cI Z4)))))) := hD
  refine W.widen (k := 35) (n := 343) (by decide) (by decide) ?_
  refine W.eq (g2 := F0 m 67 ls [.ref q60, .ref o]) rfl ?_
  refine va_putF (D := D) (ci := 6) (v := .ref q60) (ty := .object "OnlyStrangersHear$Mind") (C := RX6) (T := TX6) (N := 9) hx hb hts hinX6 tyX6 tyX6_ok nmX6 hown hK hP hD hS 0 rfl rfl 6 (by decide) (hts (.fieldLink RX6 43 "OnlyStrangersHear" "mind" "LOnlyStrangersHear$Mind;") (by decide +kernel)) (fun _ h9 => h9) rfl hnm rfl (by decide +kernel) rfl rfl (Nat.le_of_ble_eq_true rfl) dX6_init_67 (fun H locs hP hD hS => ?_)
  have hP : va_P D vwCl ([(o, .inr (6, [.ref q5, .ref q16, .int 0, .ref q27, .ref q38, .ref q49, .ref q60, .null, .null]))] ++ (gX4 q5 u9 cI Z4 ++ (gX4 q16 u20 cI Z4 ++ (gX0 q27 u31.1 cI Z0 ++ gX4 (u31.1 1) u31.2 cI Z4 ++ (gX2 q38 u42 cI Z0 ++ (gX5 q49 u53 cI Z0 ++ gX1 q60 u64.1 ++ gX4 (u64.1 0) u64.2 cI Z4)))))) H := hP
  have hD : va_D A ([(o, .inr (6, [.ref q5, .ref q16, .int 0, .ref q27, .ref q38, .ref q49, .ref q60, .null, .null]))] ++ (gX4 q5 u9 cI Z4 ++ (gX4 q16 u20 cI Z4 ++ (gX0 q27 u31.1 cI Z0 ++ gX4 (u31.1 1) u31.2 cI Z4 ++ (gX2 q38 u42 cI Z0 ++ (gX5 q49 u53 cI Z0 ++ gX1 q60 u64.1 ++ gX4 (u64.1 0) u64.2 cI Z4)))))) := hD
  refine lv_aload_n hx hb dX6_init_70 rfl (lv_at hl 0 rfl) ?_
  refine va_new (ci := 3) (fs := [.null, .null]) (C := RX3) (T := TX3) (N := 2) hx hb hts hinX3 tyX3 tyX3_ok hown (hts (.classLink RX6 47 RX3) (by decide +kernel)) (hts (.instantiable RX3 2) (by decide +kernel)) (hts (.initialized RX3) (by decide +kernel)) hK hP hD hS hA rfl (by decide) (by decide) (by decide) dX6_init_71 (fun q71 H hP hD hS => ?_)
  have hP : va_P D vwCl ([(o, .inr (6, [.ref q5, .ref q16, .int 0, .ref q27, .ref q38, .ref q49, .ref q60, .null, .null]))] ++ (gX4 q5 u9 cI Z4 ++ (gX4 q16 u20 cI Z4 ++ (gX0 q27 u31.1 cI Z0 ++ gX4 (u31.1 1) u31.2 cI Z4 ++ (gX2 q38 u42 cI Z0 ++ (gX5 q49 u53 cI Z0 ++ (gX1 q60 u64.1 ++ gX4 (u64.1 0) u64.2 cI Z4 ++ [(q71, .inr (3, [.null, .null]))]))))))) H := hP
  have hD : va_D A ([(o, .inr (6, [.ref q5, .ref q16, .int 0, .ref q27, .ref q38, .ref q49, .ref q60, .null, .null]))] ++ (gX4 q5 u9 cI Z4 ++ (gX4 q16 u20 cI Z4 ++ (gX0 q27 u31.1 cI Z0 ++ gX4 (u31.1 1) u31.2 cI Z4 ++ (gX2 q38 u42 cI Z0 ++ (gX5 q49 u53 cI Z0 ++ (gX1 q60 u64.1 ++ gX4 (u64.1 0) u64.2 cI Z4 ++ [(q71, .inr (3, [.null, .null]))]))))))) := hD
  refine W.widen (k := 36) (n := 345) (by decide) (by decide) ?_
  refine lv_dup hx hb dX6_init_74 rfl ?_
  refine calK (rest := [.ref q71, .ref o]) ⟨hx, hb, hml, hown, hts⟩ (i_X3 l D cI q71) gX6_init_X3_init rfl rfl rfl (hts (.initialized RX3) (by decide +kernel)) (hts (.methodLink RX6 49 yX3_init) (by decide +kernel)) (hts (.instanceMethod yX3_init) (by decide +kernel)) rfl (by decide +kernel) ⟨by decide, by decide⟩ hK hP hD hS hA [36] [0, 1, 2, 3, 4, 5, 6, 7, 8, 9, 10, 11, 12, 13, 14, 15, 16, 17, 18, 19, 20, 21, 22, 23, 24, 25, 26, 27, 28, 29, 30, 31, 32, 33, 34, 35] (wr := [(o, .inr (6, [.ref q5, .ref q16, .int 0, .ref q27, .ref q38, .ref q49, .ref q60, .null, .null]))] ++ (gX4 q5 u9 cI Z4 ++ (gX4 q16 u20 cI Z4 ++ (gX0 q27 u31.1 cI Z0 ++ gX4 (u31.1 1) u31.2 cI Z4 ++ (gX2 q38 u42 cI Z0 ++ (gX5 q49 u53 cI Z0 ++ gX1 q60 u64.1 ++ gX4 (u64.1 0) u64.2 cI Z4)))))) rfl rfl (by decide) (by decide) (by decide) hl.1 (Nat.le_of_ble_eq_true rfl) dX6_init_75 ⟨by decide, by decide⟩ (fun u75 H locs hP hD hS => ?_)
  have hP : va_P D vwCl ([(o, .inr (6, [.ref q5, .ref q16, .int 0, .ref q27, .ref q38, .ref q49, .ref q60, .null, .null]))] ++ (gX4 q5 u9 cI Z4 ++ (gX4 q16 u20 cI Z4 ++ (gX0 q27 u31.1 cI Z0 ++ gX4 (u31.1 1) u31.2 cI Z4 ++ (gX2 q38 u42 cI Z0 ++ (gX5 q49 u53 cI Z0 ++ (gX1 q60 u64.1 ++ gX4 (u64.1 0) u64.2 cI Z4 ++ gX3 q71 u75.1 cI Z0 ++ gX4 (u75.1 0) u75.2 cI Z4))))))) H := hP
  have hD : va_D A ([(o, .inr (6, [.ref q5, .ref q16, .int 0, .ref q27, .ref q38, .ref q49, .ref q60, .null, .null]))] ++ (gX4 q5 u9 cI Z4 ++ (gX4 q16 u20 cI Z4 ++ (gX0 q27 u31.1 cI Z0 ++ gX4 (u31.1 1) u31.2 cI Z4 ++ (gX2 q38 u42 cI Z0 ++ (gX5 q49 u53 cI Z0 ++ (gX1 q60 u64.1 ++ gX4 (u64.1 0) u64.2 cI Z4 ++ gX3 q71 u75.1 cI Z0 ++ gX4 (u75.1 0) u75.2 cI Z4))))))) := hD
  refine W.widen (k := 44) (n := 403) (by decide) (by decide) ?_
  refine W.eq (g2 := F0 m 78 ls [.ref q71, .ref o]) rfl ?_
  refine va_putF (D := D) (ci := 6) (v := .ref q71) (ty := .object "OnlyStrangersHear$Plans") (C := RX6) (T := TX6) (N := 9) hx hb hts hinX6 tyX6 tyX6_ok nmX6 hown hK hP hD hS 0 rfl rfl 7 (by decide) (hts (.fieldLink RX6 50 "OnlyStrangersHear" "plans" "LOnlyStrangersHear$Plans;") (by decide +kernel)) (fun _ h9 => h9) rfl hnm rfl (by decide +kernel) rfl rfl (Nat.le_of_ble_eq_true rfl) dX6_init_78 (fun H locs hP hD hS => ?_)
  have hP : va_P D vwCl ([(o, .inr (6, [.ref q5, .ref q16, .int 0, .ref q27, .ref q38, .ref q49, .ref q60, .ref q71, .null]))] ++ (gX4 q5 u9 cI Z4 ++ (gX4 q16 u20 cI Z4 ++ (gX0 q27 u31.1 cI Z0 ++ gX4 (u31.1 1) u31.2 cI Z4 ++ (gX2 q38 u42 cI Z0 ++ (gX5 q49 u53 cI Z0 ++ (gX1 q60 u64.1 ++ gX4 (u64.1 0) u64.2 cI Z4 ++ gX3 q71 u75.1 cI Z0 ++ gX4 (u75.1 0) u75.2 cI Z4))))))) H := hP
  have hD : va_D A ([(o, .inr (6, [.ref q5, .ref q16, .int 0, .ref q27, .ref q38, .ref q49, .ref q60, .ref q71, .null]))] ++ (gX4 q5 u9 cI Z4 ++ (gX4 q16 u20 cI Z4 ++ (gX0 q27 u31.1 cI Z0 ++ gX4 (u31.1 1) u31.2 cI Z4 ++ (gX2 q38 u42 cI Z0 ++ (gX5 q49 u53 cI Z0 ++ (gX1 q60 u64.1 ++ gX4 (u64.1 0) u64.2 cI Z4 ++ gX3 q71 u75.1 cI Z0 ++ gX4 (u75.1 0) u75.2 cI Z4))))))) := hD
  refine lv_aload_n hx hb dX6_init_81 rfl (lv_at hl 0 rfl) ?_
  refine lv_bipush (v := (7 : Int32)) hx hb dX6_init_82 (by decide) ?_
  refine va_newa (atype := .int) (n := (7 : Int32)) (N' := 7) (a0 := (7, .inl (fun _ => 0))) hx hb (hts (.arrayClass .int) (by decide +kernel)) rfl hK hP hD hS hA (fun _ => rfl) (by decide) (by decide) (by decide) (by decide) (by decide) dX6_init_84 (fun q84 cA H hK2 hP hD hS => ?_)
  have ecA := cA_eq hK2
  rw [ecA] at hP hD
  clear hK2 ecA cA
  have hP : va_P D vwCl ([(o, .inr (6, [.ref q5, .ref q16, .int 0, .ref q27, .ref q38, .ref q49, .ref q60, .ref q71, .null]))] ++ (gX4 q5 u9 cI Z4 ++ (gX4 q16 u20 cI Z4 ++ (gX0 q27 u31.1 cI Z0 ++ gX4 (u31.1 1) u31.2 cI Z4 ++ (gX2 q38 u42 cI Z0 ++ (gX5 q49 u53 cI Z0 ++ (gX1 q60 u64.1 ++ gX4 (u64.1 0) u64.2 cI Z4 ++ (gX3 q71 u75.1 cI Z0 ++ gX4 (u75.1 0) u75.2 cI Z4 ++ [(q84, .inl (cI, 7, .inl (fun _ => 0)))])))))))) H := hP
  have hD : va_D A ([(o, .inr (6, [.ref q5, .ref q16, .int 0, .ref q27, .ref q38, .ref q49, .ref q60, .ref q71, .null]))] ++ (gX4 q5 u9 cI Z4 ++ (gX4 q16 u20 cI Z4 ++ (gX0 q27 u31.1 cI Z0 ++ gX4 (u31.1 1) u31.2 cI Z4 ++ (gX2 q38 u42 cI Z0 ++ (gX5 q49 u53 cI Z0 ++ (gX1 q60 u64.1 ++ gX4 (u64.1 0) u64.2 cI Z4 ++ (gX3 q71 u75.1 cI Z0 ++ gX4 (u75.1 0) u75.2 cI Z4 ++ [(q84, .inl (cI, 7, .inl (fun _ => 0)))])))))))) := hD
  refine W.widen (k := 45) (n := 410) (by decide) (by decide) ?_
  refine va_putF (D := D) (ci := 6) (v := .ref q84) (ty := .array .int) (C := RX6) (T := TX6) (N := 9) hx hb hts hinX6 tyX6 tyX6_ok nmX6 hown hK hP hD hS 0 rfl rfl 8 (by decide) (hts (.fieldLink RX6 54 "OnlyStrangersHear" "refusals" "[I") (by decide +kernel)) (fun _ h9 => h9) rfl hnm rfl (by decide +kernel) rfl rfl (Nat.le_of_ble_eq_true rfl) dX6_init_86 (fun H locs hP hD hS => ?_)
  have hP : va_P D vwCl ([(o, .inr (6, [.ref q5, .ref q16, .int 0, .ref q27, .ref q38, .ref q49, .ref q60, .ref q71, .ref q84]))] ++ (gX4 q5 u9 cI Z4 ++ (gX4 q16 u20 cI Z4 ++ (gX0 q27 u31.1 cI Z0 ++ gX4 (u31.1 1) u31.2 cI Z4 ++ (gX2 q38 u42 cI Z0 ++ (gX5 q49 u53 cI Z0 ++ (gX1 q60 u64.1 ++ gX4 (u64.1 0) u64.2 cI Z4 ++ (gX3 q71 u75.1 cI Z0 ++ gX4 (u75.1 0) u75.2 cI Z4 ++ [(q84, .inl (cI, 7, .inl (fun _ => 0)))])))))))) H := hP
  have hD : va_D A ([(o, .inr (6, [.ref q5, .ref q16, .int 0, .ref q27, .ref q38, .ref q49, .ref q60, .ref q71, .ref q84]))] ++ (gX4 q5 u9 cI Z4 ++ (gX4 q16 u20 cI Z4 ++ (gX0 q27 u31.1 cI Z0 ++ gX4 (u31.1 1) u31.2 cI Z4 ++ (gX2 q38 u42 cI Z0 ++ (gX5 q49 u53 cI Z0 ++ (gX1 q60 u64.1 ++ gX4 (u64.1 0) u64.2 cI Z4 ++ (gX3 q71 u75.1 cI Z0 ++ gX4 (u75.1 0) u75.2 cI Z4 ++ [(q84, .inl (cI, 7, .inl (fun _ => 0)))])))))))) := hD
  obtain ⟨U, hU⟩ : ∃ U : (Nat → Nat) × (Nat → Nat) × (Nat → Nat) × (Nat → Nat) × (Nat → Nat) × (Nat → Nat) × (Nat → Nat) × (Nat → Nat) × (Nat → Nat) × (Nat → Nat) × (Nat → Nat), U = ((fun k : Nat => if k = 0 then q5 else if k = 1 then q16 else if k = 3 then q27 else if k = 4 then q38 else if k = 5 then q49 else if k = 6 then q60 else if k = 7 then q71 else if k = 8 then q84 else 0), u9, u20, u31.1, u31.2, u42, u53, u64.1, u64.2, u75.1, u75.2) := ⟨_, rfl⟩
  have hP9 : va_P D vwCl (gX6 o U.1 cI Z0 ++ (gX4 (U.1 0) U.2.1 cI Z4 ++ (gX4 (U.1 1) U.2.2.1 cI Z4 ++ (gX0 (U.1 3) U.2.2.2.1 cI Z0 ++ (gX4 (U.2.2.2.1 1) U.2.2.2.2.1 cI Z4 ++ (gX2 (U.1 4) U.2.2.2.2.2.1 cI Z0 ++ (gX5 (U.1 5) U.2.2.2.2.2.2.1 cI Z0 ++ (gX1 (U.1 6) U.2.2.2.2.2.2.2.1 ++ (gX4 (U.2.2.2.2.2.2.2.1 0) U.2.2.2.2.2.2.2.2.1 cI Z4 ++ (gX3 (U.1 7) U.2.2.2.2.2.2.2.2.2.1 cI Z0 ++ gX4 (U.2.2.2.2.2.2.2.2.2.1 0) U.2.2.2.2.2.2.2.2.2.2 cI Z4)))))))))) H := by rw [hU]; exact hP.sub [0, 45, 1, 2, 3, 4, 5, 6, 7, 8, 9, 10, 11, 12, 13, 14, 15, 16, 17, 18, 19, 20, 21, 22, 23, 24, 25, 26, 27, 28, 29, 30, 31, 32, 33, 34, 35, 36, 37, 38, 39, 40, 41, 42, 43, 44] rfl
  have hD9 : va_D A (gX6 o U.1 cI Z0 ++ (gX4 (U.1 0) U.2.1 cI Z4 ++ (gX4 (U.1 1) U.2.2.1 cI Z4 ++ (gX0 (U.1 3) U.2.2.2.1 cI Z0 ++ (gX4 (U.2.2.2.1 1) U.2.2.2.2.1 cI Z4 ++ (gX2 (U.1 4) U.2.2.2.2.2.1 cI Z0 ++ (gX5 (U.1 5) U.2.2.2.2.2.2.1 cI Z0 ++ (gX1 (U.1 6) U.2.2.2.2.2.2.2.1 ++ (gX4 (U.2.2.2.2.2.2.2.1 0) U.2.2.2.2.2.2.2.2.1 cI Z4 ++ (gX3 (U.1 7) U.2.2.2.2.2.2.2.2.2.1 cI Z0 ++ gX4 (U.2.2.2.2.2.2.2.2.2.1 0) U.2.2.2.2.2.2.2.2.2.2 cI Z4)))))))))) := by rw [hU]; exact hD.sub [0, 45, 1, 2, 3, 4, 5, 6, 7, 8, 9, 10, 11, 12, 13, 14, 15, 16, 17, 18, 19, 20, 21, 22, 23, 24, 25, 26, 27, 28, 29, 30, 31, 32, 33, 34, 35, 36, 37, 38, 39, 40, 41, 42, 43, 44] (by decide) rfl
  exact kv hx hb hK hr hlk U hQ dX6_init_89 hP9 hD9 hS
abbrev rmX7_init : Room := { frames := 1, cells := 14, slots := 551, locals := 12 }
set_option maxHeartbeats 4000000 in
set_option maxRecDepth 100000 in
theorem i_X7 (l : Launch) (D : va_G) (cI : ClassId) (o : Nat) : Kn (B := (Nat → Nat)) l yX7_init wsX7_init rmX7_init D cI o [(o, .inr (7, [.null, .null, .null, .null, .null, .null, .null, .int 0, .int 0, .int 0, .int 0, .int 0, .null, .null, .null, .null, .int 0, .int 0, .int 0, .null, .int 0, .int 0, .int 0, .null, .null, .int 0]))] (fun u => gX7 o u cI Z7) 14 551 := by
  refine Kn.mk (cc := cX7_init) (maxL := 1) (by decide) rfl (Nat.le_of_ble_eq_true rfl) ?_
  intro p e s m below meth c A ls Q hx hb hml hown hts hK hA hP hD hS hl hr hlk hnm hQ
  have hown : s.vm.findClass RX7 = some m.cls := hown
  have hinX7 : ∀ w ∈ u_ws RX7 TX7 26, w ∈ wsX7_init := by decide +kernel
  have hl : lv_has ls 1 [(0, .ref o)] := hl
  refine lv_aload_n hx hb dX7_init_0 rfl (lv_at hl 0 rfl) ?_
  refine W.objInit hx hb hown (hts (.methodLink RX7 1 objectInit) (by decide +kernel)) (hts (.instanceMethod objectInit) (by decide +kernel)) (hts _ (List.mem_cons_of_mem _ (List.mem_append_left _ (List.mem_of_getElem? (i := 2) rfl)))) rfl (by rw [hml]; exact hl.1) rfl dX7_init_1 (by decide) (Nat.le_of_ble_eq_true rfl) ?_
  refine W.eq (g2 := F0 m 4 ls []) rfl ?_
  refine lv_aload_n hx hb dX7_init_4 rfl (lv_at hl 0 rfl) ?_
  refine lv_bipush (v := (7 : Int32)) hx hb dX7_init_5 (by decide) ?_
  refine va_newa (atype := .int) (n := (7 : Int32)) (N' := 7) (a0 := (7, .inl (fun _ => 0))) hx hb (hts (.arrayClass .int) (by decide +kernel)) rfl hK hP hD hS hA (fun _ => rfl) (by decide) (by decide) (by decide) (by decide) (by decide) dX7_init_7 (fun q7 cA H hK2 hP hD hS => ?_)
  have ecA := cA_eq hK2
  rw [ecA] at hP hD
  clear hK2 ecA cA
  have hP : va_P D vwCl ([(o, .inr (7, [.null, .null, .null, .null, .null, .null, .null, .int 0, .int 0, .int 0, .int 0, .int 0, .null, .null, .null, .null, .int 0, .int 0, .int 0, .null, .int 0, .int 0, .int 0, .null, .null, .int 0])), (q7, .inl (cI, 7, .inl (fun _ => 0)))]) H := hP
  have hD : va_D A ([(o, .inr (7, [.null, .null, .null, .null, .null, .null, .null, .int 0, .int 0, .int 0, .int 0, .int 0, .null, .null, .null, .null, .int 0, .int 0, .int 0, .null, .int 0, .int 0, .int 0, .null, .null, .int 0])), (q7, .inl (cI, 7, .inl (fun _ => 0)))]) := hD
  refine W.widen (k := 1) (n := 7) (by decide) (by decide) ?_
  refine va_putF (D := D) (ci := 7) (v := .ref q7) (ty := .array .int) (C := RX7) (T := TX7) (N := 26) hx hb hts hinX7 tyX7 tyX7_ok nmX7 hown hK hP hD hS 0 rfl rfl 0 (by decide) (hts (.fieldLink RX7 7 "OnlyStrangersHearModel" "refused" "[I") (by decide +kernel)) (fun _ h9 => h9) rfl hnm rfl (by decide +kernel) rfl rfl (Nat.le_of_ble_eq_true rfl) dX7_init_9 (fun H locs hP hD hS => ?_)
  have hP : va_P D vwCl ([(o, .inr (7, [.ref q7, .null, .null, .null, .null, .null, .null, .int 0, .int 0, .int 0, .int 0, .int 0, .null, .null, .null, .null, .int 0, .int 0, .int 0, .null, .int 0, .int 0, .int 0, .null, .null, .int 0])), (q7, .inl (cI, 7, .inl (fun _ => 0)))]) H := hP
  have hD : va_D A ([(o, .inr (7, [.ref q7, .null, .null, .null, .null, .null, .null, .int 0, .int 0, .int 0, .int 0, .int 0, .null, .null, .null, .null, .int 0, .int 0, .int 0, .null, .int 0, .int 0, .int 0, .null, .null, .int 0])), (q7, .inl (cI, 7, .inl (fun _ => 0)))]) := hD
  refine lv_aload_n hx hb dX7_init_12 rfl (lv_at hl 0 rfl) ?_
  refine lv_bipush (v := (6 : Int32)) hx hb dX7_init_13 (by decide) ?_
  refine va_newa (atype := .int) (n := (6 : Int32)) (N' := 6) (a0 := (6, .inl (fun _ => 0))) hx hb (hts (.arrayClass .int) (by decide +kernel)) rfl hK hP hD hS hA (fun _ => rfl) (by decide) (by decide) (by decide) (by decide) (by decide) dX7_init_15 (fun q15 cA H hK2 hP hD hS => ?_)
  have ecA := cA_eq hK2
  rw [ecA] at hP hD
  clear hK2 ecA cA
  have hP : va_P D vwCl ([(o, .inr (7, [.ref q7, .null, .null, .null, .null, .null, .null, .int 0, .int 0, .int 0, .int 0, .int 0, .null, .null, .null, .null, .int 0, .int 0, .int 0, .null, .int 0, .int 0, .int 0, .null, .null, .int 0])), (q7, .inl (cI, 7, .inl (fun _ => 0))), (q15, .inl (cI, 6, .inl (fun _ => 0)))]) H := hP
  have hD : va_D A ([(o, .inr (7, [.ref q7, .null, .null, .null, .null, .null, .null, .int 0, .int 0, .int 0, .int 0, .int 0, .null, .null, .null, .null, .int 0, .int 0, .int 0, .null, .int 0, .int 0, .int 0, .null, .null, .int 0])), (q7, .inl (cI, 7, .inl (fun _ => 0))), (q15, .inl (cI, 6, .inl (fun _ => 0)))]) := hD
  refine W.widen (k := 2) (n := 13) (by decide) (by decide) ?_
  refine va_putF (D := D) (ci := 7) (v := .ref q15) (ty := .array .int) (C := RX7) (T := TX7) (N := 26) hx hb hts hinX7 tyX7 tyX7_ok nmX7 hown hK hP hD hS 0 rfl rfl 1 (by decide) (hts (.fieldLink RX7 13 "OnlyStrangersHearModel" "hour" "[I") (by decide +kernel)) (fun _ h9 => h9) rfl hnm rfl (by decide +kernel) rfl rfl (Nat.le_of_ble_eq_true rfl) dX7_init_17 (fun H locs hP hD hS => ?_)
  have hP : va_P D vwCl ([(o, .inr (7, [.ref q7, .ref q15, .null, .null, .null, .null, .null, .int 0, .int 0, .int 0, .int 0, .int 0, .null, .null, .null, .null, .int 0, .int 0, .int 0, .null, .int 0, .int 0, .int 0, .null, .null, .int 0])), (q7, .inl (cI, 7, .inl (fun _ => 0))), (q15, .inl (cI, 6, .inl (fun _ => 0)))]) H := hP
  have hD : va_D A ([(o, .inr (7, [.ref q7, .ref q15, .null, .null, .null, .null, .null, .int 0, .int 0, .int 0, .int 0, .int 0, .null, .null, .null, .null, .int 0, .int 0, .int 0, .null, .int 0, .int 0, .int 0, .null, .null, .int 0])), (q7, .inl (cI, 7, .inl (fun _ => 0))), (q15, .inl (cI, 6, .inl (fun _ => 0)))]) := hD
  refine lv_aload_n hx hb dX7_init_20 rfl (lv_at hl 0 rfl) ?_
  refine lv_bipush (v := (6 : Int32)) hx hb dX7_init_21 (by decide) ?_
  refine va_newa (atype := .int) (n := (6 : Int32)) (N' := 6) (a0 := (6, .inl (fun _ => 0))) hx hb (hts (.arrayClass .int) (by decide +kernel)) rfl hK hP hD hS hA (fun _ => rfl) (by decide) (by decide) (by decide) (by decide) (by decide) dX7_init_23 (fun q23 cA H hK2 hP hD hS => ?_)
  have ecA := cA_eq hK2
  rw [ecA] at hP hD
  clear hK2 ecA cA
  have hP : va_P D vwCl ([(o, .inr (7, [.ref q7, .ref q15, .null, .null, .null, .null, .null, .int 0, .int 0, .int 0, .int 0, .int 0, .null, .null, .null, .null, .int 0, .int 0, .int 0, .null, .int 0, .int 0, .int 0, .null, .null, .int 0])), (q7, .inl (cI, 7, .inl (fun _ => 0))), (q15, .inl (cI, 6, .inl (fun _ => 0))), (q23, .inl (cI, 6, .inl (fun _ => 0)))]) H := hP
  have hD : va_D A ([(o, .inr (7, [.ref q7, .ref q15, .null, .null, .null, .null, .null, .int 0, .int 0, .int 0, .int 0, .int 0, .null, .null, .null, .null, .int 0, .int 0, .int 0, .null, .int 0, .int 0, .int 0, .null, .null, .int 0])), (q7, .inl (cI, 7, .inl (fun _ => 0))), (q15, .inl (cI, 6, .inl (fun _ => 0))), (q23, .inl (cI, 6, .inl (fun _ => 0)))]) := hD
  refine W.widen (k := 3) (n := 19) (by decide) (by decide) ?_
  refine va_putF (D := D) (ci := 7) (v := .ref q23) (ty := .array .int) (C := RX7) (T := TX7) (N := 26) hx hb hts hinX7 tyX7 tyX7_ok nmX7 hown hK hP hD hS 0 rfl rfl 2 (by decide) (hts (.fieldLink RX7 16 "OnlyStrangersHearModel" "every" "[I") (by decide +kernel)) (fun _ h9 => h9) rfl hnm rfl (by decide +kernel) rfl rfl (Nat.le_of_ble_eq_true rfl) dX7_init_25 (fun H locs hP hD hS => ?_)
  have hP : va_P D vwCl ([(o, .inr (7, [.ref q7, .ref q15, .ref q23, .null, .null, .null, .null, .int 0, .int 0, .int 0, .int 0, .int 0, .null, .null, .null, .null, .int 0, .int 0, .int 0, .null, .int 0, .int 0, .int 0, .null, .null, .int 0])), (q7, .inl (cI, 7, .inl (fun _ => 0))), (q15, .inl (cI, 6, .inl (fun _ => 0))), (q23, .inl (cI, 6, .inl (fun _ => 0)))]) H := hP
  have hD : va_D A ([(o, .inr (7, [.ref q7, .ref q15, .ref q23, .null, .null, .null, .null, .int 0, .int 0, .int 0, .int 0, .int 0, .null, .null, .null, .null, .int 0, .int 0, .int 0, .null, .int 0, .int 0, .int 0, .null, .null, .int 0])), (q7, .inl (cI, 7, .inl (fun _ => 0))), (q15, .inl (cI, 6, .inl (fun _ => 0))), (q23, .inl (cI, 6, .inl (fun _ => 0)))]) := hD
  refine lv_aload_n hx hb dX7_init_28 rfl (lv_at hl 0 rfl) ?_
  refine lv_bipush (v := (8 : Int32)) hx hb dX7_init_29 (by decide) ?_
  refine va_newa (atype := .int) (n := (8 : Int32)) (N' := 8) (a0 := (8, .inl (fun _ => 0))) hx hb (hts (.arrayClass .int) (by decide +kernel)) rfl hK hP hD hS hA (fun _ => rfl) (by decide) (by decide) (by decide) (by decide) (by decide) dX7_init_31 (fun q31 cA H hK2 hP hD hS => ?_)
  have ecA := cA_eq hK2
  rw [ecA] at hP hD
  clear hK2 ecA cA
  have hP : va_P D vwCl ([(o, .inr (7, [.ref q7, .ref q15, .ref q23, .null, .null, .null, .null, .int 0, .int 0, .int 0, .int 0, .int 0, .null, .null, .null, .null, .int 0, .int 0, .int 0, .null, .int 0, .int 0, .int 0, .null, .null, .int 0])), (q7, .inl (cI, 7, .inl (fun _ => 0))), (q15, .inl (cI, 6, .inl (fun _ => 0))), (q23, .inl (cI, 6, .inl (fun _ => 0))), (q31, .inl (cI, 8, .inl (fun _ => 0)))]) H := hP
  have hD : va_D A ([(o, .inr (7, [.ref q7, .ref q15, .ref q23, .null, .null, .null, .null, .int 0, .int 0, .int 0, .int 0, .int 0, .null, .null, .null, .null, .int 0, .int 0, .int 0, .null, .int 0, .int 0, .int 0, .null, .null, .int 0])), (q7, .inl (cI, 7, .inl (fun _ => 0))), (q15, .inl (cI, 6, .inl (fun _ => 0))), (q23, .inl (cI, 6, .inl (fun _ => 0))), (q31, .inl (cI, 8, .inl (fun _ => 0)))]) := hD
  refine W.widen (k := 4) (n := 27) (by decide) (by decide) ?_
  refine va_putF (D := D) (ci := 7) (v := .ref q31) (ty := .array .int) (C := RX7) (T := TX7) (N := 26) hx hb hts hinX7 tyX7 tyX7_ok nmX7 hown hK hP hD hS 0 rfl rfl 3 (by decide) (hts (.fieldLink RX7 19 "OnlyStrangersHearModel" "kind" "[I") (by decide +kernel)) (fun _ h9 => h9) rfl hnm rfl (by decide +kernel) rfl rfl (Nat.le_of_ble_eq_true rfl) dX7_init_33 (fun H locs hP hD hS => ?_)
  have hP : va_P D vwCl ([(o, .inr (7, [.ref q7, .ref q15, .ref q23, .ref q31, .null, .null, .null, .int 0, .int 0, .int 0, .int 0, .int 0, .null, .null, .null, .null, .int 0, .int 0, .int 0, .null, .int 0, .int 0, .int 0, .null, .null, .int 0])), (q7, .inl (cI, 7, .inl (fun _ => 0))), (q15, .inl (cI, 6, .inl (fun _ => 0))), (q23, .inl (cI, 6, .inl (fun _ => 0))), (q31, .inl (cI, 8, .inl (fun _ => 0)))]) H := hP
  have hD : va_D A ([(o, .inr (7, [.ref q7, .ref q15, .ref q23, .ref q31, .null, .null, .null, .int 0, .int 0, .int 0, .int 0, .int 0, .null, .null, .null, .null, .int 0, .int 0, .int 0, .null, .int 0, .int 0, .int 0, .null, .null, .int 0])), (q7, .inl (cI, 7, .inl (fun _ => 0))), (q15, .inl (cI, 6, .inl (fun _ => 0))), (q23, .inl (cI, 6, .inl (fun _ => 0))), (q31, .inl (cI, 8, .inl (fun _ => 0)))]) := hD
  refine lv_aload_n hx hb dX7_init_36 rfl (lv_at hl 0 rfl) ?_
  refine lv_bipush (v := (8 : Int32)) hx hb dX7_init_37 (by decide) ?_
  refine va_newa (atype := .int) (n := (8 : Int32)) (N' := 8) (a0 := (8, .inl (fun _ => 0))) hx hb (hts (.arrayClass .int) (by decide +kernel)) rfl hK hP hD hS hA (fun _ => rfl) (by decide) (by decide) (by decide) (by decide) (by decide) dX7_init_39 (fun q39 cA H hK2 hP hD hS => ?_)
  have ecA := cA_eq hK2
  rw [ecA] at hP hD
  clear hK2 ecA cA
  have hP : va_P D vwCl ([(o, .inr (7, [.ref q7, .ref q15, .ref q23, .ref q31, .null, .null, .null, .int 0, .int 0, .int 0, .int 0, .int 0, .null, .null, .null, .null, .int 0, .int 0, .int 0, .null, .int 0, .int 0, .int 0, .null, .null, .int 0])), (q7, .inl (cI, 7, .inl (fun _ => 0))), (q15, .inl (cI, 6, .inl (fun _ => 0))), (q23, .inl (cI, 6, .inl (fun _ => 0))), (q31, .inl (cI, 8, .inl (fun _ => 0))), (q39, .inl (cI, 8, .inl (fun _ => 0)))]) H := hP
  have hD : va_D A ([(o, .inr (7, [.ref q7, .ref q15, .ref q23, .ref q31, .null, .null, .null, .int 0, .int 0, .int 0, .int 0, .int 0, .null, .null, .null, .null, .int 0, .int 0, .int 0, .null, .int 0, .int 0, .int 0, .null, .null, .int 0])), (q7, .inl (cI, 7, .inl (fun _ => 0))), (q15, .inl (cI, 6, .inl (fun _ => 0))), (q23, .inl (cI, 6, .inl (fun _ => 0))), (q31, .inl (cI, 8, .inl (fun _ => 0))), (q39, .inl (cI, 8, .inl (fun _ => 0)))]) := hD
  refine W.widen (k := 5) (n := 35) (by decide) (by decide) ?_
  refine va_putF (D := D) (ci := 7) (v := .ref q39) (ty := .array .int) (C := RX7) (T := TX7) (N := 26) hx hb hts hinX7 tyX7 tyX7_ok nmX7 hown hK hP hD hS 0 rfl rfl 4 (by decide) (hts (.fieldLink RX7 22 "OnlyStrangersHearModel" "figure" "[I") (by decide +kernel)) (fun _ h9 => h9) rfl hnm rfl (by decide +kernel) rfl rfl (Nat.le_of_ble_eq_true rfl) dX7_init_41 (fun H locs hP hD hS => ?_)
  have hP : va_P D vwCl ([(o, .inr (7, [.ref q7, .ref q15, .ref q23, .ref q31, .ref q39, .null, .null, .int 0, .int 0, .int 0, .int 0, .int 0, .null, .null, .null, .null, .int 0, .int 0, .int 0, .null, .int 0, .int 0, .int 0, .null, .null, .int 0])), (q7, .inl (cI, 7, .inl (fun _ => 0))), (q15, .inl (cI, 6, .inl (fun _ => 0))), (q23, .inl (cI, 6, .inl (fun _ => 0))), (q31, .inl (cI, 8, .inl (fun _ => 0))), (q39, .inl (cI, 8, .inl (fun _ => 0)))]) H := hP
  have hD : va_D A ([(o, .inr (7, [.ref q7, .ref q15, .ref q23, .ref q31, .ref q39, .null, .null, .int 0, .int 0, .int 0, .int 0, .int 0, .null, .null, .null, .null, .int 0, .int 0, .int 0, .null, .int 0, .int 0, .int 0, .null, .null, .int 0])), (q7, .inl (cI, 7, .inl (fun _ => 0))), (q15, .inl (cI, 6, .inl (fun _ => 0))), (q23, .inl (cI, 6, .inl (fun _ => 0))), (q31, .inl (cI, 8, .inl (fun _ => 0))), (q39, .inl (cI, 8, .inl (fun _ => 0)))]) := hD
  refine lv_aload_n hx hb dX7_init_44 rfl (lv_at hl 0 rfl) ?_
  refine lv_bipush (v := (8 : Int32)) hx hb dX7_init_45 (by decide) ?_
  refine va_newa (atype := .int) (n := (8 : Int32)) (N' := 8) (a0 := (8, .inl (fun _ => 0))) hx hb (hts (.arrayClass .int) (by decide +kernel)) rfl hK hP hD hS hA (fun _ => rfl) (by decide) (by decide) (by decide) (by decide) (by decide) dX7_init_47 (fun q47 cA H hK2 hP hD hS => ?_)
  have ecA := cA_eq hK2
  rw [ecA] at hP hD
  clear hK2 ecA cA
  have hP : va_P D vwCl ([(o, .inr (7, [.ref q7, .ref q15, .ref q23, .ref q31, .ref q39, .null, .null, .int 0, .int 0, .int 0, .int 0, .int 0, .null, .null, .null, .null, .int 0, .int 0, .int 0, .null, .int 0, .int 0, .int 0, .null, .null, .int 0])), (q7, .inl (cI, 7, .inl (fun _ => 0))), (q15, .inl (cI, 6, .inl (fun _ => 0))), (q23, .inl (cI, 6, .inl (fun _ => 0))), (q31, .inl (cI, 8, .inl (fun _ => 0))), (q39, .inl (cI, 8, .inl (fun _ => 0))), (q47, .inl (cI, 8, .inl (fun _ => 0)))]) H := hP
  have hD : va_D A ([(o, .inr (7, [.ref q7, .ref q15, .ref q23, .ref q31, .ref q39, .null, .null, .int 0, .int 0, .int 0, .int 0, .int 0, .null, .null, .null, .null, .int 0, .int 0, .int 0, .null, .int 0, .int 0, .int 0, .null, .null, .int 0])), (q7, .inl (cI, 7, .inl (fun _ => 0))), (q15, .inl (cI, 6, .inl (fun _ => 0))), (q23, .inl (cI, 6, .inl (fun _ => 0))), (q31, .inl (cI, 8, .inl (fun _ => 0))), (q39, .inl (cI, 8, .inl (fun _ => 0))), (q47, .inl (cI, 8, .inl (fun _ => 0)))]) := hD
  refine W.widen (k := 6) (n := 43) (by decide) (by decide) ?_
  refine va_putF (D := D) (ci := 7) (v := .ref q47) (ty := .array .int) (C := RX7) (T := TX7) (N := 26) hx hb hts hinX7 tyX7 tyX7_ok nmX7 hown hK hP hD hS 0 rfl rfl 5 (by decide) (hts (.fieldLink RX7 25 "OnlyStrangersHearModel" "slept" "[I") (by decide +kernel)) (fun _ h9 => h9) rfl hnm rfl (by decide +kernel) rfl rfl (Nat.le_of_ble_eq_true rfl) dX7_init_49 (fun H locs hP hD hS => ?_)
  have hP : va_P D vwCl ([(o, .inr (7, [.ref q7, .ref q15, .ref q23, .ref q31, .ref q39, .ref q47, .null, .int 0, .int 0, .int 0, .int 0, .int 0, .null, .null, .null, .null, .int 0, .int 0, .int 0, .null, .int 0, .int 0, .int 0, .null, .null, .int 0])), (q7, .inl (cI, 7, .inl (fun _ => 0))), (q15, .inl (cI, 6, .inl (fun _ => 0))), (q23, .inl (cI, 6, .inl (fun _ => 0))), (q31, .inl (cI, 8, .inl (fun _ => 0))), (q39, .inl (cI, 8, .inl (fun _ => 0))), (q47, .inl (cI, 8, .inl (fun _ => 0)))]) H := hP
  have hD : va_D A ([(o, .inr (7, [.ref q7, .ref q15, .ref q23, .ref q31, .ref q39, .ref q47, .null, .int 0, .int 0, .int 0, .int 0, .int 0, .null, .null, .null, .null, .int 0, .int 0, .int 0, .null, .int 0, .int 0, .int 0, .null, .null, .int 0])), (q7, .inl (cI, 7, .inl (fun _ => 0))), (q15, .inl (cI, 6, .inl (fun _ => 0))), (q23, .inl (cI, 6, .inl (fun _ => 0))), (q31, .inl (cI, 8, .inl (fun _ => 0))), (q39, .inl (cI, 8, .inl (fun _ => 0))), (q47, .inl (cI, 8, .inl (fun _ => 0)))]) := hD
  refine lv_aload_n hx hb dX7_init_52 rfl (lv_at hl 0 rfl) ?_
  refine lv_bipush (v := (8 : Int32)) hx hb dX7_init_53 (by decide) ?_
  refine va_newa (atype := .int) (n := (8 : Int32)) (N' := 8) (a0 := (8, .inl (fun _ => 0))) hx hb (hts (.arrayClass .int) (by decide +kernel)) rfl hK hP hD hS hA (fun _ => rfl) (by decide) (by decide) (by decide) (by decide) (by decide) dX7_init_55 (fun q55 cA H hK2 hP hD hS => ?_)
  have ecA := cA_eq hK2
  rw [ecA] at hP hD
  clear hK2 ecA cA
  have hP : va_P D vwCl ([(o, .inr (7, [.ref q7, .ref q15, .ref q23, .ref q31, .ref q39, .ref q47, .null, .int 0, .int 0, .int 0, .int 0, .int 0, .null, .null, .null, .null, .int 0, .int 0, .int 0, .null, .int 0, .int 0, .int 0, .null, .null, .int 0])), (q7, .inl (cI, 7, .inl (fun _ => 0))), (q15, .inl (cI, 6, .inl (fun _ => 0))), (q23, .inl (cI, 6, .inl (fun _ => 0))), (q31, .inl (cI, 8, .inl (fun _ => 0))), (q39, .inl (cI, 8, .inl (fun _ => 0))), (q47, .inl (cI, 8, .inl (fun _ => 0))), (q55, .inl (cI, 8, .inl (fun _ => 0)))]) H := hP
  have hD : va_D A ([(o, .inr (7, [.ref q7, .ref q15, .ref q23, .ref q31, .ref q39, .ref q47, .null, .int 0, .int 0, .int 0, .int 0, .int 0, .null, .null, .null, .null, .int 0, .int 0, .int 0, .null, .int 0, .int 0, .int 0, .null, .null, .int 0])), (q7, .inl (cI, 7, .inl (fun _ => 0))), (q15, .inl (cI, 6, .inl (fun _ => 0))), (q23, .inl (cI, 6, .inl (fun _ => 0))), (q31, .inl (cI, 8, .inl (fun _ => 0))), (q39, .inl (cI, 8, .inl (fun _ => 0))), (q47, .inl (cI, 8, .inl (fun _ => 0))), (q55, .inl (cI, 8, .inl (fun _ => 0)))]) := hD
  refine W.widen (k := 7) (n := 51) (by decide) (by decide) ?_
  refine va_putF (D := D) (ci := 7) (v := .ref q55) (ty := .array .int) (C := RX7) (T := TX7) (N := 26) hx hb hts hinX7 tyX7 tyX7_ok nmX7 hown hK hP hD hS 0 rfl rfl 6 (by decide) (hts (.fieldLink RX7 28 "OnlyStrangersHearModel" "away" "[I") (by decide +kernel)) (fun _ h9 => h9) rfl hnm rfl (by decide +kernel) rfl rfl (Nat.le_of_ble_eq_true rfl) dX7_init_57 (fun H locs hP hD hS => ?_)
  have hP : va_P D vwCl ([(o, .inr (7, [.ref q7, .ref q15, .ref q23, .ref q31, .ref q39, .ref q47, .ref q55, .int 0, .int 0, .int 0, .int 0, .int 0, .null, .null, .null, .null, .int 0, .int 0, .int 0, .null, .int 0, .int 0, .int 0, .null, .null, .int 0])), (q7, .inl (cI, 7, .inl (fun _ => 0))), (q15, .inl (cI, 6, .inl (fun _ => 0))), (q23, .inl (cI, 6, .inl (fun _ => 0))), (q31, .inl (cI, 8, .inl (fun _ => 0))), (q39, .inl (cI, 8, .inl (fun _ => 0))), (q47, .inl (cI, 8, .inl (fun _ => 0))), (q55, .inl (cI, 8, .inl (fun _ => 0)))]) H := hP
  have hD : va_D A ([(o, .inr (7, [.ref q7, .ref q15, .ref q23, .ref q31, .ref q39, .ref q47, .ref q55, .int 0, .int 0, .int 0, .int 0, .int 0, .null, .null, .null, .null, .int 0, .int 0, .int 0, .null, .int 0, .int 0, .int 0, .null, .null, .int 0])), (q7, .inl (cI, 7, .inl (fun _ => 0))), (q15, .inl (cI, 6, .inl (fun _ => 0))), (q23, .inl (cI, 6, .inl (fun _ => 0))), (q31, .inl (cI, 8, .inl (fun _ => 0))), (q39, .inl (cI, 8, .inl (fun _ => 0))), (q47, .inl (cI, 8, .inl (fun _ => 0))), (q55, .inl (cI, 8, .inl (fun _ => 0)))]) := hD
  refine lv_aload_n hx hb dX7_init_60 rfl (lv_at hl 0 rfl) ?_
  refine lv_bipush (v := (-9 : Int32)) hx hb dX7_init_61 (by decide) ?_
  refine va_put (D := D) (ci := 7) (v := .int (-9 : Int32)) (ty := .int) (C := RX7) (T := TX7) (N := 26) hx hb hts hinX7 tyX7 tyX7_ok nmX7 hown hK hP hD hS 0 rfl rfl 11 (by decide) (hts (.fieldLink RX7 31 "OnlyStrangersHearModel" "out" "I") (by decide +kernel)) (fun _ h9 => h9) rfl (by decide +kernel) rfl rfl (Nat.le_of_ble_eq_true rfl) dX7_init_63 (fun H locs hP hD hS => ?_)
  have hP : va_P D vwCl ([(o, .inr (7, [.ref q7, .ref q15, .ref q23, .ref q31, .ref q39, .ref q47, .ref q55, .int 0, .int 0, .int 0, .int 0, .int (-9 : Int32), .null, .null, .null, .null, .int 0, .int 0, .int 0, .null, .int 0, .int 0, .int 0, .null, .null, .int 0])), (q7, .inl (cI, 7, .inl (fun _ => 0))), (q15, .inl (cI, 6, .inl (fun _ => 0))), (q23, .inl (cI, 6, .inl (fun _ => 0))), (q31, .inl (cI, 8, .inl (fun _ => 0))), (q39, .inl (cI, 8, .inl (fun _ => 0))), (q47, .inl (cI, 8, .inl (fun _ => 0))), (q55, .inl (cI, 8, .inl (fun _ => 0)))]) H := hP
  have hD : va_D A ([(o, .inr (7, [.ref q7, .ref q15, .ref q23, .ref q31, .ref q39, .ref q47, .ref q55, .int 0, .int 0, .int 0, .int 0, .int (-9 : Int32), .null, .null, .null, .null, .int 0, .int 0, .int 0, .null, .int 0, .int 0, .int 0, .null, .null, .int 0])), (q7, .inl (cI, 7, .inl (fun _ => 0))), (q15, .inl (cI, 6, .inl (fun _ => 0))), (q23, .inl (cI, 6, .inl (fun _ => 0))), (q31, .inl (cI, 8, .inl (fun _ => 0))), (q39, .inl (cI, 8, .inl (fun _ => 0))), (q47, .inl (cI, 8, .inl (fun _ => 0))), (q55, .inl (cI, 8, .inl (fun _ => 0)))]) := hD
  refine lv_aload_n hx hb dX7_init_66 rfl (lv_at hl 0 rfl) ?_
  refine lv_bipush (v := (96 : Int32)) hx hb dX7_init_67 (by decide) ?_
  refine va_newa (atype := .int) (n := (96 : Int32)) (N' := 96) (a0 := (96, .inl (fun _ => 0))) hx hb (hts (.arrayClass .int) (by decide +kernel)) rfl hK hP hD hS hA (fun _ => rfl) (by decide) (by decide) (by decide) (by decide) (by decide) dX7_init_69 (fun q69 cA H hK2 hP hD hS => ?_)
  have ecA := cA_eq hK2
  rw [ecA] at hP hD
  clear hK2 ecA cA
  have hP : va_P D vwCl ([(o, .inr (7, [.ref q7, .ref q15, .ref q23, .ref q31, .ref q39, .ref q47, .ref q55, .int 0, .int 0, .int 0, .int 0, .int (-9 : Int32), .null, .null, .null, .null, .int 0, .int 0, .int 0, .null, .int 0, .int 0, .int 0, .null, .null, .int 0])), (q7, .inl (cI, 7, .inl (fun _ => 0))), (q15, .inl (cI, 6, .inl (fun _ => 0))), (q23, .inl (cI, 6, .inl (fun _ => 0))), (q31, .inl (cI, 8, .inl (fun _ => 0))), (q39, .inl (cI, 8, .inl (fun _ => 0))), (q47, .inl (cI, 8, .inl (fun _ => 0))), (q55, .inl (cI, 8, .inl (fun _ => 0))), (q69, .inl (cI, 96, .inl (fun _ => 0)))]) H := hP
  have hD : va_D A ([(o, .inr (7, [.ref q7, .ref q15, .ref q23, .ref q31, .ref q39, .ref q47, .ref q55, .int 0, .int 0, .int 0, .int 0, .int (-9 : Int32), .null, .null, .null, .null, .int 0, .int 0, .int 0, .null, .int 0, .int 0, .int 0, .null, .null, .int 0])), (q7, .inl (cI, 7, .inl (fun _ => 0))), (q15, .inl (cI, 6, .inl (fun _ => 0))), (q23, .inl (cI, 6, .inl (fun _ => 0))), (q31, .inl (cI, 8, .inl (fun _ => 0))), (q39, .inl (cI, 8, .inl (fun _ => 0))), (q47, .inl (cI, 8, .inl (fun _ => 0))), (q55, .inl (cI, 8, .inl (fun _ => 0))), (q69, .inl (cI, 96, .inl (fun _ => 0)))]) := hD
  refine W.widen (k := 8) (n := 147) (by decide) (by decide) ?_
  refine va_putF (D := D) (ci := 7) (v := .ref q69) (ty := .array .int) (C := RX7) (T := TX7) (N := 26) hx hb hts hinX7 tyX7 tyX7_ok nmX7 hown hK hP hD hS 0 rfl rfl 12 (by decide) (hts (.fieldLink RX7 35 "OnlyStrangersHearModel" "tape" "[I") (by decide +kernel)) (fun _ h9 => h9) rfl hnm rfl (by decide +kernel) rfl rfl (Nat.le_of_ble_eq_true rfl) dX7_init_71 (fun H locs hP hD hS => ?_)
  have hP : va_P D vwCl ([(o, .inr (7, [.ref q7, .ref q15, .ref q23, .ref q31, .ref q39, .ref q47, .ref q55, .int 0, .int 0, .int 0, .int 0, .int (-9 : Int32), .ref q69, .null, .null, .null, .int 0, .int 0, .int 0, .null, .int 0, .int 0, .int 0, .null, .null, .int 0])), (q7, .inl (cI, 7, .inl (fun _ => 0))), (q15, .inl (cI, 6, .inl (fun _ => 0))), (q23, .inl (cI, 6, .inl (fun _ => 0))), (q31, .inl (cI, 8, .inl (fun _ => 0))), (q39, .inl (cI, 8, .inl (fun _ => 0))), (q47, .inl (cI, 8, .inl (fun _ => 0))), (q55, .inl (cI, 8, .inl (fun _ => 0))), (q69, .inl (cI, 96, .inl (fun _ => 0)))]) H := hP
  have hD : va_D A ([(o, .inr (7, [.ref q7, .ref q15, .ref q23, .ref q31, .ref q39, .ref q47, .ref q55, .int 0, .int 0, .int 0, .int 0, .int (-9 : Int32), .ref q69, .null, .null, .null, .int 0, .int 0, .int 0, .null, .int 0, .int 0, .int 0, .null, .null, .int 0])), (q7, .inl (cI, 7, .inl (fun _ => 0))), (q15, .inl (cI, 6, .inl (fun _ => 0))), (q23, .inl (cI, 6, .inl (fun _ => 0))), (q31, .inl (cI, 8, .inl (fun _ => 0))), (q39, .inl (cI, 8, .inl (fun _ => 0))), (q47, .inl (cI, 8, .inl (fun _ => 0))), (q55, .inl (cI, 8, .inl (fun _ => 0))), (q69, .inl (cI, 96, .inl (fun _ => 0)))]) := hD
  refine lv_aload_n hx hb dX7_init_74 rfl (lv_at hl 0 rfl) ?_
  refine lv_bipush (v := (48 : Int32)) hx hb dX7_init_75 (by decide) ?_
  refine va_newa (atype := .int) (n := (48 : Int32)) (N' := 48) (a0 := (48, .inl (fun _ => 0))) hx hb (hts (.arrayClass .int) (by decide +kernel)) rfl hK hP hD hS hA (fun _ => rfl) (by decide) (by decide) (by decide) (by decide) (by decide) dX7_init_77 (fun q77 cA H hK2 hP hD hS => ?_)
  have ecA := cA_eq hK2
  rw [ecA] at hP hD
  clear hK2 ecA cA
  have hP : va_P D vwCl ([(o, .inr (7, [.ref q7, .ref q15, .ref q23, .ref q31, .ref q39, .ref q47, .ref q55, .int 0, .int 0, .int 0, .int 0, .int (-9 : Int32), .ref q69, .null, .null, .null, .int 0, .int 0, .int 0, .null, .int 0, .int 0, .int 0, .null, .null, .int 0])), (q7, .inl (cI, 7, .inl (fun _ => 0))), (q15, .inl (cI, 6, .inl (fun _ => 0))), (q23, .inl (cI, 6, .inl (fun _ => 0))), (q31, .inl (cI, 8, .inl (fun _ => 0))), (q39, .inl (cI, 8, .inl (fun _ => 0))), (q47, .inl (cI, 8, .inl (fun _ => 0))), (q55, .inl (cI, 8, .inl (fun _ => 0))), (q69, .inl (cI, 96, .inl (fun _ => 0))), (q77, .inl (cI, 48, .inl (fun _ => 0)))]) H := hP
  have hD : va_D A ([(o, .inr (7, [.ref q7, .ref q15, .ref q23, .ref q31, .ref q39, .ref q47, .ref q55, .int 0, .int 0, .int 0, .int 0, .int (-9 : Int32), .ref q69, .null, .null, .null, .int 0, .int 0, .int 0, .null, .int 0, .int 0, .int 0, .null, .null, .int 0])), (q7, .inl (cI, 7, .inl (fun _ => 0))), (q15, .inl (cI, 6, .inl (fun _ => 0))), (q23, .inl (cI, 6, .inl (fun _ => 0))), (q31, .inl (cI, 8, .inl (fun _ => 0))), (q39, .inl (cI, 8, .inl (fun _ => 0))), (q47, .inl (cI, 8, .inl (fun _ => 0))), (q55, .inl (cI, 8, .inl (fun _ => 0))), (q69, .inl (cI, 96, .inl (fun _ => 0))), (q77, .inl (cI, 48, .inl (fun _ => 0)))]) := hD
  refine W.widen (k := 9) (n := 195) (by decide) (by decide) ?_
  refine va_putF (D := D) (ci := 7) (v := .ref q77) (ty := .array .int) (C := RX7) (T := TX7) (N := 26) hx hb hts hinX7 tyX7 tyX7_ok nmX7 hown hK hP hD hS 0 rfl rfl 13 (by decide) (hts (.fieldLink RX7 38 "OnlyStrangersHearModel" "letter" "[I") (by decide +kernel)) (fun _ h9 => h9) rfl hnm rfl (by decide +kernel) rfl rfl (Nat.le_of_ble_eq_true rfl) dX7_init_79 (fun H locs hP hD hS => ?_)
  have hP : va_P D vwCl ([(o, .inr (7, [.ref q7, .ref q15, .ref q23, .ref q31, .ref q39, .ref q47, .ref q55, .int 0, .int 0, .int 0, .int 0, .int (-9 : Int32), .ref q69, .ref q77, .null, .null, .int 0, .int 0, .int 0, .null, .int 0, .int 0, .int 0, .null, .null, .int 0])), (q7, .inl (cI, 7, .inl (fun _ => 0))), (q15, .inl (cI, 6, .inl (fun _ => 0))), (q23, .inl (cI, 6, .inl (fun _ => 0))), (q31, .inl (cI, 8, .inl (fun _ => 0))), (q39, .inl (cI, 8, .inl (fun _ => 0))), (q47, .inl (cI, 8, .inl (fun _ => 0))), (q55, .inl (cI, 8, .inl (fun _ => 0))), (q69, .inl (cI, 96, .inl (fun _ => 0))), (q77, .inl (cI, 48, .inl (fun _ => 0)))]) H := hP
  have hD : va_D A ([(o, .inr (7, [.ref q7, .ref q15, .ref q23, .ref q31, .ref q39, .ref q47, .ref q55, .int 0, .int 0, .int 0, .int 0, .int (-9 : Int32), .ref q69, .ref q77, .null, .null, .int 0, .int 0, .int 0, .null, .int 0, .int 0, .int 0, .null, .null, .int 0])), (q7, .inl (cI, 7, .inl (fun _ => 0))), (q15, .inl (cI, 6, .inl (fun _ => 0))), (q23, .inl (cI, 6, .inl (fun _ => 0))), (q31, .inl (cI, 8, .inl (fun _ => 0))), (q39, .inl (cI, 8, .inl (fun _ => 0))), (q47, .inl (cI, 8, .inl (fun _ => 0))), (q55, .inl (cI, 8, .inl (fun _ => 0))), (q69, .inl (cI, 96, .inl (fun _ => 0))), (q77, .inl (cI, 48, .inl (fun _ => 0)))]) := hD
  refine lv_aload_n hx hb dX7_init_82 rfl (lv_at hl 0 rfl) ?_
  refine lv_bipush (v := (48 : Int32)) hx hb dX7_init_83 (by decide) ?_
  refine va_newa (atype := .int) (n := (48 : Int32)) (N' := 48) (a0 := (48, .inl (fun _ => 0))) hx hb (hts (.arrayClass .int) (by decide +kernel)) rfl hK hP hD hS hA (fun _ => rfl) (by decide) (by decide) (by decide) (by decide) (by decide) dX7_init_85 (fun q85 cA H hK2 hP hD hS => ?_)
  have ecA := cA_eq hK2
  rw [ecA] at hP hD
  clear hK2 ecA cA
  have hP : va_P D vwCl ([(o, .inr (7, [.ref q7, .ref q15, .ref q23, .ref q31, .ref q39, .ref q47, .ref q55, .int 0, .int 0, .int 0, .int 0, .int (-9 : Int32), .ref q69, .ref q77, .null, .null, .int 0, .int 0, .int 0, .null, .int 0, .int 0, .int 0, .null, .null, .int 0])), (q7, .inl (cI, 7, .inl (fun _ => 0))), (q15, .inl (cI, 6, .inl (fun _ => 0))), (q23, .inl (cI, 6, .inl (fun _ => 0))), (q31, .inl (cI, 8, .inl (fun _ => 0))), (q39, .inl (cI, 8, .inl (fun _ => 0))), (q47, .inl (cI, 8, .inl (fun _ => 0))), (q55, .inl (cI, 8, .inl (fun _ => 0))), (q69, .inl (cI, 96, .inl (fun _ => 0))), (q77, .inl (cI, 48, .inl (fun _ => 0))), (q85, .inl (cI, 48, .inl (fun _ => 0)))]) H := hP
  have hD : va_D A ([(o, .inr (7, [.ref q7, .ref q15, .ref q23, .ref q31, .ref q39, .ref q47, .ref q55, .int 0, .int 0, .int 0, .int 0, .int (-9 : Int32), .ref q69, .ref q77, .null, .null, .int 0, .int 0, .int 0, .null, .int 0, .int 0, .int 0, .null, .null, .int 0])), (q7, .inl (cI, 7, .inl (fun _ => 0))), (q15, .inl (cI, 6, .inl (fun _ => 0))), (q23, .inl (cI, 6, .inl (fun _ => 0))), (q31, .inl (cI, 8, .inl (fun _ => 0))), (q39, .inl (cI, 8, .inl (fun _ => 0))), (q47, .inl (cI, 8, .inl (fun _ => 0))), (q55, .inl (cI, 8, .inl (fun _ => 0))), (q69, .inl (cI, 96, .inl (fun _ => 0))), (q77, .inl (cI, 48, .inl (fun _ => 0))), (q85, .inl (cI, 48, .inl (fun _ => 0)))]) := hD
  refine W.widen (k := 10) (n := 243) (by decide) (by decide) ?_
  refine va_putF (D := D) (ci := 7) (v := .ref q85) (ty := .array .int) (C := RX7) (T := TX7) (N := 26) hx hb hts hinX7 tyX7 tyX7_ok nmX7 hown hK hP hD hS 0 rfl rfl 14 (by decide) (hts (.fieldLink RX7 41 "OnlyStrangersHearModel" "letterAt" "[I") (by decide +kernel)) (fun _ h9 => h9) rfl hnm rfl (by decide +kernel) rfl rfl (Nat.le_of_ble_eq_true rfl) dX7_init_87 (fun H locs hP hD hS => ?_)
  have hP : va_P D vwCl ([(o, .inr (7, [.ref q7, .ref q15, .ref q23, .ref q31, .ref q39, .ref q47, .ref q55, .int 0, .int 0, .int 0, .int 0, .int (-9 : Int32), .ref q69, .ref q77, .ref q85, .null, .int 0, .int 0, .int 0, .null, .int 0, .int 0, .int 0, .null, .null, .int 0])), (q7, .inl (cI, 7, .inl (fun _ => 0))), (q15, .inl (cI, 6, .inl (fun _ => 0))), (q23, .inl (cI, 6, .inl (fun _ => 0))), (q31, .inl (cI, 8, .inl (fun _ => 0))), (q39, .inl (cI, 8, .inl (fun _ => 0))), (q47, .inl (cI, 8, .inl (fun _ => 0))), (q55, .inl (cI, 8, .inl (fun _ => 0))), (q69, .inl (cI, 96, .inl (fun _ => 0))), (q77, .inl (cI, 48, .inl (fun _ => 0))), (q85, .inl (cI, 48, .inl (fun _ => 0)))]) H := hP
  have hD : va_D A ([(o, .inr (7, [.ref q7, .ref q15, .ref q23, .ref q31, .ref q39, .ref q47, .ref q55, .int 0, .int 0, .int 0, .int 0, .int (-9 : Int32), .ref q69, .ref q77, .ref q85, .null, .int 0, .int 0, .int 0, .null, .int 0, .int 0, .int 0, .null, .null, .int 0])), (q7, .inl (cI, 7, .inl (fun _ => 0))), (q15, .inl (cI, 6, .inl (fun _ => 0))), (q23, .inl (cI, 6, .inl (fun _ => 0))), (q31, .inl (cI, 8, .inl (fun _ => 0))), (q39, .inl (cI, 8, .inl (fun _ => 0))), (q47, .inl (cI, 8, .inl (fun _ => 0))), (q55, .inl (cI, 8, .inl (fun _ => 0))), (q69, .inl (cI, 96, .inl (fun _ => 0))), (q77, .inl (cI, 48, .inl (fun _ => 0))), (q85, .inl (cI, 48, .inl (fun _ => 0)))]) := hD
  refine lv_aload_n hx hb dX7_init_90 rfl (lv_at hl 0 rfl) ?_
  refine lv_sipush (v := (144 : Int32)) hx hb dX7_init_91 (by decide) ?_
  refine va_newa (atype := .int) (n := (144 : Int32)) (N' := 144) (a0 := (144, .inl (fun _ => 0))) hx hb (hts (.arrayClass .int) (by decide +kernel)) rfl hK hP hD hS hA (fun _ => rfl) (by decide) (by decide) (by decide) (by decide) (by decide) dX7_init_94 (fun q94 cA H hK2 hP hD hS => ?_)
  have ecA := cA_eq hK2
  rw [ecA] at hP hD
  clear hK2 ecA cA
  have hP : va_P D vwCl ([(o, .inr (7, [.ref q7, .ref q15, .ref q23, .ref q31, .ref q39, .ref q47, .ref q55, .int 0, .int 0, .int 0, .int 0, .int (-9 : Int32), .ref q69, .ref q77, .ref q85, .null, .int 0, .int 0, .int 0, .null, .int 0, .int 0, .int 0, .null, .null, .int 0])), (q7, .inl (cI, 7, .inl (fun _ => 0))), (q15, .inl (cI, 6, .inl (fun _ => 0))), (q23, .inl (cI, 6, .inl (fun _ => 0))), (q31, .inl (cI, 8, .inl (fun _ => 0))), (q39, .inl (cI, 8, .inl (fun _ => 0))), (q47, .inl (cI, 8, .inl (fun _ => 0))), (q55, .inl (cI, 8, .inl (fun _ => 0))), (q69, .inl (cI, 96, .inl (fun _ => 0))), (q77, .inl (cI, 48, .inl (fun _ => 0))), (q85, .inl (cI, 48, .inl (fun _ => 0))), (q94, .inl (cI, 144, .inl (fun _ => 0)))]) H := hP
  have hD : va_D A ([(o, .inr (7, [.ref q7, .ref q15, .ref q23, .ref q31, .ref q39, .ref q47, .ref q55, .int 0, .int 0, .int 0, .int 0, .int (-9 : Int32), .ref q69, .ref q77, .ref q85, .null, .int 0, .int 0, .int 0, .null, .int 0, .int 0, .int 0, .null, .null, .int 0])), (q7, .inl (cI, 7, .inl (fun _ => 0))), (q15, .inl (cI, 6, .inl (fun _ => 0))), (q23, .inl (cI, 6, .inl (fun _ => 0))), (q31, .inl (cI, 8, .inl (fun _ => 0))), (q39, .inl (cI, 8, .inl (fun _ => 0))), (q47, .inl (cI, 8, .inl (fun _ => 0))), (q55, .inl (cI, 8, .inl (fun _ => 0))), (q69, .inl (cI, 96, .inl (fun _ => 0))), (q77, .inl (cI, 48, .inl (fun _ => 0))), (q85, .inl (cI, 48, .inl (fun _ => 0))), (q94, .inl (cI, 144, .inl (fun _ => 0)))]) := hD
  refine W.widen (k := 11) (n := 387) (by decide) (by decide) ?_
  refine va_putF (D := D) (ci := 7) (v := .ref q94) (ty := .array .int) (C := RX7) (T := TX7) (N := 26) hx hb hts hinX7 tyX7 tyX7_ok nmX7 hown hK hP hD hS 0 rfl rfl 15 (by decide) (hts (.fieldLink RX7 44 "OnlyStrangersHearModel" "told" "[I") (by decide +kernel)) (fun _ h9 => h9) rfl hnm rfl (by decide +kernel) rfl rfl (Nat.le_of_ble_eq_true rfl) dX7_init_96 (fun H locs hP hD hS => ?_)
  have hP : va_P D vwCl ([(o, .inr (7, [.ref q7, .ref q15, .ref q23, .ref q31, .ref q39, .ref q47, .ref q55, .int 0, .int 0, .int 0, .int 0, .int (-9 : Int32), .ref q69, .ref q77, .ref q85, .ref q94, .int 0, .int 0, .int 0, .null, .int 0, .int 0, .int 0, .null, .null, .int 0])), (q7, .inl (cI, 7, .inl (fun _ => 0))), (q15, .inl (cI, 6, .inl (fun _ => 0))), (q23, .inl (cI, 6, .inl (fun _ => 0))), (q31, .inl (cI, 8, .inl (fun _ => 0))), (q39, .inl (cI, 8, .inl (fun _ => 0))), (q47, .inl (cI, 8, .inl (fun _ => 0))), (q55, .inl (cI, 8, .inl (fun _ => 0))), (q69, .inl (cI, 96, .inl (fun _ => 0))), (q77, .inl (cI, 48, .inl (fun _ => 0))), (q85, .inl (cI, 48, .inl (fun _ => 0))), (q94, .inl (cI, 144, .inl (fun _ => 0)))]) H := hP
  have hD : va_D A ([(o, .inr (7, [.ref q7, .ref q15, .ref q23, .ref q31, .ref q39, .ref q47, .ref q55, .int 0, .int 0, .int 0, .int 0, .int (-9 : Int32), .ref q69, .ref q77, .ref q85, .ref q94, .int 0, .int 0, .int 0, .null, .int 0, .int 0, .int 0, .null, .null, .int 0])), (q7, .inl (cI, 7, .inl (fun _ => 0))), (q15, .inl (cI, 6, .inl (fun _ => 0))), (q23, .inl (cI, 6, .inl (fun _ => 0))), (q31, .inl (cI, 8, .inl (fun _ => 0))), (q39, .inl (cI, 8, .inl (fun _ => 0))), (q47, .inl (cI, 8, .inl (fun _ => 0))), (q55, .inl (cI, 8, .inl (fun _ => 0))), (q69, .inl (cI, 96, .inl (fun _ => 0))), (q77, .inl (cI, 48, .inl (fun _ => 0))), (q85, .inl (cI, 48, .inl (fun _ => 0))), (q94, .inl (cI, 144, .inl (fun _ => 0)))]) := hD
  refine lv_aload_n hx hb dX7_init_99 rfl (lv_at hl 0 rfl) ?_
  refine lv_sipush (v := (144 : Int32)) hx hb dX7_init_100 (by decide) ?_
  refine va_newa (atype := .int) (n := (144 : Int32)) (N' := 144) (a0 := (144, .inl (fun _ => 0))) hx hb (hts (.arrayClass .int) (by decide +kernel)) rfl hK hP hD hS hA (fun _ => rfl) (by decide) (by decide) (by decide) (by decide) (by decide) dX7_init_103 (fun q103 cA H hK2 hP hD hS => ?_)
  have ecA := cA_eq hK2
  rw [ecA] at hP hD
  clear hK2 ecA cA
  have hP : va_P D vwCl ([(o, .inr (7, [.ref q7, .ref q15, .ref q23, .ref q31, .ref q39, .ref q47, .ref q55, .int 0, .int 0, .int 0, .int 0, .int (-9 : Int32), .ref q69, .ref q77, .ref q85, .ref q94, .int 0, .int 0, .int 0, .null, .int 0, .int 0, .int 0, .null, .null, .int 0])), (q7, .inl (cI, 7, .inl (fun _ => 0))), (q15, .inl (cI, 6, .inl (fun _ => 0))), (q23, .inl (cI, 6, .inl (fun _ => 0))), (q31, .inl (cI, 8, .inl (fun _ => 0))), (q39, .inl (cI, 8, .inl (fun _ => 0))), (q47, .inl (cI, 8, .inl (fun _ => 0))), (q55, .inl (cI, 8, .inl (fun _ => 0))), (q69, .inl (cI, 96, .inl (fun _ => 0))), (q77, .inl (cI, 48, .inl (fun _ => 0))), (q85, .inl (cI, 48, .inl (fun _ => 0))), (q94, .inl (cI, 144, .inl (fun _ => 0))), (q103, .inl (cI, 144, .inl (fun _ => 0)))]) H := hP
  have hD : va_D A ([(o, .inr (7, [.ref q7, .ref q15, .ref q23, .ref q31, .ref q39, .ref q47, .ref q55, .int 0, .int 0, .int 0, .int 0, .int (-9 : Int32), .ref q69, .ref q77, .ref q85, .ref q94, .int 0, .int 0, .int 0, .null, .int 0, .int 0, .int 0, .null, .null, .int 0])), (q7, .inl (cI, 7, .inl (fun _ => 0))), (q15, .inl (cI, 6, .inl (fun _ => 0))), (q23, .inl (cI, 6, .inl (fun _ => 0))), (q31, .inl (cI, 8, .inl (fun _ => 0))), (q39, .inl (cI, 8, .inl (fun _ => 0))), (q47, .inl (cI, 8, .inl (fun _ => 0))), (q55, .inl (cI, 8, .inl (fun _ => 0))), (q69, .inl (cI, 96, .inl (fun _ => 0))), (q77, .inl (cI, 48, .inl (fun _ => 0))), (q85, .inl (cI, 48, .inl (fun _ => 0))), (q94, .inl (cI, 144, .inl (fun _ => 0))), (q103, .inl (cI, 144, .inl (fun _ => 0)))]) := hD
  refine W.widen (k := 12) (n := 531) (by decide) (by decide) ?_
  refine va_putF (D := D) (ci := 7) (v := .ref q103) (ty := .array .int) (C := RX7) (T := TX7) (N := 26) hx hb hts hinX7 tyX7 tyX7_ok nmX7 hown hK hP hD hS 0 rfl rfl 19 (by decide) (hts (.fieldLink RX7 47 "OnlyStrangersHearModel" "kept" "[I") (by decide +kernel)) (fun _ h9 => h9) rfl hnm rfl (by decide +kernel) rfl rfl (Nat.le_of_ble_eq_true rfl) dX7_init_105 (fun H locs hP hD hS => ?_)
  have hP : va_P D vwCl ([(o, .inr (7, [.ref q7, .ref q15, .ref q23, .ref q31, .ref q39, .ref q47, .ref q55, .int 0, .int 0, .int 0, .int 0, .int (-9 : Int32), .ref q69, .ref q77, .ref q85, .ref q94, .int 0, .int 0, .int 0, .ref q103, .int 0, .int 0, .int 0, .null, .null, .int 0])), (q7, .inl (cI, 7, .inl (fun _ => 0))), (q15, .inl (cI, 6, .inl (fun _ => 0))), (q23, .inl (cI, 6, .inl (fun _ => 0))), (q31, .inl (cI, 8, .inl (fun _ => 0))), (q39, .inl (cI, 8, .inl (fun _ => 0))), (q47, .inl (cI, 8, .inl (fun _ => 0))), (q55, .inl (cI, 8, .inl (fun _ => 0))), (q69, .inl (cI, 96, .inl (fun _ => 0))), (q77, .inl (cI, 48, .inl (fun _ => 0))), (q85, .inl (cI, 48, .inl (fun _ => 0))), (q94, .inl (cI, 144, .inl (fun _ => 0))), (q103, .inl (cI, 144, .inl (fun _ => 0)))]) H := hP
  have hD : va_D A ([(o, .inr (7, [.ref q7, .ref q15, .ref q23, .ref q31, .ref q39, .ref q47, .ref q55, .int 0, .int 0, .int 0, .int 0, .int (-9 : Int32), .ref q69, .ref q77, .ref q85, .ref q94, .int 0, .int 0, .int 0, .ref q103, .int 0, .int 0, .int 0, .null, .null, .int 0])), (q7, .inl (cI, 7, .inl (fun _ => 0))), (q15, .inl (cI, 6, .inl (fun _ => 0))), (q23, .inl (cI, 6, .inl (fun _ => 0))), (q31, .inl (cI, 8, .inl (fun _ => 0))), (q39, .inl (cI, 8, .inl (fun _ => 0))), (q47, .inl (cI, 8, .inl (fun _ => 0))), (q55, .inl (cI, 8, .inl (fun _ => 0))), (q69, .inl (cI, 96, .inl (fun _ => 0))), (q77, .inl (cI, 48, .inl (fun _ => 0))), (q85, .inl (cI, 48, .inl (fun _ => 0))), (q94, .inl (cI, 144, .inl (fun _ => 0))), (q103, .inl (cI, 144, .inl (fun _ => 0)))]) := hD
  refine lv_aload_n hx hb dX7_init_108 rfl (lv_at hl 0 rfl) ?_
  refine lv_iconst (v := (4 : Int32)) hx hb dX7_init_109 (by decide) ?_
  refine va_newa (atype := .int) (n := (4 : Int32)) (N' := 4) (a0 := (4, .inl (fun _ => 0))) hx hb (hts (.arrayClass .int) (by decide +kernel)) rfl hK hP hD hS hA (fun _ => rfl) (by decide) (by decide) (by decide) (by decide) (by decide) dX7_init_110 (fun q110 cA H hK2 hP hD hS => ?_)
  have ecA := cA_eq hK2
  rw [ecA] at hP hD
  clear hK2 ecA cA
  have hP : va_P D vwCl ([(o, .inr (7, [.ref q7, .ref q15, .ref q23, .ref q31, .ref q39, .ref q47, .ref q55, .int 0, .int 0, .int 0, .int 0, .int (-9 : Int32), .ref q69, .ref q77, .ref q85, .ref q94, .int 0, .int 0, .int 0, .ref q103, .int 0, .int 0, .int 0, .null, .null, .int 0])), (q7, .inl (cI, 7, .inl (fun _ => 0))), (q15, .inl (cI, 6, .inl (fun _ => 0))), (q23, .inl (cI, 6, .inl (fun _ => 0))), (q31, .inl (cI, 8, .inl (fun _ => 0))), (q39, .inl (cI, 8, .inl (fun _ => 0))), (q47, .inl (cI, 8, .inl (fun _ => 0))), (q55, .inl (cI, 8, .inl (fun _ => 0))), (q69, .inl (cI, 96, .inl (fun _ => 0))), (q77, .inl (cI, 48, .inl (fun _ => 0))), (q85, .inl (cI, 48, .inl (fun _ => 0))), (q94, .inl (cI, 144, .inl (fun _ => 0))), (q103, .inl (cI, 144, .inl (fun _ => 0))), (q110, .inl (cI, 4, .inl (fun _ => 0)))]) H := hP
  have hD : va_D A ([(o, .inr (7, [.ref q7, .ref q15, .ref q23, .ref q31, .ref q39, .ref q47, .ref q55, .int 0, .int 0, .int 0, .int 0, .int (-9 : Int32), .ref q69, .ref q77, .ref q85, .ref q94, .int 0, .int 0, .int 0, .ref q103, .int 0, .int 0, .int 0, .null, .null, .int 0])), (q7, .inl (cI, 7, .inl (fun _ => 0))), (q15, .inl (cI, 6, .inl (fun _ => 0))), (q23, .inl (cI, 6, .inl (fun _ => 0))), (q31, .inl (cI, 8, .inl (fun _ => 0))), (q39, .inl (cI, 8, .inl (fun _ => 0))), (q47, .inl (cI, 8, .inl (fun _ => 0))), (q55, .inl (cI, 8, .inl (fun _ => 0))), (q69, .inl (cI, 96, .inl (fun _ => 0))), (q77, .inl (cI, 48, .inl (fun _ => 0))), (q85, .inl (cI, 48, .inl (fun _ => 0))), (q94, .inl (cI, 144, .inl (fun _ => 0))), (q103, .inl (cI, 144, .inl (fun _ => 0))), (q110, .inl (cI, 4, .inl (fun _ => 0)))]) := hD
  refine W.widen (k := 13) (n := 535) (by decide) (by decide) ?_
  refine va_putF (D := D) (ci := 7) (v := .ref q110) (ty := .array .int) (C := RX7) (T := TX7) (N := 26) hx hb hts hinX7 tyX7 tyX7_ok nmX7 hown hK hP hD hS 0 rfl rfl 23 (by decide) (hts (.fieldLink RX7 50 "OnlyStrangersHearModel" "trueBy" "[I") (by decide +kernel)) (fun _ h9 => h9) rfl hnm rfl (by decide +kernel) rfl rfl (Nat.le_of_ble_eq_true rfl) dX7_init_112 (fun H locs hP hD hS => ?_)
  have hP : va_P D vwCl ([(o, .inr (7, [.ref q7, .ref q15, .ref q23, .ref q31, .ref q39, .ref q47, .ref q55, .int 0, .int 0, .int 0, .int 0, .int (-9 : Int32), .ref q69, .ref q77, .ref q85, .ref q94, .int 0, .int 0, .int 0, .ref q103, .int 0, .int 0, .int 0, .ref q110, .null, .int 0])), (q7, .inl (cI, 7, .inl (fun _ => 0))), (q15, .inl (cI, 6, .inl (fun _ => 0))), (q23, .inl (cI, 6, .inl (fun _ => 0))), (q31, .inl (cI, 8, .inl (fun _ => 0))), (q39, .inl (cI, 8, .inl (fun _ => 0))), (q47, .inl (cI, 8, .inl (fun _ => 0))), (q55, .inl (cI, 8, .inl (fun _ => 0))), (q69, .inl (cI, 96, .inl (fun _ => 0))), (q77, .inl (cI, 48, .inl (fun _ => 0))), (q85, .inl (cI, 48, .inl (fun _ => 0))), (q94, .inl (cI, 144, .inl (fun _ => 0))), (q103, .inl (cI, 144, .inl (fun _ => 0))), (q110, .inl (cI, 4, .inl (fun _ => 0)))]) H := hP
  have hD : va_D A ([(o, .inr (7, [.ref q7, .ref q15, .ref q23, .ref q31, .ref q39, .ref q47, .ref q55, .int 0, .int 0, .int 0, .int 0, .int (-9 : Int32), .ref q69, .ref q77, .ref q85, .ref q94, .int 0, .int 0, .int 0, .ref q103, .int 0, .int 0, .int 0, .ref q110, .null, .int 0])), (q7, .inl (cI, 7, .inl (fun _ => 0))), (q15, .inl (cI, 6, .inl (fun _ => 0))), (q23, .inl (cI, 6, .inl (fun _ => 0))), (q31, .inl (cI, 8, .inl (fun _ => 0))), (q39, .inl (cI, 8, .inl (fun _ => 0))), (q47, .inl (cI, 8, .inl (fun _ => 0))), (q55, .inl (cI, 8, .inl (fun _ => 0))), (q69, .inl (cI, 96, .inl (fun _ => 0))), (q77, .inl (cI, 48, .inl (fun _ => 0))), (q85, .inl (cI, 48, .inl (fun _ => 0))), (q94, .inl (cI, 144, .inl (fun _ => 0))), (q103, .inl (cI, 144, .inl (fun _ => 0))), (q110, .inl (cI, 4, .inl (fun _ => 0)))]) := hD
  refine lv_aload_n hx hb dX7_init_115 rfl (lv_at hl 0 rfl) ?_
  refine lv_bipush (v := (16 : Int32)) hx hb dX7_init_116 (by decide) ?_
  refine va_newa (atype := .int) (n := (16 : Int32)) (N' := 16) (a0 := (16, .inl (fun _ => 0))) hx hb (hts (.arrayClass .int) (by decide +kernel)) rfl hK hP hD hS hA (fun _ => rfl) (by decide) (by decide) (by decide) (by decide) (by decide) dX7_init_118 (fun q118 cA H hK2 hP hD hS => ?_)
  have ecA := cA_eq hK2
  rw [ecA] at hP hD
  clear hK2 ecA cA
  have hP : va_P D vwCl ([(o, .inr (7, [.ref q7, .ref q15, .ref q23, .ref q31, .ref q39, .ref q47, .ref q55, .int 0, .int 0, .int 0, .int 0, .int (-9 : Int32), .ref q69, .ref q77, .ref q85, .ref q94, .int 0, .int 0, .int 0, .ref q103, .int 0, .int 0, .int 0, .ref q110, .null, .int 0])), (q7, .inl (cI, 7, .inl (fun _ => 0))), (q15, .inl (cI, 6, .inl (fun _ => 0))), (q23, .inl (cI, 6, .inl (fun _ => 0))), (q31, .inl (cI, 8, .inl (fun _ => 0))), (q39, .inl (cI, 8, .inl (fun _ => 0))), (q47, .inl (cI, 8, .inl (fun _ => 0))), (q55, .inl (cI, 8, .inl (fun _ => 0))), (q69, .inl (cI, 96, .inl (fun _ => 0))), (q77, .inl (cI, 48, .inl (fun _ => 0))), (q85, .inl (cI, 48, .inl (fun _ => 0))), (q94, .inl (cI, 144, .inl (fun _ => 0))), (q103, .inl (cI, 144, .inl (fun _ => 0))), (q110, .inl (cI, 4, .inl (fun _ => 0))), (q118, .inl (cI, 16, .inl (fun _ => 0)))]) H := hP
  have hD : va_D A ([(o, .inr (7, [.ref q7, .ref q15, .ref q23, .ref q31, .ref q39, .ref q47, .ref q55, .int 0, .int 0, .int 0, .int 0, .int (-9 : Int32), .ref q69, .ref q77, .ref q85, .ref q94, .int 0, .int 0, .int 0, .ref q103, .int 0, .int 0, .int 0, .ref q110, .null, .int 0])), (q7, .inl (cI, 7, .inl (fun _ => 0))), (q15, .inl (cI, 6, .inl (fun _ => 0))), (q23, .inl (cI, 6, .inl (fun _ => 0))), (q31, .inl (cI, 8, .inl (fun _ => 0))), (q39, .inl (cI, 8, .inl (fun _ => 0))), (q47, .inl (cI, 8, .inl (fun _ => 0))), (q55, .inl (cI, 8, .inl (fun _ => 0))), (q69, .inl (cI, 96, .inl (fun _ => 0))), (q77, .inl (cI, 48, .inl (fun _ => 0))), (q85, .inl (cI, 48, .inl (fun _ => 0))), (q94, .inl (cI, 144, .inl (fun _ => 0))), (q103, .inl (cI, 144, .inl (fun _ => 0))), (q110, .inl (cI, 4, .inl (fun _ => 0))), (q118, .inl (cI, 16, .inl (fun _ => 0)))]) := hD
  refine W.widen (k := 14) (n := 551) (by decide) (by decide) ?_
  refine va_putF (D := D) (ci := 7) (v := .ref q118) (ty := .array .int) (C := RX7) (T := TX7) (N := 26) hx hb hts hinX7 tyX7 tyX7_ok nmX7 hown hK hP hD hS 0 rfl rfl 24 (by decide) (hts (.fieldLink RX7 53 "OnlyStrangersHearModel" "row" "[I") (by decide +kernel)) (fun _ h9 => h9) rfl hnm rfl (by decide +kernel) rfl rfl (Nat.le_of_ble_eq_true rfl) dX7_init_120 (fun H locs hP hD hS => ?_)
  have hP : va_P D vwCl ([(o, .inr (7, [.ref q7, .ref q15, .ref q23, .ref q31, .ref q39, .ref q47, .ref q55, .int 0, .int 0, .int 0, .int 0, .int (-9 : Int32), .ref q69, .ref q77, .ref q85, .ref q94, .int 0, .int 0, .int 0, .ref q103, .int 0, .int 0, .int 0, .ref q110, .ref q118, .int 0])), (q7, .inl (cI, 7, .inl (fun _ => 0))), (q15, .inl (cI, 6, .inl (fun _ => 0))), (q23, .inl (cI, 6, .inl (fun _ => 0))), (q31, .inl (cI, 8, .inl (fun _ => 0))), (q39, .inl (cI, 8, .inl (fun _ => 0))), (q47, .inl (cI, 8, .inl (fun _ => 0))), (q55, .inl (cI, 8, .inl (fun _ => 0))), (q69, .inl (cI, 96, .inl (fun _ => 0))), (q77, .inl (cI, 48, .inl (fun _ => 0))), (q85, .inl (cI, 48, .inl (fun _ => 0))), (q94, .inl (cI, 144, .inl (fun _ => 0))), (q103, .inl (cI, 144, .inl (fun _ => 0))), (q110, .inl (cI, 4, .inl (fun _ => 0))), (q118, .inl (cI, 16, .inl (fun _ => 0)))]) H := hP
  have hD : va_D A ([(o, .inr (7, [.ref q7, .ref q15, .ref q23, .ref q31, .ref q39, .ref q47, .ref q55, .int 0, .int 0, .int 0, .int 0, .int (-9 : Int32), .ref q69, .ref q77, .ref q85, .ref q94, .int 0, .int 0, .int 0, .ref q103, .int 0, .int 0, .int 0, .ref q110, .ref q118, .int 0])), (q7, .inl (cI, 7, .inl (fun _ => 0))), (q15, .inl (cI, 6, .inl (fun _ => 0))), (q23, .inl (cI, 6, .inl (fun _ => 0))), (q31, .inl (cI, 8, .inl (fun _ => 0))), (q39, .inl (cI, 8, .inl (fun _ => 0))), (q47, .inl (cI, 8, .inl (fun _ => 0))), (q55, .inl (cI, 8, .inl (fun _ => 0))), (q69, .inl (cI, 96, .inl (fun _ => 0))), (q77, .inl (cI, 48, .inl (fun _ => 0))), (q85, .inl (cI, 48, .inl (fun _ => 0))), (q94, .inl (cI, 144, .inl (fun _ => 0))), (q103, .inl (cI, 144, .inl (fun _ => 0))), (q110, .inl (cI, 4, .inl (fun _ => 0))), (q118, .inl (cI, 16, .inl (fun _ => 0)))]) := hD
  refine lv_aload_n hx hb dX7_init_123 rfl (lv_at hl 0 rfl) ?_
  refine lv_bipush (v := (8 : Int32)) hx hb dX7_init_124 (by decide) ?_
  refine va_put (D := D) (ci := 7) (v := .int (8 : Int32)) (ty := .int) (C := RX7) (T := TX7) (N := 26) hx hb hts hinX7 tyX7 tyX7_ok nmX7 hown hK hP hD hS 0 rfl rfl 10 (by decide) (hts (.fieldLink RX7 56 "OnlyStrangersHearModel" "beds" "I") (by decide +kernel)) (fun _ h9 => h9) rfl (by decide +kernel) rfl rfl (Nat.le_of_ble_eq_true rfl) dX7_init_126 (fun H locs hP hD hS => ?_)
  have hP : va_P D vwCl ([(o, .inr (7, [.ref q7, .ref q15, .ref q23, .ref q31, .ref q39, .ref q47, .ref q55, .int 0, .int 0, .int 0, .int (8 : Int32), .int (-9 : Int32), .ref q69, .ref q77, .ref q85, .ref q94, .int 0, .int 0, .int 0, .ref q103, .int 0, .int 0, .int 0, .ref q110, .ref q118, .int 0])), (q7, .inl (cI, 7, .inl (fun _ => 0))), (q15, .inl (cI, 6, .inl (fun _ => 0))), (q23, .inl (cI, 6, .inl (fun _ => 0))), (q31, .inl (cI, 8, .inl (fun _ => 0))), (q39, .inl (cI, 8, .inl (fun _ => 0))), (q47, .inl (cI, 8, .inl (fun _ => 0))), (q55, .inl (cI, 8, .inl (fun _ => 0))), (q69, .inl (cI, 96, .inl (fun _ => 0))), (q77, .inl (cI, 48, .inl (fun _ => 0))), (q85, .inl (cI, 48, .inl (fun _ => 0))), (q94, .inl (cI, 144, .inl (fun _ => 0))), (q103, .inl (cI, 144, .inl (fun _ => 0))), (q110, .inl (cI, 4, .inl (fun _ => 0))), (q118, .inl (cI, 16, .inl (fun _ => 0)))]) H := hP
  have hD : va_D A ([(o, .inr (7, [.ref q7, .ref q15, .ref q23, .ref q31, .ref q39, .ref q47, .ref q55, .int 0, .int 0, .int 0, .int (8 : Int32), .int (-9 : Int32), .ref q69, .ref q77, .ref q85, .ref q94, .int 0, .int 0, .int 0, .ref q103, .int 0, .int 0, .int 0, .ref q110, .ref q118, .int 0])), (q7, .inl (cI, 7, .inl (fun _ => 0))), (q15, .inl (cI, 6, .inl (fun _ => 0))), (q23, .inl (cI, 6, .inl (fun _ => 0))), (q31, .inl (cI, 8, .inl (fun _ => 0))), (q39, .inl (cI, 8, .inl (fun _ => 0))), (q47, .inl (cI, 8, .inl (fun _ => 0))), (q55, .inl (cI, 8, .inl (fun _ => 0))), (q69, .inl (cI, 96, .inl (fun _ => 0))), (q77, .inl (cI, 48, .inl (fun _ => 0))), (q85, .inl (cI, 48, .inl (fun _ => 0))), (q94, .inl (cI, 144, .inl (fun _ => 0))), (q103, .inl (cI, 144, .inl (fun _ => 0))), (q110, .inl (cI, 4, .inl (fun _ => 0))), (q118, .inl (cI, 16, .inl (fun _ => 0)))]) := hD
  obtain ⟨U, hU⟩ : ∃ U : (Nat → Nat), U = (fun k : Nat => if k = 0 then q7 else if k = 1 then q15 else if k = 2 then q23 else if k = 3 then q31 else if k = 4 then q39 else if k = 5 then q47 else if k = 6 then q55 else if k = 12 then q69 else if k = 13 then q77 else if k = 14 then q85 else if k = 15 then q94 else if k = 19 then q103 else if k = 23 then q110 else if k = 24 then q118 else 0) := ⟨_, rfl⟩
  have hP9 : va_P D vwCl (gX7 o U cI Z7) H := by rw [hU]; exact hP.sub [0, 1, 2, 3, 4, 5, 6, 7, 8, 9, 10, 11, 12, 13, 14] rfl
  have hD9 : va_D A (gX7 o U cI Z7) := by rw [hU]; exact hD.sub [0, 1, 2, 3, 4, 5, 6, 7, 8, 9, 10, 11, 12, 13, 14] (by decide) rfl
  exact kv hx hb hK hr hlk U hQ dX7_init_129 hP9 hD9 hS
