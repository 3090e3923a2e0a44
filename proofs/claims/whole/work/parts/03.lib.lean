/-! the state of a group of cells: an object's int fields by their slots, its int arrays by the slots of the fields that hold them -/
abbrev G : Type := (Nat → Int32) × (Nat → Nat → Int32)
def pF (S : G) (k : Nat) (v : Int32) : G := (upd S.1 k v, S.2)
def pA (S : G) (k : Nat) (i : Nat) (v : Int32) : G := (S.1, fun j => if j = k then upd (S.2 k) i v else S.2 j)
def pC (S : G) (k : Nat) (f : Nat → Int32) : G := (S.1, fun j => if j = k then f else S.2 j)
def ck (i : Int32) (n : Nat) : Bool := !(decide (i < 0) || decide (n ≤ i.toNatClampNeg))
def zb (v : Int32) : Bool := decide (v = 0) || decide (v = 1)
def bd {α β γ : Type} (o : Option (α × β)) (k : α → β → Option γ) : Option γ := match o with
  | none => none
  | some q => k q.1 q.2
theorem ck_in {i : Int32} {n : Nat} (h : ck i n = true) : vp_in i n := by
  intro hh
  simp only [ck, Bool.not_eq_true', Bool.or_eq_false_iff, decide_eq_false_iff_not] at h
  exact hh.elim h.1 h.2
theorem in_ck {i : Int32} {n : Nat} (h : vp_in i n) : ck i n = true := by
  simp only [ck, Bool.not_eq_true', Bool.or_eq_false_iff, decide_eq_false_iff_not]
  exact ⟨fun q => h (Or.inl q), fun q => h (Or.inr q)⟩
theorem ck_some {α : Type} {i : Int32} {n : Nat} {x : Option α} {r : α} (h : (if ck i n = true then x else none) = some r) : vp_in i n ∧ x = some r := by
  by_cases q : ck i n = true
  · rw [if_pos q] at h; exact ⟨ck_in q, h⟩
  · rw [if_neg q] at h; cases h
theorem zb_some {α : Type} {v : Int32} {x : Option α} {r : α} (h : (if zb v = true then x else none) = some r) : (v = 0 ∨ v = 1) ∧ x = some r := by
  by_cases q : zb v = true
  · rw [if_pos q] at h
    simp only [zb, Bool.or_eq_true, decide_eq_true_eq] at q
    exact ⟨q, h⟩
  · rw [if_neg q] at h; cases h
theorem zb_nar {v : Int32} (h : v = 0 ∨ v = 1) : narrow .boolean (.int v) = .int v := by
  rcases h with rfl | rfl <;> rfl
theorem zb_fit {v : Int32} (h : v = 0 ∨ v = 1) : fits .boolean (.int v) = true := by
  rcases h with rfl | rfl <;> rfl
theorem nz_some {α : Type} {v : Int32} {x : Option α} {r : α} (h : (if v = 0 then none else x) = some r) : ¬ v = 0 ∧ x = some r := by
  by_cases q : v = 0
  · rw [if_pos q] at h; cases h
  · rw [if_neg q] at h; exact ⟨q, h⟩
theorem nzl_some {α : Type} {v : Int64} {x : Option α} {r : α} (h : (if v = 0 then none else x) = some r) : ¬ v = 0 ∧ x = some r := by
  by_cases q : v = 0
  · rw [if_pos q] at h; cases h
  · rw [if_neg q] at h; exact ⟨q, h⟩
theorem it_t {c : Prop} [Decidable c] {α : Type} {a b r : α} (h : c) (hf : (if c then a else b) = r) : a = r := by rw [if_pos h] at hf; exact hf
theorem it_f {c : Prop} [Decidable c] {α : Type} {a b r : α} (h : ¬ c) (hf : (if c then a else b) = r) : b = r := by rw [if_neg h] at hf; exact hf
theorem bd_some {α β γ : Type} {o : Option (α × β)} {k : α → β → Option γ} {r : γ} (h : bd o k = some r) : ∃ (x : α) (u : β), o = some (x, u) ∧ k x u = some r := by
  cases o with
  | none => cases h
  | some q => exact ⟨q.1, q.2, rfl, h⟩
def lt {α β : Type} (x : α) (k : α → β) : β := k x
theorem lt_some {α γ : Type} {x : α} {k : α → Option γ} {r : γ} (h : lt x k = some r) : ∃ y, y = x ∧ k y = some r := ⟨x, rfl, h⟩
theorem lt_at {α γ : Type} {x y : α} {k : α → Option γ} {r : γ} (e : y = x) (h : lt x k = some r) : k y = some r := by subst e; exact h
theorem no_some {α : Type} {r : α} {P : Prop} (h : (none : Option α) = some r) : P := by cases h
theorem so_some {α : Type} {x r : α} (h : some x = some r) : x = r := Option.some.inj h
/-- what a walk may want besides of the tables and of cells that nobody writes: nothing, or the nest's links and the one text -/
def E0 (_ : Nat → Prop) (_ : State) : Prop := True
def ES (adK adV : Nat → Nat) (A : Nat → Prop) (U : State) : Prop := vk_R RX0 45 "pcwdlo" (adK 0) U ∧ vk_S 1 [6] [[112, 99, 119, 100, 108, 111]] adK adV A U U.heap ∧ va_Z "java/lang/String" "COMPACT_STRINGS" "Z" (.int 1) A U U.heap
def EX (A : Nat → Prop) (U : State) : Prop := va_Nw (.methodLinkNest RX1 34 yX6_leastBit RX6) U ∧ va_Nw (.methodLinkNest RX1 62 yX6_power RX6) U ∧ ∃ adK adV : Nat → Nat, ES adK adV A U
theorem E0.b (A : Nat → Prop) (U : State) (g : JFrame) (mk : MethodId) (a : Array Value) (_ : E0 A U) : E0 A (U.calling g mk a) := trivial
theorem ES.b {adK adV : Nat → Nat} (A : Nat → Prop) (U : State) (g : JFrame) (mk : MethodId) (a : Array Value) (h : ES adK adV A U) : ES adK adV A (U.calling g mk a) := by
  obtain ⟨h3, h4, h5⟩ := h
  exact ⟨vk_R.same (u := U) rfl h3, vk_S.moved (u := U) (U := U.calling g mk a) (Vm.Alike.refl U.vm) h4, va_Z.moved (u := U) (U := U.calling g mk a) (Vm.Alike.refl U.vm) h5⟩
theorem EX.b (A : Nat → Prop) (U : State) (g : JFrame) (mk : MethodId) (a : Array Value) (h : EX A U) : EX A (U.calling g mk a) := by
  obtain ⟨h1, h2, adK, adV, h3⟩ := h
  exact ⟨va_Nw.same (u := U) rfl rfl h1, va_Nw.same (u := U) rfl rfl h2, adK, adV, ES.b _ _ _ _ _ h3⟩
theorem E0.n {A : Nat → Prop} {s : State} {H : Heap} : ∀ U : State, U.heap = H → s.WarmedH U.vm → E0 A U := fun _ _ _ => trivial
theorem ES.n {adK adV : Nat → Nat} {A B : Nat → Prop} {s : State} {H : Heap} {locs : List Loc} (h : ES adK adV A s) (hS : va_S A s.heap H locs) (hAB : ∀ q, B q → A q) : ∀ U : State, U.heap = H → s.WarmedH U.vm → ES adK adV B U := by
  intro U hU hW
  obtain ⟨h3, h4, h5⟩ := h
  refine ⟨h3.warm hW, ?_, ?_⟩
  · rw [hU]; exact ((h4.kept hS.2.1).moved hW.alike).narrow hAB
  · rw [hU]; exact ((h5.kept hS.2.1).moved hW.alike).narrow hAB
theorem EX.n {A B : Nat → Prop} {s : State} {H : Heap} {locs : List Loc} (h : EX A s) (hS : va_S A s.heap H locs) (hAB : ∀ q, B q → A q) : ∀ U : State, U.heap = H → s.WarmedH U.vm → EX B U := by
  intro U hU hW
  obtain ⟨h1, h2, adK, adV, h3⟩ := h
  exact ⟨h1.warmM hW, h2.warmM hW, adK, adV, h3.n hS hAB U hU hW⟩
theorem fr0 {A : Nat → Prop} {ws : va_W} {H0 H : Heap} {locs : List Loc} (hD : va_D A ws) (hS : va_S A H0 H locs) (hA : ∀ q, H0.size ≤ q → A q) : ∀ q, va_A ws H.size q → A q := fun q h => h.elim (fun ⟨k, e, h⟩ => hD.2 k (q, e) h) (fun h => hA q (Nat.le_trans hS.1 h))
/-- the contract of a method: from the world w0 to the world w1, with the answer rv; it makes no cells -/
def Cn (E : (Nat → Prop) → State → Prop) (l : Launch) (y : MethodName) (w : List Cond) (rm : Room) (D : va_G) (cI : ClassId) (av : List Value) (w0 : va_W) (rv : Option Value) (w1 : va_W) : Prop :=
  ∀ sz : Nat, Met l y w rm (va_Pc av (fun U => U.heap.size = sz ∧ va_P D vwCl w0 U.heap ∧ va_K D vwCl [(cI, .int)] U ∧ va_D (fun _ => True) w0 ∧ E (va_A w0 sz) U))
    (fun _ st oc t => (oc = .returned rv ∧ va_P D vwCl w1 t.heap ∧ va_K D vwCl [(cI, .int)] t ∧ va_D (va_A w0 sz) w1) ∧ va_F (va_A w0 sz) st t) 0 0 (va_A w0 sz)
/-- the walk that a contract wants: 'ret' closes it -/
theorem Cn.mk {E : (Nat → Prop) → State → Prop} {l : Launch} {y : MethodName} {w w' : List Cond} {rm : Room} {D : va_G} {cI : ClassId} {av : List Value} {w0 w1 : va_W} {rv : Option Value} {cc : ByteArray} {maxL : Nat} {ret : Option FieldType}
    (hy : plainName y.cls = true) (hw : w = Cond.code y cc maxL ret :: w') (hlen : (lg_sl av).length ≤ maxL)
    (body : ∀ (p : Program) (e : Env) (s : State) (m : MethodId) (below : List Frame) (meth : Method) (c : Code) (A : Nat → Prop) (ls : Array Slot) (Q : State → Prop),
      p.tables.exec = Jvm.exec → c.code = cc → c.maxLocals = maxL → s.vm.findClass y.cls = some m.cls → (∀ q ∈ w, q.before av.toArray s = true) → va_K D vwCl [(cI, .int)] s → (∀ q, s.heap.size ≤ q → A q) →
      va_P D vwCl w0 s.heap → va_D A w0 → va_S A s.heap s.heap [] → lv_has ls maxL (lv_args 0 av) → meth.sig.returnType = ret → meth.locks = false → meth.name = y.name → E A s →
      Q = MQ below (fun _ st oc t => (oc = .returned rv ∧ va_P D vwCl w1 t.heap ∧ va_K D vwCl [(cI, .int)] t ∧ va_D A w1) ∧ va_F A st t) av.toArray s 0 0 A →
      W p l e rm s m av.toArray below meth c s.heap [] 0 0 Q (F0 m 0 ls [])) : Cn E l y w rm D cI av w0 rv w1 := by
  intro sz
  refine Met.ofW (cc := cc) (maxL := maxL) (ret := ret) hy hw ?_
  intro p e s m args below meth c s₁ B hml hv
  obtain ⟨rfl, hsz, hP, hK, hD0, hE⟩ := hv
  subst hsz
  rw [lg_entry_eq]
  exact body p e s m below meth c _ _ _ B.exec B.bytes hml (findClass_of_methodNamed B.named) (atoms_spec (ws := w) B.pre) hK (fun q h => Or.inr h) hP (hD0.self (sz := s.heap.size)) va_S.rf (lv_entry av hlen) B.returns B.notSynchronized (name_of_methodNamed B.named B.method).1 hE rfl
section RT
variable {p : Program} {l : Launch} {e : Env} {R : Room} {s : State} {m : MethodId} {args : Array Value} {below : List Frame} {meth : Method} {c : Code} {H : Heap} {locs : List Loc} {D : va_G} {cI : ClassId} {A : Nat → Prop} {w1 : va_W} {cc : ByteArray} {pc : Nat} {ls : Array Slot} {Q : State → Prop}
theorem ri (hx : p.tables.exec = Jvm.exec) (hb : c.code = cc) (hK : va_K D vwCl [(cI, .int)] s) (hr : meth.sig.returnType = some .int) (hlk : meth.locks = false) {v : Int32}
    (hQ : Q = MQ below (fun _ st oc t => (oc = .returned (some (.int v)) ∧ va_P D vwCl w1 t.heap ∧ va_K D vwCl [(cI, .int)] t ∧ va_D A w1) ∧ va_F A st t) args s 0 0 A)
    (hdg : decode cc pc = .ok (.ireturn, 1)) (hP : va_P D vwCl w1 H) (hD : va_D A w1) (hS : va_S A s.heap H locs) :
    W p l e R s m args below meth c H locs 0 0 Q (F0 m pc ls [.int v]) := by
  subst hQ
  exact W.iret (v := v) hx hb hr (fun t ht hW => ⟨⟨rfl, by rw [ht]; exact hP, va_K.moved hW.alike hK, hD⟩, hS.F ht⟩) hS.2.2 hdg hlk
theorem rz (hx : p.tables.exec = Jvm.exec) (hb : c.code = cc) (hK : va_K D vwCl [(cI, .int)] s) (hr : meth.sig.returnType = some .boolean) (hlk : meth.locks = false) {v : Int32} (hv : v = 0 ∨ v = 1)
    (hQ : Q = MQ below (fun _ st oc t => (oc = .returned (some (.int v)) ∧ va_P D vwCl w1 t.heap ∧ va_K D vwCl [(cI, .int)] t ∧ va_D A w1) ∧ va_F A st t) args s 0 0 A)
    (hdg : decode cc pc = .ok (.ireturn, 1)) (hP : va_P D vwCl w1 H) (hD : va_D A w1) (hS : va_S A s.heap H locs) :
    W p l e R s m args below meth c H locs 0 0 Q (F0 m pc ls [.int v]) := by
  subst hQ
  exact W.zret (v := v) hx hb hr (zb_nar hv) (fun t ht hW => ⟨⟨rfl, by rw [ht]; exact hP, va_K.moved hW.alike hK, hD⟩, hS.F ht⟩) hS.2.2 hdg hlk
theorem rb (hx : p.tables.exec = Jvm.exec) (hb : c.code = cc) (hK : va_K D vwCl [(cI, .int)] s) {ty : FieldType} (hr : meth.sig.returnType = some ty) (hlk : meth.locks = false) {v : Int32} (hv : narrow ty (.int v) = .int v)
    (hQ : Q = MQ below (fun _ st oc t => (oc = .returned (some (.int v)) ∧ va_P D vwCl w1 t.heap ∧ va_K D vwCl [(cI, .int)] t ∧ va_D A w1) ∧ va_F A st t) args s 0 0 A)
    (hdg : decode cc pc = .ok (.ireturn, 1)) (hP : va_P D vwCl w1 H) (hD : va_D A w1) (hS : va_S A s.heap H locs) :
    W p l e R s m args below meth c H locs 0 0 Q (F0 m pc ls [.int v]) := by
  subst hQ
  exact W.zret (v := v) hx hb hr hv (fun t ht hW => ⟨⟨rfl, by rw [ht]; exact hP, va_K.moved hW.alike hK, hD⟩, hS.F ht⟩) hS.2.2 hdg hlk
theorem rl (hx : p.tables.exec = Jvm.exec) (hb : c.code = cc) (hK : va_K D vwCl [(cI, .int)] s) (hr : meth.sig.returnType = some .long) (hlk : meth.locks = false) {v : Int64}
    (hQ : Q = MQ below (fun _ st oc t => (oc = .returned (some (.long v)) ∧ va_P D vwCl w1 t.heap ∧ va_K D vwCl [(cI, .int)] t ∧ va_D A w1) ∧ va_F A st t) args s 0 0 A)
    (hdg : decode cc pc = .ok (.lreturn, 1)) (hP : va_P D vwCl w1 H) (hD : va_D A w1) (hS : va_S A s.heap H locs) :
    W p l e R s m args below meth c H locs 0 0 Q (F0 m pc ls [.long v]) := by
  subst hQ
  exact W.lret (v := v) hx hb hr (fun t ht hW => ⟨⟨rfl, by rw [ht]; exact hP, va_K.moved hW.alike hK, hD⟩, hS.F ht⟩) hS.2.2 hdg hlk
theorem rv (hx : p.tables.exec = Jvm.exec) (hb : c.code = cc) (hK : va_K D vwCl [(cI, .int)] s) (hr : meth.sig.returnType = none) (hlk : meth.locks = false)
    (hQ : Q = MQ below (fun _ st oc t => (oc = .returned none ∧ va_P D vwCl w1 t.heap ∧ va_K D vwCl [(cI, .int)] t ∧ va_D A w1) ∧ va_F A st t) args s 0 0 A)
    (hdg : decode cc pc = .ok (.return_, 1)) (hP : va_P D vwCl w1 H) (hD : va_D A w1) (hS : va_S A s.heap H locs) :
    W p l e R s m args below meth c H locs 0 0 Q (F0 m pc ls []) := by
  subst hQ
  exact W.vret hx hb hr (fun t ht hW => ⟨⟨rfl, by rw [ht]; exact hP, va_K.moved hW.alike hK, hD⟩, hS.F ht⟩) hS.2.2 hdg hlk
theorem rr (hx : p.tables.exec = Jvm.exec) (hb : c.code = cc) (hK : va_K D vwCl [(cI, .int)] s) {n : String} (hr : meth.sig.returnType = some (.object n)) (hlk : meth.locks = false) {v : Nat}
    (hQ : Q = MQ below (fun _ st oc t => (oc = .returned (some (.ref v)) ∧ va_P D vwCl w1 t.heap ∧ va_K D vwCl [(cI, .int)] t ∧ va_D A w1) ∧ va_F A st t) args s 0 0 A)
    (hdg : decode cc pc = .ok (.areturn, 1)) (hP : va_P D vwCl w1 H) (hD : va_D A w1) (hS : va_S A s.heap H locs) :
    W p l e R s m args below meth c H locs 0 0 Q (F0 m pc ls [.ref v]) := by
  subst hQ
  exact W.aret (v := .ref v) hx hb hr (Or.inl ⟨n, rfl⟩) (Or.inr ⟨v, rfl⟩) (fun t ht hW => ⟨⟨rfl, by rw [ht]; exact hP, va_K.moved hW.alike hK, hD⟩, hS.F ht⟩) hS.2.2 hdg hlk
end RT
section CL
variable {p : Program} {l : Launch} {e : Env} {R : Room} {s : State} {m : MethodId} {args : Array Value} {below : List Frame} {meth : Method} {c : Code} {H H0 : Heap} {locs : List Loc} {cells slots : Nat} {D : va_G} {cI : ClassId} {A : Nat → Prop} {ws w0 w1 : va_W} {cc bytes : ByteArray} {pc nL n index maxL : Nat} {ls : Array Slot} {Q : State → Prop} {y : MethodName} {w w' Ts : List Cond} {rm : Room} {b : Nat} {As rest st : List Value} {rv : Option Value} {own C : String} {ret : Option FieldType}
theorem blind {E : (Nat → Prop) → State → Prop} (hbl : ∀ (A : Nat → Prop) (U : State) (g : JFrame) (mk : MethodId) (a : Array Value), E A U → E A (U.calling g mk a)) (w0 : va_W) (sz : Nat) (av : List Value) : FrameBlind (va_Pc av (fun U => U.heap.size = sz ∧ va_P D vwCl w0 U.heap ∧ va_K D vwCl [(cI, .int)] U ∧ va_D (fun _ => True) w0 ∧ E (va_A w0 sz) U)) := fun a U g mk q => by
  obtain ⟨q0, q1, qP, qK, qD, qE⟩ := q
  exact ⟨q0, q1, qP, va_K.moved (u := U) (U := U.calling g mk a) (Vm.Alike.refl U.vm) qK, qD, hbl _ _ _ _ _ qE⟩
/-- behind any call: the caller's other cells beside the callee's new world, in an order that is asked for -/
theorem calX (hr : va_Run p l e R s m args below meth c H locs cells slots 0 0 (F0 m pc ls st) rest (fun st oc t => (oc = .returned rv ∧ va_P D vwCl w1 t.heap ∧ va_K D vwCl [(cI, .int)] t ∧ va_D (va_A w0 H.size) w1) ∧ va_F (va_A w0 H.size) st t) (va_A w0 H.size))
    (hP : va_P D vwCl ws H) (hD : va_D A ws) (hS : va_S A H0 H locs) (hA : ∀ q, H0.size ≤ q → A q)
    (isC isR isB : List Nat) {wr wn : va_W} (h1 : isC.map (fun i => ws[i]?) = w0.map some) (h2 : isR.map (fun i => ws[i]?) = wr.map some) (hn : va_nd isR = true) (hdis : ∀ i ∈ isR, i ∉ isC) (h3 : isB.map (fun i => (wr ++ w1)[i]?) = wn.map some) (hnB : va_nd isB = true)
    (kk : ∀ (H1 : Heap) (locs1 : List Loc), va_P D vwCl wn H1 → va_D A wn → va_S A H0 H1 locs1 → W p l e R s m args below meth c H1 locs1 cells slots Q (F0 m (pc + 3) ls (rv.toList ++ rest))) : W p l e R s m args below meth c H locs cells slots Q (F0 m pc ls st) := by
  have hFc : ∀ q, va_A w0 H.size q → A q := va_free hD hS hA isC h1
  intro T hT X
  obtain ⟨v, st₀, t, T', L, h0, X', hL, e1, e2, ⟨⟨hv, hP1, hK1, hD1⟩, hz, hk⟩, st⟩ := hr T hT X
  cases hv
  rw [h0] at hz hk
  rw [← e1] at hP1 hz hk
  obtain ⟨hP2, hD2⟩ := va_join hP hD isC isR h1 h2 hn hdis hk hFc hP1 hD1
  have hPn : va_P D vwCl wn T'.heap := by
    intro k q hq
    have g1 : (isB.map (fun i => (wr ++ w1)[i]?))[k]? = some (some q) := by rw [h3, List.getElem?_map, hq]; rfl
    rw [List.getElem?_map] at g1
    cases hi : isB[k]? with
    | none => rw [hi] at g1; cases g1
    | some i => rw [hi] at g1; exact hP2 i q (Option.some.inj g1)
  obtain ⟨t2, a1, b1⟩ := kk T'.heap (locs ++ L) hPn (hD2.sub isB hnB h3) ⟨Nat.le_trans hS.1 hz, fun q h1 h2 => by rw [hk q (Nat.lt_of_lt_of_le h1 hS.1) (fun z => h2 (hFc q z))]; exact hS.2.1 q h1 h2, fun q hq => (List.mem_append.mp hq).elim (hS.2.2 q) (fun z => hFc _ (hL q z))⟩ T' rfl X'
  exact ⟨t2, st t2 a1, b1⟩
/-- the same, where the callee's world is the caller's -/
theorem calX0 (hr : va_Run p l e R s m args below meth c H locs cells slots 0 0 (F0 m pc ls st) rest (fun st oc t => (oc = .returned rv ∧ va_P D vwCl w1 t.heap ∧ va_K D vwCl [(cI, .int)] t ∧ va_D (va_A ws H.size) w1) ∧ va_F (va_A ws H.size) st t) (va_A ws H.size))
    (hD : va_D A ws) (hS : va_S A H0 H locs) (hA : ∀ q, H0.size ≤ q → A q)
    (kk : ∀ (H1 : Heap) (locs1 : List Loc), va_P D vwCl w1 H1 → va_D A w1 → va_S A H0 H1 locs1 → W p l e R s m args below meth c H1 locs1 cells slots Q (F0 m (pc + 3) ls (rv.toList ++ rest))) : W p l e R s m args below meth c H locs cells slots Q (F0 m pc ls st) := by
  have hFc : ∀ q, va_A ws H.size q → A q := fr0 hD hS hA
  intro T hT X
  obtain ⟨v, st₀, t, T', L, h0, X', hL, e1, e2, ⟨⟨hv, hP1, hK1, hD1⟩, hz, hk⟩, st⟩ := hr T hT X
  cases hv
  rw [h0] at hz hk
  rw [← e1] at hP1 hz hk
  obtain ⟨t2, a1, b1⟩ := kk T'.heap (locs ++ L) hP1 (hD1.weaken (fun k q _ h => hFc q.1 h)) ⟨Nat.le_trans hS.1 hz, fun q h1 h2 => by rw [hk q (Nat.lt_of_lt_of_le h1 hS.1) (fun z => h2 (hFc q z))]; exact hS.2.1 q h1 h2, fun q hq => (List.mem_append.mp hq).elim (hS.2.2 q) (fun z => hFc _ (hL q z))⟩ T' rfl X'
  exact ⟨t2, st t2 a1, b1⟩
/-- the run of a virtual call -/
theorem runV {E : (Nat → Prop) → State → Prop} (hbl : ∀ (A : Nat → Prop) (U : State) (g : JFrame) (mk : MethodId) (a : Array Value), E A U → E A (U.calling g mk a)) (hE : ∀ U : State, U.heap = H → s.WarmedH U.vm → E (va_A w0 H.size) U) (fx : CallFix p m c cc nL s args Ts own) (hC : Cn E l y w rm D cI (.ref b :: As) w0 rv w1) (hG : GoodIn Ts (wsV own index C y w)) (hw : w = Cond.code y bytes maxL ret :: w') (hrc : rm.cells = 0) (hrs : rm.slots = 0)
    (hd : y.cls = C ∧ y.cls ≠ "java/lang/invoke/MethodHandle" ∧ y.cls ≠ "java/lang/invoke/VarHandle" ∧ (parseMethodDescriptor y.desc).map (fun d => d.parameters.length) = some n) (hR : rm.frames + 1 ≤ R.frames ∧ 8 + (maxL + 11) + rm.locals ≤ R.locals)
    (hK : va_K D vwCl [(cI, .int)] s) (hP0 : va_P D vwCl w0 H) (hD0 : va_D A w0) (q0 : Nat) {ci : Nat} {fs : List Value} {T : u_T} {N : Nat} (hc : vwCl[ci]? = some (C, T, N)) (he : w0[q0]? = some (b, .inr (ci, fs)))
    (hnA : As.length = n) (hsz : ls.size = nL) (hst : st = As.reverse ++ .ref b :: rest) (hW : (rest.map fun v => v.category).sum ≤ 8) (hdg : decode cc pc = .ok (.invokevirtual index, 3)) (hcs : cells ≤ R.cells ∧ slots ≤ R.slots) :
    va_Run p l e R s m args below meth c H locs cells slots 0 0 (F0 m pc ls st) rest (fun st oc t => (oc = .returned rv ∧ va_P D vwCl w1 t.heap ∧ va_K D vwCl [(cI, .int)] t ∧ va_D (va_A w0 H.size) w1) ∧ va_F (va_A w0 H.size) st t) (va_A w0 H.size) :=
  va_runV (As := As) (rest := rest) fx (hC H.size) (cwV n fx.2.2.2.2 hG hw hrc hrs hd hR) ⟨blind hbl w0 H.size _, va_recv hK hP0 hc he, fun U hU hW => ⟨rfl, by rw [hU], by rw [hU]; exact hP0, va_K.moved hW.alike hK, hD0.weaken (fun _ _ _ _ => trivial), hE U hU hW⟩⟩ rfl hnA hsz hst (lv_room hW) hdg hcs
/-- the run of a virtual call on the one text -/
theorem runVT {adK adV : Nat → Nat} (hE : ES adK adV A s) (hSs : va_S A s.heap H locs) (hAB : ∀ q, va_A w0 H.size q → A q) (fx : CallFix p m c cc nL s args Ts own) (hC : Cn (ES adK adV) l y w rm D cI (.ref (adK 0) :: As) w0 rv w1) (hG : GoodIn Ts (wsV own index C y w)) (hw : w = Cond.code y bytes maxL ret :: w') (hrc : rm.cells = 0) (hrs : rm.slots = 0)
    (hd : y.cls = C ∧ y.cls ≠ "java/lang/invoke/MethodHandle" ∧ y.cls ≠ "java/lang/invoke/VarHandle" ∧ (parseMethodDescriptor y.desc).map (fun d => d.parameters.length) = some n) (hCs : C = "java/lang/String") (hR : rm.frames + 1 ≤ R.frames ∧ 8 + (maxL + 11) + rm.locals ≤ R.locals)
    (hK : va_K D vwCl [(cI, .int)] s) (hP0 : va_P D vwCl w0 H) (hD0 : va_D A w0)
    (hnA : As.length = n) (hsz : ls.size = nL) (hst : st = As.reverse ++ .ref (adK 0) :: rest) (hW : (rest.map fun v => v.category).sum ≤ 8) (hdg : decode cc pc = .ok (.invokevirtual index, 3)) (hcs : cells ≤ R.cells ∧ slots ≤ R.slots) :
    va_Run p l e R s m args below meth c H locs cells slots 0 0 (F0 m pc ls st) rest (fun st oc t => (oc = .returned rv ∧ va_P D vwCl w1 t.heap ∧ va_K D vwCl [(cI, .int)] t ∧ va_D (va_A w0 H.size) w1) ∧ va_F (va_A w0 H.size) st t) (va_A w0 H.size) := by
  subst hCs
  exact va_runV (As := As) (rest := rest) fx (hC H.size) (cwV n fx.2.2.2.2 hG hw hrc hrs hd hR) ⟨blind ES.b w0 H.size _, vk_recv hE.2.1 (i := 0) (by decide) hSs, fun U hU hW => ⟨rfl, by rw [hU], by rw [hU]; exact hP0, va_K.moved hW.alike hK, hD0.weaken (fun _ _ _ _ => trivial), hE.n hSs hAB U hU hW⟩⟩ rfl hnA hsz hst (lv_room hW) hdg hcs
/-- the run of a static call -/
theorem runS {E : (Nat → Prop) → State → Prop} (hbl : ∀ (A : Nat → Prop) (U : State) (g : JFrame) (mk : MethodId) (a : Array Value), E A U → E A (U.calling g mk a)) (hE : ∀ U : State, U.heap = H → s.WarmedH U.vm → E (va_A w0 H.size) U) (fx : CallFix p m c cc nL s args Ts own) (hC : Cn E l y w rm D cI As w0 rv w1) (hG : GoodIn Ts (va_wsS own index y w)) (hw : w = Cond.code y bytes maxL ret :: w') (hrc : rm.cells = 0) (hrs : rm.slots = 0)
    (hd : y.cls ≠ "java/lang/invoke/MethodHandle" ∧ y.cls ≠ "java/lang/invoke/VarHandle" ∧ (parseMethodDescriptor y.desc).map (fun d => d.parameters.length) = some n) (hR : rm.frames + 1 ≤ R.frames ∧ 8 + (maxL + 11) + rm.locals ≤ R.locals)
    (hK : va_K D vwCl [(cI, .int)] s) (hP0 : va_P D vwCl w0 H) (hD0 : va_D A w0)
    (hnA : As.length = n) (hsz : ls.size = nL) (hst : st = As.reverse ++ rest) (hW : (rest.map fun v => v.category).sum ≤ 8) (hdg : decode cc pc = .ok (.invokestatic index, 3)) (hcs : cells ≤ R.cells ∧ slots ≤ R.slots) :
    va_Run p l e R s m args below meth c H locs cells slots 0 0 (F0 m pc ls st) rest (fun st oc t => (oc = .returned rv ∧ va_P D vwCl w1 t.heap ∧ va_K D vwCl [(cI, .int)] t ∧ va_D (va_A w0 H.size) w1) ∧ va_F (va_A w0 H.size) st t) (va_A w0 H.size) :=
  va_runS (As := As) (rest := rest) fx (hC H.size) (va_cwS n fx.2.2.2.2 hG hw hrc hrs hd hR) ⟨blind hbl w0 H.size _, fun U hU hW => ⟨rfl, by rw [hU], by rw [hU]; exact hP0, va_K.moved hW.alike hK, hD0.weaken (fun _ _ _ _ => trivial), hE U hU hW⟩⟩ rfl hnA hsz hst (lv_room hW) hdg hcs
/-- the run of a static call of a nest mate's private method -/
theorem runSN {E : (Nat → Prop) → State → Prop} {host : String} (hbl : ∀ (A : Nat → Prop) (U : State) (g : JFrame) (mk : MethodId) (a : Array Value), E A U → E A (U.calling g mk a)) (hE : ∀ U : State, U.heap = H → s.WarmedH U.vm → E (va_A w0 H.size) U) (fx : CallFix p m c cc nL s args Ts own) (hC : Cn E l y w rm D cI As w0 rv w1) (hG : GoodIn Ts w) (hw : w = Cond.code y bytes maxL ret :: w') (hrc : rm.cells = 0) (hrs : rm.slots = 0)
    (hN : va_Nw (.methodLinkNest own index y host) s) (hini : (Cond.initialized y.cls).before args s = true) (hst0 : (Cond.static y).before args s = true)
    (hd : y.cls ≠ "java/lang/invoke/MethodHandle" ∧ y.cls ≠ "java/lang/invoke/VarHandle" ∧ (parseMethodDescriptor y.desc).map (fun d => d.parameters.length) = some n) (hR : rm.frames + 1 ≤ R.frames ∧ 8 + (maxL + 11) + rm.locals ≤ R.locals)
    (hK : va_K D vwCl [(cI, .int)] s) (hP0 : va_P D vwCl w0 H) (hD0 : va_D A w0)
    (hnA : As.length = n) (hsz : ls.size = nL) (hst : st = As.reverse ++ rest) (hW : (rest.map fun v => v.category).sum ≤ 8) (hdg : decode cc pc = .ok (.invokestatic index, 3)) (hcs : cells ≤ R.cells ∧ slots ≤ R.slots) :
    va_Run p l e R s m args below meth c H locs cells slots 0 0 (F0 m pc ls st) rest (fun st oc t => (oc = .returned rv ∧ va_P D vwCl w1 t.heap ∧ va_K D vwCl [(cI, .int)] t ∧ va_D (va_A w0 H.size) w1) ∧ va_F (va_A w0 H.size) st t) (va_A w0 H.size) :=
  va_runSN (As := As) (rest := rest) fx (hC H.size) ⟨va_cnB n fx.2.2.2.2 hG hw hrc hrs hN hini hd hR, hst0, trivial⟩ ⟨blind hbl w0 H.size _, fun U hU hW => ⟨rfl, by rw [hU], by rw [hU]; exact hP0, va_K.moved hW.alike hK, hD0.weaken (fun _ _ _ _ => trivial), hE U hU hW⟩⟩ rfl hnA hsz hst (lv_room hW) hdg hcs
/-- behind a call whose world is empty -/
theorem calXe (hr : va_Run p l e R s m args below meth c H locs cells slots 0 0 (F0 m pc ls st) rest (fun st oc t => (oc = .returned rv ∧ va_P D vwCl [] t.heap ∧ va_K D vwCl [(cI, .int)] t ∧ va_D (va_A [] H.size) []) ∧ va_F (va_A [] H.size) st t) (va_A [] H.size))
    (hP : va_P D vwCl ws H) (hD : va_D A ws) (hS : va_S A H0 H locs) (hA : ∀ q, H0.size ≤ q → A q)
    (kk : ∀ (H1 : Heap) (locs1 : List Loc), va_P D vwCl ws H1 → va_D A ws → va_S A H0 H1 locs1 → W p l e R s m args below meth c H1 locs1 cells slots Q (F0 m (pc + 3) ls (rv.toList ++ rest))) : W p l e R s m args below meth c H locs cells slots Q (F0 m pc ls st) := by
  have hno : ∀ q, va_A [] H.size q → H.size ≤ q := fun q h => h.elim (fun ⟨k, e, h⟩ => by simp at h) id
  intro T hT X
  obtain ⟨v, st₀, t, T', L, h0, X', hL, e1, e2, ⟨⟨hv, hP1, hK1, hD1⟩, hz, hk⟩, st⟩ := hr T hT X
  cases hv
  rw [h0] at hz hk
  rw [← e1] at hP1 hz hk
  have hk' : ∀ q : Nat, q < H.size → T'.heap[q]? = H[q]? := fun q h => hk q h (fun z => Nat.not_le.mpr h (hno q z))
  obtain ⟨t2, a1, b1⟩ := kk T'.heap (locs ++ L) (hP.kept (fun k q hq => hk' q.1 (hP k q hq).lt)) hD ⟨Nat.le_trans hS.1 hz, fun q h1 h2 => by rw [hk' q (Nat.lt_of_lt_of_le h1 hS.1)]; exact hS.2.1 q h1 h2, fun q hq => (List.mem_append.mp hq).elim (hS.2.2 q) (fun z => hA _ (Nat.le_trans hS.1 (hno _ (hL q z))))⟩ T' rfl X'
  exact ⟨t2, st t2 a1, b1⟩
end CL
/-- a table switch leaves no int between its ends that is none of its keys -/
theorem sw_no {x : Int32} {lo hi : Int} {ks : List Int} (h1 : ¬ x.toInt < lo) (h2 : ¬ hi < x.toInt) (hk : (List.range (hi - lo + 1).toNat).all (fun i => ks.contains (lo + i)) = true) (hn : ∀ k ∈ ks, ¬ x.toInt = k) : False := by
  have h3 : (x.toInt - lo).toNat < (hi - lo + 1).toNat := by omega
  have h4 := List.all_eq_true.mp hk (x.toInt - lo).toNat (List.mem_range.mpr h3)
  have h5 : lo + ((x.toInt - lo).toNat : Int) = x.toInt := by omega
  simp only [h5] at h4
  exact hn _ (by simpa using h4) rfl
/-! the groups: an object with its int arrays -/
def gX4 (o : Nat) (a : Nat → Nat) (cI : ClassId) (S : G) : va_W := [(o, .inr (4, [.int (S.1 0), .ref (a 1), .ref (a 2), .int (S.1 3), .ref (a 4), .ref (a 5), .ref (a 6), .ref (a 7), .int (S.1 8), .int (S.1 9)])), (a 1, .inl (cI, 6, .inl (S.2 1))), (a 2, .inl (cI, 6, .inl (S.2 2))), (a 4, .inl (cI, 8, .inl (S.2 4))), (a 5, .inl (cI, 8, .inl (S.2 5))), (a 6, .inl (cI, 8, .inl (S.2 6))), (a 7, .inl (cI, 8, .inl (S.2 7)))]
def gX0 (o : Nat) (a : Nat → Nat) (cI : ClassId) (S : G) : va_W := [(o, .inr (0, [.ref (a 0), .ref (a 1), .int (S.1 2)])), (a 0, .inl (cI, 96, .inl (S.2 0)))]
def gX1 (o : Nat) (a : Nat → Nat) : va_W := [(o, .inr (1, [.ref (a 0)]))]
def gX2 (o : Nat) (a : Nat → Nat) (cI : ClassId) (S : G) : va_W := [(o, .inr (2, [.ref (a 0), .int (S.1 1)])), (a 0, .inl (cI, 16, .inl (S.2 0)))]
def gX3 (o : Nat) (a : Nat → Nat) (cI : ClassId) (S : G) : va_W := [(o, .inr (3, [.ref (a 0), .ref (a 1)])), (a 1, .inl (cI, 4, .inl (S.2 1)))]
def gX5 (o : Nat) (a : Nat → Nat) (cI : ClassId) (S : G) : va_W := [(o, .inr (5, [.ref (a 0)])), (a 0, .inl (cI, 8, .inl (S.2 0)))]
def gX6 (o : Nat) (a : Nat → Nat) (cI : ClassId) (S : G) : va_W := [(o, .inr (6, [.ref (a 0), .ref (a 1), .int (S.1 2), .ref (a 3), .ref (a 4), .ref (a 5), .ref (a 6), .ref (a 7), .ref (a 8)])), (a 8, .inl (cI, 7, .inl (S.2 8)))]
def gX7 (o : Nat) (a : Nat → Nat) (cI : ClassId) (S : G) : va_W := [(o, .inr (7, [.ref (a 0), .ref (a 1), .ref (a 2), .ref (a 3), .ref (a 4), .ref (a 5), .ref (a 6), .int (S.1 7), .int (S.1 8), .int (S.1 9), .int (S.1 10), .int (S.1 11), .ref (a 12), .ref (a 13), .ref (a 14), .ref (a 15), .int (S.1 16), .int (S.1 17), .int (S.1 18), .ref (a 19), .int (S.1 20), .int (S.1 21), .int (S.1 22), .ref (a 23), .ref (a 24), .int (S.1 25)])),
  (a 0, .inl (cI, 7, .inl (S.2 0))), (a 1, .inl (cI, 6, .inl (S.2 1))), (a 2, .inl (cI, 6, .inl (S.2 2))), (a 3, .inl (cI, 8, .inl (S.2 3))), (a 4, .inl (cI, 8, .inl (S.2 4))), (a 5, .inl (cI, 8, .inl (S.2 5))), (a 6, .inl (cI, 8, .inl (S.2 6))), (a 12, .inl (cI, 96, .inl (S.2 12))), (a 13, .inl (cI, 48, .inl (S.2 13))), (a 14, .inl (cI, 48, .inl (S.2 14))), (a 15, .inl (cI, 144, .inl (S.2 15))), (a 19, .inl (cI, 144, .inl (S.2 19))), (a 23, .inl (cI, 4, .inl (S.2 23))), (a 24, .inl (cI, 16, .inl (S.2 24)))]
