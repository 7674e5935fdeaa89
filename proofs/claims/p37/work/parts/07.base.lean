/-! BASE: the state (G: what a day leaves as it is; D: what it changes), its cells, contracts, their starts, calls and ends -/
abbrev z_GG : Type := (Nat → Int32) × (Nat → Int32) × (Nat → Int32) × (Nat → Nat) × (Nat → Nat) × Nat × Nat × Nat × Nat
abbrev z_DD : Type := (Nat → Int32) × (Nat → Bool) × (Nat → Int32) × (Nat → Nat) × Int32
def z_wm (G : z_GG) : Nat → Int32 := G.1
def z_v0 (G : z_GG) : Nat → Int32 := G.2.1
def z_lk (G : z_GG) : Nat → Int32 := G.2.2.1
def z_bt (G : z_GG) : Nat → Nat := G.2.2.2.1
def z_sh (G : z_GG) : Nat → Nat := G.2.2.2.2.1
def z_bc (G : z_GG) : Nat := G.2.2.2.2.2.1
def z_tc (G : z_GG) : Nat := G.2.2.2.2.2.2.1
def z_sd (G : z_GG) : Nat := G.2.2.2.2.2.2.2.1
def z_od (G : z_GG) : Nat := G.2.2.2.2.2.2.2.2
def z_sw (D : z_DD) : Nat → Int32 := D.1
def z_rc (D : z_DD) : Nat → Bool := D.2.1
def z_vc (D : z_DD) : Nat → Int32 := D.2.2.1
def z_pl (D : z_DD) : Nat → Nat := D.2.2.2.1
def z_dy (D : z_DD) : Int32 := D.2.2.2.2
def z_bI (b : Bool) : Int32 := if b then 1 else 0
/-- the cells of a Stock: raw -/
abbrev z_sX (cI : ClassId) (a : Nat → Nat) (f0 f1 f2 f3 f4 f5 f6 f7 f8 : Nat → Int32) (n0 n1 n2 n3 n4 : Int32) : va_W :=
  [(a 0, .inr (1, [.ref (a 1), .ref (a 2), .ref (a 3), .ref (a 4), .ref (a 5), .int n0, .ref (a 6), .ref (a 7), .ref (a 8), .ref (a 9), .int n1, .int n2, .int n3, .int n4])),
   (a 1, .inr (0, [.ref (a 10)])), (a 2, .inr (0, [.ref (a 11)])), (a 3, .inr (0, [.ref (a 12)])), (a 4, .inr (0, [.ref (a 13)])), (a 5, .inr (0, [.ref (a 14)])), (a 6, .inr (0, [.ref (a 15)])), (a 7, .inr (0, [.ref (a 16)])), (a 8, .inr (0, [.ref (a 17)])), (a 9, .inr (0, [.ref (a 18)])),
   (a 10, .inl (cI, 4, .inl f0)), (a 11, .inl (cI, 6, .inl f1)), (a 12, .inl (cI, 6, .inl f2)), (a 13, .inl (cI, 6, .inl f3)), (a 14, .inl (cI, 6, .inl f4)), (a 15, .inl (cI, 60, .inl f5)), (a 16, .inl (cI, 60, .inl f6)), (a 17, .inl (cI, 60, .inl f7)), (a 18, .inl (cI, 60, .inl f8))]
/-- a Stock that holds the state -/
abbrev z_sW (cI : ClassId) (a : Nat → Nat) (G : z_GG) (D : z_DD) : va_W := z_sX cI a (z_wm G) (z_v0 G) (z_lk G) (z_sw D) (fun i => z_bI (z_rc D i)) (fun i => nI (z_bt G i)) (fun i => nI (z_sh G i)) (z_vc D) (fun i => nI (z_pl D i)) (nI (z_bc G)) (nI (z_tc G)) (nI (z_sd G)) (nI (z_od G)) (z_dy D)
/-- the links to members of a nest mate -/
def z_N (U : State) : Prop := va_Nw (.methodLinkNest RX2 9 yX1_init RX2) U ∧ va_Nw (.fieldLinkNest RX2 30 RX1 "batchCount" "I" RX2) U ∧ va_Nw (.fieldLinkNest RX2 52 RX1 "tinCount" "I" RX2) U ∧ va_Nw (.fieldLinkNest RX2 73 RX1 "shelf" "LTinCellar$Row;" RX2) U ∧ va_Nw (.fieldLinkNest RX2 89 RX1 "warm" "LTinCellar$Row;" RX2) U ∧ va_Nw (.fieldLinkNest RX2 95 RX1 "shippedADay" "I" RX2) U ∧ va_Nw (.fieldLinkNest RX2 98 RX1 "order" "I" RX2) U ∧ va_Nw (.fieldLinkNest RX2 114 RX1 "day" "I" RX2) U ∧ va_Nw (.fieldLinkNest RX2 117 RX1 "swelledLids" "LTinCellar$Row;" RX2) U ∧ va_Nw (.fieldLinkNest RX2 124 RX1 "batch" "LTinCellar$Row;" RX2) U ∧ va_Nw (.fieldLinkNest RX2 127 RX1 "vacuum" "LTinCellar$Row;" RX2) U ∧ va_Nw (.fieldLinkNest RX2 130 RX1 "place" "LTinCellar$Row;" RX2) U
theorem z_N.same {u U : State} (h : u.vm = U.vm) (hZ : z_N u) : z_N U := by
  obtain ⟨h1, h2, h3, h4, h5, h6, h7, h8, h9, h10, h11, h12⟩ := hZ
  exact ⟨h1.same rfl h, h2.same rfl h, h3.same rfl h, h4.same rfl h, h5.same rfl h, h6.same rfl h, h7.same rfl h, h8.same rfl h, h9.same rfl h, h10.same rfl h, h11.same rfl h, h12.same rfl h⟩
theorem z_N.warm {s U : State} (hW : s.WarmedH U.vm) (hZ : z_N s) : z_N U := by
  obtain ⟨h1, h2, h3, h4, h5, h6, h7, h8, h9, h10, h11, h12⟩ := hZ
  exact ⟨va_Nw.warmM hW h1, va_Nw.warmF hW h2, va_Nw.warmF hW h3, va_Nw.warmF hW h4, va_Nw.warmF hW h5, va_Nw.warmF hW h6, va_Nw.warmF hW h7, va_Nw.warmF hW h8, va_Nw.warmF hW h9, va_Nw.warmF hW h10, va_Nw.warmF hW h11, va_Nw.warmF hW h12⟩
/-- what the tables say, for every contract -/
def z_K (Dg : va_G) (cI : ClassId) (U : State) : Prop := va_K Dg vwCl [(cI, .int)] U ∧ z_N U
theorem z_K.same {Dg : va_G} {cI : ClassId} {u U : State} (h : u.vm = U.vm) (hZ : z_K Dg cI u) : z_K Dg cI U := ⟨va_K.moved (by rw [h]; exact Vm.Alike.refl U.vm) hZ.1, hZ.2.same h⟩
theorem z_K.warm {Dg : va_G} {cI : ClassId} {s U : State} (hW : s.WarmedH U.vm) (hZ : z_K Dg cI s) : z_K Dg cI U := ⟨va_K.moved hW.alike hZ.1, hZ.2.warm hW⟩
theorem z_nar (b : Bool) : narrow .boolean (.int (z_bI b)) = .int (z_bI b) := by cases b <;> rfl
/-! contracts: one that only reads; one that writes in its world -/
def z_no : Addr → Prop := fun _ => False
def z_Pr (As : List Value) (Dg : va_G) (cI : ClassId) (w : va_W) : Array Value → State → Prop := va_Pc As (fun U => va_P Dg vwCl w U.heap ∧ z_K Dg cI U)
def z_Qr (o : Option Value) : Array Value → State → Outcome → State → Prop := fun _ st oc t => oc = .returned o ∧ t.heap = st.heap
def z_in (w : va_W) : Nat → Prop := fun q => ∃ (k : Nat) (e : va_E), w[k]? = some (q, e)
def z_Pw (As : List Value) (Dg : va_G) (cI : ClassId) (w : va_W) : Array Value → State → Prop := va_Pc As (fun U => va_P Dg vwCl w U.heap ∧ z_K Dg cI U ∧ va_D (fun _ => True) w)
def z_Qw (o : Option Value) (Dg : va_G) (w w' : va_W) : Array Value → State → Outcome → State → Prop := fun _ st oc t => oc = .returned o ∧ va_P Dg vwCl w' t.heap ∧ va_F (z_in w) st t
abbrev z_Mr (l : Launch) (y : MethodName) (ws : List Cond) (f L : Nat) (As : List Value) (Dg : va_G) (cI : ClassId) (w : va_W) (o : Option Value) : Prop := Met l y ws ({ frames := f, cells := 0, slots := 0, locals := L }) (z_Pr As Dg cI w) (z_Qr o) 0 0 z_no
abbrev z_Mw (l : Launch) (y : MethodName) (ws : List Cond) (f L : Nat) (As : List Value) (Dg : va_G) (cI : ClassId) (w : va_W) (o : Option Value) (w' : va_W) : Prop := Met l y ws ({ frames := f, cells := 0, slots := 0, locals := L }) (z_Pw As Dg cI w) (z_Qw o Dg w w') 0 0 (z_in w)
theorem z_Pr.blind {As : List Value} {Dg : va_G} {cI : ClassId} {w : va_W} : FrameBlind (z_Pr As Dg cI w) := fun _ U g mk q => ⟨q.1, q.2.1, z_K.same (U := U.calling g mk _) rfl q.2.2⟩
theorem z_Pw.blind {As : List Value} {Dg : va_G} {cI : ClassId} {w : va_W} : FrameBlind (z_Pw As Dg cI w) := fun _ U g mk q => ⟨q.1, q.2.1, z_K.same (U := U.calling g mk _) rfl q.2.2.1, q.2.2.2⟩
theorem z_sr {l : Launch} {y : MethodName} {ws ws' : List Cond} {f L : Nat} {As : List Value} {Dg : va_G} {cI : ClassId} {w : va_W} {Qc : Array Value → State → Outcome → State → Prop} {cc : ByteArray} {maxL : Nat} {ret : Option FieldType} {l0 : List (Nat × Value)} {own : String}
    (hw : ws = Cond.code y cc maxL ret :: ws') (hl0 : lv_args 0 As = l0) (hy : plainName y.cls = true) (hn : (lg_sl As).length ≤ maxL) (ho : y.cls = own)
    (body : ∀ (p : Program) (e : Env) (s : State) (m : MethodId) (below : List Frame) (meth : Method) (c : Code), p.tables.exec = Jvm.exec → c.code = cc → meth.sig.returnType = ret → c.maxLocals = maxL → (∀ w ∈ ws, w.before As.toArray s = true) → s.vm.findClass own = some m.cls → meth.locks = false → va_P Dg vwCl w s.heap → va_K Dg vwCl [(cI, .int)] s → z_N s → ∀ ls : Array Slot, lv_has ls maxL l0 → W p l e ({ frames := f, cells := 0, slots := 0, locals := L }) s m As.toArray below meth c s.heap [] 0 0 (MQ below Qc As.toArray s 0 0 z_no) (F0 m 0 ls [])) :
    Met l y ws ({ frames := f, cells := 0, slots := 0, locals := L }) (z_Pr As Dg cI w) Qc 0 0 z_no := by
  refine Met.ofW (cc := cc) (maxL := maxL) (ret := ret) hy hw ?_
  intro p e s m args below meth c s₁ B hml hv
  obtain ⟨rfl, hP, hK⟩ := hv
  rw [lg_entry_eq]
  have hl := lv_entry As (n := maxL) hn
  rw [hl0] at hl
  exact body p e s m below meth c B.exec B.bytes B.returns hml (atoms_spec (ws := ws) B.pre) (ho ▸ findClass_of_methodNamed B.named) B.notSynchronized hP hK.1 hK.2 _ hl
theorem z_sw' {l : Launch} {y : MethodName} {ws ws' : List Cond} {f L : Nat} {As : List Value} {Dg : va_G} {cI : ClassId} {w : va_W} {Qc : Array Value → State → Outcome → State → Prop} {cc : ByteArray} {maxL : Nat} {ret : Option FieldType} {l0 : List (Nat × Value)} {own : String}
    (hw : ws = Cond.code y cc maxL ret :: ws') (hl0 : lv_args 0 As = l0) (hy : plainName y.cls = true) (hn : (lg_sl As).length ≤ maxL) (ho : y.cls = own)
    (body : ∀ (p : Program) (e : Env) (s : State) (m : MethodId) (below : List Frame) (meth : Method) (c : Code), p.tables.exec = Jvm.exec → c.code = cc → meth.sig.returnType = ret → c.maxLocals = maxL → (∀ w ∈ ws, w.before As.toArray s = true) → s.vm.findClass own = some m.cls → meth.locks = false → va_P Dg vwCl w s.heap → va_K Dg vwCl [(cI, .int)] s → z_N s → va_D (z_in w) w → va_S (z_in w) s.heap s.heap [] → ∀ ls : Array Slot, lv_has ls maxL l0 → W p l e ({ frames := f, cells := 0, slots := 0, locals := L }) s m As.toArray below meth c s.heap [] 0 0 (MQ below Qc As.toArray s 0 0 (z_in w)) (F0 m 0 ls [])) :
    Met l y ws ({ frames := f, cells := 0, slots := 0, locals := L }) (z_Pw As Dg cI w) Qc 0 0 (z_in w) := by
  refine Met.ofW (cc := cc) (maxL := maxL) (ret := ret) hy hw ?_
  intro p e s m args below meth c s₁ B hml hv
  obtain ⟨rfl, hP, hK, hD⟩ := hv
  rw [lg_entry_eq]
  have hl := lv_entry As (n := maxL) hn
  rw [hl0] at hl
  exact body p e s m below meth c B.exec B.bytes B.returns hml (atoms_spec (ws := ws) B.pre) (ho ▸ findClass_of_methodNamed B.named) B.notSynchronized hP hK.1 hK.2 (hD.weaken (fun k q h _ => ⟨k, q.2, h⟩)) va_S.rf _ hl
section ZW
variable {p : Program} {l : Launch} {e : Env} {R : Room} {s : State} {m : MethodId} {args : Array Value} {below : List Frame} {meth : Method} {c : Code} {H : Heap} {locs : List Loc} {cells slots : Nat} {Q : State → Prop} {pc : Nat} {ls : Array Slot} {rest st0 : List Value} {cc : ByteArray}
theorem z_er_i {v v' : Int32} (h : v = v') (hx : p.tables.exec = Jvm.exec) (hb : c.code = cc) (hr : meth.sig.returnType = some .int) (hlk : meth.locks = false) (hdg : decode cc pc = .ok (.ireturn, 1)) : W p l e R s m args below meth c s.heap [] 0 0 (MQ below (z_Qr (some (.int v'))) args s 0 0 z_no) (F0 m pc ls [.int v]) := by
  subst h
  exact W.iret hx hb hr (fun t ht _ => ⟨rfl, ht⟩) (fun q hq => absurd hq List.not_mem_nil) hdg hlk
theorem z_er_z {v : Int32} {b : Bool} (h : v = z_bI b) (hx : p.tables.exec = Jvm.exec) (hb : c.code = cc) (hr : meth.sig.returnType = some .boolean) (hlk : meth.locks = false) (hdg : decode cc pc = .ok (.ireturn, 1)) : W p l e R s m args below meth c s.heap [] 0 0 (MQ below (z_Qr (some (.int (z_bI b)))) args s 0 0 z_no) (F0 m pc ls [.int v]) := by
  subst h
  exact W.zret hx hb hr (z_nar b) (fun t ht _ => ⟨rfl, ht⟩) (fun q hq => absurd hq List.not_mem_nil) hdg hlk
theorem z_er_l {v v' : Int64} (h : v = v') (hx : p.tables.exec = Jvm.exec) (hb : c.code = cc) (hr : meth.sig.returnType = some .long) (hlk : meth.locks = false) (hdg : decode cc pc = .ok (.lreturn, 1)) : W p l e R s m args below meth c s.heap [] 0 0 (MQ below (z_Qr (some (.long v'))) args s 0 0 z_no) (F0 m pc ls [.long v]) := by
  subst h
  exact W.lret hx hb hr (fun t ht _ => ⟨rfl, ht⟩) (fun q hq => absurd hq List.not_mem_nil) hdg hlk
theorem z_er_v (hx : p.tables.exec = Jvm.exec) (hb : c.code = cc) (hr : meth.sig.returnType = none) (hlk : meth.locks = false) (hdg : decode cc pc = .ok (.return_, 1)) : W p l e R s m args below meth c s.heap [] 0 0 (MQ below (z_Qr none) args s 0 0 z_no) (F0 m pc ls []) :=
  W.vret hx hb hr (fun t ht _ => ⟨rfl, ht⟩) (fun q hq => absurd hq List.not_mem_nil) hdg hlk
theorem z_ew_i {Dg : va_G} {w w' : va_W} {v v' : Int32} (h : v = v') (hP : va_P Dg vwCl w' H) (hS : va_S (z_in w) s.heap H locs) (hx : p.tables.exec = Jvm.exec) (hb : c.code = cc) (hr : meth.sig.returnType = some .int) (hlk : meth.locks = false) (hdg : decode cc pc = .ok (.ireturn, 1)) : W p l e R s m args below meth c H locs 0 0 (MQ below (z_Qw (some (.int v')) Dg w w') args s 0 0 (z_in w)) (F0 m pc ls [.int v]) := by
  subst h
  exact W.iret hx hb hr (fun t ht _ => ⟨rfl, by rw [ht]; exact hP, hS.F ht⟩) hS.2.2 hdg hlk
theorem z_ew_z {Dg : va_G} {w w' : va_W} {v : Int32} {b : Bool} (h : v = z_bI b) (hP : va_P Dg vwCl w' H) (hS : va_S (z_in w) s.heap H locs) (hx : p.tables.exec = Jvm.exec) (hb : c.code = cc) (hr : meth.sig.returnType = some .boolean) (hlk : meth.locks = false) (hdg : decode cc pc = .ok (.ireturn, 1)) : W p l e R s m args below meth c H locs 0 0 (MQ below (z_Qw (some (.int (z_bI b))) Dg w w') args s 0 0 (z_in w)) (F0 m pc ls [.int v]) := by
  subst h
  exact W.zret hx hb hr (z_nar b) (fun t ht _ => ⟨rfl, by rw [ht]; exact hP, hS.F ht⟩) hS.2.2 hdg hlk
theorem z_ew_l {Dg : va_G} {w w' : va_W} {v v' : Int64} (h : v = v') (hP : va_P Dg vwCl w' H) (hS : va_S (z_in w) s.heap H locs) (hx : p.tables.exec = Jvm.exec) (hb : c.code = cc) (hr : meth.sig.returnType = some .long) (hlk : meth.locks = false) (hdg : decode cc pc = .ok (.lreturn, 1)) : W p l e R s m args below meth c H locs 0 0 (MQ below (z_Qw (some (.long v')) Dg w w') args s 0 0 (z_in w)) (F0 m pc ls [.long v]) := by
  subst h
  exact W.lret hx hb hr (fun t ht _ => ⟨rfl, by rw [ht]; exact hP, hS.F ht⟩) hS.2.2 hdg hlk
theorem z_ew_v {Dg : va_G} {w w' : va_W} (hP : va_P Dg vwCl w' H) (hS : va_S (z_in w) s.heap H locs) (hx : p.tables.exec = Jvm.exec) (hb : c.code = cc) (hr : meth.sig.returnType = none) (hlk : meth.locks = false) (hdg : decode cc pc = .ok (.return_, 1)) : W p l e R s m args below meth c H locs 0 0 (MQ below (z_Qw none Dg w w') args s 0 0 (z_in w)) (F0 m pc ls []) :=
  W.vret hx hb hr (fun t ht _ => ⟨rfl, by rw [ht]; exact hP, hS.F ht⟩) hS.2.2 hdg hlk
/-! calls -/
variable {y : MethodName} {bytes : ByteArray} {maxL nL n index f L ci : Nat} {ret : Option FieldType} {wsy Ts : List Cond} {own C : String} {b : Addr} {As : List Value} {Dg : va_G} {cI : ClassId} {w w' ws : va_W} {o : Option Value} {fs : List Value} {vq : vw_C} {A0 : Nat → Prop} {H0 : Heap}
theorem z_kr {a : Array Value} (hr : va_Run p l e R s m args below meth c H locs cells slots 0 0 (F0 m pc ls st0) rest (z_Qr o a) z_no)
    (kk : W p l e R s m args below meth c H locs cells slots Q (F0 m (pc + 3) ls (o.toList ++ rest))) : W p l e R s m args below meth c H locs cells slots Q (F0 m pc ls st0) := by
  intro T hT X
  obtain ⟨v, st₀, t, T', L, h0, X', hL, e1, e2, ⟨hv, hh⟩, st⟩ := hr T hT X
  cases hv
  obtain ⟨t2, a1, b1⟩ := kk T' (by rw [e1, hh, h0]) (Stand.forget X' (fun q h => (hL q h).elim))
  exact ⟨t2, st t2 a1, b1⟩
/-- a method that only reads, called on an object -/
theorem z_rV (S : CallFix p m c cc nL s args Ts own) (hM : z_Mr l y wsy f L (.ref b :: As) Dg cI w o) (cw : CallW R s args own C index y bytes maxL ret wsy ({ frames := f, cells := 0, slots := 0, locals := L }) 0 0 n)
    (hK : va_K Dg vwCl [(cI, .int)] s) (hN : z_N s) (hP : va_P Dg vwCl w H) (he : w[0]? = some (b, .inr (ci, fs))) (hc : vwCl[ci]? = some vq) (hC : vq.1 = C) (hn : As.length = n) (hsize : ls.size = nL) (hst : st0 = As.reverse ++ .ref b :: rest) (hW : (rest.map fun v => v.category).sum ≤ 8)
    (hdg : decode cc pc = .ok (.invokevirtual index, 3)) (hf : cells ≤ R.cells ∧ slots ≤ R.slots) (kk : W p l e R s m args below meth c H locs cells slots Q (F0 m (pc + 3) ls (o.toList ++ rest))) : W p l e R s m args below meth c H locs cells slots Q (F0 m pc ls st0) :=
  z_kr (va_runV (As := As) (rest := rest) S hM cw ⟨z_Pr.blind, by rw [← hC]; exact va_recv hK hP hc he, fun U hU hW => ⟨rfl, by rw [hU]; exact hP, z_K.warm hW ⟨hK, hN⟩⟩⟩ rfl hn hsize hst (lv_room hW) hdg hf) kk
/-- a static method that only reads -/
theorem z_rS (S : CallFix p m c cc nL s args Ts own) (hM : z_Mr l y wsy f L As Dg cI w o) (cw : CallB R s args own index y bytes maxL ret wsy ({ frames := f, cells := 0, slots := 0, locals := L }) 0 0 n ∧ (Cond.static y).before args s = true)
    (hK : va_K Dg vwCl [(cI, .int)] s) (hN : z_N s) (hP : va_P Dg vwCl w H) (hn : As.length = n) (hsize : ls.size = nL) (hst : st0 = As.reverse ++ rest) (hW : (rest.map fun v => v.category).sum ≤ 8)
    (hdg : decode cc pc = .ok (.invokestatic index, 3)) (hf : cells ≤ R.cells ∧ slots ≤ R.slots) (kk : W p l e R s m args below meth c H locs cells slots Q (F0 m (pc + 3) ls (o.toList ++ rest))) : W p l e R s m args below meth c H locs cells slots Q (F0 m pc ls st0) :=
  z_kr (va_runS (As := As) (rest := rest) S hM cw ⟨z_Pr.blind, fun U hU hW => ⟨rfl, by rw [hU]; exact hP, z_K.warm hW ⟨hK, hN⟩⟩⟩ rfl hn hsize hst (lv_room hW) hdg hf) kk
/-- a world, one part of which is another's -/
def z_re : va_W → List Nat → va_W → va_W
  | ws, i :: is, x :: xs => z_re (ws.set i x) is xs
  | ws, _, _ => ws
theorem z_re_len : ∀ (is : List Nat) (xs ws : va_W), (z_re ws is xs).length = ws.length
  | [], _, _ => by simp [z_re]
  | i :: is, [], _ => by simp [z_re]
  | i :: is, x :: xs, ws => by rw [z_re, z_re_len is xs, List.length_set]
theorem z_re_out : ∀ (is : List Nat) (xs ws : va_W) (k : Nat), k ∉ is → (z_re ws is xs)[k]? = ws[k]?
  | [], _, _, _, _ => by simp [z_re]
  | i :: is, [], _, _, _ => by simp [z_re]
  | i :: is, x :: xs, ws, k, h => by
    rw [z_re, z_re_out is xs _ k (fun q => h (List.mem_cons_of_mem _ q)), List.getElem?_set_ne (fun q => h (by rw [q]; exact List.mem_cons_self))]
theorem z_re_in : ∀ (is : List Nat) (xs ws : va_W) (k : Nat), k ∈ is → is.length = xs.length → (∀ i ∈ is, i < ws.length) → ∃ (j : Nat) (x : Nat × va_E), xs[j]? = some x ∧ is[j]? = some k ∧ (z_re ws is xs)[k]? = some x
  | [], _, _, _, h, _, _ => absurd h List.not_mem_nil
  | i :: is, [], _, _, _, h, _ => by simp at h
  | i :: is, x :: xs, ws, k, h, hl, hb => by
    by_cases hk : k ∈ is
    · obtain ⟨j, z, h1, h2, h3⟩ := z_re_in is xs (ws.set i x) k hk (by simpa using hl) (fun a ha => by rw [List.length_set]; exact hb a (List.mem_cons_of_mem _ ha))
      exact ⟨j + 1, z, by simpa using h1, by simpa using h2, by rw [z_re]; exact h3⟩
    · rcases List.mem_cons.mp h with rfl | h
      · refine ⟨0, x, rfl, rfl, ?_⟩
        rw [z_re, z_re_out is xs _ k hk, List.getElem?_set_self (hb k List.mem_cons_self)]
      · exact absurd h hk
theorem z_at {is : List Nat} {ws w : va_W} (hs : is.map (fun i => ws[i]?) = w.map some) : ∀ (k : Nat) (q : Nat × va_E), w[k]? = some q → ∃ i, is[k]? = some i ∧ ws[i]? = some q := by
  intro k q hq
  have h1 : (is.map (fun i => ws[i]?))[k]? = some (some q) := by rw [hs, List.getElem?_map, hq]; rfl
  rw [List.getElem?_map] at h1
  cases hi : is[k]? with
  | none => rw [hi] at h1; cases h1
  | some i => rw [hi] at h1; exact ⟨i, rfl, Option.some.inj h1⟩
theorem z_join {A0 : Nat → Prop} {ws w w' : va_W} {H H1 : Heap} (is : List Nat) (hP : va_P Dg vwCl ws H) (hD : va_D A0 ws) (hC : is.map (fun i => ws[i]?) = w.map some) (ha : w'.map Prod.fst = w.map Prod.fst) (hk : ∀ q : Nat, q < H.size → ¬ z_in w q → H1[q]? = H[q]?) (hP1 : va_P Dg vwCl w' H1) : va_P Dg vwCl (z_re ws is w') H1 ∧ va_D A0 (z_re ws is w') := by
  have hlen : is.length = w'.length := by
    have e1 := congrArg List.length hC
    have e2 := congrArg List.length ha
    simp only [List.length_map] at e1 e2
    omega
  have hb : ∀ i ∈ is, i < ws.length := by
    intro i hi
    obtain ⟨k, hk1⟩ := List.getElem?_of_mem hi
    have h1 : (is.map (fun i => ws[i]?))[k]? = some (ws[i]?) := by rw [List.getElem?_map, hk1]; rfl
    rw [hC, List.getElem?_map] at h1
    cases hw : w[k]? with
    | none => rw [hw] at h1; cases h1
    | some x =>
      rw [hw] at h1
      have h2 : ws[i]? = some x := (Option.some.inj h1).symm
      exact (List.getElem?_eq_some_iff.mp h2).1
  have adr : ∀ (k : Nat) (q : Nat × va_E), (z_re ws is w')[k]? = some q → ∃ q0, ws[k]? = some q0 ∧ q0.1 = q.1 := by
    intro k q hq
    by_cases hki : k ∈ is
    · obtain ⟨j, x, h1, h2, h3⟩ := z_re_in is w' ws k hki hlen hb
      rw [h3] at hq
      cases hq
      have e1 : (w'.map Prod.fst)[j]? = some q.1 := by rw [List.getElem?_map, h1]; rfl
      rw [ha, List.getElem?_map] at e1
      cases hw : w[j]? with
      | none => rw [hw] at e1; cases e1
      | some z =>
        rw [hw] at e1
        obtain ⟨i, h4, h5⟩ := z_at hC j z hw
        rw [h2] at h4
        cases h4
        exact ⟨z, h5, Option.some.inj e1⟩
    · rw [z_re_out is w' ws k hki] at hq
      exact ⟨q, hq, rfl⟩
  refine ⟨fun k q hq => ?_, fun i j x y hi hj hxy => ?_, fun k q hq => ?_⟩
  · by_cases hki : k ∈ is
    · obtain ⟨j, x, h1, h2, h3⟩ := z_re_in is w' ws k hki hlen hb
      rw [h3] at hq
      cases hq
      exact hP1 j _ h1
    · rw [z_re_out is w' ws k hki] at hq
      refine (hP k q hq).kept (hk q.1 (hP k q hq).lt (fun hin => ?_))
      obtain ⟨j, e, hj⟩ := hin
      obtain ⟨i, h4, h5⟩ := z_at hC j _ hj
      have := hD.1 k i q (q.1, e) hq h5 rfl
      subst this
      exact hki (List.mem_of_getElem? h4)
  · obtain ⟨x0, h1, h2⟩ := adr i x hi
    obtain ⟨y0, h3, h4⟩ := adr j y hj
    exact hD.1 i j x0 y0 h1 h3 (h2.trans (hxy.trans h4.symm))
  · obtain ⟨q0, h1, h2⟩ := adr k q hq
    rw [← h2]
    exact hD.2 k q0 h1
theorem z_sub_in {A0 : Nat → Prop} {ws w : va_W} {is : List Nat} (hD : va_D A0 ws) (hC : is.map (fun i => ws[i]?) = w.map some) : ∀ q, z_in w q → A0 q := by
  intro q hq
  obtain ⟨k, e, h⟩ := hq
  obtain ⟨i, -, h2⟩ := z_at hC k _ h
  exact hD.2 i _ h2
theorem z_kw {a : Array Value} (is : List Nat) (hr : va_Run p l e R s m args below meth c H locs cells slots 0 0 (F0 m pc ls st0) rest (z_Qw o Dg w w' a) (z_in w)) (hP : va_P Dg vwCl ws H) (hD : va_D A0 ws) (hS : va_S A0 H0 H locs) (hC : is.map (fun i => ws[i]?) = w.map some) (ha : w'.map Prod.fst = w.map Prod.fst)
    (kk : ∀ (H1 : Heap) (locs1 : List Loc), va_P Dg vwCl (z_re ws is w') H1 → va_D A0 (z_re ws is w') → va_S A0 H0 H1 locs1 → W p l e R s m args below meth c H1 locs1 cells slots Q (F0 m (pc + 3) ls (o.toList ++ rest))) : W p l e R s m args below meth c H locs cells slots Q (F0 m pc ls st0) := by
  intro T hT X
  obtain ⟨v, st₀, t, T', L, h0, X', hL, e1, e2, ⟨hv, hP1, hz, hk⟩, st⟩ := hr T hT X
  cases hv
  rw [h0] at hz hk
  have hin := z_sub_in hD hC
  obtain ⟨hP2, hD2⟩ := z_join (H1 := T'.heap) is hP hD hC ha (fun q h1 h2 => by rw [e1]; exact hk q h1 h2) (by rw [e1]; exact hP1)
  obtain ⟨t2, a1, b1⟩ := kk T'.heap (locs ++ L) hP2 hD2
    ⟨Nat.le_trans hS.1 (by rw [e1]; exact hz), fun q h1 h2 => by rw [e1, hk q (Nat.lt_of_lt_of_le h1 hS.1) (fun z => h2 (hin q z))]; exact hS.2.1 q h1 h2, fun q hq => by
      rcases List.mem_append.mp hq with h | h
      · exact hS.2.2 q h
      · exact hin _ (hL q h)⟩ T' rfl X'
  exact ⟨t2, st t2 a1, b1⟩
/-- a method that writes, called on an object: its world lies at the places 'is' of the caller's -/
theorem z_wV (is : List Nat) (S : CallFix p m c cc nL s args Ts own) (hM : z_Mw l y wsy f L (.ref b :: As) Dg cI w o w') (cw : CallW R s args own C index y bytes maxL ret wsy ({ frames := f, cells := 0, slots := 0, locals := L }) 0 0 n)
    (hK : va_K Dg vwCl [(cI, .int)] s) (hN : z_N s) (hP : va_P Dg vwCl ws H) (hD : va_D A0 ws) (hS : va_S A0 H0 H locs) (hC : is.map (fun i => ws[i]?) = w.map some) (hnd : va_nd is = true) (ha : w'.map Prod.fst = w.map Prod.fst) (he : w[0]? = some (b, .inr (ci, fs))) (hc : vwCl[ci]? = some vq) (hCl : vq.1 = C) (hn : As.length = n) (hsize : ls.size = nL) (hst : st0 = As.reverse ++ .ref b :: rest) (hW : (rest.map fun v => v.category).sum ≤ 8)
    (hdg : decode cc pc = .ok (.invokevirtual index, 3)) (hf : cells ≤ R.cells ∧ slots ≤ R.slots)
    (kk : ∀ (H1 : Heap) (locs1 : List Loc), va_P Dg vwCl (z_re ws is w') H1 → va_D A0 (z_re ws is w') → va_S A0 H0 H1 locs1 → W p l e R s m args below meth c H1 locs1 cells slots Q (F0 m (pc + 3) ls (o.toList ++ rest))) : W p l e R s m args below meth c H locs cells slots Q (F0 m pc ls st0) := by
  have hPc : va_P Dg vwCl w H := fun k q hq => by
    obtain ⟨i, -, h2⟩ := z_at hC k q hq
    exact hP i q h2
  have hDc : va_D (fun _ => True) w := (hD.sub is hnd hC).weaken (fun _ _ _ _ => trivial)
  exact z_kw is (va_runV (As := As) (rest := rest) S hM cw ⟨z_Pw.blind, by rw [← hCl]; exact va_recv hK hPc hc he, fun U hU hW => ⟨rfl, by rw [hU]; exact hPc, z_K.warm hW ⟨hK, hN⟩, hDc⟩⟩ rfl hn hsize hst (lv_room hW) hdg hf) hP hD hS hC ha kk
theorem z_kwA {a : Array Value} (hr : va_Run p l e R s m args below meth c H locs cells slots 0 0 (F0 m pc ls st0) rest (z_Qw o Dg ws w' a) (z_in ws)) (hP : va_P Dg vwCl ws H) (hD : va_D A0 ws) (hS : va_S A0 H0 H locs) (ha : w'.map Prod.fst = ws.map Prod.fst)
    (kk : ∀ (H1 : Heap) (locs1 : List Loc), va_P Dg vwCl w' H1 → va_D A0 w' → va_S A0 H0 H1 locs1 → W p l e R s m args below meth c H1 locs1 cells slots Q (F0 m (pc + 3) ls (o.toList ++ rest))) : W p l e R s m args below meth c H locs cells slots Q (F0 m pc ls st0) := by
  intro T hT X
  obtain ⟨v, st₀, t, T', L, h0, X', hL, e1, e2, ⟨hv, hP1, hz, hk⟩, st⟩ := hr T hT X
  cases hv
  rw [h0] at hz hk
  have hin : ∀ q, z_in ws q → A0 q := fun q ⟨k, e, h⟩ => hD.2 k _ h
  have adr : ∀ (k : Nat) (q : Nat × va_E), w'[k]? = some q → ∃ q0, ws[k]? = some q0 ∧ q0.1 = q.1 := by
    intro k q hq
    have e3 : (w'.map Prod.fst)[k]? = some q.1 := by rw [List.getElem?_map, hq]; rfl
    rw [ha, List.getElem?_map] at e3
    cases hw : ws[k]? with
    | none => rw [hw] at e3; cases e3
    | some z => rw [hw] at e3; exact ⟨z, rfl, Option.some.inj e3⟩
  have hD2 : va_D A0 w' := by
    refine ⟨fun i j x y hi hj hxy => ?_, fun k q hq => ?_⟩
    · obtain ⟨x0, h1, h2⟩ := adr i x hi
      obtain ⟨y0, h3, h4⟩ := adr j y hj
      exact hD.1 i j x0 y0 h1 h3 (h2.trans (hxy.trans h4.symm))
    · obtain ⟨q0, h1, h2⟩ := adr k q hq
      rw [← h2]
      exact hD.2 k q0 h1
  obtain ⟨t2, a1, b1⟩ := kk T'.heap (locs ++ L) (by rw [e1]; exact hP1) hD2
    ⟨Nat.le_trans hS.1 (by rw [e1]; exact hz), fun q h1 h2 => by rw [e1, hk q (Nat.lt_of_lt_of_le h1 hS.1) (fun z => h2 (hin q z))]; exact hS.2.1 q h1 h2, fun q hq => by
      rcases List.mem_append.mp hq with h | h
      · exact hS.2.2 q h
      · exact hin _ (hL q h)⟩ T' rfl X'
  exact ⟨t2, st t2 a1, b1⟩
end ZW
section ZC
variable {p : Program} {l : Launch} {e : Env} {R : Room} {s : State} {m : MethodId} {args : Array Value} {below : List Frame} {meth : Method} {c : Code} {H : Heap} {locs : List Loc} {cells slots : Nat} {Q : State → Prop} {pc : Nat} {ls : Array Slot} {rest st0 : List Value} {cc : ByteArray} {y : MethodName} {bytes : ByteArray} {maxL nL n index f L ci : Nat} {ret : Option FieldType} {wsy wsy' Ts : List Cond} {own C : String} {b : Addr} {As : List Value} {Dg : va_G} {cI : ClassId} {w w' ws : va_W} {fs : List Value} {vq : vw_C} {A0 : Nat → Prop} {H0 : Heap}
theorem z_rVi {v : Int32} (rest : List Value) (hx : p.tables.exec = Jvm.exec) (hb : c.code = cc) (hml : c.maxLocals = nL) (hown : s.vm.findClass own = some m.cls) (hts : ∀ w ∈ Ts, w.before args s = true) (hM : z_Mr l y wsy f L (.ref b :: As) Dg cI w (some (.int v))) (hT : GoodIn Ts (wsV own index C y wsy)) (hw : wsy = Cond.code y bytes maxL ret :: wsy') (hd : y.cls = C ∧ y.cls ≠ "java/lang/invoke/MethodHandle" ∧ y.cls ≠ "java/lang/invoke/VarHandle" ∧ (parseMethodDescriptor y.desc).map (fun d => d.parameters.length) = some n) (hR : f + 1 ≤ R.frames ∧ 8 + (maxL + 11) + L ≤ R.locals)
    (hK : va_K Dg vwCl [(cI, .int)] s) (hN : z_N s) (hP : va_P Dg vwCl w H) (he : w[0]? = some (b, .inr (ci, fs))) (hc : vwCl[ci]? = some vq) (hC : vq.1 = C) (hn : As.length = n) (hsize : ls.size = nL) (hst : st0 = As.reverse ++ .ref b :: rest) (hW : (rest.map fun v => v.category).sum ≤ 8)
    (hdg : decode cc pc = .ok (.invokevirtual index, 3)) (hf : cells ≤ R.cells ∧ slots ≤ R.slots) (kk : W p l e R s m args below meth c H locs cells slots Q (F0 m (pc + 3) ls (.int v :: rest))) : W p l e R s m args below meth c H locs cells slots Q (F0 m pc ls st0) :=
  z_rV (rest := rest) ⟨hx, hb, hml, hown, hts⟩ hM (cwV n hts hT hw rfl rfl hd hR) hK hN hP he hc hC hn hsize hst hW hdg hf kk
theorem z_rSi {v : Int32} (rest : List Value) (hx : p.tables.exec = Jvm.exec) (hb : c.code = cc) (hml : c.maxLocals = nL) (hown : s.vm.findClass own = some m.cls) (hts : ∀ w ∈ Ts, w.before args s = true) (hM : z_Mr l y wsy f L As Dg cI w (some (.int v))) (hT : GoodIn Ts (va_wsS own index y wsy)) (hw : wsy = Cond.code y bytes maxL ret :: wsy') (hd : y.cls ≠ "java/lang/invoke/MethodHandle" ∧ y.cls ≠ "java/lang/invoke/VarHandle" ∧ (parseMethodDescriptor y.desc).map (fun d => d.parameters.length) = some n) (hR : f + 1 ≤ R.frames ∧ 8 + (maxL + 11) + L ≤ R.locals)
    (hK : va_K Dg vwCl [(cI, .int)] s) (hN : z_N s) (hP : va_P Dg vwCl w H) (hn : As.length = n) (hsize : ls.size = nL) (hst : st0 = As.reverse ++ rest) (hW : (rest.map fun v => v.category).sum ≤ 8)
    (hdg : decode cc pc = .ok (.invokestatic index, 3)) (hf : cells ≤ R.cells ∧ slots ≤ R.slots) (kk : W p l e R s m args below meth c H locs cells slots Q (F0 m (pc + 3) ls (.int v :: rest))) : W p l e R s m args below meth c H locs cells slots Q (F0 m pc ls st0) :=
  z_rS (rest := rest) ⟨hx, hb, hml, hown, hts⟩ hM (va_cwS n hts hT hw rfl rfl hd hR) hK hN hP hn hsize hst hW hdg hf kk
theorem z_wVi {v : Int32} (rest : List Value) (is : List Nat) (hx : p.tables.exec = Jvm.exec) (hb : c.code = cc) (hml : c.maxLocals = nL) (hown : s.vm.findClass own = some m.cls) (hts : ∀ w ∈ Ts, w.before args s = true) (hM : z_Mw l y wsy f L (.ref b :: As) Dg cI w (some (.int v)) w') (hT : GoodIn Ts (wsV own index C y wsy)) (hw : wsy = Cond.code y bytes maxL ret :: wsy') (hd : y.cls = C ∧ y.cls ≠ "java/lang/invoke/MethodHandle" ∧ y.cls ≠ "java/lang/invoke/VarHandle" ∧ (parseMethodDescriptor y.desc).map (fun d => d.parameters.length) = some n) (hR : f + 1 ≤ R.frames ∧ 8 + (maxL + 11) + L ≤ R.locals)
    (hK : va_K Dg vwCl [(cI, .int)] s) (hN : z_N s) (hP : va_P Dg vwCl ws H) (hD : va_D A0 ws) (hS : va_S A0 H0 H locs) (hC : is.map (fun i => ws[i]?) = w.map some) (hnd : va_nd is = true) (ha : w'.map Prod.fst = w.map Prod.fst) (he : w[0]? = some (b, .inr (ci, fs))) (hc : vwCl[ci]? = some vq) (hCl : vq.1 = C) (hn : As.length = n) (hsize : ls.size = nL) (hst : st0 = As.reverse ++ .ref b :: rest) (hW : (rest.map fun v => v.category).sum ≤ 8)
    (hdg : decode cc pc = .ok (.invokevirtual index, 3)) (hf : cells ≤ R.cells ∧ slots ≤ R.slots)
    (kk : ∀ (H1 : Heap) (locs1 : List Loc), va_P Dg vwCl (z_re ws is w') H1 → va_D A0 (z_re ws is w') → va_S A0 H0 H1 locs1 → W p l e R s m args below meth c H1 locs1 cells slots Q (F0 m (pc + 3) ls (.int v :: rest))) : W p l e R s m args below meth c H locs cells slots Q (F0 m pc ls st0) :=
  z_wV (rest := rest) is ⟨hx, hb, hml, hown, hts⟩ hM (cwV n hts hT hw rfl rfl hd hR) hK hN hP hD hS hC hnd ha he hc hCl hn hsize hst hW hdg hf kk
theorem z_wAi {v : Int32} (rest : List Value) (hx : p.tables.exec = Jvm.exec) (hb : c.code = cc) (hml : c.maxLocals = nL) (hown : s.vm.findClass own = some m.cls) (hts : ∀ w ∈ Ts, w.before args s = true) (hM : z_Mw l y wsy f L (.ref b :: As) Dg cI ws (some (.int v)) w') (hT : GoodIn Ts (wsV own index C y wsy)) (hw : wsy = Cond.code y bytes maxL ret :: wsy') (hd : y.cls = C ∧ y.cls ≠ "java/lang/invoke/MethodHandle" ∧ y.cls ≠ "java/lang/invoke/VarHandle" ∧ (parseMethodDescriptor y.desc).map (fun d => d.parameters.length) = some n) (hR : f + 1 ≤ R.frames ∧ 8 + (maxL + 11) + L ≤ R.locals)
    (hK : va_K Dg vwCl [(cI, .int)] s) (hN : z_N s) (hP : va_P Dg vwCl ws H) (hD : va_D A0 ws) (hS : va_S A0 H0 H locs) (ha : w'.map Prod.fst = ws.map Prod.fst) (he : ws[0]? = some (b, .inr (ci, fs))) (hc : vwCl[ci]? = some vq) (hCl : vq.1 = C) (hn : As.length = n) (hsize : ls.size = nL) (hst : st0 = As.reverse ++ .ref b :: rest) (hW : (rest.map fun v => v.category).sum ≤ 8)
    (hdg : decode cc pc = .ok (.invokevirtual index, 3)) (hf : cells ≤ R.cells ∧ slots ≤ R.slots)
    (kk : ∀ (H1 : Heap) (locs1 : List Loc), va_P Dg vwCl w' H1 → va_D A0 w' → va_S A0 H0 H1 locs1 → W p l e R s m args below meth c H1 locs1 cells slots Q (F0 m (pc + 3) ls (.int v :: rest))) : W p l e R s m args below meth c H locs cells slots Q (F0 m pc ls st0) :=
  z_kwA (va_runV (As := As) (rest := rest) ⟨hx, hb, hml, hown, hts⟩ hM (cwV n hts hT hw rfl rfl hd hR) ⟨z_Pw.blind, by rw [← hCl]; exact va_recv hK hP hc he, fun U hU hW => ⟨rfl, by rw [hU]; exact hP, z_K.warm hW ⟨hK, hN⟩, hD.weaken (fun _ _ _ _ => trivial)⟩⟩ rfl hn hsize hst (lv_room hW) hdg hf) hP hD hS ha kk
theorem z_rVl {v : Int64} (rest : List Value) (hx : p.tables.exec = Jvm.exec) (hb : c.code = cc) (hml : c.maxLocals = nL) (hown : s.vm.findClass own = some m.cls) (hts : ∀ w ∈ Ts, w.before args s = true) (hM : z_Mr l y wsy f L (.ref b :: As) Dg cI w (some (.long v))) (hT : GoodIn Ts (wsV own index C y wsy)) (hw : wsy = Cond.code y bytes maxL ret :: wsy') (hd : y.cls = C ∧ y.cls ≠ "java/lang/invoke/MethodHandle" ∧ y.cls ≠ "java/lang/invoke/VarHandle" ∧ (parseMethodDescriptor y.desc).map (fun d => d.parameters.length) = some n) (hR : f + 1 ≤ R.frames ∧ 8 + (maxL + 11) + L ≤ R.locals)
    (hK : va_K Dg vwCl [(cI, .int)] s) (hN : z_N s) (hP : va_P Dg vwCl w H) (he : w[0]? = some (b, .inr (ci, fs))) (hc : vwCl[ci]? = some vq) (hC : vq.1 = C) (hn : As.length = n) (hsize : ls.size = nL) (hst : st0 = As.reverse ++ .ref b :: rest) (hW : (rest.map fun v => v.category).sum ≤ 8)
    (hdg : decode cc pc = .ok (.invokevirtual index, 3)) (hf : cells ≤ R.cells ∧ slots ≤ R.slots) (kk : W p l e R s m args below meth c H locs cells slots Q (F0 m (pc + 3) ls (.long v :: rest))) : W p l e R s m args below meth c H locs cells slots Q (F0 m pc ls st0) :=
  z_rV (rest := rest) ⟨hx, hb, hml, hown, hts⟩ hM (cwV n hts hT hw rfl rfl hd hR) hK hN hP he hc hC hn hsize hst hW hdg hf kk
theorem z_rSl {v : Int64} (rest : List Value) (hx : p.tables.exec = Jvm.exec) (hb : c.code = cc) (hml : c.maxLocals = nL) (hown : s.vm.findClass own = some m.cls) (hts : ∀ w ∈ Ts, w.before args s = true) (hM : z_Mr l y wsy f L As Dg cI w (some (.long v))) (hT : GoodIn Ts (va_wsS own index y wsy)) (hw : wsy = Cond.code y bytes maxL ret :: wsy') (hd : y.cls ≠ "java/lang/invoke/MethodHandle" ∧ y.cls ≠ "java/lang/invoke/VarHandle" ∧ (parseMethodDescriptor y.desc).map (fun d => d.parameters.length) = some n) (hR : f + 1 ≤ R.frames ∧ 8 + (maxL + 11) + L ≤ R.locals)
    (hK : va_K Dg vwCl [(cI, .int)] s) (hN : z_N s) (hP : va_P Dg vwCl w H) (hn : As.length = n) (hsize : ls.size = nL) (hst : st0 = As.reverse ++ rest) (hW : (rest.map fun v => v.category).sum ≤ 8)
    (hdg : decode cc pc = .ok (.invokestatic index, 3)) (hf : cells ≤ R.cells ∧ slots ≤ R.slots) (kk : W p l e R s m args below meth c H locs cells slots Q (F0 m (pc + 3) ls (.long v :: rest))) : W p l e R s m args below meth c H locs cells slots Q (F0 m pc ls st0) :=
  z_rS (rest := rest) ⟨hx, hb, hml, hown, hts⟩ hM (va_cwS n hts hT hw rfl rfl hd hR) hK hN hP hn hsize hst hW hdg hf kk
theorem z_wVl {v : Int64} (rest : List Value) (is : List Nat) (hx : p.tables.exec = Jvm.exec) (hb : c.code = cc) (hml : c.maxLocals = nL) (hown : s.vm.findClass own = some m.cls) (hts : ∀ w ∈ Ts, w.before args s = true) (hM : z_Mw l y wsy f L (.ref b :: As) Dg cI w (some (.long v)) w') (hT : GoodIn Ts (wsV own index C y wsy)) (hw : wsy = Cond.code y bytes maxL ret :: wsy') (hd : y.cls = C ∧ y.cls ≠ "java/lang/invoke/MethodHandle" ∧ y.cls ≠ "java/lang/invoke/VarHandle" ∧ (parseMethodDescriptor y.desc).map (fun d => d.parameters.length) = some n) (hR : f + 1 ≤ R.frames ∧ 8 + (maxL + 11) + L ≤ R.locals)
    (hK : va_K Dg vwCl [(cI, .int)] s) (hN : z_N s) (hP : va_P Dg vwCl ws H) (hD : va_D A0 ws) (hS : va_S A0 H0 H locs) (hC : is.map (fun i => ws[i]?) = w.map some) (hnd : va_nd is = true) (ha : w'.map Prod.fst = w.map Prod.fst) (he : w[0]? = some (b, .inr (ci, fs))) (hc : vwCl[ci]? = some vq) (hCl : vq.1 = C) (hn : As.length = n) (hsize : ls.size = nL) (hst : st0 = As.reverse ++ .ref b :: rest) (hW : (rest.map fun v => v.category).sum ≤ 8)
    (hdg : decode cc pc = .ok (.invokevirtual index, 3)) (hf : cells ≤ R.cells ∧ slots ≤ R.slots)
    (kk : ∀ (H1 : Heap) (locs1 : List Loc), va_P Dg vwCl (z_re ws is w') H1 → va_D A0 (z_re ws is w') → va_S A0 H0 H1 locs1 → W p l e R s m args below meth c H1 locs1 cells slots Q (F0 m (pc + 3) ls (.long v :: rest))) : W p l e R s m args below meth c H locs cells slots Q (F0 m pc ls st0) :=
  z_wV (rest := rest) is ⟨hx, hb, hml, hown, hts⟩ hM (cwV n hts hT hw rfl rfl hd hR) hK hN hP hD hS hC hnd ha he hc hCl hn hsize hst hW hdg hf kk
theorem z_wAl {v : Int64} (rest : List Value) (hx : p.tables.exec = Jvm.exec) (hb : c.code = cc) (hml : c.maxLocals = nL) (hown : s.vm.findClass own = some m.cls) (hts : ∀ w ∈ Ts, w.before args s = true) (hM : z_Mw l y wsy f L (.ref b :: As) Dg cI ws (some (.long v)) w') (hT : GoodIn Ts (wsV own index C y wsy)) (hw : wsy = Cond.code y bytes maxL ret :: wsy') (hd : y.cls = C ∧ y.cls ≠ "java/lang/invoke/MethodHandle" ∧ y.cls ≠ "java/lang/invoke/VarHandle" ∧ (parseMethodDescriptor y.desc).map (fun d => d.parameters.length) = some n) (hR : f + 1 ≤ R.frames ∧ 8 + (maxL + 11) + L ≤ R.locals)
    (hK : va_K Dg vwCl [(cI, .int)] s) (hN : z_N s) (hP : va_P Dg vwCl ws H) (hD : va_D A0 ws) (hS : va_S A0 H0 H locs) (ha : w'.map Prod.fst = ws.map Prod.fst) (he : ws[0]? = some (b, .inr (ci, fs))) (hc : vwCl[ci]? = some vq) (hCl : vq.1 = C) (hn : As.length = n) (hsize : ls.size = nL) (hst : st0 = As.reverse ++ .ref b :: rest) (hW : (rest.map fun v => v.category).sum ≤ 8)
    (hdg : decode cc pc = .ok (.invokevirtual index, 3)) (hf : cells ≤ R.cells ∧ slots ≤ R.slots)
    (kk : ∀ (H1 : Heap) (locs1 : List Loc), va_P Dg vwCl w' H1 → va_D A0 w' → va_S A0 H0 H1 locs1 → W p l e R s m args below meth c H1 locs1 cells slots Q (F0 m (pc + 3) ls (.long v :: rest))) : W p l e R s m args below meth c H locs cells slots Q (F0 m pc ls st0) :=
  z_kwA (va_runV (As := As) (rest := rest) ⟨hx, hb, hml, hown, hts⟩ hM (cwV n hts hT hw rfl rfl hd hR) ⟨z_Pw.blind, by rw [← hCl]; exact va_recv hK hP hc he, fun U hU hW => ⟨rfl, by rw [hU]; exact hP, z_K.warm hW ⟨hK, hN⟩, hD.weaken (fun _ _ _ _ => trivial)⟩⟩ rfl hn hsize hst (lv_room hW) hdg hf) hP hD hS ha kk
theorem z_rVv  (rest : List Value) (hx : p.tables.exec = Jvm.exec) (hb : c.code = cc) (hml : c.maxLocals = nL) (hown : s.vm.findClass own = some m.cls) (hts : ∀ w ∈ Ts, w.before args s = true) (hM : z_Mr l y wsy f L (.ref b :: As) Dg cI w none) (hT : GoodIn Ts (wsV own index C y wsy)) (hw : wsy = Cond.code y bytes maxL ret :: wsy') (hd : y.cls = C ∧ y.cls ≠ "java/lang/invoke/MethodHandle" ∧ y.cls ≠ "java/lang/invoke/VarHandle" ∧ (parseMethodDescriptor y.desc).map (fun d => d.parameters.length) = some n) (hR : f + 1 ≤ R.frames ∧ 8 + (maxL + 11) + L ≤ R.locals)
    (hK : va_K Dg vwCl [(cI, .int)] s) (hN : z_N s) (hP : va_P Dg vwCl w H) (he : w[0]? = some (b, .inr (ci, fs))) (hc : vwCl[ci]? = some vq) (hC : vq.1 = C) (hn : As.length = n) (hsize : ls.size = nL) (hst : st0 = As.reverse ++ .ref b :: rest) (hW : (rest.map fun v => v.category).sum ≤ 8)
    (hdg : decode cc pc = .ok (.invokevirtual index, 3)) (hf : cells ≤ R.cells ∧ slots ≤ R.slots) (kk : W p l e R s m args below meth c H locs cells slots Q (F0 m (pc + 3) ls rest)) : W p l e R s m args below meth c H locs cells slots Q (F0 m pc ls st0) :=
  z_rV (rest := rest) ⟨hx, hb, hml, hown, hts⟩ hM (cwV n hts hT hw rfl rfl hd hR) hK hN hP he hc hC hn hsize hst hW hdg hf kk
theorem z_rSv  (rest : List Value) (hx : p.tables.exec = Jvm.exec) (hb : c.code = cc) (hml : c.maxLocals = nL) (hown : s.vm.findClass own = some m.cls) (hts : ∀ w ∈ Ts, w.before args s = true) (hM : z_Mr l y wsy f L As Dg cI w none) (hT : GoodIn Ts (va_wsS own index y wsy)) (hw : wsy = Cond.code y bytes maxL ret :: wsy') (hd : y.cls ≠ "java/lang/invoke/MethodHandle" ∧ y.cls ≠ "java/lang/invoke/VarHandle" ∧ (parseMethodDescriptor y.desc).map (fun d => d.parameters.length) = some n) (hR : f + 1 ≤ R.frames ∧ 8 + (maxL + 11) + L ≤ R.locals)
    (hK : va_K Dg vwCl [(cI, .int)] s) (hN : z_N s) (hP : va_P Dg vwCl w H) (hn : As.length = n) (hsize : ls.size = nL) (hst : st0 = As.reverse ++ rest) (hW : (rest.map fun v => v.category).sum ≤ 8)
    (hdg : decode cc pc = .ok (.invokestatic index, 3)) (hf : cells ≤ R.cells ∧ slots ≤ R.slots) (kk : W p l e R s m args below meth c H locs cells slots Q (F0 m (pc + 3) ls rest)) : W p l e R s m args below meth c H locs cells slots Q (F0 m pc ls st0) :=
  z_rS (rest := rest) ⟨hx, hb, hml, hown, hts⟩ hM (va_cwS n hts hT hw rfl rfl hd hR) hK hN hP hn hsize hst hW hdg hf kk
theorem z_wVv  (rest : List Value) (is : List Nat) (hx : p.tables.exec = Jvm.exec) (hb : c.code = cc) (hml : c.maxLocals = nL) (hown : s.vm.findClass own = some m.cls) (hts : ∀ w ∈ Ts, w.before args s = true) (hM : z_Mw l y wsy f L (.ref b :: As) Dg cI w none w') (hT : GoodIn Ts (wsV own index C y wsy)) (hw : wsy = Cond.code y bytes maxL ret :: wsy') (hd : y.cls = C ∧ y.cls ≠ "java/lang/invoke/MethodHandle" ∧ y.cls ≠ "java/lang/invoke/VarHandle" ∧ (parseMethodDescriptor y.desc).map (fun d => d.parameters.length) = some n) (hR : f + 1 ≤ R.frames ∧ 8 + (maxL + 11) + L ≤ R.locals)
    (hK : va_K Dg vwCl [(cI, .int)] s) (hN : z_N s) (hP : va_P Dg vwCl ws H) (hD : va_D A0 ws) (hS : va_S A0 H0 H locs) (hC : is.map (fun i => ws[i]?) = w.map some) (hnd : va_nd is = true) (ha : w'.map Prod.fst = w.map Prod.fst) (he : w[0]? = some (b, .inr (ci, fs))) (hc : vwCl[ci]? = some vq) (hCl : vq.1 = C) (hn : As.length = n) (hsize : ls.size = nL) (hst : st0 = As.reverse ++ .ref b :: rest) (hW : (rest.map fun v => v.category).sum ≤ 8)
    (hdg : decode cc pc = .ok (.invokevirtual index, 3)) (hf : cells ≤ R.cells ∧ slots ≤ R.slots)
    (kk : ∀ (H1 : Heap) (locs1 : List Loc), va_P Dg vwCl (z_re ws is w') H1 → va_D A0 (z_re ws is w') → va_S A0 H0 H1 locs1 → W p l e R s m args below meth c H1 locs1 cells slots Q (F0 m (pc + 3) ls rest)) : W p l e R s m args below meth c H locs cells slots Q (F0 m pc ls st0) :=
  z_wV (rest := rest) is ⟨hx, hb, hml, hown, hts⟩ hM (cwV n hts hT hw rfl rfl hd hR) hK hN hP hD hS hC hnd ha he hc hCl hn hsize hst hW hdg hf kk
theorem z_wAv  (rest : List Value) (hx : p.tables.exec = Jvm.exec) (hb : c.code = cc) (hml : c.maxLocals = nL) (hown : s.vm.findClass own = some m.cls) (hts : ∀ w ∈ Ts, w.before args s = true) (hM : z_Mw l y wsy f L (.ref b :: As) Dg cI ws none w') (hT : GoodIn Ts (wsV own index C y wsy)) (hw : wsy = Cond.code y bytes maxL ret :: wsy') (hd : y.cls = C ∧ y.cls ≠ "java/lang/invoke/MethodHandle" ∧ y.cls ≠ "java/lang/invoke/VarHandle" ∧ (parseMethodDescriptor y.desc).map (fun d => d.parameters.length) = some n) (hR : f + 1 ≤ R.frames ∧ 8 + (maxL + 11) + L ≤ R.locals)
    (hK : va_K Dg vwCl [(cI, .int)] s) (hN : z_N s) (hP : va_P Dg vwCl ws H) (hD : va_D A0 ws) (hS : va_S A0 H0 H locs) (ha : w'.map Prod.fst = ws.map Prod.fst) (he : ws[0]? = some (b, .inr (ci, fs))) (hc : vwCl[ci]? = some vq) (hCl : vq.1 = C) (hn : As.length = n) (hsize : ls.size = nL) (hst : st0 = As.reverse ++ .ref b :: rest) (hW : (rest.map fun v => v.category).sum ≤ 8)
    (hdg : decode cc pc = .ok (.invokevirtual index, 3)) (hf : cells ≤ R.cells ∧ slots ≤ R.slots)
    (kk : ∀ (H1 : Heap) (locs1 : List Loc), va_P Dg vwCl w' H1 → va_D A0 w' → va_S A0 H0 H1 locs1 → W p l e R s m args below meth c H1 locs1 cells slots Q (F0 m (pc + 3) ls rest)) : W p l e R s m args below meth c H locs cells slots Q (F0 m pc ls st0) :=
  z_kwA (va_runV (As := As) (rest := rest) ⟨hx, hb, hml, hown, hts⟩ hM (cwV n hts hT hw rfl rfl hd hR) ⟨z_Pw.blind, by rw [← hCl]; exact va_recv hK hP hc he, fun U hU hW => ⟨rfl, by rw [hU]; exact hP, z_K.warm hW ⟨hK, hN⟩, hD.weaken (fun _ _ _ _ => trivial)⟩⟩ rfl hn hsize hst (lv_room hW) hdg hf) hP hD hS ha kk
/-- arrays at a place that is a number -/
theorem z_iald {tys : List (ClassId × FieldType)} {a : Nat} (hx : p.tables.exec = Jvm.exec) (hb : c.code = cc) (hK : va_K Dg vwCl tys s) (hP : va_P Dg vwCl ws H) (q0 t0 : Nat) {cA : ClassId} {N k : Nat} {g : Nat → Int32} (ha : ws[q0]? = some (a, .inl (cA, N, .inl g))) (ht : tys[t0]? = some (cA, .int)) (hk : k < N) (hN : N < 2 ^ 31) (hdg : decode cc pc = .ok (.iaload, 1))
    (kk : W p l e R s m args below meth c H locs cells slots Q (F0 m (pc + 1) ls (.int (g k) :: rest))) : W p l e R s m args below meth c H locs cells slots Q (F0 m pc ls (.int (nI k) :: .ref a :: rest)) := by
  refine va_iald hx hb hK hP q0 t0 ha ht (vp_in_nI hk hN) hdg ?_
  rw [nI_clamp (by omega)]
  exact kk
theorem z_iast {tys : List (ClassId × FieldType)} {a : Nat} (hx : p.tables.exec = Jvm.exec) (hb : c.code = cc) (hK : va_K Dg vwCl tys s) (hP : va_P Dg vwCl ws H) (hD : va_D A0 ws) (hS : va_S A0 H0 H locs) (q0 t0 : Nat) {cA : ClassId} {N k : Nat} {g : Nat → Int32} {x : Int32} (ha : ws[q0]? = some (a, .inl (cA, N, .inl g))) (ht : tys[t0]? = some (cA, .int)) (hk : k < N) (hN : N < 2 ^ 31) (hdg : decode cc pc = .ok (.iastore, 1))
    (kk : ∀ (H1 : Heap) (locs1 : List Loc), va_P Dg vwCl (ws.set q0 (a, .inl (cA, N, .inl (upd g k x)))) H1 → va_D A0 (ws.set q0 (a, .inl (cA, N, .inl (upd g k x)))) → va_S A0 H0 H1 locs1 → W p l e R s m args below meth c H1 locs1 cells slots Q (F0 m (pc + 1) ls rest)) : W p l e R s m args below meth c H locs cells slots Q (F0 m pc ls (.int x :: .int (nI k) :: .ref a :: rest)) := by
  refine va_iast hx hb hK hP hD hS q0 t0 ha ht (vp_in_nI hk hN) hdg ?_
  rw [nI_clamp (by omega)]
  exact kk
/-- a computed number under another name -/
theorem z_top {x x' : Int32} (h : x = x') (k : W p l e R s m args below meth c H locs cells slots Q (F0 m pc ls (.int x' :: rest))) : W p l e R s m args below meth c H locs cells slots Q (F0 m pc ls (.int x :: rest)) := by rw [h]; exact k
theorem z_topl {x x' : Int64} (h : x = x') (k : W p l e R s m args below meth c H locs cells slots Q (F0 m pc ls (.long x' :: rest))) : W p l e R s m args below meth c H locs cells slots Q (F0 m pc ls (.long x :: rest)) := by rw [h]; exact k

end ZC
/-! arrays of numbers -/
theorem z_upN (g : Nat → Nat) (k x : Nat) : upd (fun i => nI (g i)) k (nI x) = fun i => nI (va_up g k x i) := by
  funext i
  simp only [upd, va_up]
  split <;> rfl
theorem z_upB (g : Nat → Bool) (k : Nat) (x : Bool) : upd (fun i => z_bI (g i)) k (z_bI x) = fun i => z_bI (va_up g k x i) := by
  funext i
  simp only [upd, va_up]
  split <;> rfl
