/-! SIM: the law's own cellar; rows on rows of rows; contracts over it -/
def q_AA (U : State) (cI cR : ClassId) : Prop := (∃ (kA kI : Class), U.vm.classes[cR]? = some kA ∧ kA.kind = .array cI (.array .int) ∧ U.vm.classes[cI]? = some kI) ∧ (Cond.arrayOver (.array .int)).before #[] U = true ∧ va_Nw (.methodLinkNest RL 68 yX3_init RL) U
theorem q_AA.a {u U : State} {cI cR : ClassId} (hvm : u.vm.Alike U.vm) (h : ∃ (kA kI : Class), u.vm.classes[cR]? = some kA ∧ kA.kind = .array cI (.array .int) ∧ u.vm.classes[cI]? = some kI) : ∃ (kA kI : Class), U.vm.classes[cR]? = some kA ∧ kA.kind = .array cI (.array .int) ∧ U.vm.classes[cI]? = some kI := by
  obtain ⟨kA, kI, h1, h2, h3⟩ := h
  obtain ⟨k', hk', he⟩ := hvm.2.2 _ _ h1
  obtain ⟨k2, hk2, -⟩ := hvm.2.2 _ _ h3
  exact ⟨k', k2, hk', by rw [he]; exact h2, hk2⟩
theorem q_AA.same {u U : State} {cI cR : ClassId} (h : u.vm = U.vm) (q : q_AA u cI cR) : q_AA U cI cR := ⟨q_AA.a (by rw [h]; exact Vm.Alike.refl U.vm) q.1, over_moved (by rw [h]; exact Vm.Alike.refl U.vm) q.2.1, q.2.2.same rfl h⟩
theorem q_AA.warm {s U : State} {cI cR : ClassId} (hW : s.WarmedH U.vm) (q : q_AA s cI cR) : q_AA U cI cR := ⟨q_AA.a hW.alike q.1, over_moved hW.alike q.2.1, va_Nw.warmM hW q.2.2⟩
abbrev q_ty (cI cR cZ : ClassId) : List (ClassId × FieldType) := [(cI, .int), (cR, .array .int), (cZ, .boolean)]
def q_K (Dg : va_G) (cI cR cZ : ClassId) (U : State) : Prop := va_K Dg vwCl (q_ty cI cR cZ) U ∧ z_N U ∧ q_AA U cI cR
theorem q_K.same {Dg : va_G} {cI cR cZ : ClassId} {u U : State} (h : u.vm = U.vm) (hZ : q_K Dg cI cR cZ u) : q_K Dg cI cR cZ U := ⟨va_K.moved (by rw [h]; exact Vm.Alike.refl U.vm) hZ.1, hZ.2.1.same h, hZ.2.2.same h⟩
theorem q_K.warm {Dg : va_G} {cI cR cZ : ClassId} {s U : State} (hW : s.WarmedH U.vm) (hZ : q_K Dg cI cR cZ s) : q_K Dg cI cR cZ U := ⟨va_K.moved hW.alike hZ.1, hZ.2.1.warm hW, hZ.2.2.warm hW⟩
theorem q_K.z {Dg : va_G} {cI cR cZ : ClassId} {U : State} (h : q_K Dg cI cR cZ U) : z_K Dg cI U := ⟨h.1.sub [0] rfl, h.2.1⟩
theorem q_KI {Dg : va_G} {cI cR cZ : ClassId} {U : State} (h : va_K Dg vwCl (q_ty cI cR cZ) U) : va_K Dg vwCl [(cI, .int)] U := h.sub [0] rfl
def q_Pr (As : List Value) (Dg : va_G) (cI cR cZ : ClassId) (w : va_W) : Array Value → State → Prop := va_Pc As (fun U => va_P Dg vwCl w U.heap ∧ q_K Dg cI cR cZ U)
def q_Pw (As : List Value) (Dg : va_G) (cI cR cZ : ClassId) (w : va_W) : Array Value → State → Prop := va_Pc As (fun U => va_P Dg vwCl w U.heap ∧ q_K Dg cI cR cZ U ∧ va_D (fun _ => True) w)
def q_Pd (As : List Value) (Dg : va_G) (cI cR cZ : ClassId) (w : va_W) (sz : Nat) : Array Value → State → Prop := va_Pc As (fun U => U.heap.size = sz ∧ va_P Dg vwCl w U.heap ∧ q_K Dg cI cR cZ U ∧ va_D (fun _ => True) w)
theorem q_Pr.blind {As : List Value} {Dg : va_G} {cI cR cZ : ClassId} {w : va_W} : FrameBlind (q_Pr As Dg cI cR cZ w) := fun _ U g mk q => ⟨q.1, q.2.1, q_K.same (U := U.calling g mk _) rfl q.2.2⟩
theorem q_Pw.blind {As : List Value} {Dg : va_G} {cI cR cZ : ClassId} {w : va_W} : FrameBlind (q_Pw As Dg cI cR cZ w) := fun _ U g mk q => ⟨q.1, q.2.1, q_K.same (U := U.calling g mk _) rfl q.2.2.1, q.2.2.2⟩
theorem q_Pd.blind {As : List Value} {Dg : va_G} {cI cR cZ : ClassId} {w : va_W} {sz : Nat} : FrameBlind (q_Pd As Dg cI cR cZ w sz) := fun _ U g mk q => ⟨q.1, q.2.1, q.2.2.1, q_K.same (U := U.calling g mk _) rfl q.2.2.2.1, q.2.2.2.2⟩
abbrev q_Mr (l : Launch) (y : MethodName) (ws : List Cond) (f L : Nat) (As : List Value) (Dg : va_G) (cI cR cZ : ClassId) (w : va_W) (o : Option Value) : Prop := Met l y ws ({ frames := f, cells := 0, slots := 0, locals := L }) (q_Pr As Dg cI cR cZ w) (z_Qr o) 0 0 z_no
abbrev q_Mw (l : Launch) (y : MethodName) (ws : List Cond) (f L : Nat) (As : List Value) (Dg : va_G) (cI cR cZ : ClassId) (w : va_W) (o : Option Value) (w' : va_W) : Prop := Met l y ws ({ frames := f, cells := 0, slots := 0, locals := L }) (q_Pw As Dg cI cR cZ w) (z_Qw o Dg w w') 0 0 (z_in w)
abbrev q_Md (l : Launch) (y : MethodName) (ws : List Cond) (f C S L : Nat) (As : List Value) (Dg : va_G) (cI cR cZ : ClassId) (w : va_W) (sz : Nat) (P : Option Value → va_W → Prop) : Prop := Met l y ws ({ frames := f, cells := C, slots := S, locals := L }) (q_Pd As Dg cI cR cZ w sz) (z_Qd P Dg w sz) C S (va_A w sz)
theorem q_sr {l : Launch} {y : MethodName} {ws ws' : List Cond} {f L : Nat} {As : List Value} {Dg : va_G} {cI cR cZ : ClassId} {w : va_W} {Qc : Array Value → State → Outcome → State → Prop} {cc : ByteArray} {maxL : Nat} {ret : Option FieldType} {l0 : List (Nat × Value)} {own : String}
    (hw : ws = Cond.code y cc maxL ret :: ws') (hl0 : lv_args 0 As = l0) (hy : plainName y.cls = true) (hn : (lg_sl As).length ≤ maxL) (ho : y.cls = own)
    (body : ∀ (p : Program) (e : Env) (s : State) (m : MethodId) (below : List Frame) (meth : Method) (c : Code), p.tables.exec = Jvm.exec → c.code = cc → meth.sig.returnType = ret → c.maxLocals = maxL → (∀ w ∈ ws, w.before As.toArray s = true) → s.vm.findClass own = some m.cls → meth.locks = false → va_P Dg vwCl w s.heap → va_K Dg vwCl (q_ty cI cR cZ) s → z_N s → q_AA s cI cR → ∀ ls : Array Slot, lv_has ls maxL l0 → W p l e ({ frames := f, cells := 0, slots := 0, locals := L }) s m As.toArray below meth c s.heap [] 0 0 (MQ below Qc As.toArray s 0 0 z_no) (F0 m 0 ls [])) :
    Met l y ws ({ frames := f, cells := 0, slots := 0, locals := L }) (q_Pr As Dg cI cR cZ w) Qc 0 0 z_no := by
  refine Met.ofW (cc := cc) (maxL := maxL) (ret := ret) hy hw ?_
  intro p e s m args below meth c s₁ B hml hv
  obtain ⟨rfl, hP, hK⟩ := hv
  rw [lg_entry_eq]
  have hl := lv_entry As (n := maxL) hn
  rw [hl0] at hl
  exact body p e s m below meth c B.exec B.bytes B.returns hml (atoms_spec (ws := ws) B.pre) (ho ▸ findClass_of_methodNamed B.named) B.notSynchronized hP hK.1 hK.2.1 hK.2.2 _ hl
theorem q_sw {l : Launch} {y : MethodName} {ws ws' : List Cond} {f L : Nat} {As : List Value} {Dg : va_G} {cI cR cZ : ClassId} {w : va_W} {Qc : Array Value → State → Outcome → State → Prop} {cc : ByteArray} {maxL : Nat} {ret : Option FieldType} {l0 : List (Nat × Value)} {own : String}
    (hw : ws = Cond.code y cc maxL ret :: ws') (hl0 : lv_args 0 As = l0) (hy : plainName y.cls = true) (hn : (lg_sl As).length ≤ maxL) (ho : y.cls = own)
    (body : ∀ (p : Program) (e : Env) (s : State) (m : MethodId) (below : List Frame) (meth : Method) (c : Code), p.tables.exec = Jvm.exec → c.code = cc → meth.sig.returnType = ret → c.maxLocals = maxL → (∀ w ∈ ws, w.before As.toArray s = true) → s.vm.findClass own = some m.cls → meth.locks = false → va_P Dg vwCl w s.heap → va_K Dg vwCl (q_ty cI cR cZ) s → z_N s → q_AA s cI cR → va_D (z_in w) w → va_S (z_in w) s.heap s.heap [] → ∀ ls : Array Slot, lv_has ls maxL l0 → W p l e ({ frames := f, cells := 0, slots := 0, locals := L }) s m As.toArray below meth c s.heap [] 0 0 (MQ below Qc As.toArray s 0 0 (z_in w)) (F0 m 0 ls [])) :
    Met l y ws ({ frames := f, cells := 0, slots := 0, locals := L }) (q_Pw As Dg cI cR cZ w) Qc 0 0 (z_in w) := by
  refine Met.ofW (cc := cc) (maxL := maxL) (ret := ret) hy hw ?_
  intro p e s m args below meth c s₁ B hml hv
  obtain ⟨rfl, hP, hK, hD⟩ := hv
  rw [lg_entry_eq]
  have hl := lv_entry As (n := maxL) hn
  rw [hl0] at hl
  exact body p e s m below meth c B.exec B.bytes B.returns hml (atoms_spec (ws := ws) B.pre) (ho ▸ findClass_of_methodNamed B.named) B.notSynchronized hP hK.1 hK.2.1 hK.2.2 (hD.weaken (fun k q h _ => ⟨k, q.2, h⟩)) va_S.rf _ hl
theorem q_sd {l : Launch} {y : MethodName} {ws ws' : List Cond} {f C S L sz : Nat} {As : List Value} {Dg : va_G} {cI cR cZ : ClassId} {w : va_W} {Qc : Array Value → State → Outcome → State → Prop} {cc : ByteArray} {maxL : Nat} {ret : Option FieldType} {l0 : List (Nat × Value)} {own : String}
    (hw : ws = Cond.code y cc maxL ret :: ws') (hl0 : lv_args 0 As = l0) (hy : plainName y.cls = true) (hn : (lg_sl As).length ≤ maxL) (ho : y.cls = own)
    (body : ∀ (p : Program) (e : Env) (s : State) (m : MethodId) (below : List Frame) (meth : Method) (c : Code), p.tables.exec = Jvm.exec → c.code = cc → meth.sig.returnType = ret → c.maxLocals = maxL → (∀ w ∈ ws, w.before As.toArray s = true) → s.vm.findClass own = some m.cls → meth.locks = false  → va_P Dg vwCl w s.heap → va_K Dg vwCl (q_ty cI cR cZ) s → z_N s → q_AA s cI cR → va_D (va_A w sz) w → va_S (va_A w sz) s.heap s.heap [] → (∀ q : Nat, s.heap.size ≤ q → va_A w sz q) → ∀ ls : Array Slot, lv_has ls maxL l0 → W p l e ({ frames := f, cells := C, slots := S, locals := L }) s m As.toArray below meth c s.heap [] 0 0 (MQ below Qc As.toArray s C S (va_A w sz)) (F0 m 0 ls [])) :
    Met l y ws ({ frames := f, cells := C, slots := S, locals := L }) (q_Pd As Dg cI cR cZ w sz) Qc C S (va_A w sz) := by
  refine Met.ofW (cc := cc) (maxL := maxL) (ret := ret) hy hw ?_
  intro p e s m args below meth c s₁ B hml hv
  obtain ⟨rfl, hsz, hP, hK, hD⟩ := hv
  rw [lg_entry_eq]
  have hl := lv_entry As (n := maxL) hn
  rw [hl0] at hl
  exact body p e s m below meth c B.exec B.bytes B.returns hml (atoms_spec (ws := ws) B.pre) (ho ▸ findClass_of_methodNamed B.named) B.notSynchronized hP hK.1 hK.2.1 hK.2.2 hD.self va_S.rf (fun q h => Or.inr (hsz ▸ h)) _ hl
section ZQC
variable {p : Program} {l : Launch} {e : Env} {R : Room} {s : State} {m : MethodId} {args : Array Value} {below : List Frame} {meth : Method} {c : Code} {H : Heap} {locs : List Loc} {cells slots mc ms : Nat} {Q : State → Prop} {pc : Nat} {ls : Array Slot} {rest st0 : List Value} {cc : ByteArray} {y : MethodName} {bytes : ByteArray} {maxL nL n index f L ci sz : Nat} {ret : Option FieldType} {wsy wsy' Ts : List Cond} {own C : String} {b : Addr} {As : List Value} {Dg : va_G} {cI cR cZ : ClassId} {w w' ws : va_W} {fs : List Value} {vq : vw_C} {A0 : Nat → Prop} {H0 : Heap} {P : Option Value → va_W → Prop}
theorem q_rVi {v : Int32} (rest : List Value) (hx : p.tables.exec = Jvm.exec) (hb : c.code = cc) (hml : c.maxLocals = nL) (hown : s.vm.findClass own = some m.cls) (hts : ∀ w ∈ Ts, w.before args s = true) (hM : q_Mr l y wsy f L (.ref b :: As) Dg cI cR cZ w (some (.int v))) (hT : GoodIn Ts (wsV own index C y wsy)) (hw : wsy = Cond.code y bytes maxL ret :: wsy') (hd : y.cls = C ∧ y.cls ≠ "java/lang/invoke/MethodHandle" ∧ y.cls ≠ "java/lang/invoke/VarHandle" ∧ (parseMethodDescriptor y.desc).map (fun d => d.parameters.length) = some n) (hR : f + 1 ≤ R.frames ∧ 8 + (maxL + 11) + L ≤ R.locals)
    (hK : va_K Dg vwCl (q_ty cI cR cZ) s) (hN : z_N s) (hJ : q_AA s cI cR) (hP : va_P Dg vwCl w H) (he : w[0]? = some (b, .inr (ci, fs))) (hc : vwCl[ci]? = some vq) (hC : vq.1 = C) (hst : st0 = As.reverse ++ .ref b :: rest) (hn : As.length = n) (hsize : ls.size = nL) (hW : (rest.map fun v => v.category).sum ≤ 8)
    (hdg : decode cc pc = .ok (.invokevirtual index, 3)) (hf : cells ≤ R.cells ∧ slots ≤ R.slots) (kk : W p l e R s m args below meth c H locs cells slots Q (F0 m (pc + 3) ls (.int v :: rest))) : W p l e R s m args below meth c H locs cells slots Q (F0 m pc ls st0) :=
  z_kr (va_runV (As := As) (rest := rest) ⟨hx, hb, hml, hown, hts⟩ hM (cwV n hts hT hw rfl rfl hd hR) ⟨q_Pr.blind, by rw [← hC]; exact va_recv hK hP hc he, fun U hU hW => ⟨rfl, by rw [hU]; exact hP, q_K.warm hW ⟨hK, hN, hJ⟩⟩⟩ rfl hn hsize hst (lv_room hW) hdg hf) kk
theorem q_rSi {v : Int32} (rest : List Value) (hx : p.tables.exec = Jvm.exec) (hb : c.code = cc) (hml : c.maxLocals = nL) (hown : s.vm.findClass own = some m.cls) (hts : ∀ w ∈ Ts, w.before args s = true) (hM : q_Mr l y wsy f L As Dg cI cR cZ w (some (.int v))) (hT : GoodIn Ts (va_wsS own index y wsy)) (hw : wsy = Cond.code y bytes maxL ret :: wsy') (hd : y.cls ≠ "java/lang/invoke/MethodHandle" ∧ y.cls ≠ "java/lang/invoke/VarHandle" ∧ (parseMethodDescriptor y.desc).map (fun d => d.parameters.length) = some n) (hR : f + 1 ≤ R.frames ∧ 8 + (maxL + 11) + L ≤ R.locals)
    (hK : va_K Dg vwCl (q_ty cI cR cZ) s) (hN : z_N s) (hJ : q_AA s cI cR) (hP : va_P Dg vwCl w H) (hst : st0 = As.reverse ++ rest) (hn : As.length = n) (hsize : ls.size = nL) (hW : (rest.map fun v => v.category).sum ≤ 8)
    (hdg : decode cc pc = .ok (.invokestatic index, 3)) (hf : cells ≤ R.cells ∧ slots ≤ R.slots) (kk : W p l e R s m args below meth c H locs cells slots Q (F0 m (pc + 3) ls (.int v :: rest))) : W p l e R s m args below meth c H locs cells slots Q (F0 m pc ls st0) :=
  z_kr (va_runS (As := As) (rest := rest) ⟨hx, hb, hml, hown, hts⟩ hM (va_cwS n hts hT hw rfl rfl hd hR) ⟨q_Pr.blind, fun U hU hW => ⟨rfl, by rw [hU]; exact hP, q_K.warm hW ⟨hK, hN, hJ⟩⟩⟩ rfl hn hsize hst (lv_room hW) hdg hf) kk
theorem q_wVi {v : Int32} (pre post : va_W) (rest : List Value) (hx : p.tables.exec = Jvm.exec) (hb : c.code = cc) (hml : c.maxLocals = nL) (hown : s.vm.findClass own = some m.cls) (hts : ∀ w ∈ Ts, w.before args s = true) (hM : q_Mw l y wsy f L (.ref b :: As) Dg cI cR cZ w (some (.int v)) w') (hT : GoodIn Ts (wsV own index C y wsy)) (hw : wsy = Cond.code y bytes maxL ret :: wsy') (hd : y.cls = C ∧ y.cls ≠ "java/lang/invoke/MethodHandle" ∧ y.cls ≠ "java/lang/invoke/VarHandle" ∧ (parseMethodDescriptor y.desc).map (fun d => d.parameters.length) = some n) (hR : f + 1 ≤ R.frames ∧ 8 + (maxL + 11) + L ≤ R.locals)
    (hK : va_K Dg vwCl (q_ty cI cR cZ) s) (hN : z_N s) (hJ : q_AA s cI cR) (hP : va_P Dg vwCl (pre ++ (w ++ post)) H) (hD : va_D A0 (pre ++ (w ++ post))) (hS : va_S A0 H0 H locs) (ha : w'.map Prod.fst = w.map Prod.fst) (he : w[0]? = some (b, .inr (ci, fs))) (hc : vwCl[ci]? = some vq) (hCl : vq.1 = C) (hst : st0 = As.reverse ++ .ref b :: rest) (hn : As.length = n) (hsize : ls.size = nL) (hW : (rest.map fun v => v.category).sum ≤ 8)
    (hdg : decode cc pc = .ok (.invokevirtual index, 3)) (hf : cells ≤ R.cells ∧ slots ≤ R.slots)
    (kk : ∀ (H1 : Heap) (locs1 : List Loc), va_P Dg vwCl (pre ++ (w' ++ post)) H1 → va_D A0 (pre ++ (w' ++ post)) → va_S A0 H0 H1 locs1 → W p l e R s m args below meth c H1 locs1 cells slots Q (F0 m (pc + 3) ls (.int v :: rest))) : W p l e R s m args below meth c H locs cells slots Q (F0 m pc ls st0) :=
  z_kwB (va_runV (As := As) (rest := rest) ⟨hx, hb, hml, hown, hts⟩ hM (cwV n hts hT hw rfl rfl hd hR) ⟨q_Pw.blind, by rw [← hCl]; exact va_recv hK (z_Pm hP) hc he, fun U hU hW => ⟨rfl, by rw [hU]; exact z_Pm hP, q_K.warm hW ⟨hK, hN, hJ⟩, (z_Dl (z_Drr hD)).weaken (fun _ _ _ _ => trivial)⟩⟩ rfl hn hsize hst (lv_room hW) hdg hf) hP hD hS ha kk
theorem q_rVv (rest : List Value) (hx : p.tables.exec = Jvm.exec) (hb : c.code = cc) (hml : c.maxLocals = nL) (hown : s.vm.findClass own = some m.cls) (hts : ∀ w ∈ Ts, w.before args s = true) (hM : q_Mr l y wsy f L (.ref b :: As) Dg cI cR cZ w none) (hT : GoodIn Ts (wsV own index C y wsy)) (hw : wsy = Cond.code y bytes maxL ret :: wsy') (hd : y.cls = C ∧ y.cls ≠ "java/lang/invoke/MethodHandle" ∧ y.cls ≠ "java/lang/invoke/VarHandle" ∧ (parseMethodDescriptor y.desc).map (fun d => d.parameters.length) = some n) (hR : f + 1 ≤ R.frames ∧ 8 + (maxL + 11) + L ≤ R.locals)
    (hK : va_K Dg vwCl (q_ty cI cR cZ) s) (hN : z_N s) (hJ : q_AA s cI cR) (hP : va_P Dg vwCl w H) (he : w[0]? = some (b, .inr (ci, fs))) (hc : vwCl[ci]? = some vq) (hC : vq.1 = C) (hst : st0 = As.reverse ++ .ref b :: rest) (hn : As.length = n) (hsize : ls.size = nL) (hW : (rest.map fun v => v.category).sum ≤ 8)
    (hdg : decode cc pc = .ok (.invokevirtual index, 3)) (hf : cells ≤ R.cells ∧ slots ≤ R.slots) (kk : W p l e R s m args below meth c H locs cells slots Q (F0 m (pc + 3) ls (rest))) : W p l e R s m args below meth c H locs cells slots Q (F0 m pc ls st0) :=
  z_kr (va_runV (As := As) (rest := rest) ⟨hx, hb, hml, hown, hts⟩ hM (cwV n hts hT hw rfl rfl hd hR) ⟨q_Pr.blind, by rw [← hC]; exact va_recv hK hP hc he, fun U hU hW => ⟨rfl, by rw [hU]; exact hP, q_K.warm hW ⟨hK, hN, hJ⟩⟩⟩ rfl hn hsize hst (lv_room hW) hdg hf) kk
theorem q_rSv (rest : List Value) (hx : p.tables.exec = Jvm.exec) (hb : c.code = cc) (hml : c.maxLocals = nL) (hown : s.vm.findClass own = some m.cls) (hts : ∀ w ∈ Ts, w.before args s = true) (hM : q_Mr l y wsy f L As Dg cI cR cZ w none) (hT : GoodIn Ts (va_wsS own index y wsy)) (hw : wsy = Cond.code y bytes maxL ret :: wsy') (hd : y.cls ≠ "java/lang/invoke/MethodHandle" ∧ y.cls ≠ "java/lang/invoke/VarHandle" ∧ (parseMethodDescriptor y.desc).map (fun d => d.parameters.length) = some n) (hR : f + 1 ≤ R.frames ∧ 8 + (maxL + 11) + L ≤ R.locals)
    (hK : va_K Dg vwCl (q_ty cI cR cZ) s) (hN : z_N s) (hJ : q_AA s cI cR) (hP : va_P Dg vwCl w H) (hst : st0 = As.reverse ++ rest) (hn : As.length = n) (hsize : ls.size = nL) (hW : (rest.map fun v => v.category).sum ≤ 8)
    (hdg : decode cc pc = .ok (.invokestatic index, 3)) (hf : cells ≤ R.cells ∧ slots ≤ R.slots) (kk : W p l e R s m args below meth c H locs cells slots Q (F0 m (pc + 3) ls (rest))) : W p l e R s m args below meth c H locs cells slots Q (F0 m pc ls st0) :=
  z_kr (va_runS (As := As) (rest := rest) ⟨hx, hb, hml, hown, hts⟩ hM (va_cwS n hts hT hw rfl rfl hd hR) ⟨q_Pr.blind, fun U hU hW => ⟨rfl, by rw [hU]; exact hP, q_K.warm hW ⟨hK, hN, hJ⟩⟩⟩ rfl hn hsize hst (lv_room hW) hdg hf) kk
theorem q_wVv (pre post : va_W) (rest : List Value) (hx : p.tables.exec = Jvm.exec) (hb : c.code = cc) (hml : c.maxLocals = nL) (hown : s.vm.findClass own = some m.cls) (hts : ∀ w ∈ Ts, w.before args s = true) (hM : q_Mw l y wsy f L (.ref b :: As) Dg cI cR cZ w none w') (hT : GoodIn Ts (wsV own index C y wsy)) (hw : wsy = Cond.code y bytes maxL ret :: wsy') (hd : y.cls = C ∧ y.cls ≠ "java/lang/invoke/MethodHandle" ∧ y.cls ≠ "java/lang/invoke/VarHandle" ∧ (parseMethodDescriptor y.desc).map (fun d => d.parameters.length) = some n) (hR : f + 1 ≤ R.frames ∧ 8 + (maxL + 11) + L ≤ R.locals)
    (hK : va_K Dg vwCl (q_ty cI cR cZ) s) (hN : z_N s) (hJ : q_AA s cI cR) (hP : va_P Dg vwCl (pre ++ (w ++ post)) H) (hD : va_D A0 (pre ++ (w ++ post))) (hS : va_S A0 H0 H locs) (ha : w'.map Prod.fst = w.map Prod.fst) (he : w[0]? = some (b, .inr (ci, fs))) (hc : vwCl[ci]? = some vq) (hCl : vq.1 = C) (hst : st0 = As.reverse ++ .ref b :: rest) (hn : As.length = n) (hsize : ls.size = nL) (hW : (rest.map fun v => v.category).sum ≤ 8)
    (hdg : decode cc pc = .ok (.invokevirtual index, 3)) (hf : cells ≤ R.cells ∧ slots ≤ R.slots)
    (kk : ∀ (H1 : Heap) (locs1 : List Loc), va_P Dg vwCl (pre ++ (w' ++ post)) H1 → va_D A0 (pre ++ (w' ++ post)) → va_S A0 H0 H1 locs1 → W p l e R s m args below meth c H1 locs1 cells slots Q (F0 m (pc + 3) ls (rest))) : W p l e R s m args below meth c H locs cells slots Q (F0 m pc ls st0) :=
  z_kwB (va_runV (As := As) (rest := rest) ⟨hx, hb, hml, hown, hts⟩ hM (cwV n hts hT hw rfl rfl hd hR) ⟨q_Pw.blind, by rw [← hCl]; exact va_recv hK (z_Pm hP) hc he, fun U hU hW => ⟨rfl, by rw [hU]; exact z_Pm hP, q_K.warm hW ⟨hK, hN, hJ⟩, (z_Dl (z_Drr hD)).weaken (fun _ _ _ _ => trivial)⟩⟩ rfl hn hsize hst (lv_room hW) hdg hf) hP hD hS ha kk
theorem q_mS (pre post : va_W) (rest : List Value) (hx : p.tables.exec = Jvm.exec) (hb : c.code = cc) (hml : c.maxLocals = nL) (hown : s.vm.findClass own = some m.cls) (hts : ∀ w ∈ Ts, w.before args s = true) (hM : q_Md l y wsy f mc ms L As Dg cI cR cZ w H.size P) (hT : GoodIn Ts (va_wsS own index y wsy)) (hw : wsy = Cond.code y bytes maxL ret :: wsy') (hd : y.cls ≠ "java/lang/invoke/MethodHandle" ∧ y.cls ≠ "java/lang/invoke/VarHandle" ∧ (parseMethodDescriptor y.desc).map (fun d => d.parameters.length) = some n) (hR : f + 1 ≤ R.frames ∧ 8 + (maxL + 11) + L ≤ R.locals)
    (hK : va_K Dg vwCl (q_ty cI cR cZ) s) (hN : z_N s) (hJ : q_AA s cI cR) (hP : va_P Dg vwCl (pre ++ (w ++ post)) H) (hD : va_D A0 (pre ++ (w ++ post))) (hS : va_S A0 H0 H locs) (hA : ∀ q, H0.size ≤ q → A0 q) (hst : st0 = As.reverse ++ rest) (hn : As.length = n) (hsize : ls.size = nL) (hW : (rest.map fun v => v.category).sum ≤ 8) (hdg : decode cc pc = .ok (.invokestatic index, 3)) (hf : cells + mc ≤ R.cells ∧ slots + ms ≤ R.slots)
    (kk : ∀ (o : Option Value) (w' : va_W) (H1 : Heap) (locs1 : List Loc), P o w' → va_P Dg vwCl (pre ++ (w' ++ post)) H1 → va_D A0 (pre ++ (w' ++ post)) → va_S A0 H0 H1 locs1 → W p l e R s m args below meth c H1 locs1 (cells + mc) (slots + ms) Q (F0 m (pc + 3) ls (o.toList ++ rest))) : W p l e R s m args below meth c H locs cells slots Q (F0 m pc ls st0) :=
  z_kd (va_runS (As := As) (rest := rest) ⟨hx, hb, hml, hown, hts⟩ hM (va_cwS n hts hT hw rfl rfl hd hR) ⟨q_Pd.blind, fun U hU hW => ⟨rfl, by rw [hU], by rw [hU]; exact z_Pm hP, q_K.warm hW ⟨hK, hN, hJ⟩, (z_Dl (z_Drr hD)).weaken (fun _ _ _ _ => trivial)⟩⟩ rfl hn hsize hst (lv_room hW) hdg hf) hP hD hS hA kk
/-- a row of rows is read -/
theorem q_aald {a : Nat} (hx : p.tables.exec = Jvm.exec) (hb : c.code = cc) (hK : va_K Dg vwCl (q_ty cI cR cZ) s) (hP : va_P Dg vwCl ws H) (q0 : Nat) {N k v : Nat} {g : Nat → Option Nat} (ha : ws[q0]? = some (a, .inl (cR, N, .inr (.inr (.inr (.inr g)))))) (hk : k < N) (hN : N < 2 ^ 31) (hv : g k = some v) (hdg : decode cc pc = .ok (.aaload, 1))
    (kk : W p l e R s m args below meth c H locs cells slots Q (F0 m (pc + 1) ls (.ref v :: rest))) : W p l e R s m args below meth c H locs cells slots Q (F0 m pc ls (.int (nI k) :: .ref a :: rest)) := by
  have hin : vp_in (nI k) N := vp_in_nI hk hN
  have hc : (nI k).toNatClampNeg = k := nI_clamp (by omega)
  exact W.aald (v := .ref v) (ty := .array .int) hx hb (hP q0 _ ha) ((hK.2 1 _ rfl).1 N (fun j => va_rf (g j))) rfl (fun q => by cases q) (by show ¬ (nI k < 0 ∨ (arrV _ _ _).slots.size ≤ _); rw [arrV_size]; exact hin) (by show (arrV _ _ _).slots[_]? = _; rw [hc, arrV_read _ _ hk, hv]; rfl) rfl rfl hdg kk
/-- .. and written: the row that is laid in is one of the world's -/
theorem q_aast {a : Nat} (hx : p.tables.exec = Jvm.exec) (hb : c.code = cc) (hK : va_K Dg vwCl (q_ty cI cR cZ) s) (hJ : q_AA s cI cR) (hP : va_P Dg vwCl ws H) (hD : va_D A0 ws) (hS : va_S A0 H0 H locs) (q0 qk : Nat) {N k v nn : Nat} {g : Nat → Option Nat} {fv : Nat → Int32} (ha : ws[q0]? = some (a, .inl (cR, N, .inr (.inr (.inr (.inr g)))))) (hv : ws[qk]? = some (v, .inl (cI, nn, .inl fv))) (hk : k < N) (hN : N < 2 ^ 31) (hdg : decode cc pc = .ok (.aastore, 1))
    (kk : ∀ (H1 : Heap) (locs1 : List Loc), va_P Dg vwCl (ws.set q0 (a, .inl (cR, N, .inr (.inr (.inr (.inr (va_up g k (some v)))))))) H1 → va_D A0 (ws.set q0 (a, .inl (cR, N, .inr (.inr (.inr (.inr (va_up g k (some v)))))))) → va_S A0 H0 H1 locs1 → W p l e R s m args below meth c H1 locs1 cells slots Q (F0 m (pc + 1) ls rest)) : W p l e R s m args below meth c H locs cells slots Q (F0 m pc ls (.ref v :: .int (nI k) :: .ref a :: rest)) := by
  have hin : vp_in (nI k) N := vp_in_nI hk hN
  have hc : (nI k).toNatClampNeg = k := nI_clamp (by omega)
  have h0 : ¬ nI k < 0 := fun q => hin (Or.inl q)
  obtain ⟨⟨kA, kI, k1, k2, k3⟩, -, -⟩ := hJ
  refine W.aast hx hb (hP q0 _ ha) (fun q h => by cases h) (fun h => by cases h) k1 k2 rfl k3 ⟨h0, by show _ < (arrV _ _ _).slots.size; rw [arrV_size, hc]; exact hk⟩ (hP qk _ hv) (fun q h => by cases h) k3 (by show s.vm.assignableAux (255 + 1) cI cI = true; rw [Vm.assignableAux]; simp) rfl rfl hdg fun H1 e z oq => ?_
  refine kk H1 _ (hP.set hD ha ?_ oq) (hD.set ha) (hS.put z oq (hD.2 q0 _ ha))
  show H1[a]? = some (vp_cell _ _)
  rw [e]
  show some ((vp_cell cR (N, _)).setSlot _ _) = _
  rw [vp_cell_q, vp_cell_q, arrV_store, hc]
  congr 2
  funext q
  by_cases hq : q = k
  · subst hq
    simp [updV, va_up, va_rf]
  · simp [updV, va_up, hq]
/-- .. and made -/
theorem q_anew {own : String} {index : Nat} (hx : p.tables.exec = Jvm.exec) (hb : c.code = cc) (hown : s.vm.findClass own = some m.cls) (hclink : (Cond.classLink own index (FieldType.array .int).toString).before args s = true) (hJ : q_AA s cI cR) (hK : va_K Dg vwCl (q_ty cI cR cZ) s) (hP : va_P Dg vwCl ws H) (hD : va_D A0 ws) (hS : va_S A0 H0 H locs) (hA : ∀ q, H0.size ≤ q → A0 q)
    {n : Int32} {N' : Nat} (hn : n = nI N') (hs : N' ≤ 1000) (hcells : cells + 1 ≤ R.cells) (hslots : slots + N' ≤ R.slots) (hdg : decode cc pc = .ok (.anewarray index, 3))
    (kk : ∀ (q : Nat) (H1 : Heap), va_P Dg vwCl (ws ++ [(q, .inl (cR, N', .inr (.inr (.inr (.inr (fun _ => none))))))]) H1 → va_D A0 (ws ++ [(q, .inl (cR, N', .inr (.inr (.inr (.inr (fun _ => none))))))]) → va_S A0 H0 H1 locs →
      W p l e R s m args below meth c H1 locs (cells + 1) (slots + N') Q (F0 m (pc + 3) ls (.ref q :: rest))) : W p l e R s m args below meth c H locs cells slots Q (F0 m pc ls (.int n :: rest)) := by
  subst hn
  have hc : (nI N').toNatClampNeg = N' := nI_clamp (by omega)
  refine W.anewA hx hb hown hclink (over_moved (Vm.Alike.refl _) hJ.2.1) rfl hdg rfl (nI_pos (by omega)) (by rw [hc]; omega) hcells (by rw [hc]; exact hslots) fun cA kA comp f1 f2 f3 f4 => ?_
  have hcR : s.vm.findClass ("[" ++ (FieldType.array .int).toString) = some cR := (hK.2 1 _ rfl).2
  cases f1.symm.trans hcR
  rw [hc]
  generalize hH1 : H.push ({ cls := cR, slots := Array.replicate N' .null, vm := .none } : Cell) = H1
  have z1 : H1.size = H.size + 1 := by rw [← hH1, Array.size_push]
  have e1 : H1[H.size]? = some (arrV cR N' (fun _ => .null)) := by rw [← hH1, Array.getElem?_push_size, ← arrV_new]
  have o1 : ∀ q : Nat, q < H.size → H1[q]? = H[q]? := fun q hq => by rw [← hH1, Array.getElem?_push, if_neg (Nat.ne_of_lt hq)]
  have hk : ∀ (k : Nat) (x : Nat × va_E), ws[k]? = some x → H1[x.1]? = H[x.1]? := fun k x hx => o1 x.1 ((hP k x hx).lt)
  refine kk H.size H1 ((hP.kept hk).app (fun k x hx => ?_)) (hD.push hP rfl (hA _ hS.1)) ⟨Nat.le_trans hS.1 (by omega), fun x h1 h2 => (o1 x (Nat.lt_of_lt_of_le h1 hS.1)).trans (hS.2.1 x h1 h2), hS.2.2⟩
  have hz : k < 1 := (List.getElem?_eq_some_iff.mp hx).1
  rw [show k = 0 by omega] at hx
  cases hx
  show H1[H.size]? = some (vp_cell _ _)
  rw [vp_cell_q]
  exact e1
/-- a row of numbers, of flags is made -/
theorem q_newi (hx : p.tables.exec = Jvm.exec) (hb : c.code = cc) (harr : (Cond.arrayClass .int).before args s = true) (hK : va_K Dg vwCl (q_ty cI cR cZ) s) (hP : va_P Dg vwCl ws H) (hD : va_D A0 ws) (hS : va_S A0 H0 H locs) (hA : ∀ q, H0.size ≤ q → A0 q)
    {n : Int32} {N' : Nat} (hn : n = nI N') (hs : N' ≤ 1000) (hcells : cells + 1 ≤ R.cells) (hslots : slots + N' ≤ R.slots) (hdg : decode cc pc = .ok (.newarray .int, 2))
    (kk : ∀ (q : Nat) (H1 : Heap), va_P Dg vwCl (ws ++ [(q, .inl (cI, N', .inl (fun _ => 0)))]) H1 → va_D A0 (ws ++ [(q, .inl (cI, N', .inl (fun _ => 0)))]) → va_S A0 H0 H1 locs →
      W p l e R s m args below meth c H1 locs (cells + 1) (slots + N') Q (F0 m (pc + 2) ls (.ref q :: rest))) : W p l e R s m args below meth c H locs cells slots Q (F0 m pc ls (.int n :: rest)) := by
  subst hn
  refine va_newa (atype := .int) (a0 := (N', .inl (fun _ => 0))) hx hb harr rfl hK hP hD hS hA (fun _ => rfl) (nI_pos (by omega)) (nI_clamp (by omega)) (by show N' * 4 ≤ _; omega) hcells hslots hdg (fun q cA H1 hK2 hP2 hD2 hS2 => ?_)
  have e1 : s.vm.findClass _ = some cI := (hK2.2 0 (cI, .int) rfl).2
  have e2 : s.vm.findClass _ = some cA := (hK2.2 3 (cA, .int) rfl).2
  cases Option.some.inj (e2.symm.trans e1)
  exact kk q H1 hP2 hD2 hS2
theorem q_newz (hx : p.tables.exec = Jvm.exec) (hb : c.code = cc) (harr : (Cond.arrayClass .boolean).before args s = true) (hK : va_K Dg vwCl (q_ty cI cR cZ) s) (hP : va_P Dg vwCl ws H) (hD : va_D A0 ws) (hS : va_S A0 H0 H locs) (hA : ∀ q, H0.size ≤ q → A0 q)
    {n : Int32} {N' : Nat} (hn : n = nI N') (hs : N' ≤ 1000) (hcells : cells + 1 ≤ R.cells) (hslots : slots + N' ≤ R.slots) (hdg : decode cc pc = .ok (.newarray .boolean, 2))
    (kk : ∀ (q : Nat) (H1 : Heap), va_P Dg vwCl (ws ++ [(q, .inl (cZ, N', .inl (fun _ => 0)))]) H1 → va_D A0 (ws ++ [(q, .inl (cZ, N', .inl (fun _ => 0)))]) → va_S A0 H0 H1 locs →
      W p l e R s m args below meth c H1 locs (cells + 1) (slots + N') Q (F0 m (pc + 2) ls (.ref q :: rest))) : W p l e R s m args below meth c H locs cells slots Q (F0 m pc ls (.int n :: rest)) := by
  subst hn
  refine va_newa (atype := .boolean) (a0 := (N', .inl (fun _ => 0))) hx hb harr rfl hK hP hD hS hA (fun _ => rfl) (nI_pos (by omega)) (nI_clamp (by omega)) (by show N' * 1 ≤ _; omega) hcells hslots hdg (fun q cA H1 hK2 hP2 hD2 hS2 => ?_)
  have e1 : s.vm.findClass _ = some cZ := (hK2.2 2 (cZ, .boolean) rfl).2
  have e2 : s.vm.findClass _ = some cA := (hK2.2 3 (cA, .boolean) rfl).2
  cases Option.some.inj (e2.symm.trans e1)
  exact kk q H1 hP2 hD2 hS2
theorem q_zald {a : Nat} (hx : p.tables.exec = Jvm.exec) (hb : c.code = cc) (hK : va_K Dg vwCl (q_ty cI cR cZ) s) (hP : va_P Dg vwCl ws H) (q0 : Nat) {N k : Nat} {g : Nat → Int32} (ha : ws[q0]? = some (a, .inl (cZ, N, .inl g))) (hk : k < N) (hN : N < 2 ^ 31) (hdg : decode cc pc = .ok (.baload, 1))
    (kk : W p l e R s m args below meth c H locs cells slots Q (F0 m (pc + 1) ls (.int (g k) :: rest))) : W p l e R s m args below meth c H locs cells slots Q (F0 m pc ls (.int (nI k) :: .ref a :: rest)) := by
  refine va_zald hx hb hK hP q0 2 ha rfl (vp_in_nI hk hN) hdg ?_
  rw [nI_clamp (by omega)]
  exact kk
theorem q_zast {a : Nat} (hx : p.tables.exec = Jvm.exec) (hb : c.code = cc) (hK : va_K Dg vwCl (q_ty cI cR cZ) s) (hP : va_P Dg vwCl ws H) (hD : va_D A0 ws) (hS : va_S A0 H0 H locs) (q0 : Nat) {N k : Nat} {g : Nat → Int32} {x : Bool} (ha : ws[q0]? = some (a, .inl (cZ, N, .inl g))) (hk : k < N) (hN : N < 2 ^ 31) (hdg : decode cc pc = .ok (.bastore, 1))
    (kk : ∀ (H1 : Heap) (locs1 : List Loc), va_P Dg vwCl (ws.set q0 (a, .inl (cZ, N, .inl (upd g k (z_bI x))))) H1 → va_D A0 (ws.set q0 (a, .inl (cZ, N, .inl (upd g k (z_bI x))))) → va_S A0 H0 H1 locs1 → W p l e R s m args below meth c H1 locs1 cells slots Q (F0 m (pc + 1) ls rest)) : W p l e R s m args below meth c H locs cells slots Q (F0 m pc ls (.int (z_bI x) :: .int (nI k) :: .ref a :: rest)) := by
  have hh : vp_nar .boolean (z_bI x) = z_bI x := by cases x <;> rfl
  refine va_zast hx hb hK hP hD hS q0 2 ha rfl (vp_in_nI hk hN) hdg ?_
  rw [nI_clamp (by omega), hh]
  exact kk
end ZQC
def z_Qg (P : Option Value → va_W → Prop) (Dg : va_G) (w : va_W) : Array Value → State → Outcome → State → Prop := fun _ st oc t => (∃ (o : Option Value) (w' : va_W), oc = .returned o ∧ P o w' ∧ w'.map Prod.fst = w.map Prod.fst ∧ va_P Dg vwCl w' t.heap) ∧ va_F (z_in w) st t
section ZQL
variable {p : Program} {l : Launch} {e : Env} {R : Room} {s : State} {m : MethodId} {args : Array Value} {below : List Frame} {meth : Method} {c : Code} {H : Heap} {locs : List Loc} {cells slots mc ms : Nat} {Q : State → Prop} {pc : Nat} {ls : Array Slot} {rest st0 : List Value} {cc : ByteArray} {y : MethodName} {bytes : ByteArray} {maxL nL n index f L ci sz : Nat} {ret : Option FieldType} {wsy wsy' Ts : List Cond} {own C : String} {b : Addr} {As : List Value} {Dg : va_G} {cI cR cZ : ClassId} {h : Nat} {na ta : Nat → Nat} {G G1 G2 : z_GG} {D D1 D2 : z_DD} {w w' ws : va_W} {fs : List Value} {vq : vw_C} {A0 : Nat → Prop} {H0 : Heap} {P : Option Value → va_W → Prop}
theorem z_kg {a : Array Value} {Qc : Array Value → State → Outcome → State → Prop} {pre post : va_W} (hr : va_Run p l e R s m args below meth c H locs cells slots mc ms (F0 m pc ls st0) rest (Qc a) (z_in w)) (hq : ∀ st oc t, Qc a st oc t → z_Qg P Dg w a st oc t) (hP : va_P Dg vwCl (pre ++ (w ++ post)) H) (hD : va_D A0 (pre ++ (w ++ post))) (hS : va_S A0 H0 H locs)
    (kk : ∀ (o : Option Value) (w' : va_W) (H1 : Heap) (locs1 : List Loc), P o w' → va_P Dg vwCl (pre ++ (w' ++ post)) H1 → va_D A0 (pre ++ (w' ++ post)) → va_S A0 H0 H1 locs1 → W p l e R s m args below meth c H1 locs1 (cells + mc) (slots + ms) Q (F0 m (pc + 3) ls (o.toList ++ rest))) : W p l e R s m args below meth c H locs cells slots Q (F0 m pc ls st0) := by
  intro T hT X
  obtain ⟨v, st₀, t, T', L, h0, X', hL, e1, e2, hv, st⟩ := hr T hT X
  obtain ⟨⟨o, w', hv, hPo, ha, hP1⟩, hz, hk⟩ := hq _ _ _ hv
  cases hv
  rw [h0] at hz hk
  have hDw := z_Dl (z_Drr hD)
  have hin : ∀ q, z_in w q → A0 q := fun q ⟨k, e, h⟩ => hDw.2 k _ h
  obtain ⟨hP2, hD2⟩ := z_blk (H1 := T'.heap) hP hD ha (fun q h1 h2 => by rw [e1]; exact hk q h1 h2) (by rw [e1]; exact hP1)
  obtain ⟨t2, a1, b1⟩ := kk v w' T'.heap (locs ++ L) hPo hP2 hD2
    ⟨Nat.le_trans hS.1 (by rw [e1]; exact hz), fun q h1 h2 => by rw [e1, hk q (Nat.lt_of_lt_of_le h1 hS.1) (fun z => h2 (hin q z))]; exact hS.2.1 q h1 h2, fun q hq => by
      rcases List.mem_append.mp hq with h | h
      · exact hS.2.2 q h
      · exact hin _ (hL q h)⟩ T' rfl X'
  exact ⟨t2, st t2 a1, b1⟩
theorem z_qc {o : Option Value} {a : Array Value} : ∀ st oc t, z_Qc o Dg cI h na ta G2 D2 (z_cW cI h na ta G D G1 D1) a st oc t → z_Qg (fun v w => v = o ∧ ∃ (G9 : z_GG) (D9 : z_DD), w = z_cW cI h na ta G2 D2 G9 D9) Dg (z_cW cI h na ta G D G1 D1) a st oc t := fun _ _ _ q => ⟨⟨o, _, q.1, ⟨rfl, q.2.1.choose, q.2.1.choose_spec.choose, rfl⟩, rfl, q.2.1.choose_spec.choose_spec⟩, q.2.2⟩
theorem z_wCBi {v : Int32} (rest : List Value) (pre post : va_W) (hx : p.tables.exec = Jvm.exec) (hb : c.code = cc) (hml : c.maxLocals = nL) (hown : s.vm.findClass own = some m.cls) (hts : ∀ w ∈ Ts, w.before args s = true) (hM : z_Mc l y wsy f L (.ref h :: As) Dg cI h na ta G D G1 D1 (some (.int v)) G2 D2) (hT : GoodIn Ts (wsV own index RX2 y wsy)) (hw : wsy = Cond.code y bytes maxL ret :: wsy') (hd : y.cls = RX2 ∧ y.cls ≠ "java/lang/invoke/MethodHandle" ∧ y.cls ≠ "java/lang/invoke/VarHandle" ∧ (parseMethodDescriptor y.desc).map (fun d => d.parameters.length) = some n) (hR : f + 1 ≤ R.frames ∧ 8 + (maxL + 11) + L ≤ R.locals)
    (hK : va_K Dg vwCl [(cI, .int)] s) (hN : z_N s) (hP : va_P Dg vwCl (pre ++ (z_cW cI h na ta G D G1 D1 ++ post)) H) (hD : va_D A0 (pre ++ (z_cW cI h na ta G D G1 D1 ++ post))) (hS : va_S A0 H0 H locs) (hn : As.length = n) (hsize : ls.size = nL) (hst : st0 = As.reverse ++ .ref h :: rest) (hW : (rest.map fun v => v.category).sum ≤ 8)
    (hdg : decode cc pc = .ok (.invokevirtual index, 3)) (hf : cells ≤ R.cells ∧ slots ≤ R.slots)
    (kk : ∀ (G9 : z_GG) (D9 : z_DD) (H1 : Heap) (locs1 : List Loc), va_P Dg vwCl (pre ++ (z_cW cI h na ta G2 D2 G9 D9 ++ post)) H1 → va_D A0 (pre ++ (z_cW cI h na ta G2 D2 G9 D9 ++ post)) → va_S A0 H0 H1 locs1 → W p l e R s m args below meth c H1 locs1 cells slots Q (F0 m (pc + 3) ls (.int v :: rest))) : W p l e R s m args below meth c H locs cells slots Q (F0 m pc ls st0) :=
  z_kg (va_runV (As := As) (rest := rest) ⟨hx, hb, hml, hown, hts⟩ hM (cwV n hts hT hw rfl rfl hd hR) ⟨z_Pw.blind, va_recv (ci := 2) (q0 := 0) hK (z_Pm hP) rfl rfl, fun U hU hW => ⟨rfl, by rw [hU]; exact z_Pm hP, z_K.warm hW ⟨hK, hN⟩, (z_Dl (z_Drr hD)).weaken (fun _ _ _ _ => trivial)⟩⟩ rfl hn hsize hst (lv_room hW) hdg hf) z_qc hP hD hS (fun o w' H1 locs1 hPo hP1 hD1 hS1 => by
    obtain ⟨rfl, G9, D9, rfl⟩ := hPo
    exact kk G9 D9 H1 locs1 hP1 hD1 hS1)
theorem z_wCBl {v : Int64} (rest : List Value) (pre post : va_W) (hx : p.tables.exec = Jvm.exec) (hb : c.code = cc) (hml : c.maxLocals = nL) (hown : s.vm.findClass own = some m.cls) (hts : ∀ w ∈ Ts, w.before args s = true) (hM : z_Mc l y wsy f L (.ref h :: As) Dg cI h na ta G D G1 D1 (some (.long v)) G2 D2) (hT : GoodIn Ts (wsV own index RX2 y wsy)) (hw : wsy = Cond.code y bytes maxL ret :: wsy') (hd : y.cls = RX2 ∧ y.cls ≠ "java/lang/invoke/MethodHandle" ∧ y.cls ≠ "java/lang/invoke/VarHandle" ∧ (parseMethodDescriptor y.desc).map (fun d => d.parameters.length) = some n) (hR : f + 1 ≤ R.frames ∧ 8 + (maxL + 11) + L ≤ R.locals)
    (hK : va_K Dg vwCl [(cI, .int)] s) (hN : z_N s) (hP : va_P Dg vwCl (pre ++ (z_cW cI h na ta G D G1 D1 ++ post)) H) (hD : va_D A0 (pre ++ (z_cW cI h na ta G D G1 D1 ++ post))) (hS : va_S A0 H0 H locs) (hn : As.length = n) (hsize : ls.size = nL) (hst : st0 = As.reverse ++ .ref h :: rest) (hW : (rest.map fun v => v.category).sum ≤ 8)
    (hdg : decode cc pc = .ok (.invokevirtual index, 3)) (hf : cells ≤ R.cells ∧ slots ≤ R.slots)
    (kk : ∀ (G9 : z_GG) (D9 : z_DD) (H1 : Heap) (locs1 : List Loc), va_P Dg vwCl (pre ++ (z_cW cI h na ta G2 D2 G9 D9 ++ post)) H1 → va_D A0 (pre ++ (z_cW cI h na ta G2 D2 G9 D9 ++ post)) → va_S A0 H0 H1 locs1 → W p l e R s m args below meth c H1 locs1 cells slots Q (F0 m (pc + 3) ls (.long v :: rest))) : W p l e R s m args below meth c H locs cells slots Q (F0 m pc ls st0) :=
  z_kg (va_runV (As := As) (rest := rest) ⟨hx, hb, hml, hown, hts⟩ hM (cwV n hts hT hw rfl rfl hd hR) ⟨z_Pw.blind, va_recv (ci := 2) (q0 := 0) hK (z_Pm hP) rfl rfl, fun U hU hW => ⟨rfl, by rw [hU]; exact z_Pm hP, z_K.warm hW ⟨hK, hN⟩, (z_Dl (z_Drr hD)).weaken (fun _ _ _ _ => trivial)⟩⟩ rfl hn hsize hst (lv_room hW) hdg hf) z_qc hP hD hS (fun o w' H1 locs1 hPo hP1 hD1 hS1 => by
    obtain ⟨rfl, G9, D9, rfl⟩ := hPo
    exact kk G9 D9 H1 locs1 hP1 hD1 hS1)
end ZQL
theorem z_WG_add {G : z_GG} (h : z_WG G) {v k : Int32} (hb : z_bc G < 6) (h1 : 0 ≤ k) (h2 : k ≤ 5) : z_WG (z_addb G v k) := ⟨h.1, fun i => by show 0 ≤ upd (z_lk G) (z_bc G) k i ∧ upd (z_lk G) (z_bc G) k i ≤ 5; unfold upd; split; exact ⟨h1, h2⟩; exact h.2.1 i, h.2.2.1, h.2.2.2.1, by show z_bc G + 1 ≤ 6; omega, h.2.2.2.2.2⟩
theorem z_WG_setsh {G : z_GG} (h : z_WG G) {t x : Nat} (hx : x < 4) : z_WG (z_setsh G t x) := ⟨h.1, h.2.1, h.2.2.1, fun i => by show va_up (z_sh G) t x i < 4; unfold va_up; split; exact hx; exact h.2.2.2.1 i, h.2.2.2.2⟩
theorem z_WG_setwm {G : z_GG} (h : z_WG G) {x : Nat} {w : Int32} (h1 : 0 ≤ w) (h2 : w ≤ 3) : z_WG (z_setwm G x w) := ⟨fun i => by show 0 ≤ upd (z_wm G) x w i ∧ upd (z_wm G) x w i ≤ 3; unfold upd; split; exact ⟨h1, h2⟩; exact h.1 i, h.2⟩
theorem z_WG_gn {G : z_GG} (h : z_WG G) {b x : Nat} (hb : b < 6) (hx : x < 4) : ∀ n, z_tc G + n ≤ 60 → z_WG (z_gn G b x n)
  | 0, _ => h
  | n + 1, hn => by
    have q := z_WG_gn h hb hx n (by omega)
    have e := z_tc_gn G b x n
    exact ⟨q.1, q.2.1, fun i => by show va_up (z_bt (z_gn G b x n)) (z_tc (z_gn G b x n)) b i < 6; unfold va_up; split; exact hb; exact q.2.2.1 i, fun i => by show va_up (z_sh (z_gn G b x n)) (z_tc (z_gn G b x n)) x i < 4; unfold va_up; split; exact hx; exact q.2.2.2.1 i, q.2.2.2.2.1, by show z_tc (z_gn G b x n) + 1 ≤ 60; omega, q.2.2.2.2.2.2⟩
theorem z_WD_dn {G : z_GG} {D : z_DD} (h : z_WD G D) {b x : Nat} : ∀ n, z_WD (z_gn G b x n) (z_dn G D b x n)
  | 0 => h
  | n + 1 => fun t ht => by
    show 1 ≤ va_up (z_pl (z_dn G D b x n)) (z_tc (z_gn G b x n)) 1 t ∧ va_up (z_pl (z_dn G D b x n)) (z_tc (z_gn G b x n)) 1 t ≤ 3
    have ht : t < z_tc (z_gn G b x n) + 1 := ht
    unfold va_up
    split
    · exact ⟨by decide, by decide⟩
    · exact z_WD_dn h n t (by omega)

