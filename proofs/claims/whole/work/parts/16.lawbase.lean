/-! THE LAW'S CALLS -/
def z_NC (U : State) : Prop := va_Nc "java/lang/IllegalStateException" "java/lang/IllegalArgumentException" U ∧ va_Nc "java/lang/IllegalArgumentException" "java/lang/IndexOutOfBoundsException" U ∧ va_Nc "java/lang/IllegalStateException" "java/lang/IndexOutOfBoundsException" U
theorem z_NC.moved {u U : State} (hvm : u.vm.Alike U.vm) (h : z_NC u) : z_NC U := ⟨h.1.moved hvm, h.2.1.moved hvm, h.2.2.moved hvm⟩
/-- what the wrappers need of the tables and of the statics -/
def z_X (Dg : va_G) (cI cL : ClassId) (U : State) (H : Heap) : Prop := z_K Dg cI U ∧ va_K Dg vwCl [(cL, .long)] U ∧ z_E U ∧ z_T U H ∧ z_NC U
theorem z_X.same {Dg : va_G} {cI cL : ClassId} {u U : State} {H : Heap} (h : u.vm = U.vm) (q : z_X Dg cI cL u H) : z_X Dg cI cL U H := ⟨z_K.same h q.1, va_K.moved (by rw [h]; exact Vm.Alike.refl U.vm) q.2.1, z_E.same h q.2.2.1, z_T.moved (by rw [h]; exact Vm.Alike.refl U.vm) q.2.2.2.1, z_NC.moved (by rw [h]; exact Vm.Alike.refl U.vm) q.2.2.2.2⟩
theorem z_X.warm {Dg : va_G} {cI cL : ClassId} {s U : State} {H : Heap} (hW : s.WarmedH U.vm) (q : z_X Dg cI cL s H) : z_X Dg cI cL U H := ⟨z_K.warm hW q.1, va_K.moved hW.alike q.2.1, z_E.warm hW q.2.2.1, z_T.moved hW.alike q.2.2.2.1, z_NC.moved hW.alike q.2.2.2.2⟩
def z_Qg (P : Option Value → va_W → Prop) (Dg : va_G) (w : va_W) : Array Value → State → Outcome → State → Prop := fun _ st oc t => (∃ (o : Option Value) (w' : va_W), oc = .returned o ∧ P o w' ∧ w'.map Prod.fst = w.map Prod.fst ∧ va_P Dg vwCl w' t.heap) ∧ va_F (z_in w) st t
abbrev z_Mg (l : Launch) (y : MethodName) (ws : List Cond) (f C S L : Nat) (As : List Value) (Dg : va_G) (cI : ClassId) (w : va_W) (P : Option Value → va_W → Prop) : Prop := Met l y ws ({ frames := f, cells := C, slots := S, locals := L }) (z_Pw As Dg cI w) (z_Qg P Dg w) C S (z_in w)
def z_PL (As : List Value) (Dg : va_G) (cI cL : ClassId) (w : va_W) : Array Value → State → Prop := va_Pc As (fun U => va_P Dg vwCl w U.heap ∧ z_X Dg cI cL U U.heap ∧ va_D (fun _ => True) w)
theorem z_PL.blind {As : List Value} {Dg : va_G} {cI cL : ClassId} {w : va_W} : FrameBlind (z_PL As Dg cI cL w) := fun _ U g mk q => ⟨q.1, q.2.1, z_X.same (U := U.calling g mk _) (H := U.heap) rfl q.2.2.1, q.2.2.2⟩
abbrev z_ML (l : Launch) (y : MethodName) (ws : List Cond) (f L : Nat) (As : List Value) (Dg : va_G) (cI cL : ClassId) (w : va_W) (P : Option Value → va_W → Prop) : Prop := Met l y ws ({ frames := f, cells := 1, slots := 6, locals := L }) (z_PL As Dg cI cL w) (z_Qg P Dg w) 1 6 (z_in w)
abbrev z_oW (cI cL : ClassId) (h : Nat) (na ta : Nat → Nat) (ob : Nat) (G : z_GG) (D : z_DD) (G1 : z_GG) (D1 : z_DD) (o : Nat → Int64) : va_W := z_cW cI h na ta G D G1 D1 ++ [(ob, .inl (cL, 1, .inr (.inl o)))]
def z_PW (code : Int32) (val : Int64) (cI cL : ClassId) (h : Nat) (na ta : Nat → Nat) (ob : Nat) (G : z_GG) (D : z_DD) : Option Value → va_W → Prop := fun v w => v = some (.int code) ∧ ∃ (G1 : z_GG) (D1 : z_DD) (o : Nat → Int64), w = z_oW cI cL h na ta ob G D G1 D1 o ∧ (code = 0 → o 0 = val)
theorem z_sL {l : Launch} {y : MethodName} {ws ws' : List Cond} {f L : Nat} {As : List Value} {Dg : va_G} {cI cL : ClassId} {w : va_W} {Qc : Array Value → State → Outcome → State → Prop} {cc : ByteArray} {maxL : Nat} {ret : Option FieldType} {hh : List (Nat × Nat × Nat × Nat)} {l0 : List (Nat × Value)} {own : String}
    (hw : ws = Cond.codeWith y cc maxL ret hh :: ws') (hl0 : lv_args 0 As = l0) (hy : plainName y.cls = true) (hn : (lg_sl As).length ≤ maxL) (ho : y.cls = own)
    (body : ∀ (p : Program) (e : Env) (s : State) (m : MethodId) (below : List Frame) (meth : Method) (c : Code), p.tables.exec = Jvm.exec → c.code = cc → meth.sig.returnType = ret → c.maxLocals = maxL → (∀ w ∈ ws, w.before As.toArray s = true) → s.vm.findClass own = some m.cls → meth.locks = false → c.exceptionTable.toList = tableOf hh → va_P Dg vwCl w s.heap → z_X Dg cI cL s s.heap → va_D (z_in w) w → va_S (z_in w) s.heap s.heap [] → ∀ ls : Array Slot, lv_has ls maxL l0 → W p l e ({ frames := f, cells := 1, slots := 6, locals := L }) s m As.toArray below meth c s.heap [] 0 0 (MQ below Qc As.toArray s 1 6 (z_in w)) (F0 m 0 ls [])) :
    Met l y ws ({ frames := f, cells := 1, slots := 6, locals := L }) (z_PL As Dg cI cL w) Qc 1 6 (z_in w) := by
  refine va_MetW (cc := cc) (maxL := maxL) (ret := ret) (hh := hh) hy hw ?_
  intro p e s m args below meth c s₁ B hml hv
  obtain ⟨rfl, hP, hX, hD⟩ := hv
  rw [lg_entry_eq]
  have hl := lv_entry As (n := maxL) hn
  rw [hl0] at hl
  have hts := atoms_spec (ws := ws) B.pre
  exact body p e s m below meth c B.exec B.bytes B.returns hml hts (ho ▸ findClass_of_methodNamed B.named) B.notSynchronized (vx_table (x := y) B (hts _ (by rw [hw]; exact List.mem_cons_self))) hP hX (hD.weaken (fun k q h _ => ⟨k, q.2, h⟩)) va_S.rf _ hl
section ZLW
variable {p : Program} {l : Launch} {e : Env} {R : Room} {s : State} {m : MethodId} {args : Array Value} {below : List Frame} {meth : Method} {c : Code} {H : Heap} {locs : List Loc} {cells slots mc ms : Nat} {Q : State → Prop} {pc : Nat} {ls : Array Slot} {rest st0 : List Value} {cc : ByteArray} {y : MethodName} {bytes : ByteArray} {maxL nL n index f L : Nat} {ret : Option FieldType} {wsy wsy' Ts : List Cond} {own : String} {As : List Value} {Dg : va_G} {cI cL : ClassId} {w w' : va_W} {A0 : Nat → Prop} {H0 : Heap} {h : Nat} {na ta : Nat → Nat} {G G1 G2 : z_GG} {D D1 D2 : z_DD} {P : Option Value → va_W → Prop}
theorem z_eL {v : Int32} (hP1 : P (some (.int v)) w') (ha : w'.map Prod.fst = w.map Prod.fst) (hP : va_P Dg vwCl w' H) (hS : va_S (z_in w) s.heap H locs) (hcs : cells ≤ mc ∧ slots ≤ ms) (hx : p.tables.exec = Jvm.exec) (hb : c.code = cc) (hr : meth.sig.returnType = some .int) (hlk : meth.locks = false) (hdg : decode cc pc = .ok (.ireturn, 1)) : W p l e R s m args below meth c H locs cells slots (MQ below (z_Qg P Dg w) args s mc ms (z_in w)) (F0 m pc ls [.int v]) :=
  W.widen hcs.1 hcs.2 (W.iret hx hb hr (fun t ht _ => ⟨⟨_, w', rfl, hP1, ha, by rw [ht]; exact hP⟩, hS.F ht⟩) hS.2.2 hdg hlk)
theorem z_eLl {v : Int64} (hP1 : P (some (.long v)) w') (ha : w'.map Prod.fst = w.map Prod.fst) (hP : va_P Dg vwCl w' H) (hS : va_S (z_in w) s.heap H locs) (hcs : cells ≤ mc ∧ slots ≤ ms) (hx : p.tables.exec = Jvm.exec) (hb : c.code = cc) (hr : meth.sig.returnType = some .long) (hlk : meth.locks = false) (hdg : decode cc pc = .ok (.lreturn, 1)) : W p l e R s m args below meth c H locs cells slots (MQ below (z_Qg P Dg w) args s mc ms (z_in w)) (F0 m pc ls [.long v]) :=
  W.widen hcs.1 hcs.2 (W.lret hx hb hr (fun t ht _ => ⟨⟨_, w', rfl, hP1, ha, by rw [ht]; exact hP⟩, hS.F ht⟩) hS.2.2 hdg hlk)
theorem z_kg {a : Array Value} {Qc : Array Value → State → Outcome → State → Prop} {pre post : va_W} (hr : va_Run p l e R s m args below meth c H locs cells slots mc ms (F0 m pc ls st0) rest (Qc a) (z_in w)) (hq : ∀ st oc t, Qc a st oc t → z_Qg P Dg w a st oc t) (hP : va_P Dg vwCl (pre ++ (w ++ post)) H) (hD : va_D A0 (pre ++ (w ++ post))) (hS : va_S A0 H0 H locs)
    (kk : ∀ (o : Option Value) (w' : va_W) (H1 : Heap) (locs1 : List Loc), P o w' → va_P Dg vwCl (pre ++ (w' ++ post)) H1 → va_D A0 (pre ++ (w' ++ post)) → va_S A0 H0 H1 locs1 → W p l e R s m args below meth c H1 locs1 (cells + mc) (slots + ms) Q (F0 m (pc + 3) ls (o.toList ++ rest))) : W p l e R s m args below meth c H locs cells slots Q (F0 m pc ls st0) := by
  intro T hT X
  obtain ⟨v, st₀, t, T', L, h0, X', hL, e1, e2, hv, st⟩ := hr T hT X
  obtain ⟨⟨o, w', hv, hPo, ha, hP1⟩, hz, hk⟩ := hq _ _ _ hv
  cases hv
  rw [h0] at hz hk
  have hDw := z_Dl (z_Drr hD)
  have hin : ∀ q, z_in w q → A0 q := fun q ⟨k, e, h⟩ => hDw.2 k _ h
  obtain ⟨hP2, hD2⟩ := z_blk (H1 := T'.heap) hP hD ha (fun q h1 h2 => by rw [e1]; exact hk q h1 h2) (by rw [e1]; exact hP1)
  obtain ⟨t2, a1, b1⟩ := kk v w' T'.heap (locs ++ L) hPo hP2 hD2
    ⟨Nat.le_trans hS.1 (by rw [e1]; exact hz), fun q h1 h2 => by rw [e1, hk q (Nat.lt_of_lt_of_le h1 hS.1) (fun z => h2 (hin q z))]; exact hS.2.1 q h1 h2, fun q hq => by
      rcases List.mem_append.mp hq with h | h
      · exact hS.2.2 q h
      · exact hin _ (hL q h)⟩ T' rfl X'
  exact ⟨t2, st t2 a1, b1⟩
theorem z_qc {o : Option Value} {a : Array Value} : ∀ st oc t, z_Qc o Dg cI h na ta G2 D2 (z_cW cI h na ta G D G1 D1) a st oc t → z_Qg (fun v w => v = o ∧ ∃ (G9 : z_GG) (D9 : z_DD), w = z_cW cI h na ta G2 D2 G9 D9) Dg (z_cW cI h na ta G D G1 D1) a st oc t := fun _ _ _ q => ⟨⟨o, _, q.1, ⟨rfl, q.2.1.choose, q.2.1.choose_spec.choose, rfl⟩, rfl, q.2.1.choose_spec.choose_spec⟩, q.2.2⟩
theorem z_PW.of {code : Int32} {val : Int64} {ob : Nat} {o : Nat → Int64} (hv : code = 0 → o 0 = val) : z_PW code val cI cL h na ta ob G D (some (.int code)) (z_oW cI cL h na ta ob G D G1 D1 o) := ⟨rfl, G1, D1, o, rfl, hv⟩

theorem z_wCBi {v : Int32} (rest : List Value) (pre post : va_W) (hx : p.tables.exec = Jvm.exec) (hb : c.code = cc) (hml : c.maxLocals = nL) (hown : s.vm.findClass own = some m.cls) (hts : ∀ w ∈ Ts, w.before args s = true) (hM : z_Mc l y wsy f L (.ref h :: As) Dg cI h na ta G D G1 D1 (some (.int v)) G2 D2) (hT : GoodIn Ts (wsV own index RX2 y wsy)) (hw : wsy = Cond.code y bytes maxL ret :: wsy') (hd : y.cls = RX2 ∧ y.cls ≠ "java/lang/invoke/MethodHandle" ∧ y.cls ≠ "java/lang/invoke/VarHandle" ∧ (parseMethodDescriptor y.desc).map (fun d => d.parameters.length) = some n) (hR : f + 1 ≤ R.frames ∧ 8 + (maxL + 11) + L ≤ R.locals)
    (hK : va_K Dg vwCl [(cI, .int)] s) (hN : z_N s) (hP : va_P Dg vwCl (pre ++ (z_cW cI h na ta G D G1 D1 ++ post)) H) (hD : va_D A0 (pre ++ (z_cW cI h na ta G D G1 D1 ++ post))) (hS : va_S A0 H0 H locs) (hn : As.length = n) (hsize : ls.size = nL) (hst : st0 = As.reverse ++ .ref h :: rest) (hW : (rest.map fun v => v.category).sum ≤ 8)
    (hdg : decode cc pc = .ok (.invokevirtual index, 3)) (hf : cells ≤ R.cells ∧ slots ≤ R.slots)
    (kk : ∀ (G9 : z_GG) (D9 : z_DD) (H1 : Heap) (locs1 : List Loc), va_P Dg vwCl (pre ++ (z_cW cI h na ta G2 D2 G9 D9 ++ post)) H1 → va_D A0 (pre ++ (z_cW cI h na ta G2 D2 G9 D9 ++ post)) → va_S A0 H0 H1 locs1 → W p l e R s m args below meth c H1 locs1 cells slots Q (F0 m (pc + 3) ls (.int v :: rest))) : W p l e R s m args below meth c H locs cells slots Q (F0 m pc ls st0) :=
  z_kg (va_runV (As := As) (rest := rest) ⟨hx, hb, hml, hown, hts⟩ hM (cwV n hts hT hw rfl rfl hd hR) ⟨z_Pw.blind, va_recv (ci := 2) (q0 := 0) hK (z_Pm hP) rfl rfl, fun U hU hW => ⟨rfl, by rw [hU]; exact z_Pm hP, z_K.warm hW ⟨hK, hN⟩, (z_Dl (z_Drr hD)).weaken (fun _ _ _ _ => trivial)⟩⟩ rfl hn hsize hst (lv_room hW) hdg hf) z_qc hP hD hS (fun o w' H1 locs1 hPo hP1 hD1 hS1 => by
    obtain ⟨rfl, G9, D9, rfl⟩ := hPo
    exact kk G9 D9 H1 locs1 hP1 hD1 hS1)
theorem z_wCBl {v : Int64} (rest : List Value) (pre post : va_W) (hx : p.tables.exec = Jvm.exec) (hb : c.code = cc) (hml : c.maxLocals = nL) (hown : s.vm.findClass own = some m.cls) (hts : ∀ w ∈ Ts, w.before args s = true) (hM : z_Mc l y wsy f L (.ref h :: As) Dg cI h na ta G D G1 D1 (some (.long v)) G2 D2) (hT : GoodIn Ts (wsV own index RX2 y wsy)) (hw : wsy = Cond.code y bytes maxL ret :: wsy') (hd : y.cls = RX2 ∧ y.cls ≠ "java/lang/invoke/MethodHandle" ∧ y.cls ≠ "java/lang/invoke/VarHandle" ∧ (parseMethodDescriptor y.desc).map (fun d => d.parameters.length) = some n) (hR : f + 1 ≤ R.frames ∧ 8 + (maxL + 11) + L ≤ R.locals)
    (hK : va_K Dg vwCl [(cI, .int)] s) (hN : z_N s) (hP : va_P Dg vwCl (pre ++ (z_cW cI h na ta G D G1 D1 ++ post)) H) (hD : va_D A0 (pre ++ (z_cW cI h na ta G D G1 D1 ++ post))) (hS : va_S A0 H0 H locs) (hn : As.length = n) (hsize : ls.size = nL) (hst : st0 = As.reverse ++ .ref h :: rest) (hW : (rest.map fun v => v.category).sum ≤ 8)
    (hdg : decode cc pc = .ok (.invokevirtual index, 3)) (hf : cells ≤ R.cells ∧ slots ≤ R.slots)
    (kk : ∀ (G9 : z_GG) (D9 : z_DD) (H1 : Heap) (locs1 : List Loc), va_P Dg vwCl (pre ++ (z_cW cI h na ta G2 D2 G9 D9 ++ post)) H1 → va_D A0 (pre ++ (z_cW cI h na ta G2 D2 G9 D9 ++ post)) → va_S A0 H0 H1 locs1 → W p l e R s m args below meth c H1 locs1 cells slots Q (F0 m (pc + 3) ls (.long v :: rest))) : W p l e R s m args below meth c H locs cells slots Q (F0 m pc ls st0) :=
  z_kg (va_runV (As := As) (rest := rest) ⟨hx, hb, hml, hown, hts⟩ hM (cwV n hts hT hw rfl rfl hd hR) ⟨z_Pw.blind, va_recv (ci := 2) (q0 := 0) hK (z_Pm hP) rfl rfl, fun U hU hW => ⟨rfl, by rw [hU]; exact z_Pm hP, z_K.warm hW ⟨hK, hN⟩, (z_Dl (z_Drr hD)).weaken (fun _ _ _ _ => trivial)⟩⟩ rfl hn hsize hst (lv_room hW) hdg hf) z_qc hP hD hS (fun o w' H1 locs1 hPo hP1 hD1 hS1 => by
    obtain ⟨rfl, G9, D9, rfl⟩ := hPo
    exact kk G9 D9 H1 locs1 hP1 hD1 hS1)
/-- the face's call throws E; what the wrapper has behind it -/
theorem z_cL {E : String} {o : Nat → Int64} {ob : Nat} (rest : List Value) (hst : l.stackTraces = false) (hx : p.tables.exec = Jvm.exec) (hb : c.code = cc) (hml : c.maxLocals = nL) (hown : s.vm.findClass own = some m.cls) (hts : ∀ w ∈ Ts, w.before args s = true) (hM : z_Mx l y wsy f L (.ref h :: As) Dg cI (z_cW cI h na ta G D G1 D1) E) (hT : GoodIn Ts (wsV own index RX2 y wsy)) (hw : wsy = Cond.code y bytes maxL ret :: wsy') (hd : y.cls = RX2 ∧ y.cls ≠ "java/lang/invoke/MethodHandle" ∧ y.cls ≠ "java/lang/invoke/VarHandle" ∧ (parseMethodDescriptor y.desc).map (fun d => d.parameters.length) = some n) (hR : f + 1 ≤ R.frames ∧ 8 + (maxL + 11) + L ≤ R.locals)
    (hX : z_X Dg cI cL s s.heap) (hP : va_P Dg vwCl (z_oW cI cL h na ta ob G D G1 D1 o) s.heap) (hn : As.length = n) (hsize : ls.size = nL) (hst0 : st0 = As.reverse ++ .ref h :: rest) (hW : (rest.map fun v => v.category).sum ≤ 8) (hdg : decode cc pc = .ok (.invokevirtual index, 3)) (hf : 0 + 1 ≤ R.cells ∧ 0 + 6 ≤ R.slots)
    (kk : ∀ (ce : Cell) (q9 : Addr) (H1 : Heap), va_P Dg vwCl (z_oW cI cL h na ta ob G D G1 D1 o) H1 → va_S (z_in (z_oW cI cL h na ta ob G D G1 D1 o)) s.heap H1 [] → H1[q9]? = some ce → ce.vm = .none → s.vm.findClass E = some ce.cls → vx_W p l e R s m args below meth c H1 [] (0 + 1) (0 + 6) Q (F0 m pc ls rest) q9) : W p l e R s m args below meth c s.heap [] 0 0 Q (F0 m pc ls st0) :=
  z_kx (vx_runV (As := As) (rest := rest) ⟨hx, hb, hml, hown, hts⟩ hM (cwV n hts hT hw rfl rfl hd hR) ⟨z_Px.blind, va_recv (ci := 2) (q0 := 0) hX.1.1 (z_Pl hP) rfl rfl, fun U hU hW => ⟨rfl, by rw [hU]; exact z_Pl hP, z_K.warm hW hX.1, z_E.warm hW hX.2.2.1, by rw [hU]; exact hX.2.2.2.1.moved hW.alike⟩⟩ rfl hn hsize hst0 (lv_room hW) hdg hf) (fun ce q9 H1 h1 h2 hc1 hc2 hc3 => kk ce q9 H1 (fun k q hk => (hP k q hk).kept (h2 q.1 (hP k q hk).lt)) ⟨h1, fun q h3 _ => h2 q h3, fun q hq => absurd hq List.not_mem_nil⟩ hc1 hc2 hc3)
end ZLW
theorem z_WG_add {G : z_GG} (h : z_WG G) {v k : Int32} (hb : z_bc G < 6) (h1 : 0 ≤ k) (h2 : k ≤ 5) : z_WG (z_addb G v k) := ⟨h.1, fun i => by show 0 ≤ upd (z_lk G) (z_bc G) k i ∧ upd (z_lk G) (z_bc G) k i ≤ 5; unfold upd; split; exact ⟨h1, h2⟩; exact h.2.1 i, h.2.2.1, h.2.2.2.1, by show z_bc G + 1 ≤ 6; omega, h.2.2.2.2.2⟩
theorem z_WG_setsh {G : z_GG} (h : z_WG G) {t x : Nat} (hx : x < 4) : z_WG (z_setsh G t x) := ⟨h.1, h.2.1, h.2.2.1, fun i => by show va_up (z_sh G) t x i < 4; unfold va_up; split; exact hx; exact h.2.2.2.1 i, h.2.2.2.2⟩
theorem z_WG_setwm {G : z_GG} (h : z_WG G) {x : Nat} {w : Int32} (h1 : 0 ≤ w) (h2 : w ≤ 3) : z_WG (z_setwm G x w) := ⟨fun i => by show 0 ≤ upd (z_wm G) x w i ∧ upd (z_wm G) x w i ≤ 3; unfold upd; split; exact ⟨h1, h2⟩; exact h.1 i, h.2⟩
theorem z_WG_gn {G : z_GG} (h : z_WG G) {b x : Nat} (hb : b < 6) (hx : x < 4) : ∀ n, z_tc G + n ≤ 60 → z_WG (z_gn G b x n)
  | 0, _ => h
  | n + 1, hn => by
    have q := z_WG_gn h hb hx n (by omega)
    have e := z_tc_gn G b x n
    exact ⟨q.1, q.2.1, fun i => by show va_up (z_bt (z_gn G b x n)) (z_tc (z_gn G b x n)) b i < 6; unfold va_up; split; exact hb; exact q.2.2.1 i, fun i => by show va_up (z_sh (z_gn G b x n)) (z_tc (z_gn G b x n)) x i < 4; unfold va_up; split; exact hx; exact q.2.2.2.1 i, q.2.2.2.2.1, by show z_tc (z_gn G b x n) + 1 ≤ 60; omega, q.2.2.2.2.2.2⟩
theorem z_WD_dn {G : z_GG} {D : z_DD} (h : z_WD G D) {b x : Nat} : ∀ n, z_WD (z_gn G b x n) (z_dn G D b x n)
  | 0 => h
  | n + 1 => fun t ht => by
    show 1 ≤ va_up (z_pl (z_dn G D b x n)) (z_tc (z_gn G b x n)) 1 t ∧ va_up (z_pl (z_dn G D b x n)) (z_tc (z_gn G b x n)) 1 t ≤ 3
    have ht : t < z_tc (z_gn G b x n) + 1 := ht
    unfold va_up
    split
    · exact ⟨by decide, by decide⟩
    · exact z_WD_dn h n t (by omega)
