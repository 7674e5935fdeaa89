/-! WHAT IS MADE -/
def z_G0 : z_GG := (fun _ => 0, fun _ => 0, fun _ => 0, fun _ => 0, fun _ => 0, 0, 0, 0, 0)
def z_D0 : z_DD := (fun _ => 0, fun _ => false, fun _ => 0, fun _ => 0, 0)
theorem z_WG0 : z_WG z_G0 := ⟨fun _ => (by decide : (0 : Int32) ≤ 0 ∧ (0 : Int32) ≤ 3), fun _ => (by decide : (0 : Int32) ≤ 0 ∧ (0 : Int32) ≤ 5), fun _ => (by decide : 0 < 6), fun _ => (by decide : 0 < 4), by decide, by decide, by decide, by decide⟩
theorem z_WD0 : z_WD z_G0 z_D0 := fun t h => absurd h (Nat.not_lt_zero t)
theorem z_nw0 : z_nw z_D0 = fun _ => 0 := by
  funext j
  unfold z_nw
  split
  · rfl
  · split
    · rfl
    · split
      · rfl
      · split <;> rfl
theorem z_nI0 : nI 0 = 0 := by decide
theorem z_sW0 {cI : ClassId} {a : Nat → Nat} : z_sX cI a (fun _ => 0) (fun _ => 0) (fun _ => 0) (fun _ => 0) (fun _ => 0) (fun _ => 0) (fun _ => 0) (fun _ => 0) (fun _ => 0) 0 0 0 0 0 = z_sW cI a z_G0 z_D0 := by
  show _ = z_sX cI a (fun _ => 0) (fun _ => 0) (fun _ => 0) (fun _ => 0) (fun _ => z_bI false) (fun _ => nI 0) (fun _ => nI 0) (fun _ => 0) (fun _ => nI 0) (nI 0) (nI 0) (nI 0) (nI 0) 0
  rw [z_nI0, show z_bI false = 0 from rfl]
theorem z_mW0 {cI : ClassId} {a : Nat → Nat} : z_mX cI a 0 0 0 0 0 (fun _ => 0) (fun _ => 0) (fun _ => 0) (fun _ => 0) (fun _ => 0) (fun _ => 0) (fun _ => 0) = z_mW cI a 0 z_G0 z_D0 (fun _ => 0) := by
  show _ = z_mX cI a 0 (nI 0) (nI 0) (nI 0) (nI 0) (fun _ => 0) (fun _ => 0) (fun _ => 0) (fun _ => nI 0) (fun _ => nI 0) (z_nw z_D0) (fun _ => 0)
  rw [z_nI0, z_nw0]
theorem z_cAeq {Dg : va_G} {cI cA : ClassId} {s : State} (h : va_K Dg vwCl ([(cI, .int)] ++ [(cA, .int)]) s) : cA = cI := by
  have h1 : s.vm.findClass _ = some cI := (h.2 0 (cI, .int) rfl).2
  have h2 : s.vm.findClass _ = some cA := (h.2 1 (cA, .int) rfl).2
  exact Option.some.inj (h2.symm.trans h1)
def z_Pd (As : List Value) (Dg : va_G) (cI : ClassId) (w : va_W) (sz : Nat) : Array Value → State → Prop := va_Pc As (fun U => U.heap.size = sz ∧ va_P Dg vwCl w U.heap ∧ z_K Dg cI U ∧ va_D (fun _ => True) w)
theorem z_Pd.blind {As : List Value} {Dg : va_G} {cI : ClassId} {w : va_W} {sz : Nat} : FrameBlind (z_Pd As Dg cI w sz) := fun _ U g mk q => ⟨q.1, q.2.1, q.2.2.1, z_K.same (U := U.calling g mk _) rfl q.2.2.2.1, q.2.2.2.2⟩
def z_Qd (P : Option Value → va_W → Prop) (Dg : va_G) (w : va_W) (sz : Nat) : Array Value → State → Outcome → State → Prop := fun _ st oc t => (∃ (o : Option Value) (w' : va_W), oc = .returned o ∧ P o w' ∧ va_P Dg vwCl w' t.heap ∧ va_D (va_A w sz) w') ∧ va_F (va_A w sz) st t
abbrev z_Md (l : Launch) (y : MethodName) (ws : List Cond) (f C S L : Nat) (As : List Value) (Dg : va_G) (cI : ClassId) (w : va_W) (sz : Nat) (P : Option Value → va_W → Prop) : Prop := Met l y ws ({ frames := f, cells := C, slots := S, locals := L }) (z_Pd As Dg cI w sz) (z_Qd P Dg w sz) C S (va_A w sz)
theorem z_sd' {l : Launch} {y : MethodName} {ws ws' : List Cond} {f C S L sz : Nat} {As : List Value} {Dg : va_G} {cI : ClassId} {w : va_W} {Qc : Array Value → State → Outcome → State → Prop} {cc : ByteArray} {maxL : Nat} {ret : Option FieldType} {l0 : List (Nat × Value)} {own : String}
    (hw : ws = Cond.code y cc maxL ret :: ws') (hl0 : lv_args 0 As = l0) (hy : plainName y.cls = true) (hn : (lg_sl As).length ≤ maxL) (ho : y.cls = own)
    (body : ∀ (p : Program) (e : Env) (s : State) (m : MethodId) (below : List Frame) (meth : Method) (c : Code), p.tables.exec = Jvm.exec → c.code = cc → meth.sig.returnType = ret → c.maxLocals = maxL → (∀ w ∈ ws, w.before As.toArray s = true) → s.vm.findClass own = some m.cls → meth.locks = false → meth.name = y.name → va_P Dg vwCl w s.heap → va_K Dg vwCl [(cI, .int)] s → z_N s → va_D (va_A w sz) w → va_S (va_A w sz) s.heap s.heap [] → (∀ q : Nat, s.heap.size ≤ q → va_A w sz q) → ∀ ls : Array Slot, lv_has ls maxL l0 → W p l e ({ frames := f, cells := C, slots := S, locals := L }) s m As.toArray below meth c s.heap [] 0 0 (MQ below Qc As.toArray s C S (va_A w sz)) (F0 m 0 ls [])) :
    Met l y ws ({ frames := f, cells := C, slots := S, locals := L }) (z_Pd As Dg cI w sz) Qc C S (va_A w sz) := by
  refine Met.ofW (cc := cc) (maxL := maxL) (ret := ret) hy hw ?_
  intro p e s m args below meth c s₁ B hml hv
  obtain ⟨rfl, hsz, hP, hK, hD⟩ := hv
  rw [lg_entry_eq]
  have hl := lv_entry As (n := maxL) hn
  rw [hl0] at hl
  exact body p e s m below meth c B.exec B.bytes B.returns hml (atoms_spec (ws := ws) B.pre) (ho ▸ findClass_of_methodNamed B.named) B.notSynchronized (name_of_methodNamed B.named B.method).1 hP hK.1 hK.2 hD.self va_S.rf (fun q h => Or.inr (hsz ▸ h)) _ hl
/-- a part of a world, changed and made longer by a call -/
theorem z_blkd {A0 : Nat → Prop} {Dg : va_G} {cl : List vw_C} {pre w w' post : va_W} {H H1 : Heap} (hP : va_P Dg cl (pre ++ (w ++ post)) H) (hD : va_D A0 (pre ++ (w ++ post))) (hk : ∀ q : Nat, q < H.size → ¬ va_A w H.size q → H1[q]? = H[q]?) (hP1 : va_P Dg cl w' H1) (hD1 : va_D (va_A w H.size) w') (hA : ∀ q, H.size ≤ q → A0 q) : va_P Dg cl (pre ++ (w' ++ post)) H1 ∧ va_D A0 (pre ++ (w' ++ post)) := by
  have q0 : ∀ (k : Nat) (q : Nat × va_E), pre[k]? = some q → q.1 < H.size ∧ ¬ va_A w H.size q.1 := fun k q hq => by
    have hl := (List.getElem?_eq_some_iff.mp hq).1
    have h1 : (pre ++ (w ++ post))[k]? = some q := by rw [List.getElem?_append_left hl]; exact hq
    refine ⟨(hP k q h1).lt, fun hin => ?_⟩
    rcases hin with ⟨j, e, hj⟩ | h
    · have h2 : (pre ++ (w ++ post))[pre.length + j]? = some (q.1, e) := by rw [List.getElem?_append_right (by omega), Nat.add_sub_cancel_left, List.getElem?_append_left (List.getElem?_eq_some_iff.mp hj).1]; exact hj
      have := hD.1 k _ q (q.1, e) h1 h2 rfl
      omega
    · have := (hP k q h1).lt
      omega
  have q1 : ∀ (k : Nat) (q : Nat × va_E), post[k]? = some q → q.1 < H.size ∧ ¬ va_A w H.size q.1 := fun k q hq => by
    have h1 : (pre ++ (w ++ post))[pre.length + (w.length + k)]? = some q := by rw [List.getElem?_append_right (by omega), Nat.add_sub_cancel_left, List.getElem?_append_right (by omega), Nat.add_sub_cancel_left]; exact hq
    refine ⟨(hP _ q h1).lt, fun hin => ?_⟩
    rcases hin with ⟨j, e, hj⟩ | h
    · have hl := (List.getElem?_eq_some_iff.mp hj).1
      have h2 : (pre ++ (w ++ post))[pre.length + j]? = some (q.1, e) := by rw [List.getElem?_append_right (by omega), Nat.add_sub_cancel_left, List.getElem?_append_left hl]; exact hj
      have := hD.1 _ _ q (q.1, e) h1 h2 rfl
      omega
    · have := (hP _ q h1).lt
      omega
  have hPpre := z_Pl hP
  have hPpost := z_Prr (z_Prr hP)
  have hw : ∀ q, va_A w H.size q → A0 q := fun q h => by
    rcases h with ⟨j, e, hj⟩ | h
    · exact (z_Dl (z_Drr hD)).2 j _ hj
    · exact hA q h
  refine ⟨va_P.app (fun k q hq => (hPpre k q hq).kept (hk q.1 (q0 k q hq).1 (q0 k q hq).2)) (va_P.app hP1 (fun k q hq => (hPpost k q hq).kept (hk q.1 (q1 k q hq).1 (q1 k q hq).2))), ?_⟩
  have hDw : va_D A0 w' := hD1.weaken (fun _ q _ h => hw q.1 h)
  have hDpp : ∀ (i j : Nat) (p q : Nat × va_E), pre[i]? = some p → post[j]? = some q → p.1 ≠ q.1 := fun i j p q hi hj e => by
    have h1 : (pre ++ (w ++ post))[i]? = some p := by rw [List.getElem?_append_left (List.getElem?_eq_some_iff.mp hi).1]; exact hi
    have h2 : (pre ++ (w ++ post))[pre.length + (w.length + j)]? = some q := by rw [List.getElem?_append_right (by omega), Nat.add_sub_cancel_left, List.getElem?_append_right (by omega), Nat.add_sub_cancel_left]; exact hj
    have := hD.1 _ _ p q h1 h2 e
    have := (List.getElem?_eq_some_iff.mp hi).1
    omega
  refine va_D.app (z_Dl hD) (va_D.app hDw (z_Drr (z_Drr hD)) (fun i j p q hi hj e => (q1 j q hj).2 (e ▸ hD1.2 i p hi))) (fun i j p q hi hj e => ?_)
  by_cases hlt : j < w'.length
  · rw [List.getElem?_append_left hlt] at hj
    exact (q0 i p hi).2 (e ▸ hD1.2 j q hj)
  · rw [List.getElem?_append_right (by omega)] at hj
    exact hDpp i _ p q hi hj e
section ZAL
variable {p : Program} {l : Launch} {e : Env} {R : Room} {s : State} {m : MethodId} {args : Array Value} {below : List Frame} {meth : Method} {c : Code} {H : Heap} {locs : List Loc} {cells slots mc ms : Nat} {Q : State → Prop} {pc : Nat} {ls : Array Slot} {rest st0 : List Value} {cc : ByteArray} {y : MethodName} {bytes : ByteArray} {maxL nL n index f L sz : Nat} {ret : Option FieldType} {wsy wsy' Ts : List Cond} {own host : String} {b : Addr} {As : List Value} {Dg : va_G} {cI : ClassId} {w w' : va_W} {A0 : Nat → Prop} {H0 : Heap} {P : Option Value → va_W → Prop}
theorem z_ed_v (hP1 : P none w') (hP : va_P Dg vwCl w' H) (hD : va_D (va_A w sz) w') (hS : va_S (va_A w sz) s.heap H locs) (hcs : cells ≤ mc ∧ slots ≤ ms) (hx : p.tables.exec = Jvm.exec) (hb : c.code = cc) (hr : meth.sig.returnType = none) (hlk : meth.locks = false) (hdg : decode cc pc = .ok (.return_, 1)) : W p l e R s m args below meth c H locs cells slots (MQ below (z_Qd P Dg w sz) args s mc ms (va_A w sz)) (F0 m pc ls []) :=
  W.widen hcs.1 hcs.2 (W.vret hx hb hr (fun t ht _ => ⟨⟨_, w', rfl, hP1, by rw [ht]; exact hP, hD⟩, hS.F ht⟩) hS.2.2 hdg hlk)
theorem z_ed_l {v : Int64} (hP1 : P (some (.long v)) w') (hP : va_P Dg vwCl w' H) (hD : va_D (va_A w sz) w') (hS : va_S (va_A w sz) s.heap H locs) (hcs : cells ≤ mc ∧ slots ≤ ms) (hx : p.tables.exec = Jvm.exec) (hb : c.code = cc) (hr : meth.sig.returnType = some .long) (hlk : meth.locks = false) (hdg : decode cc pc = .ok (.lreturn, 1)) : W p l e R s m args below meth c H locs cells slots (MQ below (z_Qd P Dg w sz) args s mc ms (va_A w sz)) (F0 m pc ls [.long v]) :=
  W.widen hcs.1 hcs.2 (W.lret hx hb hr (fun t ht _ => ⟨⟨_, w', rfl, hP1, by rw [ht]; exact hP, hD⟩, hS.F ht⟩) hS.2.2 hdg hlk)
theorem z_kd {a : Array Value} {pre post : va_W} (hr : va_Run p l e R s m args below meth c H locs cells slots mc ms (F0 m pc ls st0) rest (z_Qd P Dg w H.size a) (va_A w H.size)) (hP : va_P Dg vwCl (pre ++ (w ++ post)) H) (hD : va_D A0 (pre ++ (w ++ post))) (hS : va_S A0 H0 H locs) (hA : ∀ q, H0.size ≤ q → A0 q)
    (kk : ∀ (o : Option Value) (w' : va_W) (H1 : Heap) (locs1 : List Loc), P o w' → va_P Dg vwCl (pre ++ (w' ++ post)) H1 → va_D A0 (pre ++ (w' ++ post)) → va_S A0 H0 H1 locs1 → W p l e R s m args below meth c H1 locs1 (cells + mc) (slots + ms) Q (F0 m (pc + 3) ls (o.toList ++ rest))) : W p l e R s m args below meth c H locs cells slots Q (F0 m pc ls st0) := by
  intro T hT X
  obtain ⟨v, st₀, t, T', L, h0, X', hL, e1, e2, ⟨⟨o, w', hv, hPo, hP1, hD1⟩, hz, hk⟩, st⟩ := hr T hT X
  cases hv
  rw [h0] at hz hk
  have hA2 : ∀ q, H.size ≤ q → A0 q := fun q h => hA q (Nat.le_trans hS.1 h)
  have hin : ∀ q, va_A w H.size q → A0 q := fun q h => by
    rcases h with ⟨j, e, hj⟩ | h
    · exact (z_Dl (z_Drr hD)).2 j _ hj
    · exact hA2 q h
  obtain ⟨hP2, hD2⟩ := z_blkd (H1 := T'.heap) hP hD (fun q h1 h2 => by rw [e1]; exact hk q h1 h2) (by rw [e1]; exact hP1) hD1 hA2
  obtain ⟨t2, a1, b1⟩ := kk v w' T'.heap (locs ++ L) hPo hP2 hD2
    ⟨Nat.le_trans hS.1 (by rw [e1]; exact hz), fun q h1 h2 => by rw [e1, hk q (Nat.lt_of_lt_of_le h1 hS.1) (fun z => h2 (hin q z))]; exact hS.2.1 q h1 h2, fun q hq => by
      rcases List.mem_append.mp hq with h | h
      · exact hS.2.2 q h
      · exact hin _ (hL q h)⟩ T' rfl X'
  exact ⟨t2, st t2 a1, b1⟩
/-- a constructor, called on what is new -/
theorem z_ni {mc ms : Nat} (rest : List Value) (pre post : va_W) (hx : p.tables.exec = Jvm.exec) (hb : c.code = cc) (hml : c.maxLocals = nL) (hown : s.vm.findClass own = some m.cls) (hts : ∀ w ∈ Ts, w.before args s = true) (hM : z_Md l y wsy f mc ms L (.ref b :: As) Dg cI w H.size P) (hT : GoodIn Ts wsy) (hw : wsy = Cond.code y bytes maxL none :: wsy') (hini : (Cond.initialized y.cls).before args s = true) (hl : (Cond.methodLink own index y).before args s = true) (hin : (Cond.instanceMethod y).before args s = true) (hy1 : y.name = "<init>") (hd : y.cls ≠ "java/lang/invoke/MethodHandle" ∧ y.cls ≠ "java/lang/invoke/VarHandle" ∧ (parseMethodDescriptor y.desc).map (fun d => d.parameters.length) = some n) (hR : f + 1 ≤ R.frames ∧ 8 + (maxL + 11) + L ≤ R.locals)
    (hK : va_K Dg vwCl [(cI, .int)] s) (hN : z_N s) (hP : va_P Dg vwCl (pre ++ (w ++ post)) H) (hD : va_D A0 (pre ++ (w ++ post))) (hS : va_S A0 H0 H locs) (hA : ∀ q, H0.size ≤ q → A0 q) (hn : As.length = n) (hsize : ls.size = nL) (hst : st0 = As.reverse ++ .ref b :: rest) (hW : (rest.map fun v => v.category).sum ≤ 8) (hdg : decode cc pc = .ok (.invokespecial index, 3)) (hf : cells + mc ≤ R.cells ∧ slots + ms ≤ R.slots)
    (kk : ∀ (o : Option Value) (w' : va_W) (H1 : Heap) (locs1 : List Loc), P o w' → va_P Dg vwCl (pre ++ (w' ++ post)) H1 → va_D A0 (pre ++ (w' ++ post)) → va_S A0 H0 H1 locs1 → W p l e R s m args below meth c H1 locs1 (cells + mc) (slots + ms) Q (F0 m (pc + 3) ls (o.toList ++ rest))) : W p l e R s m args below meth c H locs cells slots Q (F0 m pc ls st0) :=
  z_kd (va_runI (As := As) (rest := rest) ⟨hx, hb, hml, hown, hts⟩ hM (cwI n hts hT hw rfl rfl hini hl hin hy1 hd hR) ⟨z_Pd.blind, fun U hU hW => ⟨rfl, by rw [hU], by rw [hU]; exact z_Pm hP, z_K.warm hW ⟨hK, hN⟩, (z_Dl (z_Drr hD)).weaken (fun _ _ _ _ => trivial)⟩⟩ rfl hn hsize hst (lv_room hW) hdg hf) hP hD hS hA kk
theorem z_niN {mc ms : Nat} (rest : List Value) (pre post : va_W) (hx : p.tables.exec = Jvm.exec) (hb : c.code = cc) (hml : c.maxLocals = nL) (hown : s.vm.findClass own = some m.cls) (hts : ∀ w ∈ Ts, w.before args s = true) (hM : z_Md l y wsy f mc ms L (.ref b :: As) Dg cI w H.size P) (hT : GoodIn Ts wsy) (hw : wsy = Cond.code y bytes maxL none :: wsy') (hini : (Cond.initialized y.cls).before args s = true) (hl : va_Nw (.methodLinkNest own index y host) s) (hin : (Cond.instanceMethod y).before args s = true) (hy1 : y.name = "<init>") (hd : y.cls ≠ "java/lang/invoke/MethodHandle" ∧ y.cls ≠ "java/lang/invoke/VarHandle" ∧ (parseMethodDescriptor y.desc).map (fun d => d.parameters.length) = some n) (hR : f + 1 ≤ R.frames ∧ 8 + (maxL + 11) + L ≤ R.locals)
    (hK : va_K Dg vwCl [(cI, .int)] s) (hN : z_N s) (hP : va_P Dg vwCl (pre ++ (w ++ post)) H) (hD : va_D A0 (pre ++ (w ++ post))) (hS : va_S A0 H0 H locs) (hA : ∀ q, H0.size ≤ q → A0 q) (hn : As.length = n) (hsize : ls.size = nL) (hst : st0 = As.reverse ++ .ref b :: rest) (hW : (rest.map fun v => v.category).sum ≤ 8) (hdg : decode cc pc = .ok (.invokespecial index, 3)) (hf : cells + mc ≤ R.cells ∧ slots + ms ≤ R.slots)
    (kk : ∀ (o : Option Value) (w' : va_W) (H1 : Heap) (locs1 : List Loc), P o w' → va_P Dg vwCl (pre ++ (w' ++ post)) H1 → va_D A0 (pre ++ (w' ++ post)) → va_S A0 H0 H1 locs1 → W p l e R s m args below meth c H1 locs1 (cells + mc) (slots + ms) Q (F0 m (pc + 3) ls (o.toList ++ rest))) : W p l e R s m args below meth c H locs cells slots Q (F0 m pc ls st0) :=
  z_kd (va_runIN (As := As) (rest := rest) ⟨hx, hb, hml, hown, hts⟩ hM ⟨va_cnB (host := host) n hts hT hw rfl rfl hl hini hd hR, hy1, hin⟩ ⟨z_Pd.blind, fun U hU hW => ⟨rfl, by rw [hU], by rw [hU]; exact z_Pm hP, z_K.warm hW ⟨hK, hN⟩, (z_Dl (z_Drr hD)).weaken (fun _ _ _ _ => trivial)⟩⟩ rfl hn hsize hst (lv_room hW) hdg hf) hP hD hS hA kk
theorem z_vd {mc ms q0 ci : Nat} {C : String} {fs : List Value} {vq : vw_C} (rest : List Value) (pre post : va_W) (hx : p.tables.exec = Jvm.exec) (hb : c.code = cc) (hml : c.maxLocals = nL) (hown : s.vm.findClass own = some m.cls) (hts : ∀ w ∈ Ts, w.before args s = true) (hM : z_Md l y wsy f mc ms L (.ref b :: As) Dg cI w H.size P) (hT : GoodIn Ts (wsV own index C y wsy)) (hw : wsy = Cond.code y bytes maxL ret :: wsy') (hd : y.cls = C ∧ y.cls ≠ "java/lang/invoke/MethodHandle" ∧ y.cls ≠ "java/lang/invoke/VarHandle" ∧ (parseMethodDescriptor y.desc).map (fun d => d.parameters.length) = some n) (hR : f + 1 ≤ R.frames ∧ 8 + (maxL + 11) + L ≤ R.locals)
    (hK : va_K Dg vwCl [(cI, .int)] s) (hN : z_N s) (hP : va_P Dg vwCl (pre ++ (w ++ post)) H) (hD : va_D A0 (pre ++ (w ++ post))) (hS : va_S A0 H0 H locs) (hA : ∀ q, H0.size ≤ q → A0 q) (he : w[q0]? = some (b, .inr (ci, fs))) (hc : vwCl[ci]? = some vq) (hCl : vq.1 = C) (hn : As.length = n) (hsize : ls.size = nL) (hst : st0 = As.reverse ++ .ref b :: rest) (hW : (rest.map fun v => v.category).sum ≤ 8) (hdg : decode cc pc = .ok (.invokevirtual index, 3)) (hf : cells + mc ≤ R.cells ∧ slots + ms ≤ R.slots)
    (kk : ∀ (o : Option Value) (w' : va_W) (H1 : Heap) (locs1 : List Loc), P o w' → va_P Dg vwCl (pre ++ (w' ++ post)) H1 → va_D A0 (pre ++ (w' ++ post)) → va_S A0 H0 H1 locs1 → W p l e R s m args below meth c H1 locs1 (cells + mc) (slots + ms) Q (F0 m (pc + 3) ls (o.toList ++ rest))) : W p l e R s m args below meth c H locs cells slots Q (F0 m pc ls st0) :=
  z_kd (va_runV (As := As) (rest := rest) ⟨hx, hb, hml, hown, hts⟩ hM (cwV n hts hT hw rfl rfl hd hR) ⟨z_Pd.blind, by rw [← hCl]; exact va_recv hK (z_Pm hP) hc he, fun U hU hW => ⟨rfl, by rw [hU], by rw [hU]; exact z_Pm hP, z_K.warm hW ⟨hK, hN⟩, (z_Dl (z_Drr hD)).weaken (fun _ _ _ _ => trivial)⟩⟩ rfl hn hsize hst (lv_room hW) hdg hf) hP hD hS hA kk
end ZAL
