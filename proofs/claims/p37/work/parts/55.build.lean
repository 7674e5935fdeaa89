theorem kdS_L_act : yL_act.cls ≠ "java/lang/invoke/MethodHandle" ∧ yL_act.cls ≠ "java/lang/invoke/VarHandle" ∧ (parseMethodDescriptor yL_act.desc).map (fun d => d.parameters.length) = some 3 := by decide +kernel
theorem kdS_L_cell : yL_cell.cls ≠ "java/lang/invoke/MethodHandle" ∧ yL_cell.cls ≠ "java/lang/invoke/VarHandle" ∧ (parseMethodDescriptor yL_cell.desc).map (fun d => d.parameters.length) = some 2 := by decide +kernel
theorem kdS_X3_init : yX3_init.cls ≠ "java/lang/invoke/MethodHandle" ∧ yX3_init.cls ≠ "java/lang/invoke/VarHandle" ∧ (parseMethodDescriptor yX3_init.desc).map (fun d => d.parameters.length) = some 0 := by decide +kernel
section QBD
variable {p : Program} {l : Launch} {e : Env} {R : Room} {s : State} {m : MethodId} {args : Array Value} {below : List Frame} {meth : Method} {c : Code} {H : Heap} {locs : List Loc} {cells slots : Nat} {Q : State → Prop} {pc : Nat} {ls : Array Slot} {st0 : List Value} {cc : ByteArray} {y : MethodName} {bytes : ByteArray} {maxL nL n index f L sz : Nat} {ret : Option FieldType} {wsy wsy' Ts : List Cond} {own host C : String} {b : Addr} {As : List Value} {Dg : va_G} {cI cR cZ : ClassId} {w w' ws : va_W} {A0 : Nat → Prop} {H0 : Heap} {P : Option Value → va_W → Prop}
theorem q_niN {mc ms : Nat} (rest : List Value) (pre post : va_W) (hx : p.tables.exec = Jvm.exec) (hb : c.code = cc) (hml : c.maxLocals = nL) (hown : s.vm.findClass own = some m.cls) (hts : ∀ w ∈ Ts, w.before args s = true) (hM : q_Md l y wsy f mc ms L (.ref b :: As) Dg cI cR cZ w H.size P) (hT : GoodIn Ts wsy) (hw : wsy = Cond.code y bytes maxL none :: wsy') (hini : (Cond.initialized y.cls).before args s = true) (hl : va_Nw (.methodLinkNest own index y host) s) (hin : (Cond.instanceMethod y).before args s = true) (hy1 : y.name = "<init>") (hd : y.cls ≠ "java/lang/invoke/MethodHandle" ∧ y.cls ≠ "java/lang/invoke/VarHandle" ∧ (parseMethodDescriptor y.desc).map (fun d => d.parameters.length) = some n) (hR : f + 1 ≤ R.frames ∧ 8 + (maxL + 11) + L ≤ R.locals)
    (hK : va_K Dg vwCl (q_ty cI cR cZ) s) (hN : z_N s) (hJ : q_AA s cI cR) (hP : va_P Dg vwCl (pre ++ (w ++ post)) H) (hD : va_D A0 (pre ++ (w ++ post))) (hS : va_S A0 H0 H locs) (hA : ∀ q, H0.size ≤ q → A0 q) (hn : As.length = n) (hsize : ls.size = nL) (hst : st0 = As.reverse ++ .ref b :: rest) (hW : (rest.map fun v => v.category).sum ≤ 8) (hdg : decode cc pc = .ok (.invokespecial index, 3)) (hf : cells + mc ≤ R.cells ∧ slots + ms ≤ R.slots)
    (kk : ∀ (o : Option Value) (w' : va_W) (H1 : Heap) (locs1 : List Loc), P o w' → va_P Dg vwCl (pre ++ (w' ++ post)) H1 → va_D A0 (pre ++ (w' ++ post)) → va_S A0 H0 H1 locs1 → W p l e R s m args below meth c H1 locs1 (cells + mc) (slots + ms) Q (F0 m (pc + 3) ls (o.toList ++ rest))) : W p l e R s m args below meth c H locs cells slots Q (F0 m pc ls st0) :=
  z_kd (va_runIN (As := As) (rest := rest) ⟨hx, hb, hml, hown, hts⟩ hM ⟨va_cnB (host := host) n hts hT hw rfl rfl hl hini hd hR, hy1, hin⟩ ⟨q_Pd.blind, fun U hU hW => ⟨rfl, by rw [hU], by rw [hU]; exact z_Pm hP, q_K.warm hW ⟨hK, hN, hJ⟩, (z_Dl (z_Drr hD)).weaken (fun _ _ _ _ => trivial)⟩⟩ rfl hn hsize hst (lv_room hW) hdg hf) hP hD hS hA kk
theorem q_aS {hh : List (Nat × Nat × Nat × Nat)} {mc ms : Nat} (rest : List Value) (hx : p.tables.exec = Jvm.exec) (hb : c.code = cc) (hml : c.maxLocals = nL) (hown : s.vm.findClass own = some m.cls) (hts : ∀ w ∈ Ts, w.before args s = true) (hM : q_Ma l y wsy f mc ms L As Dg cI cR cZ w H.size P) (hT : GoodIn Ts (va_wsS own index y wsy)) (hw : wsy = Cond.codeWith y bytes maxL ret hh :: wsy') (hd : y.cls ≠ "java/lang/invoke/MethodHandle" ∧ y.cls ≠ "java/lang/invoke/VarHandle" ∧ (parseMethodDescriptor y.desc).map (fun d => d.parameters.length) = some n) (hR : f + 1 ≤ R.frames ∧ 8 + (maxL + 11) + L ≤ R.locals)
    (hK : va_K Dg vwCl (q_ty cI cR cZ) s) (hN : z_N s) (hJ : q_AA s cI cR) (hE : z_E s) (hTA : q_TA A0 s H0) (hP : va_P Dg vwCl w H) (hD : va_D A0 w) (hS : va_S A0 H0 H locs) (hA : ∀ q, H0.size ≤ q → A0 q) (hst : st0 = As.reverse ++ rest) (hn : As.length = n) (hsize : ls.size = nL) (hW : (rest.map fun v => v.category).sum ≤ 8) (hdg : decode cc pc = .ok (.invokestatic index, 3)) (hf : cells + mc ≤ R.cells ∧ slots + ms ≤ R.slots)
    (kk : ∀ (o : Option Value) (w' : va_W) (H1 : Heap) (locs1 : List Loc), P o w' → va_P Dg vwCl w' H1 → va_D A0 w' → va_S A0 H0 H1 locs1 → W p l e R s m args below meth c H1 locs1 (cells + mc) (slots + ms) Q (F0 m (pc + 3) ls (o.toList ++ rest))) : W p l e R s m args below meth c H locs cells slots Q (F0 m pc ls st0) := by
  have hin : ∀ q, va_A w H.size q → A0 q := fun q h => by
    rcases h with ⟨k, e, h⟩ | h
    · exact hD.2 k _ h
    · exact hA q (Nat.le_trans hS.1 h)
  refine z_kd (pre := []) (post := []) (vx_runSW (As := As) (rest := rest) ⟨hx, hb, hml, hown, hts⟩ hM (vx_cwSW (hh := hh) n hts hT hw rfl rfl hd hR) ⟨q_Pa.blind, fun U hU hW => ⟨rfl, by rw [hU], by rw [hU]; exact hP, ⟨q_K.warm hW ⟨hK, hN, hJ⟩, z_E.warm hW hE, by rw [hU]; exact ((hTA.kept hS.2.1).narrow hin).moved hW.alike⟩, hD.weaken (fun _ _ _ _ => trivial)⟩⟩ rfl hn hsize hst (lv_room hW) hdg hf) (q_nilP (pre := []) hP) (q_nilD (pre := []) hD) hS hA (fun o w' H1 locs1 hPo hP hD hS => ?_)
  rw [List.append_nil] at hP hD
  exact kk o w' H1 locs1 hPo hP hD hS
end QBD
def q_Pb (As : List Value) (Dg : va_G) (cI cR cZ : ClassId) (w : va_W) (sz b Ls : Nat) (xs : Nat → Int32) : Array Value → State → Prop := va_Pc As (fun U => U.heap.size = sz ∧ va_P Dg vwCl w U.heap ∧ q_X Dg cI cR cZ (va_A w sz) U U.heap ∧ va_D (fun _ => True) w ∧ va_X b Ls xs U U.heap ∧ ¬ va_A w sz b)
theorem q_Pb.blind {As : List Value} {Dg : va_G} {cI cR cZ : ClassId} {w : va_W} {sz b Ls : Nat} {xs : Nat → Int32} : FrameBlind (q_Pb As Dg cI cR cZ w sz b Ls xs) := fun _ U g mk q => ⟨q.1, q.2.1, q.2.2.1, q_X.same (U := U.calling g mk _) (H := U.heap) rfl q.2.2.2.1, q.2.2.2.2.1, va_X.moved (u := U) (U := U.calling g mk _) (Vm.Alike.refl U.vm) q.2.2.2.2.2.1, q.2.2.2.2.2.2⟩
abbrev q_Mb (l : Launch) (y : MethodName) (ws : List Cond) (f C S L : Nat) (As : List Value) (Dg : va_G) (cI cR cZ : ClassId) (w : va_W) (sz b Ls : Nat) (xs : Nat → Int32) (P : Option Value → va_W → Prop) : Prop := Met l y ws ({ frames := f, cells := C, slots := S, locals := L }) (q_Pb As Dg cI cR cZ w sz b Ls xs) (z_Qd P Dg w sz) C S (va_A w sz)
theorem q_sb {l : Launch} {y : MethodName} {ws ws' : List Cond} {f C S L sz b Ls : Nat} {xs : Nat → Int32} {As : List Value} {Dg : va_G} {cI cR cZ : ClassId} {w : va_W} {Qc : Array Value → State → Outcome → State → Prop} {cc : ByteArray} {maxL : Nat} {ret : Option FieldType} {l0 : List (Nat × Value)} {own : String}
    (hw : ws = Cond.code y cc maxL ret :: ws') (hl0 : lv_args 0 As = l0) (hy : plainName y.cls = true) (hn : (lg_sl As).length ≤ maxL) (ho : y.cls = own)
    (body : ∀ (p : Program) (e : Env) (s : State) (m : MethodId) (below : List Frame) (meth : Method) (c : Code), p.tables.exec = Jvm.exec → c.code = cc → meth.sig.returnType = ret → c.maxLocals = maxL → (∀ w ∈ ws, w.before As.toArray s = true) → s.vm.findClass own = some m.cls → meth.locks = false → va_P Dg vwCl w s.heap → va_K Dg vwCl (q_ty cI cR cZ) s → z_N s → q_AA s cI cR → z_E s → q_TA (va_A w sz) s s.heap → va_D (va_A w sz) w → va_S (va_A w sz) s.heap s.heap [] → (∀ q : Nat, s.heap.size ≤ q → va_A w sz q) → va_X b Ls xs s s.heap → b < s.heap.size → ¬ va_A w sz b → ∀ ls : Array Slot, lv_has ls maxL l0 → W p l e ({ frames := f, cells := C, slots := S, locals := L }) s m As.toArray below meth c s.heap [] 0 0 (MQ below Qc As.toArray s C S (va_A w sz)) (F0 m 0 ls [])) :
    Met l y ws ({ frames := f, cells := C, slots := S, locals := L }) (q_Pb As Dg cI cR cZ w sz b Ls xs) Qc C S (va_A w sz) := by
  refine Met.ofW (cc := cc) (maxL := maxL) (ret := ret) hy hw ?_
  intro p e s m args below meth c s₁ B hml hv
  obtain ⟨rfl, hsz, hP, hX, hD, hXs, hbA⟩ := hv
  rw [lg_entry_eq]
  have hl := lv_entry As (n := maxL) hn
  rw [hl0] at hl
  have hbl : b < s.heap.size := by
    obtain ⟨scr, h1, -⟩ := hXs
    exact (Array.getElem?_eq_some_iff.mp h1).1
  exact body p e s m below meth c B.exec B.bytes B.returns hml (atoms_spec (ws := ws) B.pre) (ho ▸ findClass_of_methodNamed B.named) B.notSynchronized hP hX.1.1 hX.1.2.1 hX.1.2.2 hX.2.1 hX.2.2 hD.self va_S.rf (fun q h => Or.inr (hsz ▸ h)) hXs hbl hbA _ hl
set_option maxHeartbeats 40000000 in
set_option maxRecDepth 100000 in
theorem m_L_build (l : Launch) (hst : l.stackTraces = false) (Dg : va_G) (cI cR cZ : ClassId) (h : Nat) (na ta : Nat → Nat) (G1 : z_GG) (D1 : z_DD) (sz b Ls : Nat) (xs : Nat → Int32) (hL : Ls ≤ 260) : q_Mb l yL_build wsL_build 10 900 28000 184 [.ref h, .ref b] Dg cI cR cZ (z_cW cI h na ta z_G0 z_D0 G1 D1) sz b Ls xs (fun o w9 => ∃ s9 : Nat, o = some (.ref s9) ∧ q_ST cI cR h na ta s9 w9) := by
  refine q_sb (own := RL) (l0 := [(0, .ref h), (1, .ref b)]) rfl rfl (by decide) (Nat.le_of_ble_eq_true rfl) rfl ?_
  intro p e s m below meth c hx hb hr hml hts hown hlk hP hK hN hJ hE hTA hD hS hA hXs hbl hbA ls hl
  refine va_new (ci := 3) (fs := [.null, .null, .null, .int 0, .int 0, .int 0]) (C := RX3) (T := TX3) (N := 6) hx hb hts (fun _ h => (List.mem_cons_of_mem _ (List.mem_append_left _ (List.mem_append_left _ (List.mem_append_left _ (List.mem_append_left _ (List.mem_append_left _ (List.mem_append_left _ (List.mem_append_right _ h))))))))) tyX3 tyX3_ok hown (hts _ (List.mem_cons_of_mem _ (List.mem_append_left _ (List.mem_append_left _ (List.mem_append_left _ (List.mem_append_left _ (List.mem_append_left _ (List.mem_append_left _ (List.mem_append_left _ (List.mem_append_left _ (List.mem_of_getElem? (i := 0) rfl))))))))))) (hts _ (List.mem_cons_of_mem _ (List.mem_append_left _ (List.mem_append_left _ (List.mem_append_left _ (List.mem_append_left _ (List.mem_append_left _ (List.mem_append_left _ (List.mem_append_left _ (List.mem_append_left _ (List.mem_of_getElem? (i := 1) rfl))))))))))) (hts _ (List.mem_cons_of_mem _ (List.mem_append_left _ (List.mem_append_left _ (List.mem_append_left _ (List.mem_append_left _ (List.mem_append_left _ (List.mem_append_left _ (List.mem_append_left _ (List.mem_append_left _ (List.mem_of_getElem? (i := 2) rfl))))))))))) hK hP hD hS hA rfl (fun j hj => by rcases (show j = 0 ∨ j = 1 ∨ j = 2 ∨ j = 3 ∨ j = 4 ∨ j = 5 by omega) with rfl | rfl | rfl | rfl | rfl | rfl <;> rfl) (Nat.le_of_ble_eq_true rfl) (Nat.le_of_ble_eq_true rfl) dL_build_0 (fun q1 H hP hD hS => ?_)
  refine lv_dup hx hb dL_build_3 rfl ?_
  have hP := q_nilP (pre := z_cW cI h na ta z_G0 z_D0 G1 D1) (w := [(q1, .inr (3, [.null, .null, .null, .int 0, .int 0, .int 0]))]) hP
  have hD := q_nilD (pre := z_cW cI h na ta z_G0 z_D0 G1 D1) (w := [(q1, .inr (3, [.null, .null, .null, .int 0, .int 0, .int 0]))]) hD
  refine q_niN [.ref q1] (z_cW cI h na ta z_G0 z_D0 G1 D1) [] hx hb hml hown hts (m_X3_init l Dg cI cR cZ q1 H.size) gL_build_X3_init_n68 rfl (hts _ (List.mem_cons_of_mem _ (List.mem_append_left _ (List.mem_append_left _ (List.mem_append_left _ (List.mem_append_left _ (List.mem_append_left _ (List.mem_append_left _ (List.mem_append_left _ (List.mem_append_left _ (List.mem_of_getElem? (i := 2) rfl))))))))))) (va_Nw.use rfl hJ.2.2) (hts _ (List.mem_cons_of_mem _ (List.mem_append_left _ (List.mem_append_left _ (List.mem_append_left _ (List.mem_append_left _ (List.mem_append_left _ (List.mem_append_left _ (List.mem_append_left _ (List.mem_append_left _ (List.mem_of_getElem? (i := 4) rfl))))))))))) rfl kdS_X3_init ⟨(Nat.le_of_ble_eq_true rfl), (Nat.le_of_ble_eq_true rfl)⟩ hK hN hJ hP hD hS hA rfl hl.1 rfl (Nat.le_of_ble_eq_true rfl) dL_build_4 ⟨(Nat.le_of_ble_eq_true rfl), (Nat.le_of_ble_eq_true rfl)⟩ (fun o w9 H locs hPo hP hD hS => ?_)
  obtain ⟨rfl, sa9, rfl, rfl⟩ := hPo
  rw [List.append_nil] at hP hD
  have hST0 : q_ST cI cR h na ta (sa9 0) (z_cW cI h na ta z_G0 z_D0 G1 D1 ++ q_W cI cR sa9 (fun _ => 0) (fun _ => 0) z_G0 z_D0) := ⟨z_G0, z_D0, _, _, sa9, _, _, rfl, q_I0, rfl⟩
  refine lv_astore_n (lv' := [(2, .ref (sa9 0)), (0, .ref h), (1, .ref b)]) hx hb dL_build_7 rfl hl (by decide) rfl (fun ls hl => ?_)
  refine lv_iconst (v := nI 1) hx hb dL_build_8 (by decide) ?_
  refine lv_aload_n hx hb dL_build_9 rfl (lv_at hl 2 rfl) ?_
  refine lv_iconst (v := nI 0) hx hb dL_build_10 (by decide) ?_
  refine q_cellS (v := q_ce Ls xs 0) [.int (nI 1)] hx hb hml hown hts (m_L_cell l b Ls 0 xs hL (by decide)) gL_build_L_cell rfl kdS_L_cell ⟨Nat.le_of_ble_eq_true rfl, Nat.le_of_ble_eq_true rfl⟩ hXs hbl hbA hS rfl rfl hl.1 (Nat.le_of_ble_eq_true rfl) dL_build_11 ⟨by show _ ≤ 900; omega, by show _ ≤ 28000; omega⟩ ?_
  refine lv_iconst (v := nI 5) hx hb dL_build_14 (by decide) ?_
  refine q_rSi (v := nI (q_bl (q_ce Ls xs 0) 5)) [.int (nI 1)] hx hb hml hown hts (m_L_below l Dg cI cR cZ (q_ce Ls xs 0) 5 (by decide) (by decide)) gL_build_L_below rfl kdS_L_below ⟨Nat.le_of_ble_eq_true rfl, Nat.le_of_ble_eq_true rfl⟩ hK hN hJ z_P0 rfl rfl hl.1 (Nat.le_of_ble_eq_true rfl) dL_build_15 ⟨by show _ ≤ 900; omega, by show _ ≤ 28000; omega⟩ ?_
  obtain ⟨j15, hj15, ej15⟩ := q_bl_ex (q_ce Ls xs 0) (k := 5) (by decide)
  refine z_top (x' := nI j15) (congrArg nI ej15) ?_
  refine lv_iadd hx hb dL_build_18 ?_
  refine z_top (x' := nI (1 + j15)) (nI_add _ _) ?_
  refine lv_istore_n (lv' := [(3, .int (nI (1 + j15))), (2, .ref (sa9 0)), (0, .ref h), (1, .ref b)]) hx hb dL_build_19 rfl hl (by decide) rfl (fun ls hl => ?_)
  refine lv_iconst (v := nI 2) hx hb dL_build_20 (by decide) ?_
  refine lv_aload_n hx hb dL_build_21 rfl (lv_at hl 3 rfl) ?_
  refine lv_iconst (v := nI 1) hx hb dL_build_22 (by decide) ?_
  refine q_cellS (v := q_ce Ls xs 1) [.int (nI 2)] hx hb hml hown hts (m_L_cell l b Ls 1 xs hL (by decide)) gL_build_L_cell rfl kdS_L_cell ⟨Nat.le_of_ble_eq_true rfl, Nat.le_of_ble_eq_true rfl⟩ hXs hbl hbA hS rfl rfl hl.1 (Nat.le_of_ble_eq_true rfl) dL_build_23 ⟨by show _ ≤ 900; omega, by show _ ≤ 28000; omega⟩ ?_
  refine lv_bipush (v := nI 7) hx hb dL_build_26 (by decide) ?_
  refine q_rSi (v := nI (q_bl (q_ce Ls xs 1) 7)) [.int (nI 2)] hx hb hml hown hts (m_L_below l Dg cI cR cZ (q_ce Ls xs 1) 7 (by decide) (by decide)) gL_build_L_below rfl kdS_L_below ⟨Nat.le_of_ble_eq_true rfl, Nat.le_of_ble_eq_true rfl⟩ hK hN hJ z_P0 rfl rfl hl.1 (Nat.le_of_ble_eq_true rfl) dL_build_28 ⟨by show _ ≤ 900; omega, by show _ ≤ 28000; omega⟩ ?_
  obtain ⟨j28, hj28, ej28⟩ := q_bl_ex (q_ce Ls xs 1) (k := 7) (by decide)
  refine z_top (x' := nI j28) (congrArg nI ej28) ?_
  refine lv_iadd hx hb dL_build_31 ?_
  refine z_top (x' := nI (2 + j28)) (nI_add _ _) ?_
  refine lv_istore (lv' := [(4, .int (nI (2 + j28))), (3, .int (nI (1 + j15))), (2, .ref (sa9 0)), (0, .ref h), (1, .ref b)]) hx hb dL_build_32 hl (by decide) rfl (fun ls hl => ?_)
  refine lv_iconst (v := nI 0) hx hb dL_build_34 (by decide) ?_
  refine lv_istore (lv' := [(5, .int (nI 0)), (4, .int (nI (2 + j28))), (3, .int (nI (1 + j15))), (2, .ref (sa9 0)), (0, .ref h), (1, .ref b)]) hx hb dL_build_35 hl (by decide) rfl (fun ls hl => ?_)
  have lp37 : ∀ (zz i : Nat) (w : va_W), i ≤ (1 + j15) → (1 + j15) + 1 ≤ i + zz → q_ST cI cR h na ta (sa9 0) w → ∀ (H : Heap) (locs : List Loc), va_P Dg vwCl w H → va_D (va_A (z_cW cI h na ta z_G0 z_D0 G1 D1) sz) w → va_S (va_A (z_cW cI h na ta z_G0 z_D0 G1 D1) sz) s.heap H locs → ∀ ls : Array Slot, lv_has ls 6 [(0, .ref h), (1, .ref b), (2, .ref (sa9 0)), (3, .int (nI (1 + j15))), (4, .int (nI (2 + j28))), (5, .int (nI i))] → W p l e ({ frames := 10, cells := 900, slots := 28000, locals := 184 } : Room) s m ([.ref h, .ref b] : List Value).toArray below meth c H locs (4 + 41 * i) (10 + 1300 * i) (MQ below (z_Qd (fun o w9 => ∃ s9 : Nat, o = some (.ref s9) ∧ q_ST cI cR h na ta s9 w9) Dg (z_cW cI h na ta z_G0 z_D0 G1 D1) sz) ([.ref h, .ref b] : List Value).toArray s 900 28000 (va_A (z_cW cI h na ta z_G0 z_D0 G1 D1) sz)) (F0 m 37 ls []) := by
    intro zz
    induction zz with
    | zero => intros; exfalso; omega
    | succ zz ih37 =>
      intro i w hi hzz hf37_0 H locs hP hD hS ls hl
      refine lv_iload hx hb dL_build_37 (lv_at hl 5 rfl) ?_
      refine lv_iload_n hx hb dL_build_39 rfl (lv_at hl 3 rfl) ?_
      refine lv_icmp_ge (tgt := 75) hx hb dL_build_40 (by decide) (fun c40 => ?_) (fun c40 => ?_)
      · skip
        have hi2 : i = (1 + j15) := Nat.le_antisymm hi (z_le (by omega) (by omega) c40)
        subst hi2
        refine lv_iconst (v := nI 0) hx hb dL_build_75 (by decide) ?_
        refine lv_istore (lv' := [(5, .int (nI 0)), (0, .ref h), (1, .ref b), (2, .ref (sa9 0)), (3, .int (nI (1 + j15))), (4, .int (nI (2 + j28)))]) hx hb dL_build_76 hl (by decide) rfl (fun ls hl => ?_)
        refine W.widen (k := 209) (n := 6510) (by omega) (by omega) ?_
        have lp78 : ∀ (zz i : Nat) (w : va_W), i ≤ (2 + j28) → (2 + j28) + 1 ≤ i + zz → q_ST cI cR h na ta (sa9 0) w → ∀ (H : Heap) (locs : List Loc), va_P Dg vwCl w H → va_D (va_A (z_cW cI h na ta z_G0 z_D0 G1 D1) sz) w → va_S (va_A (z_cW cI h na ta z_G0 z_D0 G1 D1) sz) s.heap H locs → ∀ ls : Array Slot, lv_has ls 6 [(0, .ref h), (1, .ref b), (2, .ref (sa9 0)), (3, .int (nI (1 + j15))), (4, .int (nI (2 + j28))), (5, .int (nI i))] → W p l e ({ frames := 10, cells := 900, slots := 28000, locals := 184 } : Room) s m ([.ref h, .ref b] : List Value).toArray below meth c H locs (209 + 41 * i) (6510 + 1300 * i) (MQ below (z_Qd (fun o w9 => ∃ s9 : Nat, o = some (.ref s9) ∧ q_ST cI cR h na ta s9 w9) Dg (z_cW cI h na ta z_G0 z_D0 G1 D1) sz) ([.ref h, .ref b] : List Value).toArray s 900 28000 (va_A (z_cW cI h na ta z_G0 z_D0 G1 D1) sz)) (F0 m 78 ls []) := by
          intro zz
          induction zz with
          | zero => intros; exfalso; omega
          | succ zz ih78 =>
            intro i w hi hzz hf78_0 H locs hP hD hS ls hl
            refine lv_iload hx hb dL_build_78 (lv_at hl 5 rfl) ?_
            refine lv_iload hx hb dL_build_80 (lv_at hl 4 rfl) ?_
            refine lv_icmp_ge (tgt := 123) hx hb dL_build_82 (by decide) (fun c82 => ?_) (fun c82 => ?_)
            · skip
              have hi2 : i = (2 + j28) := Nat.le_antisymm hi (z_le (by omega) (by omega) c82)
              subst hi2
              refine lv_iconst (v := nI 0) hx hb dL_build_123 (by decide) ?_
              refine lv_istore (lv' := [(5, .int (nI 0)), (0, .ref h), (1, .ref b), (2, .ref (sa9 0)), (3, .int (nI (1 + j15))), (4, .int (nI (2 + j28)))]) hx hb dL_build_124 hl (by decide) rfl (fun ls hl => ?_)
              refine W.widen (k := 537) (n := 16910) (by omega) (by omega) ?_
              have lp126 : ∀ (zz i : Nat) (w : va_W), i ≤ 8 → 8 + 1 ≤ i + zz → q_ST cI cR h na ta (sa9 0) w → ∀ (H : Heap) (locs : List Loc), va_P Dg vwCl w H → va_D (va_A (z_cW cI h na ta z_G0 z_D0 G1 D1) sz) w → va_S (va_A (z_cW cI h na ta z_G0 z_D0 G1 D1) sz) s.heap H locs → ∀ ls : Array Slot, lv_has ls 6 [(0, .ref h), (1, .ref b), (2, .ref (sa9 0)), (3, .int (nI (1 + j15))), (4, .int (nI (2 + j28))), (5, .int (nI i))] → W p l e ({ frames := 10, cells := 900, slots := 28000, locals := 184 } : Room) s m ([.ref h, .ref b] : List Value).toArray below meth c H locs (537 + 41 * i) (16910 + 1300 * i) (MQ below (z_Qd (fun o w9 => ∃ s9 : Nat, o = some (.ref s9) ∧ q_ST cI cR h na ta s9 w9) Dg (z_cW cI h na ta z_G0 z_D0 G1 D1) sz) ([.ref h, .ref b] : List Value).toArray s 900 28000 (va_A (z_cW cI h na ta z_G0 z_D0 G1 D1) sz)) (F0 m 126 ls []) := by
                intro zz
                induction zz with
                | zero => intros; exfalso; omega
                | succ zz ih126 =>
                  intro i w hi hzz hf126_0 H locs hP hD hS ls hl
                  refine lv_iload hx hb dL_build_126 (lv_at hl 5 rfl) ?_
                  refine lv_bipush (v := nI 8) hx hb dL_build_128 (by decide) ?_
                  refine lv_icmp_ge (tgt := 163) hx hb dL_build_130 (by decide) (fun c130 => ?_) (fun c130 => ?_)
                  · skip
                    have hi2 : i = 8 := Nat.le_antisymm hi (z_le (by omega) (by omega) c130)
                    subst hi2
                    refine lv_aload_n hx hb dL_build_163 rfl (lv_at hl 2 rfl) ?_
                    exact q_ed_a (Or.inl ⟨_, rfl⟩) ⟨sa9 0, rfl, hf126_0⟩ hP hD hS ⟨by omega, by omega⟩ hx hb hr hlk dL_build_164
                  · skip
                    have hi2 : i < 8 := z_nle (by omega) c130
                    refine lv_aload_n hx hb dL_build_133 rfl (lv_at hl 0 rfl) ?_
                    refine lv_aload_n hx hb dL_build_134 rfl (lv_at hl 2 rfl) ?_
                    refine lv_aload_n hx hb dL_build_135 rfl (lv_at hl 1 rfl) ?_
                    refine lv_iload hx hb dL_build_136 (lv_at hl 5 rfl) ?_
                    refine q_cellS (v := q_ce Ls xs i) [.ref (sa9 0), .ref h] hx hb hml hown hts (m_L_cell l b Ls i xs hL (by omega)) gL_build_L_cell rfl kdS_L_cell ⟨Nat.le_of_ble_eq_true rfl, Nat.le_of_ble_eq_true rfl⟩ hXs hbl hbA hS rfl rfl hl.1 (Nat.le_of_ble_eq_true rfl) dL_build_138 ⟨by show _ ≤ 900; omega, by show _ ≤ 28000; omega⟩ ?_
                    refine lv_iconst (v := nI 2) hx hb dL_build_141 (by decide) ?_
                    refine lv_ishr hx hb dL_build_142 ?_
                    refine lv_bipush (v := nI 41) hx hb dL_build_143 (by decide) ?_
                    refine lv_iload hx hb dL_build_145 (lv_at hl 5 rfl) ?_
                    refine lv_imul hx hb dL_build_147 ?_
                    refine lv_iadd hx hb dL_build_148 ?_
                    obtain ⟨Ga1, Da1, Gb1, Db1, sa1, rb1, rt1, hs1, hI1, rfl⟩ := hf126_0
                    refine q_aS [] hx hb hml hown hts (m_L_act l hst Dg cI cR cZ h na ta Ga1 Da1 Gb1 Db1 sa1 rb1 rt1 (((q_ce Ls xs i) >>> ((nI 2) &&& 31)) + ((nI 41) * (nI i))) H.size hI1) gL_build_L_act rfl kdS_L_act ⟨Nat.le_of_ble_eq_true rfl, Nat.le_of_ble_eq_true rfl⟩ hK hN hJ hE hTA hP hD hS hA (by rw [hs1]; rfl) rfl hl.1 (Nat.le_of_ble_eq_true rfl) dL_build_149 ⟨by show _ ≤ 900; omega, by show _ ≤ 28000; omega⟩ (fun o w1 H locs hPo hP hD hS => ?_)
                    obtain ⟨rfl, hST1⟩ := hPo
                    rw [hs1] at hST1
                    refine lv_if_ne (tgt := 157) hx hb dL_build_152 (by decide) (fun c152 => ?_) (fun c152 => absurd c152 (by decide))
                    refine W.widen (k := 537 + 41 * (i + 1)) (n := 16910 + 1300 * (i + 1)) (by omega) (by omega) ?_
                    refine lv_iinc (v := nI (i + 1)) (lv' := [(5, .int (nI (i + 1))), (0, .ref h), (1, .ref b), (2, .ref (sa9 0)), (3, .int (nI (1 + j15))), (4, .int (nI (2 + j28)))]) hx hb dL_build_157 hl (k := 5) rfl (nI_1 _) (by decide) rfl (fun ls hl => ?_)
                    refine lv_goto (tgt := 126) hx hb dL_build_160 (by decide) ?_
                    exact ih126 (i + 1) w1 (by omega) (by omega) hST1 _ _ hP hD hS _ (lv_sub hl [1, 2, 3, 4, 5, 0] rfl)
              exact lp126 (8 + 1) 0 w (by omega) (by omega) hf78_0 _ _ hP hD hS _ (lv_sub hl [1, 2, 3, 4, 5, 0] rfl)
            · skip
              have hi2 : i < 2 + j28 := z_nle (by omega) c82
              refine lv_aload_n hx hb dL_build_85 rfl (lv_at hl 0 rfl) ?_
              refine lv_aload_n hx hb dL_build_86 rfl (lv_at hl 2 rfl) ?_
              refine lv_bipush (v := nI 14) hx hb dL_build_87 (by decide) ?_
              refine lv_aload_n hx hb dL_build_89 rfl (lv_at hl 1 rfl) ?_
              refine lv_iload hx hb dL_build_90 (lv_at hl 5 rfl) ?_
              refine q_cellS (v := q_ce Ls xs i) [.int (nI 14), .ref (sa9 0), .ref h] hx hb hml hown hts (m_L_cell l b Ls i xs hL (by omega)) gL_build_L_cell rfl kdS_L_cell ⟨Nat.le_of_ble_eq_true rfl, Nat.le_of_ble_eq_true rfl⟩ hXs hbl hbA hS rfl rfl hl.1 (Nat.le_of_ble_eq_true rfl) dL_build_92 ⟨by show _ ≤ 900; omega, by show _ ≤ 28000; omega⟩ ?_
              refine lv_iconst (v := nI 4) hx hb dL_build_95 (by decide) ?_
              refine lv_ishr hx hb dL_build_96 ?_
              refine lv_bipush (v := nI 97) hx hb dL_build_97 (by decide) ?_
              refine lv_iload hx hb dL_build_99 (lv_at hl 5 rfl) ?_
              refine lv_imul hx hb dL_build_101 ?_
              refine lv_iadd hx hb dL_build_102 ?_
              refine lv_ldc (v := 16777215) hx hb hown (hts _ (List.mem_cons_of_mem _ (List.mem_append_left _ (List.mem_append_left _ (List.mem_append_left _ (List.mem_append_left _ (List.mem_append_left _ (List.mem_append_left _ (List.mem_append_left _ (List.mem_append_left _ (List.mem_of_getElem? (i := 3) rfl))))))))))) dL_build_103 ?_
              refine lv_iand hx hb dL_build_105 ?_
              refine lv_imul hx hb dL_build_106 ?_
              refine lv_iconst (v := nI 1) hx hb dL_build_107 (by decide) ?_
              refine lv_iadd hx hb dL_build_108 ?_
              obtain ⟨Ga2, Da2, Gb2, Db2, sa2, rb2, rt2, hs2, hI2, rfl⟩ := hf78_0
              refine q_aS [] hx hb hml hown hts (m_L_act l hst Dg cI cR cZ h na ta Ga2 Da2 Gb2 Db2 sa2 rb2 rt2 (((nI 14) * ((((q_ce Ls xs i) >>> ((nI 4) &&& 31)) + ((nI 97) * (nI i))) &&& 16777215)) + (nI 1)) H.size hI2) gL_build_L_act rfl kdS_L_act ⟨Nat.le_of_ble_eq_true rfl, Nat.le_of_ble_eq_true rfl⟩ hK hN hJ hE hTA hP hD hS hA (by rw [hs2]; rfl) rfl hl.1 (Nat.le_of_ble_eq_true rfl) dL_build_109 ⟨by show _ ≤ 900; omega, by show _ ≤ 28000; omega⟩ (fun o w2 H locs hPo hP hD hS => ?_)
              obtain ⟨rfl, hST2⟩ := hPo
              rw [hs2] at hST2
              refine lv_if_ne (tgt := 117) hx hb dL_build_112 (by decide) (fun c112 => ?_) (fun c112 => absurd c112 (by decide))
              refine W.widen (k := 209 + 41 * (i + 1)) (n := 6510 + 1300 * (i + 1)) (by omega) (by omega) ?_
              refine lv_iinc (v := nI (i + 1)) (lv' := [(5, .int (nI (i + 1))), (0, .ref h), (1, .ref b), (2, .ref (sa9 0)), (3, .int (nI (1 + j15))), (4, .int (nI (2 + j28)))]) hx hb dL_build_117 hl (k := 5) rfl (nI_1 _) (by decide) rfl (fun ls hl => ?_)
              refine lv_goto (tgt := 78) hx hb dL_build_120 (by decide) ?_
              exact ih78 (i + 1) w2 (by omega) (by omega) hST2 _ _ hP hD hS _ (lv_sub hl [1, 2, 3, 4, 5, 0] rfl)
        exact lp78 ((2 + j28) + 1) 0 w (by omega) (by omega) hf37_0 _ _ hP hD hS _ (lv_sub hl [1, 2, 3, 4, 5, 0] rfl)
      · skip
        have hi2 : i < 1 + j15 := z_nle (by omega) c40
        refine lv_aload_n hx hb dL_build_43 rfl (lv_at hl 0 rfl) ?_
        refine lv_aload_n hx hb dL_build_44 rfl (lv_at hl 2 rfl) ?_
        refine lv_bipush (v := nI 14) hx hb dL_build_45 (by decide) ?_
        refine lv_aload_n hx hb dL_build_47 rfl (lv_at hl 1 rfl) ?_
        refine lv_iconst (v := nI 2) hx hb dL_build_48 (by decide) ?_
        refine lv_iload hx hb dL_build_49 (lv_at hl 5 rfl) ?_
        refine lv_iadd hx hb dL_build_51 ?_
        refine z_top (x' := nI (2 + i)) (nI_add _ _) ?_
        refine q_cellS (v := q_ce Ls xs (2 + i)) [.int (nI 14), .ref (sa9 0), .ref h] hx hb hml hown hts (m_L_cell l b Ls (2 + i) xs hL (by omega)) gL_build_L_cell rfl kdS_L_cell ⟨Nat.le_of_ble_eq_true rfl, Nat.le_of_ble_eq_true rfl⟩ hXs hbl hbA hS rfl rfl hl.1 (Nat.le_of_ble_eq_true rfl) dL_build_52 ⟨by show _ ≤ 900; omega, by show _ ≤ 28000; omega⟩ ?_
        refine lv_iconst (v := nI 5) hx hb dL_build_55 (by decide) ?_
        refine lv_ishr hx hb dL_build_56 ?_
        refine lv_ldc (v := 16777215) hx hb hown (hts _ (List.mem_cons_of_mem _ (List.mem_append_left _ (List.mem_append_left _ (List.mem_append_left _ (List.mem_append_left _ (List.mem_append_left _ (List.mem_append_left _ (List.mem_append_left _ (List.mem_append_left _ (List.mem_of_getElem? (i := 3) rfl))))))))))) dL_build_57 ?_
        refine lv_iand hx hb dL_build_59 ?_
        refine lv_imul hx hb dL_build_60 ?_
        obtain ⟨Ga3, Da3, Gb3, Db3, sa3, rb3, rt3, hs3, hI3, rfl⟩ := hf37_0
        refine q_aS [] hx hb hml hown hts (m_L_act l hst Dg cI cR cZ h na ta Ga3 Da3 Gb3 Db3 sa3 rb3 rt3 ((nI 14) * (((q_ce Ls xs (2 + i)) >>> ((nI 5) &&& 31)) &&& 16777215)) H.size hI3) gL_build_L_act rfl kdS_L_act ⟨Nat.le_of_ble_eq_true rfl, Nat.le_of_ble_eq_true rfl⟩ hK hN hJ hE hTA hP hD hS hA (by rw [hs3]; rfl) rfl hl.1 (Nat.le_of_ble_eq_true rfl) dL_build_61 ⟨by show _ ≤ 900; omega, by show _ ≤ 28000; omega⟩ (fun o w3 H locs hPo hP hD hS => ?_)
        obtain ⟨rfl, hST3⟩ := hPo
        rw [hs3] at hST3
        refine lv_if_ne (tgt := 69) hx hb dL_build_64 (by decide) (fun c64 => ?_) (fun c64 => absurd c64 (by decide))
        refine W.widen (k := 4 + 41 * (i + 1)) (n := 10 + 1300 * (i + 1)) (by omega) (by omega) ?_
        refine lv_iinc (v := nI (i + 1)) (lv' := [(5, .int (nI (i + 1))), (0, .ref h), (1, .ref b), (2, .ref (sa9 0)), (3, .int (nI (1 + j15))), (4, .int (nI (2 + j28)))]) hx hb dL_build_69 hl (k := 5) rfl (nI_1 _) (by decide) rfl (fun ls hl => ?_)
        refine lv_goto (tgt := 37) hx hb dL_build_72 (by decide) ?_
        exact ih37 (i + 1) w3 (by omega) (by omega) hST3 _ _ hP hD hS _ (lv_sub hl [1, 2, 3, 4, 5, 0] rfl)
  exact lp37 ((1 + j15) + 1) 0 (z_cW cI h na ta z_G0 z_D0 G1 D1 ++ q_W cI cR sa9 (fun _ => 0) (fun _ => 0) z_G0 z_D0) (by omega) (by omega) hST0 _ _ hP hD hS _ (lv_sub hl [4, 5, 3, 2, 1, 0] rfl)
