/-! THE MEAN -/
def z_mv (G : z_GG) (D : z_DD) : UInt64 := if z_cn G D 1 = 0 then FP.dconst0 else FP.ddiv (FP.i2d (z_vh G D)) (FP.i2d (nI (z_cn G D 1)))
theorem z_mv0 {G : z_GG} {D : z_DD} (h : z_cn G D 1 = 0) : z_mv G D = FP.dconst0 := if_pos h
theorem z_mv1 {G : z_GG} {D : z_DD} (h : ¬ z_cn G D 1 = 0) : z_mv G D = FP.ddiv (FP.i2d (z_vh G D)) (FP.i2d (nI (z_cn G D 1))) := if_neg h
def z_QM (V : UInt64) (Dg : va_G) (w w' : va_W) : Array Value → State → Outcome → State → Prop := va_Qd (S := Unit) (fun r _ => alike64 r V = true) (fun _ t => va_P Dg vwCl w' t.heap) (z_in w)
abbrev z_MM (l : Launch) (y : MethodName) (ws : List Cond) (f L : Nat) (As : List Value) (Dg : va_G) (cI : ClassId) (w : va_W) (V : UInt64) (w' : va_W) : Prop := MetD lw_cs l y ws ({ frames := f, cells := 0, slots := 0, locals := L }) (z_Pw As Dg cI w) (z_QM V Dg w w') 0 0 (z_in w)
theorem z_sM {l : Launch} {y : MethodName} {ws ws' : List Cond} {f L : Nat} {As : List Value} {Dg : va_G} {cI : ClassId} {w : va_W} {Qc : Array Value → State → Outcome → State → Prop} {cc : ByteArray} {maxL : Nat} {ret : Option FieldType} {l0 : List (Nat × Value)} {own : String}
    (hw : ws = Cond.code y cc maxL ret :: ws') (hl0 : lv_args 0 As = l0) (hy : plainName y.cls = true) (hn : (lg_sl As).length ≤ maxL) (ho : y.cls = own)
    (body : ∀ (p : Program) (e : Env) (s0 s : State) (m : MethodId) (below : List Frame) (meth : Method) (c : Code), s = s0.setDrawn s0.drawn → s0.drawn.sameBut s0.drawn lw_cs → p.tables.exec = Jvm.exec → c.code = cc → meth.sig.returnType = ret → c.maxLocals = maxL → (∀ w ∈ ws, w.before As.toArray s = true) → s.vm.findClass own = some m.cls → meth.locks = false → va_P Dg vwCl w s.heap → va_K Dg vwCl [(cI, .int)] s → z_N s → va_D (z_in w) w → va_S (z_in w) s.heap s.heap [] → ∀ ls : Array Slot, lv_has ls maxL l0 → W p l e ({ frames := f, cells := 0, slots := 0, locals := L }) s m As.toArray below meth c s.heap [] 0 0 (MQD lw_cs below Qc As.toArray s0 0 0 (z_in w)) (F0 m 0 ls [])) :
    MetD lw_cs l y ws ({ frames := f, cells := 0, slots := 0, locals := L }) (z_Pw As Dg cI w) Qc 0 0 (z_in w) := by
  refine MetD.ofW (cc := cc) (maxL := maxL) (ret := ret) hy hw ?_
  intro p e s m args below meth c s₁ B hml hv hd0
  obtain ⟨rfl, hP, hK, hD⟩ := hv
  rw [lg_entry_eq]
  have hl := lv_entry As (n := maxL) hn
  rw [hl0] at hl
  exact body p e s _ m below meth c rfl hd0 B.exec B.bytes B.returns hml (dr_words (atoms_spec (ws := ws) B.pre) _) (ho ▸ findClass_of_methodNamed B.named) B.notSynchronized hP (va_K.moved (u := s) (Vm.Alike.refl s.vm) hK.1) (hK.2.same (u := s) rfl) (hD.weaken (fun k q h _ => ⟨k, q.2, h⟩)) va_S.rf _ hl
theorem z_eM {p : Program} {l : Launch} {e : Env} {R : Room} {s : State} {m : MethodId} {args : Array Value} {below : List Frame} {meth : Method} {c : Code} {H : Heap} {locs : List Loc} {pc : Nat} {ls : Array Slot} {cc : ByteArray} {Dg : va_G} {w w' : va_W} {d0 : Drawn} {r V : UInt64} (hd : s.drawn.sameBut d0 lw_cs) (hal : alike64 r V = true) (hP : va_P Dg vwCl w' H) (hS : va_S (z_in w) s.heap H locs) (hx : p.tables.exec = Jvm.exec) (hb : c.code = cc) (hr : meth.sig.returnType = some .double) (hlk : meth.locks = false) (hdg : decode cc pc = .ok (.dreturn, 1)) : W p l e R (s.setDrawn d0) m args below meth c H locs 0 0 (MQD lw_cs below (z_QM V Dg w w') args s 0 0 (z_in w)) (F0 m pc ls [.double r]) :=
  W.endD hd (W.dret hx hb hr (fun t ht _ => ⟨⟨r, (), rfl, hal, (by show va_P Dg vwCl w' t.heap; rw [ht]; exact hP)⟩, hS.F ht⟩) hS.2.2 hdg hlk)
theorem kd_X1_vacuumHeld : yX1_vacuumHeld.cls = RX1 ∧ yX1_vacuumHeld.cls ≠ "java/lang/invoke/MethodHandle" ∧ yX1_vacuumHeld.cls ≠ "java/lang/invoke/VarHandle" ∧ (parseMethodDescriptor yX1_vacuumHeld.desc).map (fun d => d.parameters.length) = some 0 := by decide +kernel
set_option maxHeartbeats 4000000 in
set_option maxRecDepth 100000 in
theorem m_X2_meanVacuum (l : Launch) (Dg : va_G) (cI : ClassId) (h : Nat) (na ta : Nat → Nat) (G : z_GG) (D : z_DD) (G1 : z_GG) (D1 : z_DD) (hG : z_WG G) (hW : z_WD G D) : z_MM l yX2_meanVacuum wsX2_meanVacuum 3 64 [.ref h] Dg cI (z_cW cI h na ta G D G1 D1) (z_mv G D) (z_cW cI h na ta G D G1 D1) := by
  have htc : z_tc G ≤ 60 := hG.2.2.2.2.2.1
  have hbc : z_bc G ≤ 6 := hG.2.2.2.2.1
  have hcn : z_cn G D 1 ≤ z_tc G := z_ct_le _ _
  refine z_sM (own := RX2) (l0 := [(0, .ref h)]) rfl rfl (by decide) (Nat.le_of_ble_eq_true rfl) rfl ?_
  intro p e s0 s m below meth c hs hd0 hx hb hr hml hts hown hlk hP hK hN hD hS ls hl
  refine lv_aload_n hx hb dX2_meanVacuum_0 rfl (lv_at hl 0 rfl) ?_
  refine va_get (ci := 2) (v := .ref (na 0)) (C := RX2) (T := TX2) (N := 2) hx hb hts (fun _ h => (List.mem_cons_of_mem _ (List.mem_append_left _ (List.mem_append_left _ (List.mem_append_right _ h))))) hown hK hP 0 rfl rfl 0 (by decide) (hts _ (List.mem_cons_of_mem _ (List.mem_append_left _ (List.mem_append_left _ (List.mem_append_left _ (List.mem_of_getElem? (i := 0) rfl)))))) (fun _ h9 => h9) rfl dX2_meanVacuum_1 ?_
  refine lv_iconst (v := nI 1) hx hb dX2_meanVacuum_4 (by decide) ?_
  refine z_rVi (v := nI (z_cn G D 1)) [] hx hb hml hown hts (m_X1_countAt l Dg cI na G D 1 (by decide) hG hW) gX2_meanVacuum_X1_countAt rfl kd_X1_countAt ⟨Nat.le_of_ble_eq_true rfl, Nat.le_of_ble_eq_true rfl⟩ hK hN (z_Pm (a := [(h, .inr (2, [.ref (na 0), .ref (ta 0)]))]) (c := (z_sW cI ta G1 D1)) hP) rfl rfl rfl rfl hl.1 rfl (Nat.le_of_ble_eq_true rfl) dX2_meanVacuum_5 ⟨Nat.zero_le _, Nat.zero_le _⟩ ?_
  refine lv_istore_n (lv' := [(1, .int (nI (z_cn G D 1))), (0, .ref h)]) hx hb dX2_meanVacuum_8 rfl hl (by decide) rfl (fun ls hl => ?_)
  refine lv_iload_n hx hb dX2_meanVacuum_9 rfl (lv_at hl 0 rfl) ?_
  refine lv_if_ne (tgt := 15) hx hb dX2_meanVacuum_10 (by decide) (fun c10 => ?_) (fun c10 => ?_)
  · skip
    have hz : ¬ z_cn G D 1 = 0 := fun q => c10 (by rw [q]; rfl)
    refine lv_aload_n hx hb dX2_meanVacuum_15 rfl (lv_at hl 1 rfl) ?_
    refine va_get (ci := 2) (v := .ref (na 0)) (C := RX2) (T := TX2) (N := 2) hx hb hts (fun _ h => (List.mem_cons_of_mem _ (List.mem_append_left _ (List.mem_append_left _ (List.mem_append_right _ h))))) hown hK hP 0 rfl rfl 0 (by decide) (hts _ (List.mem_cons_of_mem _ (List.mem_append_left _ (List.mem_append_left _ (List.mem_append_left _ (List.mem_of_getElem? (i := 0) rfl)))))) (fun _ h9 => h9) rfl dX2_meanVacuum_16 ?_
    refine z_rVi (v := z_vh G D) [] hx hb hml hown hts (m_X1_vacuumHeld l Dg cI na G D hG hW) gX2_meanVacuum_X1_vacuumHeld rfl kd_X1_vacuumHeld ⟨Nat.le_of_ble_eq_true rfl, Nat.le_of_ble_eq_true rfl⟩ hK hN (z_Pm (a := [(h, .inr (2, [.ref (na 0), .ref (ta 0)]))]) (c := (z_sW cI ta G1 D1)) hP) rfl rfl rfl rfl hl.1 rfl (Nat.le_of_ble_eq_true rfl) dX2_meanVacuum_19 ⟨Nat.zero_le _, Nat.zero_le _⟩ ?_
    refine lv_i2d hx hb dX2_meanVacuum_22 ?_
    refine lv_iload_n hx hb dX2_meanVacuum_23 rfl (lv_at hl 0 rfl) ?_
    refine lv_i2d hx hb dX2_meanVacuum_24 ?_
    have hP9 := hP
    have hS9 := hS
    subst hs
    refine lv_ddiv_any (s := s0) hd0 lw_bits hx hb dX2_meanVacuum_25 (fun r d1 hal hd1 => ?_)
    exact z_eM hd1 (by rw [z_mv1 hz]; exact hal) hP9 hS9 hx hb hr hlk dX2_meanVacuum_26
  · skip
    have hz : z_cn G D 1 = 0 := z_eq (b := 0) (by omega) (by decide) c10
    refine lv_dconst0 hx hb dX2_meanVacuum_13 ?_
    have hP9 := hP
    have hS9 := hS
    subst hs
    exact z_eM (s := s0) hd0 (by rw [z_mv0 hz]; exact alike64_refl _) hP9 hS9 hx hb hr hlk dX2_meanVacuum_14

