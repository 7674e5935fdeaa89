
theorem q_n64 (a b : Int32) (h : b ≠ 0) : vf_n64 (FP.ddiv (FP.i2d a) (FP.i2d b)) := by
  have h1 := z_fl a b h
  unfold vf_n64
  exact UInt64.not_lt.mp (fun z => h1 ((z_nan _).mp (decide_eq_true_iff.mpr z)))
theorem q_er_d {p : Program} {l : Launch} {e : Env} {R : Room} {s : State} {m : MethodId} {args : Array Value} {below : List Frame} {meth : Method} {c : Code} {pc : Nat} {ls : Array Slot} {cc : ByteArray} {v v' : UInt64} (h : v = v') (hx : p.tables.exec = Jvm.exec) (hb : c.code = cc) (hr : meth.sig.returnType = some .double) (hlk : meth.locks = false) (hdg : decode cc pc = .ok (.dreturn, 1)) : W p l e R s m args below meth c s.heap [] 0 0 (MQ below (z_Qr (some (.double v'))) args s 0 0 z_no) (F0 m pc ls [.double v]) := by
  subst h
  exact W.dret hx hb hr (fun t ht _ => ⟨rfl, ht⟩) (fun q hq => absurd hq List.not_mem_nil) hdg hlk
section QRD
variable {p : Program} {l : Launch} {e : Env} {R : Room} {s : State} {m : MethodId} {args : Array Value} {below : List Frame} {meth : Method} {c : Code} {H : Heap} {locs : List Loc} {cells slots : Nat} {Q : State → Prop} {pc : Nat} {ls : Array Slot} {rest st0 : List Value} {cc : ByteArray} {y : MethodName} {bytes : ByteArray} {maxL nL n index f L ci : Nat} {ret : Option FieldType} {wsy wsy' Ts : List Cond} {own C : String} {b : Addr} {As : List Value} {Dg : va_G} {cI : ClassId} {w : va_W} {fs : List Value} {vq : vw_C}
theorem q_rVd {v : UInt64} (rest : List Value) (hx : p.tables.exec = Jvm.exec) (hb : c.code = cc) (hml : c.maxLocals = nL) (hown : s.vm.findClass own = some m.cls) (hts : ∀ w ∈ Ts, w.before args s = true) (hM : z_Mr l y wsy f L (.ref b :: As) Dg cI w (some (.double v))) (hT : GoodIn Ts (wsV own index C y wsy)) (hw : wsy = Cond.code y bytes maxL ret :: wsy') (hd : y.cls = C ∧ y.cls ≠ "java/lang/invoke/MethodHandle" ∧ y.cls ≠ "java/lang/invoke/VarHandle" ∧ (parseMethodDescriptor y.desc).map (fun d => d.parameters.length) = some n) (hR : f + 1 ≤ R.frames ∧ 8 + (maxL + 11) + L ≤ R.locals)
    (hK : va_K Dg vwCl [(cI, .int)] s) (hN : z_N s) (hP : va_P Dg vwCl w H) (he : w[0]? = some (b, .inr (ci, fs))) (hc : vwCl[ci]? = some vq) (hC : vq.1 = C) (hn : As.length = n) (hsize : ls.size = nL) (hst : st0 = As.reverse ++ .ref b :: rest) (hW : (rest.map fun v => v.category).sum ≤ 8)
    (hdg : decode cc pc = .ok (.invokevirtual index, 3)) (hf : cells ≤ R.cells ∧ slots ≤ R.slots) (kk : W p l e R s m args below meth c H locs cells slots Q (F0 m (pc + 3) ls (.double v :: rest))) : W p l e R s m args below meth c H locs cells slots Q (F0 m pc ls st0) :=
  z_rV (rest := rest) ⟨hx, hb, hml, hown, hts⟩ hM (cwV n hts hT hw rfl rfl hd hR) hK hN hP he hc hC hn hsize hst hW hdg hf kk
end QRD
/-! what isSame counts for itself -/
def q_on (G : z_GG) (D : z_DD) (i : Nat) : Nat → Int32 := fun j => nI (z_ct (fun u => z_pl D u == 1 && z_sh G u == j) i)
def q_le (G : z_GG) (D : z_DD) (i : Nat) : Nat → Int32 := fun j => nI (z_ct (fun u => z_pl D u == 1 && z_bt G u == j) i)
theorem q_on_0 (G : z_GG) (D : z_DD) : (fun _ => 0) = q_on G D 0 := by
  funext j
  exact z_nI0.symm
theorem q_le_0 (G : z_GG) (D : z_DD) : (fun _ => 0) = q_le G D 0 := by
  funext j
  exact z_nI0.symm
section QON
variable {G : z_GG} {D : z_DD} {i : Nat}
theorem q_on_s (hp : z_pl D i = 1) : upd (q_on G D i) (z_sh G i) (q_on G D i (z_sh G i) + nI 1) = q_on G D (i + 1) := by
  funext j
  unfold upd q_on
  by_cases e : j = z_sh G i
  · rw [if_pos e, e, z_ct_t (p := fun u => z_pl D u == 1 && z_sh G u == z_sh G i) (n := i) (z_and_t (z_beq hp) (z_beq rfl)), nI_add]
  · rw [if_neg e, z_ct_f (p := fun u => z_pl D u == 1 && z_sh G u == j) (n := i) (z_and_f2 (z_bne (fun z => e z.symm)))]
theorem q_on_n (hp : ¬ z_pl D i = 1) : q_on G D i = q_on G D (i + 1) := by
  funext j
  unfold q_on
  rw [z_ct_f (p := fun u => z_pl D u == 1 && z_sh G u == j) (n := i) (z_and_f1 (z_bne hp))]
theorem q_le_s (hp : z_pl D i = 1) : upd (q_le G D i) (z_bt G i) (q_le G D i (z_bt G i) + nI 1) = q_le G D (i + 1) := by
  funext j
  unfold upd q_le
  by_cases e : j = z_bt G i
  · rw [if_pos e, e, z_ct_t (p := fun u => z_pl D u == 1 && z_bt G u == z_bt G i) (n := i) (z_and_t (z_beq hp) (z_beq rfl)), nI_add]
  · rw [if_neg e, z_ct_f (p := fun u => z_pl D u == 1 && z_bt G u == j) (n := i) (z_and_f2 (z_bne (fun z => e z.symm)))]
theorem q_le_n (hp : ¬ z_pl D i = 1) : q_le G D i = q_le G D (i + 1) := by
  funext j
  unfold q_le
  rw [z_ct_f (p := fun u => z_pl D u == 1 && z_bt G u == j) (n := i) (z_and_f1 (z_bne hp))]
def q_vs (D : z_DD) (i : Nat) : Int32 := z_sum (fun t => if z_pl D t = 1 then z_vc D t else 0) i
theorem q_vs_s (hp : z_pl D i = 1) : q_vs D i + z_vc D i = q_vs D (i + 1) := by
  unfold q_vs
  rw [z_sum, if_pos hp]
theorem q_vs_n (hp : ¬ z_pl D i = 1) : q_vs D i = q_vs D (i + 1) := by
  unfold q_vs
  rw [z_sum, if_neg hp, Int32.add_zero]
theorem q_shf1 (hp : z_pl D i = 1) : z_shf G D i = nI (z_sh G i) := if_pos hp
theorem q_shf0 (hp : ¬ z_pl D i = 1) : z_shf G D i = -1 := if_neg hp
end QON
/-! places, told by a flag and by a number -/
theorem q_fl_t {x y : Nat} (h : x - 1 = y) (hx : 1 ≤ x) : z_bI (x == y + 1) = 1 := by
  rw [z_beq (show x = y + 1 by omega)]
  rfl
theorem q_fl_f {x y : Nat} (h : ¬ nI (x - 1) = nI y) : z_bI (x == y + 1) = 0 := by
  rw [z_bne (fun e => h (by rw [e]; rfl))]
  rfl
theorem q_rc1 {r : Bool} (h : z_bI r = nI 1) : z_bI r = 1 := h
theorem q_rc0 {r : Bool} (h : ¬ z_bI r = nI 1) : z_bI r = 0 := by
  cases r
  · rfl
  · exact absurd rfl h
theorem q_mvn {G : z_GG} {D : z_DD} (hG : z_WG G) : FP.Core.val64 (z_mv G D) ≠ .nan := by
  have htc : z_tc G ≤ 60 := hG.2.2.2.2.2.1
  have hcn : z_cn G D 1 ≤ z_tc G := z_ct_le _ _
  by_cases h : z_cn G D 1 = 0
  · rw [z_mv0 h]
    exact z_f0
  · rw [z_mv1 h]
    exact z_fl _ _ (fun e => h (z_eq (b := 0) (by omega) (by decide) e))
set_option maxHeartbeats 4000000 in
set_option maxRecDepth 100000 in
theorem m_X2_meanP (l : Launch) (Dg : va_G) (cI : ClassId) (h : Nat) (na ta : Nat → Nat) (G : z_GG) (D : z_DD) (G1 : z_GG) (D1 : z_DD) (hG : z_WG G) (hW : z_WD G D) : z_Mr l yX2_meanVacuum wsX2_meanVacuum 3 64 [.ref h] Dg cI (z_cW cI h na ta G D G1 D1) (some (.double (z_mv G D))) := by
  have htc : z_tc G ≤ 60 := hG.2.2.2.2.2.1
  have hbc : z_bc G ≤ 6 := hG.2.2.2.2.1
  have hcn : z_cn G D 1 ≤ z_tc G := z_ct_le _ _
  refine z_sr (own := RX2) (l0 := [(0, .ref h)]) rfl rfl (by decide) (Nat.le_of_ble_eq_true rfl) rfl ?_
  intro p e s m below meth c hx hb hr hml hts hown hlk hP hK hN ls hl
  refine lv_aload_n hx hb dX2_meanVacuum_0 rfl (lv_at hl 0 rfl) ?_
  refine va_get (ci := 2) (v := .ref (na 0)) (C := RX2) (T := TX2) (N := 2) hx hb hts (fun _ h => (List.mem_cons_of_mem _ (List.mem_append_left _ (List.mem_append_left _ (List.mem_append_right _ h))))) hown hK hP 0 rfl rfl 0 (by decide) (hts _ (List.mem_cons_of_mem _ (List.mem_append_left _ (List.mem_append_left _ (List.mem_append_left _ (List.mem_of_getElem? (i := 0) rfl)))))) (fun _ h9 => h9) rfl dX2_meanVacuum_1 ?_
  refine lv_iconst (v := nI 1) hx hb dX2_meanVacuum_4 (by decide) ?_
  refine z_rVi (v := nI (z_cn G D 1)) [] hx hb hml hown hts (m_X1_countAt l Dg cI na G D 1 (by decide) hG hW) gX2_meanVacuum_X1_countAt rfl kd_X1_countAt ⟨Nat.le_of_ble_eq_true rfl, Nat.le_of_ble_eq_true rfl⟩ hK hN (z_Pm (a := [(h, .inr (2, [.ref (na 0), .ref (ta 0)]))]) (c := (z_sW cI ta G1 D1)) hP) rfl rfl rfl rfl hl.1 rfl (Nat.le_of_ble_eq_true rfl) dX2_meanVacuum_5 ⟨Nat.zero_le _, Nat.zero_le _⟩ ?_
  refine lv_istore_n (lv' := [(1, .int (nI (z_cn G D 1))), (0, .ref h)]) hx hb dX2_meanVacuum_8 rfl hl (by decide) rfl (fun ls hl => ?_)
  refine lv_iload_n hx hb dX2_meanVacuum_9 rfl (lv_at hl 0 rfl) ?_
  refine lv_if_ne (tgt := 15) hx hb dX2_meanVacuum_10 (by decide) (fun c10 => ?_) (fun c10 => ?_)
  · skip
    have hz : ¬ z_cn G D 1 = 0 := fun q => c10 (by rw [q]; rfl)
    have hz2 : nI (z_cn G D 1) ≠ 0 := c10
    refine lv_aload_n hx hb dX2_meanVacuum_15 rfl (lv_at hl 1 rfl) ?_
    refine va_get (ci := 2) (v := .ref (na 0)) (C := RX2) (T := TX2) (N := 2) hx hb hts (fun _ h => (List.mem_cons_of_mem _ (List.mem_append_left _ (List.mem_append_left _ (List.mem_append_right _ h))))) hown hK hP 0 rfl rfl 0 (by decide) (hts _ (List.mem_cons_of_mem _ (List.mem_append_left _ (List.mem_append_left _ (List.mem_append_left _ (List.mem_of_getElem? (i := 0) rfl)))))) (fun _ h9 => h9) rfl dX2_meanVacuum_16 ?_
    refine z_rVi (v := z_vh G D) [] hx hb hml hown hts (m_X1_vacuumHeld l Dg cI na G D hG hW) gX2_meanVacuum_X1_vacuumHeld rfl kd_X1_vacuumHeld ⟨Nat.le_of_ble_eq_true rfl, Nat.le_of_ble_eq_true rfl⟩ hK hN (z_Pm (a := [(h, .inr (2, [.ref (na 0), .ref (ta 0)]))]) (c := (z_sW cI ta G1 D1)) hP) rfl rfl rfl rfl hl.1 rfl (Nat.le_of_ble_eq_true rfl) dX2_meanVacuum_19 ⟨Nat.zero_le _, Nat.zero_le _⟩ ?_
    refine lv_i2d hx hb dX2_meanVacuum_22 ?_
    refine lv_iload_n hx hb dX2_meanVacuum_23 rfl (lv_at hl 0 rfl) ?_
    refine lv_i2d hx hb dX2_meanVacuum_24 ?_
    refine lv_ddiv hx hb dX2_meanVacuum_25 (q_n64 _ _ hz2) ?_
    exact q_er_d (z_mv1 hz).symm hx hb hr hlk dX2_meanVacuum_26
  · skip
    have hz : z_cn G D 1 = 0 := z_eq (b := 0) (by omega) (by decide) c10
    refine lv_dconst0 hx hb dX2_meanVacuum_13 ?_
    exact q_er_d (z_mv0 hz).symm hx hb hr hlk dX2_meanVacuum_14
