theorem kd_X0_set : yX0_set.cls = RX0 ∧ yX0_set.cls ≠ "java/lang/invoke/MethodHandle" ∧ yX0_set.cls ≠ "java/lang/invoke/VarHandle" ∧ (parseMethodDescriptor yX0_set.desc).map (fun d => d.parameters.length) = some 2 := by decide +kernel
theorem kd_X1_firstBy : yX1_firstBy.cls = RX1 ∧ yX1_firstBy.cls ≠ "java/lang/invoke/MethodHandle" ∧ yX1_firstBy.cls ≠ "java/lang/invoke/VarHandle" ∧ (parseMethodDescriptor yX1_firstBy.desc).map (fun d => d.parameters.length) = some 1 := by decide +kernel
theorem kd_X1_holds : yX1_holds.cls = RX1 ∧ yX1_holds.cls ≠ "java/lang/invoke/MethodHandle" ∧ yX1_holds.cls ≠ "java/lang/invoke/VarHandle" ∧ (parseMethodDescriptor yX1_holds.desc).map (fun d => d.parameters.length) = some 1 := by decide +kernel
theorem kd_X1_isBatchRecalled : yX1_isBatchRecalled.cls = RX1 ∧ yX1_isBatchRecalled.cls ≠ "java/lang/invoke/MethodHandle" ∧ yX1_isBatchRecalled.cls ≠ "java/lang/invoke/VarHandle" ∧ (parseMethodDescriptor yX1_isBatchRecalled.desc).map (fun d => d.parameters.length) = some 1 := by decide +kernel
theorem kd_X1_rankBy : yX1_rankBy.cls = RX1 ∧ yX1_rankBy.cls ≠ "java/lang/invoke/MethodHandle" ∧ yX1_rankBy.cls ≠ "java/lang/invoke/VarHandle" ∧ (parseMethodDescriptor yX1_rankBy.desc).map (fun d => d.parameters.length) = some 2 := by decide +kernel
theorem kd_X1_recallBatch : yX1_recallBatch.cls = RX1 ∧ yX1_recallBatch.cls ≠ "java/lang/invoke/MethodHandle" ∧ yX1_recallBatch.cls ≠ "java/lang/invoke/VarHandle" ∧ (parseMethodDescriptor yX1_recallBatch.desc).map (fun d => d.parameters.length) = some 1 := by decide +kernel
theorem kd_X1_recallSwelled : yX1_recallSwelled.cls = RX1 ∧ yX1_recallSwelled.cls ≠ "java/lang/invoke/MethodHandle" ∧ yX1_recallSwelled.cls ≠ "java/lang/invoke/VarHandle" ∧ (parseMethodDescriptor yX1_recallSwelled.desc).map (fun d => d.parameters.length) = some 0 := by decide +kernel
theorem kd_X1_ship : yX1_ship.cls = RX1 ∧ yX1_ship.cls ≠ "java/lang/invoke/MethodHandle" ∧ yX1_ship.cls ≠ "java/lang/invoke/VarHandle" ∧ (parseMethodDescriptor yX1_ship.desc).map (fun d => d.parameters.length) = some 1 := by decide +kernel
theorem kd_X1_swellLid : yX1_swellLid.cls = RX1 ∧ yX1_swellLid.cls ≠ "java/lang/invoke/MethodHandle" ∧ yX1_swellLid.cls ≠ "java/lang/invoke/VarHandle" ∧ (parseMethodDescriptor yX1_swellLid.desc).map (fun d => d.parameters.length) = some 1 := by decide +kernel
theorem kd_X1_wearOn : yX1_wearOn.cls = RX1 ∧ yX1_wearOn.cls ≠ "java/lang/invoke/MethodHandle" ∧ yX1_wearOn.cls ≠ "java/lang/invoke/VarHandle" ∧ (parseMethodDescriptor yX1_wearOn.desc).map (fun d => d.parameters.length) = some 2 := by decide +kernel
theorem kd_X1_wearTins : yX1_wearTins.cls = RX1 ∧ yX1_wearTins.cls ≠ "java/lang/invoke/MethodHandle" ∧ yX1_wearTins.cls ≠ "java/lang/invoke/VarHandle" ∧ (parseMethodDescriptor yX1_wearTins.desc).map (fun d => d.parameters.length) = some 0 := by decide +kernel
set_option maxHeartbeats 4000000 in
set_option maxRecDepth 100000 in
theorem m_X1_holds (l : Launch) (Dg : va_G) (cI : ClassId) (a : Nat → Nat) (G : z_GG) (D : z_DD) (t : Nat) (ht : t < z_tc G) (hG : z_WG G) (hW : z_WD G D) : z_Mr l yX1_holds wsX1_holds 1 21 [.ref (a 0), .int (nI t)] Dg cI (z_sW cI a G D) (some (.int (z_bI (z_pl D t == 1)))) := by
  have htc : z_tc G ≤ 60 := hG.2.2.2.2.2.1
  have hpl := hW t ht
  refine z_sr (own := RX1) (l0 := [(0, .ref (a 0)), (1, .int (nI t))]) rfl rfl (by decide) (Nat.le_of_ble_eq_true rfl) rfl ?_
  intro p e s m below meth c hx hb hr hml hts hown hlk hP hK hN ls hl
  refine lv_aload_n hx hb dX1_holds_0 rfl (lv_at hl 0 rfl) ?_
  refine va_get (ci := 1) (v := .ref (a 9)) (C := RX1) (T := TX1) (N := 14) hx hb hts (fun _ h => (List.mem_cons_of_mem _ (List.mem_append_left _ (List.mem_append_right _ h)))) hown hK hP 0 rfl rfl 9 (by decide) (hts _ (List.mem_cons_of_mem _ (List.mem_append_left _ (List.mem_append_left _ (List.mem_of_getElem? (i := 0) rfl))))) (fun _ h9 => h9) rfl dX1_holds_1 ?_
  refine lv_iload_n hx hb dX1_holds_4 rfl (lv_at hl 1 rfl) ?_
  refine z_rVi (v := nI (z_pl D t)) [] hx hb hml hown hts (m_X0_get l Dg cI (a 9) (a 18) 60 (fun j9 => nI (z_pl D j9)) t (by omega) (by decide)) gX1_holds_X0_get rfl kd_X0_get ⟨Nat.le_of_ble_eq_true rfl, Nat.le_of_ble_eq_true rfl⟩ hK hN (hP.sub [9, 18] rfl) rfl rfl rfl rfl hl.1 rfl (Nat.le_of_ble_eq_true rfl) dX1_holds_5 ⟨Nat.zero_le _, Nat.zero_le _⟩ ?_
  refine lv_iconst (v := nI 1) hx hb dX1_holds_8 (by decide) ?_
  refine lv_icmp_ne (tgt := 16) hx hb dX1_holds_9 (by decide) (fun c9 => ?_) (fun c9 => ?_)
  · skip
    refine lv_iconst (v := 0) hx hb dX1_holds_16 (by decide) ?_
    exact z_er_z (z_b0 (z_bne (z_ne (by omega) (by decide) c9))) hx hb hr hlk dX1_holds_17
  · skip
    refine lv_iconst (v := 1) hx hb dX1_holds_12 (by decide) ?_
    refine lv_goto (tgt := 17) hx hb dX1_holds_13 (by decide) ?_
    exact z_er_z (z_b1 (z_beq (z_eq (by omega) (by decide) c9))) hx hb hr hlk dX1_holds_17

set_option maxHeartbeats 4000000 in
set_option maxRecDepth 100000 in
theorem m_X1_isBatchRecalled (l : Launch) (Dg : va_G) (cI : ClassId) (a : Nat → Nat) (G : z_GG) (D : z_DD) (b : Nat) (hb6 : b < 6) : z_Mr l yX1_isBatchRecalled wsX1_isBatchRecalled 1 21 [.ref (a 0), .int (nI b)] Dg cI (z_sW cI a G D) (some (.int (z_bI (z_rc D b)))) := by
  refine z_sr (own := RX1) (l0 := [(0, .ref (a 0)), (1, .int (nI b))]) rfl rfl (by decide) (Nat.le_of_ble_eq_true rfl) rfl ?_
  intro p e s m below meth c hx hb hr hml hts hown hlk hP hK hN ls hl
  refine lv_aload_n hx hb dX1_isBatchRecalled_0 rfl (lv_at hl 0 rfl) ?_
  refine va_get (ci := 1) (v := .ref (a 5)) (C := RX1) (T := TX1) (N := 14) hx hb hts (fun _ h => (List.mem_cons_of_mem _ (List.mem_append_left _ (List.mem_append_right _ h)))) hown hK hP 0 rfl rfl 4 (by decide) (hts _ (List.mem_cons_of_mem _ (List.mem_append_left _ (List.mem_append_left _ (List.mem_of_getElem? (i := 0) rfl))))) (fun _ h9 => h9) rfl dX1_isBatchRecalled_1 ?_
  refine lv_iload_n hx hb dX1_isBatchRecalled_4 rfl (lv_at hl 1 rfl) ?_
  refine z_rVi (v := z_bI (z_rc D b)) [] hx hb hml hown hts (m_X0_get l Dg cI (a 5) (a 14) 6 (fun j9 => z_bI (z_rc D j9)) b (by omega) (by decide)) gX1_isBatchRecalled_X0_get rfl kd_X0_get ⟨Nat.le_of_ble_eq_true rfl, Nat.le_of_ble_eq_true rfl⟩ hK hN (hP.sub [5, 14] rfl) rfl rfl rfl rfl hl.1 rfl (Nat.le_of_ble_eq_true rfl) dX1_isBatchRecalled_5 ⟨Nat.zero_le _, Nat.zero_le _⟩ ?_
  refine lv_if_eq (tgt := 15) hx hb dX1_isBatchRecalled_8 (by decide) (fun c8 => ?_) (fun c8 => ?_)
  · skip
    refine lv_iconst (v := 0) hx hb dX1_isBatchRecalled_15 (by decide) ?_
    exact z_er_z (z_b0 (z_bI0 c8)) hx hb hr hlk dX1_isBatchRecalled_16
  · skip
    refine lv_iconst (v := 1) hx hb dX1_isBatchRecalled_11 (by decide) ?_
    refine lv_goto (tgt := 16) hx hb dX1_isBatchRecalled_12 (by decide) ?_
    exact z_er_z (z_b1 (z_bI1 c8)) hx hb hr hlk dX1_isBatchRecalled_16

set_option maxHeartbeats 4000000 in
set_option maxRecDepth 100000 in
theorem m_X1_wearOn (l : Launch) (Dg : va_G) (cI : ClassId) (a : Nat → Nat) (G : z_GG) (D : z_DD) (t s_ : Nat) (ht : t < z_tc G) (hs4 : s_ < 4) (hG : z_WG G) : z_Mr l yX1_wearOn wsX1_wearOn 1 21 [.ref (a 0), .int (nI t), .int (nI s_)] Dg cI (z_sW cI a G D) (some (.int (z_rt G t s_))) := by
  have htc : z_tc G ≤ 60 := hG.2.2.2.2.2.1
  have hbt := hG.2.2.1 t
  refine z_sr (own := RX1) (l0 := [(0, .ref (a 0)), (1, .int (nI t)), (2, .int (nI s_))]) rfl rfl (by decide) (Nat.le_of_ble_eq_true rfl) rfl ?_
  intro p e s m below meth c hx hb hr hml hts hown hlk hP hK hN ls hl
  refine lv_aload_n hx hb dX1_wearOn_0 rfl (lv_at hl 0 rfl) ?_
  refine va_get (ci := 1) (v := .ref (a 3)) (C := RX1) (T := TX1) (N := 14) hx hb hts (fun _ h => (List.mem_cons_of_mem _ (List.mem_append_left _ (List.mem_append_right _ h)))) hown hK hP 0 rfl rfl 2 (by decide) (hts _ (List.mem_cons_of_mem _ (List.mem_append_left _ (List.mem_append_left _ (List.mem_of_getElem? (i := 0) rfl))))) (fun _ h9 => h9) rfl dX1_wearOn_1 ?_
  refine lv_aload_n hx hb dX1_wearOn_4 rfl (lv_at hl 0 rfl) ?_
  refine va_get (ci := 1) (v := .ref (a 6)) (C := RX1) (T := TX1) (N := 14) hx hb hts (fun _ h => (List.mem_cons_of_mem _ (List.mem_append_left _ (List.mem_append_right _ h)))) hown hK hP 0 rfl rfl 6 (by decide) (hts _ (List.mem_cons_of_mem _ (List.mem_append_left _ (List.mem_append_left _ (List.mem_of_getElem? (i := 1) rfl))))) (fun _ h9 => h9) rfl dX1_wearOn_5 ?_
  refine lv_iload_n hx hb dX1_wearOn_8 rfl (lv_at hl 1 rfl) ?_
  refine z_rVi (v := nI (z_bt G t)) [.ref (a 3)] hx hb hml hown hts (m_X0_get l Dg cI (a 6) (a 15) 60 (fun j9 => nI (z_bt G j9)) t (by omega) (by decide)) gX1_wearOn_X0_get rfl kd_X0_get ⟨Nat.le_of_ble_eq_true rfl, Nat.le_of_ble_eq_true rfl⟩ hK hN (hP.sub [6, 15] rfl) rfl rfl rfl rfl hl.1 rfl (Nat.le_of_ble_eq_true rfl) dX1_wearOn_9 ⟨Nat.zero_le _, Nat.zero_le _⟩ ?_
  refine z_rVi (v := z_lk G (z_bt G t)) [] hx hb hml hown hts (m_X0_get l Dg cI (a 3) (a 12) 6 (z_lk G) (z_bt G t) (by omega) (by decide)) gX1_wearOn_X0_get rfl kd_X0_get ⟨Nat.le_of_ble_eq_true rfl, Nat.le_of_ble_eq_true rfl⟩ hK hN (hP.sub [3, 12] rfl) rfl rfl rfl rfl hl.1 rfl (Nat.le_of_ble_eq_true rfl) dX1_wearOn_12 ⟨Nat.zero_le _, Nat.zero_le _⟩ ?_
  refine lv_aload_n hx hb dX1_wearOn_15 rfl (lv_at hl 0 rfl) ?_
  refine va_get (ci := 1) (v := .ref (a 1)) (C := RX1) (T := TX1) (N := 14) hx hb hts (fun _ h => (List.mem_cons_of_mem _ (List.mem_append_left _ (List.mem_append_right _ h)))) hown hK hP 0 rfl rfl 0 (by decide) (hts _ (List.mem_cons_of_mem _ (List.mem_append_left _ (List.mem_append_left _ (List.mem_of_getElem? (i := 2) rfl))))) (fun _ h9 => h9) rfl dX1_wearOn_16 ?_
  refine lv_iload_n hx hb dX1_wearOn_19 rfl (lv_at hl 2 rfl) ?_
  refine z_rVi (v := z_wm G s_) [.int (z_lk G (z_bt G t))] hx hb hml hown hts (m_X0_get l Dg cI (a 1) (a 10) 4 (z_wm G) s_ (by omega) (by decide)) gX1_wearOn_X0_get rfl kd_X0_get ⟨Nat.le_of_ble_eq_true rfl, Nat.le_of_ble_eq_true rfl⟩ hK hN (hP.sub [1, 10] rfl) rfl rfl rfl rfl hl.1 rfl (Nat.le_of_ble_eq_true rfl) dX1_wearOn_20 ⟨Nat.zero_le _, Nat.zero_le _⟩ ?_
  refine lv_iadd hx hb dX1_wearOn_23 ?_
  exact z_er_i rfl hx hb hr hlk dX1_wearOn_24

set_option maxHeartbeats 4000000 in
set_option maxRecDepth 100000 in
theorem m_X1_rankBy (l : Launch) (Dg : va_G) (cI : ClassId) (a : Nat → Nat) (G : z_GG) (D : z_DD) (t o : Nat) (ht : t < z_tc G) (ho : o < 3) (hG : z_WG G) : z_Mr l yX1_rankBy wsX1_rankBy 1 21 [.ref (a 0), .int (nI t), .int (nI o)] Dg cI (z_sW cI a G D) (some (.int (z_ky G D o t))) := by
  have htc : z_tc G ≤ 60 := hG.2.2.2.2.2.1
  have hsh := hG.2.2.2.1 t
  refine z_sr (own := RX1) (l0 := [(0, .ref (a 0)), (1, .int (nI t)), (2, .int (nI o))]) rfl rfl (by decide) (Nat.le_of_ble_eq_true rfl) rfl ?_
  intro p e s m below meth c hx hb hr hml hts hown hlk hP hK hN ls hl
  refine lv_iload_n hx hb dX1_rankBy_0 rfl (lv_at hl 2 rfl) ?_
  refine lv_iconst (v := nI 1) hx hb dX1_rankBy_1 (by decide) ?_
  refine lv_icmp_ne (tgt := 19) hx hb dX1_rankBy_2 (by decide) (fun c2 => ?_) (fun c2 => ?_)
  · skip
    have ho1 := z_ne (by omega) (by decide) c2
    refine lv_iload_n hx hb dX1_rankBy_19 rfl (lv_at hl 2 rfl) ?_
    refine lv_iconst (v := nI 2) hx hb dX1_rankBy_20 (by decide) ?_
    refine lv_icmp_ne (tgt := 47) hx hb dX1_rankBy_21 (by decide) (fun c21 => ?_) (fun c21 => ?_)
    · skip
      have ho2 := z_ne (by omega) (by decide) c21
      refine lv_iload_n hx hb dX1_rankBy_47 rfl (lv_at hl 1 rfl) ?_
      exact z_er_i (by rw [z_ky, if_neg ho1, if_neg ho2]) hx hb hr hlk dX1_rankBy_48
    · skip
      have ho2 := z_eq (by omega) (by decide) c21
      refine lv_iconst (v := 3) hx hb dX1_rankBy_24 (by decide) ?_
      refine lv_aload_n hx hb dX1_rankBy_25 rfl (lv_at hl 0 rfl) ?_
      refine va_get (ci := 1) (v := .ref (a 1)) (C := RX1) (T := TX1) (N := 14) hx hb hts (fun _ h => (List.mem_cons_of_mem _ (List.mem_append_left _ (List.mem_append_right _ h)))) hown hK hP 0 rfl rfl 0 (by decide) (hts _ (List.mem_cons_of_mem _ (List.mem_append_left _ (List.mem_append_left _ (List.mem_of_getElem? (i := 1) rfl))))) (fun _ h9 => h9) rfl dX1_rankBy_26 ?_
      refine lv_aload_n hx hb dX1_rankBy_29 rfl (lv_at hl 0 rfl) ?_
      refine va_get (ci := 1) (v := .ref (a 7)) (C := RX1) (T := TX1) (N := 14) hx hb hts (fun _ h => (List.mem_cons_of_mem _ (List.mem_append_left _ (List.mem_append_right _ h)))) hown hK hP 0 rfl rfl 7 (by decide) (hts _ (List.mem_cons_of_mem _ (List.mem_append_left _ (List.mem_append_left _ (List.mem_of_getElem? (i := 2) rfl))))) (fun _ h9 => h9) rfl dX1_rankBy_30 ?_
      refine lv_iload_n hx hb dX1_rankBy_33 rfl (lv_at hl 1 rfl) ?_
      refine z_rVi (v := nI (z_sh G t)) [.ref (a 1), .int 3] hx hb hml hown hts (m_X0_get l Dg cI (a 7) (a 16) 60 (fun j9 => nI (z_sh G j9)) t (by omega) (by decide)) gX1_rankBy_X0_get rfl kd_X0_get ⟨Nat.le_of_ble_eq_true rfl, Nat.le_of_ble_eq_true rfl⟩ hK hN (hP.sub [7, 16] rfl) rfl rfl rfl rfl hl.1 rfl (Nat.le_of_ble_eq_true rfl) dX1_rankBy_34 ⟨Nat.zero_le _, Nat.zero_le _⟩ ?_
      refine z_rVi (v := z_wm G (z_sh G t)) [.int 3] hx hb hml hown hts (m_X0_get l Dg cI (a 1) (a 10) 4 (z_wm G) (z_sh G t) (by omega) (by decide)) gX1_rankBy_X0_get rfl kd_X0_get ⟨Nat.le_of_ble_eq_true rfl, Nat.le_of_ble_eq_true rfl⟩ hK hN (hP.sub [1, 10] rfl) rfl rfl rfl rfl hl.1 rfl (Nat.le_of_ble_eq_true rfl) dX1_rankBy_37 ⟨Nat.zero_le _, Nat.zero_le _⟩ ?_
      refine lv_isub hx hb dX1_rankBy_40 ?_
      refine lv_bipush (v := 60) hx hb dX1_rankBy_41 (by decide) ?_
      refine lv_imul hx hb dX1_rankBy_43 ?_
      refine lv_iload_n hx hb dX1_rankBy_44 rfl (lv_at hl 1 rfl) ?_
      refine lv_iadd hx hb dX1_rankBy_45 ?_
      exact z_er_i (by rw [z_ky, if_neg ho1, if_pos ho2]) hx hb hr hlk dX1_rankBy_46
  · skip
    have ho1 := z_eq (by omega) (by decide) c2
    refine lv_aload_n hx hb dX1_rankBy_5 rfl (lv_at hl 0 rfl) ?_
    refine va_get (ci := 1) (v := .ref (a 8)) (C := RX1) (T := TX1) (N := 14) hx hb hts (fun _ h => (List.mem_cons_of_mem _ (List.mem_append_left _ (List.mem_append_right _ h)))) hown hK hP 0 rfl rfl 8 (by decide) (hts _ (List.mem_cons_of_mem _ (List.mem_append_left _ (List.mem_append_left _ (List.mem_of_getElem? (i := 0) rfl))))) (fun _ h9 => h9) rfl dX1_rankBy_6 ?_
    refine lv_iload_n hx hb dX1_rankBy_9 rfl (lv_at hl 1 rfl) ?_
    refine z_rVi (v := z_vc D t) [] hx hb hml hown hts (m_X0_get l Dg cI (a 8) (a 17) 60 (z_vc D) t (by omega) (by decide)) gX1_rankBy_X0_get rfl kd_X0_get ⟨Nat.le_of_ble_eq_true rfl, Nat.le_of_ble_eq_true rfl⟩ hK hN (hP.sub [8, 17] rfl) rfl rfl rfl rfl hl.1 rfl (Nat.le_of_ble_eq_true rfl) dX1_rankBy_10 ⟨Nat.zero_le _, Nat.zero_le _⟩ ?_
    refine lv_bipush (v := 60) hx hb dX1_rankBy_13 (by decide) ?_
    refine lv_imul hx hb dX1_rankBy_15 ?_
    refine lv_iload_n hx hb dX1_rankBy_16 rfl (lv_at hl 1 rfl) ?_
    refine lv_iadd hx hb dX1_rankBy_17 ?_
    exact z_er_i (by rw [z_ky, if_pos ho1]) hx hb hr hlk dX1_rankBy_18

set_option maxHeartbeats 4000000 in
set_option maxRecDepth 100000 in
theorem m_X1_daysToSwell (l : Launch) (Dg : va_G) (cI : ClassId) (a : Nat → Nat) (G : z_GG) (D : z_DD) (t s_ : Nat) (ht : t < z_tc G) (hs4 : s_ < 4) (hG : z_WG G) : z_Mr l yX1_daysToSwell wsX1_daysToSwell 2 43 [.ref (a 0), .int (nI t), .int (nI s_)] Dg cI (z_sW cI a G D) (some (.int (z_un G D t s_))) := by
  have htc : z_tc G ≤ 60 := hG.2.2.2.2.2.1
  refine z_sr (own := RX1) (l0 := [(0, .ref (a 0)), (1, .int (nI t)), (2, .int (nI s_))]) rfl rfl (by decide) (Nat.le_of_ble_eq_true rfl) rfl ?_
  intro p e s m below meth c hx hb hr hml hts hown hlk hP hK hN ls hl
  refine lv_aload_n hx hb dX1_daysToSwell_0 rfl (lv_at hl 0 rfl) ?_
  refine lv_iload_n hx hb dX1_daysToSwell_1 rfl (lv_at hl 1 rfl) ?_
  refine lv_iload_n hx hb dX1_daysToSwell_2 rfl (lv_at hl 2 rfl) ?_
  refine z_rVi (v := z_rt G t s_) [] hx hb hml hown hts (m_X1_wearOn l Dg cI a G D t s_ (by omega) (by omega) hG) gX1_daysToSwell_X1_wearOn rfl kd_X1_wearOn ⟨Nat.le_of_ble_eq_true rfl, Nat.le_of_ble_eq_true rfl⟩ hK hN hP rfl rfl rfl rfl hl.1 rfl (Nat.le_of_ble_eq_true rfl) dX1_daysToSwell_3 ⟨Nat.zero_le _, Nat.zero_le _⟩ ?_
  refine lv_istore_n (lv' := [(3, .int (z_rt G t s_)), (0, .ref (a 0)), (1, .int (nI t)), (2, .int (nI s_))]) hx hb dX1_daysToSwell_6 rfl hl (by decide) rfl (fun ls hl => ?_)
  refine lv_iload_n hx hb dX1_daysToSwell_7 rfl (lv_at hl 0 rfl) ?_
  refine lv_if_gt (tgt := 13) hx hb dX1_daysToSwell_8 (by decide) (fun c8 => ?_) (fun c8 => ?_)
  · skip
    refine lv_aload_n hx hb dX1_daysToSwell_13 rfl (lv_at hl 1 rfl) ?_
    refine va_get (ci := 1) (v := .ref (a 8)) (C := RX1) (T := TX1) (N := 14) hx hb hts (fun _ h => (List.mem_cons_of_mem _ (List.mem_append_left _ (List.mem_append_right _ h)))) hown hK hP 0 rfl rfl 8 (by decide) (hts _ (List.mem_cons_of_mem _ (List.mem_append_left _ (List.mem_append_left _ (List.mem_of_getElem? (i := 0) rfl))))) (fun _ h9 => h9) rfl dX1_daysToSwell_14 ?_
    refine lv_iload_n hx hb dX1_daysToSwell_17 rfl (lv_at hl 2 rfl) ?_
    refine z_rVi (v := z_vc D t) [] hx hb hml hown hts (m_X0_get l Dg cI (a 8) (a 17) 60 (z_vc D) t (by omega) (by decide)) gX1_daysToSwell_X0_get rfl kd_X0_get ⟨Nat.le_of_ble_eq_true rfl, Nat.le_of_ble_eq_true rfl⟩ hK hN (hP.sub [8, 17] rfl) rfl rfl rfl rfl hl.1 rfl (Nat.le_of_ble_eq_true rfl) dX1_daysToSwell_18 ⟨Nat.zero_le _, Nat.zero_le _⟩ ?_
    refine lv_iload_n hx hb dX1_daysToSwell_21 rfl (lv_at hl 0 rfl) ?_
    refine lv_iadd hx hb dX1_daysToSwell_22 ?_
    refine lv_iconst (v := 1) hx hb dX1_daysToSwell_23 (by decide) ?_
    refine lv_isub hx hb dX1_daysToSwell_24 ?_
    refine lv_iload_n hx hb dX1_daysToSwell_25 rfl (lv_at hl 0 rfl) ?_
    refine lv_idiv hx hb dX1_daysToSwell_26 (z_i32_pos c8) ?_
    exact z_er_i (by rw [z_un, if_neg (z_i32_pos c8)]) hx hb hr hlk dX1_daysToSwell_27
  · skip
    refine lv_iconst (v := (-1)) hx hb dX1_daysToSwell_11 (by decide) ?_
    exact z_er_i (by rw [z_un, if_pos (z_i32_eq (z_rt_nn hG t s_) c8)]) hx hb hr hlk dX1_daysToSwell_12

set_option maxHeartbeats 4000000 in
set_option maxRecDepth 100000 in
theorem m_X1_countAt (l : Launch) (Dg : va_G) (cI : ClassId) (a : Nat → Nat) (G : z_GG) (D : z_DD) (x_ : Nat) (hx3 : x_ < 4) (hG : z_WG G) (hW : z_WD G D) : z_Mr l yX1_countAt wsX1_countAt 1 21 [.ref (a 0), .int (nI x_)] Dg cI (z_sW cI a G D) (some (.int (nI (z_cn G D x_)))) := by
  have htc : z_tc G ≤ 60 := hG.2.2.2.2.2.1
  refine z_sr (own := RX1) (l0 := [(0, .ref (a 0)), (1, .int (nI x_))]) rfl rfl (by decide) (Nat.le_of_ble_eq_true rfl) rfl ?_
  intro p e s m below meth c hx hb hr hml hts hown hlk hP hK hN ls hl
  refine lv_iconst (v := nI 0) hx hb dX1_countAt_0 (by decide) ?_
  refine lv_istore_n (lv' := [(2, .int (nI 0)), (0, .ref (a 0)), (1, .int (nI x_))]) hx hb dX1_countAt_1 rfl hl (by decide) rfl (fun ls hl => ?_)
  refine lv_iconst (v := nI 0) hx hb dX1_countAt_2 (by decide) ?_
  refine lv_istore_n (lv' := [(3, .int (nI 0)), (2, .int (nI 0)), (0, .ref (a 0)), (1, .int (nI x_))]) hx hb dX1_countAt_3 rfl hl (by decide) rfl (fun ls hl => ?_)
  have lp4 : ∀ (zz i : Nat) , i ≤ z_tc G → z_tc G + 1 ≤ i + zz → ∀ ls : Array Slot, lv_has ls 4 [(0, .ref (a 0)), (1, .int (nI x_)), (2, .int (nI (z_ct (fun t => z_pl D t == x_) i))), (3, .int (nI i))] → W p l e ({ frames := 1, cells := 0, slots := 0, locals := 21 } : Room) s m ([.ref (a 0), .int (nI x_)] : List Value).toArray below meth c s.heap [] 0 0 (MQ below (z_Qr (some (.int (nI (z_cn G D x_))))) ([.ref (a 0), .int (nI x_)] : List Value).toArray s 0 0 z_no) (F0 m 4 ls []) := by
    intro zz
    induction zz with
    | zero => intros; exfalso; omega
    | succ zz ih4 =>
      intro i hi hzz ls hl
      refine lv_iload_n hx hb dX1_countAt_4 rfl (lv_at hl 3 rfl) ?_
      refine lv_aload_n hx hb dX1_countAt_5 rfl (lv_at hl 0 rfl) ?_
      refine va_get (ci := 1) (v := .int (nI (z_tc G))) (C := RX1) (T := TX1) (N := 14) hx hb hts (fun _ h => (List.mem_cons_of_mem _ (List.mem_append_left _ (List.mem_append_right _ h)))) hown hK hP 0 rfl rfl 10 (by decide) (hts _ (List.mem_cons_of_mem _ (List.mem_append_left _ (List.mem_append_left _ (List.mem_of_getElem? (i := 0) rfl))))) (fun _ h9 => h9) rfl dX1_countAt_6 ?_
      refine lv_icmp_ge (tgt := 33) hx hb dX1_countAt_9 (by decide) (fun c9 => ?_) (fun c9 => ?_)
      · skip
        have hi2 : i = z_tc G := Nat.le_antisymm hi (z_le (by omega) (by omega) c9)
        refine lv_iload_n hx hb dX1_countAt_33 rfl (lv_at hl 2 rfl) ?_
        exact z_er_i (by rw [hi2]; rfl) hx hb hr hlk dX1_countAt_34
      · skip
        have hi2 : i < z_tc G := z_nle (by omega) c9
        have hpl := hW i hi2
        refine lv_aload_n hx hb dX1_countAt_12 rfl (lv_at hl 0 rfl) ?_
        refine va_get (ci := 1) (v := .ref (a 9)) (C := RX1) (T := TX1) (N := 14) hx hb hts (fun _ h => (List.mem_cons_of_mem _ (List.mem_append_left _ (List.mem_append_right _ h)))) hown hK hP 0 rfl rfl 9 (by decide) (hts _ (List.mem_cons_of_mem _ (List.mem_append_left _ (List.mem_append_left _ (List.mem_of_getElem? (i := 1) rfl))))) (fun _ h9 => h9) rfl dX1_countAt_13 ?_
        refine lv_iload_n hx hb dX1_countAt_16 rfl (lv_at hl 3 rfl) ?_
        refine z_rVi (v := nI (z_pl D i)) [] hx hb hml hown hts (m_X0_get l Dg cI (a 9) (a 18) 60 (fun j9 => nI (z_pl D j9)) i (by omega) (by decide)) gX1_countAt_X0_get rfl kd_X0_get ⟨Nat.le_of_ble_eq_true rfl, Nat.le_of_ble_eq_true rfl⟩ hK hN (hP.sub [9, 18] rfl) rfl rfl rfl rfl hl.1 rfl (Nat.le_of_ble_eq_true rfl) dX1_countAt_17 ⟨Nat.zero_le _, Nat.zero_le _⟩ ?_
        refine lv_iload_n hx hb dX1_countAt_20 rfl (lv_at hl 1 rfl) ?_
        refine lv_icmp_ne (tgt := 27) hx hb dX1_countAt_21 (by decide) (fun c21 => ?_) (fun c21 => ?_)
        · skip
          have hl : lv_has ls 4 [(0, .ref (a 0)), (1, .int (nI x_)), (2, .int (nI (z_ct (fun t => z_pl D t == x_) (i + 1)))), (3, .int (nI i))] := by have q : nI (z_ct (fun t => z_pl D t == x_) i) = nI (z_ct (fun t => z_pl D t == x_) (i + 1)) := (congrArg nI (z_ct_f (p := fun t => z_pl D t == x_) (n := i) (z_bne (z_ne (by omega) (by omega) c21))).symm); rw [← q]; exact hl
          refine lv_iinc (v := nI (i + 1)) (lv' := [(3, .int (nI (i + 1))), (0, .ref (a 0)), (1, .int (nI x_)), (2, .int (nI (z_ct (fun t => z_pl D t == x_) (i + 1))))]) hx hb dX1_countAt_27 hl (k := 3) rfl (nI_1 _) (by decide) rfl (fun ls hl => ?_)
          refine lv_goto (tgt := 4) hx hb dX1_countAt_30 (by decide) ?_
          exact ih4 (i + 1) (by omega) (by omega) _ (lv_sub hl [1, 2, 3, 0] rfl)
        · skip
          refine lv_iinc (v := nI (z_ct (fun t => z_pl D t == x_) i + 1)) (lv' := [(2, .int (nI (z_ct (fun t => z_pl D t == x_) i + 1))), (0, .ref (a 0)), (1, .int (nI x_)), (3, .int (nI i))]) hx hb dX1_countAt_24 hl (k := 2) rfl (nI_1 _) (by decide) rfl (fun ls hl => ?_)
          have hl : lv_has ls 4 [(2, .int (nI (z_ct (fun t => z_pl D t == x_) (i + 1)))), (0, .ref (a 0)), (1, .int (nI x_)), (3, .int (nI i))] := by have q : nI (z_ct (fun t => z_pl D t == x_) i + 1) = nI (z_ct (fun t => z_pl D t == x_) (i + 1)) := (congrArg nI (z_ct_t (p := fun t => z_pl D t == x_) (n := i) (z_beq (z_eq (by omega) (by omega) c21))).symm); rw [← q]; exact hl
          refine lv_iinc (v := nI (i + 1)) (lv' := [(3, .int (nI (i + 1))), (2, .int (nI (z_ct (fun t => z_pl D t == x_) (i + 1)))), (0, .ref (a 0)), (1, .int (nI x_))]) hx hb dX1_countAt_27 hl (k := 3) rfl (nI_1 _) (by decide) rfl (fun ls hl => ?_)
          refine lv_goto (tgt := 4) hx hb dX1_countAt_30 (by decide) ?_
          exact ih4 (i + 1) (by omega) (by omega) _ (lv_sub hl [2, 3, 1, 0] rfl)
  exact lp4 (z_tc G + 1) 0 (by omega) (by omega) _ (lv_sub hl [2, 3, 1, 0] rfl)

set_option maxHeartbeats 4000000 in
set_option maxRecDepth 100000 in
theorem m_X1_countHeldWith_sh (l : Launch) (Dg : va_G) (cI : ClassId) (a : Nat → Nat) (G : z_GG) (D : z_DD) (x_ : Nat) (hx3 : x_ < 60) (hG : z_WG G) (hW : z_WD G D) : z_Mr l yX1_countHeldWith wsX1_countHeldWith 2 42 [.ref (a 0), .ref (a 7), .int (nI x_)] Dg cI (z_sW cI a G D) (some (.int (nI (z_on G D x_)))) := by
  have htc : z_tc G ≤ 60 := hG.2.2.2.2.2.1
  refine z_sr (own := RX1) (l0 := [(0, .ref (a 0)), (1, .ref (a 7)), (2, .int (nI x_))]) rfl rfl (by decide) (Nat.le_of_ble_eq_true rfl) rfl ?_
  intro p e s m below meth c hx hb hr hml hts hown hlk hP hK hN ls hl
  refine lv_iconst (v := nI 0) hx hb dX1_countHeldWith_0 (by decide) ?_
  refine lv_istore_n (lv' := [(3, .int (nI 0)), (0, .ref (a 0)), (1, .ref (a 7)), (2, .int (nI x_))]) hx hb dX1_countHeldWith_1 rfl hl (by decide) rfl (fun ls hl => ?_)
  refine lv_iconst (v := nI 0) hx hb dX1_countHeldWith_2 (by decide) ?_
  refine lv_istore (lv' := [(4, .int (nI 0)), (3, .int (nI 0)), (0, .ref (a 0)), (1, .ref (a 7)), (2, .int (nI x_))]) hx hb dX1_countHeldWith_3 hl (by decide) rfl (fun ls hl => ?_)
  have lp5 : ∀ (zz i : Nat) , i ≤ z_tc G → z_tc G + 1 ≤ i + zz → ∀ ls : Array Slot, lv_has ls 5 [(0, .ref (a 0)), (1, .ref (a 7)), (2, .int (nI x_)), (3, .int (nI (z_ct (fun t => z_pl D t == 1 && z_sh G t == x_) i))), (4, .int (nI i))] → W p l e ({ frames := 2, cells := 0, slots := 0, locals := 42 } : Room) s m ([.ref (a 0), .ref (a 7), .int (nI x_)] : List Value).toArray below meth c s.heap [] 0 0 (MQ below (z_Qr (some (.int (nI (z_on G D x_))))) ([.ref (a 0), .ref (a 7), .int (nI x_)] : List Value).toArray s 0 0 z_no) (F0 m 5 ls []) := by
    intro zz
    induction zz with
    | zero => intros; exfalso; omega
    | succ zz ih5 =>
      intro i hi hzz ls hl
      refine lv_iload hx hb dX1_countHeldWith_5 (lv_at hl 4 rfl) ?_
      refine lv_aload_n hx hb dX1_countHeldWith_7 rfl (lv_at hl 0 rfl) ?_
      refine va_get (ci := 1) (v := .int (nI (z_tc G))) (C := RX1) (T := TX1) (N := 14) hx hb hts (fun _ h => (List.mem_cons_of_mem _ (List.mem_append_left _ (List.mem_append_right _ h)))) hown hK hP 0 rfl rfl 10 (by decide) (hts _ (List.mem_cons_of_mem _ (List.mem_append_left _ (List.mem_append_left _ (List.mem_of_getElem? (i := 0) rfl))))) (fun _ h9 => h9) rfl dX1_countHeldWith_8 ?_
      refine lv_icmp_ge (tgt := 42) hx hb dX1_countHeldWith_11 (by decide) (fun c11 => ?_) (fun c11 => ?_)
      · skip
        have hi2 : i = z_tc G := Nat.le_antisymm hi (z_le (by omega) (by omega) c11)
        refine lv_iload_n hx hb dX1_countHeldWith_42 rfl (lv_at hl 3 rfl) ?_
        exact z_er_i (by rw [hi2]; rfl) hx hb hr hlk dX1_countHeldWith_43
      · skip
        have hi2 : i < z_tc G := z_nle (by omega) c11
        have hsh := hG.2.2.2.1 i
        have hbt := hG.2.2.1 i
        refine lv_aload_n hx hb dX1_countHeldWith_14 rfl (lv_at hl 0 rfl) ?_
        refine lv_iload hx hb dX1_countHeldWith_15 (lv_at hl 4 rfl) ?_
        refine z_rVi (v := z_bI (z_pl D i == 1)) [] hx hb hml hown hts (m_X1_holds l Dg cI a G D i (by omega) hG hW) gX1_countHeldWith_X1_holds rfl kd_X1_holds ⟨Nat.le_of_ble_eq_true rfl, Nat.le_of_ble_eq_true rfl⟩ hK hN hP rfl rfl rfl rfl hl.1 rfl (Nat.le_of_ble_eq_true rfl) dX1_countHeldWith_17 ⟨Nat.zero_le _, Nat.zero_le _⟩ ?_
        refine lv_if_eq (tgt := 36) hx hb dX1_countHeldWith_20 (by decide) (fun c20 => ?_) (fun c20 => ?_)
        · skip
          have hl : lv_has ls 5 [(0, .ref (a 0)), (1, .ref (a 7)), (2, .int (nI x_)), (3, .int (nI (z_ct (fun t => z_pl D t == 1 && z_sh G t == x_) (i + 1)))), (4, .int (nI i))] := by have q : nI (z_ct (fun t => z_pl D t == 1 && z_sh G t == x_) i) = nI (z_ct (fun t => z_pl D t == 1 && z_sh G t == x_) (i + 1)) := (congrArg nI (z_ct_f (p := fun t => z_pl D t == 1 && z_sh G t == x_) (n := i) (z_and_f1 (z_bI0 c20))).symm); rw [← q]; exact hl
          refine lv_iinc (v := nI (i + 1)) (lv' := [(4, .int (nI (i + 1))), (0, .ref (a 0)), (1, .ref (a 7)), (2, .int (nI x_)), (3, .int (nI (z_ct (fun t => z_pl D t == 1 && z_sh G t == x_) (i + 1))))]) hx hb dX1_countHeldWith_36 hl (k := 4) rfl (nI_1 _) (by decide) rfl (fun ls hl => ?_)
          refine lv_goto (tgt := 5) hx hb dX1_countHeldWith_39 (by decide) ?_
          exact ih5 (i + 1) (by omega) (by omega) _ (lv_sub hl [1, 2, 3, 4, 0] rfl)
        · skip
          refine lv_aload_n hx hb dX1_countHeldWith_23 rfl (lv_at hl 1 rfl) ?_
          refine lv_iload hx hb dX1_countHeldWith_24 (lv_at hl 4 rfl) ?_
          refine z_rVi (v := nI (z_sh G i)) [] hx hb hml hown hts (m_X0_get l Dg cI (a 7) (a 16) 60 (fun j9 => nI (z_sh G j9)) i (by omega) (by decide)) gX1_countHeldWith_X0_get rfl kd_X0_get ⟨Nat.le_of_ble_eq_true rfl, Nat.le_of_ble_eq_true rfl⟩ hK hN (hP.sub [7, 16] rfl) rfl rfl rfl rfl hl.1 rfl (Nat.le_of_ble_eq_true rfl) dX1_countHeldWith_26 ⟨Nat.zero_le _, Nat.zero_le _⟩ ?_
          refine lv_iload_n hx hb dX1_countHeldWith_29 rfl (lv_at hl 2 rfl) ?_
          refine lv_icmp_ne (tgt := 36) hx hb dX1_countHeldWith_30 (by decide) (fun c30 => ?_) (fun c30 => ?_)
          · skip
            have hl : lv_has ls 5 [(0, .ref (a 0)), (1, .ref (a 7)), (2, .int (nI x_)), (3, .int (nI (z_ct (fun t => z_pl D t == 1 && z_sh G t == x_) (i + 1)))), (4, .int (nI i))] := by have q : nI (z_ct (fun t => z_pl D t == 1 && z_sh G t == x_) i) = nI (z_ct (fun t => z_pl D t == 1 && z_sh G t == x_) (i + 1)) := (congrArg nI (z_ct_f (p := fun t => z_pl D t == 1 && z_sh G t == x_) (n := i) (z_and_f2 (z_bne (z_ne (by omega) (by omega) c30)))).symm); rw [← q]; exact hl
            refine lv_iinc (v := nI (i + 1)) (lv' := [(4, .int (nI (i + 1))), (0, .ref (a 0)), (1, .ref (a 7)), (2, .int (nI x_)), (3, .int (nI (z_ct (fun t => z_pl D t == 1 && z_sh G t == x_) (i + 1))))]) hx hb dX1_countHeldWith_36 hl (k := 4) rfl (nI_1 _) (by decide) rfl (fun ls hl => ?_)
            refine lv_goto (tgt := 5) hx hb dX1_countHeldWith_39 (by decide) ?_
            exact ih5 (i + 1) (by omega) (by omega) _ (lv_sub hl [1, 2, 3, 4, 0] rfl)
          · skip
            refine lv_iinc (v := nI (z_ct (fun t => z_pl D t == 1 && z_sh G t == x_) i + 1)) (lv' := [(3, .int (nI (z_ct (fun t => z_pl D t == 1 && z_sh G t == x_) i + 1))), (0, .ref (a 0)), (1, .ref (a 7)), (2, .int (nI x_)), (4, .int (nI i))]) hx hb dX1_countHeldWith_33 hl (k := 3) rfl (nI_1 _) (by decide) rfl (fun ls hl => ?_)
            have hl : lv_has ls 5 [(3, .int (nI (z_ct (fun t => z_pl D t == 1 && z_sh G t == x_) (i + 1)))), (0, .ref (a 0)), (1, .ref (a 7)), (2, .int (nI x_)), (4, .int (nI i))] := by have q : nI (z_ct (fun t => z_pl D t == 1 && z_sh G t == x_) i + 1) = nI (z_ct (fun t => z_pl D t == 1 && z_sh G t == x_) (i + 1)) := (congrArg nI (z_ct_t (p := fun t => z_pl D t == 1 && z_sh G t == x_) (n := i) (z_and_t (z_bI1 c20) (z_beq (z_eq (by omega) (by omega) c30)))).symm); rw [← q]; exact hl
            refine lv_iinc (v := nI (i + 1)) (lv' := [(4, .int (nI (i + 1))), (3, .int (nI (z_ct (fun t => z_pl D t == 1 && z_sh G t == x_) (i + 1)))), (0, .ref (a 0)), (1, .ref (a 7)), (2, .int (nI x_))]) hx hb dX1_countHeldWith_36 hl (k := 4) rfl (nI_1 _) (by decide) rfl (fun ls hl => ?_)
            refine lv_goto (tgt := 5) hx hb dX1_countHeldWith_39 (by decide) ?_
            exact ih5 (i + 1) (by omega) (by omega) _ (lv_sub hl [2, 3, 4, 1, 0] rfl)
  exact lp5 (z_tc G + 1) 0 (by omega) (by omega) _ (lv_sub hl [2, 3, 4, 1, 0] rfl)

set_option maxHeartbeats 4000000 in
set_option maxRecDepth 100000 in
theorem m_X1_countHeldWith_bt (l : Launch) (Dg : va_G) (cI : ClassId) (a : Nat → Nat) (G : z_GG) (D : z_DD) (x_ : Nat) (hx3 : x_ < 60) (hG : z_WG G) (hW : z_WD G D) : z_Mr l yX1_countHeldWith wsX1_countHeldWith 2 42 [.ref (a 0), .ref (a 6), .int (nI x_)] Dg cI (z_sW cI a G D) (some (.int (nI (z_lf G D x_)))) := by
  have htc : z_tc G ≤ 60 := hG.2.2.2.2.2.1
  refine z_sr (own := RX1) (l0 := [(0, .ref (a 0)), (1, .ref (a 6)), (2, .int (nI x_))]) rfl rfl (by decide) (Nat.le_of_ble_eq_true rfl) rfl ?_
  intro p e s m below meth c hx hb hr hml hts hown hlk hP hK hN ls hl
  refine lv_iconst (v := nI 0) hx hb dX1_countHeldWith_0 (by decide) ?_
  refine lv_istore_n (lv' := [(3, .int (nI 0)), (0, .ref (a 0)), (1, .ref (a 6)), (2, .int (nI x_))]) hx hb dX1_countHeldWith_1 rfl hl (by decide) rfl (fun ls hl => ?_)
  refine lv_iconst (v := nI 0) hx hb dX1_countHeldWith_2 (by decide) ?_
  refine lv_istore (lv' := [(4, .int (nI 0)), (3, .int (nI 0)), (0, .ref (a 0)), (1, .ref (a 6)), (2, .int (nI x_))]) hx hb dX1_countHeldWith_3 hl (by decide) rfl (fun ls hl => ?_)
  have lp5 : ∀ (zz i : Nat) , i ≤ z_tc G → z_tc G + 1 ≤ i + zz → ∀ ls : Array Slot, lv_has ls 5 [(0, .ref (a 0)), (1, .ref (a 6)), (2, .int (nI x_)), (3, .int (nI (z_ct (fun t => z_pl D t == 1 && z_bt G t == x_) i))), (4, .int (nI i))] → W p l e ({ frames := 2, cells := 0, slots := 0, locals := 42 } : Room) s m ([.ref (a 0), .ref (a 6), .int (nI x_)] : List Value).toArray below meth c s.heap [] 0 0 (MQ below (z_Qr (some (.int (nI (z_lf G D x_))))) ([.ref (a 0), .ref (a 6), .int (nI x_)] : List Value).toArray s 0 0 z_no) (F0 m 5 ls []) := by
    intro zz
    induction zz with
    | zero => intros; exfalso; omega
    | succ zz ih5 =>
      intro i hi hzz ls hl
      refine lv_iload hx hb dX1_countHeldWith_5 (lv_at hl 4 rfl) ?_
      refine lv_aload_n hx hb dX1_countHeldWith_7 rfl (lv_at hl 0 rfl) ?_
      refine va_get (ci := 1) (v := .int (nI (z_tc G))) (C := RX1) (T := TX1) (N := 14) hx hb hts (fun _ h => (List.mem_cons_of_mem _ (List.mem_append_left _ (List.mem_append_right _ h)))) hown hK hP 0 rfl rfl 10 (by decide) (hts _ (List.mem_cons_of_mem _ (List.mem_append_left _ (List.mem_append_left _ (List.mem_of_getElem? (i := 0) rfl))))) (fun _ h9 => h9) rfl dX1_countHeldWith_8 ?_
      refine lv_icmp_ge (tgt := 42) hx hb dX1_countHeldWith_11 (by decide) (fun c11 => ?_) (fun c11 => ?_)
      · skip
        have hi2 : i = z_tc G := Nat.le_antisymm hi (z_le (by omega) (by omega) c11)
        refine lv_iload_n hx hb dX1_countHeldWith_42 rfl (lv_at hl 3 rfl) ?_
        exact z_er_i (by rw [hi2]; rfl) hx hb hr hlk dX1_countHeldWith_43
      · skip
        have hi2 : i < z_tc G := z_nle (by omega) c11
        have hsh := hG.2.2.2.1 i
        have hbt := hG.2.2.1 i
        refine lv_aload_n hx hb dX1_countHeldWith_14 rfl (lv_at hl 0 rfl) ?_
        refine lv_iload hx hb dX1_countHeldWith_15 (lv_at hl 4 rfl) ?_
        refine z_rVi (v := z_bI (z_pl D i == 1)) [] hx hb hml hown hts (m_X1_holds l Dg cI a G D i (by omega) hG hW) gX1_countHeldWith_X1_holds rfl kd_X1_holds ⟨Nat.le_of_ble_eq_true rfl, Nat.le_of_ble_eq_true rfl⟩ hK hN hP rfl rfl rfl rfl hl.1 rfl (Nat.le_of_ble_eq_true rfl) dX1_countHeldWith_17 ⟨Nat.zero_le _, Nat.zero_le _⟩ ?_
        refine lv_if_eq (tgt := 36) hx hb dX1_countHeldWith_20 (by decide) (fun c20 => ?_) (fun c20 => ?_)
        · skip
          have hl : lv_has ls 5 [(0, .ref (a 0)), (1, .ref (a 6)), (2, .int (nI x_)), (3, .int (nI (z_ct (fun t => z_pl D t == 1 && z_bt G t == x_) (i + 1)))), (4, .int (nI i))] := by have q : nI (z_ct (fun t => z_pl D t == 1 && z_bt G t == x_) i) = nI (z_ct (fun t => z_pl D t == 1 && z_bt G t == x_) (i + 1)) := (congrArg nI (z_ct_f (p := fun t => z_pl D t == 1 && z_bt G t == x_) (n := i) (z_and_f1 (z_bI0 c20))).symm); rw [← q]; exact hl
          refine lv_iinc (v := nI (i + 1)) (lv' := [(4, .int (nI (i + 1))), (0, .ref (a 0)), (1, .ref (a 6)), (2, .int (nI x_)), (3, .int (nI (z_ct (fun t => z_pl D t == 1 && z_bt G t == x_) (i + 1))))]) hx hb dX1_countHeldWith_36 hl (k := 4) rfl (nI_1 _) (by decide) rfl (fun ls hl => ?_)
          refine lv_goto (tgt := 5) hx hb dX1_countHeldWith_39 (by decide) ?_
          exact ih5 (i + 1) (by omega) (by omega) _ (lv_sub hl [1, 2, 3, 4, 0] rfl)
        · skip
          refine lv_aload_n hx hb dX1_countHeldWith_23 rfl (lv_at hl 1 rfl) ?_
          refine lv_iload hx hb dX1_countHeldWith_24 (lv_at hl 4 rfl) ?_
          refine z_rVi (v := nI (z_bt G i)) [] hx hb hml hown hts (m_X0_get l Dg cI (a 6) (a 15) 60 (fun j9 => nI (z_bt G j9)) i (by omega) (by decide)) gX1_countHeldWith_X0_get rfl kd_X0_get ⟨Nat.le_of_ble_eq_true rfl, Nat.le_of_ble_eq_true rfl⟩ hK hN (hP.sub [6, 15] rfl) rfl rfl rfl rfl hl.1 rfl (Nat.le_of_ble_eq_true rfl) dX1_countHeldWith_26 ⟨Nat.zero_le _, Nat.zero_le _⟩ ?_
          refine lv_iload_n hx hb dX1_countHeldWith_29 rfl (lv_at hl 2 rfl) ?_
          refine lv_icmp_ne (tgt := 36) hx hb dX1_countHeldWith_30 (by decide) (fun c30 => ?_) (fun c30 => ?_)
          · skip
            have hl : lv_has ls 5 [(0, .ref (a 0)), (1, .ref (a 6)), (2, .int (nI x_)), (3, .int (nI (z_ct (fun t => z_pl D t == 1 && z_bt G t == x_) (i + 1)))), (4, .int (nI i))] := by have q : nI (z_ct (fun t => z_pl D t == 1 && z_bt G t == x_) i) = nI (z_ct (fun t => z_pl D t == 1 && z_bt G t == x_) (i + 1)) := (congrArg nI (z_ct_f (p := fun t => z_pl D t == 1 && z_bt G t == x_) (n := i) (z_and_f2 (z_bne (z_ne (by omega) (by omega) c30)))).symm); rw [← q]; exact hl
            refine lv_iinc (v := nI (i + 1)) (lv' := [(4, .int (nI (i + 1))), (0, .ref (a 0)), (1, .ref (a 6)), (2, .int (nI x_)), (3, .int (nI (z_ct (fun t => z_pl D t == 1 && z_bt G t == x_) (i + 1))))]) hx hb dX1_countHeldWith_36 hl (k := 4) rfl (nI_1 _) (by decide) rfl (fun ls hl => ?_)
            refine lv_goto (tgt := 5) hx hb dX1_countHeldWith_39 (by decide) ?_
            exact ih5 (i + 1) (by omega) (by omega) _ (lv_sub hl [1, 2, 3, 4, 0] rfl)
          · skip
            refine lv_iinc (v := nI (z_ct (fun t => z_pl D t == 1 && z_bt G t == x_) i + 1)) (lv' := [(3, .int (nI (z_ct (fun t => z_pl D t == 1 && z_bt G t == x_) i + 1))), (0, .ref (a 0)), (1, .ref (a 6)), (2, .int (nI x_)), (4, .int (nI i))]) hx hb dX1_countHeldWith_33 hl (k := 3) rfl (nI_1 _) (by decide) rfl (fun ls hl => ?_)
            have hl : lv_has ls 5 [(3, .int (nI (z_ct (fun t => z_pl D t == 1 && z_bt G t == x_) (i + 1)))), (0, .ref (a 0)), (1, .ref (a 6)), (2, .int (nI x_)), (4, .int (nI i))] := by have q : nI (z_ct (fun t => z_pl D t == 1 && z_bt G t == x_) i + 1) = nI (z_ct (fun t => z_pl D t == 1 && z_bt G t == x_) (i + 1)) := (congrArg nI (z_ct_t (p := fun t => z_pl D t == 1 && z_bt G t == x_) (n := i) (z_and_t (z_bI1 c20) (z_beq (z_eq (by omega) (by omega) c30)))).symm); rw [← q]; exact hl
            refine lv_iinc (v := nI (i + 1)) (lv' := [(4, .int (nI (i + 1))), (3, .int (nI (z_ct (fun t => z_pl D t == 1 && z_bt G t == x_) (i + 1)))), (0, .ref (a 0)), (1, .ref (a 6)), (2, .int (nI x_))]) hx hb dX1_countHeldWith_36 hl (k := 4) rfl (nI_1 _) (by decide) rfl (fun ls hl => ?_)
            refine lv_goto (tgt := 5) hx hb dX1_countHeldWith_39 (by decide) ?_
            exact ih5 (i + 1) (by omega) (by omega) _ (lv_sub hl [2, 3, 4, 1, 0] rfl)
  exact lp5 (z_tc G + 1) 0 (by omega) (by omega) _ (lv_sub hl [2, 3, 4, 1, 0] rfl)

set_option maxHeartbeats 4000000 in
set_option maxRecDepth 100000 in
theorem m_X1_vacuumHeld (l : Launch) (Dg : va_G) (cI : ClassId) (a : Nat → Nat) (G : z_GG) (D : z_DD) (hG : z_WG G) (hW : z_WD G D) : z_Mr l yX1_vacuumHeld wsX1_vacuumHeld 2 42 [.ref (a 0)] Dg cI (z_sW cI a G D) (some (.int (z_vh G D))) := by
  have htc : z_tc G ≤ 60 := hG.2.2.2.2.2.1
  refine z_sr (own := RX1) (l0 := [(0, .ref (a 0))]) rfl rfl (by decide) (Nat.le_of_ble_eq_true rfl) rfl ?_
  intro p e s m below meth c hx hb hr hml hts hown hlk hP hK hN ls hl
  refine lv_iconst (v := 0) hx hb dX1_vacuumHeld_0 (by decide) ?_
  refine lv_istore_n (lv' := [(1, .int 0), (0, .ref (a 0))]) hx hb dX1_vacuumHeld_1 rfl hl (by decide) rfl (fun ls hl => ?_)
  refine lv_iconst (v := nI 0) hx hb dX1_vacuumHeld_2 (by decide) ?_
  refine lv_istore_n (lv' := [(2, .int (nI 0)), (1, .int 0), (0, .ref (a 0))]) hx hb dX1_vacuumHeld_3 rfl hl (by decide) rfl (fun ls hl => ?_)
  have lp4 : ∀ (zz i : Nat) , i ≤ z_tc G → z_tc G + 1 ≤ i + zz → ∀ ls : Array Slot, lv_has ls 3 [(0, .ref (a 0)), (1, .int (z_sum (fun t => if z_pl D t = 1 then z_vc D t else 0) i)), (2, .int (nI i))] → W p l e ({ frames := 2, cells := 0, slots := 0, locals := 42 } : Room) s m ([.ref (a 0)] : List Value).toArray below meth c s.heap [] 0 0 (MQ below (z_Qr (some (.int (z_vh G D)))) ([.ref (a 0)] : List Value).toArray s 0 0 z_no) (F0 m 4 ls []) := by
    intro zz
    induction zz with
    | zero => intros; exfalso; omega
    | succ zz ih4 =>
      intro i hi hzz ls hl
      refine lv_iload_n hx hb dX1_vacuumHeld_4 rfl (lv_at hl 2 rfl) ?_
      refine lv_aload_n hx hb dX1_vacuumHeld_5 rfl (lv_at hl 0 rfl) ?_
      refine va_get (ci := 1) (v := .int (nI (z_tc G))) (C := RX1) (T := TX1) (N := 14) hx hb hts (fun _ h => (List.mem_cons_of_mem _ (List.mem_append_left _ (List.mem_append_right _ h)))) hown hK hP 0 rfl rfl 10 (by decide) (hts _ (List.mem_cons_of_mem _ (List.mem_append_left _ (List.mem_append_left _ (List.mem_of_getElem? (i := 0) rfl))))) (fun _ h9 => h9) rfl dX1_vacuumHeld_6 ?_
      refine lv_icmp_ge (tgt := 37) hx hb dX1_vacuumHeld_9 (by decide) (fun c9 => ?_) (fun c9 => ?_)
      · skip
        have hi2 : i = z_tc G := Nat.le_antisymm hi (z_le (by omega) (by omega) c9)
        refine lv_iload_n hx hb dX1_vacuumHeld_37 rfl (lv_at hl 1 rfl) ?_
        exact z_er_i (by rw [hi2]; rfl) hx hb hr hlk dX1_vacuumHeld_38
      · skip
        have hi2 : i < z_tc G := z_nle (by omega) c9
        refine lv_aload_n hx hb dX1_vacuumHeld_12 rfl (lv_at hl 0 rfl) ?_
        refine lv_iload_n hx hb dX1_vacuumHeld_13 rfl (lv_at hl 2 rfl) ?_
        refine z_rVi (v := z_bI (z_pl D i == 1)) [] hx hb hml hown hts (m_X1_holds l Dg cI a G D i (by omega) hG hW) gX1_vacuumHeld_X1_holds rfl kd_X1_holds ⟨Nat.le_of_ble_eq_true rfl, Nat.le_of_ble_eq_true rfl⟩ hK hN hP rfl rfl rfl rfl hl.1 rfl (Nat.le_of_ble_eq_true rfl) dX1_vacuumHeld_14 ⟨Nat.zero_le _, Nat.zero_le _⟩ ?_
        refine lv_if_eq (tgt := 31) hx hb dX1_vacuumHeld_17 (by decide) (fun c17 => ?_) (fun c17 => ?_)
        · skip
          have hl : lv_has ls 3 [(0, .ref (a 0)), (1, .int (z_sum (fun t => if z_pl D t = 1 then z_vc D t else 0) (i + 1))), (2, .int (nI i))] := by have q : z_sum (fun t => if z_pl D t = 1 then z_vc D t else 0) i = z_sum (fun t => if z_pl D t = 1 then z_vc D t else 0) (i + 1) := (by rw [z_sum, if_neg (z_bne' (z_bI0 c17)), Int32.add_zero]); rw [← q]; exact hl
          refine lv_iinc (v := nI (i + 1)) (lv' := [(2, .int (nI (i + 1))), (0, .ref (a 0)), (1, .int (z_sum (fun t => if z_pl D t = 1 then z_vc D t else 0) (i + 1)))]) hx hb dX1_vacuumHeld_31 hl (k := 2) rfl (nI_1 _) (by decide) rfl (fun ls hl => ?_)
          refine lv_goto (tgt := 4) hx hb dX1_vacuumHeld_34 (by decide) ?_
          exact ih4 (i + 1) (by omega) (by omega) _ (lv_sub hl [1, 2, 0] rfl)
        · skip
          refine lv_iload_n hx hb dX1_vacuumHeld_20 rfl (lv_at hl 1 rfl) ?_
          refine lv_aload_n hx hb dX1_vacuumHeld_21 rfl (lv_at hl 0 rfl) ?_
          refine va_get (ci := 1) (v := .ref (a 8)) (C := RX1) (T := TX1) (N := 14) hx hb hts (fun _ h => (List.mem_cons_of_mem _ (List.mem_append_left _ (List.mem_append_right _ h)))) hown hK hP 0 rfl rfl 8 (by decide) (hts _ (List.mem_cons_of_mem _ (List.mem_append_left _ (List.mem_append_left _ (List.mem_of_getElem? (i := 1) rfl))))) (fun _ h9 => h9) rfl dX1_vacuumHeld_22 ?_
          refine lv_iload_n hx hb dX1_vacuumHeld_25 rfl (lv_at hl 2 rfl) ?_
          refine z_rVi (v := z_vc D i) [.int (z_sum (fun t => if z_pl D t = 1 then z_vc D t else 0) i)] hx hb hml hown hts (m_X0_get l Dg cI (a 8) (a 17) 60 (z_vc D) i (by omega) (by decide)) gX1_vacuumHeld_X0_get rfl kd_X0_get ⟨Nat.le_of_ble_eq_true rfl, Nat.le_of_ble_eq_true rfl⟩ hK hN (hP.sub [8, 17] rfl) rfl rfl rfl rfl hl.1 rfl (Nat.le_of_ble_eq_true rfl) dX1_vacuumHeld_26 ⟨Nat.zero_le _, Nat.zero_le _⟩ ?_
          refine lv_iadd hx hb dX1_vacuumHeld_29 ?_
          refine lv_istore_n (lv' := [(1, .int ((z_sum (fun t => if z_pl D t = 1 then z_vc D t else 0) i) + (z_vc D i))), (0, .ref (a 0)), (2, .int (nI i))]) hx hb dX1_vacuumHeld_30 rfl hl (by decide) rfl (fun ls hl => ?_)
          have hl : lv_has ls 3 [(1, .int (z_sum (fun t => if z_pl D t = 1 then z_vc D t else 0) (i + 1))), (0, .ref (a 0)), (2, .int (nI i))] := by have q : (z_sum (fun t => if z_pl D t = 1 then z_vc D t else 0) i) + (z_vc D i) = z_sum (fun t => if z_pl D t = 1 then z_vc D t else 0) (i + 1) := (by rw [z_sum, if_pos (z_beq' (z_bI1 c17))]); rw [← q]; exact hl
          refine lv_iinc (v := nI (i + 1)) (lv' := [(2, .int (nI (i + 1))), (1, .int (z_sum (fun t => if z_pl D t = 1 then z_vc D t else 0) (i + 1))), (0, .ref (a 0))]) hx hb dX1_vacuumHeld_31 hl (k := 2) rfl (nI_1 _) (by decide) rfl (fun ls hl => ?_)
          refine lv_goto (tgt := 4) hx hb dX1_vacuumHeld_34 (by decide) ?_
          exact ih4 (i + 1) (by omega) (by omega) _ (lv_sub hl [2, 1, 0] rfl)
  exact lp4 (z_tc G + 1) 0 (by omega) (by omega) _ (lv_sub hl [2, 1, 0] rfl)

set_option maxHeartbeats 4000000 in
set_option maxRecDepth 100000 in
theorem m_X1_firstBy (l : Launch) (Dg : va_G) (cI : ClassId) (a : Nat → Nat) (G : z_GG) (D : z_DD) (o : Nat) (ho : o < 3) (hG : z_WG G) (hW : z_WD G D) : z_Mr l yX1_firstBy wsX1_firstBy 2 43 [.ref (a 0), .int (nI o)] Dg cI (z_sW cI a G D) (some (.int (z_oi (z_fb G D o (z_tc G))))) := by
  have htc : z_tc G ≤ 60 := hG.2.2.2.2.2.1
  refine z_sr (own := RX1) (l0 := [(0, .ref (a 0)), (1, .int (nI o))]) rfl rfl (by decide) (Nat.le_of_ble_eq_true rfl) rfl ?_
  intro p e s m below meth c hx hb hr hml hts hown hlk hP hK hN ls hl
  refine lv_iconst (v := (-1)) hx hb dX1_firstBy_0 (by decide) ?_
  refine lv_istore_n (lv' := [(2, .int (-1)), (0, .ref (a 0)), (1, .int (nI o))]) hx hb dX1_firstBy_1 rfl hl (by decide) rfl (fun ls hl => ?_)
  refine lv_iconst (v := 0) hx hb dX1_firstBy_2 (by decide) ?_
  refine lv_istore_n (lv' := [(3, .int 0), (2, .int (-1)), (0, .ref (a 0)), (1, .int (nI o))]) hx hb dX1_firstBy_3 rfl hl (by decide) rfl (fun ls hl => ?_)
  refine lv_iconst (v := nI 0) hx hb dX1_firstBy_4 (by decide) ?_
  refine lv_istore (lv' := [(4, .int (nI 0)), (3, .int 0), (2, .int (-1)), (0, .ref (a 0)), (1, .int (nI o))]) hx hb dX1_firstBy_5 hl (by decide) rfl (fun ls hl => ?_)
  have lp7 : ∀ (zz i : Nat) (q_ : Int32), i ≤ z_tc G → z_tc G + 1 ≤ i + zz → (z_fb G D o i = 0 ∨ q_ = z_ky G D o (z_fb G D o i - 1)) → ∀ ls : Array Slot, lv_has ls 6 [(0, .ref (a 0)), (1, .int (nI o)), (2, .int (z_oi (z_fb G D o i))), (3, .int q_), (4, .int (nI i))] → W p l e ({ frames := 2, cells := 0, slots := 0, locals := 43 } : Room) s m ([.ref (a 0), .int (nI o)] : List Value).toArray below meth c s.heap [] 0 0 (MQ below (z_Qr (some (.int (z_oi (z_fb G D o (z_tc G)))))) ([.ref (a 0), .int (nI o)] : List Value).toArray s 0 0 z_no) (F0 m 7 ls []) := by
    intro zz
    induction zz with
    | zero => intros; exfalso; omega
    | succ zz ih7 =>
      intro i q_ hi hzz hf7_0 ls hl
      refine lv_iload hx hb dX1_firstBy_7 (lv_at hl 4 rfl) ?_
      refine lv_aload_n hx hb dX1_firstBy_9 rfl (lv_at hl 0 rfl) ?_
      refine va_get (ci := 1) (v := .int (nI (z_tc G))) (C := RX1) (T := TX1) (N := 14) hx hb hts (fun _ h => (List.mem_cons_of_mem _ (List.mem_append_left _ (List.mem_append_right _ h)))) hown hK hP 0 rfl rfl 10 (by decide) (hts _ (List.mem_cons_of_mem _ (List.mem_append_left _ (List.mem_append_left _ (List.mem_of_getElem? (i := 0) rfl))))) (fun _ h9 => h9) rfl dX1_firstBy_10 ?_
      refine lv_icmp_ge (tgt := 56) hx hb dX1_firstBy_13 (by decide) (fun c13 => ?_) (fun c13 => ?_)
      · skip
        have hi2 : i = z_tc G := Nat.le_antisymm hi (z_le (by omega) (by omega) c13)
        refine lv_iload_n hx hb dX1_firstBy_56 rfl (lv_at hl 2 rfl) ?_
        exact z_er_i (by rw [hi2]) hx hb hr hlk dX1_firstBy_57
      · skip
        have hi2 : i < z_tc G := z_nle (by omega) c13
        refine lv_aload_n hx hb dX1_firstBy_16 rfl (lv_at hl 0 rfl) ?_
        refine lv_iload hx hb dX1_firstBy_17 (lv_at hl 4 rfl) ?_
        refine z_rVi (v := z_bI (z_pl D i == 1)) [] hx hb hml hown hts (m_X1_holds l Dg cI a G D i (by omega) hG hW) gX1_firstBy_X1_holds rfl kd_X1_holds ⟨Nat.le_of_ble_eq_true rfl, Nat.le_of_ble_eq_true rfl⟩ hK hN hP rfl rfl rfl rfl hl.1 rfl (Nat.le_of_ble_eq_true rfl) dX1_firstBy_19 ⟨Nat.zero_le _, Nat.zero_le _⟩ ?_
        refine lv_if_eq (tgt := 50) hx hb dX1_firstBy_22 (by decide) (fun c22 => ?_) (fun c22 => ?_)
        · skip
          have e1 : z_fb G D o (i + 1) = z_fb G D o i := z_fb_f (fun q => z_bne' (z_bI0 c22) q.1)
          have hl : lv_has ls 6 [(0, .ref (a 0)), (1, .int (nI o)), (2, .int (z_oi (z_fb G D o (i + 1)))), (3, .int q_), (4, .int (nI i))] := by have q : z_oi (z_fb G D o i) = z_oi (z_fb G D o (i + 1)) := (congrArg z_oi e1.symm); rw [← q]; exact hl
          refine lv_iinc (v := nI (i + 1)) (lv' := [(4, .int (nI (i + 1))), (0, .ref (a 0)), (1, .int (nI o)), (2, .int (z_oi (z_fb G D o (i + 1)))), (3, .int q_)]) hx hb dX1_firstBy_50 hl (k := 4) rfl (nI_1 _) (by decide) rfl (fun ls hl => ?_)
          refine lv_goto (tgt := 7) hx hb dX1_firstBy_53 (by decide) ?_
          exact ih7 (i + 1) q_ (by omega) (by omega) (by rw [e1]; exact hf7_0) _ (lv_sub hl [1, 2, 3, 4, 0] rfl)
        · skip
          refine lv_aload_n hx hb dX1_firstBy_25 rfl (lv_at hl 0 rfl) ?_
          refine lv_iload hx hb dX1_firstBy_26 (lv_at hl 4 rfl) ?_
          refine lv_iload_n hx hb dX1_firstBy_28 rfl (lv_at hl 1 rfl) ?_
          refine z_rVi (v := z_ky G D o i) [] hx hb hml hown hts (m_X1_rankBy l Dg cI a G D i o (by omega) (by omega) hG) gX1_firstBy_X1_rankBy rfl kd_X1_rankBy ⟨Nat.le_of_ble_eq_true rfl, Nat.le_of_ble_eq_true rfl⟩ hK hN hP rfl rfl rfl rfl hl.1 rfl (Nat.le_of_ble_eq_true rfl) dX1_firstBy_29 ⟨Nat.zero_le _, Nat.zero_le _⟩ ?_
          refine lv_istore (lv' := [(5, .int (z_ky G D o i)), (0, .ref (a 0)), (1, .int (nI o)), (2, .int (z_oi (z_fb G D o i))), (3, .int q_), (4, .int (nI i))]) hx hb dX1_firstBy_32 hl (by decide) rfl (fun ls hl => ?_)
          refine lv_iload_n hx hb dX1_firstBy_34 rfl (lv_at hl 3 rfl) ?_
          refine lv_if_lt (tgt := 44) hx hb dX1_firstBy_35 (by decide) (fun c35 => ?_) (fun c35 => ?_)
          · skip
            refine lv_iload hx hb dX1_firstBy_44 (lv_at hl 5 rfl) ?_
            refine lv_istore_n (lv' := [(2, .int (nI i)), (5, .int (z_ky G D o i)), (0, .ref (a 0)), (1, .int (nI o)), (3, .int q_), (4, .int (nI i))]) hx hb dX1_firstBy_46 rfl hl (by decide) rfl (fun ls hl => ?_)
            refine lv_iload hx hb dX1_firstBy_47 (lv_at hl 1 rfl) ?_
            refine lv_istore_n (lv' := [(3, .int (z_ky G D o i)), (2, .int (nI i)), (5, .int (z_ky G D o i)), (0, .ref (a 0)), (1, .int (nI o)), (4, .int (nI i))]) hx hb dX1_firstBy_49 rfl hl (by decide) rfl (fun ls hl => ?_)
            have e1 : z_fb G D o (i + 1) = i + 1 := z_fb_t (z_beq' (z_bI1 c22)) (Or.inl (z_oi_neg (Nat.le_trans (z_fb_le G D o i) (by omega)) c35))
            have hl : lv_has ls 6 [(3, .int (z_ky G D o i)), (2, .int (z_oi (z_fb G D o (i + 1)))), (5, .int (z_ky G D o i)), (0, .ref (a 0)), (1, .int (nI o)), (4, .int (nI i))] := by have q : nI i = z_oi (z_fb G D o (i + 1)) := (by rw [e1]; rfl); rw [← q]; exact hl
            refine lv_iinc (v := nI (i + 1)) (lv' := [(4, .int (nI (i + 1))), (3, .int (z_ky G D o i)), (2, .int (z_oi (z_fb G D o (i + 1)))), (5, .int (z_ky G D o i)), (0, .ref (a 0)), (1, .int (nI o))]) hx hb dX1_firstBy_50 hl (k := 5) rfl (nI_1 _) (by decide) rfl (fun ls hl => ?_)
            refine lv_goto (tgt := 7) hx hb dX1_firstBy_53 (by decide) ?_
            exact ih7 (i + 1) (z_ky G D o i) (by omega) (by omega) (Or.inr (by rw [e1]; rfl)) _ (lv_sub hl [4, 5, 2, 1, 0] rfl)
          · skip
            refine lv_iload hx hb dX1_firstBy_38 (lv_at hl 0 rfl) ?_
            refine lv_iload_n hx hb dX1_firstBy_40 rfl (lv_at hl 4 rfl) ?_
            refine lv_icmp_ge (tgt := 50) hx hb dX1_firstBy_41 (by decide) (fun c41 => ?_) (fun c41 => ?_)
            · skip
              have e1 : z_fb G D o (i + 1) = z_fb G D o i := z_fb_f (fun q => q.2.elim (fun z => absurd z (Nat.ne_of_gt (z_oi_pos c35))) (fun z => by rcases hf7_0 with y | y; exact absurd y (Nat.ne_of_gt (z_oi_pos c35)); rw [← y] at z; exact z_i32_nlt c41 z))
              have hl : lv_has ls 6 [(5, .int (z_ky G D o i)), (0, .ref (a 0)), (1, .int (nI o)), (2, .int (z_oi (z_fb G D o (i + 1)))), (3, .int q_), (4, .int (nI i))] := by have q : z_oi (z_fb G D o i) = z_oi (z_fb G D o (i + 1)) := (congrArg z_oi e1.symm); rw [← q]; exact hl
              refine lv_iinc (v := nI (i + 1)) (lv' := [(4, .int (nI (i + 1))), (5, .int (z_ky G D o i)), (0, .ref (a 0)), (1, .int (nI o)), (2, .int (z_oi (z_fb G D o (i + 1)))), (3, .int q_)]) hx hb dX1_firstBy_50 hl (k := 5) rfl (nI_1 _) (by decide) rfl (fun ls hl => ?_)
              refine lv_goto (tgt := 7) hx hb dX1_firstBy_53 (by decide) ?_
              exact ih7 (i + 1) q_ (by omega) (by omega) (by rw [e1]; exact hf7_0) _ (lv_sub hl [2, 3, 4, 5, 0] rfl)
            · skip
              refine lv_iload hx hb dX1_firstBy_44 (lv_at hl 5 rfl) ?_
              refine lv_istore_n (lv' := [(2, .int (nI i)), (5, .int (z_ky G D o i)), (0, .ref (a 0)), (1, .int (nI o)), (3, .int q_), (4, .int (nI i))]) hx hb dX1_firstBy_46 rfl hl (by decide) rfl (fun ls hl => ?_)
              refine lv_iload hx hb dX1_firstBy_47 (lv_at hl 1 rfl) ?_
              refine lv_istore_n (lv' := [(3, .int (z_ky G D o i)), (2, .int (nI i)), (5, .int (z_ky G D o i)), (0, .ref (a 0)), (1, .int (nI o)), (4, .int (nI i))]) hx hb dX1_firstBy_49 rfl hl (by decide) rfl (fun ls hl => ?_)
              have e1 : z_fb G D o (i + 1) = i + 1 := z_fb_t (z_beq' (z_bI1 c22)) (Or.inr (by rcases hf7_0 with y | y; exact absurd y (Nat.ne_of_gt (z_oi_pos c35)); rw [← y]; exact z_i32_lt c41))
              have hl : lv_has ls 6 [(3, .int (z_ky G D o i)), (2, .int (z_oi (z_fb G D o (i + 1)))), (5, .int (z_ky G D o i)), (0, .ref (a 0)), (1, .int (nI o)), (4, .int (nI i))] := by have q : nI i = z_oi (z_fb G D o (i + 1)) := (by rw [e1]; rfl); rw [← q]; exact hl
              refine lv_iinc (v := nI (i + 1)) (lv' := [(4, .int (nI (i + 1))), (3, .int (z_ky G D o i)), (2, .int (z_oi (z_fb G D o (i + 1)))), (5, .int (z_ky G D o i)), (0, .ref (a 0)), (1, .int (nI o))]) hx hb dX1_firstBy_50 hl (k := 5) rfl (nI_1 _) (by decide) rfl (fun ls hl => ?_)
              refine lv_goto (tgt := 7) hx hb dX1_firstBy_53 (by decide) ?_
              exact ih7 (i + 1) (z_ky G D o i) (by omega) (by omega) (Or.inr (by rw [e1]; rfl)) _ (lv_sub hl [4, 5, 2, 1, 0] rfl)
  exact lp7 (z_tc G + 1) 0 0 (by omega) (by omega) (Or.inl rfl) _ (lv_sub hl [3, 4, 2, 1, 0] rfl)

set_option maxHeartbeats 4000000 in
set_option maxRecDepth 100000 in
theorem m_X1_countAheadOf (l : Launch) (Dg : va_G) (cI : ClassId) (a : Nat → Nat) (G : z_GG) (D : z_DD) (t o : Nat) (ht : t < z_tc G) (ho : o < 3) (hG : z_WG G) (hW : z_WD G D) : z_Mr l yX1_countAheadOf wsX1_countAheadOf 2 43 [.ref (a 0), .int (nI t), .int (nI o)] Dg cI (z_sW cI a G D) (some (.int (nI (z_ah G D o t)))) := by
  have htc : z_tc G ≤ 60 := hG.2.2.2.2.2.1
  refine z_sr (own := RX1) (l0 := [(0, .ref (a 0)), (1, .int (nI t)), (2, .int (nI o))]) rfl rfl (by decide) (Nat.le_of_ble_eq_true rfl) rfl ?_
  intro p e s m below meth c hx hb hr hml hts hown hlk hP hK hN ls hl
  refine lv_aload_n hx hb dX1_countAheadOf_0 rfl (lv_at hl 0 rfl) ?_
  refine lv_iload_n hx hb dX1_countAheadOf_1 rfl (lv_at hl 1 rfl) ?_
  refine lv_iload_n hx hb dX1_countAheadOf_2 rfl (lv_at hl 2 rfl) ?_
  refine z_rVi (v := z_ky G D o t) [] hx hb hml hown hts (m_X1_rankBy l Dg cI a G D t o (by omega) (by omega) hG) gX1_countAheadOf_X1_rankBy rfl kd_X1_rankBy ⟨Nat.le_of_ble_eq_true rfl, Nat.le_of_ble_eq_true rfl⟩ hK hN hP rfl rfl rfl rfl hl.1 rfl (Nat.le_of_ble_eq_true rfl) dX1_countAheadOf_3 ⟨Nat.zero_le _, Nat.zero_le _⟩ ?_
  refine lv_istore_n (lv' := [(3, .int (z_ky G D o t)), (0, .ref (a 0)), (1, .int (nI t)), (2, .int (nI o))]) hx hb dX1_countAheadOf_6 rfl hl (by decide) rfl (fun ls hl => ?_)
  refine lv_iconst (v := nI 0) hx hb dX1_countAheadOf_7 (by decide) ?_
  refine lv_istore (lv' := [(4, .int (nI 0)), (3, .int (z_ky G D o t)), (0, .ref (a 0)), (1, .int (nI t)), (2, .int (nI o))]) hx hb dX1_countAheadOf_8 hl (by decide) rfl (fun ls hl => ?_)
  refine lv_iconst (v := nI 0) hx hb dX1_countAheadOf_10 (by decide) ?_
  refine lv_istore (lv' := [(5, .int (nI 0)), (4, .int (nI 0)), (3, .int (z_ky G D o t)), (0, .ref (a 0)), (1, .int (nI t)), (2, .int (nI o))]) hx hb dX1_countAheadOf_11 hl (by decide) rfl (fun ls hl => ?_)
  have lp13 : ∀ (zz i : Nat) , i ≤ z_tc G → z_tc G + 1 ≤ i + zz → ∀ ls : Array Slot, lv_has ls 6 [(0, .ref (a 0)), (1, .int (nI t)), (2, .int (nI o)), (3, .int (z_ky G D o t)), (4, .int (nI (z_ct (z_ap G D o t) i))), (5, .int (nI i))] → W p l e ({ frames := 2, cells := 0, slots := 0, locals := 43 } : Room) s m ([.ref (a 0), .int (nI t), .int (nI o)] : List Value).toArray below meth c s.heap [] 0 0 (MQ below (z_Qr (some (.int (nI (z_ah G D o t))))) ([.ref (a 0), .int (nI t), .int (nI o)] : List Value).toArray s 0 0 z_no) (F0 m 13 ls []) := by
    intro zz
    induction zz with
    | zero => intros; exfalso; omega
    | succ zz ih13 =>
      intro i hi hzz ls hl
      refine lv_iload hx hb dX1_countAheadOf_13 (lv_at hl 5 rfl) ?_
      refine lv_aload_n hx hb dX1_countAheadOf_15 rfl (lv_at hl 0 rfl) ?_
      refine va_get (ci := 1) (v := .int (nI (z_tc G))) (C := RX1) (T := TX1) (N := 14) hx hb hts (fun _ h => (List.mem_cons_of_mem _ (List.mem_append_left _ (List.mem_append_right _ h)))) hown hK hP 0 rfl rfl 10 (by decide) (hts _ (List.mem_cons_of_mem _ (List.mem_append_left _ (List.mem_append_left _ (List.mem_of_getElem? (i := 0) rfl))))) (fun _ h9 => h9) rfl dX1_countAheadOf_16 ?_
      refine lv_icmp_ge (tgt := 51) hx hb dX1_countAheadOf_19 (by decide) (fun c19 => ?_) (fun c19 => ?_)
      · skip
        have hi2 : i = z_tc G := Nat.le_antisymm hi (z_le (by omega) (by omega) c19)
        refine lv_iload hx hb dX1_countAheadOf_51 (lv_at hl 4 rfl) ?_
        exact z_er_i (by rw [hi2]; rfl) hx hb hr hlk dX1_countAheadOf_53
      · skip
        have hi2 : i < z_tc G := z_nle (by omega) c19
        refine lv_aload_n hx hb dX1_countAheadOf_22 rfl (lv_at hl 0 rfl) ?_
        refine lv_iload hx hb dX1_countAheadOf_23 (lv_at hl 5 rfl) ?_
        refine z_rVi (v := z_bI (z_pl D i == 1)) [] hx hb hml hown hts (m_X1_holds l Dg cI a G D i (by omega) hG hW) gX1_countAheadOf_X1_holds rfl kd_X1_holds ⟨Nat.le_of_ble_eq_true rfl, Nat.le_of_ble_eq_true rfl⟩ hK hN hP rfl rfl rfl rfl hl.1 rfl (Nat.le_of_ble_eq_true rfl) dX1_countAheadOf_25 ⟨Nat.zero_le _, Nat.zero_le _⟩ ?_
        refine lv_if_eq (tgt := 45) hx hb dX1_countAheadOf_28 (by decide) (fun c28 => ?_) (fun c28 => ?_)
        · skip
          have hl : lv_has ls 6 [(0, .ref (a 0)), (1, .int (nI t)), (2, .int (nI o)), (3, .int (z_ky G D o t)), (4, .int (nI (z_ct (z_ap G D o t) (i + 1)))), (5, .int (nI i))] := by have q : nI (z_ct (z_ap G D o t) i) = nI (z_ct (z_ap G D o t) (i + 1)) := (congrArg nI (z_ct_f (p := z_ap G D o t) (n := i) (z_and_f1 (z_bI0 c28))).symm); rw [← q]; exact hl
          refine lv_iinc (v := nI (i + 1)) (lv' := [(5, .int (nI (i + 1))), (0, .ref (a 0)), (1, .int (nI t)), (2, .int (nI o)), (3, .int (z_ky G D o t)), (4, .int (nI (z_ct (z_ap G D o t) (i + 1))))]) hx hb dX1_countAheadOf_45 hl (k := 5) rfl (nI_1 _) (by decide) rfl (fun ls hl => ?_)
          refine lv_goto (tgt := 13) hx hb dX1_countAheadOf_48 (by decide) ?_
          exact ih13 (i + 1) (by omega) (by omega) _ (lv_sub hl [1, 2, 3, 4, 5, 0] rfl)
        · skip
          refine lv_aload_n hx hb dX1_countAheadOf_31 rfl (lv_at hl 0 rfl) ?_
          refine lv_iload hx hb dX1_countAheadOf_32 (lv_at hl 5 rfl) ?_
          refine lv_iload_n hx hb dX1_countAheadOf_34 rfl (lv_at hl 2 rfl) ?_
          refine z_rVi (v := z_ky G D o i) [] hx hb hml hown hts (m_X1_rankBy l Dg cI a G D i o (by omega) (by omega) hG) gX1_countAheadOf_X1_rankBy rfl kd_X1_rankBy ⟨Nat.le_of_ble_eq_true rfl, Nat.le_of_ble_eq_true rfl⟩ hK hN hP rfl rfl rfl rfl hl.1 rfl (Nat.le_of_ble_eq_true rfl) dX1_countAheadOf_35 ⟨Nat.zero_le _, Nat.zero_le _⟩ ?_
          refine lv_iload_n hx hb dX1_countAheadOf_38 rfl (lv_at hl 3 rfl) ?_
          refine lv_icmp_ge (tgt := 45) hx hb dX1_countAheadOf_39 (by decide) (fun c39 => ?_) (fun c39 => ?_)
          · skip
            have hl : lv_has ls 6 [(0, .ref (a 0)), (1, .int (nI t)), (2, .int (nI o)), (3, .int (z_ky G D o t)), (4, .int (nI (z_ct (z_ap G D o t) (i + 1)))), (5, .int (nI i))] := by have q : nI (z_ct (z_ap G D o t) i) = nI (z_ct (z_ap G D o t) (i + 1)) := (congrArg nI (z_ct_f (p := z_ap G D o t) (n := i) (z_and_f2 (z_dec_f (z_i32_nlt c39)))).symm); rw [← q]; exact hl
            refine lv_iinc (v := nI (i + 1)) (lv' := [(5, .int (nI (i + 1))), (0, .ref (a 0)), (1, .int (nI t)), (2, .int (nI o)), (3, .int (z_ky G D o t)), (4, .int (nI (z_ct (z_ap G D o t) (i + 1))))]) hx hb dX1_countAheadOf_45 hl (k := 5) rfl (nI_1 _) (by decide) rfl (fun ls hl => ?_)
            refine lv_goto (tgt := 13) hx hb dX1_countAheadOf_48 (by decide) ?_
            exact ih13 (i + 1) (by omega) (by omega) _ (lv_sub hl [1, 2, 3, 4, 5, 0] rfl)
          · skip
            refine lv_iinc (v := nI (z_ct (z_ap G D o t) i + 1)) (lv' := [(4, .int (nI (z_ct (z_ap G D o t) i + 1))), (0, .ref (a 0)), (1, .int (nI t)), (2, .int (nI o)), (3, .int (z_ky G D o t)), (5, .int (nI i))]) hx hb dX1_countAheadOf_42 hl (k := 4) rfl (nI_1 _) (by decide) rfl (fun ls hl => ?_)
            have hl : lv_has ls 6 [(4, .int (nI (z_ct (z_ap G D o t) (i + 1)))), (0, .ref (a 0)), (1, .int (nI t)), (2, .int (nI o)), (3, .int (z_ky G D o t)), (5, .int (nI i))] := by have q : nI (z_ct (z_ap G D o t) i + 1) = nI (z_ct (z_ap G D o t) (i + 1)) := (congrArg nI (z_ct_t (p := z_ap G D o t) (n := i) (z_and_t (z_bI1 c28) (z_dec_t (z_i32_lt c39)))).symm); rw [← q]; exact hl
            refine lv_iinc (v := nI (i + 1)) (lv' := [(5, .int (nI (i + 1))), (4, .int (nI (z_ct (z_ap G D o t) (i + 1)))), (0, .ref (a 0)), (1, .int (nI t)), (2, .int (nI o)), (3, .int (z_ky G D o t))]) hx hb dX1_countAheadOf_45 hl (k := 5) rfl (nI_1 _) (by decide) rfl (fun ls hl => ?_)
            refine lv_goto (tgt := 13) hx hb dX1_countAheadOf_48 (by decide) ?_
            exact ih13 (i + 1) (by omega) (by omega) _ (lv_sub hl [2, 3, 4, 5, 1, 0] rfl)
  exact lp13 (z_tc G + 1) 0 (by omega) (by omega) _ (lv_sub hl [3, 4, 5, 2, 1, 0] rfl)

set_option maxHeartbeats 4000000 in
set_option maxRecDepth 100000 in
theorem m_X1_takeBatch (l : Launch) (Dg : va_G) (cI : ClassId) (a : Nat → Nat) (G : z_GG) (D : z_DD) (v_ k_ : Int32) (hb6 : z_bc G < 6) : z_Mw l yX1_takeBatch wsX1_takeBatch 1 22 [.ref (a 0), .int v_, .int k_] Dg cI (z_sW cI a G D) (some (.int (nI (z_bc G)))) (z_sW cI a (z_addb G v_ k_) D) := by
  refine z_sw' (own := RX1) (l0 := [(0, .ref (a 0)), (1, .int v_), (2, .int k_)]) rfl rfl (by decide) (Nat.le_of_ble_eq_true rfl) rfl ?_
  intro p e s m below meth c hx hb hr hml hts hown hlk hP hK hN hD hS ls hl
  refine lv_aload_n hx hb dX1_takeBatch_0 rfl (lv_at hl 0 rfl) ?_
  refine va_get (ci := 1) (v := .int (nI (z_bc G))) (C := RX1) (T := TX1) (N := 14) hx hb hts (fun _ h => (List.mem_cons_of_mem _ (List.mem_append_left _ (List.mem_append_right _ h)))) hown hK hP 0 rfl rfl 5 (by decide) (hts _ (List.mem_cons_of_mem _ (List.mem_append_left _ (List.mem_append_left _ (List.mem_of_getElem? (i := 0) rfl))))) (fun _ h9 => h9) rfl dX1_takeBatch_1 ?_
  refine lv_istore_n (lv' := [(3, .int (nI (z_bc G))), (0, .ref (a 0)), (1, .int v_), (2, .int k_)]) hx hb dX1_takeBatch_4 rfl hl (by decide) rfl (fun ls hl => ?_)
  refine lv_aload_n hx hb dX1_takeBatch_5 rfl (lv_at hl 1 rfl) ?_
  refine va_get (ci := 1) (v := .ref (a 2)) (C := RX1) (T := TX1) (N := 14) hx hb hts (fun _ h => (List.mem_cons_of_mem _ (List.mem_append_left _ (List.mem_append_right _ h)))) hown hK hP 0 rfl rfl 1 (by decide) (hts _ (List.mem_cons_of_mem _ (List.mem_append_left _ (List.mem_append_left _ (List.mem_of_getElem? (i := 1) rfl))))) (fun _ h9 => h9) rfl dX1_takeBatch_6 ?_
  refine lv_iload_n hx hb dX1_takeBatch_9 rfl (lv_at hl 0 rfl) ?_
  refine lv_iload_n hx hb dX1_takeBatch_10 rfl (lv_at hl 2 rfl) ?_
  refine z_wVv [] [2, 11] hx hb hml hown hts (m_X0_set l Dg cI (a 2) (a 11) 6 (z_v0 G) (z_bc G) v_ (by omega) (by decide)) gX1_takeBatch_X0_set rfl kd_X0_set ⟨Nat.le_of_ble_eq_true rfl, Nat.le_of_ble_eq_true rfl⟩ hK hN hP hD hS rfl (by decide) rfl rfl rfl rfl rfl hl.1 rfl (Nat.le_of_ble_eq_true rfl) dX1_takeBatch_11 ⟨Nat.zero_le _, Nat.zero_le _⟩ (fun H locs hP hD hS => ?_)
  have hP : va_P Dg vwCl (z_sX cI a (z_wm G) (upd (z_v0 G) (z_bc G) v_) (z_lk G) (z_sw D) (fun j9 => z_bI (z_rc D j9)) (fun j9 => nI (z_bt G j9)) (fun j9 => nI (z_sh G j9)) (z_vc D) (fun j9 => nI (z_pl D j9)) (nI (z_bc G)) (nI (z_tc G)) (nI (z_sd G)) (nI (z_od G)) (z_dy D)) H := hP
  have hD : va_D _ (z_sX cI a (z_wm G) (upd (z_v0 G) (z_bc G) v_) (z_lk G) (z_sw D) (fun j9 => z_bI (z_rc D j9)) (fun j9 => nI (z_bt G j9)) (fun j9 => nI (z_sh G j9)) (z_vc D) (fun j9 => nI (z_pl D j9)) (nI (z_bc G)) (nI (z_tc G)) (nI (z_sd G)) (nI (z_od G)) (z_dy D)) := hD
  refine lv_aload_n hx hb dX1_takeBatch_14 rfl (lv_at hl 1 rfl) ?_
  refine va_get (ci := 1) (v := .ref (a 3)) (C := RX1) (T := TX1) (N := 14) hx hb hts (fun _ h => (List.mem_cons_of_mem _ (List.mem_append_left _ (List.mem_append_right _ h)))) hown hK hP 0 rfl rfl 2 (by decide) (hts _ (List.mem_cons_of_mem _ (List.mem_append_left _ (List.mem_append_left _ (List.mem_of_getElem? (i := 2) rfl))))) (fun _ h9 => h9) rfl dX1_takeBatch_15 ?_
  refine lv_iload_n hx hb dX1_takeBatch_18 rfl (lv_at hl 0 rfl) ?_
  refine lv_iload_n hx hb dX1_takeBatch_19 rfl (lv_at hl 3 rfl) ?_
  refine z_wVv [] [3, 12] hx hb hml hown hts (m_X0_set l Dg cI (a 3) (a 12) 6 (z_lk G) (z_bc G) k_ (by omega) (by decide)) gX1_takeBatch_X0_set rfl kd_X0_set ⟨Nat.le_of_ble_eq_true rfl, Nat.le_of_ble_eq_true rfl⟩ hK hN hP hD hS rfl (by decide) rfl rfl rfl rfl rfl hl.1 rfl (Nat.le_of_ble_eq_true rfl) dX1_takeBatch_20 ⟨Nat.zero_le _, Nat.zero_le _⟩ (fun H locs hP hD hS => ?_)
  have hP : va_P Dg vwCl (z_sX cI a (z_wm G) (upd (z_v0 G) (z_bc G) v_) (upd (z_lk G) (z_bc G) k_) (z_sw D) (fun j9 => z_bI (z_rc D j9)) (fun j9 => nI (z_bt G j9)) (fun j9 => nI (z_sh G j9)) (z_vc D) (fun j9 => nI (z_pl D j9)) (nI (z_bc G)) (nI (z_tc G)) (nI (z_sd G)) (nI (z_od G)) (z_dy D)) H := hP
  have hD : va_D _ (z_sX cI a (z_wm G) (upd (z_v0 G) (z_bc G) v_) (upd (z_lk G) (z_bc G) k_) (z_sw D) (fun j9 => z_bI (z_rc D j9)) (fun j9 => nI (z_bt G j9)) (fun j9 => nI (z_sh G j9)) (z_vc D) (fun j9 => nI (z_pl D j9)) (nI (z_bc G)) (nI (z_tc G)) (nI (z_sd G)) (nI (z_od G)) (z_dy D)) := hD
  refine lv_aload_n hx hb dX1_takeBatch_23 rfl (lv_at hl 1 rfl) ?_
  refine lv_dup hx hb dX1_takeBatch_24 rfl ?_
  refine va_get (ci := 1) (v := .int (nI (z_bc G))) (C := RX1) (T := TX1) (N := 14) hx hb hts (fun _ h => (List.mem_cons_of_mem _ (List.mem_append_left _ (List.mem_append_right _ h)))) hown hK hP 0 rfl rfl 5 (by decide) (hts _ (List.mem_cons_of_mem _ (List.mem_append_left _ (List.mem_append_left _ (List.mem_of_getElem? (i := 0) rfl))))) (fun _ h9 => h9) rfl dX1_takeBatch_25 ?_
  refine lv_iconst (v := 1) hx hb dX1_takeBatch_28 (by decide) ?_
  refine lv_iadd hx hb dX1_takeBatch_29 ?_
  refine z_top (x' := nI (z_bc G + 1)) (nI_1 _) ?_
  refine va_put (ci := 1) (v := .int (nI (z_bc G + 1))) (ty := .int) (C := RX1) (T := TX1) (N := 14) hx hb hts (fun _ h => (List.mem_cons_of_mem _ (List.mem_append_left _ (List.mem_append_right _ h)))) tyX1 tyX1_ok nmX1 hown hK hP hD hS 0 rfl rfl 5 (by decide) (hts _ (List.mem_cons_of_mem _ (List.mem_append_left _ (List.mem_append_left _ (List.mem_of_getElem? (i := 0) rfl))))) (fun _ h9 => h9) rfl (by decide +kernel) rfl rfl (Nat.le_of_ble_eq_true rfl) dX1_takeBatch_30 (fun H locs hP hD hS => ?_)
  have hP : va_P Dg vwCl (z_sX cI a (z_wm G) (upd (z_v0 G) (z_bc G) v_) (upd (z_lk G) (z_bc G) k_) (z_sw D) (fun j9 => z_bI (z_rc D j9)) (fun j9 => nI (z_bt G j9)) (fun j9 => nI (z_sh G j9)) (z_vc D) (fun j9 => nI (z_pl D j9)) (nI (z_bc G + 1)) (nI (z_tc G)) (nI (z_sd G)) (nI (z_od G)) (z_dy D)) H := hP
  have hD : va_D _ (z_sX cI a (z_wm G) (upd (z_v0 G) (z_bc G) v_) (upd (z_lk G) (z_bc G) k_) (z_sw D) (fun j9 => z_bI (z_rc D j9)) (fun j9 => nI (z_bt G j9)) (fun j9 => nI (z_sh G j9)) (z_vc D) (fun j9 => nI (z_pl D j9)) (nI (z_bc G + 1)) (nI (z_tc G)) (nI (z_sd G)) (nI (z_od G)) (z_dy D)) := hD
  refine lv_iload_n hx hb dX1_takeBatch_33 rfl (lv_at hl 0 rfl) ?_
  exact z_ew_i rfl hP hS hx hb hr hlk dX1_takeBatch_34

set_option maxHeartbeats 4000000 in
set_option maxRecDepth 100000 in
theorem m_X1_takeTins (l : Launch) (Dg : va_G) (cI : ClassId) (a : Nat → Nat) (G : z_GG) (D : z_DD) (b s_ k_ : Nat) (hb6 : b < 6) (hk60 : z_tc G + k_ ≤ 60) : z_Mw l yX1_takeTins wsX1_takeTins 1 22 [.ref (a 0), .int (nI b), .int (nI s_), .int (nI k_)] Dg cI (z_sW cI a G D) (some (.int (nI (z_tc G)))) (z_sW cI a (z_gn G b s_ k_) (z_dn G D b s_ k_)) := by
  refine z_sw' (own := RX1) (l0 := [(0, .ref (a 0)), (1, .int (nI b)), (2, .int (nI s_)), (3, .int (nI k_))]) rfl rfl (by decide) (Nat.le_of_ble_eq_true rfl) rfl ?_
  intro p e s m below meth c hx hb hr hml hts hown hlk hP hK hN hD hS ls hl
  refine lv_aload_n hx hb dX1_takeTins_0 rfl (lv_at hl 0 rfl) ?_
  refine va_get (ci := 1) (v := .int (nI (z_tc G))) (C := RX1) (T := TX1) (N := 14) hx hb hts (fun _ h => (List.mem_cons_of_mem _ (List.mem_append_left _ (List.mem_append_right _ h)))) hown hK hP 0 rfl rfl 10 (by decide) (hts _ (List.mem_cons_of_mem _ (List.mem_append_left _ (List.mem_append_left _ (List.mem_of_getElem? (i := 0) rfl))))) (fun _ h9 => h9) rfl dX1_takeTins_1 ?_
  refine lv_istore (lv' := [(4, .int (nI (z_tc G))), (0, .ref (a 0)), (1, .int (nI b)), (2, .int (nI s_)), (3, .int (nI k_))]) hx hb dX1_takeTins_4 hl (by decide) rfl (fun ls hl => ?_)
  refine lv_iconst (v := nI 0) hx hb dX1_takeTins_6 (by decide) ?_
  refine lv_istore (lv' := [(5, .int (nI 0)), (4, .int (nI (z_tc G))), (0, .ref (a 0)), (1, .int (nI b)), (2, .int (nI s_)), (3, .int (nI k_))]) hx hb dX1_takeTins_7 hl (by decide) rfl (fun ls hl => ?_)
  have lp9 : ∀ (zz i : Nat) , i ≤ k_ → k_ + 1 ≤ i + zz → ∀ (H : Heap) (locs : List Loc), va_P Dg vwCl (z_sW cI a (z_gn G b s_ i) (z_dn G D b s_ i)) H → va_D (z_in (z_sW cI a G D)) (z_sW cI a (z_gn G b s_ i) (z_dn G D b s_ i)) → va_S (z_in (z_sW cI a G D)) s.heap H locs → ∀ ls : Array Slot, lv_has ls 6 [(0, .ref (a 0)), (1, .int (nI b)), (2, .int (nI s_)), (3, .int (nI k_)), (4, .int (nI (z_tc G))), (5, .int (nI i))] → W p l e ({ frames := 1, cells := 0, slots := 0, locals := 22 } : Room) s m ([.ref (a 0), .int (nI b), .int (nI s_), .int (nI k_)] : List Value).toArray below meth c H locs 0 0 (MQ below (z_Qw (some (.int (nI (z_tc G)))) Dg (z_sW cI a G D) (z_sW cI a (z_gn G b s_ k_) (z_dn G D b s_ k_))) ([.ref (a 0), .int (nI b), .int (nI s_), .int (nI k_)] : List Value).toArray s 0 0 (z_in (z_sW cI a G D))) (F0 m 9 ls []) := by
    intro zz
    induction zz with
    | zero => intros; exfalso; omega
    | succ zz ih9 =>
      intro i hi hzz H locs hP hD hS ls hl
      refine lv_iload hx hb dX1_takeTins_9 (lv_at hl 5 rfl) ?_
      refine lv_iload_n hx hb dX1_takeTins_11 rfl (lv_at hl 3 rfl) ?_
      refine lv_icmp_ge (tgt := 86) hx hb dX1_takeTins_12 (by decide) (fun c12 => ?_) (fun c12 => ?_)
      · skip
        have hi2 : i = k_ := Nat.le_antisymm hi (z_le (by omega) (by omega) c12)
        subst hi2
        refine lv_iload hx hb dX1_takeTins_86 (lv_at hl 4 rfl) ?_
        exact z_ew_i rfl hP hS hx hb hr hlk dX1_takeTins_88
      · skip
        have hi2 : i < k_ := z_nle (by omega) c12
        have htc := z_tc_gn G b s_ i
        refine lv_aload_n hx hb dX1_takeTins_15 rfl (lv_at hl 0 rfl) ?_
        refine va_get (ci := 1) (v := .ref (a 6)) (C := RX1) (T := TX1) (N := 14) hx hb hts (fun _ h => (List.mem_cons_of_mem _ (List.mem_append_left _ (List.mem_append_right _ h)))) hown hK hP 0 rfl rfl 6 (by decide) (hts _ (List.mem_cons_of_mem _ (List.mem_append_left _ (List.mem_append_left _ (List.mem_of_getElem? (i := 1) rfl))))) (fun _ h9 => h9) rfl dX1_takeTins_16 ?_
        refine lv_aload_n hx hb dX1_takeTins_19 rfl (lv_at hl 0 rfl) ?_
        refine va_get (ci := 1) (v := .int (nI (z_tc (z_gn G b s_ i)))) (C := RX1) (T := TX1) (N := 14) hx hb hts (fun _ h => (List.mem_cons_of_mem _ (List.mem_append_left _ (List.mem_append_right _ h)))) hown hK hP 0 rfl rfl 10 (by decide) (hts _ (List.mem_cons_of_mem _ (List.mem_append_left _ (List.mem_append_left _ (List.mem_of_getElem? (i := 0) rfl))))) (fun _ h9 => h9) rfl dX1_takeTins_20 ?_
        refine lv_iload_n hx hb dX1_takeTins_23 rfl (lv_at hl 1 rfl) ?_
        refine z_wVv [] [6, 15] hx hb hml hown hts (m_X0_set l Dg cI (a 6) (a 15) 60 (fun j9 => nI (z_bt (z_gn G b s_ i) j9)) (z_tc (z_gn G b s_ i)) (nI b) (by omega) (by decide)) gX1_takeTins_X0_set rfl kd_X0_set ⟨Nat.le_of_ble_eq_true rfl, Nat.le_of_ble_eq_true rfl⟩ hK hN hP hD hS rfl (by decide) rfl rfl rfl rfl rfl hl.1 rfl (Nat.le_of_ble_eq_true rfl) dX1_takeTins_24 ⟨Nat.zero_le _, Nat.zero_le _⟩ (fun H locs hP hD hS => ?_)
        have hP : va_P Dg vwCl (z_sX cI a (z_wm (z_gn G b s_ i)) (z_v0 (z_gn G b s_ i)) (z_lk (z_gn G b s_ i)) (z_sw (z_dn G D b s_ i)) (fun j9 => z_bI (z_rc (z_dn G D b s_ i) j9)) (upd (fun j9 => nI (z_bt (z_gn G b s_ i) j9)) (z_tc (z_gn G b s_ i)) (nI b)) (fun j9 => nI (z_sh (z_gn G b s_ i) j9)) (z_vc (z_dn G D b s_ i)) (fun j9 => nI (z_pl (z_dn G D b s_ i) j9)) (nI (z_bc (z_gn G b s_ i))) (nI (z_tc (z_gn G b s_ i))) (nI (z_sd (z_gn G b s_ i))) (nI (z_od (z_gn G b s_ i))) (z_dy (z_dn G D b s_ i))) H := hP
        have hD : va_D _ (z_sX cI a (z_wm (z_gn G b s_ i)) (z_v0 (z_gn G b s_ i)) (z_lk (z_gn G b s_ i)) (z_sw (z_dn G D b s_ i)) (fun j9 => z_bI (z_rc (z_dn G D b s_ i) j9)) (upd (fun j9 => nI (z_bt (z_gn G b s_ i) j9)) (z_tc (z_gn G b s_ i)) (nI b)) (fun j9 => nI (z_sh (z_gn G b s_ i) j9)) (z_vc (z_dn G D b s_ i)) (fun j9 => nI (z_pl (z_dn G D b s_ i) j9)) (nI (z_bc (z_gn G b s_ i))) (nI (z_tc (z_gn G b s_ i))) (nI (z_sd (z_gn G b s_ i))) (nI (z_od (z_gn G b s_ i))) (z_dy (z_dn G D b s_ i))) := hD
        rw [z_upN] at hP hD
        have hP : va_P Dg vwCl (z_sX cI a (z_wm (z_gn G b s_ i)) (z_v0 (z_gn G b s_ i)) (z_lk (z_gn G b s_ i)) (z_sw (z_dn G D b s_ i)) (fun j9 => z_bI (z_rc (z_dn G D b s_ i) j9)) (fun j9 => nI (va_up (z_bt (z_gn G b s_ i)) (z_tc (z_gn G b s_ i)) b j9)) (fun j9 => nI (z_sh (z_gn G b s_ i) j9)) (z_vc (z_dn G D b s_ i)) (fun j9 => nI (z_pl (z_dn G D b s_ i) j9)) (nI (z_bc (z_gn G b s_ i))) (nI (z_tc (z_gn G b s_ i))) (nI (z_sd (z_gn G b s_ i))) (nI (z_od (z_gn G b s_ i))) (z_dy (z_dn G D b s_ i))) H := hP
        have hD : va_D _ (z_sX cI a (z_wm (z_gn G b s_ i)) (z_v0 (z_gn G b s_ i)) (z_lk (z_gn G b s_ i)) (z_sw (z_dn G D b s_ i)) (fun j9 => z_bI (z_rc (z_dn G D b s_ i) j9)) (fun j9 => nI (va_up (z_bt (z_gn G b s_ i)) (z_tc (z_gn G b s_ i)) b j9)) (fun j9 => nI (z_sh (z_gn G b s_ i) j9)) (z_vc (z_dn G D b s_ i)) (fun j9 => nI (z_pl (z_dn G D b s_ i) j9)) (nI (z_bc (z_gn G b s_ i))) (nI (z_tc (z_gn G b s_ i))) (nI (z_sd (z_gn G b s_ i))) (nI (z_od (z_gn G b s_ i))) (z_dy (z_dn G D b s_ i))) := hD
        refine lv_aload_n hx hb dX1_takeTins_27 rfl (lv_at hl 0 rfl) ?_
        refine va_get (ci := 1) (v := .ref (a 7)) (C := RX1) (T := TX1) (N := 14) hx hb hts (fun _ h => (List.mem_cons_of_mem _ (List.mem_append_left _ (List.mem_append_right _ h)))) hown hK hP 0 rfl rfl 7 (by decide) (hts _ (List.mem_cons_of_mem _ (List.mem_append_left _ (List.mem_append_left _ (List.mem_of_getElem? (i := 2) rfl))))) (fun _ h9 => h9) rfl dX1_takeTins_28 ?_
        refine lv_aload_n hx hb dX1_takeTins_31 rfl (lv_at hl 0 rfl) ?_
        refine va_get (ci := 1) (v := .int (nI (z_tc (z_gn G b s_ i)))) (C := RX1) (T := TX1) (N := 14) hx hb hts (fun _ h => (List.mem_cons_of_mem _ (List.mem_append_left _ (List.mem_append_right _ h)))) hown hK hP 0 rfl rfl 10 (by decide) (hts _ (List.mem_cons_of_mem _ (List.mem_append_left _ (List.mem_append_left _ (List.mem_of_getElem? (i := 0) rfl))))) (fun _ h9 => h9) rfl dX1_takeTins_32 ?_
        refine lv_iload_n hx hb dX1_takeTins_35 rfl (lv_at hl 2 rfl) ?_
        refine z_wVv [] [7, 16] hx hb hml hown hts (m_X0_set l Dg cI (a 7) (a 16) 60 (fun j9 => nI (z_sh (z_gn G b s_ i) j9)) (z_tc (z_gn G b s_ i)) (nI s_) (by omega) (by decide)) gX1_takeTins_X0_set rfl kd_X0_set ⟨Nat.le_of_ble_eq_true rfl, Nat.le_of_ble_eq_true rfl⟩ hK hN hP hD hS rfl (by decide) rfl rfl rfl rfl rfl hl.1 rfl (Nat.le_of_ble_eq_true rfl) dX1_takeTins_36 ⟨Nat.zero_le _, Nat.zero_le _⟩ (fun H locs hP hD hS => ?_)
        have hP : va_P Dg vwCl (z_sX cI a (z_wm (z_gn G b s_ i)) (z_v0 (z_gn G b s_ i)) (z_lk (z_gn G b s_ i)) (z_sw (z_dn G D b s_ i)) (fun j9 => z_bI (z_rc (z_dn G D b s_ i) j9)) (fun j9 => nI (va_up (z_bt (z_gn G b s_ i)) (z_tc (z_gn G b s_ i)) b j9)) (upd (fun j9 => nI (z_sh (z_gn G b s_ i) j9)) (z_tc (z_gn G b s_ i)) (nI s_)) (z_vc (z_dn G D b s_ i)) (fun j9 => nI (z_pl (z_dn G D b s_ i) j9)) (nI (z_bc (z_gn G b s_ i))) (nI (z_tc (z_gn G b s_ i))) (nI (z_sd (z_gn G b s_ i))) (nI (z_od (z_gn G b s_ i))) (z_dy (z_dn G D b s_ i))) H := hP
        have hD : va_D _ (z_sX cI a (z_wm (z_gn G b s_ i)) (z_v0 (z_gn G b s_ i)) (z_lk (z_gn G b s_ i)) (z_sw (z_dn G D b s_ i)) (fun j9 => z_bI (z_rc (z_dn G D b s_ i) j9)) (fun j9 => nI (va_up (z_bt (z_gn G b s_ i)) (z_tc (z_gn G b s_ i)) b j9)) (upd (fun j9 => nI (z_sh (z_gn G b s_ i) j9)) (z_tc (z_gn G b s_ i)) (nI s_)) (z_vc (z_dn G D b s_ i)) (fun j9 => nI (z_pl (z_dn G D b s_ i) j9)) (nI (z_bc (z_gn G b s_ i))) (nI (z_tc (z_gn G b s_ i))) (nI (z_sd (z_gn G b s_ i))) (nI (z_od (z_gn G b s_ i))) (z_dy (z_dn G D b s_ i))) := hD
        rw [z_upN] at hP hD
        have hP : va_P Dg vwCl (z_sX cI a (z_wm (z_gn G b s_ i)) (z_v0 (z_gn G b s_ i)) (z_lk (z_gn G b s_ i)) (z_sw (z_dn G D b s_ i)) (fun j9 => z_bI (z_rc (z_dn G D b s_ i) j9)) (fun j9 => nI (va_up (z_bt (z_gn G b s_ i)) (z_tc (z_gn G b s_ i)) b j9)) (fun j9 => nI (va_up (z_sh (z_gn G b s_ i)) (z_tc (z_gn G b s_ i)) s_ j9)) (z_vc (z_dn G D b s_ i)) (fun j9 => nI (z_pl (z_dn G D b s_ i) j9)) (nI (z_bc (z_gn G b s_ i))) (nI (z_tc (z_gn G b s_ i))) (nI (z_sd (z_gn G b s_ i))) (nI (z_od (z_gn G b s_ i))) (z_dy (z_dn G D b s_ i))) H := hP
        have hD : va_D _ (z_sX cI a (z_wm (z_gn G b s_ i)) (z_v0 (z_gn G b s_ i)) (z_lk (z_gn G b s_ i)) (z_sw (z_dn G D b s_ i)) (fun j9 => z_bI (z_rc (z_dn G D b s_ i) j9)) (fun j9 => nI (va_up (z_bt (z_gn G b s_ i)) (z_tc (z_gn G b s_ i)) b j9)) (fun j9 => nI (va_up (z_sh (z_gn G b s_ i)) (z_tc (z_gn G b s_ i)) s_ j9)) (z_vc (z_dn G D b s_ i)) (fun j9 => nI (z_pl (z_dn G D b s_ i) j9)) (nI (z_bc (z_gn G b s_ i))) (nI (z_tc (z_gn G b s_ i))) (nI (z_sd (z_gn G b s_ i))) (nI (z_od (z_gn G b s_ i))) (z_dy (z_dn G D b s_ i))) := hD
        refine lv_aload_n hx hb dX1_takeTins_39 rfl (lv_at hl 0 rfl) ?_
        refine va_get (ci := 1) (v := .ref (a 8)) (C := RX1) (T := TX1) (N := 14) hx hb hts (fun _ h => (List.mem_cons_of_mem _ (List.mem_append_left _ (List.mem_append_right _ h)))) hown hK hP 0 rfl rfl 8 (by decide) (hts _ (List.mem_cons_of_mem _ (List.mem_append_left _ (List.mem_append_left _ (List.mem_of_getElem? (i := 3) rfl))))) (fun _ h9 => h9) rfl dX1_takeTins_40 ?_
        refine lv_aload_n hx hb dX1_takeTins_43 rfl (lv_at hl 0 rfl) ?_
        refine va_get (ci := 1) (v := .int (nI (z_tc (z_gn G b s_ i)))) (C := RX1) (T := TX1) (N := 14) hx hb hts (fun _ h => (List.mem_cons_of_mem _ (List.mem_append_left _ (List.mem_append_right _ h)))) hown hK hP 0 rfl rfl 10 (by decide) (hts _ (List.mem_cons_of_mem _ (List.mem_append_left _ (List.mem_append_left _ (List.mem_of_getElem? (i := 0) rfl))))) (fun _ h9 => h9) rfl dX1_takeTins_44 ?_
        refine lv_aload_n hx hb dX1_takeTins_47 rfl (lv_at hl 0 rfl) ?_
        refine va_get (ci := 1) (v := .ref (a 2)) (C := RX1) (T := TX1) (N := 14) hx hb hts (fun _ h => (List.mem_cons_of_mem _ (List.mem_append_left _ (List.mem_append_right _ h)))) hown hK hP 0 rfl rfl 1 (by decide) (hts _ (List.mem_cons_of_mem _ (List.mem_append_left _ (List.mem_append_left _ (List.mem_of_getElem? (i := 4) rfl))))) (fun _ h9 => h9) rfl dX1_takeTins_48 ?_
        refine lv_iload_n hx hb dX1_takeTins_51 rfl (lv_at hl 1 rfl) ?_
        refine z_rVi (v := z_v0 (z_gn G b s_ i) b) [.int (nI (z_tc (z_gn G b s_ i))), .ref (a 8)] hx hb hml hown hts (m_X0_get l Dg cI (a 2) (a 11) 6 (z_v0 (z_gn G b s_ i)) b (by omega) (by decide)) gX1_takeTins_X0_get rfl kd_X0_get ⟨Nat.le_of_ble_eq_true rfl, Nat.le_of_ble_eq_true rfl⟩ hK hN (hP.sub [2, 11] rfl) rfl rfl rfl rfl hl.1 rfl (Nat.le_of_ble_eq_true rfl) dX1_takeTins_52 ⟨Nat.zero_le _, Nat.zero_le _⟩ ?_
        refine z_wVv [] [8, 17] hx hb hml hown hts (m_X0_set l Dg cI (a 8) (a 17) 60 (z_vc (z_dn G D b s_ i)) (z_tc (z_gn G b s_ i)) (z_v0 (z_gn G b s_ i) b) (by omega) (by decide)) gX1_takeTins_X0_set rfl kd_X0_set ⟨Nat.le_of_ble_eq_true rfl, Nat.le_of_ble_eq_true rfl⟩ hK hN hP hD hS rfl (by decide) rfl rfl rfl rfl rfl hl.1 rfl (Nat.le_of_ble_eq_true rfl) dX1_takeTins_55 ⟨Nat.zero_le _, Nat.zero_le _⟩ (fun H locs hP hD hS => ?_)
        have hP : va_P Dg vwCl (z_sX cI a (z_wm (z_gn G b s_ i)) (z_v0 (z_gn G b s_ i)) (z_lk (z_gn G b s_ i)) (z_sw (z_dn G D b s_ i)) (fun j9 => z_bI (z_rc (z_dn G D b s_ i) j9)) (fun j9 => nI (va_up (z_bt (z_gn G b s_ i)) (z_tc (z_gn G b s_ i)) b j9)) (fun j9 => nI (va_up (z_sh (z_gn G b s_ i)) (z_tc (z_gn G b s_ i)) s_ j9)) (upd (z_vc (z_dn G D b s_ i)) (z_tc (z_gn G b s_ i)) (z_v0 (z_gn G b s_ i) b)) (fun j9 => nI (z_pl (z_dn G D b s_ i) j9)) (nI (z_bc (z_gn G b s_ i))) (nI (z_tc (z_gn G b s_ i))) (nI (z_sd (z_gn G b s_ i))) (nI (z_od (z_gn G b s_ i))) (z_dy (z_dn G D b s_ i))) H := hP
        have hD : va_D _ (z_sX cI a (z_wm (z_gn G b s_ i)) (z_v0 (z_gn G b s_ i)) (z_lk (z_gn G b s_ i)) (z_sw (z_dn G D b s_ i)) (fun j9 => z_bI (z_rc (z_dn G D b s_ i) j9)) (fun j9 => nI (va_up (z_bt (z_gn G b s_ i)) (z_tc (z_gn G b s_ i)) b j9)) (fun j9 => nI (va_up (z_sh (z_gn G b s_ i)) (z_tc (z_gn G b s_ i)) s_ j9)) (upd (z_vc (z_dn G D b s_ i)) (z_tc (z_gn G b s_ i)) (z_v0 (z_gn G b s_ i) b)) (fun j9 => nI (z_pl (z_dn G D b s_ i) j9)) (nI (z_bc (z_gn G b s_ i))) (nI (z_tc (z_gn G b s_ i))) (nI (z_sd (z_gn G b s_ i))) (nI (z_od (z_gn G b s_ i))) (z_dy (z_dn G D b s_ i))) := hD
        refine lv_aload_n hx hb dX1_takeTins_58 rfl (lv_at hl 0 rfl) ?_
        refine va_get (ci := 1) (v := .ref (a 9)) (C := RX1) (T := TX1) (N := 14) hx hb hts (fun _ h => (List.mem_cons_of_mem _ (List.mem_append_left _ (List.mem_append_right _ h)))) hown hK hP 0 rfl rfl 9 (by decide) (hts _ (List.mem_cons_of_mem _ (List.mem_append_left _ (List.mem_append_left _ (List.mem_of_getElem? (i := 5) rfl))))) (fun _ h9 => h9) rfl dX1_takeTins_59 ?_
        refine lv_aload_n hx hb dX1_takeTins_62 rfl (lv_at hl 0 rfl) ?_
        refine va_get (ci := 1) (v := .int (nI (z_tc (z_gn G b s_ i)))) (C := RX1) (T := TX1) (N := 14) hx hb hts (fun _ h => (List.mem_cons_of_mem _ (List.mem_append_left _ (List.mem_append_right _ h)))) hown hK hP 0 rfl rfl 10 (by decide) (hts _ (List.mem_cons_of_mem _ (List.mem_append_left _ (List.mem_append_left _ (List.mem_of_getElem? (i := 0) rfl))))) (fun _ h9 => h9) rfl dX1_takeTins_63 ?_
        refine lv_iconst (v := nI 1) hx hb dX1_takeTins_66 (by decide) ?_
        refine z_wVv [] [9, 18] hx hb hml hown hts (m_X0_set l Dg cI (a 9) (a 18) 60 (fun j9 => nI (z_pl (z_dn G D b s_ i) j9)) (z_tc (z_gn G b s_ i)) (nI 1) (by omega) (by decide)) gX1_takeTins_X0_set rfl kd_X0_set ⟨Nat.le_of_ble_eq_true rfl, Nat.le_of_ble_eq_true rfl⟩ hK hN hP hD hS rfl (by decide) rfl rfl rfl rfl rfl hl.1 rfl (Nat.le_of_ble_eq_true rfl) dX1_takeTins_67 ⟨Nat.zero_le _, Nat.zero_le _⟩ (fun H locs hP hD hS => ?_)
        have hP : va_P Dg vwCl (z_sX cI a (z_wm (z_gn G b s_ i)) (z_v0 (z_gn G b s_ i)) (z_lk (z_gn G b s_ i)) (z_sw (z_dn G D b s_ i)) (fun j9 => z_bI (z_rc (z_dn G D b s_ i) j9)) (fun j9 => nI (va_up (z_bt (z_gn G b s_ i)) (z_tc (z_gn G b s_ i)) b j9)) (fun j9 => nI (va_up (z_sh (z_gn G b s_ i)) (z_tc (z_gn G b s_ i)) s_ j9)) (upd (z_vc (z_dn G D b s_ i)) (z_tc (z_gn G b s_ i)) (z_v0 (z_gn G b s_ i) b)) (upd (fun j9 => nI (z_pl (z_dn G D b s_ i) j9)) (z_tc (z_gn G b s_ i)) (nI 1)) (nI (z_bc (z_gn G b s_ i))) (nI (z_tc (z_gn G b s_ i))) (nI (z_sd (z_gn G b s_ i))) (nI (z_od (z_gn G b s_ i))) (z_dy (z_dn G D b s_ i))) H := hP
        have hD : va_D _ (z_sX cI a (z_wm (z_gn G b s_ i)) (z_v0 (z_gn G b s_ i)) (z_lk (z_gn G b s_ i)) (z_sw (z_dn G D b s_ i)) (fun j9 => z_bI (z_rc (z_dn G D b s_ i) j9)) (fun j9 => nI (va_up (z_bt (z_gn G b s_ i)) (z_tc (z_gn G b s_ i)) b j9)) (fun j9 => nI (va_up (z_sh (z_gn G b s_ i)) (z_tc (z_gn G b s_ i)) s_ j9)) (upd (z_vc (z_dn G D b s_ i)) (z_tc (z_gn G b s_ i)) (z_v0 (z_gn G b s_ i) b)) (upd (fun j9 => nI (z_pl (z_dn G D b s_ i) j9)) (z_tc (z_gn G b s_ i)) (nI 1)) (nI (z_bc (z_gn G b s_ i))) (nI (z_tc (z_gn G b s_ i))) (nI (z_sd (z_gn G b s_ i))) (nI (z_od (z_gn G b s_ i))) (z_dy (z_dn G D b s_ i))) := hD
        rw [z_upN] at hP hD
        have hP : va_P Dg vwCl (z_sX cI a (z_wm (z_gn G b s_ i)) (z_v0 (z_gn G b s_ i)) (z_lk (z_gn G b s_ i)) (z_sw (z_dn G D b s_ i)) (fun j9 => z_bI (z_rc (z_dn G D b s_ i) j9)) (fun j9 => nI (va_up (z_bt (z_gn G b s_ i)) (z_tc (z_gn G b s_ i)) b j9)) (fun j9 => nI (va_up (z_sh (z_gn G b s_ i)) (z_tc (z_gn G b s_ i)) s_ j9)) (upd (z_vc (z_dn G D b s_ i)) (z_tc (z_gn G b s_ i)) (z_v0 (z_gn G b s_ i) b)) (fun j9 => nI (va_up (z_pl (z_dn G D b s_ i)) (z_tc (z_gn G b s_ i)) 1 j9)) (nI (z_bc (z_gn G b s_ i))) (nI (z_tc (z_gn G b s_ i))) (nI (z_sd (z_gn G b s_ i))) (nI (z_od (z_gn G b s_ i))) (z_dy (z_dn G D b s_ i))) H := hP
        have hD : va_D _ (z_sX cI a (z_wm (z_gn G b s_ i)) (z_v0 (z_gn G b s_ i)) (z_lk (z_gn G b s_ i)) (z_sw (z_dn G D b s_ i)) (fun j9 => z_bI (z_rc (z_dn G D b s_ i) j9)) (fun j9 => nI (va_up (z_bt (z_gn G b s_ i)) (z_tc (z_gn G b s_ i)) b j9)) (fun j9 => nI (va_up (z_sh (z_gn G b s_ i)) (z_tc (z_gn G b s_ i)) s_ j9)) (upd (z_vc (z_dn G D b s_ i)) (z_tc (z_gn G b s_ i)) (z_v0 (z_gn G b s_ i) b)) (fun j9 => nI (va_up (z_pl (z_dn G D b s_ i)) (z_tc (z_gn G b s_ i)) 1 j9)) (nI (z_bc (z_gn G b s_ i))) (nI (z_tc (z_gn G b s_ i))) (nI (z_sd (z_gn G b s_ i))) (nI (z_od (z_gn G b s_ i))) (z_dy (z_dn G D b s_ i))) := hD
        refine lv_aload_n hx hb dX1_takeTins_70 rfl (lv_at hl 0 rfl) ?_
        refine lv_dup hx hb dX1_takeTins_71 rfl ?_
        refine va_get (ci := 1) (v := .int (nI (z_tc (z_gn G b s_ i)))) (C := RX1) (T := TX1) (N := 14) hx hb hts (fun _ h => (List.mem_cons_of_mem _ (List.mem_append_left _ (List.mem_append_right _ h)))) hown hK hP 0 rfl rfl 10 (by decide) (hts _ (List.mem_cons_of_mem _ (List.mem_append_left _ (List.mem_append_left _ (List.mem_of_getElem? (i := 0) rfl))))) (fun _ h9 => h9) rfl dX1_takeTins_72 ?_
        refine lv_iconst (v := 1) hx hb dX1_takeTins_75 (by decide) ?_
        refine lv_iadd hx hb dX1_takeTins_76 ?_
        refine z_top (x' := nI (z_tc (z_gn G b s_ i) + 1)) (nI_1 _) ?_
        refine va_put (ci := 1) (v := .int (nI (z_tc (z_gn G b s_ i) + 1))) (ty := .int) (C := RX1) (T := TX1) (N := 14) hx hb hts (fun _ h => (List.mem_cons_of_mem _ (List.mem_append_left _ (List.mem_append_right _ h)))) tyX1 tyX1_ok nmX1 hown hK hP hD hS 0 rfl rfl 10 (by decide) (hts _ (List.mem_cons_of_mem _ (List.mem_append_left _ (List.mem_append_left _ (List.mem_of_getElem? (i := 0) rfl))))) (fun _ h9 => h9) rfl (by decide +kernel) rfl rfl (Nat.le_of_ble_eq_true rfl) dX1_takeTins_77 (fun H locs hP hD hS => ?_)
        have hP : va_P Dg vwCl (z_sX cI a (z_wm (z_gn G b s_ i)) (z_v0 (z_gn G b s_ i)) (z_lk (z_gn G b s_ i)) (z_sw (z_dn G D b s_ i)) (fun j9 => z_bI (z_rc (z_dn G D b s_ i) j9)) (fun j9 => nI (va_up (z_bt (z_gn G b s_ i)) (z_tc (z_gn G b s_ i)) b j9)) (fun j9 => nI (va_up (z_sh (z_gn G b s_ i)) (z_tc (z_gn G b s_ i)) s_ j9)) (upd (z_vc (z_dn G D b s_ i)) (z_tc (z_gn G b s_ i)) (z_v0 (z_gn G b s_ i) b)) (fun j9 => nI (va_up (z_pl (z_dn G D b s_ i)) (z_tc (z_gn G b s_ i)) 1 j9)) (nI (z_bc (z_gn G b s_ i))) (nI (z_tc (z_gn G b s_ i) + 1)) (nI (z_sd (z_gn G b s_ i))) (nI (z_od (z_gn G b s_ i))) (z_dy (z_dn G D b s_ i))) H := hP
        have hD : va_D _ (z_sX cI a (z_wm (z_gn G b s_ i)) (z_v0 (z_gn G b s_ i)) (z_lk (z_gn G b s_ i)) (z_sw (z_dn G D b s_ i)) (fun j9 => z_bI (z_rc (z_dn G D b s_ i) j9)) (fun j9 => nI (va_up (z_bt (z_gn G b s_ i)) (z_tc (z_gn G b s_ i)) b j9)) (fun j9 => nI (va_up (z_sh (z_gn G b s_ i)) (z_tc (z_gn G b s_ i)) s_ j9)) (upd (z_vc (z_dn G D b s_ i)) (z_tc (z_gn G b s_ i)) (z_v0 (z_gn G b s_ i) b)) (fun j9 => nI (va_up (z_pl (z_dn G D b s_ i)) (z_tc (z_gn G b s_ i)) 1 j9)) (nI (z_bc (z_gn G b s_ i))) (nI (z_tc (z_gn G b s_ i) + 1)) (nI (z_sd (z_gn G b s_ i))) (nI (z_od (z_gn G b s_ i))) (z_dy (z_dn G D b s_ i))) := hD
        have hP : va_P Dg vwCl (z_sW cI a (z_gn G b s_ (i + 1)) (z_dn G D b s_ (i + 1))) H := hP
        have hD : va_D _ (z_sW cI a (z_gn G b s_ (i + 1)) (z_dn G D b s_ (i + 1))) := hD
        refine lv_iinc (v := nI (i + 1)) (lv' := [(5, .int (nI (i + 1))), (0, .ref (a 0)), (1, .int (nI b)), (2, .int (nI s_)), (3, .int (nI k_)), (4, .int (nI (z_tc G)))]) hx hb dX1_takeTins_80 hl (k := 5) rfl (nI_1 _) (by decide) rfl (fun ls hl => ?_)
        refine lv_goto (tgt := 9) hx hb dX1_takeTins_83 (by decide) ?_
        exact ih9 (i + 1) (by omega) (by omega) _ _ hP hD hS _ (lv_sub hl [1, 2, 3, 4, 5, 0] rfl)
  exact lp9 (k_ + 1) 0 (by omega) (by omega) _ _ hP hD hS _ (lv_sub hl [2, 3, 4, 5, 1, 0] rfl)

set_option maxHeartbeats 4000000 in
set_option maxRecDepth 100000 in
theorem m_X1_swellLid (l : Launch) (Dg : va_G) (cI : ClassId) (a : Nat → Nat) (G : z_GG) (D : z_DD) (t : Nat) (ht : t < z_tc G) (hG : z_WG G) : z_Mw l yX1_swellLid wsX1_swellLid 1 22 [.ref (a 0), .int (nI t)] Dg cI (z_sW cI a G D) none (z_sW cI a G (z_sl G D t)) := by
  have htc : z_tc G ≤ 60 := hG.2.2.2.2.2.1
  have hbt := hG.2.2.1 t
  refine z_sw' (own := RX1) (l0 := [(0, .ref (a 0)), (1, .int (nI t))]) rfl rfl (by decide) (Nat.le_of_ble_eq_true rfl) rfl ?_
  intro p e s m below meth c hx hb hr hml hts hown hlk hP hK hN hD hS ls hl
  refine lv_aload_n hx hb dX1_swellLid_0 rfl (lv_at hl 0 rfl) ?_
  refine va_get (ci := 1) (v := .ref (a 6)) (C := RX1) (T := TX1) (N := 14) hx hb hts (fun _ h => (List.mem_cons_of_mem _ (List.mem_append_left _ (List.mem_append_right _ h)))) hown hK hP 0 rfl rfl 6 (by decide) (hts _ (List.mem_cons_of_mem _ (List.mem_append_left _ (List.mem_append_left _ (List.mem_of_getElem? (i := 0) rfl))))) (fun _ h9 => h9) rfl dX1_swellLid_1 ?_
  refine lv_iload_n hx hb dX1_swellLid_4 rfl (lv_at hl 1 rfl) ?_
  refine z_rVi (v := nI (z_bt G t)) [] hx hb hml hown hts (m_X0_get l Dg cI (a 6) (a 15) 60 (fun j9 => nI (z_bt G j9)) t (by omega) (by decide)) gX1_swellLid_X0_get rfl kd_X0_get ⟨Nat.le_of_ble_eq_true rfl, Nat.le_of_ble_eq_true rfl⟩ hK hN (hP.sub [6, 15] rfl) rfl rfl rfl rfl hl.1 rfl (Nat.le_of_ble_eq_true rfl) dX1_swellLid_5 ⟨Nat.zero_le _, Nat.zero_le _⟩ ?_
  refine lv_istore_n (lv' := [(2, .int (nI (z_bt G t))), (0, .ref (a 0)), (1, .int (nI t))]) hx hb dX1_swellLid_8 rfl hl (by decide) rfl (fun ls hl => ?_)
  refine lv_aload_n hx hb dX1_swellLid_9 rfl (lv_at hl 1 rfl) ?_
  refine va_get (ci := 1) (v := .ref (a 4)) (C := RX1) (T := TX1) (N := 14) hx hb hts (fun _ h => (List.mem_cons_of_mem _ (List.mem_append_left _ (List.mem_append_right _ h)))) hown hK hP 0 rfl rfl 3 (by decide) (hts _ (List.mem_cons_of_mem _ (List.mem_append_left _ (List.mem_append_left _ (List.mem_of_getElem? (i := 1) rfl))))) (fun _ h9 => h9) rfl dX1_swellLid_10 ?_
  refine lv_iload_n hx hb dX1_swellLid_13 rfl (lv_at hl 0 rfl) ?_
  refine lv_aload_n hx hb dX1_swellLid_14 rfl (lv_at hl 1 rfl) ?_
  refine va_get (ci := 1) (v := .ref (a 4)) (C := RX1) (T := TX1) (N := 14) hx hb hts (fun _ h => (List.mem_cons_of_mem _ (List.mem_append_left _ (List.mem_append_right _ h)))) hown hK hP 0 rfl rfl 3 (by decide) (hts _ (List.mem_cons_of_mem _ (List.mem_append_left _ (List.mem_append_left _ (List.mem_of_getElem? (i := 1) rfl))))) (fun _ h9 => h9) rfl dX1_swellLid_15 ?_
  refine lv_iload_n hx hb dX1_swellLid_18 rfl (lv_at hl 0 rfl) ?_
  refine z_rVi (v := z_sw D (z_bt G t)) [.int (nI (z_bt G t)), .ref (a 4)] hx hb hml hown hts (m_X0_get l Dg cI (a 4) (a 13) 6 (z_sw D) (z_bt G t) (by omega) (by decide)) gX1_swellLid_X0_get rfl kd_X0_get ⟨Nat.le_of_ble_eq_true rfl, Nat.le_of_ble_eq_true rfl⟩ hK hN (hP.sub [4, 13] rfl) rfl rfl rfl rfl hl.1 rfl (Nat.le_of_ble_eq_true rfl) dX1_swellLid_19 ⟨Nat.zero_le _, Nat.zero_le _⟩ ?_
  refine lv_iconst (v := 1) hx hb dX1_swellLid_22 (by decide) ?_
  refine lv_iadd hx hb dX1_swellLid_23 ?_
  refine z_wVv [] [4, 13] hx hb hml hown hts (m_X0_set l Dg cI (a 4) (a 13) 6 (z_sw D) (z_bt G t) ((z_sw D (z_bt G t)) + 1) (by omega) (by decide)) gX1_swellLid_X0_set rfl kd_X0_set ⟨Nat.le_of_ble_eq_true rfl, Nat.le_of_ble_eq_true rfl⟩ hK hN hP hD hS rfl (by decide) rfl rfl rfl rfl rfl hl.1 rfl (Nat.le_of_ble_eq_true rfl) dX1_swellLid_24 ⟨Nat.zero_le _, Nat.zero_le _⟩ (fun H locs hP hD hS => ?_)
  have hP : va_P Dg vwCl (z_sX cI a (z_wm G) (z_v0 G) (z_lk G) (upd (z_sw D) (z_bt G t) ((z_sw D (z_bt G t)) + 1)) (fun j9 => z_bI (z_rc D j9)) (fun j9 => nI (z_bt G j9)) (fun j9 => nI (z_sh G j9)) (z_vc D) (fun j9 => nI (z_pl D j9)) (nI (z_bc G)) (nI (z_tc G)) (nI (z_sd G)) (nI (z_od G)) (z_dy D)) H := hP
  have hD : va_D _ (z_sX cI a (z_wm G) (z_v0 G) (z_lk G) (upd (z_sw D) (z_bt G t) ((z_sw D (z_bt G t)) + 1)) (fun j9 => z_bI (z_rc D j9)) (fun j9 => nI (z_bt G j9)) (fun j9 => nI (z_sh G j9)) (z_vc D) (fun j9 => nI (z_pl D j9)) (nI (z_bc G)) (nI (z_tc G)) (nI (z_sd G)) (nI (z_od G)) (z_dy D)) := hD
  refine lv_aload_n hx hb dX1_swellLid_27 rfl (lv_at hl 1 rfl) ?_
  refine va_get (ci := 1) (v := .ref (a 9)) (C := RX1) (T := TX1) (N := 14) hx hb hts (fun _ h => (List.mem_cons_of_mem _ (List.mem_append_left _ (List.mem_append_right _ h)))) hown hK hP 0 rfl rfl 9 (by decide) (hts _ (List.mem_cons_of_mem _ (List.mem_append_left _ (List.mem_append_left _ (List.mem_of_getElem? (i := 2) rfl))))) (fun _ h9 => h9) rfl dX1_swellLid_28 ?_
  refine lv_iload_n hx hb dX1_swellLid_31 rfl (lv_at hl 2 rfl) ?_
  refine lv_iconst (v := nI 3) hx hb dX1_swellLid_32 (by decide) ?_
  refine z_wVv [] [9, 18] hx hb hml hown hts (m_X0_set l Dg cI (a 9) (a 18) 60 (fun j9 => nI (z_pl D j9)) t (nI 3) (by omega) (by decide)) gX1_swellLid_X0_set rfl kd_X0_set ⟨Nat.le_of_ble_eq_true rfl, Nat.le_of_ble_eq_true rfl⟩ hK hN hP hD hS rfl (by decide) rfl rfl rfl rfl rfl hl.1 rfl (Nat.le_of_ble_eq_true rfl) dX1_swellLid_33 ⟨Nat.zero_le _, Nat.zero_le _⟩ (fun H locs hP hD hS => ?_)
  have hP : va_P Dg vwCl (z_sX cI a (z_wm G) (z_v0 G) (z_lk G) (upd (z_sw D) (z_bt G t) ((z_sw D (z_bt G t)) + 1)) (fun j9 => z_bI (z_rc D j9)) (fun j9 => nI (z_bt G j9)) (fun j9 => nI (z_sh G j9)) (z_vc D) (upd (fun j9 => nI (z_pl D j9)) t (nI 3)) (nI (z_bc G)) (nI (z_tc G)) (nI (z_sd G)) (nI (z_od G)) (z_dy D)) H := hP
  have hD : va_D _ (z_sX cI a (z_wm G) (z_v0 G) (z_lk G) (upd (z_sw D) (z_bt G t) ((z_sw D (z_bt G t)) + 1)) (fun j9 => z_bI (z_rc D j9)) (fun j9 => nI (z_bt G j9)) (fun j9 => nI (z_sh G j9)) (z_vc D) (upd (fun j9 => nI (z_pl D j9)) t (nI 3)) (nI (z_bc G)) (nI (z_tc G)) (nI (z_sd G)) (nI (z_od G)) (z_dy D)) := hD
  rw [z_upN] at hP hD
  have hP : va_P Dg vwCl (z_sX cI a (z_wm G) (z_v0 G) (z_lk G) (upd (z_sw D) (z_bt G t) ((z_sw D (z_bt G t)) + 1)) (fun j9 => z_bI (z_rc D j9)) (fun j9 => nI (z_bt G j9)) (fun j9 => nI (z_sh G j9)) (z_vc D) (fun j9 => nI (va_up (z_pl D) t 3 j9)) (nI (z_bc G)) (nI (z_tc G)) (nI (z_sd G)) (nI (z_od G)) (z_dy D)) H := hP
  have hD : va_D _ (z_sX cI a (z_wm G) (z_v0 G) (z_lk G) (upd (z_sw D) (z_bt G t) ((z_sw D (z_bt G t)) + 1)) (fun j9 => z_bI (z_rc D j9)) (fun j9 => nI (z_bt G j9)) (fun j9 => nI (z_sh G j9)) (z_vc D) (fun j9 => nI (va_up (z_pl D) t 3 j9)) (nI (z_bc G)) (nI (z_tc G)) (nI (z_sd G)) (nI (z_od G)) (z_dy D)) := hD
  exact z_ew_v hP hS hx hb hr hlk dX1_swellLid_36

set_option maxHeartbeats 4000000 in
set_option maxRecDepth 100000 in
theorem m_X1_wearTins (l : Launch) (Dg : va_G) (cI : ClassId) (a : Nat → Nat) (G : z_GG) (D : z_DD) (hG : z_WG G) (hW : z_WD G D) : z_Mw l yX1_wearTins wsX1_wearTins 2 44 [.ref (a 0)] Dg cI (z_sW cI a G D) none (z_sW cI a G (z_wn G D (z_tc G))) := by
  have htc : z_tc G ≤ 60 := hG.2.2.2.2.2.1
  refine z_sw' (own := RX1) (l0 := [(0, .ref (a 0))]) rfl rfl (by decide) (Nat.le_of_ble_eq_true rfl) rfl ?_
  intro p e s m below meth c hx hb hr hml hts hown hlk hP hK hN hD hS ls hl
  refine lv_iconst (v := nI 0) hx hb dX1_wearTins_0 (by decide) ?_
  refine lv_istore_n (lv' := [(1, .int (nI 0)), (0, .ref (a 0))]) hx hb dX1_wearTins_1 rfl hl (by decide) rfl (fun ls hl => ?_)
  have lp2 : ∀ (zz i : Nat) , i ≤ z_tc G → z_tc G + 1 ≤ i + zz → ∀ (H : Heap) (locs : List Loc), va_P Dg vwCl (z_sW cI a G (z_wn G D i)) H → va_D (z_in (z_sW cI a G D)) (z_sW cI a G (z_wn G D i)) → va_S (z_in (z_sW cI a G D)) s.heap H locs → ∀ ls : Array Slot, lv_has ls 2 [(0, .ref (a 0)), (1, .int (nI i))] → W p l e ({ frames := 2, cells := 0, slots := 0, locals := 44 } : Room) s m ([.ref (a 0)] : List Value).toArray below meth c H locs 0 0 (MQ below (z_Qw none Dg (z_sW cI a G D) (z_sW cI a G (z_wn G D (z_tc G)))) ([.ref (a 0)] : List Value).toArray s 0 0 (z_in (z_sW cI a G D))) (F0 m 2 ls []) := by
    intro zz
    induction zz with
    | zero => intros; exfalso; omega
    | succ zz ih2 =>
      intro i hi hzz H locs hP hD hS ls hl
      refine lv_iload_n hx hb dX1_wearTins_2 rfl (lv_at hl 1 rfl) ?_
      refine lv_aload_n hx hb dX1_wearTins_3 rfl (lv_at hl 0 rfl) ?_
      refine va_get (ci := 1) (v := .int (nI (z_tc G))) (C := RX1) (T := TX1) (N := 14) hx hb hts (fun _ h => (List.mem_cons_of_mem _ (List.mem_append_left _ (List.mem_append_right _ h)))) hown hK hP 0 rfl rfl 10 (by decide) (hts _ (List.mem_cons_of_mem _ (List.mem_append_left _ (List.mem_append_left _ (List.mem_append_left _ (List.mem_of_getElem? (i := 0) rfl)))))) (fun _ h9 => h9) rfl dX1_wearTins_4 ?_
      refine lv_icmp_ge (tgt := 74) hx hb dX1_wearTins_7 (by decide) (fun c7 => ?_) (fun c7 => ?_)
      · skip
        have hi2 : i = z_tc G := Nat.le_antisymm hi (z_le (by omega) (by omega) c7)
        rw [hi2] at hP
        exact z_ew_v hP hS hx hb hr hlk dX1_wearTins_74
      · skip
        have hi2 : i < z_tc G := z_nle (by omega) c7
        have hWi := z_WD_wn hW i
        have hsh := hG.2.2.2.1 i
        refine lv_aload_n hx hb dX1_wearTins_10 rfl (lv_at hl 0 rfl) ?_
        refine lv_iload_n hx hb dX1_wearTins_11 rfl (lv_at hl 1 rfl) ?_
        refine z_rVi (v := z_bI (z_pl (z_wn G D i) i == 1)) [] hx hb hml hown hts (m_X1_holds l Dg cI a G (z_wn G D i) i (by omega) hG hWi) gX1_wearTins_X1_holds rfl kd_X1_holds ⟨Nat.le_of_ble_eq_true rfl, Nat.le_of_ble_eq_true rfl⟩ hK hN hP rfl rfl rfl rfl hl.1 rfl (Nat.le_of_ble_eq_true rfl) dX1_wearTins_12 ⟨Nat.zero_le _, Nat.zero_le _⟩ ?_
        refine lv_if_eq (tgt := 68) hx hb dX1_wearTins_15 (by decide) (fun c15 => ?_) (fun c15 => ?_)
        · skip
          have qD : z_wn G D (i + 1) = (z_wn G D i) := (z_wn_0 (z_bne' (z_bI0 c15)))
          rw [← qD] at hP hD
          have hP : va_P Dg vwCl (z_sW cI a G (z_wn G D (i + 1))) H := hP
          have hD : va_D _ (z_sW cI a G (z_wn G D (i + 1))) := hD
          refine lv_iinc (v := nI (i + 1)) (lv' := [(1, .int (nI (i + 1))), (0, .ref (a 0))]) hx hb dX1_wearTins_68 hl (k := 1) rfl (nI_1 _) (by decide) rfl (fun ls hl => ?_)
          refine lv_goto (tgt := 2) hx hb dX1_wearTins_71 (by decide) ?_
          exact ih2 (i + 1) (by omega) (by omega) _ _ hP hD hS _ (lv_sub hl [1, 0] rfl)
        · skip
          refine lv_aload_n hx hb dX1_wearTins_18 rfl (lv_at hl 0 rfl) ?_
          refine va_get (ci := 1) (v := .ref (a 8)) (C := RX1) (T := TX1) (N := 14) hx hb hts (fun _ h => (List.mem_cons_of_mem _ (List.mem_append_left _ (List.mem_append_right _ h)))) hown hK hP 0 rfl rfl 8 (by decide) (hts _ (List.mem_cons_of_mem _ (List.mem_append_left _ (List.mem_append_left _ (List.mem_append_left _ (List.mem_of_getElem? (i := 1) rfl)))))) (fun _ h9 => h9) rfl dX1_wearTins_19 ?_
          refine lv_iload_n hx hb dX1_wearTins_22 rfl (lv_at hl 1 rfl) ?_
          refine lv_iconst (v := 0) hx hb dX1_wearTins_23 (by decide) ?_
          refine lv_aload_n hx hb dX1_wearTins_24 rfl (lv_at hl 0 rfl) ?_
          refine va_get (ci := 1) (v := .ref (a 8)) (C := RX1) (T := TX1) (N := 14) hx hb hts (fun _ h => (List.mem_cons_of_mem _ (List.mem_append_left _ (List.mem_append_right _ h)))) hown hK hP 0 rfl rfl 8 (by decide) (hts _ (List.mem_cons_of_mem _ (List.mem_append_left _ (List.mem_append_left _ (List.mem_append_left _ (List.mem_of_getElem? (i := 1) rfl)))))) (fun _ h9 => h9) rfl dX1_wearTins_25 ?_
          refine lv_iload_n hx hb dX1_wearTins_28 rfl (lv_at hl 1 rfl) ?_
          refine z_rVi (v := z_vc (z_wn G D i) i) [.int 0, .int (nI i), .ref (a 8)] hx hb hml hown hts (m_X0_get l Dg cI (a 8) (a 17) 60 (z_vc (z_wn G D i)) i (by omega) (by decide)) gX1_wearTins_X0_get rfl kd_X0_get ⟨Nat.le_of_ble_eq_true rfl, Nat.le_of_ble_eq_true rfl⟩ hK hN (hP.sub [8, 17] rfl) rfl rfl rfl rfl hl.1 rfl (Nat.le_of_ble_eq_true rfl) dX1_wearTins_29 ⟨Nat.zero_le _, Nat.zero_le _⟩ ?_
          refine lv_aload_n hx hb dX1_wearTins_32 rfl (lv_at hl 0 rfl) ?_
          refine lv_iload_n hx hb dX1_wearTins_33 rfl (lv_at hl 1 rfl) ?_
          refine lv_aload_n hx hb dX1_wearTins_34 rfl (lv_at hl 0 rfl) ?_
          refine va_get (ci := 1) (v := .ref (a 7)) (C := RX1) (T := TX1) (N := 14) hx hb hts (fun _ h => (List.mem_cons_of_mem _ (List.mem_append_left _ (List.mem_append_right _ h)))) hown hK hP 0 rfl rfl 7 (by decide) (hts _ (List.mem_cons_of_mem _ (List.mem_append_left _ (List.mem_append_left _ (List.mem_append_left _ (List.mem_of_getElem? (i := 2) rfl)))))) (fun _ h9 => h9) rfl dX1_wearTins_35 ?_
          refine lv_iload_n hx hb dX1_wearTins_38 rfl (lv_at hl 1 rfl) ?_
          refine z_rVi (v := nI (z_sh G i)) [.int (nI i), .ref (a 0), .int (z_vc (z_wn G D i) i), .int 0, .int (nI i), .ref (a 8)] hx hb hml hown hts (m_X0_get l Dg cI (a 7) (a 16) 60 (fun j9 => nI (z_sh G j9)) i (by omega) (by decide)) gX1_wearTins_X0_get rfl kd_X0_get ⟨Nat.le_of_ble_eq_true rfl, Nat.le_of_ble_eq_true rfl⟩ hK hN (hP.sub [7, 16] rfl) rfl rfl rfl rfl hl.1 rfl (Nat.le_of_ble_eq_true rfl) dX1_wearTins_39 ⟨Nat.zero_le _, Nat.zero_le _⟩ ?_
          refine z_rVi (v := z_rt G i (z_sh G i)) [.int (z_vc (z_wn G D i) i), .int 0, .int (nI i), .ref (a 8)] hx hb hml hown hts (m_X1_wearOn l Dg cI a G (z_wn G D i) i (z_sh G i) (by omega) (by omega) hG) gX1_wearTins_X1_wearOn rfl kd_X1_wearOn ⟨Nat.le_of_ble_eq_true rfl, Nat.le_of_ble_eq_true rfl⟩ hK hN hP rfl rfl rfl rfl hl.1 rfl (Nat.le_of_ble_eq_true rfl) dX1_wearTins_42 ⟨Nat.zero_le _, Nat.zero_le _⟩ ?_
          refine lv_isub hx hb dX1_wearTins_45 ?_
          refine va_mmax hx hb (hml.trans hl.1.symm) hown (hts _ (List.mem_cons_of_mem _ (List.mem_append_left _ (List.mem_append_left _ (List.mem_append_left _ (List.mem_of_getElem? (i := 3) rfl)))))) (hts _ (List.mem_cons_of_mem _ (List.mem_append_left _ (List.mem_append_left _ (List.mem_append_left _ (List.mem_of_getElem? (i := 4) rfl)))))) (hts _ (List.mem_cons_of_mem _ (List.mem_append_left _ (List.mem_append_left _ (List.mem_append_left _ (List.mem_of_getElem? (i := 5) rfl)))))) (hts _ (List.mem_cons_of_mem _ (List.mem_append_left _ (List.mem_append_left _ (List.mem_append_left _ (List.mem_of_getElem? (i := 6) rfl)))))) (Nat.le_of_ble_eq_true rfl) (Nat.le_of_ble_eq_true rfl) (Nat.zero_le _) (Nat.zero_le _) dX1_wearTins_46 ?_
          refine z_top (x' := z_wv G (z_wn G D i) i) rfl ?_
          refine z_wVv [] [8, 17] hx hb hml hown hts (m_X0_set l Dg cI (a 8) (a 17) 60 (z_vc (z_wn G D i)) i (z_wv G (z_wn G D i) i) (by omega) (by decide)) gX1_wearTins_X0_set rfl kd_X0_set ⟨Nat.le_of_ble_eq_true rfl, Nat.le_of_ble_eq_true rfl⟩ hK hN hP hD hS rfl (by decide) rfl rfl rfl rfl rfl hl.1 rfl (Nat.le_of_ble_eq_true rfl) dX1_wearTins_49 ⟨Nat.zero_le _, Nat.zero_le _⟩ (fun H locs hP hD hS => ?_)
          have hP : va_P Dg vwCl (z_sX cI a (z_wm G) (z_v0 G) (z_lk G) (z_sw (z_wn G D i)) (fun j9 => z_bI (z_rc (z_wn G D i) j9)) (fun j9 => nI (z_bt G j9)) (fun j9 => nI (z_sh G j9)) (upd (z_vc (z_wn G D i)) i (z_wv G (z_wn G D i) i)) (fun j9 => nI (z_pl (z_wn G D i) j9)) (nI (z_bc G)) (nI (z_tc G)) (nI (z_sd G)) (nI (z_od G)) (z_dy (z_wn G D i))) H := hP
          have hD : va_D _ (z_sX cI a (z_wm G) (z_v0 G) (z_lk G) (z_sw (z_wn G D i)) (fun j9 => z_bI (z_rc (z_wn G D i) j9)) (fun j9 => nI (z_bt G j9)) (fun j9 => nI (z_sh G j9)) (upd (z_vc (z_wn G D i)) i (z_wv G (z_wn G D i) i)) (fun j9 => nI (z_pl (z_wn G D i) j9)) (nI (z_bc G)) (nI (z_tc G)) (nI (z_sd G)) (nI (z_od G)) (z_dy (z_wn G D i))) := hD
          have hP : va_P Dg vwCl (z_sW cI a G (z_setvc (z_wn G D i) i (z_wv G (z_wn G D i) i))) H := hP
          have hD : va_D _ (z_sW cI a G (z_setvc (z_wn G D i) i (z_wv G (z_wn G D i) i))) := hD
          refine lv_aload_n hx hb dX1_wearTins_52 rfl (lv_at hl 0 rfl) ?_
          refine va_get (ci := 1) (v := .ref (a 8)) (C := RX1) (T := TX1) (N := 14) hx hb hts (fun _ h => (List.mem_cons_of_mem _ (List.mem_append_left _ (List.mem_append_right _ h)))) hown hK hP 0 rfl rfl 8 (by decide) (hts _ (List.mem_cons_of_mem _ (List.mem_append_left _ (List.mem_append_left _ (List.mem_append_left _ (List.mem_of_getElem? (i := 1) rfl)))))) (fun _ h9 => h9) rfl dX1_wearTins_53 ?_
          refine lv_iload_n hx hb dX1_wearTins_56 rfl (lv_at hl 1 rfl) ?_
          refine z_rVi (v := z_vc (z_setvc (z_wn G D i) i (z_wv G (z_wn G D i) i)) i) [] hx hb hml hown hts (m_X0_get l Dg cI (a 8) (a 17) 60 (z_vc (z_setvc (z_wn G D i) i (z_wv G (z_wn G D i) i))) i (by omega) (by decide)) gX1_wearTins_X0_get rfl kd_X0_get ⟨Nat.le_of_ble_eq_true rfl, Nat.le_of_ble_eq_true rfl⟩ hK hN (hP.sub [8, 17] rfl) rfl rfl rfl rfl hl.1 rfl (Nat.le_of_ble_eq_true rfl) dX1_wearTins_57 ⟨Nat.zero_le _, Nat.zero_le _⟩ ?_
          refine z_top (x' := z_wv G (z_wn G D i) i) (z_upd_eq _ _ _) ?_
          refine lv_if_ne (tgt := 68) hx hb dX1_wearTins_60 (by decide) (fun c60 => ?_) (fun c60 => ?_)
          · skip
            have qD : z_wn G D (i + 1) = z_setvc (z_wn G D i) i (z_wv G (z_wn G D i) i) := (z_wn_1 (z_beq' (z_bI1 c15)) c60)
            rw [← qD] at hP hD
            have hP : va_P Dg vwCl (z_sW cI a G (z_wn G D (i + 1))) H := hP
            have hD : va_D _ (z_sW cI a G (z_wn G D (i + 1))) := hD
            refine lv_iinc (v := nI (i + 1)) (lv' := [(1, .int (nI (i + 1))), (0, .ref (a 0))]) hx hb dX1_wearTins_68 hl (k := 1) rfl (nI_1 _) (by decide) rfl (fun ls hl => ?_)
            refine lv_goto (tgt := 2) hx hb dX1_wearTins_71 (by decide) ?_
            exact ih2 (i + 1) (by omega) (by omega) _ _ hP hD hS _ (lv_sub hl [1, 0] rfl)
          · skip
            refine lv_aload_n hx hb dX1_wearTins_63 rfl (lv_at hl 0 rfl) ?_
            refine lv_iload_n hx hb dX1_wearTins_64 rfl (lv_at hl 1 rfl) ?_
            refine z_wAv [] hx hb hml hown hts (m_X1_swellLid l Dg cI a G (z_setvc (z_wn G D i) i (z_wv G (z_wn G D i) i)) i (by omega) hG) gX1_wearTins_X1_swellLid rfl kd_X1_swellLid ⟨Nat.le_of_ble_eq_true rfl, Nat.le_of_ble_eq_true rfl⟩ hK hN hP hD hS rfl rfl rfl rfl rfl hl.1 rfl (Nat.le_of_ble_eq_true rfl) dX1_wearTins_65 ⟨Nat.zero_le _, Nat.zero_le _⟩ (fun H locs hP hD hS => ?_)
            have hP : va_P Dg vwCl (z_sW cI a G (z_sl G (z_setvc (z_wn G D i) i (z_wv G (z_wn G D i) i)) i)) H := hP
            have hD : va_D _ (z_sW cI a G (z_sl G (z_setvc (z_wn G D i) i (z_wv G (z_wn G D i) i)) i)) := hD
            have qD : z_wn G D (i + 1) = z_sl G (z_setvc (z_wn G D i) i (z_wv G (z_wn G D i) i)) i := (z_wn_2 (z_beq' (z_bI1 c15)) c60)
            rw [← qD] at hP hD
            have hP : va_P Dg vwCl (z_sW cI a G (z_wn G D (i + 1))) H := hP
            have hD : va_D _ (z_sW cI a G (z_wn G D (i + 1))) := hD
            refine lv_iinc (v := nI (i + 1)) (lv' := [(1, .int (nI (i + 1))), (0, .ref (a 0))]) hx hb dX1_wearTins_68 hl (k := 1) rfl (nI_1 _) (by decide) rfl (fun ls hl => ?_)
            refine lv_goto (tgt := 2) hx hb dX1_wearTins_71 (by decide) ?_
            exact ih2 (i + 1) (by omega) (by omega) _ _ hP hD hS _ (lv_sub hl [1, 0] rfl)
  exact lp2 (z_tc G + 1) 0 (by omega) (by omega) _ _ hP hD hS _ (lv_sub hl [1, 0] rfl)

set_option maxHeartbeats 4000000 in
set_option maxRecDepth 100000 in
theorem m_X1_ship_0 (l : Launch) (Dg : va_G) (cI : ClassId) (a : Nat → Nat) (G : z_GG) (D : z_DD)  : z_Mw l yX1_ship wsX1_ship 1 22 [.ref (a 0), .int (-1)] Dg cI (z_sW cI a G D) none (z_sW cI a G D) := by
  refine z_sw' (own := RX1) (l0 := [(0, .ref (a 0)), (1, .int (-1))]) rfl rfl (by decide) (Nat.le_of_ble_eq_true rfl) rfl ?_
  intro p e s m below meth c hx hb hr hml hts hown hlk hP hK hN hD hS ls hl
  refine lv_iload_n hx hb dX1_ship_0 rfl (lv_at hl 1 rfl) ?_
  refine lv_iconst (v := (-1)) hx hb dX1_ship_1 (by decide) ?_
  refine lv_icmp_eq (tgt := 14) hx hb dX1_ship_2 (by decide) (fun c2 => ?_) (fun c2 => absurd rfl c2)
  exact z_ew_v hP hS hx hb hr hlk dX1_ship_14

set_option maxHeartbeats 4000000 in
set_option maxRecDepth 100000 in
theorem m_X1_ship_t (l : Launch) (Dg : va_G) (cI : ClassId) (a : Nat → Nat) (G : z_GG) (D : z_DD) (t : Nat) (ht : t < 60) : z_Mw l yX1_ship wsX1_ship 1 22 [.ref (a 0), .int (nI t)] Dg cI (z_sW cI a G D) none (z_sW cI a G (z_setpl D t 2)) := by
  refine z_sw' (own := RX1) (l0 := [(0, .ref (a 0)), (1, .int (nI t))]) rfl rfl (by decide) (Nat.le_of_ble_eq_true rfl) rfl ?_
  intro p e s m below meth c hx hb hr hml hts hown hlk hP hK hN hD hS ls hl
  refine lv_iload_n hx hb dX1_ship_0 rfl (lv_at hl 1 rfl) ?_
  refine lv_iconst (v := (-1)) hx hb dX1_ship_1 (by decide) ?_
  refine lv_icmp_eq (tgt := 14) hx hb dX1_ship_2 (by decide) (fun c2 => absurd c2 (z_nm1 (by omega))) (fun c2 => ?_)
  refine lv_aload_n hx hb dX1_ship_5 rfl (lv_at hl 0 rfl) ?_
  refine va_get (ci := 1) (v := .ref (a 9)) (C := RX1) (T := TX1) (N := 14) hx hb hts (fun _ h => (List.mem_cons_of_mem _ (List.mem_append_left _ (List.mem_append_right _ h)))) hown hK hP 0 rfl rfl 9 (by decide) (hts _ (List.mem_cons_of_mem _ (List.mem_append_left _ (List.mem_append_left _ (List.mem_of_getElem? (i := 0) rfl))))) (fun _ h9 => h9) rfl dX1_ship_6 ?_
  refine lv_iload_n hx hb dX1_ship_9 rfl (lv_at hl 1 rfl) ?_
  refine lv_iconst (v := nI 2) hx hb dX1_ship_10 (by decide) ?_
  refine z_wVv [] [9, 18] hx hb hml hown hts (m_X0_set l Dg cI (a 9) (a 18) 60 (fun j9 => nI (z_pl D j9)) t (nI 2) (by omega) (by decide)) gX1_ship_X0_set rfl kd_X0_set ⟨Nat.le_of_ble_eq_true rfl, Nat.le_of_ble_eq_true rfl⟩ hK hN hP hD hS rfl (by decide) rfl rfl rfl rfl rfl hl.1 rfl (Nat.le_of_ble_eq_true rfl) dX1_ship_11 ⟨Nat.zero_le _, Nat.zero_le _⟩ (fun H locs hP hD hS => ?_)
  have hP : va_P Dg vwCl (z_sX cI a (z_wm G) (z_v0 G) (z_lk G) (z_sw D) (fun j9 => z_bI (z_rc D j9)) (fun j9 => nI (z_bt G j9)) (fun j9 => nI (z_sh G j9)) (z_vc D) (upd (fun j9 => nI (z_pl D j9)) t (nI 2)) (nI (z_bc G)) (nI (z_tc G)) (nI (z_sd G)) (nI (z_od G)) (z_dy D)) H := hP
  have hD : va_D _ (z_sX cI a (z_wm G) (z_v0 G) (z_lk G) (z_sw D) (fun j9 => z_bI (z_rc D j9)) (fun j9 => nI (z_bt G j9)) (fun j9 => nI (z_sh G j9)) (z_vc D) (upd (fun j9 => nI (z_pl D j9)) t (nI 2)) (nI (z_bc G)) (nI (z_tc G)) (nI (z_sd G)) (nI (z_od G)) (z_dy D)) := hD
  rw [z_upN] at hP hD
  have hP : va_P Dg vwCl (z_sX cI a (z_wm G) (z_v0 G) (z_lk G) (z_sw D) (fun j9 => z_bI (z_rc D j9)) (fun j9 => nI (z_bt G j9)) (fun j9 => nI (z_sh G j9)) (z_vc D) (fun j9 => nI (va_up (z_pl D) t 2 j9)) (nI (z_bc G)) (nI (z_tc G)) (nI (z_sd G)) (nI (z_od G)) (z_dy D)) H := hP
  have hD : va_D _ (z_sX cI a (z_wm G) (z_v0 G) (z_lk G) (z_sw D) (fun j9 => z_bI (z_rc D j9)) (fun j9 => nI (z_bt G j9)) (fun j9 => nI (z_sh G j9)) (z_vc D) (fun j9 => nI (va_up (z_pl D) t 2 j9)) (nI (z_bc G)) (nI (z_tc G)) (nI (z_sd G)) (nI (z_od G)) (z_dy D)) := hD
  exact z_ew_v hP hS hx hb hr hlk dX1_ship_14

theorem m_X1_ship (l : Launch) (Dg : va_G) (cI : ClassId) (a : Nat → Nat) (G : z_GG) (D : z_DD) (k_ : Nat) (hk : k_ < 61) : z_Mw l yX1_ship wsX1_ship 1 22 [.ref (a 0), .int (z_oi k_)] Dg cI (z_sW cI a G D) none (z_sW cI a G (z_sp D k_)) := by
  cases k_ with
  | zero => exact m_X1_ship_0 l Dg cI a G D
  | succ t => exact m_X1_ship_t l Dg cI a G D t (by omega)

set_option maxHeartbeats 4000000 in
set_option maxRecDepth 100000 in
theorem m_X1_recallBatch (l : Launch) (Dg : va_G) (cI : ClassId) (a : Nat → Nat) (G : z_GG) (D : z_DD) (b : Nat) (hb6 : b < 6) (hG : z_WG G) (hW : z_WD G D) : z_Mw l yX1_recallBatch wsX1_recallBatch 1 22 [.ref (a 0), .int (nI b)] Dg cI (z_sW cI a G D) (some (.int (nI (z_rb G b D).1))) (z_sW cI a G ((z_rb G b D).2)) := by
  have htc : z_tc G ≤ 60 := hG.2.2.2.2.2.1
  refine z_sw' (own := RX1) (l0 := [(0, .ref (a 0)), (1, .int (nI b))]) rfl rfl (by decide) (Nat.le_of_ble_eq_true rfl) rfl ?_
  intro p e s m below meth c hx hb hr hml hts hown hlk hP hK hN hD hS ls hl
  refine lv_aload_n hx hb dX1_recallBatch_0 rfl (lv_at hl 0 rfl) ?_
  refine va_get (ci := 1) (v := .ref (a 5)) (C := RX1) (T := TX1) (N := 14) hx hb hts (fun _ h => (List.mem_cons_of_mem _ (List.mem_append_left _ (List.mem_append_right _ h)))) hown hK hP 0 rfl rfl 4 (by decide) (hts _ (List.mem_cons_of_mem _ (List.mem_append_left _ (List.mem_append_left _ (List.mem_of_getElem? (i := 0) rfl))))) (fun _ h9 => h9) rfl dX1_recallBatch_1 ?_
  refine lv_iload_n hx hb dX1_recallBatch_4 rfl (lv_at hl 1 rfl) ?_
  refine lv_iconst (v := z_bI true) hx hb dX1_recallBatch_5 (by decide) ?_
  refine z_wVv [] [5, 14] hx hb hml hown hts (m_X0_set l Dg cI (a 5) (a 14) 6 (fun j9 => z_bI (z_rc D j9)) b (z_bI true) (by omega) (by decide)) gX1_recallBatch_X0_set rfl kd_X0_set ⟨Nat.le_of_ble_eq_true rfl, Nat.le_of_ble_eq_true rfl⟩ hK hN hP hD hS rfl (by decide) rfl rfl rfl rfl rfl hl.1 rfl (Nat.le_of_ble_eq_true rfl) dX1_recallBatch_6 ⟨Nat.zero_le _, Nat.zero_le _⟩ (fun H locs hP hD hS => ?_)
  have hP : va_P Dg vwCl (z_sX cI a (z_wm G) (z_v0 G) (z_lk G) (z_sw D) (upd (fun j9 => z_bI (z_rc D j9)) b (z_bI true)) (fun j9 => nI (z_bt G j9)) (fun j9 => nI (z_sh G j9)) (z_vc D) (fun j9 => nI (z_pl D j9)) (nI (z_bc G)) (nI (z_tc G)) (nI (z_sd G)) (nI (z_od G)) (z_dy D)) H := hP
  have hD : va_D _ (z_sX cI a (z_wm G) (z_v0 G) (z_lk G) (z_sw D) (upd (fun j9 => z_bI (z_rc D j9)) b (z_bI true)) (fun j9 => nI (z_bt G j9)) (fun j9 => nI (z_sh G j9)) (z_vc D) (fun j9 => nI (z_pl D j9)) (nI (z_bc G)) (nI (z_tc G)) (nI (z_sd G)) (nI (z_od G)) (z_dy D)) := hD
  rw [z_upB] at hP hD
  have hP : va_P Dg vwCl (z_sX cI a (z_wm G) (z_v0 G) (z_lk G) (z_sw D) (fun j9 => z_bI (va_up (z_rc D) b true j9)) (fun j9 => nI (z_bt G j9)) (fun j9 => nI (z_sh G j9)) (z_vc D) (fun j9 => nI (z_pl D j9)) (nI (z_bc G)) (nI (z_tc G)) (nI (z_sd G)) (nI (z_od G)) (z_dy D)) H := hP
  have hD : va_D _ (z_sX cI a (z_wm G) (z_v0 G) (z_lk G) (z_sw D) (fun j9 => z_bI (va_up (z_rc D) b true j9)) (fun j9 => nI (z_bt G j9)) (fun j9 => nI (z_sh G j9)) (z_vc D) (fun j9 => nI (z_pl D j9)) (nI (z_bc G)) (nI (z_tc G)) (nI (z_sd G)) (nI (z_od G)) (z_dy D)) := hD
  have hP : va_P Dg vwCl (z_sW cI a G (z_setrc D b)) H := hP
  have hD : va_D _ (z_sW cI a G (z_setrc D b)) := hD
  refine lv_iconst (v := nI 0) hx hb dX1_recallBatch_9 (by decide) ?_
  refine lv_istore_n (lv' := [(2, .int (nI 0)), (0, .ref (a 0)), (1, .int (nI b))]) hx hb dX1_recallBatch_10 rfl hl (by decide) rfl (fun ls hl => ?_)
  refine lv_iconst (v := nI 0) hx hb dX1_recallBatch_11 (by decide) ?_
  refine lv_istore_n (lv' := [(3, .int (nI 0)), (2, .int (nI 0)), (0, .ref (a 0)), (1, .int (nI b))]) hx hb dX1_recallBatch_12 rfl hl (by decide) rfl (fun ls hl => ?_)
  have lp13 : ∀ (zz i : Nat) , i ≤ z_tc G → z_tc G + 1 ≤ i + zz → ∀ (H : Heap) (locs : List Loc), va_P Dg vwCl (z_sW cI a G ((z_tb G b (z_setrc D b) i).2)) H → va_D (z_in (z_sW cI a G D)) (z_sW cI a G ((z_tb G b (z_setrc D b) i).2)) → va_S (z_in (z_sW cI a G D)) s.heap H locs → ∀ ls : Array Slot, lv_has ls 4 [(0, .ref (a 0)), (1, .int (nI b)), (2, .int (nI (z_tb G b (z_setrc D b) i).1)), (3, .int (nI i))] → W p l e ({ frames := 1, cells := 0, slots := 0, locals := 22 } : Room) s m ([.ref (a 0), .int (nI b)] : List Value).toArray below meth c H locs 0 0 (MQ below (z_Qw (some (.int (nI (z_rb G b D).1))) Dg (z_sW cI a G D) (z_sW cI a G ((z_rb G b D).2))) ([.ref (a 0), .int (nI b)] : List Value).toArray s 0 0 (z_in (z_sW cI a G D))) (F0 m 13 ls []) := by
    intro zz
    induction zz with
    | zero => intros; exfalso; omega
    | succ zz ih13 =>
      intro i hi hzz H locs hP hD hS ls hl
      refine lv_iload_n hx hb dX1_recallBatch_13 rfl (lv_at hl 3 rfl) ?_
      refine lv_aload_n hx hb dX1_recallBatch_14 rfl (lv_at hl 0 rfl) ?_
      refine va_get (ci := 1) (v := .int (nI (z_tc G))) (C := RX1) (T := TX1) (N := 14) hx hb hts (fun _ h => (List.mem_cons_of_mem _ (List.mem_append_left _ (List.mem_append_right _ h)))) hown hK hP 0 rfl rfl 10 (by decide) (hts _ (List.mem_cons_of_mem _ (List.mem_append_left _ (List.mem_append_left _ (List.mem_of_getElem? (i := 1) rfl))))) (fun _ h9 => h9) rfl dX1_recallBatch_15 ?_
      refine lv_icmp_ge (tgt := 63) hx hb dX1_recallBatch_18 (by decide) (fun c18 => ?_) (fun c18 => ?_)
      · skip
        have hi2 : i = z_tc G := Nat.le_antisymm hi (z_le (by omega) (by omega) c18)
        rw [hi2] at hP
        refine lv_iload_n hx hb dX1_recallBatch_63 rfl (lv_at hl 2 rfl) ?_
        exact z_ew_i (by rw [hi2]; rfl) hP hS hx hb hr hlk dX1_recallBatch_64
      · skip
        have hi2 : i < z_tc G := z_nle (by omega) c18
        have hWi := z_WD_tb (D := z_setrc D b) b hW i
        have hpl := hWi i hi2
        have hbt := hG.2.2.1 i
        refine lv_aload_n hx hb dX1_recallBatch_21 rfl (lv_at hl 0 rfl) ?_
        refine va_get (ci := 1) (v := .ref (a 9)) (C := RX1) (T := TX1) (N := 14) hx hb hts (fun _ h => (List.mem_cons_of_mem _ (List.mem_append_left _ (List.mem_append_right _ h)))) hown hK hP 0 rfl rfl 9 (by decide) (hts _ (List.mem_cons_of_mem _ (List.mem_append_left _ (List.mem_append_left _ (List.mem_of_getElem? (i := 2) rfl))))) (fun _ h9 => h9) rfl dX1_recallBatch_22 ?_
        refine lv_iload_n hx hb dX1_recallBatch_25 rfl (lv_at hl 3 rfl) ?_
        refine z_rVi (v := nI (z_pl ((z_tb G b (z_setrc D b) i).2) i)) [] hx hb hml hown hts (m_X0_get l Dg cI (a 9) (a 18) 60 (fun j9 => nI (z_pl ((z_tb G b (z_setrc D b) i).2) j9)) i (by omega) (by decide)) gX1_recallBatch_X0_get rfl kd_X0_get ⟨Nat.le_of_ble_eq_true rfl, Nat.le_of_ble_eq_true rfl⟩ hK hN (hP.sub [9, 18] rfl) rfl rfl rfl rfl hl.1 rfl (Nat.le_of_ble_eq_true rfl) dX1_recallBatch_26 ⟨Nat.zero_le _, Nat.zero_le _⟩ ?_
        refine lv_iconst (v := nI 1) hx hb dX1_recallBatch_29 (by decide) ?_
        refine lv_icmp_ne (tgt := 57) hx hb dX1_recallBatch_30 (by decide) (fun c30 => ?_) (fun c30 => ?_)
        · skip
          have e1 : z_tb G b (z_setrc D b) (i + 1) = z_tb G b (z_setrc D b) i := z_tb_f (fun q => z_ne (by omega) (by decide) c30 q.1)
          have hl : lv_has ls 4 [(0, .ref (a 0)), (1, .int (nI b)), (2, .int (nI (z_tb G b (z_setrc D b) (i + 1)).1)), (3, .int (nI i))] := by have q : nI (z_tb G b (z_setrc D b) i).1 = nI (z_tb G b (z_setrc D b) (i + 1)).1 := (by rw [e1]); rw [← q]; exact hl
          have qD : (z_tb G b (z_setrc D b) (i + 1)).2 = (z_tb G b (z_setrc D b) i).2 := (by rw [e1])
          rw [← qD] at hP hD
          have hP : va_P Dg vwCl (z_sW cI a G ((z_tb G b (z_setrc D b) (i + 1)).2)) H := hP
          have hD : va_D _ (z_sW cI a G ((z_tb G b (z_setrc D b) (i + 1)).2)) := hD
          refine lv_iinc (v := nI (i + 1)) (lv' := [(3, .int (nI (i + 1))), (0, .ref (a 0)), (1, .int (nI b)), (2, .int (nI (z_tb G b (z_setrc D b) (i + 1)).1))]) hx hb dX1_recallBatch_57 hl (k := 3) rfl (nI_1 _) (by decide) rfl (fun ls hl => ?_)
          refine lv_goto (tgt := 13) hx hb dX1_recallBatch_60 (by decide) ?_
          exact ih13 (i + 1) (by omega) (by omega) _ _ hP hD hS _ (lv_sub hl [1, 2, 3, 0] rfl)
        · skip
          refine lv_aload_n hx hb dX1_recallBatch_33 rfl (lv_at hl 0 rfl) ?_
          refine va_get (ci := 1) (v := .ref (a 6)) (C := RX1) (T := TX1) (N := 14) hx hb hts (fun _ h => (List.mem_cons_of_mem _ (List.mem_append_left _ (List.mem_append_right _ h)))) hown hK hP 0 rfl rfl 6 (by decide) (hts _ (List.mem_cons_of_mem _ (List.mem_append_left _ (List.mem_append_left _ (List.mem_of_getElem? (i := 3) rfl))))) (fun _ h9 => h9) rfl dX1_recallBatch_34 ?_
          refine lv_iload_n hx hb dX1_recallBatch_37 rfl (lv_at hl 3 rfl) ?_
          refine z_rVi (v := nI (z_bt G i)) [] hx hb hml hown hts (m_X0_get l Dg cI (a 6) (a 15) 60 (fun j9 => nI (z_bt G j9)) i (by omega) (by decide)) gX1_recallBatch_X0_get rfl kd_X0_get ⟨Nat.le_of_ble_eq_true rfl, Nat.le_of_ble_eq_true rfl⟩ hK hN (hP.sub [6, 15] rfl) rfl rfl rfl rfl hl.1 rfl (Nat.le_of_ble_eq_true rfl) dX1_recallBatch_38 ⟨Nat.zero_le _, Nat.zero_le _⟩ ?_
          refine lv_iload_n hx hb dX1_recallBatch_41 rfl (lv_at hl 1 rfl) ?_
          refine lv_icmp_ne (tgt := 57) hx hb dX1_recallBatch_42 (by decide) (fun c42 => ?_) (fun c42 => ?_)
          · skip
            have e1 : z_tb G b (z_setrc D b) (i + 1) = z_tb G b (z_setrc D b) i := z_tb_f (fun q => z_ne (by omega) (by omega) c42 q.2)
            have hl : lv_has ls 4 [(0, .ref (a 0)), (1, .int (nI b)), (2, .int (nI (z_tb G b (z_setrc D b) (i + 1)).1)), (3, .int (nI i))] := by have q : nI (z_tb G b (z_setrc D b) i).1 = nI (z_tb G b (z_setrc D b) (i + 1)).1 := (by rw [e1]); rw [← q]; exact hl
            have qD : (z_tb G b (z_setrc D b) (i + 1)).2 = (z_tb G b (z_setrc D b) i).2 := (by rw [e1])
            rw [← qD] at hP hD
            have hP : va_P Dg vwCl (z_sW cI a G ((z_tb G b (z_setrc D b) (i + 1)).2)) H := hP
            have hD : va_D _ (z_sW cI a G ((z_tb G b (z_setrc D b) (i + 1)).2)) := hD
            refine lv_iinc (v := nI (i + 1)) (lv' := [(3, .int (nI (i + 1))), (0, .ref (a 0)), (1, .int (nI b)), (2, .int (nI (z_tb G b (z_setrc D b) (i + 1)).1))]) hx hb dX1_recallBatch_57 hl (k := 3) rfl (nI_1 _) (by decide) rfl (fun ls hl => ?_)
            refine lv_goto (tgt := 13) hx hb dX1_recallBatch_60 (by decide) ?_
            exact ih13 (i + 1) (by omega) (by omega) _ _ hP hD hS _ (lv_sub hl [1, 2, 3, 0] rfl)
          · skip
            refine lv_aload_n hx hb dX1_recallBatch_45 rfl (lv_at hl 0 rfl) ?_
            refine va_get (ci := 1) (v := .ref (a 9)) (C := RX1) (T := TX1) (N := 14) hx hb hts (fun _ h => (List.mem_cons_of_mem _ (List.mem_append_left _ (List.mem_append_right _ h)))) hown hK hP 0 rfl rfl 9 (by decide) (hts _ (List.mem_cons_of_mem _ (List.mem_append_left _ (List.mem_append_left _ (List.mem_of_getElem? (i := 2) rfl))))) (fun _ h9 => h9) rfl dX1_recallBatch_46 ?_
            refine lv_iload_n hx hb dX1_recallBatch_49 rfl (lv_at hl 3 rfl) ?_
            refine lv_iconst (v := nI 3) hx hb dX1_recallBatch_50 (by decide) ?_
            refine z_wVv [] [9, 18] hx hb hml hown hts (m_X0_set l Dg cI (a 9) (a 18) 60 (fun j9 => nI (z_pl ((z_tb G b (z_setrc D b) i).2) j9)) i (nI 3) (by omega) (by decide)) gX1_recallBatch_X0_set rfl kd_X0_set ⟨Nat.le_of_ble_eq_true rfl, Nat.le_of_ble_eq_true rfl⟩ hK hN hP hD hS rfl (by decide) rfl rfl rfl rfl rfl hl.1 rfl (Nat.le_of_ble_eq_true rfl) dX1_recallBatch_51 ⟨Nat.zero_le _, Nat.zero_le _⟩ (fun H locs hP hD hS => ?_)
            have hP : va_P Dg vwCl (z_sX cI a (z_wm G) (z_v0 G) (z_lk G) (z_sw ((z_tb G b (z_setrc D b) i).2)) (fun j9 => z_bI (z_rc ((z_tb G b (z_setrc D b) i).2) j9)) (fun j9 => nI (z_bt G j9)) (fun j9 => nI (z_sh G j9)) (z_vc ((z_tb G b (z_setrc D b) i).2)) (upd (fun j9 => nI (z_pl ((z_tb G b (z_setrc D b) i).2) j9)) i (nI 3)) (nI (z_bc G)) (nI (z_tc G)) (nI (z_sd G)) (nI (z_od G)) (z_dy ((z_tb G b (z_setrc D b) i).2))) H := hP
            have hD : va_D _ (z_sX cI a (z_wm G) (z_v0 G) (z_lk G) (z_sw ((z_tb G b (z_setrc D b) i).2)) (fun j9 => z_bI (z_rc ((z_tb G b (z_setrc D b) i).2) j9)) (fun j9 => nI (z_bt G j9)) (fun j9 => nI (z_sh G j9)) (z_vc ((z_tb G b (z_setrc D b) i).2)) (upd (fun j9 => nI (z_pl ((z_tb G b (z_setrc D b) i).2) j9)) i (nI 3)) (nI (z_bc G)) (nI (z_tc G)) (nI (z_sd G)) (nI (z_od G)) (z_dy ((z_tb G b (z_setrc D b) i).2))) := hD
            rw [z_upN] at hP hD
            have hP : va_P Dg vwCl (z_sX cI a (z_wm G) (z_v0 G) (z_lk G) (z_sw ((z_tb G b (z_setrc D b) i).2)) (fun j9 => z_bI (z_rc ((z_tb G b (z_setrc D b) i).2) j9)) (fun j9 => nI (z_bt G j9)) (fun j9 => nI (z_sh G j9)) (z_vc ((z_tb G b (z_setrc D b) i).2)) (fun j9 => nI (va_up (z_pl ((z_tb G b (z_setrc D b) i).2)) i 3 j9)) (nI (z_bc G)) (nI (z_tc G)) (nI (z_sd G)) (nI (z_od G)) (z_dy ((z_tb G b (z_setrc D b) i).2))) H := hP
            have hD : va_D _ (z_sX cI a (z_wm G) (z_v0 G) (z_lk G) (z_sw ((z_tb G b (z_setrc D b) i).2)) (fun j9 => z_bI (z_rc ((z_tb G b (z_setrc D b) i).2) j9)) (fun j9 => nI (z_bt G j9)) (fun j9 => nI (z_sh G j9)) (z_vc ((z_tb G b (z_setrc D b) i).2)) (fun j9 => nI (va_up (z_pl ((z_tb G b (z_setrc D b) i).2)) i 3 j9)) (nI (z_bc G)) (nI (z_tc G)) (nI (z_sd G)) (nI (z_od G)) (z_dy ((z_tb G b (z_setrc D b) i).2))) := hD
            have hP : va_P Dg vwCl (z_sW cI a G (z_setpl (z_tb G b (z_setrc D b) i).2 i 3)) H := hP
            have hD : va_D _ (z_sW cI a G (z_setpl (z_tb G b (z_setrc D b) i).2 i 3)) := hD
            refine lv_iinc (v := nI ((z_tb G b (z_setrc D b) i).1 + 1)) (lv' := [(2, .int (nI ((z_tb G b (z_setrc D b) i).1 + 1))), (0, .ref (a 0)), (1, .int (nI b)), (3, .int (nI i))]) hx hb dX1_recallBatch_54 hl (k := 2) rfl (nI_1 _) (by decide) rfl (fun ls hl => ?_)
            have e1 : z_tb G b (z_setrc D b) (i + 1) = ((z_tb G b (z_setrc D b) i).1 + 1, z_setpl (z_tb G b (z_setrc D b) i).2 i 3) := z_tb_t (z_eq (by omega) (by decide) c30) (z_eq (by omega) (by omega) c42)
            have hl : lv_has ls 4 [(2, .int (nI (z_tb G b (z_setrc D b) (i + 1)).1)), (0, .ref (a 0)), (1, .int (nI b)), (3, .int (nI i))] := by have q : nI ((z_tb G b (z_setrc D b) i).1 + 1) = nI (z_tb G b (z_setrc D b) (i + 1)).1 := (by rw [e1]); rw [← q]; exact hl
            have qD : (z_tb G b (z_setrc D b) (i + 1)).2 = z_setpl (z_tb G b (z_setrc D b) i).2 i 3 := (by rw [e1])
            rw [← qD] at hP hD
            have hP : va_P Dg vwCl (z_sW cI a G ((z_tb G b (z_setrc D b) (i + 1)).2)) H := hP
            have hD : va_D _ (z_sW cI a G ((z_tb G b (z_setrc D b) (i + 1)).2)) := hD
            refine lv_iinc (v := nI (i + 1)) (lv' := [(3, .int (nI (i + 1))), (2, .int (nI (z_tb G b (z_setrc D b) (i + 1)).1)), (0, .ref (a 0)), (1, .int (nI b))]) hx hb dX1_recallBatch_57 hl (k := 3) rfl (nI_1 _) (by decide) rfl (fun ls hl => ?_)
            refine lv_goto (tgt := 13) hx hb dX1_recallBatch_60 (by decide) ?_
            exact ih13 (i + 1) (by omega) (by omega) _ _ hP hD hS _ (lv_sub hl [2, 3, 1, 0] rfl)
  exact lp13 (z_tc G + 1) 0 (by omega) (by omega) _ _ hP hD hS _ (lv_sub hl [2, 3, 1, 0] rfl)

set_option maxHeartbeats 4000000 in
set_option maxRecDepth 100000 in
theorem m_X1_recallSwelled (l : Launch) (Dg : va_G) (cI : ClassId) (a : Nat → Nat) (G : z_GG) (D : z_DD) (hG : z_WG G) (hW : z_WD G D) : z_Mw l yX1_recallSwelled wsX1_recallSwelled 2 45 [.ref (a 0)] Dg cI (z_sW cI a G D) none (z_sW cI a G (z_rn G D (z_bc G))) := by
  have htc : z_tc G ≤ 60 := hG.2.2.2.2.2.1
  have hbc : z_bc G ≤ 6 := hG.2.2.2.2.1
  refine z_sw' (own := RX1) (l0 := [(0, .ref (a 0))]) rfl rfl (by decide) (Nat.le_of_ble_eq_true rfl) rfl ?_
  intro p e s m below meth c hx hb hr hml hts hown hlk hP hK hN hD hS ls hl
  refine lv_iconst (v := nI 0) hx hb dX1_recallSwelled_0 (by decide) ?_
  refine lv_istore_n (lv' := [(1, .int (nI 0)), (0, .ref (a 0))]) hx hb dX1_recallSwelled_1 rfl hl (by decide) rfl (fun ls hl => ?_)
  have lp2 : ∀ (zz i : Nat) , i ≤ z_bc G → z_bc G + 1 ≤ i + zz → ∀ (H : Heap) (locs : List Loc), va_P Dg vwCl (z_sW cI a G (z_rn G D i)) H → va_D (z_in (z_sW cI a G D)) (z_sW cI a G (z_rn G D i)) → va_S (z_in (z_sW cI a G D)) s.heap H locs → ∀ ls : Array Slot, lv_has ls 2 [(0, .ref (a 0)), (1, .int (nI i))] → W p l e ({ frames := 2, cells := 0, slots := 0, locals := 45 } : Room) s m ([.ref (a 0)] : List Value).toArray below meth c H locs 0 0 (MQ below (z_Qw none Dg (z_sW cI a G D) (z_sW cI a G (z_rn G D (z_bc G)))) ([.ref (a 0)] : List Value).toArray s 0 0 (z_in (z_sW cI a G D))) (F0 m 2 ls []) := by
    intro zz
    induction zz with
    | zero => intros; exfalso; omega
    | succ zz ih2 =>
      intro i hi hzz H locs hP hD hS ls hl
      refine lv_iload_n hx hb dX1_recallSwelled_2 rfl (lv_at hl 1 rfl) ?_
      refine lv_aload_n hx hb dX1_recallSwelled_3 rfl (lv_at hl 0 rfl) ?_
      refine va_get (ci := 1) (v := .int (nI (z_bc G))) (C := RX1) (T := TX1) (N := 14) hx hb hts (fun _ h => (List.mem_cons_of_mem _ (List.mem_append_left _ (List.mem_append_right _ h)))) hown hK hP 0 rfl rfl 5 (by decide) (hts _ (List.mem_cons_of_mem _ (List.mem_append_left _ (List.mem_append_left _ (List.mem_append_left _ (List.mem_of_getElem? (i := 0) rfl)))))) (fun _ h9 => h9) rfl dX1_recallSwelled_4 ?_
      refine lv_icmp_ge (tgt := 42) hx hb dX1_recallSwelled_7 (by decide) (fun c7 => ?_) (fun c7 => ?_)
      · skip
        have hi2 : i = z_bc G := Nat.le_antisymm hi (z_le (by omega) (by omega) c7)
        rw [hi2] at hP
        exact z_ew_v hP hS hx hb hr hlk dX1_recallSwelled_42
      · skip
        have hi2 : i < z_bc G := z_nle (by omega) c7
        have hWi := z_WD_rn hW i
        refine lv_aload_n hx hb dX1_recallSwelled_10 rfl (lv_at hl 0 rfl) ?_
        refine lv_iload_n hx hb dX1_recallSwelled_11 rfl (lv_at hl 1 rfl) ?_
        refine z_rVi (v := z_bI (z_rc (z_rn G D i) i)) [] hx hb hml hown hts (m_X1_isBatchRecalled l Dg cI a G (z_rn G D i) i (by omega)) gX1_recallSwelled_X1_isBatchRecalled rfl kd_X1_isBatchRecalled ⟨Nat.le_of_ble_eq_true rfl, Nat.le_of_ble_eq_true rfl⟩ hK hN hP rfl rfl rfl rfl hl.1 rfl (Nat.le_of_ble_eq_true rfl) dX1_recallSwelled_12 ⟨Nat.zero_le _, Nat.zero_le _⟩ ?_
        refine lv_if_ne (tgt := 36) hx hb dX1_recallSwelled_15 (by decide) (fun c15 => ?_) (fun c15 => ?_)
        · skip
          have qD : z_rn G D (i + 1) = (z_rn G D i) := (z_rn_f (fun q => absurd q.1 (by rw [z_bI1 c15]; decide)))
          rw [← qD] at hP hD
          have hP : va_P Dg vwCl (z_sW cI a G (z_rn G D (i + 1))) H := hP
          have hD : va_D _ (z_sW cI a G (z_rn G D (i + 1))) := hD
          refine lv_iinc (v := nI (i + 1)) (lv' := [(1, .int (nI (i + 1))), (0, .ref (a 0))]) hx hb dX1_recallSwelled_36 hl (k := 1) rfl (nI_1 _) (by decide) rfl (fun ls hl => ?_)
          refine lv_goto (tgt := 2) hx hb dX1_recallSwelled_39 (by decide) ?_
          exact ih2 (i + 1) (by omega) (by omega) _ _ hP hD hS _ (lv_sub hl [1, 0] rfl)
        · skip
          refine lv_aload_n hx hb dX1_recallSwelled_18 rfl (lv_at hl 0 rfl) ?_
          refine va_get (ci := 1) (v := .ref (a 4)) (C := RX1) (T := TX1) (N := 14) hx hb hts (fun _ h => (List.mem_cons_of_mem _ (List.mem_append_left _ (List.mem_append_right _ h)))) hown hK hP 0 rfl rfl 3 (by decide) (hts _ (List.mem_cons_of_mem _ (List.mem_append_left _ (List.mem_append_left _ (List.mem_append_left _ (List.mem_of_getElem? (i := 1) rfl)))))) (fun _ h9 => h9) rfl dX1_recallSwelled_19 ?_
          refine lv_iload_n hx hb dX1_recallSwelled_22 rfl (lv_at hl 1 rfl) ?_
          refine z_rVi (v := z_sw (z_rn G D i) i) [] hx hb hml hown hts (m_X0_get l Dg cI (a 4) (a 13) 6 (z_sw (z_rn G D i)) i (by omega) (by decide)) gX1_recallSwelled_X0_get rfl kd_X0_get ⟨Nat.le_of_ble_eq_true rfl, Nat.le_of_ble_eq_true rfl⟩ hK hN (hP.sub [4, 13] rfl) rfl rfl rfl rfl hl.1 rfl (Nat.le_of_ble_eq_true rfl) dX1_recallSwelled_23 ⟨Nat.zero_le _, Nat.zero_le _⟩ ?_
          refine lv_iconst (v := 3) hx hb dX1_recallSwelled_26 (by decide) ?_
          refine lv_icmp_lt (tgt := 36) hx hb dX1_recallSwelled_27 (by decide) (fun c27 => ?_) (fun c27 => ?_)
          · skip
            have qD : z_rn G D (i + 1) = (z_rn G D i) := (z_rn_f (fun q => absurd q.2 (z_i32_nle c27)))
            rw [← qD] at hP hD
            have hP : va_P Dg vwCl (z_sW cI a G (z_rn G D (i + 1))) H := hP
            have hD : va_D _ (z_sW cI a G (z_rn G D (i + 1))) := hD
            refine lv_iinc (v := nI (i + 1)) (lv' := [(1, .int (nI (i + 1))), (0, .ref (a 0))]) hx hb dX1_recallSwelled_36 hl (k := 1) rfl (nI_1 _) (by decide) rfl (fun ls hl => ?_)
            refine lv_goto (tgt := 2) hx hb dX1_recallSwelled_39 (by decide) ?_
            exact ih2 (i + 1) (by omega) (by omega) _ _ hP hD hS _ (lv_sub hl [1, 0] rfl)
          · skip
            refine lv_aload_n hx hb dX1_recallSwelled_30 rfl (lv_at hl 0 rfl) ?_
            refine lv_iload_n hx hb dX1_recallSwelled_31 rfl (lv_at hl 1 rfl) ?_
            refine z_wAi (v := nI (z_rb G i (z_rn G D i)).1) [] hx hb hml hown hts (m_X1_recallBatch l Dg cI a G (z_rn G D i) i (by omega) hG hWi) gX1_recallSwelled_X1_recallBatch rfl kd_X1_recallBatch ⟨Nat.le_of_ble_eq_true rfl, Nat.le_of_ble_eq_true rfl⟩ hK hN hP hD hS rfl rfl rfl rfl rfl hl.1 rfl (Nat.le_of_ble_eq_true rfl) dX1_recallSwelled_32 ⟨Nat.zero_le _, Nat.zero_le _⟩ (fun H locs hP hD hS => ?_)
            have hP : va_P Dg vwCl (z_sW cI a G ((z_rb G i (z_rn G D i)).2)) H := hP
            have hD : va_D _ (z_sW cI a G ((z_rb G i (z_rn G D i)).2)) := hD
            refine lv_pop hx hb dX1_recallSwelled_35 rfl ?_
            have qD : z_rn G D (i + 1) = (z_rb G i (z_rn G D i)).2 := (z_rn_t (z_bI0 c15) (z_i32_le c27))
            rw [← qD] at hP hD
            have hP : va_P Dg vwCl (z_sW cI a G (z_rn G D (i + 1))) H := hP
            have hD : va_D _ (z_sW cI a G (z_rn G D (i + 1))) := hD
            refine lv_iinc (v := nI (i + 1)) (lv' := [(1, .int (nI (i + 1))), (0, .ref (a 0))]) hx hb dX1_recallSwelled_36 hl (k := 1) rfl (nI_1 _) (by decide) rfl (fun ls hl => ?_)
            refine lv_goto (tgt := 2) hx hb dX1_recallSwelled_39 (by decide) ?_
            exact ih2 (i + 1) (by omega) (by omega) _ _ hP hD hS _ (lv_sub hl [1, 0] rfl)
  exact lp2 (z_bc G + 1) 0 (by omega) (by omega) _ _ hP hD hS _ (lv_sub hl [1, 0] rfl)

set_option maxHeartbeats 4000000 in
set_option maxRecDepth 100000 in
theorem m_X1_passDay (l : Launch) (Dg : va_G) (cI : ClassId) (a : Nat → Nat) (G : z_GG) (D : z_DD) (hG : z_WG G) (hW : z_WD G D) : z_Mw l yX1_passDay wsX1_passDay 3 68 [.ref (a 0)] Dg cI (z_sW cI a G D) none (z_sW cI a G (z_day G D)) := by
  have htc : z_tc G ≤ 60 := hG.2.2.2.2.2.1
  have hsd : z_sd G ≤ 9 := hG.2.2.2.2.2.2.1
  have hod : z_od G ≤ 2 := hG.2.2.2.2.2.2.2
  refine z_sw' (own := RX1) (l0 := [(0, .ref (a 0))]) rfl rfl (by decide) (Nat.le_of_ble_eq_true rfl) rfl ?_
  intro p e s m below meth c hx hb hr hml hts hown hlk hP hK hN hD hS ls hl
  refine lv_aload_n hx hb dX1_passDay_0 rfl (lv_at hl 0 rfl) ?_
  refine z_wAv [] hx hb hml hown hts (m_X1_wearTins l Dg cI a G D hG hW) gX1_passDay_X1_wearTins rfl kd_X1_wearTins ⟨Nat.le_of_ble_eq_true rfl, Nat.le_of_ble_eq_true rfl⟩ hK hN hP hD hS rfl rfl rfl rfl rfl hl.1 rfl (Nat.le_of_ble_eq_true rfl) dX1_passDay_1 ⟨Nat.zero_le _, Nat.zero_le _⟩ (fun H locs hP hD hS => ?_)
  have hP : va_P Dg vwCl (z_sW cI a G (z_wn G D (z_tc G))) H := hP
  have hD : va_D _ (z_sW cI a G (z_wn G D (z_tc G))) := hD
  refine lv_aload_n hx hb dX1_passDay_4 rfl (lv_at hl 0 rfl) ?_
  refine z_wAv [] hx hb hml hown hts (m_X1_recallSwelled l Dg cI a G (z_wn G D (z_tc G)) hG (z_WD_wn hW _)) gX1_passDay_X1_recallSwelled rfl kd_X1_recallSwelled ⟨Nat.le_of_ble_eq_true rfl, Nat.le_of_ble_eq_true rfl⟩ hK hN hP hD hS rfl rfl rfl rfl rfl hl.1 rfl (Nat.le_of_ble_eq_true rfl) dX1_passDay_5 ⟨Nat.zero_le _, Nat.zero_le _⟩ (fun H locs hP hD hS => ?_)
  have hP : va_P Dg vwCl (z_sW cI a G (z_rn G (z_wn G D (z_tc G)) (z_bc G))) H := hP
  have hD : va_D _ (z_sW cI a G (z_rn G (z_wn G D (z_tc G)) (z_bc G))) := hD
  refine lv_iconst (v := nI 0) hx hb dX1_passDay_8 (by decide) ?_
  refine lv_istore_n (lv' := [(1, .int (nI 0)), (0, .ref (a 0))]) hx hb dX1_passDay_9 rfl hl (by decide) rfl (fun ls hl => ?_)
  have lp10 : ∀ (zz i : Nat) , i ≤ z_sd G → z_sd G + 1 ≤ i + zz → ∀ (H : Heap) (locs : List Loc), va_P Dg vwCl (z_sW cI a G (z_sn G (z_rn G (z_wn G D (z_tc G)) (z_bc G)) i)) H → va_D (z_in (z_sW cI a G D)) (z_sW cI a G (z_sn G (z_rn G (z_wn G D (z_tc G)) (z_bc G)) i)) → va_S (z_in (z_sW cI a G D)) s.heap H locs → ∀ ls : Array Slot, lv_has ls 2 [(0, .ref (a 0)), (1, .int (nI i))] → W p l e ({ frames := 3, cells := 0, slots := 0, locals := 68 } : Room) s m ([.ref (a 0)] : List Value).toArray below meth c H locs 0 0 (MQ below (z_Qw none Dg (z_sW cI a G D) (z_sW cI a G (z_day G D))) ([.ref (a 0)] : List Value).toArray s 0 0 (z_in (z_sW cI a G D))) (F0 m 10 ls []) := by
    intro zz
    induction zz with
    | zero => intros; exfalso; omega
    | succ zz ih10 =>
      intro i hi hzz H locs hP hD hS ls hl
      refine lv_iload_n hx hb dX1_passDay_10 rfl (lv_at hl 1 rfl) ?_
      refine lv_aload_n hx hb dX1_passDay_11 rfl (lv_at hl 0 rfl) ?_
      refine va_get (ci := 1) (v := .int (nI (z_sd G))) (C := RX1) (T := TX1) (N := 14) hx hb hts (fun _ h => (List.mem_cons_of_mem _ (List.mem_append_left _ (List.mem_append_right _ h)))) hown hK hP 0 rfl rfl 11 (by decide) (hts _ (List.mem_cons_of_mem _ (List.mem_append_left _ (List.mem_append_left _ (List.mem_append_left _ (List.mem_of_getElem? (i := 0) rfl)))))) (fun _ h9 => h9) rfl dX1_passDay_12 ?_
      refine lv_icmp_ge (tgt := 36) hx hb dX1_passDay_15 (by decide) (fun c15 => ?_) (fun c15 => ?_)
      · skip
        have hi2 : i = z_sd G := Nat.le_antisymm hi (z_le (by omega) (by omega) c15)
        rw [hi2] at hP hD
        refine lv_aload_n hx hb dX1_passDay_36 rfl (lv_at hl 0 rfl) ?_
        refine lv_dup hx hb dX1_passDay_37 rfl ?_
        refine va_get (ci := 1) (v := .int (z_dy (z_sn G (z_rn G (z_wn G D (z_tc G)) (z_bc G)) (z_sd G)))) (C := RX1) (T := TX1) (N := 14) hx hb hts (fun _ h => (List.mem_cons_of_mem _ (List.mem_append_left _ (List.mem_append_right _ h)))) hown hK hP 0 rfl rfl 13 (by decide) (hts _ (List.mem_cons_of_mem _ (List.mem_append_left _ (List.mem_append_left _ (List.mem_append_left _ (List.mem_of_getElem? (i := 2) rfl)))))) (fun _ h9 => h9) rfl dX1_passDay_38 ?_
        refine lv_iconst (v := 1) hx hb dX1_passDay_41 (by decide) ?_
        refine lv_iadd hx hb dX1_passDay_42 ?_
        refine va_put (ci := 1) (v := .int ((z_dy (z_sn G (z_rn G (z_wn G D (z_tc G)) (z_bc G)) (z_sd G))) + 1)) (ty := .int) (C := RX1) (T := TX1) (N := 14) hx hb hts (fun _ h => (List.mem_cons_of_mem _ (List.mem_append_left _ (List.mem_append_right _ h)))) tyX1 tyX1_ok nmX1 hown hK hP hD hS 0 rfl rfl 13 (by decide) (hts _ (List.mem_cons_of_mem _ (List.mem_append_left _ (List.mem_append_left _ (List.mem_append_left _ (List.mem_of_getElem? (i := 2) rfl)))))) (fun _ h9 => h9) rfl (by decide +kernel) rfl rfl (Nat.le_of_ble_eq_true rfl) dX1_passDay_43 (fun H locs hP hD hS => ?_)
        have hP : va_P Dg vwCl (z_sX cI a (z_wm G) (z_v0 G) (z_lk G) (z_sw (z_sn G (z_rn G (z_wn G D (z_tc G)) (z_bc G)) (z_sd G))) (fun j9 => z_bI (z_rc (z_sn G (z_rn G (z_wn G D (z_tc G)) (z_bc G)) (z_sd G)) j9)) (fun j9 => nI (z_bt G j9)) (fun j9 => nI (z_sh G j9)) (z_vc (z_sn G (z_rn G (z_wn G D (z_tc G)) (z_bc G)) (z_sd G))) (fun j9 => nI (z_pl (z_sn G (z_rn G (z_wn G D (z_tc G)) (z_bc G)) (z_sd G)) j9)) (nI (z_bc G)) (nI (z_tc G)) (nI (z_sd G)) (nI (z_od G)) ((z_dy (z_sn G (z_rn G (z_wn G D (z_tc G)) (z_bc G)) (z_sd G))) + 1)) H := hP
        have hD : va_D _ (z_sX cI a (z_wm G) (z_v0 G) (z_lk G) (z_sw (z_sn G (z_rn G (z_wn G D (z_tc G)) (z_bc G)) (z_sd G))) (fun j9 => z_bI (z_rc (z_sn G (z_rn G (z_wn G D (z_tc G)) (z_bc G)) (z_sd G)) j9)) (fun j9 => nI (z_bt G j9)) (fun j9 => nI (z_sh G j9)) (z_vc (z_sn G (z_rn G (z_wn G D (z_tc G)) (z_bc G)) (z_sd G))) (fun j9 => nI (z_pl (z_sn G (z_rn G (z_wn G D (z_tc G)) (z_bc G)) (z_sd G)) j9)) (nI (z_bc G)) (nI (z_tc G)) (nI (z_sd G)) (nI (z_od G)) ((z_dy (z_sn G (z_rn G (z_wn G D (z_tc G)) (z_bc G)) (z_sd G))) + 1)) := hD
        have hP : va_P Dg vwCl (z_sW cI a G (z_day G D)) H := hP
        have hD : va_D _ (z_sW cI a G (z_day G D)) := hD
        exact z_ew_v hP hS hx hb hr hlk dX1_passDay_46
      · skip
        have hi2 : i < z_sd G := z_nle (by omega) c15
        have hWi := z_WD_sn (z_WD_rn (z_WD_wn hW (z_tc G)) (z_bc G)) i
        have hfb := z_fb_le G (z_sn G (z_rn G (z_wn G D (z_tc G)) (z_bc G)) i) (z_od G) (z_tc G)
        refine lv_aload_n hx hb dX1_passDay_18 rfl (lv_at hl 0 rfl) ?_
        refine lv_aload_n hx hb dX1_passDay_19 rfl (lv_at hl 0 rfl) ?_
        refine lv_aload_n hx hb dX1_passDay_20 rfl (lv_at hl 0 rfl) ?_
        refine va_get (ci := 1) (v := .int (nI (z_od G))) (C := RX1) (T := TX1) (N := 14) hx hb hts (fun _ h => (List.mem_cons_of_mem _ (List.mem_append_left _ (List.mem_append_right _ h)))) hown hK hP 0 rfl rfl 12 (by decide) (hts _ (List.mem_cons_of_mem _ (List.mem_append_left _ (List.mem_append_left _ (List.mem_append_left _ (List.mem_of_getElem? (i := 1) rfl)))))) (fun _ h9 => h9) rfl dX1_passDay_21 ?_
        refine z_rVi (v := z_oi (z_fb G (z_sn G (z_rn G (z_wn G D (z_tc G)) (z_bc G)) i) (z_od G) (z_tc G))) [.ref (a 0)] hx hb hml hown hts (m_X1_firstBy l Dg cI a G (z_sn G (z_rn G (z_wn G D (z_tc G)) (z_bc G)) i) (z_od G) (by omega) hG hWi) gX1_passDay_X1_firstBy rfl kd_X1_firstBy ⟨Nat.le_of_ble_eq_true rfl, Nat.le_of_ble_eq_true rfl⟩ hK hN hP rfl rfl rfl rfl hl.1 rfl (Nat.le_of_ble_eq_true rfl) dX1_passDay_24 ⟨Nat.zero_le _, Nat.zero_le _⟩ ?_
        refine z_wAv [] hx hb hml hown hts (m_X1_ship l Dg cI a G (z_sn G (z_rn G (z_wn G D (z_tc G)) (z_bc G)) i) (z_fb G (z_sn G (z_rn G (z_wn G D (z_tc G)) (z_bc G)) i) (z_od G) (z_tc G)) (by omega)) gX1_passDay_X1_ship rfl kd_X1_ship ⟨Nat.le_of_ble_eq_true rfl, Nat.le_of_ble_eq_true rfl⟩ hK hN hP hD hS rfl rfl rfl rfl rfl hl.1 rfl (Nat.le_of_ble_eq_true rfl) dX1_passDay_27 ⟨Nat.zero_le _, Nat.zero_le _⟩ (fun H locs hP hD hS => ?_)
        have hP : va_P Dg vwCl (z_sW cI a G (z_sp (z_sn G (z_rn G (z_wn G D (z_tc G)) (z_bc G)) i) (z_fb G (z_sn G (z_rn G (z_wn G D (z_tc G)) (z_bc G)) i) (z_od G) (z_tc G)))) H := hP
        have hD : va_D _ (z_sW cI a G (z_sp (z_sn G (z_rn G (z_wn G D (z_tc G)) (z_bc G)) i) (z_fb G (z_sn G (z_rn G (z_wn G D (z_tc G)) (z_bc G)) i) (z_od G) (z_tc G)))) := hD
        have hP : va_P Dg vwCl (z_sW cI a G (z_sn G (z_rn G (z_wn G D (z_tc G)) (z_bc G)) (i + 1))) H := hP
        have hD : va_D _ (z_sW cI a G (z_sn G (z_rn G (z_wn G D (z_tc G)) (z_bc G)) (i + 1))) := hD
        refine lv_iinc (v := nI (i + 1)) (lv' := [(1, .int (nI (i + 1))), (0, .ref (a 0))]) hx hb dX1_passDay_30 hl (k := 1) rfl (nI_1 _) (by decide) rfl (fun ls hl => ?_)
        refine lv_goto (tgt := 10) hx hb dX1_passDay_33 (by decide) ?_
        exact ih10 (i + 1) (by omega) (by omega) _ _ hP hD hS _ (lv_sub hl [1, 0] rfl)
  exact lp10 (z_sd G + 1) 0 (by omega) (by omega) _ _ hP hD hS _ (lv_sub hl [1, 0] rfl)
