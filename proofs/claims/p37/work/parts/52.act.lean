theorem kdS_L_below : yL_below.cls ≠ "java/lang/invoke/MethodHandle" ∧ yL_below.cls ≠ "java/lang/invoke/VarHandle" ∧ (parseMethodDescriptor yL_below.desc).map (fun d => d.parameters.length) = some 2 := by decide +kernel
theorem kd_X2_addBatch : yX2_addBatch.cls = RX2 ∧ yX2_addBatch.cls ≠ "java/lang/invoke/MethodHandle" ∧ yX2_addBatch.cls ≠ "java/lang/invoke/VarHandle" ∧ (parseMethodDescriptor yX2_addBatch.desc).map (fun d => d.parameters.length) = some 2 := by decide +kernel
theorem kd_X2_move : yX2_move.cls = RX2 ∧ yX2_move.cls ≠ "java/lang/invoke/MethodHandle" ∧ yX2_move.cls ≠ "java/lang/invoke/VarHandle" ∧ (parseMethodDescriptor yX2_move.desc).map (fun d => d.parameters.length) = some 2 := by decide +kernel
theorem kd_X2_pass : yX2_pass.cls = RX2 ∧ yX2_pass.cls ≠ "java/lang/invoke/MethodHandle" ∧ yX2_pass.cls ≠ "java/lang/invoke/VarHandle" ∧ (parseMethodDescriptor yX2_pass.desc).map (fun d => d.parameters.length) = some 1 := by decide +kernel
theorem kd_X2_recall : yX2_recall.cls = RX2 ∧ yX2_recall.cls ≠ "java/lang/invoke/MethodHandle" ∧ yX2_recall.cls ≠ "java/lang/invoke/VarHandle" ∧ (parseMethodDescriptor yX2_recall.desc).map (fun d => d.parameters.length) = some 1 := by decide +kernel
theorem kd_X2_seal : yX2_seal.cls = RX2 ∧ yX2_seal.cls ≠ "java/lang/invoke/MethodHandle" ∧ yX2_seal.cls ≠ "java/lang/invoke/VarHandle" ∧ (parseMethodDescriptor yX2_seal.desc).map (fun d => d.parameters.length) = some 3 := by decide +kernel
theorem kd_X2_setShipping : yX2_setShipping.cls = RX2 ∧ yX2_setShipping.cls ≠ "java/lang/invoke/MethodHandle" ∧ yX2_setShipping.cls ≠ "java/lang/invoke/VarHandle" ∧ (parseMethodDescriptor yX2_setShipping.desc).map (fun d => d.parameters.length) = some 2 := by decide +kernel
theorem kd_X2_setWarm : yX2_setWarm.cls = RX2 ∧ yX2_setWarm.cls ≠ "java/lang/invoke/MethodHandle" ∧ yX2_setWarm.cls ≠ "java/lang/invoke/VarHandle" ∧ (parseMethodDescriptor yX2_setWarm.desc).map (fun d => d.parameters.length) = some 2 := by decide +kernel
theorem kd_X3_pass_ : yX3_pass_.cls = RX3 ∧ yX3_pass_.cls ≠ "java/lang/invoke/MethodHandle" ∧ yX3_pass_.cls ≠ "java/lang/invoke/VarHandle" ∧ (parseMethodDescriptor yX3_pass_.desc).map (fun d => d.parameters.length) = some 1 := by decide +kernel
theorem kdS_X3_with : yX3_with.cls ≠ "java/lang/invoke/MethodHandle" ∧ yX3_with.cls ≠ "java/lang/invoke/VarHandle" ∧ (parseMethodDescriptor yX3_with.desc).map (fun d => d.parameters.length) = some 2 := by decide +kernel
set_option maxHeartbeats 40000000 in
set_option maxRecDepth 100000 in
theorem m_L_act (l : Launch) (hst : l.stackTraces = false) (Dg : va_G) (cI cR cZ : ClassId) (h : Nat) (na ta : Nat → Nat) (G : z_GG) (D : z_DD) (G1 : z_GG) (D1 : z_DD) (sa rb rt : Nat → Nat) (x : Int32) (sz : Nat) (hI : q_I G D) : q_Ma l yL_act wsL_act 9 41 1300 154 [.ref h, .ref (sa 0), .int x] Dg cI cR cZ (z_cW cI h na ta G D G1 D1 ++ q_W cI cR sa rb rt G D) sz (fun o w9 => o = some (.int (z_bI true)) ∧ q_ST cI cR h na ta (sa 0) w9) := by
  obtain ⟨hG, hW, hB, hV, h5, -⟩ := id hI
  have htc : z_tc G ≤ 60 := hG.2.2.2.2.2.1
  have hbc : z_bc G ≤ 6 := hG.2.2.2.2.1
  have hsw0 := (h5 (z_bc G) (Nat.le_refl _)).1
  have hrc0 := (h5 (z_bc G) (Nat.le_refl _)).2
  refine q_sa (own := RL) (hh := [(25, 152, 674, 66), (153, 356, 674, 66), (357, 363, 674, 66), (364, 441, 674, 66), (442, 489, 674, 66), (490, 557, 674, 66), (558, 570, 674, 66), (571, 624, 674, 66), (625, 673, 674, 66)]) (l0 := [(0, .ref h), (1, .ref (sa 0)), (2, .int x)]) rfl rfl (by decide) (Nat.le_of_ble_eq_true rfl) rfl ?_
  intro p e s m below meth c hx hb hr hml hts hown hlk htab hP hK hN hJ hE hTA hD hS hA ls hl
  refine lv_aload_n hx hb dL_act_0 rfl (lv_at hl 1 rfl) ?_
  refine va_get (ci := 3) (v := .ref (sa 2)) (C := RX3) (T := TX3) (N := 6) hx hb hts (fun _ h => (List.mem_cons_of_mem _ (List.mem_append_left _ (List.mem_append_left _ (List.mem_append_left _ (List.mem_append_left _ (List.mem_append_left _ (List.mem_append_left _ (List.mem_append_right _ h))))))))) hown hK hP 39 rfl rfl 1 (by decide) (hts _ (List.mem_cons_of_mem _ (List.mem_append_left _ (List.mem_append_left _ (List.mem_append_left _ (List.mem_append_left _ (List.mem_append_left _ (List.mem_append_left _ (List.mem_append_left _ (List.mem_append_left _ (List.mem_of_getElem? (i := 1) rfl))))))))))) (fun _ h9 => h9) rfl dL_act_1 ?_
  refine va_alen (v := nI (z_bc G)) hx hb hK hP 41 1 rfl rfl rfl dL_act_4 ?_
  refine lv_istore_n (lv' := [(3, .int (nI (z_bc G))), (0, .ref h), (1, .ref (sa 0)), (2, .int x)]) hx hb dL_act_5 rfl hl (by decide) rfl (fun ls hl => ?_)
  refine lv_aload_n hx hb dL_act_6 rfl (lv_at hl 2 rfl) ?_
  refine va_get (ci := 3) (v := .ref (sa 3)) (C := RX3) (T := TX3) (N := 6) hx hb hts (fun _ h => (List.mem_cons_of_mem _ (List.mem_append_left _ (List.mem_append_left _ (List.mem_append_left _ (List.mem_append_left _ (List.mem_append_left _ (List.mem_append_left _ (List.mem_append_right _ h))))))))) hown hK hP 39 rfl rfl 2 (by decide) (hts _ (List.mem_cons_of_mem _ (List.mem_append_left _ (List.mem_append_left _ (List.mem_append_left _ (List.mem_append_left _ (List.mem_append_left _ (List.mem_append_left _ (List.mem_append_left _ (List.mem_append_left _ (List.mem_of_getElem? (i := 2) rfl))))))))))) (fun _ h9 => h9) rfl dL_act_7 ?_
  refine va_alen (v := nI (z_tc G)) hx hb hK hP 42 1 rfl rfl rfl dL_act_10 ?_
  refine lv_istore (lv' := [(4, .int (nI (z_tc G))), (3, .int (nI (z_bc G))), (0, .ref h), (1, .ref (sa 0)), (2, .int x)]) hx hb dL_act_11 hl (by decide) rfl (fun ls hl => ?_)
  refine lv_iload_n hx hb dL_act_13 rfl (lv_at hl 4 rfl) ?_
  refine lv_iconst (v := nI 4) hx hb dL_act_14 (by decide) ?_
  refine lv_ishr hx hb dL_act_15 ?_
  refine lv_iconst (v := nI 4) hx hb dL_act_16 (by decide) ?_
  refine q_rSi (v := nI (q_bl (x >>> ((nI 4) &&& 31)) 4)) [] hx hb hml hown hts (m_L_below l Dg cI cR cZ (x >>> ((nI 4) &&& 31)) 4 (by decide) (by decide)) gL_act_L_below rfl kdS_L_below ⟨Nat.le_of_ble_eq_true rfl, Nat.le_of_ble_eq_true rfl⟩ hK hN hJ z_P0 rfl rfl hl.1 (Nat.le_of_ble_eq_true rfl) dL_act_17 ⟨by show _ ≤ 41; omega, by show _ ≤ 1300; omega⟩ ?_
  obtain ⟨j17, hj17, ej17⟩ := q_bl_ex (x >>> ((nI 4) &&& 31)) (k := 4) (by decide)
  refine z_top (x' := nI j17) (congrArg nI ej17) ?_
  refine lv_istore (lv' := [(5, .int (nI j17)), (4, .int (nI (z_tc G))), (3, .int (nI (z_bc G))), (0, .ref h), (1, .ref (sa 0)), (2, .int x)]) hx hb dL_act_20 hl (by decide) rfl (fun ls hl => ?_)
  refine lv_iconst (v := 1) hx hb dL_act_22 (by decide) ?_
  refine lv_istore (lv' := [(6, .int 1), (5, .int (nI j17)), (4, .int (nI (z_tc G))), (3, .int (nI (z_bc G))), (0, .ref h), (1, .ref (sa 0)), (2, .int x)]) hx hb dL_act_23 hl (by decide) rfl (fun ls hl => ?_)
  refine lv_iload_n hx hb dL_act_25 rfl (lv_at hl 6 rfl) ?_
  refine lv_bipush (v := nI 14) hx hb dL_act_26 (by decide) ?_
  refine q_rSi (v := nI (q_bl x 14)) [] hx hb hml hown hts (m_L_below l Dg cI cR cZ x 14 (by decide) (by decide)) gL_act_L_below rfl kdS_L_below ⟨Nat.le_of_ble_eq_true rfl, Nat.le_of_ble_eq_true rfl⟩ hK hN hJ z_P0 rfl rfl hl.1 (Nat.le_of_ble_eq_true rfl) dL_act_28 ⟨by show _ ≤ 41; omega, by show _ ≤ 1300; omega⟩ ?_
  obtain ⟨j28, hj28, ej28⟩ := q_bl_ex (x) (k := 14) (by decide)
  refine z_top (x' := nI j28) (congrArg nI ej28) ?_
  refine lv_istore (lv' := [(7, .int (nI j28)), (6, .int 1), (5, .int (nI j17)), (4, .int (nI (z_tc G))), (3, .int (nI (z_bc G))), (0, .ref h), (1, .ref (sa 0)), (2, .int x)]) hx hb dL_act_31 hl (by decide) rfl (fun ls hl => ?_)
  have k42 : W p l e ({ frames := 9, cells := 41, slots := 1300, locals := 154 } : Room) s m ([.ref h, .ref (sa 0), .int x] : List Value).toArray below meth c s.heap [] 0 0 (MQ below (z_Qd (fun o w9 => o = some (.int (z_bI true)) ∧ q_ST cI cR h na ta (sa 0) w9) Dg (z_cW cI h na ta G D G1 D1 ++ q_W cI cR sa rb rt G D) sz) ([.ref h, .ref (sa 0), .int x] : List Value).toArray s 41 1300 (va_A (z_cW cI h na ta G D G1 D1 ++ q_W cI cR sa rb rt G D) sz)) (F0 m 42 ls []) := by
    refine lv_iload_n hx hb dL_act_42 rfl (lv_at hl 4 rfl) ?_
    refine lv_bipush (v := nI 6) hx hb dL_act_43 (by decide) ?_
    refine lv_icmp_ge (tgt := 52) hx hb dL_act_45 (by decide) (fun c45 => ?_) (fun c45 => ?_)
    · skip
      have hb6 : z_bc G = 6 := Nat.le_antisymm hbc (z_le (by omega) (by omega) c45)
      refine lv_iconst (v := 0) hx hb dL_act_52 (by decide) ?_
      refine lv_istore (lv' := [(6, .int 0), (7, .int (nI j28)), (5, .int (nI j17)), (4, .int (nI (z_tc G))), (3, .int (nI (z_bc G))), (0, .ref h), (1, .ref (sa 0)), (2, .int x)]) hx hb dL_act_53 hl (by decide) rfl (fun ls hl => ?_)
      refine lv_iconst (v := nI 4) hx hb dL_act_55 (by decide) ?_
      refine q_newi hx hb (hts _ (List.mem_cons_of_mem _ (List.mem_append_left _ (List.mem_append_left _ (List.mem_append_left _ (List.mem_append_left _ (List.mem_append_left _ (List.mem_append_left _ (List.mem_append_left _ (List.mem_append_left _ (List.mem_of_getElem? (i := 3) rfl))))))))))) hK hP hD hS hA rfl (by decide) (by show _ ≤ 41; omega) (by show _ ≤ 1300; omega) dL_act_56 (fun q1 H hP hD hS => ?_)
      have hP := q_mvP (c := z_cW cI h na ta G D G1 D1) (e := []) (s := q_W cI cR sa rb rt G D) hP
      have hD := q_mvD (c := z_cW cI h na ta G D G1 D1) (e := []) (s := q_W cI cR sa rb rt G D) hD
      have hP : va_P Dg vwCl (z_cW cI h na ta G D G1 D1 ++ ([(q1, .inl (cI, 4, .inl (fun _ => 0)))] ++ q_W cI cR sa rb rt G D)) H := hP
      have hD : va_D _ (z_cW cI h na ta G D G1 D1 ++ ([(q1, .inl (cI, 4, .inl (fun _ => 0)))] ++ q_W cI cR sa rb rt G D)) := hD
      refine lv_dup hx hb dL_act_58 rfl ?_
      refine lv_iconst (v := nI 0) hx hb dL_act_59 (by decide) ?_
      refine lv_iconst (v := nI 1) hx hb dL_act_60 (by decide) ?_
      refine lv_iload_n hx hb dL_act_61 rfl (lv_at hl 7 rfl) ?_
      refine lv_iconst (v := nI 3) hx hb dL_act_62 (by decide) ?_
      refine lv_ishr hx hb dL_act_63 ?_
      refine lv_iload_n hx hb dL_act_64 rfl (lv_at hl 7 rfl) ?_
      refine lv_bipush (v := nI 8) hx hb dL_act_65 (by decide) ?_
      refine lv_ishr hx hb dL_act_67 ?_
      refine lv_iconst (v := nI 2) hx hb dL_act_68 (by decide) ?_
      refine q_rSi (v := nI (q_bl (x >>> ((nI 8) &&& 31)) 2)) [.int (x >>> ((nI 3) &&& 31)), .int (nI 1), .int (nI 0), .ref q1, .ref q1] hx hb hml hown hts (m_L_below l Dg cI cR cZ (x >>> ((nI 8) &&& 31)) 2 (by decide) (by decide)) gL_act_L_below rfl kdS_L_below ⟨Nat.le_of_ble_eq_true rfl, Nat.le_of_ble_eq_true rfl⟩ hK hN hJ z_P0 rfl rfl hl.1 (Nat.le_of_ble_eq_true rfl) dL_act_69 ⟨by show _ ≤ 41; omega, by show _ ≤ 1300; omega⟩ ?_
      obtain ⟨j69, hj69, ej69⟩ := q_bl_ex (x >>> ((nI 8) &&& 31)) (k := 2) (by decide)
      refine z_top (x' := nI j69) (congrArg nI ej69) ?_
      refine lv_if_ne (tgt := 80) hx hb dL_act_72 (by decide) (fun c72 => ?_) (fun c72 => ?_)
      · skip
        refine lv_bipush (v := nI 20) hx hb dL_act_80 (by decide) ?_
        refine q_rSi (v := nI (q_bl (x >>> ((nI 3) &&& 31)) 20)) [.int (nI 1), .int (nI 0), .ref q1, .ref q1] hx hb hml hown hts (m_L_below l Dg cI cR cZ (x >>> ((nI 3) &&& 31)) 20 (by decide) (by decide)) gL_act_L_below rfl kdS_L_below ⟨Nat.le_of_ble_eq_true rfl, Nat.le_of_ble_eq_true rfl⟩ hK hN hJ z_P0 rfl rfl hl.1 (Nat.le_of_ble_eq_true rfl) dL_act_82 ⟨by show _ ≤ 41; omega, by show _ ≤ 1300; omega⟩ ?_
        obtain ⟨j82, hj82, ej82⟩ := q_bl_ex (x >>> ((nI 3) &&& 31)) (k := 20) (by decide)
        refine z_top (x' := nI j82) (congrArg nI ej82) ?_
        refine lv_iadd hx hb dL_act_85 ?_
        refine z_top (x' := nI (1 + j82)) (nI_add _ _) ?_
        refine q_iast (ws' := z_cW cI h na ta G D G1 D1 ++ ([(q1, .inl (cI, 4, .inl (upd (fun _ => 0) 0 (nI (1 + j82)))))] ++ q_W cI cR sa rb rt G D)) hx hb hK hP hD hS 39 0 rfl rfl rfl (by decide) (by decide) dL_act_86 (fun H locs hP hD hS => ?_)
        refine lv_dup hx hb dL_act_87 rfl ?_
        refine lv_iconst (v := nI 1) hx hb dL_act_88 (by decide) ?_
        refine lv_iload_n hx hb dL_act_89 rfl (lv_at hl 7 rfl) ?_
        refine lv_iconst (v := nI 5) hx hb dL_act_90 (by decide) ?_
        refine lv_ishr hx hb dL_act_91 ?_
        refine lv_bipush (v := nI 6) hx hb dL_act_92 (by decide) ?_
        refine q_rSi (v := nI (q_bl (x >>> ((nI 5) &&& 31)) 6)) [.int (nI 1), .ref q1, .ref q1] hx hb hml hown hts (m_L_below l Dg cI cR cZ (x >>> ((nI 5) &&& 31)) 6 (by decide) (by decide)) gL_act_L_below rfl kdS_L_below ⟨Nat.le_of_ble_eq_true rfl, Nat.le_of_ble_eq_true rfl⟩ hK hN hJ z_P0 rfl rfl hl.1 (Nat.le_of_ble_eq_true rfl) dL_act_94 ⟨by show _ ≤ 41; omega, by show _ ≤ 1300; omega⟩ ?_
        obtain ⟨j94, hj94, ej94⟩ := q_bl_ex (x >>> ((nI 5) &&& 31)) (k := 6) (by decide)
        refine z_top (x' := nI j94) (congrArg nI ej94) ?_
        refine q_iast (ws' := z_cW cI h na ta G D G1 D1 ++ ([(q1, .inl (cI, 4, .inl (upd (upd (fun _ => 0) 0 (nI (1 + j82))) 1 (nI j94))))] ++ q_W cI cR sa rb rt G D)) hx hb hK hP hD hS 39 0 rfl rfl rfl (by decide) (by decide) dL_act_97 (fun H locs hP hD hS => ?_)
        refine lv_dup hx hb dL_act_98 rfl ?_
        refine lv_iconst (v := nI 2) hx hb dL_act_99 (by decide) ?_
        refine lv_iconst (v := 0) hx hb dL_act_100 (by decide) ?_
        refine q_iast (ws' := z_cW cI h na ta G D G1 D1 ++ ([(q1, .inl (cI, 4, .inl (upd (upd (upd (fun _ => 0) 0 (nI (1 + j82))) 1 (nI j94)) 2 0)))] ++ q_W cI cR sa rb rt G D)) hx hb hK hP hD hS 39 0 rfl rfl rfl (by decide) (by decide) dL_act_101 (fun H locs hP hD hS => ?_)
        refine lv_dup hx hb dL_act_102 rfl ?_
        refine lv_iconst (v := nI 3) hx hb dL_act_103 (by decide) ?_
        refine lv_iconst (v := 0) hx hb dL_act_104 (by decide) ?_
        refine q_iast (ws' := z_cW cI h na ta G D G1 D1 ++ ([(q1, .inl (cI, 4, .inl (upd (upd (upd (upd (fun _ => 0) 0 (nI (1 + j82))) 1 (nI j94)) 2 0) 3 0)))] ++ q_W cI cR sa rb rt G D)) hx hb hK hP hD hS 39 0 rfl rfl rfl (by decide) (by decide) dL_act_105 (fun H locs hP hD hS => ?_)
        refine lv_astore (lv' := [(8, .ref q1), (6, .int 0), (7, .int (nI j28)), (5, .int (nI j17)), (4, .int (nI (z_tc G))), (3, .int (nI (z_bc G))), (0, .ref h), (1, .ref (sa 0)), (2, .int x)]) hx hb dL_act_106 hl (by decide) rfl (fun ls hl => ?_)
        refine lv_iload hx hb dL_act_108 (lv_at hl 1 rfl) ?_
        refine lv_if_eq (tgt := 126) hx hb dL_act_110 (by decide) (fun c110 => ?_) (fun c110 => absurd rfl c110)
        refine lv_aload_n hx hb dL_act_126 rfl (lv_at hl 6 rfl) ?_
        refine lv_aload hx hb dL_act_127 (lv_at hl 0 rfl) ?_
        refine lv_iconst (v := nI 0) hx hb dL_act_129 (by decide) ?_
        refine z_iald hx hb hK hP 39 0 rfl rfl (by decide) (by decide) dL_act_130 ?_
        refine z_top (x' := nI (1 + j82)) rfl ?_
        refine lv_aload hx hb dL_act_131 (lv_at hl 0 rfl) ?_
        refine lv_iconst (v := nI 1) hx hb dL_act_133 (by decide) ?_
        refine z_iald hx hb hK hP 39 0 rfl rfl (by decide) (by decide) dL_act_134 ?_
        refine z_top (x' := nI j94) rfl ?_
        refine q_cX (E := "java/lang/IllegalStateException") [] hst hx hb hml hown hts (m_X2_addBatch_x3 l hst Dg cI h na ta G D G1 D1 (nI (1 + j82)) (nI j94) (q_1n (by omega) (by omega)) (q_99n (by omega)) (q_0n (by omega)) (q_5n (by omega)) hb6 hG hW) gL_act_X2_addBatch rfl kd_X2_addBatch ⟨Nat.le_of_ble_eq_true rfl, Nat.le_of_ble_eq_true rfl⟩ hK hN hE hTA hP hS rfl hl.1 rfl (Nat.le_of_ble_eq_true rfl) dL_act_135 ⟨by show _ ≤ 41; omega, by show _ ≤ 1300; omega⟩ (fun ce q9 H hP hS hc1 hc2 hc3 => ?_)
        refine vx_catch (own := RL) (name := "java/lang/IllegalStateException") (E := "java/lang/IllegalStateException") hown [] ⟨25, 152, 674, 66⟩ [⟨153, 356, 674, 66⟩, ⟨357, 363, 674, 66⟩, ⟨364, 441, 674, 66⟩, ⟨442, 489, 674, 66⟩, ⟨490, 557, 674, 66⟩, ⟨558, 570, 674, 66⟩, ⟨571, 624, 674, 66⟩, ⟨625, 673, 674, 66⟩] htab (fun z hz => Or.inl ((by decide : ∀ z ∈ ([] : List ExceptionTableEntry), covers z 135 = false) z hz)) rfl (by decide) (hts _ (List.mem_cons_of_mem _ (List.mem_append_left _ (List.mem_append_left _ (List.mem_append_left _ (List.mem_append_left _ (List.mem_append_left _ (List.mem_append_left _ (List.mem_append_left _ (List.mem_append_left _ (List.mem_of_getElem? (i := 0) rfl))))))))))) (va_Nw.use rfl hE.2.2.2.2.2.2.2.2.2.2.2.2.2.2.1) hc1 hc2 hc3 ?_
        have hP : va_P Dg vwCl (z_cW cI h na ta G D G1 D1 ++ ([(q1, .inl (cI, 4, .inl (upd (upd (upd (upd (fun _ => 0) 0 (nI (1 + j82))) 1 (nI j94)) 2 0) 3 0)))] ++ q_W cI cR sa rb rt G D)) H := hP
        refine lv_astore (lv' := [(7, .ref q9), (8, .ref q1), (6, .int 0), (5, .int (nI j17)), (4, .int (nI (z_tc G))), (3, .int (nI (z_bc G))), (0, .ref h), (1, .ref (sa 0)), (2, .int x)]) hx hb dL_act_674 hl (by decide) rfl (fun ls hl => ?_)
        refine lv_iload hx hb dL_act_676 (lv_at hl 2 rfl) ?_
        refine lv_if_ne (tgt := 685) hx hb dL_act_678 (by decide) (fun c678 => absurd rfl c678) (fun c678 => ?_)
        refine lv_iconst (v := 1) hx hb dL_act_681 (by decide) ?_
        refine lv_goto (tgt := 686) hx hb dL_act_682 (by decide) ?_
        have hP := q_drP (c := z_cW cI h na ta G D G1 D1) (e := [(q1, .inl (cI, 4, .inl (upd (upd (upd (upd (fun _ => 0) 0 (nI (1 + j82))) 1 (nI j94)) 2 0) 3 0)))]) (s := q_W cI cR sa rb rt G D) hP
        have hD := q_drD (c := z_cW cI h na ta G D G1 D1) (e := [(q1, .inl (cI, 4, .inl (upd (upd (upd (upd (fun _ => 0) 0 (nI (1 + j82))) 1 (nI j94)) 2 0) 3 0)))]) (s := q_W cI cR sa rb rt G D) hD
        exact q_ed_z (b := true) (w' := z_cW cI h na ta G D G1 D1 ++ q_W cI cR sa rb rt G D) ⟨rfl, ⟨G, D, G1, D1, sa, rb, rt, rfl, hI, rfl⟩⟩ hP hD hS ⟨by omega, by omega⟩ hx hb hr hlk dL_act_686
      · skip
        refine lv_bipush (v := nI 99) hx hb dL_act_75 (by decide) ?_
        refine lv_goto (tgt := 82) hx hb dL_act_77 (by decide) ?_
        refine q_rSi (v := nI (q_bl (x >>> ((nI 3) &&& 31)) 99)) [.int (nI 1), .int (nI 0), .ref q1, .ref q1] hx hb hml hown hts (m_L_below l Dg cI cR cZ (x >>> ((nI 3) &&& 31)) 99 (by decide) (by decide)) gL_act_L_below rfl kdS_L_below ⟨Nat.le_of_ble_eq_true rfl, Nat.le_of_ble_eq_true rfl⟩ hK hN hJ z_P0 rfl rfl hl.1 (Nat.le_of_ble_eq_true rfl) dL_act_82 ⟨by show _ ≤ 41; omega, by show _ ≤ 1300; omega⟩ ?_
        obtain ⟨j82, hj82, ej82⟩ := q_bl_ex (x >>> ((nI 3) &&& 31)) (k := 99) (by decide)
        refine z_top (x' := nI j82) (congrArg nI ej82) ?_
        refine lv_iadd hx hb dL_act_85 ?_
        refine z_top (x' := nI (1 + j82)) (nI_add _ _) ?_
        refine q_iast (ws' := z_cW cI h na ta G D G1 D1 ++ ([(q1, .inl (cI, 4, .inl (upd (fun _ => 0) 0 (nI (1 + j82)))))] ++ q_W cI cR sa rb rt G D)) hx hb hK hP hD hS 39 0 rfl rfl rfl (by decide) (by decide) dL_act_86 (fun H locs hP hD hS => ?_)
        refine lv_dup hx hb dL_act_87 rfl ?_
        refine lv_iconst (v := nI 1) hx hb dL_act_88 (by decide) ?_
        refine lv_iload_n hx hb dL_act_89 rfl (lv_at hl 7 rfl) ?_
        refine lv_iconst (v := nI 5) hx hb dL_act_90 (by decide) ?_
        refine lv_ishr hx hb dL_act_91 ?_
        refine lv_bipush (v := nI 6) hx hb dL_act_92 (by decide) ?_
        refine q_rSi (v := nI (q_bl (x >>> ((nI 5) &&& 31)) 6)) [.int (nI 1), .ref q1, .ref q1] hx hb hml hown hts (m_L_below l Dg cI cR cZ (x >>> ((nI 5) &&& 31)) 6 (by decide) (by decide)) gL_act_L_below rfl kdS_L_below ⟨Nat.le_of_ble_eq_true rfl, Nat.le_of_ble_eq_true rfl⟩ hK hN hJ z_P0 rfl rfl hl.1 (Nat.le_of_ble_eq_true rfl) dL_act_94 ⟨by show _ ≤ 41; omega, by show _ ≤ 1300; omega⟩ ?_
        obtain ⟨j94, hj94, ej94⟩ := q_bl_ex (x >>> ((nI 5) &&& 31)) (k := 6) (by decide)
        refine z_top (x' := nI j94) (congrArg nI ej94) ?_
        refine q_iast (ws' := z_cW cI h na ta G D G1 D1 ++ ([(q1, .inl (cI, 4, .inl (upd (upd (fun _ => 0) 0 (nI (1 + j82))) 1 (nI j94))))] ++ q_W cI cR sa rb rt G D)) hx hb hK hP hD hS 39 0 rfl rfl rfl (by decide) (by decide) dL_act_97 (fun H locs hP hD hS => ?_)
        refine lv_dup hx hb dL_act_98 rfl ?_
        refine lv_iconst (v := nI 2) hx hb dL_act_99 (by decide) ?_
        refine lv_iconst (v := 0) hx hb dL_act_100 (by decide) ?_
        refine q_iast (ws' := z_cW cI h na ta G D G1 D1 ++ ([(q1, .inl (cI, 4, .inl (upd (upd (upd (fun _ => 0) 0 (nI (1 + j82))) 1 (nI j94)) 2 0)))] ++ q_W cI cR sa rb rt G D)) hx hb hK hP hD hS 39 0 rfl rfl rfl (by decide) (by decide) dL_act_101 (fun H locs hP hD hS => ?_)
        refine lv_dup hx hb dL_act_102 rfl ?_
        refine lv_iconst (v := nI 3) hx hb dL_act_103 (by decide) ?_
        refine lv_iconst (v := 0) hx hb dL_act_104 (by decide) ?_
        refine q_iast (ws' := z_cW cI h na ta G D G1 D1 ++ ([(q1, .inl (cI, 4, .inl (upd (upd (upd (upd (fun _ => 0) 0 (nI (1 + j82))) 1 (nI j94)) 2 0) 3 0)))] ++ q_W cI cR sa rb rt G D)) hx hb hK hP hD hS 39 0 rfl rfl rfl (by decide) (by decide) dL_act_105 (fun H locs hP hD hS => ?_)
        refine lv_astore (lv' := [(8, .ref q1), (6, .int 0), (7, .int (nI j28)), (5, .int (nI j17)), (4, .int (nI (z_tc G))), (3, .int (nI (z_bc G))), (0, .ref h), (1, .ref (sa 0)), (2, .int x)]) hx hb dL_act_106 hl (by decide) rfl (fun ls hl => ?_)
        refine lv_iload hx hb dL_act_108 (lv_at hl 1 rfl) ?_
        refine lv_if_eq (tgt := 126) hx hb dL_act_110 (by decide) (fun c110 => ?_) (fun c110 => absurd rfl c110)
        refine lv_aload_n hx hb dL_act_126 rfl (lv_at hl 6 rfl) ?_
        refine lv_aload hx hb dL_act_127 (lv_at hl 0 rfl) ?_
        refine lv_iconst (v := nI 0) hx hb dL_act_129 (by decide) ?_
        refine z_iald hx hb hK hP 39 0 rfl rfl (by decide) (by decide) dL_act_130 ?_
        refine z_top (x' := nI (1 + j82)) rfl ?_
        refine lv_aload hx hb dL_act_131 (lv_at hl 0 rfl) ?_
        refine lv_iconst (v := nI 1) hx hb dL_act_133 (by decide) ?_
        refine z_iald hx hb hK hP 39 0 rfl rfl (by decide) (by decide) dL_act_134 ?_
        refine z_top (x' := nI j94) rfl ?_
        refine q_cX (E := "java/lang/IllegalStateException") [] hst hx hb hml hown hts (m_X2_addBatch_x3 l hst Dg cI h na ta G D G1 D1 (nI (1 + j82)) (nI j94) (q_1n (by omega) (by omega)) (q_99n (by omega)) (q_0n (by omega)) (q_5n (by omega)) hb6 hG hW) gL_act_X2_addBatch rfl kd_X2_addBatch ⟨Nat.le_of_ble_eq_true rfl, Nat.le_of_ble_eq_true rfl⟩ hK hN hE hTA hP hS rfl hl.1 rfl (Nat.le_of_ble_eq_true rfl) dL_act_135 ⟨by show _ ≤ 41; omega, by show _ ≤ 1300; omega⟩ (fun ce q9 H hP hS hc1 hc2 hc3 => ?_)
        refine vx_catch (own := RL) (name := "java/lang/IllegalStateException") (E := "java/lang/IllegalStateException") hown [] ⟨25, 152, 674, 66⟩ [⟨153, 356, 674, 66⟩, ⟨357, 363, 674, 66⟩, ⟨364, 441, 674, 66⟩, ⟨442, 489, 674, 66⟩, ⟨490, 557, 674, 66⟩, ⟨558, 570, 674, 66⟩, ⟨571, 624, 674, 66⟩, ⟨625, 673, 674, 66⟩] htab (fun z hz => Or.inl ((by decide : ∀ z ∈ ([] : List ExceptionTableEntry), covers z 135 = false) z hz)) rfl (by decide) (hts _ (List.mem_cons_of_mem _ (List.mem_append_left _ (List.mem_append_left _ (List.mem_append_left _ (List.mem_append_left _ (List.mem_append_left _ (List.mem_append_left _ (List.mem_append_left _ (List.mem_append_left _ (List.mem_of_getElem? (i := 0) rfl))))))))))) (va_Nw.use rfl hE.2.2.2.2.2.2.2.2.2.2.2.2.2.2.1) hc1 hc2 hc3 ?_
        have hP : va_P Dg vwCl (z_cW cI h na ta G D G1 D1 ++ ([(q1, .inl (cI, 4, .inl (upd (upd (upd (upd (fun _ => 0) 0 (nI (1 + j82))) 1 (nI j94)) 2 0) 3 0)))] ++ q_W cI cR sa rb rt G D)) H := hP
        refine lv_astore (lv' := [(7, .ref q9), (8, .ref q1), (6, .int 0), (5, .int (nI j17)), (4, .int (nI (z_tc G))), (3, .int (nI (z_bc G))), (0, .ref h), (1, .ref (sa 0)), (2, .int x)]) hx hb dL_act_674 hl (by decide) rfl (fun ls hl => ?_)
        refine lv_iload hx hb dL_act_676 (lv_at hl 2 rfl) ?_
        refine lv_if_ne (tgt := 685) hx hb dL_act_678 (by decide) (fun c678 => absurd rfl c678) (fun c678 => ?_)
        refine lv_iconst (v := 1) hx hb dL_act_681 (by decide) ?_
        refine lv_goto (tgt := 686) hx hb dL_act_682 (by decide) ?_
        have hP := q_drP (c := z_cW cI h na ta G D G1 D1) (e := [(q1, .inl (cI, 4, .inl (upd (upd (upd (upd (fun _ => 0) 0 (nI (1 + j82))) 1 (nI j94)) 2 0) 3 0)))]) (s := q_W cI cR sa rb rt G D) hP
        have hD := q_drD (c := z_cW cI h na ta G D G1 D1) (e := [(q1, .inl (cI, 4, .inl (upd (upd (upd (upd (fun _ => 0) 0 (nI (1 + j82))) 1 (nI j94)) 2 0) 3 0)))]) (s := q_W cI cR sa rb rt G D) hD
        exact q_ed_z (b := true) (w' := z_cW cI h na ta G D G1 D1 ++ q_W cI cR sa rb rt G D) ⟨rfl, ⟨G, D, G1, D1, sa, rb, rt, rfl, hI, rfl⟩⟩ hP hD hS ⟨by omega, by omega⟩ hx hb hr hlk dL_act_686
    · skip
      have hb6 : z_bc G < 6 := z_nle (by omega) c45
      refine lv_iconst (v := 1) hx hb dL_act_48 (by decide) ?_
      refine lv_goto (tgt := 53) hx hb dL_act_49 (by decide) ?_
      refine lv_istore (lv' := [(6, .int 1), (7, .int (nI j28)), (5, .int (nI j17)), (4, .int (nI (z_tc G))), (3, .int (nI (z_bc G))), (0, .ref h), (1, .ref (sa 0)), (2, .int x)]) hx hb dL_act_53 hl (by decide) rfl (fun ls hl => ?_)
      refine lv_iconst (v := nI 4) hx hb dL_act_55 (by decide) ?_
      refine q_newi hx hb (hts _ (List.mem_cons_of_mem _ (List.mem_append_left _ (List.mem_append_left _ (List.mem_append_left _ (List.mem_append_left _ (List.mem_append_left _ (List.mem_append_left _ (List.mem_append_left _ (List.mem_append_left _ (List.mem_of_getElem? (i := 3) rfl))))))))))) hK hP hD hS hA rfl (by decide) (by show _ ≤ 41; omega) (by show _ ≤ 1300; omega) dL_act_56 (fun q2 H hP hD hS => ?_)
      have hP := q_mvP (c := z_cW cI h na ta G D G1 D1) (e := []) (s := q_W cI cR sa rb rt G D) hP
      have hD := q_mvD (c := z_cW cI h na ta G D G1 D1) (e := []) (s := q_W cI cR sa rb rt G D) hD
      have hP : va_P Dg vwCl (z_cW cI h na ta G D G1 D1 ++ ([(q2, .inl (cI, 4, .inl (fun _ => 0)))] ++ q_W cI cR sa rb rt G D)) H := hP
      have hD : va_D _ (z_cW cI h na ta G D G1 D1 ++ ([(q2, .inl (cI, 4, .inl (fun _ => 0)))] ++ q_W cI cR sa rb rt G D)) := hD
      refine lv_dup hx hb dL_act_58 rfl ?_
      refine lv_iconst (v := nI 0) hx hb dL_act_59 (by decide) ?_
      refine lv_iconst (v := nI 1) hx hb dL_act_60 (by decide) ?_
      refine lv_iload_n hx hb dL_act_61 rfl (lv_at hl 7 rfl) ?_
      refine lv_iconst (v := nI 3) hx hb dL_act_62 (by decide) ?_
      refine lv_ishr hx hb dL_act_63 ?_
      refine lv_iload_n hx hb dL_act_64 rfl (lv_at hl 7 rfl) ?_
      refine lv_bipush (v := nI 8) hx hb dL_act_65 (by decide) ?_
      refine lv_ishr hx hb dL_act_67 ?_
      refine lv_iconst (v := nI 2) hx hb dL_act_68 (by decide) ?_
      refine q_rSi (v := nI (q_bl (x >>> ((nI 8) &&& 31)) 2)) [.int (x >>> ((nI 3) &&& 31)), .int (nI 1), .int (nI 0), .ref q2, .ref q2] hx hb hml hown hts (m_L_below l Dg cI cR cZ (x >>> ((nI 8) &&& 31)) 2 (by decide) (by decide)) gL_act_L_below rfl kdS_L_below ⟨Nat.le_of_ble_eq_true rfl, Nat.le_of_ble_eq_true rfl⟩ hK hN hJ z_P0 rfl rfl hl.1 (Nat.le_of_ble_eq_true rfl) dL_act_69 ⟨by show _ ≤ 41; omega, by show _ ≤ 1300; omega⟩ ?_
      obtain ⟨j69, hj69, ej69⟩ := q_bl_ex (x >>> ((nI 8) &&& 31)) (k := 2) (by decide)
      refine z_top (x' := nI j69) (congrArg nI ej69) ?_
      refine lv_if_ne (tgt := 80) hx hb dL_act_72 (by decide) (fun c72 => ?_) (fun c72 => ?_)
      · skip
        refine lv_bipush (v := nI 20) hx hb dL_act_80 (by decide) ?_
        refine q_rSi (v := nI (q_bl (x >>> ((nI 3) &&& 31)) 20)) [.int (nI 1), .int (nI 0), .ref q2, .ref q2] hx hb hml hown hts (m_L_below l Dg cI cR cZ (x >>> ((nI 3) &&& 31)) 20 (by decide) (by decide)) gL_act_L_below rfl kdS_L_below ⟨Nat.le_of_ble_eq_true rfl, Nat.le_of_ble_eq_true rfl⟩ hK hN hJ z_P0 rfl rfl hl.1 (Nat.le_of_ble_eq_true rfl) dL_act_82 ⟨by show _ ≤ 41; omega, by show _ ≤ 1300; omega⟩ ?_
        obtain ⟨j82, hj82, ej82⟩ := q_bl_ex (x >>> ((nI 3) &&& 31)) (k := 20) (by decide)
        refine z_top (x' := nI j82) (congrArg nI ej82) ?_
        refine lv_iadd hx hb dL_act_85 ?_
        refine z_top (x' := nI (1 + j82)) (nI_add _ _) ?_
        refine q_iast (ws' := z_cW cI h na ta G D G1 D1 ++ ([(q2, .inl (cI, 4, .inl (upd (fun _ => 0) 0 (nI (1 + j82)))))] ++ q_W cI cR sa rb rt G D)) hx hb hK hP hD hS 39 0 rfl rfl rfl (by decide) (by decide) dL_act_86 (fun H locs hP hD hS => ?_)
        refine lv_dup hx hb dL_act_87 rfl ?_
        refine lv_iconst (v := nI 1) hx hb dL_act_88 (by decide) ?_
        refine lv_iload_n hx hb dL_act_89 rfl (lv_at hl 7 rfl) ?_
        refine lv_iconst (v := nI 5) hx hb dL_act_90 (by decide) ?_
        refine lv_ishr hx hb dL_act_91 ?_
        refine lv_bipush (v := nI 6) hx hb dL_act_92 (by decide) ?_
        refine q_rSi (v := nI (q_bl (x >>> ((nI 5) &&& 31)) 6)) [.int (nI 1), .ref q2, .ref q2] hx hb hml hown hts (m_L_below l Dg cI cR cZ (x >>> ((nI 5) &&& 31)) 6 (by decide) (by decide)) gL_act_L_below rfl kdS_L_below ⟨Nat.le_of_ble_eq_true rfl, Nat.le_of_ble_eq_true rfl⟩ hK hN hJ z_P0 rfl rfl hl.1 (Nat.le_of_ble_eq_true rfl) dL_act_94 ⟨by show _ ≤ 41; omega, by show _ ≤ 1300; omega⟩ ?_
        obtain ⟨j94, hj94, ej94⟩ := q_bl_ex (x >>> ((nI 5) &&& 31)) (k := 6) (by decide)
        refine z_top (x' := nI j94) (congrArg nI ej94) ?_
        refine q_iast (ws' := z_cW cI h na ta G D G1 D1 ++ ([(q2, .inl (cI, 4, .inl (upd (upd (fun _ => 0) 0 (nI (1 + j82))) 1 (nI j94))))] ++ q_W cI cR sa rb rt G D)) hx hb hK hP hD hS 39 0 rfl rfl rfl (by decide) (by decide) dL_act_97 (fun H locs hP hD hS => ?_)
        refine lv_dup hx hb dL_act_98 rfl ?_
        refine lv_iconst (v := nI 2) hx hb dL_act_99 (by decide) ?_
        refine lv_iconst (v := 0) hx hb dL_act_100 (by decide) ?_
        refine q_iast (ws' := z_cW cI h na ta G D G1 D1 ++ ([(q2, .inl (cI, 4, .inl (upd (upd (upd (fun _ => 0) 0 (nI (1 + j82))) 1 (nI j94)) 2 0)))] ++ q_W cI cR sa rb rt G D)) hx hb hK hP hD hS 39 0 rfl rfl rfl (by decide) (by decide) dL_act_101 (fun H locs hP hD hS => ?_)
        refine lv_dup hx hb dL_act_102 rfl ?_
        refine lv_iconst (v := nI 3) hx hb dL_act_103 (by decide) ?_
        refine lv_iconst (v := 0) hx hb dL_act_104 (by decide) ?_
        refine q_iast (ws' := z_cW cI h na ta G D G1 D1 ++ ([(q2, .inl (cI, 4, .inl (upd (upd (upd (upd (fun _ => 0) 0 (nI (1 + j82))) 1 (nI j94)) 2 0) 3 0)))] ++ q_W cI cR sa rb rt G D)) hx hb hK hP hD hS 39 0 rfl rfl rfl (by decide) (by decide) dL_act_105 (fun H locs hP hD hS => ?_)
        refine lv_astore (lv' := [(8, .ref q2), (6, .int 1), (7, .int (nI j28)), (5, .int (nI j17)), (4, .int (nI (z_tc G))), (3, .int (nI (z_bc G))), (0, .ref h), (1, .ref (sa 0)), (2, .int x)]) hx hb dL_act_106 hl (by decide) rfl (fun ls hl => ?_)
        refine lv_iload hx hb dL_act_108 (lv_at hl 1 rfl) ?_
        refine lv_if_eq (tgt := 126) hx hb dL_act_110 (by decide) (fun c110 => absurd c110 (by decide)) (fun c110 => ?_)
        refine lv_aload_n hx hb dL_act_113 rfl (lv_at hl 7 rfl) ?_
        refine lv_aload_n hx hb dL_act_114 rfl (lv_at hl 7 rfl) ?_
        refine va_get (ci := 3) (v := .ref (sa 2)) (C := RX3) (T := TX3) (N := 6) hx hb hts (fun _ h => (List.mem_cons_of_mem _ (List.mem_append_left _ (List.mem_append_left _ (List.mem_append_left _ (List.mem_append_left _ (List.mem_append_left _ (List.mem_append_left _ (List.mem_append_right _ h))))))))) hown hK hP 40 rfl rfl 1 (by decide) (hts _ (List.mem_cons_of_mem _ (List.mem_append_left _ (List.mem_append_left _ (List.mem_append_left _ (List.mem_append_left _ (List.mem_append_left _ (List.mem_append_left _ (List.mem_append_left _ (List.mem_append_left _ (List.mem_of_getElem? (i := 1) rfl))))))))))) (fun _ h9 => h9) rfl dL_act_115 ?_
        refine lv_aload hx hb dL_act_118 (lv_at hl 0 rfl) ?_
        rw [q_own] at hP hD
        have hP := q_Pp hP (q_inB (X := z_cW cI h na ta G D G1 D1))
        have hD := q_Dp hD (q_inB (X := z_cW cI h na ta G D G1 D1))
        refine q_mS (z_cW cI h na ta G D G1 D1 ++ [q_c0 (sa 0) (sa 1) (sa 2) (sa 3) G D, q_c1 cI (sa 1) G]) (q_cr cR (sa 3) (z_tc G) rt :: q_ts cI rt G D) [.ref (sa 0)] hx hb hml hown hts (m_X3_with l Dg cI cR cZ (sa 2) q2 (z_bc G) H.size rb (q_4 (nI (1 + j82)) (nI j94) 0 0) (q_b G D) (by omega)) gL_act_X3_with rfl kdS_X3_with ⟨Nat.le_of_ble_eq_true rfl, Nat.le_of_ble_eq_true rfl⟩ hK hN hJ hP hD hS hA rfl rfl hl.1 (Nat.le_of_ble_eq_true rfl) dL_act_120 ⟨by show _ ≤ 41; omega, by show _ ≤ 1300; omega⟩ (fun o w9 H locs hPo hP hD hS => ?_)
        obtain ⟨q3, rfl, rfl⟩ := hPo
        refine va_put (ci := 3) (v := .ref q3) (ty := .array (.array .int)) (C := RX3) (T := TX3) (N := 6) hx hb hts (fun _ h => (List.mem_cons_of_mem _ (List.mem_append_left _ (List.mem_append_left _ (List.mem_append_left _ (List.mem_append_left _ (List.mem_append_left _ (List.mem_append_left _ (List.mem_append_right _ h))))))))) tyX3 tyX3_ok nmX3 hown hK hP hD hS 39 rfl rfl 1 (by decide) (hts _ (List.mem_cons_of_mem _ (List.mem_append_left _ (List.mem_append_left _ (List.mem_append_left _ (List.mem_append_left _ (List.mem_append_left _ (List.mem_append_left _ (List.mem_append_left _ (List.mem_append_left _ (List.mem_of_getElem? (i := 1) rfl))))))))))) (fun _ h9 => h9) rfl (by decide +kernel) rfl rfl (Nat.le_of_ble_eq_true rfl) dL_act_123 (fun H locs hP hD hS => ?_)
        have hP : va_P Dg vwCl ((z_cW cI h na ta G D G1 D1 ++ [q_c0 (sa 0) (sa 1) q3 (sa 3) G D, q_c1 cI (sa 1) G]) ++ ((q_wW cI cR (sa 2) q2 (z_bc G) rb (q_4 (nI (1 + j82)) (nI j94) 0 0) (q_b G D) ++ [(q3, .inl (cR, z_bc G + 1, .inr (.inr (.inr (.inr (fun j => some (va_up rb (z_bc G) q2 j)))))))]) ++ (q_cr cR (sa 3) (z_tc G) rt :: q_ts cI rt G D))) H := hP
        have hD : va_D _ ((z_cW cI h na ta G D G1 D1 ++ [q_c0 (sa 0) (sa 1) q3 (sa 3) G D, q_c1 cI (sa 1) G]) ++ ((q_wW cI cR (sa 2) q2 (z_bc G) rb (q_4 (nI (1 + j82)) (nI j94) 0 0) (q_b G D) ++ [(q3, .inl (cR, z_bc G + 1, .inr (.inr (.inr (.inr (fun j => some (va_up rb (z_bc G) q2 j)))))))]) ++ (q_cr cR (sa 3) (z_tc G) rt :: q_ts cI rt G D))) := hD
        have hP := q_Pp hP (q_outB (X := z_cW cI h na ta G D G1 D1) hsw0 hrc0)
        have hD := q_Dp hD (q_outB (X := z_cW cI h na ta G D G1 D1) hsw0 hrc0)
        have hP : va_P Dg vwCl (z_cW cI h na ta G D G1 D1 ++ q_W cI cR (va_up sa 2 q3) (va_up rb (z_bc G) q2) rt (z_addb G (nI (1 + j82)) (nI j94)) D) H := hP
        have hD : va_D _ (z_cW cI h na ta G D G1 D1 ++ q_W cI cR (va_up sa 2 q3) (va_up rb (z_bc G) q2) rt (z_addb G (nI (1 + j82)) (nI j94)) D) := hD
        refine lv_aload_n hx hb dL_act_126 rfl (lv_at hl 6 rfl) ?_
        refine lv_aload hx hb dL_act_127 (lv_at hl 0 rfl) ?_
        refine lv_iconst (v := nI 0) hx hb dL_act_129 (by decide) ?_
        refine z_iald hx hb hK hP (39 + (4 + z_bc G)) 0 (q_pre (n := 39) rfl (q_gBn hsw0 hrc0)) rfl (by decide) (by decide) dL_act_130 ?_
        refine z_top (x' := nI (1 + j82)) rfl ?_
        refine lv_aload hx hb dL_act_131 (lv_at hl 0 rfl) ?_
        refine lv_iconst (v := nI 1) hx hb dL_act_133 (by decide) ?_
        refine z_iald hx hb hK hP (39 + (4 + z_bc G)) 0 (q_pre (n := 39) rfl (q_gBn hsw0 hrc0)) rfl (by decide) (by decide) dL_act_134 ?_
        refine z_top (x' := nI j94) rfl ?_
        refine z_wBi (v := nI (z_bc G)) [] [] (q_W cI cR (va_up sa 2 q3) (va_up rb (z_bc G) q2) rt (z_addb G (nI (1 + j82)) (nI j94)) D) 0 hx hb hml hown hts (m_X2_addBatch l Dg cI h na ta G D G1 D1 (nI (1 + j82)) (nI j94) (q_1n (by omega) (by omega)) (q_99n (by omega)) (q_0n (by omega)) (q_5n (by omega)) hb6 hG hW) gL_act_X2_addBatch rfl kd_X2_addBatch ⟨Nat.le_of_ble_eq_true rfl, Nat.le_of_ble_eq_true rfl⟩ (q_KI hK) hN hP hD hS rfl rfl rfl rfl rfl hl.1 rfl (Nat.le_of_ble_eq_true rfl) dL_act_135 ⟨by show _ ≤ 41; omega, by show _ ≤ 1300; omega⟩ (fun H locs hP hD hS => ?_)
        have hP : va_P Dg vwCl (z_cW cI h na ta (z_addb G (nI (1 + j82)) (nI j94)) D G1 D1 ++ q_W cI cR (va_up sa 2 q3) (va_up rb (z_bc G) q2) rt (z_addb G (nI (1 + j82)) (nI j94)) D) H := hP
        have hD : va_D _ (z_cW cI h na ta (z_addb G (nI (1 + j82)) (nI j94)) D G1 D1 ++ q_W cI cR (va_up sa 2 q3) (va_up rb (z_bc G) q2) rt (z_addb G (nI (1 + j82)) (nI j94)) D) := hD
        refine lv_iload_n hx hb dL_act_138 rfl (lv_at hl 5 rfl) ?_
        refine lv_icmp_ne (tgt := 151) hx hb dL_act_139 (by decide) (fun c139 => absurd rfl c139) (fun c139 => ?_)
        refine lv_iload hx hb dL_act_142 (lv_at hl 1 rfl) ?_
        refine lv_if_eq (tgt := 151) hx hb dL_act_144 (by decide) (fun c144 => absurd c144 (by decide)) (fun c144 => ?_)
        refine lv_iconst (v := 1) hx hb dL_act_147 (by decide) ?_
        refine lv_goto (tgt := 152) hx hb dL_act_148 (by decide) ?_
        exact q_ed_z (b := true) (w' := z_cW cI h na ta (z_addb G (nI (1 + j82)) (nI j94)) D G1 D1 ++ q_W cI cR (va_up sa 2 q3) (va_up rb (z_bc G) q2) rt (z_addb G (nI (1 + j82)) (nI j94)) D) ⟨rfl, ⟨z_addb G (nI (1 + j82)) (nI j94), D, G1, D1, (va_up sa 2 q3), (va_up rb (z_bc G) q2), rt, rfl, (q_I_addb hI hb6 (q_1n (by omega) (by omega)) (q_99n (by omega)) (q_0n (by omega)) (q_5n (by omega))), rfl⟩⟩ hP hD hS ⟨by omega, by omega⟩ hx hb hr hlk dL_act_152
      · skip
        refine lv_bipush (v := nI 99) hx hb dL_act_75 (by decide) ?_
        refine lv_goto (tgt := 82) hx hb dL_act_77 (by decide) ?_
        refine q_rSi (v := nI (q_bl (x >>> ((nI 3) &&& 31)) 99)) [.int (nI 1), .int (nI 0), .ref q2, .ref q2] hx hb hml hown hts (m_L_below l Dg cI cR cZ (x >>> ((nI 3) &&& 31)) 99 (by decide) (by decide)) gL_act_L_below rfl kdS_L_below ⟨Nat.le_of_ble_eq_true rfl, Nat.le_of_ble_eq_true rfl⟩ hK hN hJ z_P0 rfl rfl hl.1 (Nat.le_of_ble_eq_true rfl) dL_act_82 ⟨by show _ ≤ 41; omega, by show _ ≤ 1300; omega⟩ ?_
        obtain ⟨j82, hj82, ej82⟩ := q_bl_ex (x >>> ((nI 3) &&& 31)) (k := 99) (by decide)
        refine z_top (x' := nI j82) (congrArg nI ej82) ?_
        refine lv_iadd hx hb dL_act_85 ?_
        refine z_top (x' := nI (1 + j82)) (nI_add _ _) ?_
        refine q_iast (ws' := z_cW cI h na ta G D G1 D1 ++ ([(q2, .inl (cI, 4, .inl (upd (fun _ => 0) 0 (nI (1 + j82)))))] ++ q_W cI cR sa rb rt G D)) hx hb hK hP hD hS 39 0 rfl rfl rfl (by decide) (by decide) dL_act_86 (fun H locs hP hD hS => ?_)
        refine lv_dup hx hb dL_act_87 rfl ?_
        refine lv_iconst (v := nI 1) hx hb dL_act_88 (by decide) ?_
        refine lv_iload_n hx hb dL_act_89 rfl (lv_at hl 7 rfl) ?_
        refine lv_iconst (v := nI 5) hx hb dL_act_90 (by decide) ?_
        refine lv_ishr hx hb dL_act_91 ?_
        refine lv_bipush (v := nI 6) hx hb dL_act_92 (by decide) ?_
        refine q_rSi (v := nI (q_bl (x >>> ((nI 5) &&& 31)) 6)) [.int (nI 1), .ref q2, .ref q2] hx hb hml hown hts (m_L_below l Dg cI cR cZ (x >>> ((nI 5) &&& 31)) 6 (by decide) (by decide)) gL_act_L_below rfl kdS_L_below ⟨Nat.le_of_ble_eq_true rfl, Nat.le_of_ble_eq_true rfl⟩ hK hN hJ z_P0 rfl rfl hl.1 (Nat.le_of_ble_eq_true rfl) dL_act_94 ⟨by show _ ≤ 41; omega, by show _ ≤ 1300; omega⟩ ?_
        obtain ⟨j94, hj94, ej94⟩ := q_bl_ex (x >>> ((nI 5) &&& 31)) (k := 6) (by decide)
        refine z_top (x' := nI j94) (congrArg nI ej94) ?_
        refine q_iast (ws' := z_cW cI h na ta G D G1 D1 ++ ([(q2, .inl (cI, 4, .inl (upd (upd (fun _ => 0) 0 (nI (1 + j82))) 1 (nI j94))))] ++ q_W cI cR sa rb rt G D)) hx hb hK hP hD hS 39 0 rfl rfl rfl (by decide) (by decide) dL_act_97 (fun H locs hP hD hS => ?_)
        refine lv_dup hx hb dL_act_98 rfl ?_
        refine lv_iconst (v := nI 2) hx hb dL_act_99 (by decide) ?_
        refine lv_iconst (v := 0) hx hb dL_act_100 (by decide) ?_
        refine q_iast (ws' := z_cW cI h na ta G D G1 D1 ++ ([(q2, .inl (cI, 4, .inl (upd (upd (upd (fun _ => 0) 0 (nI (1 + j82))) 1 (nI j94)) 2 0)))] ++ q_W cI cR sa rb rt G D)) hx hb hK hP hD hS 39 0 rfl rfl rfl (by decide) (by decide) dL_act_101 (fun H locs hP hD hS => ?_)
        refine lv_dup hx hb dL_act_102 rfl ?_
        refine lv_iconst (v := nI 3) hx hb dL_act_103 (by decide) ?_
        refine lv_iconst (v := 0) hx hb dL_act_104 (by decide) ?_
        refine q_iast (ws' := z_cW cI h na ta G D G1 D1 ++ ([(q2, .inl (cI, 4, .inl (upd (upd (upd (upd (fun _ => 0) 0 (nI (1 + j82))) 1 (nI j94)) 2 0) 3 0)))] ++ q_W cI cR sa rb rt G D)) hx hb hK hP hD hS 39 0 rfl rfl rfl (by decide) (by decide) dL_act_105 (fun H locs hP hD hS => ?_)
        refine lv_astore (lv' := [(8, .ref q2), (6, .int 1), (7, .int (nI j28)), (5, .int (nI j17)), (4, .int (nI (z_tc G))), (3, .int (nI (z_bc G))), (0, .ref h), (1, .ref (sa 0)), (2, .int x)]) hx hb dL_act_106 hl (by decide) rfl (fun ls hl => ?_)
        refine lv_iload hx hb dL_act_108 (lv_at hl 1 rfl) ?_
        refine lv_if_eq (tgt := 126) hx hb dL_act_110 (by decide) (fun c110 => absurd c110 (by decide)) (fun c110 => ?_)
        refine lv_aload_n hx hb dL_act_113 rfl (lv_at hl 7 rfl) ?_
        refine lv_aload_n hx hb dL_act_114 rfl (lv_at hl 7 rfl) ?_
        refine va_get (ci := 3) (v := .ref (sa 2)) (C := RX3) (T := TX3) (N := 6) hx hb hts (fun _ h => (List.mem_cons_of_mem _ (List.mem_append_left _ (List.mem_append_left _ (List.mem_append_left _ (List.mem_append_left _ (List.mem_append_left _ (List.mem_append_left _ (List.mem_append_right _ h))))))))) hown hK hP 40 rfl rfl 1 (by decide) (hts _ (List.mem_cons_of_mem _ (List.mem_append_left _ (List.mem_append_left _ (List.mem_append_left _ (List.mem_append_left _ (List.mem_append_left _ (List.mem_append_left _ (List.mem_append_left _ (List.mem_append_left _ (List.mem_of_getElem? (i := 1) rfl))))))))))) (fun _ h9 => h9) rfl dL_act_115 ?_
        refine lv_aload hx hb dL_act_118 (lv_at hl 0 rfl) ?_
        rw [q_own] at hP hD
        have hP := q_Pp hP (q_inB (X := z_cW cI h na ta G D G1 D1))
        have hD := q_Dp hD (q_inB (X := z_cW cI h na ta G D G1 D1))
        refine q_mS (z_cW cI h na ta G D G1 D1 ++ [q_c0 (sa 0) (sa 1) (sa 2) (sa 3) G D, q_c1 cI (sa 1) G]) (q_cr cR (sa 3) (z_tc G) rt :: q_ts cI rt G D) [.ref (sa 0)] hx hb hml hown hts (m_X3_with l Dg cI cR cZ (sa 2) q2 (z_bc G) H.size rb (q_4 (nI (1 + j82)) (nI j94) 0 0) (q_b G D) (by omega)) gL_act_X3_with rfl kdS_X3_with ⟨Nat.le_of_ble_eq_true rfl, Nat.le_of_ble_eq_true rfl⟩ hK hN hJ hP hD hS hA rfl rfl hl.1 (Nat.le_of_ble_eq_true rfl) dL_act_120 ⟨by show _ ≤ 41; omega, by show _ ≤ 1300; omega⟩ (fun o w9 H locs hPo hP hD hS => ?_)
        obtain ⟨q4, rfl, rfl⟩ := hPo
        refine va_put (ci := 3) (v := .ref q4) (ty := .array (.array .int)) (C := RX3) (T := TX3) (N := 6) hx hb hts (fun _ h => (List.mem_cons_of_mem _ (List.mem_append_left _ (List.mem_append_left _ (List.mem_append_left _ (List.mem_append_left _ (List.mem_append_left _ (List.mem_append_left _ (List.mem_append_right _ h))))))))) tyX3 tyX3_ok nmX3 hown hK hP hD hS 39 rfl rfl 1 (by decide) (hts _ (List.mem_cons_of_mem _ (List.mem_append_left _ (List.mem_append_left _ (List.mem_append_left _ (List.mem_append_left _ (List.mem_append_left _ (List.mem_append_left _ (List.mem_append_left _ (List.mem_append_left _ (List.mem_of_getElem? (i := 1) rfl))))))))))) (fun _ h9 => h9) rfl (by decide +kernel) rfl rfl (Nat.le_of_ble_eq_true rfl) dL_act_123 (fun H locs hP hD hS => ?_)
        have hP : va_P Dg vwCl ((z_cW cI h na ta G D G1 D1 ++ [q_c0 (sa 0) (sa 1) q4 (sa 3) G D, q_c1 cI (sa 1) G]) ++ ((q_wW cI cR (sa 2) q2 (z_bc G) rb (q_4 (nI (1 + j82)) (nI j94) 0 0) (q_b G D) ++ [(q4, .inl (cR, z_bc G + 1, .inr (.inr (.inr (.inr (fun j => some (va_up rb (z_bc G) q2 j)))))))]) ++ (q_cr cR (sa 3) (z_tc G) rt :: q_ts cI rt G D))) H := hP
        have hD : va_D _ ((z_cW cI h na ta G D G1 D1 ++ [q_c0 (sa 0) (sa 1) q4 (sa 3) G D, q_c1 cI (sa 1) G]) ++ ((q_wW cI cR (sa 2) q2 (z_bc G) rb (q_4 (nI (1 + j82)) (nI j94) 0 0) (q_b G D) ++ [(q4, .inl (cR, z_bc G + 1, .inr (.inr (.inr (.inr (fun j => some (va_up rb (z_bc G) q2 j)))))))]) ++ (q_cr cR (sa 3) (z_tc G) rt :: q_ts cI rt G D))) := hD
        have hP := q_Pp hP (q_outB (X := z_cW cI h na ta G D G1 D1) hsw0 hrc0)
        have hD := q_Dp hD (q_outB (X := z_cW cI h na ta G D G1 D1) hsw0 hrc0)
        have hP : va_P Dg vwCl (z_cW cI h na ta G D G1 D1 ++ q_W cI cR (va_up sa 2 q4) (va_up rb (z_bc G) q2) rt (z_addb G (nI (1 + j82)) (nI j94)) D) H := hP
        have hD : va_D _ (z_cW cI h na ta G D G1 D1 ++ q_W cI cR (va_up sa 2 q4) (va_up rb (z_bc G) q2) rt (z_addb G (nI (1 + j82)) (nI j94)) D) := hD
        refine lv_aload_n hx hb dL_act_126 rfl (lv_at hl 6 rfl) ?_
        refine lv_aload hx hb dL_act_127 (lv_at hl 0 rfl) ?_
        refine lv_iconst (v := nI 0) hx hb dL_act_129 (by decide) ?_
        refine z_iald hx hb hK hP (39 + (4 + z_bc G)) 0 (q_pre (n := 39) rfl (q_gBn hsw0 hrc0)) rfl (by decide) (by decide) dL_act_130 ?_
        refine z_top (x' := nI (1 + j82)) rfl ?_
        refine lv_aload hx hb dL_act_131 (lv_at hl 0 rfl) ?_
        refine lv_iconst (v := nI 1) hx hb dL_act_133 (by decide) ?_
        refine z_iald hx hb hK hP (39 + (4 + z_bc G)) 0 (q_pre (n := 39) rfl (q_gBn hsw0 hrc0)) rfl (by decide) (by decide) dL_act_134 ?_
        refine z_top (x' := nI j94) rfl ?_
        refine z_wBi (v := nI (z_bc G)) [] [] (q_W cI cR (va_up sa 2 q4) (va_up rb (z_bc G) q2) rt (z_addb G (nI (1 + j82)) (nI j94)) D) 0 hx hb hml hown hts (m_X2_addBatch l Dg cI h na ta G D G1 D1 (nI (1 + j82)) (nI j94) (q_1n (by omega) (by omega)) (q_99n (by omega)) (q_0n (by omega)) (q_5n (by omega)) hb6 hG hW) gL_act_X2_addBatch rfl kd_X2_addBatch ⟨Nat.le_of_ble_eq_true rfl, Nat.le_of_ble_eq_true rfl⟩ (q_KI hK) hN hP hD hS rfl rfl rfl rfl rfl hl.1 rfl (Nat.le_of_ble_eq_true rfl) dL_act_135 ⟨by show _ ≤ 41; omega, by show _ ≤ 1300; omega⟩ (fun H locs hP hD hS => ?_)
        have hP : va_P Dg vwCl (z_cW cI h na ta (z_addb G (nI (1 + j82)) (nI j94)) D G1 D1 ++ q_W cI cR (va_up sa 2 q4) (va_up rb (z_bc G) q2) rt (z_addb G (nI (1 + j82)) (nI j94)) D) H := hP
        have hD : va_D _ (z_cW cI h na ta (z_addb G (nI (1 + j82)) (nI j94)) D G1 D1 ++ q_W cI cR (va_up sa 2 q4) (va_up rb (z_bc G) q2) rt (z_addb G (nI (1 + j82)) (nI j94)) D) := hD
        refine lv_iload_n hx hb dL_act_138 rfl (lv_at hl 5 rfl) ?_
        refine lv_icmp_ne (tgt := 151) hx hb dL_act_139 (by decide) (fun c139 => absurd rfl c139) (fun c139 => ?_)
        refine lv_iload hx hb dL_act_142 (lv_at hl 1 rfl) ?_
        refine lv_if_eq (tgt := 151) hx hb dL_act_144 (by decide) (fun c144 => absurd c144 (by decide)) (fun c144 => ?_)
        refine lv_iconst (v := 1) hx hb dL_act_147 (by decide) ?_
        refine lv_goto (tgt := 152) hx hb dL_act_148 (by decide) ?_
        exact q_ed_z (b := true) (w' := z_cW cI h na ta (z_addb G (nI (1 + j82)) (nI j94)) D G1 D1 ++ q_W cI cR (va_up sa 2 q4) (va_up rb (z_bc G) q2) rt (z_addb G (nI (1 + j82)) (nI j94)) D) ⟨rfl, ⟨z_addb G (nI (1 + j82)) (nI j94), D, G1, D1, (va_up sa 2 q4), (va_up rb (z_bc G) q2), rt, rfl, (q_I_addb hI hb6 (q_1n (by omega) (by omega)) (q_99n (by omega)) (q_0n (by omega)) (q_5n (by omega))), rfl⟩⟩ hP hD hS ⟨by omega, by omega⟩ hx hb hr hlk dL_act_152
  refine lv_iload_n hx hb dL_act_33 rfl (lv_at hl 4 rfl) ?_
  refine lv_if_eq (tgt := 42) hx hb dL_act_34 (by decide) (fun c34 => ?_) (fun c34 => ?_)
  · skip
    exact k42
  · skip
    have hn0 : 0 < z_bc G := Nat.pos_of_ne_zero (fun z => c34 (by rw [z]; decide))
    refine lv_iload hx hb dL_act_37 (lv_at hl 0 rfl) ?_
    refine lv_if_ne (tgt := 153) hx hb dL_act_39 (by decide) (fun c39 => ?_) (fun c39 => ?_)
    · skip
      refine lv_iload hx hb dL_act_153 (lv_at hl 0 rfl) ?_
      have hgrp : (j28 = 1 ∨ j28 = 2 ∨ j28 = 3) ∨ (j28 = 4) ∨ (j28 = 5 ∨ j28 = 6) ∨ (j28 = 7 ∨ j28 = 8) ∨ (j28 = 9) ∨ (j28 = 0 ∨ 9 < j28) := by omega
      rcases hgrp with hg | hg | hg | hg | hg | hg
      · skip
        have kk : W p l e ({ frames := 9, cells := 41, slots := 1300, locals := 154 } : Room) s m ([.ref h, .ref (sa 0), .int x] : List Value).toArray below meth c s.heap [] 0 0 (MQ below (z_Qd (fun o w9 => o = some (.int (z_bI true)) ∧ q_ST cI cR h na ta (sa 0) w9) Dg (z_cW cI h na ta G D G1 D1 ++ q_W cI cR sa rb rt G D) sz) ([.ref h, .ref (sa 0), .int x] : List Value).toArray s 41 1300 (va_A (z_cW cI h na ta G D G1 D1 ++ q_W cI cR sa rb rt G D) sz)) (F0 m 204 ls []) := by
          refine lv_iload_n hx hb dL_act_204 rfl (lv_at hl 7 rfl) ?_
          refine lv_iconst (v := nI 3) hx hb dL_act_205 (by decide) ?_
          refine lv_ishr hx hb dL_act_206 ?_
          refine lv_iload_n hx hb dL_act_207 rfl (lv_at hl 4 rfl) ?_
          refine q_rSi (v := nI (q_bl (x >>> ((nI 3) &&& 31)) (z_bc G))) [] hx hb hml hown hts (m_L_below l Dg cI cR cZ (x >>> ((nI 3) &&& 31)) (z_bc G) (by omega) (by omega)) gL_act_L_below rfl kdS_L_below ⟨Nat.le_of_ble_eq_true rfl, Nat.le_of_ble_eq_true rfl⟩ hK hN hJ z_P0 rfl rfl hl.1 (Nat.le_of_ble_eq_true rfl) dL_act_208 ⟨by show _ ≤ 41; omega, by show _ ≤ 1300; omega⟩ ?_
          obtain ⟨j208, hj208, ej208⟩ := q_bl_ex (x >>> ((nI 3) &&& 31)) (k := z_bc G) (by omega)
          refine z_top (x' := nI j208) (congrArg nI ej208) ?_
          refine lv_istore (lv' := [(8, .int (nI j208)), (7, .int (nI j28)), (6, .int 1), (5, .int (nI j17)), (4, .int (nI (z_tc G))), (3, .int (nI (z_bc G))), (0, .ref h), (1, .ref (sa 0)), (2, .int x)]) hx hb dL_act_211 hl (by decide) rfl (fun ls hl => ?_)
          refine lv_iconst (v := nI 1) hx hb dL_act_213 (by decide) ?_
          refine lv_iload_n hx hb dL_act_214 rfl (lv_at hl 8 rfl) ?_
          refine lv_bipush (v := nI 6) hx hb dL_act_215 (by decide) ?_
          refine lv_ishr hx hb dL_act_217 ?_
          refine lv_iload_n hx hb dL_act_218 rfl (lv_at hl 8 rfl) ?_
          refine lv_bipush (v := nI 9) hx hb dL_act_219 (by decide) ?_
          refine lv_ishr hx hb dL_act_221 ?_
          refine lv_iconst (v := nI 4) hx hb dL_act_222 (by decide) ?_
          refine q_rSi (v := nI (q_bl (x >>> ((nI 9) &&& 31)) 4)) [.int (x >>> ((nI 6) &&& 31)), .int (nI 1)] hx hb hml hown hts (m_L_below l Dg cI cR cZ (x >>> ((nI 9) &&& 31)) 4 (by decide) (by decide)) gL_act_L_below rfl kdS_L_below ⟨Nat.le_of_ble_eq_true rfl, Nat.le_of_ble_eq_true rfl⟩ hK hN hJ z_P0 rfl rfl hl.1 (Nat.le_of_ble_eq_true rfl) dL_act_223 ⟨by show _ ≤ 41; omega, by show _ ≤ 1300; omega⟩ ?_
          obtain ⟨j223, hj223, ej223⟩ := q_bl_ex (x >>> ((nI 9) &&& 31)) (k := 4) (by decide)
          refine z_top (x' := nI j223) (congrArg nI ej223) ?_
          refine lv_if_ne (tgt := 234) hx hb dL_act_226 (by decide) (fun c226 => ?_) (fun c226 => ?_)
          · skip
            refine lv_iconst (v := nI 5) hx hb dL_act_234 (by decide) ?_
            refine q_rSi (v := nI (q_bl (x >>> ((nI 6) &&& 31)) 5)) [.int (nI 1)] hx hb hml hown hts (m_L_below l Dg cI cR cZ (x >>> ((nI 6) &&& 31)) 5 (by decide) (by decide)) gL_act_L_below rfl kdS_L_below ⟨Nat.le_of_ble_eq_true rfl, Nat.le_of_ble_eq_true rfl⟩ hK hN hJ z_P0 rfl rfl hl.1 (Nat.le_of_ble_eq_true rfl) dL_act_235 ⟨by show _ ≤ 41; omega, by show _ ≤ 1300; omega⟩ ?_
            obtain ⟨j235, hj235, ej235⟩ := q_bl_ex (x >>> ((nI 6) &&& 31)) (k := 5) (by decide)
            refine z_top (x' := nI j235) (congrArg nI ej235) ?_
            refine lv_iadd hx hb dL_act_238 ?_
            refine z_top (x' := nI (1 + j235)) (nI_add _ _) ?_
            refine lv_istore (lv' := [(9, .int (nI (1 + j235))), (8, .int (nI j208)), (7, .int (nI j28)), (6, .int 1), (5, .int (nI j17)), (4, .int (nI (z_tc G))), (3, .int (nI (z_bc G))), (0, .ref h), (1, .ref (sa 0)), (2, .int x)]) hx hb dL_act_239 hl (by decide) rfl (fun ls hl => ?_)
            refine lv_iload hx hb dL_act_241 (lv_at hl 5 rfl) ?_
            refine lv_iload hx hb dL_act_243 (lv_at hl 0 rfl) ?_
            refine lv_iadd hx hb dL_act_245 ?_
            refine z_top (x' := nI ((z_tc G) + (1 + j235))) (nI_add _ _) ?_
            refine lv_bipush (v := nI 60) hx hb dL_act_246 (by decide) ?_
            refine lv_icmp_gt (tgt := 267) hx hb dL_act_248 (by decide) (fun c248 => ?_) (fun c248 => ?_)
            · skip
              have hk60 : 60 < z_tc G + (1 + j235) := z_nle (by omega) (z_i32_nle c248)
              refine lv_iconst (v := 0) hx hb dL_act_267 (by decide) ?_
              refine lv_istore (lv' := [(6, .int 0), (9, .int (nI (1 + j235))), (8, .int (nI j208)), (7, .int (nI j28)), (5, .int (nI j17)), (4, .int (nI (z_tc G))), (3, .int (nI (z_bc G))), (0, .ref h), (1, .ref (sa 0)), (2, .int x)]) hx hb dL_act_268 hl (by decide) rfl (fun ls hl => ?_)
              refine lv_iconst (v := nI 0) hx hb dL_act_270 (by decide) ?_
              refine lv_istore (lv' := [(10, .int (nI 0)), (6, .int 0), (9, .int (nI (1 + j235))), (8, .int (nI j208)), (7, .int (nI j28)), (5, .int (nI j17)), (4, .int (nI (z_tc G))), (3, .int (nI (z_bc G))), (0, .ref h), (1, .ref (sa 0)), (2, .int x)]) hx hb dL_act_271 hl (by decide) rfl (fun ls hl => ?_)
              refine lv_iload hx hb dL_act_273 (lv_at hl 0 rfl) ?_
              refine lv_iload hx hb dL_act_275 (lv_at hl 2 rfl) ?_
              refine lv_icmp_ge (tgt := 331) hx hb dL_act_277 (by decide) (fun c277 => absurd c277 (fun z => absurd (z_le (by omega) (by omega) z) (by omega))) (fun c277 => ?_)
              refine lv_iload hx hb dL_act_280 (lv_at hl 1 rfl) ?_
              refine lv_if_eq (tgt := 331) hx hb dL_act_282 (by decide) (fun c282 => ?_) (fun c282 => absurd rfl c282)
              refine lv_aload_n hx hb dL_act_331 rfl (lv_at hl 8 rfl) ?_
              refine lv_iload hx hb dL_act_332 (lv_at hl 3 rfl) ?_
              refine lv_iload hx hb dL_act_334 (lv_at hl 5 rfl) ?_
              refine lv_iload hx hb dL_act_336 (lv_at hl 2 rfl) ?_
              refine q_cX (E := "java/lang/IllegalStateException") [] hst hx hb hml hown hts (m_X2_seal_x4 l hst Dg cI h na ta G D G1 D1 j208 j17 (1 + j235) (by omega) (by omega) (by omega) (by omega) (by omega) hG hW) gL_act_X2_seal rfl kd_X2_seal ⟨Nat.le_of_ble_eq_true rfl, Nat.le_of_ble_eq_true rfl⟩ hK hN hE hTA hP hS rfl hl.1 rfl (Nat.le_of_ble_eq_true rfl) dL_act_338 ⟨by show _ ≤ 41; omega, by show _ ≤ 1300; omega⟩ (fun ce q9 H hP hS hc1 hc2 hc3 => ?_)
              refine vx_catch (own := RL) (name := "java/lang/IllegalStateException") (E := "java/lang/IllegalStateException") hown [⟨25, 152, 674, 66⟩] ⟨153, 356, 674, 66⟩ [⟨357, 363, 674, 66⟩, ⟨364, 441, 674, 66⟩, ⟨442, 489, 674, 66⟩, ⟨490, 557, 674, 66⟩, ⟨558, 570, 674, 66⟩, ⟨571, 624, 674, 66⟩, ⟨625, 673, 674, 66⟩] htab (fun z hz => Or.inl ((by decide : ∀ z ∈ ([⟨25, 152, 674, 66⟩] : List ExceptionTableEntry), covers z 338 = false) z hz)) rfl (by decide) (hts _ (List.mem_cons_of_mem _ (List.mem_append_left _ (List.mem_append_left _ (List.mem_append_left _ (List.mem_append_left _ (List.mem_append_left _ (List.mem_append_left _ (List.mem_append_left _ (List.mem_append_left _ (List.mem_of_getElem? (i := 0) rfl))))))))))) (va_Nw.use rfl hE.2.2.2.2.2.2.2.2.2.2.2.2.2.2.1) hc1 hc2 hc3 ?_
              have hP : va_P Dg vwCl (z_cW cI h na ta G D G1 D1 ++ q_W cI cR sa rb rt G D) H := hP
              refine lv_astore (lv' := [(7, .ref q9), (10, .int (nI 0)), (6, .int 0), (9, .int (nI (1 + j235))), (8, .int (nI j208)), (5, .int (nI j17)), (4, .int (nI (z_tc G))), (3, .int (nI (z_bc G))), (0, .ref h), (1, .ref (sa 0)), (2, .int x)]) hx hb dL_act_674 hl (by decide) rfl (fun ls hl => ?_)
              refine lv_iload hx hb dL_act_676 (lv_at hl 2 rfl) ?_
              refine lv_if_ne (tgt := 685) hx hb dL_act_678 (by decide) (fun c678 => absurd rfl c678) (fun c678 => ?_)
              refine lv_iconst (v := 1) hx hb dL_act_681 (by decide) ?_
              refine lv_goto (tgt := 686) hx hb dL_act_682 (by decide) ?_
              exact q_ed_z (b := true) (w' := z_cW cI h na ta G D G1 D1 ++ q_W cI cR sa rb rt G D) ⟨rfl, ⟨G, D, G1, D1, sa, rb, rt, rfl, hI, rfl⟩⟩ hP hD hS ⟨by omega, by omega⟩ hx hb hr hlk dL_act_686
            · skip
              have hk60 : z_tc G + (1 + j235) ≤ 60 := z_le (by omega) (by omega) (z_i32_le c248)
              refine lv_aload_n hx hb dL_act_251 rfl (lv_at hl 8 rfl) ?_
              refine va_get (ci := 3) (v := .ref (sa 2)) (C := RX3) (T := TX3) (N := 6) hx hb hts (fun _ h => (List.mem_cons_of_mem _ (List.mem_append_left _ (List.mem_append_left _ (List.mem_append_left _ (List.mem_append_left _ (List.mem_append_left _ (List.mem_append_left _ (List.mem_append_right _ h))))))))) hown hK hP 39 rfl rfl 1 (by decide) (hts _ (List.mem_cons_of_mem _ (List.mem_append_left _ (List.mem_append_left _ (List.mem_append_left _ (List.mem_append_left _ (List.mem_append_left _ (List.mem_append_left _ (List.mem_append_left _ (List.mem_append_left _ (List.mem_of_getElem? (i := 1) rfl))))))))))) (fun _ h9 => h9) rfl dL_act_252 ?_
              refine lv_iload hx hb dL_act_255 (lv_at hl 1 rfl) ?_
              refine q_aald (v := rb j208) hx hb hK hP 41 rfl (by omega) (by omega) rfl dL_act_257 ?_
              refine lv_iconst (v := nI 3) hx hb dL_act_258 (by decide) ?_
              refine z_iald hx hb hK hP (39 + (4 + j208)) 0 (q_pre (n := 39) rfl (q_gB (cI := cI) (cR := cR) (sa := sa) (rb := rb) (rt := rt) (G := G) (D := D) (by omega))) rfl (by decide) (by decide) dL_act_259 ?_
              refine z_top (x' := z_bI (z_rc D j208)) rfl ?_
              refine lv_if_ne (tgt := 267) hx hb dL_act_260 (by decide) (fun c260 => ?_) (fun c260 => ?_)
              · skip
                have hrc := z_bI1 c260
                refine lv_iconst (v := 0) hx hb dL_act_267 (by decide) ?_
                refine lv_istore (lv' := [(6, .int 0), (9, .int (nI (1 + j235))), (8, .int (nI j208)), (7, .int (nI j28)), (5, .int (nI j17)), (4, .int (nI (z_tc G))), (3, .int (nI (z_bc G))), (0, .ref h), (1, .ref (sa 0)), (2, .int x)]) hx hb dL_act_268 hl (by decide) rfl (fun ls hl => ?_)
                refine lv_iconst (v := nI 0) hx hb dL_act_270 (by decide) ?_
                refine lv_istore (lv' := [(10, .int (nI 0)), (6, .int 0), (9, .int (nI (1 + j235))), (8, .int (nI j208)), (7, .int (nI j28)), (5, .int (nI j17)), (4, .int (nI (z_tc G))), (3, .int (nI (z_bc G))), (0, .ref h), (1, .ref (sa 0)), (2, .int x)]) hx hb dL_act_271 hl (by decide) rfl (fun ls hl => ?_)
                refine lv_iload hx hb dL_act_273 (lv_at hl 0 rfl) ?_
                refine lv_iload hx hb dL_act_275 (lv_at hl 2 rfl) ?_
                refine lv_icmp_ge (tgt := 331) hx hb dL_act_277 (by decide) (fun c277 => absurd c277 (fun z => absurd (z_le (by omega) (by omega) z) (by omega))) (fun c277 => ?_)
                refine lv_iload hx hb dL_act_280 (lv_at hl 1 rfl) ?_
                refine lv_if_eq (tgt := 331) hx hb dL_act_282 (by decide) (fun c282 => ?_) (fun c282 => absurd rfl c282)
                refine lv_aload_n hx hb dL_act_331 rfl (lv_at hl 8 rfl) ?_
                refine lv_iload hx hb dL_act_332 (lv_at hl 3 rfl) ?_
                refine lv_iload hx hb dL_act_334 (lv_at hl 5 rfl) ?_
                refine lv_iload hx hb dL_act_336 (lv_at hl 2 rfl) ?_
                refine q_cX (E := "java/lang/IllegalStateException") [] hst hx hb hml hown hts (m_X2_seal_x5 l hst Dg cI h na ta G D G1 D1 j208 j17 (1 + j235) (by omega) (by omega) (by omega) (by omega) (by omega) hrc hG hW) gL_act_X2_seal rfl kd_X2_seal ⟨Nat.le_of_ble_eq_true rfl, Nat.le_of_ble_eq_true rfl⟩ hK hN hE hTA hP hS rfl hl.1 rfl (Nat.le_of_ble_eq_true rfl) dL_act_338 ⟨by show _ ≤ 41; omega, by show _ ≤ 1300; omega⟩ (fun ce q9 H hP hS hc1 hc2 hc3 => ?_)
                refine vx_catch (own := RL) (name := "java/lang/IllegalStateException") (E := "java/lang/IllegalStateException") hown [⟨25, 152, 674, 66⟩] ⟨153, 356, 674, 66⟩ [⟨357, 363, 674, 66⟩, ⟨364, 441, 674, 66⟩, ⟨442, 489, 674, 66⟩, ⟨490, 557, 674, 66⟩, ⟨558, 570, 674, 66⟩, ⟨571, 624, 674, 66⟩, ⟨625, 673, 674, 66⟩] htab (fun z hz => Or.inl ((by decide : ∀ z ∈ ([⟨25, 152, 674, 66⟩] : List ExceptionTableEntry), covers z 338 = false) z hz)) rfl (by decide) (hts _ (List.mem_cons_of_mem _ (List.mem_append_left _ (List.mem_append_left _ (List.mem_append_left _ (List.mem_append_left _ (List.mem_append_left _ (List.mem_append_left _ (List.mem_append_left _ (List.mem_append_left _ (List.mem_of_getElem? (i := 0) rfl))))))))))) (va_Nw.use rfl hE.2.2.2.2.2.2.2.2.2.2.2.2.2.2.1) hc1 hc2 hc3 ?_
                have hP : va_P Dg vwCl (z_cW cI h na ta G D G1 D1 ++ q_W cI cR sa rb rt G D) H := hP
                refine lv_astore (lv' := [(7, .ref q9), (10, .int (nI 0)), (6, .int 0), (9, .int (nI (1 + j235))), (8, .int (nI j208)), (5, .int (nI j17)), (4, .int (nI (z_tc G))), (3, .int (nI (z_bc G))), (0, .ref h), (1, .ref (sa 0)), (2, .int x)]) hx hb dL_act_674 hl (by decide) rfl (fun ls hl => ?_)
                refine lv_iload hx hb dL_act_676 (lv_at hl 2 rfl) ?_
                refine lv_if_ne (tgt := 685) hx hb dL_act_678 (by decide) (fun c678 => absurd rfl c678) (fun c678 => ?_)
                refine lv_iconst (v := 1) hx hb dL_act_681 (by decide) ?_
                refine lv_goto (tgt := 686) hx hb dL_act_682 (by decide) ?_
                exact q_ed_z (b := true) (w' := z_cW cI h na ta G D G1 D1 ++ q_W cI cR sa rb rt G D) ⟨rfl, ⟨G, D, G1, D1, sa, rb, rt, rfl, hI, rfl⟩⟩ hP hD hS ⟨by omega, by omega⟩ hx hb hr hlk dL_act_686
              · skip
                have hrc := z_bI0 c260
                refine lv_iconst (v := 1) hx hb dL_act_263 (by decide) ?_
                refine lv_goto (tgt := 268) hx hb dL_act_264 (by decide) ?_
                refine lv_istore (lv' := [(6, .int 1), (9, .int (nI (1 + j235))), (8, .int (nI j208)), (7, .int (nI j28)), (5, .int (nI j17)), (4, .int (nI (z_tc G))), (3, .int (nI (z_bc G))), (0, .ref h), (1, .ref (sa 0)), (2, .int x)]) hx hb dL_act_268 hl (by decide) rfl (fun ls hl => ?_)
                refine lv_iconst (v := nI 0) hx hb dL_act_270 (by decide) ?_
                refine lv_istore (lv' := [(10, .int (nI 0)), (6, .int 1), (9, .int (nI (1 + j235))), (8, .int (nI j208)), (7, .int (nI j28)), (5, .int (nI j17)), (4, .int (nI (z_tc G))), (3, .int (nI (z_bc G))), (0, .ref h), (1, .ref (sa 0)), (2, .int x)]) hx hb dL_act_271 hl (by decide) rfl (fun ls hl => ?_)
                have lp273 : ∀ (zz i : Nat) (sa1 : Nat → Nat) (rt1 : Nat → Nat), i ≤ (1 + j235) → (1 + j235) + 1 ≤ i + zz → sa1 0 = sa 0 → ∀ (H : Heap) (locs : List Loc), va_P Dg vwCl (z_cW cI h na ta G D G1 D1 ++ q_W cI cR sa1 rb rt1 (z_gn G j208 j17 i) (z_dn G D j208 j17 i)) H → va_D (va_A (z_cW cI h na ta G D G1 D1 ++ q_W cI cR sa rb rt G D) sz) (z_cW cI h na ta G D G1 D1 ++ q_W cI cR sa1 rb rt1 (z_gn G j208 j17 i) (z_dn G D j208 j17 i)) → va_S (va_A (z_cW cI h na ta G D G1 D1 ++ q_W cI cR sa rb rt G D) sz) s.heap H locs → ∀ ls : Array Slot, lv_has ls 11 [(0, .ref h), (1, .ref (sa1 0)), (4, .int (nI (z_tc G))), (5, .int (nI j17)), (6, .int 1), (8, .int (nI j208)), (9, .int (nI (1 + j235))), (10, .int (nI i))] → W p l e ({ frames := 9, cells := 41, slots := 1300, locals := 154 } : Room) s m ([.ref h, .ref (sa 0), .int x] : List Value).toArray below meth c H locs (2 * i) (65 * i) (MQ below (z_Qd (fun o w9 => o = some (.int (z_bI true)) ∧ q_ST cI cR h na ta (sa 0) w9) Dg (z_cW cI h na ta G D G1 D1 ++ q_W cI cR sa rb rt G D) sz) ([.ref h, .ref (sa 0), .int x] : List Value).toArray s 41 1300 (va_A (z_cW cI h na ta G D G1 D1 ++ q_W cI cR sa rb rt G D) sz)) (F0 m 273 ls []) := by
                  intro zz
                  induction zz with
                  | zero => intros; exfalso; omega
                  | succ zz ih273 =>
                    intro i sa1 rt1 hi hzz hf273_0 H locs hP hD hS ls hl
                    refine lv_iload hx hb dL_act_273 (lv_at hl 7 rfl) ?_
                    refine lv_iload hx hb dL_act_275 (lv_at hl 6 rfl) ?_
                    refine lv_icmp_ge (tgt := 331) hx hb dL_act_277 (by decide) (fun c277 => ?_) (fun c277 => ?_)
                    · skip
                      have hi2 : i = 1 + j235 := Nat.le_antisymm hi (z_le (by omega) (by omega) c277)
                      subst hi2
                      refine lv_aload_n hx hb dL_act_331 rfl (lv_at hl 0 rfl) ?_
                      refine lv_iload hx hb dL_act_332 (lv_at hl 5 rfl) ?_
                      refine lv_iload hx hb dL_act_334 (lv_at hl 3 rfl) ?_
                      refine lv_iload hx hb dL_act_336 (lv_at hl 6 rfl) ?_
                      refine z_wBi (v := nI (z_tc G)) [] [] (q_W cI cR sa1 rb rt1 (z_gn G j208 j17 (1 + j235)) (z_dn G D j208 j17 (1 + j235))) 0 hx hb hml hown hts (m_X2_seal l Dg cI h na ta G D G1 D1 j208 j17 (1 + j235) (by omega) (by omega) (by omega) (by omega) (by omega) hrc hG hW) gL_act_X2_seal rfl kd_X2_seal ⟨Nat.le_of_ble_eq_true rfl, Nat.le_of_ble_eq_true rfl⟩ (q_KI hK) hN hP hD hS rfl rfl rfl rfl rfl hl.1 rfl (Nat.le_of_ble_eq_true rfl) dL_act_338 ⟨by show _ ≤ 41; omega, by show _ ≤ 1300; omega⟩ (fun H locs hP hD hS => ?_)
                      have hP : va_P Dg vwCl (z_cW cI h na ta (z_gn G j208 j17 (1 + j235)) (z_dn G D j208 j17 (1 + j235)) G1 D1 ++ q_W cI cR sa1 rb rt1 (z_gn G j208 j17 (1 + j235)) (z_dn G D j208 j17 (1 + j235))) H := hP
                      have hD : va_D _ (z_cW cI h na ta (z_gn G j208 j17 (1 + j235)) (z_dn G D j208 j17 (1 + j235)) G1 D1 ++ q_W cI cR sa1 rb rt1 (z_gn G j208 j17 (1 + j235)) (z_dn G D j208 j17 (1 + j235))) := hD
                      refine lv_iload hx hb dL_act_341 (lv_at hl 2 rfl) ?_
                      refine lv_icmp_ne (tgt := 355) hx hb dL_act_343 (by decide) (fun c343 => absurd rfl c343) (fun c343 => ?_)
                      refine lv_iload hx hb dL_act_346 (lv_at hl 4 rfl) ?_
                      refine lv_if_eq (tgt := 355) hx hb dL_act_348 (by decide) (fun c348 => absurd c348 (by decide)) (fun c348 => ?_)
                      refine lv_iconst (v := 1) hx hb dL_act_351 (by decide) ?_
                      refine lv_goto (tgt := 356) hx hb dL_act_352 (by decide) ?_
                      exact q_ed_z (b := true) (w' := z_cW cI h na ta (z_gn G j208 j17 (1 + j235)) (z_dn G D j208 j17 (1 + j235)) G1 D1 ++ q_W cI cR sa1 rb rt1 (z_gn G j208 j17 (1 + j235)) (z_dn G D j208 j17 (1 + j235))) ⟨rfl, ⟨z_gn G j208 j17 (1 + j235), z_dn G D j208 j17 (1 + j235), G1, D1, sa1, rb, rt1, hf273_0, (q_I_gn hI (by omega) (by omega) hrc _ (by omega)), rfl⟩⟩ hP hD hS ⟨by omega, by omega⟩ hx hb hr hlk dL_act_356
                    · skip
                      have hi2 : i < 1 + j235 := z_nle (by omega) c277
                      have hbg : j208 < z_bc (z_gn G j208 j17 i) := by rw [q_bc_gn]; omega
                      have htg : z_tc (z_gn G j208 j17 i) = z_tc G + i := z_tc_gn _ _ _ _
                      have hbcg : z_bc (z_gn G j208 j17 i) ≤ 6 := by rw [q_bc_gn]; exact hbc
                      refine lv_iload hx hb dL_act_280 (lv_at hl 4 rfl) ?_
                      refine lv_if_eq (tgt := 331) hx hb dL_act_282 (by decide) (fun c282 => absurd c282 (by decide)) (fun c282 => ?_)
                      refine lv_aload_n hx hb dL_act_285 rfl (lv_at hl 1 rfl) ?_
                      refine lv_aload_n hx hb dL_act_286 rfl (lv_at hl 1 rfl) ?_
                      refine va_get (ci := 3) (v := .ref (sa1 3)) (C := RX3) (T := TX3) (N := 6) hx hb hts (fun _ h => (List.mem_cons_of_mem _ (List.mem_append_left _ (List.mem_append_left _ (List.mem_append_left _ (List.mem_append_left _ (List.mem_append_left _ (List.mem_append_left _ (List.mem_append_right _ h))))))))) hown hK hP 39 rfl rfl 2 (by decide) (hts _ (List.mem_cons_of_mem _ (List.mem_append_left _ (List.mem_append_left _ (List.mem_append_left _ (List.mem_append_left _ (List.mem_append_left _ (List.mem_append_left _ (List.mem_append_left _ (List.mem_append_left _ (List.mem_of_getElem? (i := 2) rfl))))))))))) (fun _ h9 => h9) rfl dL_act_287 ?_
                      refine lv_iconst (v := nI 4) hx hb dL_act_290 (by decide) ?_
                      refine q_newi hx hb (hts _ (List.mem_cons_of_mem _ (List.mem_append_left _ (List.mem_append_left _ (List.mem_append_left _ (List.mem_append_left _ (List.mem_append_left _ (List.mem_append_left _ (List.mem_append_left _ (List.mem_append_left _ (List.mem_of_getElem? (i := 3) rfl))))))))))) hK hP hD hS hA rfl (by decide) (by show _ ≤ 41; omega) (by show _ ≤ 1300; omega) dL_act_291 (fun q5 H hP hD hS => ?_)
                      have hP := q_mvP (c := z_cW cI h na ta G D G1 D1) (e := []) (s := q_W cI cR sa1 rb rt1 (z_gn G j208 j17 i) (z_dn G D j208 j17 i)) hP
                      have hD := q_mvD (c := z_cW cI h na ta G D G1 D1) (e := []) (s := q_W cI cR sa1 rb rt1 (z_gn G j208 j17 i) (z_dn G D j208 j17 i)) hD
                      have hP : va_P Dg vwCl (z_cW cI h na ta G D G1 D1 ++ ([(q5, .inl (cI, 4, .inl (fun _ => 0)))] ++ q_W cI cR sa1 rb rt1 (z_gn G j208 j17 i) (z_dn G D j208 j17 i))) H := hP
                      have hD : va_D _ (z_cW cI h na ta G D G1 D1 ++ ([(q5, .inl (cI, 4, .inl (fun _ => 0)))] ++ q_W cI cR sa1 rb rt1 (z_gn G j208 j17 i) (z_dn G D j208 j17 i))) := hD
                      refine lv_dup hx hb dL_act_293 rfl ?_
                      refine lv_iconst (v := nI 0) hx hb dL_act_294 (by decide) ?_
                      refine lv_iload hx hb dL_act_295 (lv_at hl 5 rfl) ?_
                      refine q_iast (ws' := z_cW cI h na ta G D G1 D1 ++ ([(q5, .inl (cI, 4, .inl (upd (fun _ => 0) 0 (nI j208))))] ++ q_W cI cR sa1 rb rt1 (z_gn G j208 j17 i) (z_dn G D j208 j17 i))) hx hb hK hP hD hS 39 0 rfl rfl rfl (by decide) (by decide) dL_act_297 (fun H locs hP hD hS => ?_)
                      refine lv_dup hx hb dL_act_298 rfl ?_
                      refine lv_iconst (v := nI 1) hx hb dL_act_299 (by decide) ?_
                      refine lv_iload hx hb dL_act_300 (lv_at hl 3 rfl) ?_
                      refine q_iast (ws' := z_cW cI h na ta G D G1 D1 ++ ([(q5, .inl (cI, 4, .inl (upd (upd (fun _ => 0) 0 (nI j208)) 1 (nI j17))))] ++ q_W cI cR sa1 rb rt1 (z_gn G j208 j17 i) (z_dn G D j208 j17 i))) hx hb hK hP hD hS 39 0 rfl rfl rfl (by decide) (by decide) dL_act_302 (fun H locs hP hD hS => ?_)
                      refine lv_dup hx hb dL_act_303 rfl ?_
                      refine lv_iconst (v := nI 2) hx hb dL_act_304 (by decide) ?_
                      refine lv_aload_n hx hb dL_act_305 rfl (lv_at hl 1 rfl) ?_
                      refine va_get (ci := 3) (v := .ref (sa1 2)) (C := RX3) (T := TX3) (N := 6) hx hb hts (fun _ h => (List.mem_cons_of_mem _ (List.mem_append_left _ (List.mem_append_left _ (List.mem_append_left _ (List.mem_append_left _ (List.mem_append_left _ (List.mem_append_left _ (List.mem_append_right _ h))))))))) hown hK hP 40 rfl rfl 1 (by decide) (hts _ (List.mem_cons_of_mem _ (List.mem_append_left _ (List.mem_append_left _ (List.mem_append_left _ (List.mem_append_left _ (List.mem_append_left _ (List.mem_append_left _ (List.mem_append_left _ (List.mem_append_left _ (List.mem_of_getElem? (i := 1) rfl))))))))))) (fun _ h9 => h9) rfl dL_act_306 ?_
                      refine lv_iload hx hb dL_act_309 (lv_at hl 5 rfl) ?_
                      refine q_aald (v := rb j208) hx hb hK hP 42 rfl (by omega) (by omega) rfl dL_act_311 ?_
                      refine lv_iconst (v := nI 0) hx hb dL_act_312 (by decide) ?_
                      refine z_iald hx hb hK hP (39 + (1 + (4 + j208))) 0 (q_pre (n := 39) rfl (q_pre (n := 1) rfl (q_gB (cI := cI) (cR := cR) (sa := sa1) (rb := rb) (rt := rt1) (G := z_gn G j208 j17 i) (D := z_dn G D j208 j17 i) (by omega)))) rfl (by decide) (by decide) dL_act_313 ?_
                      refine z_top (x' := z_v0 (z_gn G j208 j17 i) j208) rfl ?_
                      refine q_iast (ws' := z_cW cI h na ta G D G1 D1 ++ ([(q5, .inl (cI, 4, .inl (upd (upd (upd (fun _ => 0) 0 (nI j208)) 1 (nI j17)) 2 (z_v0 (z_gn G j208 j17 i) j208))))] ++ q_W cI cR sa1 rb rt1 (z_gn G j208 j17 i) (z_dn G D j208 j17 i))) hx hb hK hP hD hS 39 0 rfl rfl rfl (by decide) (by decide) dL_act_314 (fun H locs hP hD hS => ?_)
                      refine lv_dup hx hb dL_act_315 rfl ?_
                      refine lv_iconst (v := nI 3) hx hb dL_act_316 (by decide) ?_
                      refine lv_iconst (v := 0) hx hb dL_act_317 (by decide) ?_
                      refine q_iast (ws' := z_cW cI h na ta G D G1 D1 ++ ([(q5, .inl (cI, 4, .inl (upd (upd (upd (upd (fun _ => 0) 0 (nI j208)) 1 (nI j17)) 2 (z_v0 (z_gn G j208 j17 i) j208)) 3 0)))] ++ q_W cI cR sa1 rb rt1 (z_gn G j208 j17 i) (z_dn G D j208 j17 i))) hx hb hK hP hD hS 39 0 rfl rfl rfl (by decide) (by decide) dL_act_318 (fun H locs hP hD hS => ?_)
                      rw [q_own] at hP hD
                      have hP := q_Pp hP (q_inT (X := z_cW cI h na ta G D G1 D1))
                      have hD := q_Dp hD (q_inT (X := z_cW cI h na ta G D G1 D1))
                      refine q_mS (z_cW cI h na ta G D G1 D1 ++ ([q_c0 (sa1 0) (sa1 1) (sa1 2) (sa1 3) (z_gn G j208 j17 i) (z_dn G D j208 j17 i), q_c1 cI (sa1 1) (z_gn G j208 j17 i), q_cr cR (sa1 2) (z_bc (z_gn G j208 j17 i)) rb] ++ q_bs cI rb (z_gn G j208 j17 i) (z_dn G D j208 j17 i))) ([]) [.ref (sa1 0)] hx hb hml hown hts (m_X3_with l Dg cI cR cZ (sa1 3) q5 (z_tc (z_gn G j208 j17 i)) H.size rt1 (q_4 (nI j208) (nI j17) (z_v0 (z_gn G j208 j17 i) j208) 0) (q_t (z_gn G j208 j17 i) (z_dn G D j208 j17 i)) (by omega)) gL_act_X3_with rfl kdS_X3_with ⟨Nat.le_of_ble_eq_true rfl, Nat.le_of_ble_eq_true rfl⟩ hK hN hJ hP hD hS hA rfl rfl hl.1 (Nat.le_of_ble_eq_true rfl) dL_act_319 ⟨by show _ ≤ 41; omega, by show _ ≤ 1300; omega⟩ (fun o w9 H locs hPo hP hD hS => ?_)
                      obtain ⟨q6, rfl, rfl⟩ := hPo
                      refine va_put (ci := 3) (v := .ref q6) (ty := .array (.array .int)) (C := RX3) (T := TX3) (N := 6) hx hb hts (fun _ h => (List.mem_cons_of_mem _ (List.mem_append_left _ (List.mem_append_left _ (List.mem_append_left _ (List.mem_append_left _ (List.mem_append_left _ (List.mem_append_left _ (List.mem_append_right _ h))))))))) tyX3 tyX3_ok nmX3 hown hK hP hD hS 39 rfl rfl 2 (by decide) (hts _ (List.mem_cons_of_mem _ (List.mem_append_left _ (List.mem_append_left _ (List.mem_append_left _ (List.mem_append_left _ (List.mem_append_left _ (List.mem_append_left _ (List.mem_append_left _ (List.mem_append_left _ (List.mem_of_getElem? (i := 2) rfl))))))))))) (fun _ h9 => h9) rfl (by decide +kernel) rfl rfl (Nat.le_of_ble_eq_true rfl) dL_act_322 (fun H locs hP hD hS => ?_)
                      have hP : va_P Dg vwCl ((z_cW cI h na ta G D G1 D1 ++ ([q_c0 (sa1 0) (sa1 1) (sa1 2) q6 (z_gn G j208 j17 i) (z_dn G D j208 j17 i), q_c1 cI (sa1 1) (z_gn G j208 j17 i), q_cr cR (sa1 2) (z_bc (z_gn G j208 j17 i)) rb] ++ q_bs cI rb (z_gn G j208 j17 i) (z_dn G D j208 j17 i))) ++ ((q_wW cI cR (sa1 3) q5 (z_tc (z_gn G j208 j17 i)) rt1 (q_4 (nI j208) (nI j17) (z_v0 (z_gn G j208 j17 i) j208) 0) (q_t (z_gn G j208 j17 i) (z_dn G D j208 j17 i)) ++ [(q6, .inl (cR, z_tc (z_gn G j208 j17 i) + 1, .inr (.inr (.inr (.inr (fun j => some (va_up rt1 (z_tc (z_gn G j208 j17 i)) q5 j)))))))]) ++ [])) H := hP
                      have hD : va_D _ ((z_cW cI h na ta G D G1 D1 ++ ([q_c0 (sa1 0) (sa1 1) (sa1 2) q6 (z_gn G j208 j17 i) (z_dn G D j208 j17 i), q_c1 cI (sa1 1) (z_gn G j208 j17 i), q_cr cR (sa1 2) (z_bc (z_gn G j208 j17 i)) rb] ++ q_bs cI rb (z_gn G j208 j17 i) (z_dn G D j208 j17 i))) ++ ((q_wW cI cR (sa1 3) q5 (z_tc (z_gn G j208 j17 i)) rt1 (q_4 (nI j208) (nI j17) (z_v0 (z_gn G j208 j17 i) j208) 0) (q_t (z_gn G j208 j17 i) (z_dn G D j208 j17 i)) ++ [(q6, .inl (cR, z_tc (z_gn G j208 j17 i) + 1, .inr (.inr (.inr (.inr (fun j => some (va_up rt1 (z_tc (z_gn G j208 j17 i)) q5 j)))))))]) ++ [])) := hD
                      have hP := q_Pp hP (q_outT (X := z_cW cI h na ta G D G1 D1))
                      have hD := q_Dp hD (q_outT (X := z_cW cI h na ta G D G1 D1))
                      have hP : va_P Dg vwCl (z_cW cI h na ta G D G1 D1 ++ q_W cI cR (va_up sa1 3 q6) rb (va_up rt1 (z_tc (z_gn G j208 j17 i)) q5) (z_g1 (z_gn G j208 j17 i) j208 j17) (z_d1 (z_gn G j208 j17 i) (z_dn G D j208 j17 i) j208)) H := hP
                      have hD : va_D _ (z_cW cI h na ta G D G1 D1 ++ q_W cI cR (va_up sa1 3 q6) rb (va_up rt1 (z_tc (z_gn G j208 j17 i)) q5) (z_g1 (z_gn G j208 j17 i) j208 j17) (z_d1 (z_gn G j208 j17 i) (z_dn G D j208 j17 i) j208)) := hD
                      refine W.widen (k := 2 * (i + 1)) (n := 65 * (i + 1)) (by omega) (by omega) ?_
                      refine lv_iinc (v := nI (i + 1)) (lv' := [(10, .int (nI (i + 1))), (0, .ref h), (1, .ref (sa1 0)), (4, .int (nI (z_tc G))), (5, .int (nI j17)), (6, .int 1), (8, .int (nI j208)), (9, .int (nI (1 + j235)))]) hx hb dL_act_325 hl (k := 7) rfl (nI_1 _) (by decide) rfl (fun ls hl => ?_)
                      refine lv_goto (tgt := 273) hx hb dL_act_328 (by decide) ?_
                      exact ih273 (i + 1) (va_up sa1 3 q6) (va_up rt1 (z_tc (z_gn G j208 j17 i)) q5) (by omega) (by omega) (show (va_up sa1 3 q6) 0 = sa 0 from hf273_0) _ _ hP hD hS _ (lv_sub hl [1, 2, 3, 4, 5, 6, 7, 0] rfl)
                exact lp273 ((1 + j235) + 1) 0 sa rt (by omega) (by omega) rfl _ _ hP hD hS _ (lv_sub hl [8, 9, 6, 5, 1, 3, 2, 0] rfl)
          · skip
            refine lv_bipush (v := nI 20) hx hb dL_act_229 (by decide) ?_
            refine lv_goto (tgt := 235) hx hb dL_act_231 (by decide) ?_
            refine q_rSi (v := nI (q_bl (x >>> ((nI 6) &&& 31)) 20)) [.int (nI 1)] hx hb hml hown hts (m_L_below l Dg cI cR cZ (x >>> ((nI 6) &&& 31)) 20 (by decide) (by decide)) gL_act_L_below rfl kdS_L_below ⟨Nat.le_of_ble_eq_true rfl, Nat.le_of_ble_eq_true rfl⟩ hK hN hJ z_P0 rfl rfl hl.1 (Nat.le_of_ble_eq_true rfl) dL_act_235 ⟨by show _ ≤ 41; omega, by show _ ≤ 1300; omega⟩ ?_
            obtain ⟨j235, hj235, ej235⟩ := q_bl_ex (x >>> ((nI 6) &&& 31)) (k := 20) (by decide)
            refine z_top (x' := nI j235) (congrArg nI ej235) ?_
            refine lv_iadd hx hb dL_act_238 ?_
            refine z_top (x' := nI (1 + j235)) (nI_add _ _) ?_
            refine lv_istore (lv' := [(9, .int (nI (1 + j235))), (8, .int (nI j208)), (7, .int (nI j28)), (6, .int 1), (5, .int (nI j17)), (4, .int (nI (z_tc G))), (3, .int (nI (z_bc G))), (0, .ref h), (1, .ref (sa 0)), (2, .int x)]) hx hb dL_act_239 hl (by decide) rfl (fun ls hl => ?_)
            refine lv_iload hx hb dL_act_241 (lv_at hl 5 rfl) ?_
            refine lv_iload hx hb dL_act_243 (lv_at hl 0 rfl) ?_
            refine lv_iadd hx hb dL_act_245 ?_
            refine z_top (x' := nI ((z_tc G) + (1 + j235))) (nI_add _ _) ?_
            refine lv_bipush (v := nI 60) hx hb dL_act_246 (by decide) ?_
            refine lv_icmp_gt (tgt := 267) hx hb dL_act_248 (by decide) (fun c248 => ?_) (fun c248 => ?_)
            · skip
              have hk60 : 60 < z_tc G + (1 + j235) := z_nle (by omega) (z_i32_nle c248)
              refine lv_iconst (v := 0) hx hb dL_act_267 (by decide) ?_
              refine lv_istore (lv' := [(6, .int 0), (9, .int (nI (1 + j235))), (8, .int (nI j208)), (7, .int (nI j28)), (5, .int (nI j17)), (4, .int (nI (z_tc G))), (3, .int (nI (z_bc G))), (0, .ref h), (1, .ref (sa 0)), (2, .int x)]) hx hb dL_act_268 hl (by decide) rfl (fun ls hl => ?_)
              refine lv_iconst (v := nI 0) hx hb dL_act_270 (by decide) ?_
              refine lv_istore (lv' := [(10, .int (nI 0)), (6, .int 0), (9, .int (nI (1 + j235))), (8, .int (nI j208)), (7, .int (nI j28)), (5, .int (nI j17)), (4, .int (nI (z_tc G))), (3, .int (nI (z_bc G))), (0, .ref h), (1, .ref (sa 0)), (2, .int x)]) hx hb dL_act_271 hl (by decide) rfl (fun ls hl => ?_)
              refine lv_iload hx hb dL_act_273 (lv_at hl 0 rfl) ?_
              refine lv_iload hx hb dL_act_275 (lv_at hl 2 rfl) ?_
              refine lv_icmp_ge (tgt := 331) hx hb dL_act_277 (by decide) (fun c277 => absurd c277 (fun z => absurd (z_le (by omega) (by omega) z) (by omega))) (fun c277 => ?_)
              refine lv_iload hx hb dL_act_280 (lv_at hl 1 rfl) ?_
              refine lv_if_eq (tgt := 331) hx hb dL_act_282 (by decide) (fun c282 => ?_) (fun c282 => absurd rfl c282)
              refine lv_aload_n hx hb dL_act_331 rfl (lv_at hl 8 rfl) ?_
              refine lv_iload hx hb dL_act_332 (lv_at hl 3 rfl) ?_
              refine lv_iload hx hb dL_act_334 (lv_at hl 5 rfl) ?_
              refine lv_iload hx hb dL_act_336 (lv_at hl 2 rfl) ?_
              refine q_cX (E := "java/lang/IllegalStateException") [] hst hx hb hml hown hts (m_X2_seal_x4 l hst Dg cI h na ta G D G1 D1 j208 j17 (1 + j235) (by omega) (by omega) (by omega) (by omega) (by omega) hG hW) gL_act_X2_seal rfl kd_X2_seal ⟨Nat.le_of_ble_eq_true rfl, Nat.le_of_ble_eq_true rfl⟩ hK hN hE hTA hP hS rfl hl.1 rfl (Nat.le_of_ble_eq_true rfl) dL_act_338 ⟨by show _ ≤ 41; omega, by show _ ≤ 1300; omega⟩ (fun ce q9 H hP hS hc1 hc2 hc3 => ?_)
              refine vx_catch (own := RL) (name := "java/lang/IllegalStateException") (E := "java/lang/IllegalStateException") hown [⟨25, 152, 674, 66⟩] ⟨153, 356, 674, 66⟩ [⟨357, 363, 674, 66⟩, ⟨364, 441, 674, 66⟩, ⟨442, 489, 674, 66⟩, ⟨490, 557, 674, 66⟩, ⟨558, 570, 674, 66⟩, ⟨571, 624, 674, 66⟩, ⟨625, 673, 674, 66⟩] htab (fun z hz => Or.inl ((by decide : ∀ z ∈ ([⟨25, 152, 674, 66⟩] : List ExceptionTableEntry), covers z 338 = false) z hz)) rfl (by decide) (hts _ (List.mem_cons_of_mem _ (List.mem_append_left _ (List.mem_append_left _ (List.mem_append_left _ (List.mem_append_left _ (List.mem_append_left _ (List.mem_append_left _ (List.mem_append_left _ (List.mem_append_left _ (List.mem_of_getElem? (i := 0) rfl))))))))))) (va_Nw.use rfl hE.2.2.2.2.2.2.2.2.2.2.2.2.2.2.1) hc1 hc2 hc3 ?_
              have hP : va_P Dg vwCl (z_cW cI h na ta G D G1 D1 ++ q_W cI cR sa rb rt G D) H := hP
              refine lv_astore (lv' := [(7, .ref q9), (10, .int (nI 0)), (6, .int 0), (9, .int (nI (1 + j235))), (8, .int (nI j208)), (5, .int (nI j17)), (4, .int (nI (z_tc G))), (3, .int (nI (z_bc G))), (0, .ref h), (1, .ref (sa 0)), (2, .int x)]) hx hb dL_act_674 hl (by decide) rfl (fun ls hl => ?_)
              refine lv_iload hx hb dL_act_676 (lv_at hl 2 rfl) ?_
              refine lv_if_ne (tgt := 685) hx hb dL_act_678 (by decide) (fun c678 => absurd rfl c678) (fun c678 => ?_)
              refine lv_iconst (v := 1) hx hb dL_act_681 (by decide) ?_
              refine lv_goto (tgt := 686) hx hb dL_act_682 (by decide) ?_
              exact q_ed_z (b := true) (w' := z_cW cI h na ta G D G1 D1 ++ q_W cI cR sa rb rt G D) ⟨rfl, ⟨G, D, G1, D1, sa, rb, rt, rfl, hI, rfl⟩⟩ hP hD hS ⟨by omega, by omega⟩ hx hb hr hlk dL_act_686
            · skip
              have hk60 : z_tc G + (1 + j235) ≤ 60 := z_le (by omega) (by omega) (z_i32_le c248)
              refine lv_aload_n hx hb dL_act_251 rfl (lv_at hl 8 rfl) ?_
              refine va_get (ci := 3) (v := .ref (sa 2)) (C := RX3) (T := TX3) (N := 6) hx hb hts (fun _ h => (List.mem_cons_of_mem _ (List.mem_append_left _ (List.mem_append_left _ (List.mem_append_left _ (List.mem_append_left _ (List.mem_append_left _ (List.mem_append_left _ (List.mem_append_right _ h))))))))) hown hK hP 39 rfl rfl 1 (by decide) (hts _ (List.mem_cons_of_mem _ (List.mem_append_left _ (List.mem_append_left _ (List.mem_append_left _ (List.mem_append_left _ (List.mem_append_left _ (List.mem_append_left _ (List.mem_append_left _ (List.mem_append_left _ (List.mem_of_getElem? (i := 1) rfl))))))))))) (fun _ h9 => h9) rfl dL_act_252 ?_
              refine lv_iload hx hb dL_act_255 (lv_at hl 1 rfl) ?_
              refine q_aald (v := rb j208) hx hb hK hP 41 rfl (by omega) (by omega) rfl dL_act_257 ?_
              refine lv_iconst (v := nI 3) hx hb dL_act_258 (by decide) ?_
              refine z_iald hx hb hK hP (39 + (4 + j208)) 0 (q_pre (n := 39) rfl (q_gB (cI := cI) (cR := cR) (sa := sa) (rb := rb) (rt := rt) (G := G) (D := D) (by omega))) rfl (by decide) (by decide) dL_act_259 ?_
              refine z_top (x' := z_bI (z_rc D j208)) rfl ?_
              refine lv_if_ne (tgt := 267) hx hb dL_act_260 (by decide) (fun c260 => ?_) (fun c260 => ?_)
              · skip
                have hrc := z_bI1 c260
                refine lv_iconst (v := 0) hx hb dL_act_267 (by decide) ?_
                refine lv_istore (lv' := [(6, .int 0), (9, .int (nI (1 + j235))), (8, .int (nI j208)), (7, .int (nI j28)), (5, .int (nI j17)), (4, .int (nI (z_tc G))), (3, .int (nI (z_bc G))), (0, .ref h), (1, .ref (sa 0)), (2, .int x)]) hx hb dL_act_268 hl (by decide) rfl (fun ls hl => ?_)
                refine lv_iconst (v := nI 0) hx hb dL_act_270 (by decide) ?_
                refine lv_istore (lv' := [(10, .int (nI 0)), (6, .int 0), (9, .int (nI (1 + j235))), (8, .int (nI j208)), (7, .int (nI j28)), (5, .int (nI j17)), (4, .int (nI (z_tc G))), (3, .int (nI (z_bc G))), (0, .ref h), (1, .ref (sa 0)), (2, .int x)]) hx hb dL_act_271 hl (by decide) rfl (fun ls hl => ?_)
                refine lv_iload hx hb dL_act_273 (lv_at hl 0 rfl) ?_
                refine lv_iload hx hb dL_act_275 (lv_at hl 2 rfl) ?_
                refine lv_icmp_ge (tgt := 331) hx hb dL_act_277 (by decide) (fun c277 => absurd c277 (fun z => absurd (z_le (by omega) (by omega) z) (by omega))) (fun c277 => ?_)
                refine lv_iload hx hb dL_act_280 (lv_at hl 1 rfl) ?_
                refine lv_if_eq (tgt := 331) hx hb dL_act_282 (by decide) (fun c282 => ?_) (fun c282 => absurd rfl c282)
                refine lv_aload_n hx hb dL_act_331 rfl (lv_at hl 8 rfl) ?_
                refine lv_iload hx hb dL_act_332 (lv_at hl 3 rfl) ?_
                refine lv_iload hx hb dL_act_334 (lv_at hl 5 rfl) ?_
                refine lv_iload hx hb dL_act_336 (lv_at hl 2 rfl) ?_
                refine q_cX (E := "java/lang/IllegalStateException") [] hst hx hb hml hown hts (m_X2_seal_x5 l hst Dg cI h na ta G D G1 D1 j208 j17 (1 + j235) (by omega) (by omega) (by omega) (by omega) (by omega) hrc hG hW) gL_act_X2_seal rfl kd_X2_seal ⟨Nat.le_of_ble_eq_true rfl, Nat.le_of_ble_eq_true rfl⟩ hK hN hE hTA hP hS rfl hl.1 rfl (Nat.le_of_ble_eq_true rfl) dL_act_338 ⟨by show _ ≤ 41; omega, by show _ ≤ 1300; omega⟩ (fun ce q9 H hP hS hc1 hc2 hc3 => ?_)
                refine vx_catch (own := RL) (name := "java/lang/IllegalStateException") (E := "java/lang/IllegalStateException") hown [⟨25, 152, 674, 66⟩] ⟨153, 356, 674, 66⟩ [⟨357, 363, 674, 66⟩, ⟨364, 441, 674, 66⟩, ⟨442, 489, 674, 66⟩, ⟨490, 557, 674, 66⟩, ⟨558, 570, 674, 66⟩, ⟨571, 624, 674, 66⟩, ⟨625, 673, 674, 66⟩] htab (fun z hz => Or.inl ((by decide : ∀ z ∈ ([⟨25, 152, 674, 66⟩] : List ExceptionTableEntry), covers z 338 = false) z hz)) rfl (by decide) (hts _ (List.mem_cons_of_mem _ (List.mem_append_left _ (List.mem_append_left _ (List.mem_append_left _ (List.mem_append_left _ (List.mem_append_left _ (List.mem_append_left _ (List.mem_append_left _ (List.mem_append_left _ (List.mem_of_getElem? (i := 0) rfl))))))))))) (va_Nw.use rfl hE.2.2.2.2.2.2.2.2.2.2.2.2.2.2.1) hc1 hc2 hc3 ?_
                have hP : va_P Dg vwCl (z_cW cI h na ta G D G1 D1 ++ q_W cI cR sa rb rt G D) H := hP
                refine lv_astore (lv' := [(7, .ref q9), (10, .int (nI 0)), (6, .int 0), (9, .int (nI (1 + j235))), (8, .int (nI j208)), (5, .int (nI j17)), (4, .int (nI (z_tc G))), (3, .int (nI (z_bc G))), (0, .ref h), (1, .ref (sa 0)), (2, .int x)]) hx hb dL_act_674 hl (by decide) rfl (fun ls hl => ?_)
                refine lv_iload hx hb dL_act_676 (lv_at hl 2 rfl) ?_
                refine lv_if_ne (tgt := 685) hx hb dL_act_678 (by decide) (fun c678 => absurd rfl c678) (fun c678 => ?_)
                refine lv_iconst (v := 1) hx hb dL_act_681 (by decide) ?_
                refine lv_goto (tgt := 686) hx hb dL_act_682 (by decide) ?_
                exact q_ed_z (b := true) (w' := z_cW cI h na ta G D G1 D1 ++ q_W cI cR sa rb rt G D) ⟨rfl, ⟨G, D, G1, D1, sa, rb, rt, rfl, hI, rfl⟩⟩ hP hD hS ⟨by omega, by omega⟩ hx hb hr hlk dL_act_686
              · skip
                have hrc := z_bI0 c260
                refine lv_iconst (v := 1) hx hb dL_act_263 (by decide) ?_
                refine lv_goto (tgt := 268) hx hb dL_act_264 (by decide) ?_
                refine lv_istore (lv' := [(6, .int 1), (9, .int (nI (1 + j235))), (8, .int (nI j208)), (7, .int (nI j28)), (5, .int (nI j17)), (4, .int (nI (z_tc G))), (3, .int (nI (z_bc G))), (0, .ref h), (1, .ref (sa 0)), (2, .int x)]) hx hb dL_act_268 hl (by decide) rfl (fun ls hl => ?_)
                refine lv_iconst (v := nI 0) hx hb dL_act_270 (by decide) ?_
                refine lv_istore (lv' := [(10, .int (nI 0)), (6, .int 1), (9, .int (nI (1 + j235))), (8, .int (nI j208)), (7, .int (nI j28)), (5, .int (nI j17)), (4, .int (nI (z_tc G))), (3, .int (nI (z_bc G))), (0, .ref h), (1, .ref (sa 0)), (2, .int x)]) hx hb dL_act_271 hl (by decide) rfl (fun ls hl => ?_)
                have lp273 : ∀ (zz i : Nat) (sa1 : Nat → Nat) (rt1 : Nat → Nat), i ≤ (1 + j235) → (1 + j235) + 1 ≤ i + zz → sa1 0 = sa 0 → ∀ (H : Heap) (locs : List Loc), va_P Dg vwCl (z_cW cI h na ta G D G1 D1 ++ q_W cI cR sa1 rb rt1 (z_gn G j208 j17 i) (z_dn G D j208 j17 i)) H → va_D (va_A (z_cW cI h na ta G D G1 D1 ++ q_W cI cR sa rb rt G D) sz) (z_cW cI h na ta G D G1 D1 ++ q_W cI cR sa1 rb rt1 (z_gn G j208 j17 i) (z_dn G D j208 j17 i)) → va_S (va_A (z_cW cI h na ta G D G1 D1 ++ q_W cI cR sa rb rt G D) sz) s.heap H locs → ∀ ls : Array Slot, lv_has ls 11 [(0, .ref h), (1, .ref (sa1 0)), (4, .int (nI (z_tc G))), (5, .int (nI j17)), (6, .int 1), (8, .int (nI j208)), (9, .int (nI (1 + j235))), (10, .int (nI i))] → W p l e ({ frames := 9, cells := 41, slots := 1300, locals := 154 } : Room) s m ([.ref h, .ref (sa 0), .int x] : List Value).toArray below meth c H locs (2 * i) (65 * i) (MQ below (z_Qd (fun o w9 => o = some (.int (z_bI true)) ∧ q_ST cI cR h na ta (sa 0) w9) Dg (z_cW cI h na ta G D G1 D1 ++ q_W cI cR sa rb rt G D) sz) ([.ref h, .ref (sa 0), .int x] : List Value).toArray s 41 1300 (va_A (z_cW cI h na ta G D G1 D1 ++ q_W cI cR sa rb rt G D) sz)) (F0 m 273 ls []) := by
                  intro zz
                  induction zz with
                  | zero => intros; exfalso; omega
                  | succ zz ih273 =>
                    intro i sa1 rt1 hi hzz hf273_0 H locs hP hD hS ls hl
                    refine lv_iload hx hb dL_act_273 (lv_at hl 7 rfl) ?_
                    refine lv_iload hx hb dL_act_275 (lv_at hl 6 rfl) ?_
                    refine lv_icmp_ge (tgt := 331) hx hb dL_act_277 (by decide) (fun c277 => ?_) (fun c277 => ?_)
                    · skip
                      have hi2 : i = 1 + j235 := Nat.le_antisymm hi (z_le (by omega) (by omega) c277)
                      subst hi2
                      refine lv_aload_n hx hb dL_act_331 rfl (lv_at hl 0 rfl) ?_
                      refine lv_iload hx hb dL_act_332 (lv_at hl 5 rfl) ?_
                      refine lv_iload hx hb dL_act_334 (lv_at hl 3 rfl) ?_
                      refine lv_iload hx hb dL_act_336 (lv_at hl 6 rfl) ?_
                      refine z_wBi (v := nI (z_tc G)) [] [] (q_W cI cR sa1 rb rt1 (z_gn G j208 j17 (1 + j235)) (z_dn G D j208 j17 (1 + j235))) 0 hx hb hml hown hts (m_X2_seal l Dg cI h na ta G D G1 D1 j208 j17 (1 + j235) (by omega) (by omega) (by omega) (by omega) (by omega) hrc hG hW) gL_act_X2_seal rfl kd_X2_seal ⟨Nat.le_of_ble_eq_true rfl, Nat.le_of_ble_eq_true rfl⟩ (q_KI hK) hN hP hD hS rfl rfl rfl rfl rfl hl.1 rfl (Nat.le_of_ble_eq_true rfl) dL_act_338 ⟨by show _ ≤ 41; omega, by show _ ≤ 1300; omega⟩ (fun H locs hP hD hS => ?_)
                      have hP : va_P Dg vwCl (z_cW cI h na ta (z_gn G j208 j17 (1 + j235)) (z_dn G D j208 j17 (1 + j235)) G1 D1 ++ q_W cI cR sa1 rb rt1 (z_gn G j208 j17 (1 + j235)) (z_dn G D j208 j17 (1 + j235))) H := hP
                      have hD : va_D _ (z_cW cI h na ta (z_gn G j208 j17 (1 + j235)) (z_dn G D j208 j17 (1 + j235)) G1 D1 ++ q_W cI cR sa1 rb rt1 (z_gn G j208 j17 (1 + j235)) (z_dn G D j208 j17 (1 + j235))) := hD
                      refine lv_iload hx hb dL_act_341 (lv_at hl 2 rfl) ?_
                      refine lv_icmp_ne (tgt := 355) hx hb dL_act_343 (by decide) (fun c343 => absurd rfl c343) (fun c343 => ?_)
                      refine lv_iload hx hb dL_act_346 (lv_at hl 4 rfl) ?_
                      refine lv_if_eq (tgt := 355) hx hb dL_act_348 (by decide) (fun c348 => absurd c348 (by decide)) (fun c348 => ?_)
                      refine lv_iconst (v := 1) hx hb dL_act_351 (by decide) ?_
                      refine lv_goto (tgt := 356) hx hb dL_act_352 (by decide) ?_
                      exact q_ed_z (b := true) (w' := z_cW cI h na ta (z_gn G j208 j17 (1 + j235)) (z_dn G D j208 j17 (1 + j235)) G1 D1 ++ q_W cI cR sa1 rb rt1 (z_gn G j208 j17 (1 + j235)) (z_dn G D j208 j17 (1 + j235))) ⟨rfl, ⟨z_gn G j208 j17 (1 + j235), z_dn G D j208 j17 (1 + j235), G1, D1, sa1, rb, rt1, hf273_0, (q_I_gn hI (by omega) (by omega) hrc _ (by omega)), rfl⟩⟩ hP hD hS ⟨by omega, by omega⟩ hx hb hr hlk dL_act_356
                    · skip
                      have hi2 : i < 1 + j235 := z_nle (by omega) c277
                      have hbg : j208 < z_bc (z_gn G j208 j17 i) := by rw [q_bc_gn]; omega
                      have htg : z_tc (z_gn G j208 j17 i) = z_tc G + i := z_tc_gn _ _ _ _
                      have hbcg : z_bc (z_gn G j208 j17 i) ≤ 6 := by rw [q_bc_gn]; exact hbc
                      refine lv_iload hx hb dL_act_280 (lv_at hl 4 rfl) ?_
                      refine lv_if_eq (tgt := 331) hx hb dL_act_282 (by decide) (fun c282 => absurd c282 (by decide)) (fun c282 => ?_)
                      refine lv_aload_n hx hb dL_act_285 rfl (lv_at hl 1 rfl) ?_
                      refine lv_aload_n hx hb dL_act_286 rfl (lv_at hl 1 rfl) ?_
                      refine va_get (ci := 3) (v := .ref (sa1 3)) (C := RX3) (T := TX3) (N := 6) hx hb hts (fun _ h => (List.mem_cons_of_mem _ (List.mem_append_left _ (List.mem_append_left _ (List.mem_append_left _ (List.mem_append_left _ (List.mem_append_left _ (List.mem_append_left _ (List.mem_append_right _ h))))))))) hown hK hP 39 rfl rfl 2 (by decide) (hts _ (List.mem_cons_of_mem _ (List.mem_append_left _ (List.mem_append_left _ (List.mem_append_left _ (List.mem_append_left _ (List.mem_append_left _ (List.mem_append_left _ (List.mem_append_left _ (List.mem_append_left _ (List.mem_of_getElem? (i := 2) rfl))))))))))) (fun _ h9 => h9) rfl dL_act_287 ?_
                      refine lv_iconst (v := nI 4) hx hb dL_act_290 (by decide) ?_
                      refine q_newi hx hb (hts _ (List.mem_cons_of_mem _ (List.mem_append_left _ (List.mem_append_left _ (List.mem_append_left _ (List.mem_append_left _ (List.mem_append_left _ (List.mem_append_left _ (List.mem_append_left _ (List.mem_append_left _ (List.mem_of_getElem? (i := 3) rfl))))))))))) hK hP hD hS hA rfl (by decide) (by show _ ≤ 41; omega) (by show _ ≤ 1300; omega) dL_act_291 (fun q7 H hP hD hS => ?_)
                      have hP := q_mvP (c := z_cW cI h na ta G D G1 D1) (e := []) (s := q_W cI cR sa1 rb rt1 (z_gn G j208 j17 i) (z_dn G D j208 j17 i)) hP
                      have hD := q_mvD (c := z_cW cI h na ta G D G1 D1) (e := []) (s := q_W cI cR sa1 rb rt1 (z_gn G j208 j17 i) (z_dn G D j208 j17 i)) hD
                      have hP : va_P Dg vwCl (z_cW cI h na ta G D G1 D1 ++ ([(q7, .inl (cI, 4, .inl (fun _ => 0)))] ++ q_W cI cR sa1 rb rt1 (z_gn G j208 j17 i) (z_dn G D j208 j17 i))) H := hP
                      have hD : va_D _ (z_cW cI h na ta G D G1 D1 ++ ([(q7, .inl (cI, 4, .inl (fun _ => 0)))] ++ q_W cI cR sa1 rb rt1 (z_gn G j208 j17 i) (z_dn G D j208 j17 i))) := hD
                      refine lv_dup hx hb dL_act_293 rfl ?_
                      refine lv_iconst (v := nI 0) hx hb dL_act_294 (by decide) ?_
                      refine lv_iload hx hb dL_act_295 (lv_at hl 5 rfl) ?_
                      refine q_iast (ws' := z_cW cI h na ta G D G1 D1 ++ ([(q7, .inl (cI, 4, .inl (upd (fun _ => 0) 0 (nI j208))))] ++ q_W cI cR sa1 rb rt1 (z_gn G j208 j17 i) (z_dn G D j208 j17 i))) hx hb hK hP hD hS 39 0 rfl rfl rfl (by decide) (by decide) dL_act_297 (fun H locs hP hD hS => ?_)
                      refine lv_dup hx hb dL_act_298 rfl ?_
                      refine lv_iconst (v := nI 1) hx hb dL_act_299 (by decide) ?_
                      refine lv_iload hx hb dL_act_300 (lv_at hl 3 rfl) ?_
                      refine q_iast (ws' := z_cW cI h na ta G D G1 D1 ++ ([(q7, .inl (cI, 4, .inl (upd (upd (fun _ => 0) 0 (nI j208)) 1 (nI j17))))] ++ q_W cI cR sa1 rb rt1 (z_gn G j208 j17 i) (z_dn G D j208 j17 i))) hx hb hK hP hD hS 39 0 rfl rfl rfl (by decide) (by decide) dL_act_302 (fun H locs hP hD hS => ?_)
                      refine lv_dup hx hb dL_act_303 rfl ?_
                      refine lv_iconst (v := nI 2) hx hb dL_act_304 (by decide) ?_
                      refine lv_aload_n hx hb dL_act_305 rfl (lv_at hl 1 rfl) ?_
                      refine va_get (ci := 3) (v := .ref (sa1 2)) (C := RX3) (T := TX3) (N := 6) hx hb hts (fun _ h => (List.mem_cons_of_mem _ (List.mem_append_left _ (List.mem_append_left _ (List.mem_append_left _ (List.mem_append_left _ (List.mem_append_left _ (List.mem_append_left _ (List.mem_append_right _ h))))))))) hown hK hP 40 rfl rfl 1 (by decide) (hts _ (List.mem_cons_of_mem _ (List.mem_append_left _ (List.mem_append_left _ (List.mem_append_left _ (List.mem_append_left _ (List.mem_append_left _ (List.mem_append_left _ (List.mem_append_left _ (List.mem_append_left _ (List.mem_of_getElem? (i := 1) rfl))))))))))) (fun _ h9 => h9) rfl dL_act_306 ?_
                      refine lv_iload hx hb dL_act_309 (lv_at hl 5 rfl) ?_
                      refine q_aald (v := rb j208) hx hb hK hP 42 rfl (by omega) (by omega) rfl dL_act_311 ?_
                      refine lv_iconst (v := nI 0) hx hb dL_act_312 (by decide) ?_
                      refine z_iald hx hb hK hP (39 + (1 + (4 + j208))) 0 (q_pre (n := 39) rfl (q_pre (n := 1) rfl (q_gB (cI := cI) (cR := cR) (sa := sa1) (rb := rb) (rt := rt1) (G := z_gn G j208 j17 i) (D := z_dn G D j208 j17 i) (by omega)))) rfl (by decide) (by decide) dL_act_313 ?_
                      refine z_top (x' := z_v0 (z_gn G j208 j17 i) j208) rfl ?_
                      refine q_iast (ws' := z_cW cI h na ta G D G1 D1 ++ ([(q7, .inl (cI, 4, .inl (upd (upd (upd (fun _ => 0) 0 (nI j208)) 1 (nI j17)) 2 (z_v0 (z_gn G j208 j17 i) j208))))] ++ q_W cI cR sa1 rb rt1 (z_gn G j208 j17 i) (z_dn G D j208 j17 i))) hx hb hK hP hD hS 39 0 rfl rfl rfl (by decide) (by decide) dL_act_314 (fun H locs hP hD hS => ?_)
                      refine lv_dup hx hb dL_act_315 rfl ?_
                      refine lv_iconst (v := nI 3) hx hb dL_act_316 (by decide) ?_
                      refine lv_iconst (v := 0) hx hb dL_act_317 (by decide) ?_
                      refine q_iast (ws' := z_cW cI h na ta G D G1 D1 ++ ([(q7, .inl (cI, 4, .inl (upd (upd (upd (upd (fun _ => 0) 0 (nI j208)) 1 (nI j17)) 2 (z_v0 (z_gn G j208 j17 i) j208)) 3 0)))] ++ q_W cI cR sa1 rb rt1 (z_gn G j208 j17 i) (z_dn G D j208 j17 i))) hx hb hK hP hD hS 39 0 rfl rfl rfl (by decide) (by decide) dL_act_318 (fun H locs hP hD hS => ?_)
                      rw [q_own] at hP hD
                      have hP := q_Pp hP (q_inT (X := z_cW cI h na ta G D G1 D1))
                      have hD := q_Dp hD (q_inT (X := z_cW cI h na ta G D G1 D1))
                      refine q_mS (z_cW cI h na ta G D G1 D1 ++ ([q_c0 (sa1 0) (sa1 1) (sa1 2) (sa1 3) (z_gn G j208 j17 i) (z_dn G D j208 j17 i), q_c1 cI (sa1 1) (z_gn G j208 j17 i), q_cr cR (sa1 2) (z_bc (z_gn G j208 j17 i)) rb] ++ q_bs cI rb (z_gn G j208 j17 i) (z_dn G D j208 j17 i))) ([]) [.ref (sa1 0)] hx hb hml hown hts (m_X3_with l Dg cI cR cZ (sa1 3) q7 (z_tc (z_gn G j208 j17 i)) H.size rt1 (q_4 (nI j208) (nI j17) (z_v0 (z_gn G j208 j17 i) j208) 0) (q_t (z_gn G j208 j17 i) (z_dn G D j208 j17 i)) (by omega)) gL_act_X3_with rfl kdS_X3_with ⟨Nat.le_of_ble_eq_true rfl, Nat.le_of_ble_eq_true rfl⟩ hK hN hJ hP hD hS hA rfl rfl hl.1 (Nat.le_of_ble_eq_true rfl) dL_act_319 ⟨by show _ ≤ 41; omega, by show _ ≤ 1300; omega⟩ (fun o w9 H locs hPo hP hD hS => ?_)
                      obtain ⟨q8, rfl, rfl⟩ := hPo
                      refine va_put (ci := 3) (v := .ref q8) (ty := .array (.array .int)) (C := RX3) (T := TX3) (N := 6) hx hb hts (fun _ h => (List.mem_cons_of_mem _ (List.mem_append_left _ (List.mem_append_left _ (List.mem_append_left _ (List.mem_append_left _ (List.mem_append_left _ (List.mem_append_left _ (List.mem_append_right _ h))))))))) tyX3 tyX3_ok nmX3 hown hK hP hD hS 39 rfl rfl 2 (by decide) (hts _ (List.mem_cons_of_mem _ (List.mem_append_left _ (List.mem_append_left _ (List.mem_append_left _ (List.mem_append_left _ (List.mem_append_left _ (List.mem_append_left _ (List.mem_append_left _ (List.mem_append_left _ (List.mem_of_getElem? (i := 2) rfl))))))))))) (fun _ h9 => h9) rfl (by decide +kernel) rfl rfl (Nat.le_of_ble_eq_true rfl) dL_act_322 (fun H locs hP hD hS => ?_)
                      have hP : va_P Dg vwCl ((z_cW cI h na ta G D G1 D1 ++ ([q_c0 (sa1 0) (sa1 1) (sa1 2) q8 (z_gn G j208 j17 i) (z_dn G D j208 j17 i), q_c1 cI (sa1 1) (z_gn G j208 j17 i), q_cr cR (sa1 2) (z_bc (z_gn G j208 j17 i)) rb] ++ q_bs cI rb (z_gn G j208 j17 i) (z_dn G D j208 j17 i))) ++ ((q_wW cI cR (sa1 3) q7 (z_tc (z_gn G j208 j17 i)) rt1 (q_4 (nI j208) (nI j17) (z_v0 (z_gn G j208 j17 i) j208) 0) (q_t (z_gn G j208 j17 i) (z_dn G D j208 j17 i)) ++ [(q8, .inl (cR, z_tc (z_gn G j208 j17 i) + 1, .inr (.inr (.inr (.inr (fun j => some (va_up rt1 (z_tc (z_gn G j208 j17 i)) q7 j)))))))]) ++ [])) H := hP
                      have hD : va_D _ ((z_cW cI h na ta G D G1 D1 ++ ([q_c0 (sa1 0) (sa1 1) (sa1 2) q8 (z_gn G j208 j17 i) (z_dn G D j208 j17 i), q_c1 cI (sa1 1) (z_gn G j208 j17 i), q_cr cR (sa1 2) (z_bc (z_gn G j208 j17 i)) rb] ++ q_bs cI rb (z_gn G j208 j17 i) (z_dn G D j208 j17 i))) ++ ((q_wW cI cR (sa1 3) q7 (z_tc (z_gn G j208 j17 i)) rt1 (q_4 (nI j208) (nI j17) (z_v0 (z_gn G j208 j17 i) j208) 0) (q_t (z_gn G j208 j17 i) (z_dn G D j208 j17 i)) ++ [(q8, .inl (cR, z_tc (z_gn G j208 j17 i) + 1, .inr (.inr (.inr (.inr (fun j => some (va_up rt1 (z_tc (z_gn G j208 j17 i)) q7 j)))))))]) ++ [])) := hD
                      have hP := q_Pp hP (q_outT (X := z_cW cI h na ta G D G1 D1))
                      have hD := q_Dp hD (q_outT (X := z_cW cI h na ta G D G1 D1))
                      have hP : va_P Dg vwCl (z_cW cI h na ta G D G1 D1 ++ q_W cI cR (va_up sa1 3 q8) rb (va_up rt1 (z_tc (z_gn G j208 j17 i)) q7) (z_g1 (z_gn G j208 j17 i) j208 j17) (z_d1 (z_gn G j208 j17 i) (z_dn G D j208 j17 i) j208)) H := hP
                      have hD : va_D _ (z_cW cI h na ta G D G1 D1 ++ q_W cI cR (va_up sa1 3 q8) rb (va_up rt1 (z_tc (z_gn G j208 j17 i)) q7) (z_g1 (z_gn G j208 j17 i) j208 j17) (z_d1 (z_gn G j208 j17 i) (z_dn G D j208 j17 i) j208)) := hD
                      refine W.widen (k := 2 * (i + 1)) (n := 65 * (i + 1)) (by omega) (by omega) ?_
                      refine lv_iinc (v := nI (i + 1)) (lv' := [(10, .int (nI (i + 1))), (0, .ref h), (1, .ref (sa1 0)), (4, .int (nI (z_tc G))), (5, .int (nI j17)), (6, .int 1), (8, .int (nI j208)), (9, .int (nI (1 + j235)))]) hx hb dL_act_325 hl (k := 7) rfl (nI_1 _) (by decide) rfl (fun ls hl => ?_)
                      refine lv_goto (tgt := 273) hx hb dL_act_328 (by decide) ?_
                      exact ih273 (i + 1) (va_up sa1 3 q8) (va_up rt1 (z_tc (z_gn G j208 j17 i)) q7) (by omega) (by omega) (show (va_up sa1 3 q8) 0 = sa 0 from hf273_0) _ _ hP hD hS _ (lv_sub hl [1, 2, 3, 4, 5, 6, 7, 0] rfl)
                exact lp273 ((1 + j235) + 1) 0 sa rt (by omega) (by omega) rfl _ _ hP hD hS _ (lv_sub hl [8, 9, 6, 5, 1, 3, 2, 0] rfl)
        rcases hg with hg | hg | hg <;> subst hg <;> exact q_swIn (tgt := 204) (off := 49) hx hb dL_act_155 (by decide) (by decide) rfl (by decide) kk
      · skip
        have kk : W p l e ({ frames := 9, cells := 41, slots := 1300, locals := 154 } : Room) s m ([.ref h, .ref (sa 0), .int x] : List Value).toArray below meth c s.heap [] 0 0 (MQ below (z_Qd (fun o w9 => o = some (.int (z_bI true)) ∧ q_ST cI cR h na ta (sa 0) w9) Dg (z_cW cI h na ta G D G1 D1 ++ q_W cI cR sa rb rt G D) sz) ([.ref h, .ref (sa 0), .int x] : List Value).toArray s 41 1300 (va_A (z_cW cI h na ta G D G1 D1 ++ q_W cI cR sa rb rt G D) sz)) (F0 m 357 ls []) := by
          refine lv_iload hx hb dL_act_357 (lv_at hl 3 rfl) ?_
          refine lv_if_ne (tgt := 364) hx hb dL_act_359 (by decide) (fun c359 => ?_) (fun c359 => ?_)
          · skip
            have htc0 : 0 < z_tc G := Nat.pos_of_ne_zero (fun z => c359 (by rw [z]; decide))
            refine lv_aload_n hx hb dL_act_364 rfl (lv_at hl 6 rfl) ?_
            refine va_get (ci := 3) (v := .ref (sa 3)) (C := RX3) (T := TX3) (N := 6) hx hb hts (fun _ h => (List.mem_cons_of_mem _ (List.mem_append_left _ (List.mem_append_left _ (List.mem_append_left _ (List.mem_append_left _ (List.mem_append_left _ (List.mem_append_left _ (List.mem_append_right _ h))))))))) hown hK hP 39 rfl rfl 2 (by decide) (hts _ (List.mem_cons_of_mem _ (List.mem_append_left _ (List.mem_append_left _ (List.mem_append_left _ (List.mem_append_left _ (List.mem_append_left _ (List.mem_append_left _ (List.mem_append_left _ (List.mem_append_left _ (List.mem_of_getElem? (i := 2) rfl))))))))))) (fun _ h9 => h9) rfl dL_act_365 ?_
            refine lv_iload_n hx hb dL_act_368 rfl (lv_at hl 7 rfl) ?_
            refine lv_bipush (v := nI 6) hx hb dL_act_369 (by decide) ?_
            refine lv_ishr hx hb dL_act_371 ?_
            refine lv_iload hx hb dL_act_372 (lv_at hl 3 rfl) ?_
            refine q_rSi (v := nI (q_bl (x >>> ((nI 6) &&& 31)) (z_tc G))) [.ref (sa 3)] hx hb hml hown hts (m_L_below l Dg cI cR cZ (x >>> ((nI 6) &&& 31)) (z_tc G) (by omega) (by omega)) gL_act_L_below rfl kdS_L_below ⟨Nat.le_of_ble_eq_true rfl, Nat.le_of_ble_eq_true rfl⟩ hK hN hJ z_P0 rfl rfl hl.1 (Nat.le_of_ble_eq_true rfl) dL_act_374 ⟨by show _ ≤ 41; omega, by show _ ≤ 1300; omega⟩ ?_
            obtain ⟨j374, hj374, ej374⟩ := q_bl_ex (x >>> ((nI 6) &&& 31)) (k := z_tc G) (by omega)
            refine z_top (x' := nI j374) (congrArg nI ej374) ?_
            refine q_aald (v := rt j374) hx hb hK hP 42 rfl (by omega) (by omega) rfl dL_act_377 ?_
            refine lv_astore (lv' := [(8, .ref (rt j374)), (7, .int (nI j28)), (6, .int 1), (5, .int (nI j17)), (4, .int (nI (z_tc G))), (3, .int (nI (z_bc G))), (0, .ref h), (1, .ref (sa 0)), (2, .int x)]) hx hb dL_act_378 hl (by decide) rfl (fun ls hl => ?_)
            refine lv_aload hx hb dL_act_380 (lv_at hl 0 rfl) ?_
            refine lv_iconst (v := nI 1) hx hb dL_act_382 (by decide) ?_
            refine z_iald hx hb hK hP (39 + (4 + (z_bc G + j374))) 0 (q_pre (n := 39) rfl (q_gT (cI := cI) (cR := cR) (sa := sa) (rb := rb) (rt := rt) (G := G) (D := D) (by omega))) rfl (by decide) (by decide) dL_act_383 ?_
            refine z_top (x' := nI (z_sh G j374)) rfl ?_
            refine lv_istore (lv' := [(9, .int (nI (z_sh G j374))), (8, .ref (rt j374)), (7, .int (nI j28)), (6, .int 1), (5, .int (nI j17)), (4, .int (nI (z_tc G))), (3, .int (nI (z_bc G))), (0, .ref h), (1, .ref (sa 0)), (2, .int x)]) hx hb dL_act_384 hl (by decide) rfl (fun ls hl => ?_)
            refine lv_aload hx hb dL_act_386 (lv_at hl 1 rfl) ?_
            refine lv_iconst (v := nI 3) hx hb dL_act_388 (by decide) ?_
            refine z_iald hx hb hK hP (39 + (4 + (z_bc G + j374))) 0 (q_pre (n := 39) rfl (q_gT (cI := cI) (cR := cR) (sa := sa) (rb := rb) (rt := rt) (G := G) (D := D) (by omega))) rfl (by decide) (by decide) dL_act_389 ?_
            refine z_top (x' := nI (z_pl D j374 - 1)) rfl ?_
            refine lv_if_ne (tgt := 397) hx hb dL_act_390 (by decide) (fun c390 => ?_) (fun c390 => ?_)
            · skip
              have hp1 := q_pl_ne hW (by omega) c390
              refine lv_iconst (v := 0) hx hb dL_act_397 (by decide) ?_
              refine lv_istore (lv' := [(6, .int 0), (9, .int (nI (z_sh G j374))), (8, .ref (rt j374)), (7, .int (nI j28)), (5, .int (nI j17)), (4, .int (nI (z_tc G))), (3, .int (nI (z_bc G))), (0, .ref h), (1, .ref (sa 0)), (2, .int x)]) hx hb dL_act_398 hl (by decide) rfl (fun ls hl => ?_)
              refine lv_iload hx hb dL_act_400 (lv_at hl 0 rfl) ?_
              refine lv_if_eq (tgt := 411) hx hb dL_act_402 (by decide) (fun c402 => ?_) (fun c402 => absurd rfl c402)
              refine lv_aload_n hx hb dL_act_411 rfl (lv_at hl 7 rfl) ?_
              refine lv_iload_n hx hb dL_act_412 rfl (lv_at hl 9 rfl) ?_
              refine lv_bipush (v := nI 6) hx hb dL_act_413 (by decide) ?_
              refine lv_ishr hx hb dL_act_415 ?_
              refine lv_iload hx hb dL_act_416 (lv_at hl 5 rfl) ?_
              refine q_rSi (v := nI (q_bl (x >>> ((nI 6) &&& 31)) (z_tc G))) [.ref h] hx hb hml hown hts (m_L_below l Dg cI cR cZ (x >>> ((nI 6) &&& 31)) (z_tc G) (by omega) (by omega)) gL_act_L_below rfl kdS_L_below ⟨Nat.le_of_ble_eq_true rfl, Nat.le_of_ble_eq_true rfl⟩ hK hN hJ z_P0 rfl rfl hl.1 (Nat.le_of_ble_eq_true rfl) dL_act_418 ⟨by show _ ≤ 41; omega, by show _ ≤ 1300; omega⟩ ?_
              refine z_top (x' := nI j374) (congrArg nI ej374) ?_
              refine lv_iload hx hb dL_act_421 (lv_at hl 4 rfl) ?_
              refine q_cX (E := "java/lang/IllegalStateException") [] hst hx hb hml hown hts (m_X2_move_x3 l hst Dg cI h na ta G D G1 D1 j374 j17 (by omega) (by omega) hp1 hG hW) gL_act_X2_move rfl kd_X2_move ⟨Nat.le_of_ble_eq_true rfl, Nat.le_of_ble_eq_true rfl⟩ hK hN hE hTA hP hS rfl hl.1 rfl (Nat.le_of_ble_eq_true rfl) dL_act_423 ⟨by show _ ≤ 41; omega, by show _ ≤ 1300; omega⟩ (fun ce q9 H hP hS hc1 hc2 hc3 => ?_)
              refine vx_catch (own := RL) (name := "java/lang/IllegalStateException") (E := "java/lang/IllegalStateException") hown [⟨25, 152, 674, 66⟩, ⟨153, 356, 674, 66⟩, ⟨357, 363, 674, 66⟩] ⟨364, 441, 674, 66⟩ [⟨442, 489, 674, 66⟩, ⟨490, 557, 674, 66⟩, ⟨558, 570, 674, 66⟩, ⟨571, 624, 674, 66⟩, ⟨625, 673, 674, 66⟩] htab (fun z hz => Or.inl ((by decide : ∀ z ∈ ([⟨25, 152, 674, 66⟩, ⟨153, 356, 674, 66⟩, ⟨357, 363, 674, 66⟩] : List ExceptionTableEntry), covers z 423 = false) z hz)) rfl (by decide) (hts _ (List.mem_cons_of_mem _ (List.mem_append_left _ (List.mem_append_left _ (List.mem_append_left _ (List.mem_append_left _ (List.mem_append_left _ (List.mem_append_left _ (List.mem_append_left _ (List.mem_append_left _ (List.mem_of_getElem? (i := 0) rfl))))))))))) (va_Nw.use rfl hE.2.2.2.2.2.2.2.2.2.2.2.2.2.2.1) hc1 hc2 hc3 ?_
              have hP : va_P Dg vwCl (z_cW cI h na ta G D G1 D1 ++ q_W cI cR sa rb rt G D) H := hP
              refine lv_astore (lv' := [(7, .ref q9), (6, .int 0), (9, .int (nI (z_sh G j374))), (8, .ref (rt j374)), (5, .int (nI j17)), (4, .int (nI (z_tc G))), (3, .int (nI (z_bc G))), (0, .ref h), (1, .ref (sa 0)), (2, .int x)]) hx hb dL_act_674 hl (by decide) rfl (fun ls hl => ?_)
              refine lv_iload hx hb dL_act_676 (lv_at hl 1 rfl) ?_
              refine lv_if_ne (tgt := 685) hx hb dL_act_678 (by decide) (fun c678 => absurd rfl c678) (fun c678 => ?_)
              refine lv_iconst (v := 1) hx hb dL_act_681 (by decide) ?_
              refine lv_goto (tgt := 686) hx hb dL_act_682 (by decide) ?_
              exact q_ed_z (b := true) (w' := z_cW cI h na ta G D G1 D1 ++ q_W cI cR sa rb rt G D) ⟨rfl, ⟨G, D, G1, D1, sa, rb, rt, rfl, hI, rfl⟩⟩ hP hD hS ⟨by omega, by omega⟩ hx hb hr hlk dL_act_686
            · skip
              have hp1 := q_pl_eq hW (by omega) c390
              refine lv_iconst (v := 1) hx hb dL_act_393 (by decide) ?_
              refine lv_goto (tgt := 398) hx hb dL_act_394 (by decide) ?_
              refine lv_istore (lv' := [(6, .int 1), (9, .int (nI (z_sh G j374))), (8, .ref (rt j374)), (7, .int (nI j28)), (5, .int (nI j17)), (4, .int (nI (z_tc G))), (3, .int (nI (z_bc G))), (0, .ref h), (1, .ref (sa 0)), (2, .int x)]) hx hb dL_act_398 hl (by decide) rfl (fun ls hl => ?_)
              refine lv_iload hx hb dL_act_400 (lv_at hl 0 rfl) ?_
              refine lv_if_eq (tgt := 411) hx hb dL_act_402 (by decide) (fun c402 => absurd c402 (by decide)) (fun c402 => ?_)
              refine lv_aload hx hb dL_act_405 (lv_at hl 2 rfl) ?_
              refine lv_iconst (v := nI 1) hx hb dL_act_407 (by decide) ?_
              refine lv_iload hx hb dL_act_408 (lv_at hl 4 rfl) ?_
              refine q_iast (ws' := z_cW cI h na ta G D G1 D1 ++ q_W cI cR sa rb rt (z_setsh G j374 j17) D) hx hb hK hP hD hS (39 + (4 + (z_bc G + j374))) 0 (q_pre (n := 39) rfl (q_gT (cI := cI) (cR := cR) (sa := sa) (rb := rb) (rt := rt) (G := G) (D := D) (by omega))) rfl (q_spre (n := 39) rfl (q_sT_sh (by omega))) (by decide) (by decide) dL_act_410 (fun H locs hP hD hS => ?_)
              refine lv_aload_n hx hb dL_act_411 rfl (lv_at hl 7 rfl) ?_
              refine lv_iload_n hx hb dL_act_412 rfl (lv_at hl 9 rfl) ?_
              refine lv_bipush (v := nI 6) hx hb dL_act_413 (by decide) ?_
              refine lv_ishr hx hb dL_act_415 ?_
              refine lv_iload hx hb dL_act_416 (lv_at hl 5 rfl) ?_
              refine q_rSi (v := nI (q_bl (x >>> ((nI 6) &&& 31)) (z_tc G))) [.ref h] hx hb hml hown hts (m_L_below l Dg cI cR cZ (x >>> ((nI 6) &&& 31)) (z_tc G) (by omega) (by omega)) gL_act_L_below rfl kdS_L_below ⟨Nat.le_of_ble_eq_true rfl, Nat.le_of_ble_eq_true rfl⟩ hK hN hJ z_P0 rfl rfl hl.1 (Nat.le_of_ble_eq_true rfl) dL_act_418 ⟨by show _ ≤ 41; omega, by show _ ≤ 1300; omega⟩ ?_
              refine z_top (x' := nI j374) (congrArg nI ej374) ?_
              refine lv_iload hx hb dL_act_421 (lv_at hl 4 rfl) ?_
              refine z_wBi (v := nI (z_sh G j374)) [] [] (q_W cI cR sa rb rt (z_setsh G j374 j17) D) 0 hx hb hml hown hts (m_X2_move l Dg cI h na ta G D G1 D1 j374 j17 (by omega) (by omega) hp1 hG hW) gL_act_X2_move rfl kd_X2_move ⟨Nat.le_of_ble_eq_true rfl, Nat.le_of_ble_eq_true rfl⟩ (q_KI hK) hN hP hD hS rfl rfl rfl rfl rfl hl.1 rfl (Nat.le_of_ble_eq_true rfl) dL_act_423 ⟨by show _ ≤ 41; omega, by show _ ≤ 1300; omega⟩ (fun H locs hP hD hS => ?_)
              have hP : va_P Dg vwCl (z_cW cI h na ta (z_setsh G j374 j17) D G1 D1 ++ q_W cI cR sa rb rt (z_setsh G j374 j17) D) H := hP
              have hD : va_D _ (z_cW cI h na ta (z_setsh G j374 j17) D G1 D1 ++ q_W cI cR sa rb rt (z_setsh G j374 j17) D) := hD
              refine lv_iload hx hb dL_act_426 (lv_at hl 1 rfl) ?_
              refine lv_icmp_ne (tgt := 440) hx hb dL_act_428 (by decide) (fun c428 => absurd rfl c428) (fun c428 => ?_)
              refine lv_iload hx hb dL_act_431 (lv_at hl 0 rfl) ?_
              refine lv_if_eq (tgt := 440) hx hb dL_act_433 (by decide) (fun c433 => absurd c433 (by decide)) (fun c433 => ?_)
              refine lv_iconst (v := 1) hx hb dL_act_436 (by decide) ?_
              refine lv_goto (tgt := 441) hx hb dL_act_437 (by decide) ?_
              exact q_ed_z (b := true) (w' := z_cW cI h na ta (z_setsh G j374 j17) D G1 D1 ++ q_W cI cR sa rb rt (z_setsh G j374 j17) D) ⟨rfl, ⟨z_setsh G j374 j17, D, G1, D1, sa, rb, rt, rfl, (q_I_setsh hI (by omega)), rfl⟩⟩ hP hD hS ⟨by omega, by omega⟩ hx hb hr hlk dL_act_441
          · skip
            refine lv_iconst (v := 1) hx hb dL_act_362 (by decide) ?_
            exact q_ed_z (b := true) (w' := z_cW cI h na ta G D G1 D1 ++ q_W cI cR sa rb rt G D) ⟨rfl, ⟨G, D, G1, D1, sa, rb, rt, rfl, hI, rfl⟩⟩ hP hD hS ⟨by omega, by omega⟩ hx hb hr hlk dL_act_363
        subst hg
        exact q_swIn (tgt := 357) (off := 202) hx hb dL_act_155 (by decide) (by decide) rfl (by decide) kk
      · skip
        have kk : W p l e ({ frames := 9, cells := 41, slots := 1300, locals := 154 } : Room) s m ([.ref h, .ref (sa 0), .int x] : List Value).toArray below meth c s.heap [] 0 0 (MQ below (z_Qd (fun o w9 => o = some (.int (z_bI true)) ∧ q_ST cI cR h na ta (sa 0) w9) Dg (z_cW cI h na ta G D G1 D1 ++ q_W cI cR sa rb rt G D) sz) ([.ref h, .ref (sa 0), .int x] : List Value).toArray s 41 1300 (va_A (z_cW cI h na ta G D G1 D1 ++ q_W cI cR sa rb rt G D) sz)) (F0 m 442 ls []) := by
          refine lv_aload_n hx hb dL_act_442 rfl (lv_at hl 6 rfl) ?_
          refine va_get (ci := 3) (v := .ref (sa 1)) (C := RX3) (T := TX3) (N := 6) hx hb hts (fun _ h => (List.mem_cons_of_mem _ (List.mem_append_left _ (List.mem_append_left _ (List.mem_append_left _ (List.mem_append_left _ (List.mem_append_left _ (List.mem_append_left _ (List.mem_append_right _ h))))))))) hown hK hP 39 rfl rfl 0 (by decide) (hts _ (List.mem_cons_of_mem _ (List.mem_append_left _ (List.mem_append_left _ (List.mem_append_left _ (List.mem_append_left _ (List.mem_append_left _ (List.mem_append_left _ (List.mem_append_left _ (List.mem_append_left _ (List.mem_of_getElem? (i := 4) rfl))))))))))) (fun _ h9 => h9) rfl dL_act_443 ?_
          refine lv_iload hx hb dL_act_446 (lv_at hl 2 rfl) ?_
          refine z_iald hx hb hK hP 40 0 rfl rfl (by omega) (by decide) dL_act_448 ?_
          refine z_top (x' := z_wm G j17) rfl ?_
          refine lv_istore (lv' := [(8, .int (z_wm G j17)), (7, .int (nI j28)), (6, .int 1), (5, .int (nI j17)), (4, .int (nI (z_tc G))), (3, .int (nI (z_bc G))), (0, .ref h), (1, .ref (sa 0)), (2, .int x)]) hx hb dL_act_449 hl (by decide) rfl (fun ls hl => ?_)
          refine lv_aload_n hx hb dL_act_451 rfl (lv_at hl 7 rfl) ?_
          refine va_get (ci := 3) (v := .ref (sa 1)) (C := RX3) (T := TX3) (N := 6) hx hb hts (fun _ h => (List.mem_cons_of_mem _ (List.mem_append_left _ (List.mem_append_left _ (List.mem_append_left _ (List.mem_append_left _ (List.mem_append_left _ (List.mem_append_left _ (List.mem_append_right _ h))))))))) hown hK hP 39 rfl rfl 0 (by decide) (hts _ (List.mem_cons_of_mem _ (List.mem_append_left _ (List.mem_append_left _ (List.mem_append_left _ (List.mem_append_left _ (List.mem_append_left _ (List.mem_append_left _ (List.mem_append_left _ (List.mem_append_left _ (List.mem_of_getElem? (i := 4) rfl))))))))))) (fun _ h9 => h9) rfl dL_act_452 ?_
          refine lv_iload hx hb dL_act_455 (lv_at hl 3 rfl) ?_
          refine lv_iload_n hx hb dL_act_457 rfl (lv_at hl 8 rfl) ?_
          refine lv_bipush (v := nI 6) hx hb dL_act_458 (by decide) ?_
          refine lv_ishr hx hb dL_act_460 ?_
          refine lv_iconst (v := nI 4) hx hb dL_act_461 (by decide) ?_
          refine q_rSi (v := nI (q_bl (x >>> ((nI 6) &&& 31)) 4)) [.int (nI j17), .ref (sa 1)] hx hb hml hown hts (m_L_below l Dg cI cR cZ (x >>> ((nI 6) &&& 31)) 4 (by decide) (by decide)) gL_act_L_below rfl kdS_L_below ⟨Nat.le_of_ble_eq_true rfl, Nat.le_of_ble_eq_true rfl⟩ hK hN hJ z_P0 rfl rfl hl.1 (Nat.le_of_ble_eq_true rfl) dL_act_462 ⟨by show _ ≤ 41; omega, by show _ ≤ 1300; omega⟩ ?_
          obtain ⟨j462, hj462, ej462⟩ := q_bl_ex (x >>> ((nI 6) &&& 31)) (k := 4) (by decide)
          refine z_top (x' := nI j462) (congrArg nI ej462) ?_
          refine q_iast (ws' := z_cW cI h na ta G D G1 D1 ++ q_W cI cR sa rb rt (z_setwm G j17 (nI j462)) D) hx hb hK hP hD hS 40 0 rfl rfl rfl (by omega) (by decide) dL_act_465 (fun H locs hP hD hS => ?_)
          refine lv_aload_n hx hb dL_act_466 rfl (lv_at hl 6 rfl) ?_
          refine lv_iload hx hb dL_act_467 (lv_at hl 3 rfl) ?_
          refine lv_aload_n hx hb dL_act_469 rfl (lv_at hl 7 rfl) ?_
          refine va_get (ci := 3) (v := .ref (sa 1)) (C := RX3) (T := TX3) (N := 6) hx hb hts (fun _ h => (List.mem_cons_of_mem _ (List.mem_append_left _ (List.mem_append_left _ (List.mem_append_left _ (List.mem_append_left _ (List.mem_append_left _ (List.mem_append_left _ (List.mem_append_right _ h))))))))) hown hK hP 39 rfl rfl 0 (by decide) (hts _ (List.mem_cons_of_mem _ (List.mem_append_left _ (List.mem_append_left _ (List.mem_append_left _ (List.mem_append_left _ (List.mem_append_left _ (List.mem_append_left _ (List.mem_append_left _ (List.mem_append_left _ (List.mem_of_getElem? (i := 4) rfl))))))))))) (fun _ h9 => h9) rfl dL_act_470 ?_
          refine lv_iload hx hb dL_act_473 (lv_at hl 3 rfl) ?_
          refine z_iald hx hb hK hP 40 0 rfl rfl (by omega) (by decide) dL_act_475 ?_
          refine z_top (x' := z_wm (z_setwm G j17 (nI j462)) j17) rfl ?_
          refine z_top (x' := nI j462) (z_upd_eq _ _ _) ?_
          refine z_wBi (v := z_wm G j17) [] [] (q_W cI cR sa rb rt (z_setwm G j17 (nI j462)) D) 0 hx hb hml hown hts (m_X2_setWarm l Dg cI h na ta G D G1 D1 j17 (nI j462) (by omega) (q_0n (by omega)) (q_3n (by omega)) hG hW) gL_act_X2_setWarm rfl kd_X2_setWarm ⟨Nat.le_of_ble_eq_true rfl, Nat.le_of_ble_eq_true rfl⟩ (q_KI hK) hN hP hD hS rfl rfl rfl rfl rfl hl.1 rfl (Nat.le_of_ble_eq_true rfl) dL_act_476 ⟨by show _ ≤ 41; omega, by show _ ≤ 1300; omega⟩ (fun H locs hP hD hS => ?_)
          have hP : va_P Dg vwCl (z_cW cI h na ta (z_setwm G j17 (nI j462)) D G1 D1 ++ q_W cI cR sa rb rt (z_setwm G j17 (nI j462)) D) H := hP
          have hD : va_D _ (z_cW cI h na ta (z_setwm G j17 (nI j462)) D G1 D1 ++ q_W cI cR sa rb rt (z_setwm G j17 (nI j462)) D) := hD
          refine lv_iload hx hb dL_act_479 (lv_at hl 0 rfl) ?_
          refine lv_icmp_ne (tgt := 488) hx hb dL_act_481 (by decide) (fun c481 => absurd rfl c481) (fun c481 => ?_)
          refine lv_iconst (v := 1) hx hb dL_act_484 (by decide) ?_
          refine lv_goto (tgt := 489) hx hb dL_act_485 (by decide) ?_
          exact q_ed_z (b := true) (w' := z_cW cI h na ta (z_setwm G j17 (nI j462)) D G1 D1 ++ q_W cI cR sa rb rt (z_setwm G j17 (nI j462)) D) ⟨rfl, ⟨z_setwm G j17 (nI j462), D, G1, D1, sa, rb, rt, rfl, (q_I_setwm hI (q_0n (by omega)) (q_3n (by omega))), rfl⟩⟩ hP hD hS ⟨by omega, by omega⟩ hx hb hr hlk dL_act_489
        rcases hg with hg | hg <;> subst hg <;> exact q_swIn (tgt := 442) (off := 287) hx hb dL_act_155 (by decide) (by decide) rfl (by decide) kk
      · skip
        have kk : W p l e ({ frames := 9, cells := 41, slots := 1300, locals := 154 } : Room) s m ([.ref h, .ref (sa 0), .int x] : List Value).toArray below meth c s.heap [] 0 0 (MQ below (z_Qd (fun o w9 => o = some (.int (z_bI true)) ∧ q_ST cI cR h na ta (sa 0) w9) Dg (z_cW cI h na ta G D G1 D1 ++ q_W cI cR sa rb rt G D) sz) ([.ref h, .ref (sa 0), .int x] : List Value).toArray s 41 1300 (va_A (z_cW cI h na ta G D G1 D1 ++ q_W cI cR sa rb rt G D) sz)) (F0 m 490 ls []) := by
          refine lv_aload_n hx hb dL_act_490 rfl (lv_at hl 6 rfl) ?_
          refine va_get (ci := 3) (v := .int (nI (z_sd G))) (C := RX3) (T := TX3) (N := 6) hx hb hts (fun _ h => (List.mem_cons_of_mem _ (List.mem_append_left _ (List.mem_append_left _ (List.mem_append_left _ (List.mem_append_left _ (List.mem_append_left _ (List.mem_append_left _ (List.mem_append_right _ h))))))))) hown hK hP 39 rfl rfl 3 (by decide) (hts _ (List.mem_cons_of_mem _ (List.mem_append_left _ (List.mem_append_left _ (List.mem_append_left _ (List.mem_append_left _ (List.mem_append_left _ (List.mem_append_left _ (List.mem_append_left _ (List.mem_append_left _ (List.mem_of_getElem? (i := 5) rfl))))))))))) (fun _ h9 => h9) rfl dL_act_491 ?_
          refine lv_istore (lv' := [(8, .int (nI (z_sd G))), (7, .int (nI j28)), (6, .int 1), (5, .int (nI j17)), (4, .int (nI (z_tc G))), (3, .int (nI (z_bc G))), (0, .ref h), (1, .ref (sa 0)), (2, .int x)]) hx hb dL_act_494 hl (by decide) rfl (fun ls hl => ?_)
          refine lv_aload_n hx hb dL_act_496 rfl (lv_at hl 7 rfl) ?_
          refine lv_iload_n hx hb dL_act_497 rfl (lv_at hl 8 rfl) ?_
          refine lv_bipush (v := nI 6) hx hb dL_act_498 (by decide) ?_
          refine lv_ishr hx hb dL_act_500 ?_
          refine lv_iload_n hx hb dL_act_501 rfl (lv_at hl 8 rfl) ?_
          refine lv_bipush (v := nI 9) hx hb dL_act_502 (by decide) ?_
          refine lv_ishr hx hb dL_act_504 ?_
          refine lv_iconst (v := nI 3) hx hb dL_act_505 (by decide) ?_
          refine q_rSi (v := nI (q_bl (x >>> ((nI 9) &&& 31)) 3)) [.int (x >>> ((nI 6) &&& 31)), .ref (sa 0)] hx hb hml hown hts (m_L_below l Dg cI cR cZ (x >>> ((nI 9) &&& 31)) 3 (by decide) (by decide)) gL_act_L_below rfl kdS_L_below ⟨Nat.le_of_ble_eq_true rfl, Nat.le_of_ble_eq_true rfl⟩ hK hN hJ z_P0 rfl rfl hl.1 (Nat.le_of_ble_eq_true rfl) dL_act_506 ⟨by show _ ≤ 41; omega, by show _ ≤ 1300; omega⟩ ?_
          obtain ⟨j506, hj506, ej506⟩ := q_bl_ex (x >>> ((nI 9) &&& 31)) (k := 3) (by decide)
          refine z_top (x' := nI j506) (congrArg nI ej506) ?_
          refine lv_if_ne (tgt := 517) hx hb dL_act_509 (by decide) (fun c509 => ?_) (fun c509 => ?_)
          · skip
            refine lv_iconst (v := nI 3) hx hb dL_act_517 (by decide) ?_
            refine q_rSi (v := nI (q_bl (x >>> ((nI 6) &&& 31)) 3)) [.ref (sa 0)] hx hb hml hown hts (m_L_below l Dg cI cR cZ (x >>> ((nI 6) &&& 31)) 3 (by decide) (by decide)) gL_act_L_below rfl kdS_L_below ⟨Nat.le_of_ble_eq_true rfl, Nat.le_of_ble_eq_true rfl⟩ hK hN hJ z_P0 rfl rfl hl.1 (Nat.le_of_ble_eq_true rfl) dL_act_518 ⟨by show _ ≤ 41; omega, by show _ ≤ 1300; omega⟩ ?_
            obtain ⟨j518, hj518, ej518⟩ := q_bl_ex (x >>> ((nI 6) &&& 31)) (k := 3) (by decide)
            refine z_top (x' := nI j518) (congrArg nI ej518) ?_
            refine va_put (ci := 3) (v := .int (nI j518)) (ty := .int) (C := RX3) (T := TX3) (N := 6) hx hb hts (fun _ h => (List.mem_cons_of_mem _ (List.mem_append_left _ (List.mem_append_left _ (List.mem_append_left _ (List.mem_append_left _ (List.mem_append_left _ (List.mem_append_left _ (List.mem_append_right _ h))))))))) tyX3 tyX3_ok nmX3 hown hK hP hD hS 39 rfl rfl 3 (by decide) (hts _ (List.mem_cons_of_mem _ (List.mem_append_left _ (List.mem_append_left _ (List.mem_append_left _ (List.mem_append_left _ (List.mem_append_left _ (List.mem_append_left _ (List.mem_append_left _ (List.mem_append_left _ (List.mem_of_getElem? (i := 5) rfl))))))))))) (fun _ h9 => h9) rfl (by decide +kernel) rfl rfl (Nat.le_of_ble_eq_true rfl) dL_act_521 (fun H locs hP hD hS => ?_)
            have hP : va_P Dg vwCl (z_cW cI h na ta G D G1 D1 ++ q_W cI cR sa rb rt (z_ship G j518 (z_od G)) D) H := hP
            have hD : va_D _ (z_cW cI h na ta G D G1 D1 ++ q_W cI cR sa rb rt (z_ship G j518 (z_od G)) D) := hD
            refine lv_aload_n hx hb dL_act_524 rfl (lv_at hl 7 rfl) ?_
            refine lv_iload_n hx hb dL_act_525 rfl (lv_at hl 8 rfl) ?_
            refine lv_iconst (v := nI 5) hx hb dL_act_526 (by decide) ?_
            refine lv_ishr hx hb dL_act_527 ?_
            refine lv_iconst (v := nI 3) hx hb dL_act_528 (by decide) ?_
            refine q_rSi (v := nI (q_bl (x >>> ((nI 5) &&& 31)) 3)) [.ref (sa 0)] hx hb hml hown hts (m_L_below l Dg cI cR cZ (x >>> ((nI 5) &&& 31)) 3 (by decide) (by decide)) gL_act_L_below rfl kdS_L_below ⟨Nat.le_of_ble_eq_true rfl, Nat.le_of_ble_eq_true rfl⟩ hK hN hJ z_P0 rfl rfl hl.1 (Nat.le_of_ble_eq_true rfl) dL_act_529 ⟨by show _ ≤ 41; omega, by show _ ≤ 1300; omega⟩ ?_
            obtain ⟨j529, hj529, ej529⟩ := q_bl_ex (x >>> ((nI 5) &&& 31)) (k := 3) (by decide)
            refine z_top (x' := nI j529) (congrArg nI ej529) ?_
            refine va_put (ci := 3) (v := .int (nI j529)) (ty := .int) (C := RX3) (T := TX3) (N := 6) hx hb hts (fun _ h => (List.mem_cons_of_mem _ (List.mem_append_left _ (List.mem_append_left _ (List.mem_append_left _ (List.mem_append_left _ (List.mem_append_left _ (List.mem_append_left _ (List.mem_append_right _ h))))))))) tyX3 tyX3_ok nmX3 hown hK hP hD hS 39 rfl rfl 4 (by decide) (hts _ (List.mem_cons_of_mem _ (List.mem_append_left _ (List.mem_append_left _ (List.mem_append_left _ (List.mem_append_left _ (List.mem_append_left _ (List.mem_append_left _ (List.mem_append_left _ (List.mem_append_left _ (List.mem_of_getElem? (i := 6) rfl))))))))))) (fun _ h9 => h9) rfl (by decide +kernel) rfl rfl (Nat.le_of_ble_eq_true rfl) dL_act_532 (fun H locs hP hD hS => ?_)
            have hP : va_P Dg vwCl (z_cW cI h na ta G D G1 D1 ++ q_W cI cR sa rb rt (z_ship G j518 j529) D) H := hP
            have hD : va_D _ (z_cW cI h na ta G D G1 D1 ++ q_W cI cR sa rb rt (z_ship G j518 j529) D) := hD
            refine lv_aload_n hx hb dL_act_535 rfl (lv_at hl 6 rfl) ?_
            refine lv_aload_n hx hb dL_act_536 rfl (lv_at hl 7 rfl) ?_
            refine va_get (ci := 3) (v := .int (nI (z_sd (z_ship G j518 j529)))) (C := RX3) (T := TX3) (N := 6) hx hb hts (fun _ h => (List.mem_cons_of_mem _ (List.mem_append_left _ (List.mem_append_left _ (List.mem_append_left _ (List.mem_append_left _ (List.mem_append_left _ (List.mem_append_left _ (List.mem_append_right _ h))))))))) hown hK hP 39 rfl rfl 3 (by decide) (hts _ (List.mem_cons_of_mem _ (List.mem_append_left _ (List.mem_append_left _ (List.mem_append_left _ (List.mem_append_left _ (List.mem_append_left _ (List.mem_append_left _ (List.mem_append_left _ (List.mem_append_left _ (List.mem_of_getElem? (i := 5) rfl))))))))))) (fun _ h9 => h9) rfl dL_act_537 ?_
            refine z_top (x' := nI j518) rfl ?_
            refine lv_aload_n hx hb dL_act_540 rfl (lv_at hl 7 rfl) ?_
            refine va_get (ci := 3) (v := .int (nI (z_od (z_ship G j518 j529)))) (C := RX3) (T := TX3) (N := 6) hx hb hts (fun _ h => (List.mem_cons_of_mem _ (List.mem_append_left _ (List.mem_append_left _ (List.mem_append_left _ (List.mem_append_left _ (List.mem_append_left _ (List.mem_append_left _ (List.mem_append_right _ h))))))))) hown hK hP 39 rfl rfl 4 (by decide) (hts _ (List.mem_cons_of_mem _ (List.mem_append_left _ (List.mem_append_left _ (List.mem_append_left _ (List.mem_append_left _ (List.mem_append_left _ (List.mem_append_left _ (List.mem_append_left _ (List.mem_append_left _ (List.mem_of_getElem? (i := 6) rfl))))))))))) (fun _ h9 => h9) rfl dL_act_541 ?_
            refine z_top (x' := nI j529) rfl ?_
            refine z_wBi (v := nI (z_sd G)) [] [] (q_W cI cR sa rb rt (z_ship G j518 j529) D) 0 hx hb hml hown hts (m_X2_setShipping l Dg cI h na ta G D G1 D1 j518 j529 (by omega) (by omega) hG hW) gL_act_X2_setShipping rfl kd_X2_setShipping ⟨Nat.le_of_ble_eq_true rfl, Nat.le_of_ble_eq_true rfl⟩ (q_KI hK) hN hP hD hS rfl rfl rfl rfl rfl hl.1 rfl (Nat.le_of_ble_eq_true rfl) dL_act_544 ⟨by show _ ≤ 41; omega, by show _ ≤ 1300; omega⟩ (fun H locs hP hD hS => ?_)
            have hP : va_P Dg vwCl (z_cW cI h na ta (z_ship G j518 j529) D G1 D1 ++ q_W cI cR sa rb rt (z_ship G j518 j529) D) H := hP
            have hD : va_D _ (z_cW cI h na ta (z_ship G j518 j529) D G1 D1 ++ q_W cI cR sa rb rt (z_ship G j518 j529) D) := hD
            refine lv_iload hx hb dL_act_547 (lv_at hl 0 rfl) ?_
            refine lv_icmp_ne (tgt := 556) hx hb dL_act_549 (by decide) (fun c549 => absurd rfl c549) (fun c549 => ?_)
            refine lv_iconst (v := 1) hx hb dL_act_552 (by decide) ?_
            refine lv_goto (tgt := 557) hx hb dL_act_553 (by decide) ?_
            exact q_ed_z (b := true) (w' := z_cW cI h na ta (z_ship G j518 j529) D G1 D1 ++ q_W cI cR sa rb rt (z_ship G j518 j529) D) ⟨rfl, ⟨z_ship G j518 j529, D, G1, D1, sa, rb, rt, rfl, (q_I_ship hI (by omega) (by omega)), rfl⟩⟩ hP hD hS ⟨by omega, by omega⟩ hx hb hr hlk dL_act_557
          · skip
            refine lv_bipush (v := nI 10) hx hb dL_act_512 (by decide) ?_
            refine lv_goto (tgt := 518) hx hb dL_act_514 (by decide) ?_
            refine q_rSi (v := nI (q_bl (x >>> ((nI 6) &&& 31)) 10)) [.ref (sa 0)] hx hb hml hown hts (m_L_below l Dg cI cR cZ (x >>> ((nI 6) &&& 31)) 10 (by decide) (by decide)) gL_act_L_below rfl kdS_L_below ⟨Nat.le_of_ble_eq_true rfl, Nat.le_of_ble_eq_true rfl⟩ hK hN hJ z_P0 rfl rfl hl.1 (Nat.le_of_ble_eq_true rfl) dL_act_518 ⟨by show _ ≤ 41; omega, by show _ ≤ 1300; omega⟩ ?_
            obtain ⟨j518, hj518, ej518⟩ := q_bl_ex (x >>> ((nI 6) &&& 31)) (k := 10) (by decide)
            refine z_top (x' := nI j518) (congrArg nI ej518) ?_
            refine va_put (ci := 3) (v := .int (nI j518)) (ty := .int) (C := RX3) (T := TX3) (N := 6) hx hb hts (fun _ h => (List.mem_cons_of_mem _ (List.mem_append_left _ (List.mem_append_left _ (List.mem_append_left _ (List.mem_append_left _ (List.mem_append_left _ (List.mem_append_left _ (List.mem_append_right _ h))))))))) tyX3 tyX3_ok nmX3 hown hK hP hD hS 39 rfl rfl 3 (by decide) (hts _ (List.mem_cons_of_mem _ (List.mem_append_left _ (List.mem_append_left _ (List.mem_append_left _ (List.mem_append_left _ (List.mem_append_left _ (List.mem_append_left _ (List.mem_append_left _ (List.mem_append_left _ (List.mem_of_getElem? (i := 5) rfl))))))))))) (fun _ h9 => h9) rfl (by decide +kernel) rfl rfl (Nat.le_of_ble_eq_true rfl) dL_act_521 (fun H locs hP hD hS => ?_)
            have hP : va_P Dg vwCl (z_cW cI h na ta G D G1 D1 ++ q_W cI cR sa rb rt (z_ship G j518 (z_od G)) D) H := hP
            have hD : va_D _ (z_cW cI h na ta G D G1 D1 ++ q_W cI cR sa rb rt (z_ship G j518 (z_od G)) D) := hD
            refine lv_aload_n hx hb dL_act_524 rfl (lv_at hl 7 rfl) ?_
            refine lv_iload_n hx hb dL_act_525 rfl (lv_at hl 8 rfl) ?_
            refine lv_iconst (v := nI 5) hx hb dL_act_526 (by decide) ?_
            refine lv_ishr hx hb dL_act_527 ?_
            refine lv_iconst (v := nI 3) hx hb dL_act_528 (by decide) ?_
            refine q_rSi (v := nI (q_bl (x >>> ((nI 5) &&& 31)) 3)) [.ref (sa 0)] hx hb hml hown hts (m_L_below l Dg cI cR cZ (x >>> ((nI 5) &&& 31)) 3 (by decide) (by decide)) gL_act_L_below rfl kdS_L_below ⟨Nat.le_of_ble_eq_true rfl, Nat.le_of_ble_eq_true rfl⟩ hK hN hJ z_P0 rfl rfl hl.1 (Nat.le_of_ble_eq_true rfl) dL_act_529 ⟨by show _ ≤ 41; omega, by show _ ≤ 1300; omega⟩ ?_
            obtain ⟨j529, hj529, ej529⟩ := q_bl_ex (x >>> ((nI 5) &&& 31)) (k := 3) (by decide)
            refine z_top (x' := nI j529) (congrArg nI ej529) ?_
            refine va_put (ci := 3) (v := .int (nI j529)) (ty := .int) (C := RX3) (T := TX3) (N := 6) hx hb hts (fun _ h => (List.mem_cons_of_mem _ (List.mem_append_left _ (List.mem_append_left _ (List.mem_append_left _ (List.mem_append_left _ (List.mem_append_left _ (List.mem_append_left _ (List.mem_append_right _ h))))))))) tyX3 tyX3_ok nmX3 hown hK hP hD hS 39 rfl rfl 4 (by decide) (hts _ (List.mem_cons_of_mem _ (List.mem_append_left _ (List.mem_append_left _ (List.mem_append_left _ (List.mem_append_left _ (List.mem_append_left _ (List.mem_append_left _ (List.mem_append_left _ (List.mem_append_left _ (List.mem_of_getElem? (i := 6) rfl))))))))))) (fun _ h9 => h9) rfl (by decide +kernel) rfl rfl (Nat.le_of_ble_eq_true rfl) dL_act_532 (fun H locs hP hD hS => ?_)
            have hP : va_P Dg vwCl (z_cW cI h na ta G D G1 D1 ++ q_W cI cR sa rb rt (z_ship G j518 j529) D) H := hP
            have hD : va_D _ (z_cW cI h na ta G D G1 D1 ++ q_W cI cR sa rb rt (z_ship G j518 j529) D) := hD
            refine lv_aload_n hx hb dL_act_535 rfl (lv_at hl 6 rfl) ?_
            refine lv_aload_n hx hb dL_act_536 rfl (lv_at hl 7 rfl) ?_
            refine va_get (ci := 3) (v := .int (nI (z_sd (z_ship G j518 j529)))) (C := RX3) (T := TX3) (N := 6) hx hb hts (fun _ h => (List.mem_cons_of_mem _ (List.mem_append_left _ (List.mem_append_left _ (List.mem_append_left _ (List.mem_append_left _ (List.mem_append_left _ (List.mem_append_left _ (List.mem_append_right _ h))))))))) hown hK hP 39 rfl rfl 3 (by decide) (hts _ (List.mem_cons_of_mem _ (List.mem_append_left _ (List.mem_append_left _ (List.mem_append_left _ (List.mem_append_left _ (List.mem_append_left _ (List.mem_append_left _ (List.mem_append_left _ (List.mem_append_left _ (List.mem_of_getElem? (i := 5) rfl))))))))))) (fun _ h9 => h9) rfl dL_act_537 ?_
            refine z_top (x' := nI j518) rfl ?_
            refine lv_aload_n hx hb dL_act_540 rfl (lv_at hl 7 rfl) ?_
            refine va_get (ci := 3) (v := .int (nI (z_od (z_ship G j518 j529)))) (C := RX3) (T := TX3) (N := 6) hx hb hts (fun _ h => (List.mem_cons_of_mem _ (List.mem_append_left _ (List.mem_append_left _ (List.mem_append_left _ (List.mem_append_left _ (List.mem_append_left _ (List.mem_append_left _ (List.mem_append_right _ h))))))))) hown hK hP 39 rfl rfl 4 (by decide) (hts _ (List.mem_cons_of_mem _ (List.mem_append_left _ (List.mem_append_left _ (List.mem_append_left _ (List.mem_append_left _ (List.mem_append_left _ (List.mem_append_left _ (List.mem_append_left _ (List.mem_append_left _ (List.mem_of_getElem? (i := 6) rfl))))))))))) (fun _ h9 => h9) rfl dL_act_541 ?_
            refine z_top (x' := nI j529) rfl ?_
            refine z_wBi (v := nI (z_sd G)) [] [] (q_W cI cR sa rb rt (z_ship G j518 j529) D) 0 hx hb hml hown hts (m_X2_setShipping l Dg cI h na ta G D G1 D1 j518 j529 (by omega) (by omega) hG hW) gL_act_X2_setShipping rfl kd_X2_setShipping ⟨Nat.le_of_ble_eq_true rfl, Nat.le_of_ble_eq_true rfl⟩ (q_KI hK) hN hP hD hS rfl rfl rfl rfl rfl hl.1 rfl (Nat.le_of_ble_eq_true rfl) dL_act_544 ⟨by show _ ≤ 41; omega, by show _ ≤ 1300; omega⟩ (fun H locs hP hD hS => ?_)
            have hP : va_P Dg vwCl (z_cW cI h na ta (z_ship G j518 j529) D G1 D1 ++ q_W cI cR sa rb rt (z_ship G j518 j529) D) H := hP
            have hD : va_D _ (z_cW cI h na ta (z_ship G j518 j529) D G1 D1 ++ q_W cI cR sa rb rt (z_ship G j518 j529) D) := hD
            refine lv_iload hx hb dL_act_547 (lv_at hl 0 rfl) ?_
            refine lv_icmp_ne (tgt := 556) hx hb dL_act_549 (by decide) (fun c549 => absurd rfl c549) (fun c549 => ?_)
            refine lv_iconst (v := 1) hx hb dL_act_552 (by decide) ?_
            refine lv_goto (tgt := 557) hx hb dL_act_553 (by decide) ?_
            exact q_ed_z (b := true) (w' := z_cW cI h na ta (z_ship G j518 j529) D G1 D1 ++ q_W cI cR sa rb rt (z_ship G j518 j529) D) ⟨rfl, ⟨z_ship G j518 j529, D, G1, D1, sa, rb, rt, rfl, (q_I_ship hI (by omega) (by omega)), rfl⟩⟩ hP hD hS ⟨by omega, by omega⟩ hx hb hr hlk dL_act_557
        rcases hg with hg | hg <;> subst hg <;> exact q_swIn (tgt := 490) (off := 335) hx hb dL_act_155 (by decide) (by decide) rfl (by decide) kk
      · skip
        have kk : W p l e ({ frames := 9, cells := 41, slots := 1300, locals := 154 } : Room) s m ([.ref h, .ref (sa 0), .int x] : List Value).toArray below meth c s.heap [] 0 0 (MQ below (z_Qd (fun o w9 => o = some (.int (z_bI true)) ∧ q_ST cI cR h na ta (sa 0) w9) Dg (z_cW cI h na ta G D G1 D1 ++ q_W cI cR sa rb rt G D) sz) ([.ref h, .ref (sa 0), .int x] : List Value).toArray s 41 1300 (va_A (z_cW cI h na ta G D G1 D1 ++ q_W cI cR sa rb rt G D) sz)) (F0 m 558 ls []) := by
          refine lv_iload_n hx hb dL_act_558 rfl (lv_at hl 7 rfl) ?_
          refine lv_bipush (v := nI 7) hx hb dL_act_559 (by decide) ?_
          refine lv_ishr hx hb dL_act_561 ?_
          refine lv_iconst (v := nI 3) hx hb dL_act_562 (by decide) ?_
          refine q_rSi (v := nI (q_bl (x >>> ((nI 7) &&& 31)) 3)) [] hx hb hml hown hts (m_L_below l Dg cI cR cZ (x >>> ((nI 7) &&& 31)) 3 (by decide) (by decide)) gL_act_L_below rfl kdS_L_below ⟨Nat.le_of_ble_eq_true rfl, Nat.le_of_ble_eq_true rfl⟩ hK hN hJ z_P0 rfl rfl hl.1 (Nat.le_of_ble_eq_true rfl) dL_act_563 ⟨by show _ ≤ 41; omega, by show _ ≤ 1300; omega⟩ ?_
          obtain ⟨j563, hj563, ej563⟩ := q_bl_ex (x >>> ((nI 7) &&& 31)) (k := 3) (by decide)
          refine z_top (x' := nI j563) (congrArg nI ej563) ?_
          refine lv_if_le (tgt := 571) hx hb dL_act_566 (by decide) (fun c566 => ?_) (fun c566 => ?_)
          · skip
            refine lv_iload_n hx hb dL_act_571 rfl (lv_at hl 7 rfl) ?_
            refine lv_iconst (v := nI 3) hx hb dL_act_572 (by decide) ?_
            refine lv_ishr hx hb dL_act_573 ?_
            refine lv_iload_n hx hb dL_act_574 rfl (lv_at hl 4 rfl) ?_
            refine q_rSi (v := nI (q_bl (x >>> ((nI 3) &&& 31)) (z_bc G))) [] hx hb hml hown hts (m_L_below l Dg cI cR cZ (x >>> ((nI 3) &&& 31)) (z_bc G) (by omega) (by omega)) gL_act_L_below rfl kdS_L_below ⟨Nat.le_of_ble_eq_true rfl, Nat.le_of_ble_eq_true rfl⟩ hK hN hJ z_P0 rfl rfl hl.1 (Nat.le_of_ble_eq_true rfl) dL_act_575 ⟨by show _ ≤ 41; omega, by show _ ≤ 1300; omega⟩ ?_
            obtain ⟨j575, hj575, ej575⟩ := q_bl_ex (x >>> ((nI 3) &&& 31)) (k := z_bc G) (by omega)
            refine z_top (x' := nI j575) (congrArg nI ej575) ?_
            refine lv_istore (lv' := [(8, .int (nI j575)), (7, .int (nI j28)), (6, .int 1), (5, .int (nI j17)), (4, .int (nI (z_tc G))), (3, .int (nI (z_bc G))), (0, .ref h), (1, .ref (sa 0)), (2, .int x)]) hx hb dL_act_578 hl (by decide) rfl (fun ls hl => ?_)
            refine lv_aload_n hx hb dL_act_580 rfl (lv_at hl 7 rfl) ?_
            refine va_get (ci := 3) (v := .ref (sa 2)) (C := RX3) (T := TX3) (N := 6) hx hb hts (fun _ h => (List.mem_cons_of_mem _ (List.mem_append_left _ (List.mem_append_left _ (List.mem_append_left _ (List.mem_append_left _ (List.mem_append_left _ (List.mem_append_left _ (List.mem_append_right _ h))))))))) hown hK hP 39 rfl rfl 1 (by decide) (hts _ (List.mem_cons_of_mem _ (List.mem_append_left _ (List.mem_append_left _ (List.mem_append_left _ (List.mem_append_left _ (List.mem_append_left _ (List.mem_append_left _ (List.mem_append_left _ (List.mem_append_left _ (List.mem_of_getElem? (i := 1) rfl))))))))))) (fun _ h9 => h9) rfl dL_act_581 ?_
            refine lv_iload hx hb dL_act_584 (lv_at hl 0 rfl) ?_
            refine q_aald (v := rb j575) hx hb hK hP 41 rfl (by omega) (by omega) rfl dL_act_586 ?_
            refine lv_iconst (v := nI 3) hx hb dL_act_587 (by decide) ?_
            refine z_iald hx hb hK hP (39 + (4 + j575)) 0 (q_pre (n := 39) rfl (q_gB (cI := cI) (cR := cR) (sa := sa) (rb := rb) (rt := rt) (G := G) (D := D) (by omega))) rfl (by decide) (by decide) dL_act_588 ?_
            refine z_top (x' := z_bI (z_rc D j575)) rfl ?_
            refine lv_if_ne (tgt := 596) hx hb dL_act_589 (by decide) (fun c589 => ?_) (fun c589 => ?_)
            · skip
              have hrc := z_bI1 c589
              refine lv_iconst (v := 0) hx hb dL_act_596 (by decide) ?_
              refine lv_istore (lv' := [(6, .int 0), (8, .int (nI j575)), (7, .int (nI j28)), (5, .int (nI j17)), (4, .int (nI (z_tc G))), (3, .int (nI (z_bc G))), (0, .ref h), (1, .ref (sa 0)), (2, .int x)]) hx hb dL_act_597 hl (by decide) rfl (fun ls hl => ?_)
              refine lv_aload_n hx hb dL_act_599 rfl (lv_at hl 6 rfl) ?_
              refine lv_iload hx hb dL_act_600 (lv_at hl 1 rfl) ?_
              refine q_cX (E := "java/lang/IllegalStateException") [] hst hx hb hml hown hts (m_X2_recall_x2 l hst Dg cI h na ta G D G1 D1 j575 (by omega) hrc hG hW) gL_act_X2_recall rfl kd_X2_recall ⟨Nat.le_of_ble_eq_true rfl, Nat.le_of_ble_eq_true rfl⟩ hK hN hE hTA hP hS rfl hl.1 rfl (Nat.le_of_ble_eq_true rfl) dL_act_602 ⟨by show _ ≤ 41; omega, by show _ ≤ 1300; omega⟩ (fun ce q9 H hP hS hc1 hc2 hc3 => ?_)
              refine vx_catch (own := RL) (name := "java/lang/IllegalStateException") (E := "java/lang/IllegalStateException") hown [⟨25, 152, 674, 66⟩, ⟨153, 356, 674, 66⟩, ⟨357, 363, 674, 66⟩, ⟨364, 441, 674, 66⟩, ⟨442, 489, 674, 66⟩, ⟨490, 557, 674, 66⟩, ⟨558, 570, 674, 66⟩] ⟨571, 624, 674, 66⟩ [⟨625, 673, 674, 66⟩] htab (fun z hz => Or.inl ((by decide : ∀ z ∈ ([⟨25, 152, 674, 66⟩, ⟨153, 356, 674, 66⟩, ⟨357, 363, 674, 66⟩, ⟨364, 441, 674, 66⟩, ⟨442, 489, 674, 66⟩, ⟨490, 557, 674, 66⟩, ⟨558, 570, 674, 66⟩] : List ExceptionTableEntry), covers z 602 = false) z hz)) rfl (by decide) (hts _ (List.mem_cons_of_mem _ (List.mem_append_left _ (List.mem_append_left _ (List.mem_append_left _ (List.mem_append_left _ (List.mem_append_left _ (List.mem_append_left _ (List.mem_append_left _ (List.mem_append_left _ (List.mem_of_getElem? (i := 0) rfl))))))))))) (va_Nw.use rfl hE.2.2.2.2.2.2.2.2.2.2.2.2.2.2.1) hc1 hc2 hc3 ?_
              have hP : va_P Dg vwCl (z_cW cI h na ta G D G1 D1 ++ q_W cI cR sa rb rt G D) H := hP
              refine lv_astore (lv' := [(7, .ref q9), (6, .int 0), (8, .int (nI j575)), (5, .int (nI j17)), (4, .int (nI (z_tc G))), (3, .int (nI (z_bc G))), (0, .ref h), (1, .ref (sa 0)), (2, .int x)]) hx hb dL_act_674 hl (by decide) rfl (fun ls hl => ?_)
              refine lv_iload hx hb dL_act_676 (lv_at hl 1 rfl) ?_
              refine lv_if_ne (tgt := 685) hx hb dL_act_678 (by decide) (fun c678 => absurd rfl c678) (fun c678 => ?_)
              refine lv_iconst (v := 1) hx hb dL_act_681 (by decide) ?_
              refine lv_goto (tgt := 686) hx hb dL_act_682 (by decide) ?_
              exact q_ed_z (b := true) (w' := z_cW cI h na ta G D G1 D1 ++ q_W cI cR sa rb rt G D) ⟨rfl, ⟨G, D, G1, D1, sa, rb, rt, rfl, hI, rfl⟩⟩ hP hD hS ⟨by omega, by omega⟩ hx hb hr hlk dL_act_686
            · skip
              have hrc := z_bI0 c589
              refine lv_iconst (v := 1) hx hb dL_act_592 (by decide) ?_
              refine lv_goto (tgt := 597) hx hb dL_act_593 (by decide) ?_
              refine lv_istore (lv' := [(6, .int 1), (8, .int (nI j575)), (7, .int (nI j28)), (5, .int (nI j17)), (4, .int (nI (z_tc G))), (3, .int (nI (z_bc G))), (0, .ref h), (1, .ref (sa 0)), (2, .int x)]) hx hb dL_act_597 hl (by decide) rfl (fun ls hl => ?_)
              refine lv_aload_n hx hb dL_act_599 rfl (lv_at hl 6 rfl) ?_
              refine lv_iload hx hb dL_act_600 (lv_at hl 1 rfl) ?_
              refine z_wBi (v := nI (z_rb G j575 D).1) [] [] (q_W cI cR sa rb rt G D) 0 hx hb hml hown hts (m_X2_recall l Dg cI h na ta G D G1 D1 j575 (by omega) hrc hG hW) gL_act_X2_recall rfl kd_X2_recall ⟨Nat.le_of_ble_eq_true rfl, Nat.le_of_ble_eq_true rfl⟩ (q_KI hK) hN hP hD hS rfl rfl rfl rfl rfl hl.1 rfl (Nat.le_of_ble_eq_true rfl) dL_act_602 ⟨by show _ ≤ 41; omega, by show _ ≤ 1300; omega⟩ (fun H locs hP hD hS => ?_)
              have hP : va_P Dg vwCl (z_cW cI h na ta G ((z_rb G j575 D).2) G1 D1 ++ q_W cI cR sa rb rt G D) H := hP
              have hD : va_D _ (z_cW cI h na ta G ((z_rb G j575 D).2) G1 D1 ++ q_W cI cR sa rb rt G D) := hD
              refine lv_aload_n hx hb dL_act_605 rfl (lv_at hl 7 rfl) ?_
              refine lv_iload hx hb dL_act_606 (lv_at hl 1 rfl) ?_
              refine q_wVi (v := nI (z_rb G j575 D).1) (pre := z_cW cI h na ta G ((z_rb G j575 D).2) G1 D1) (post := []) [.int (nI (z_rb G j575 D).1)] hx hb hml hown hts (m_X3_recall l Dg cI cR cZ sa rb rt G D j575 (by omega) hG hW hB) gL_act_X3_recall rfl kd_X3_recall ⟨Nat.le_of_ble_eq_true rfl, Nat.le_of_ble_eq_true rfl⟩ hK hN hJ (q_nilP (pre := z_cW cI h na ta G ((z_rb G j575 D).2) G1 D1) hP) (q_nilD (pre := z_cW cI h na ta G ((z_rb G j575 D).2) G1 D1) hD) hS (q_fst rfl rfl) rfl rfl rfl rfl rfl hl.1 (Nat.le_of_ble_eq_true rfl) dL_act_608 ⟨by show _ ≤ 41; omega, by show _ ≤ 1300; omega⟩ (fun H locs hP hD hS => ?_)
              rw [List.append_nil] at hP hD
              have hP : va_P Dg vwCl (z_cW cI h na ta G ((z_rb G j575 D).2) G1 D1 ++ q_W cI cR sa rb rt G ((z_rb G j575 D).2)) H := hP
              have hD : va_D _ (z_cW cI h na ta G ((z_rb G j575 D).2) G1 D1 ++ q_W cI cR sa rb rt G ((z_rb G j575 D).2)) := hD
              refine lv_icmp_ne (tgt := 623) hx hb dL_act_611 (by decide) (fun c611 => absurd rfl c611) (fun c611 => ?_)
              refine lv_iload hx hb dL_act_614 (lv_at hl 0 rfl) ?_
              refine lv_if_eq (tgt := 623) hx hb dL_act_616 (by decide) (fun c616 => absurd c616 (by decide)) (fun c616 => ?_)
              refine lv_iconst (v := 1) hx hb dL_act_619 (by decide) ?_
              refine lv_goto (tgt := 624) hx hb dL_act_620 (by decide) ?_
              exact q_ed_z (b := true) (w' := z_cW cI h na ta G ((z_rb G j575 D).2) G1 D1 ++ q_W cI cR sa rb rt G ((z_rb G j575 D).2)) ⟨rfl, ⟨G, (z_rb G j575 D).2, G1, D1, sa, rb, rt, rfl, (q_I_rb hI (by omega)), rfl⟩⟩ hP hD hS ⟨by omega, by omega⟩ hx hb hr hlk dL_act_624
          · skip
            refine lv_iconst (v := 1) hx hb dL_act_569 (by decide) ?_
            exact q_ed_z (b := true) (w' := z_cW cI h na ta G D G1 D1 ++ q_W cI cR sa rb rt G D) ⟨rfl, ⟨G, D, G1, D1, sa, rb, rt, rfl, hI, rfl⟩⟩ hP hD hS ⟨by omega, by omega⟩ hx hb hr hlk dL_act_570
        subst hg
        exact q_swIn (tgt := 558) (off := 403) hx hb dL_act_155 (by decide) (by decide) rfl (by decide) kk
      · skip
        refine lv_tableOut (tgt := 625) hx hb dL_act_155 (by rw [nI_toInt (by omega)]; omega) (by decide) ?_
        refine lv_iconst (v := nI 1) hx hb dL_act_625 (by decide) ?_
        refine lv_iload_n hx hb dL_act_626 rfl (lv_at hl 7 rfl) ?_
        refine lv_iconst (v := nI 4) hx hb dL_act_627 (by decide) ?_
        refine lv_ishr hx hb dL_act_628 ?_
        refine lv_iload_n hx hb dL_act_629 rfl (lv_at hl 7 rfl) ?_
        refine lv_bipush (v := nI 8) hx hb dL_act_630 (by decide) ?_
        refine lv_ishr hx hb dL_act_632 ?_
        refine lv_bipush (v := nI 8) hx hb dL_act_633 (by decide) ?_
        refine q_rSi (v := nI (q_bl (x >>> ((nI 8) &&& 31)) 8)) [.int (x >>> ((nI 4) &&& 31)), .int (nI 1)] hx hb hml hown hts (m_L_below l Dg cI cR cZ (x >>> ((nI 8) &&& 31)) 8 (by decide) (by decide)) gL_act_L_below rfl kdS_L_below ⟨Nat.le_of_ble_eq_true rfl, Nat.le_of_ble_eq_true rfl⟩ hK hN hJ z_P0 rfl rfl hl.1 (Nat.le_of_ble_eq_true rfl) dL_act_635 ⟨by show _ ≤ 41; omega, by show _ ≤ 1300; omega⟩ ?_
        obtain ⟨j635, hj635, ej635⟩ := q_bl_ex (x >>> ((nI 8) &&& 31)) (k := 8) (by decide)
        refine z_top (x' := nI j635) (congrArg nI ej635) ?_
        refine lv_if_ne (tgt := 646) hx hb dL_act_638 (by decide) (fun c638 => ?_) (fun c638 => ?_)
        · skip
          refine lv_iconst (v := nI 4) hx hb dL_act_646 (by decide) ?_
          refine q_rSi (v := nI (q_bl (x >>> ((nI 4) &&& 31)) 4)) [.int (nI 1)] hx hb hml hown hts (m_L_below l Dg cI cR cZ (x >>> ((nI 4) &&& 31)) 4 (by decide) (by decide)) gL_act_L_below rfl kdS_L_below ⟨Nat.le_of_ble_eq_true rfl, Nat.le_of_ble_eq_true rfl⟩ hK hN hJ z_P0 rfl rfl hl.1 (Nat.le_of_ble_eq_true rfl) dL_act_647 ⟨by show _ ≤ 41; omega, by show _ ≤ 1300; omega⟩ ?_
          refine z_top (x' := nI j17) (congrArg nI ej17) ?_
          refine lv_iadd hx hb dL_act_650 ?_
          refine z_top (x' := nI (1 + j17)) (nI_add _ _) ?_
          refine lv_istore (lv' := [(8, .int (nI (1 + j17))), (7, .int (nI j28)), (6, .int 1), (5, .int (nI j17)), (4, .int (nI (z_tc G))), (3, .int (nI (z_bc G))), (0, .ref h), (1, .ref (sa 0)), (2, .int x)]) hx hb dL_act_651 hl (by decide) rfl (fun ls hl => ?_)
          refine lv_aload_n hx hb dL_act_653 rfl (lv_at hl 6 rfl) ?_
          refine lv_iload hx hb dL_act_654 (lv_at hl 0 rfl) ?_
          refine z_wBi (v := nI (z_cn G (z_days G D (1 + j17)) 2) - nI (z_cn G D 2)) [] [] (q_W cI cR sa rb rt G D) 0 hx hb hml hown hts (m_X2_pass l Dg cI h na ta G D G1 D1 (1 + j17) (by omega) (by omega) hG hW) gL_act_X2_pass rfl kd_X2_pass ⟨Nat.le_of_ble_eq_true rfl, Nat.le_of_ble_eq_true rfl⟩ (q_KI hK) hN hP hD hS rfl rfl rfl rfl rfl hl.1 rfl (Nat.le_of_ble_eq_true rfl) dL_act_656 ⟨by show _ ≤ 41; omega, by show _ ≤ 1300; omega⟩ (fun H locs hP hD hS => ?_)
          have hP : va_P Dg vwCl (z_cW cI h na ta G (z_days G D (1 + j17)) G1 D1 ++ q_W cI cR sa rb rt G D) H := hP
          have hD : va_D _ (z_cW cI h na ta G (z_days G D (1 + j17)) G1 D1 ++ q_W cI cR sa rb rt G D) := hD
          refine lv_aload_n hx hb dL_act_659 rfl (lv_at hl 7 rfl) ?_
          refine lv_iload hx hb dL_act_660 (lv_at hl 0 rfl) ?_
          refine q_wVi (v := nI (z_cn G (z_days G D (1 + j17)) 2) - nI (z_cn G D 2)) (pre := z_cW cI h na ta G (z_days G D (1 + j17)) G1 D1) (post := []) [.int (nI (z_cn G (z_days G D (1 + j17)) 2) - nI (z_cn G D 2))] hx hb hml hown hts (m_X3_pass_ l Dg cI cR cZ sa rb rt G D (1 + j17) (by omega) hG hW hB hV) gL_act_X3_pass_ rfl kd_X3_pass_ ⟨Nat.le_of_ble_eq_true rfl, Nat.le_of_ble_eq_true rfl⟩ hK hN hJ (q_nilP (pre := z_cW cI h na ta G (z_days G D (1 + j17)) G1 D1) hP) (q_nilD (pre := z_cW cI h na ta G (z_days G D (1 + j17)) G1 D1) hD) hS (q_fst rfl rfl) rfl rfl rfl rfl rfl hl.1 (Nat.le_of_ble_eq_true rfl) dL_act_662 ⟨by show _ ≤ 41; omega, by show _ ≤ 1300; omega⟩ (fun H locs hP hD hS => ?_)
          rw [List.append_nil] at hP hD
          have hP : va_P Dg vwCl (z_cW cI h na ta G (z_days G D (1 + j17)) G1 D1 ++ q_W cI cR sa rb rt G (z_days G D (1 + j17))) H := hP
          have hD : va_D _ (z_cW cI h na ta G (z_days G D (1 + j17)) G1 D1 ++ q_W cI cR sa rb rt G (z_days G D (1 + j17))) := hD
          refine lv_icmp_ne (tgt := 672) hx hb dL_act_665 (by decide) (fun c665 => absurd rfl c665) (fun c665 => ?_)
          refine lv_iconst (v := 1) hx hb dL_act_668 (by decide) ?_
          refine lv_goto (tgt := 673) hx hb dL_act_669 (by decide) ?_
          exact q_ed_z (b := true) (w' := z_cW cI h na ta G (z_days G D (1 + j17)) G1 D1 ++ q_W cI cR sa rb rt G (z_days G D (1 + j17))) ⟨rfl, ⟨G, z_days G D (1 + j17), G1, D1, sa, rb, rt, rfl, (q_I_days hI _), rfl⟩⟩ hP hD hS ⟨by omega, by omega⟩ hx hb hr hlk dL_act_673
        · skip
          refine lv_bipush (v := nI 60) hx hb dL_act_641 (by decide) ?_
          refine lv_goto (tgt := 647) hx hb dL_act_643 (by decide) ?_
          refine q_rSi (v := nI (q_bl (x >>> ((nI 4) &&& 31)) 60)) [.int (nI 1)] hx hb hml hown hts (m_L_below l Dg cI cR cZ (x >>> ((nI 4) &&& 31)) 60 (by decide) (by decide)) gL_act_L_below rfl kdS_L_below ⟨Nat.le_of_ble_eq_true rfl, Nat.le_of_ble_eq_true rfl⟩ hK hN hJ z_P0 rfl rfl hl.1 (Nat.le_of_ble_eq_true rfl) dL_act_647 ⟨by show _ ≤ 41; omega, by show _ ≤ 1300; omega⟩ ?_
          obtain ⟨j647, hj647, ej647⟩ := q_bl_ex (x >>> ((nI 4) &&& 31)) (k := 60) (by decide)
          refine z_top (x' := nI j647) (congrArg nI ej647) ?_
          refine lv_iadd hx hb dL_act_650 ?_
          refine z_top (x' := nI (1 + j647)) (nI_add _ _) ?_
          refine lv_istore (lv' := [(8, .int (nI (1 + j647))), (7, .int (nI j28)), (6, .int 1), (5, .int (nI j17)), (4, .int (nI (z_tc G))), (3, .int (nI (z_bc G))), (0, .ref h), (1, .ref (sa 0)), (2, .int x)]) hx hb dL_act_651 hl (by decide) rfl (fun ls hl => ?_)
          refine lv_aload_n hx hb dL_act_653 rfl (lv_at hl 6 rfl) ?_
          refine lv_iload hx hb dL_act_654 (lv_at hl 0 rfl) ?_
          refine z_wBi (v := nI (z_cn G (z_days G D (1 + j647)) 2) - nI (z_cn G D 2)) [] [] (q_W cI cR sa rb rt G D) 0 hx hb hml hown hts (m_X2_pass l Dg cI h na ta G D G1 D1 (1 + j647) (by omega) (by omega) hG hW) gL_act_X2_pass rfl kd_X2_pass ⟨Nat.le_of_ble_eq_true rfl, Nat.le_of_ble_eq_true rfl⟩ (q_KI hK) hN hP hD hS rfl rfl rfl rfl rfl hl.1 rfl (Nat.le_of_ble_eq_true rfl) dL_act_656 ⟨by show _ ≤ 41; omega, by show _ ≤ 1300; omega⟩ (fun H locs hP hD hS => ?_)
          have hP : va_P Dg vwCl (z_cW cI h na ta G (z_days G D (1 + j647)) G1 D1 ++ q_W cI cR sa rb rt G D) H := hP
          have hD : va_D _ (z_cW cI h na ta G (z_days G D (1 + j647)) G1 D1 ++ q_W cI cR sa rb rt G D) := hD
          refine lv_aload_n hx hb dL_act_659 rfl (lv_at hl 7 rfl) ?_
          refine lv_iload hx hb dL_act_660 (lv_at hl 0 rfl) ?_
          refine q_wVi (v := nI (z_cn G (z_days G D (1 + j647)) 2) - nI (z_cn G D 2)) (pre := z_cW cI h na ta G (z_days G D (1 + j647)) G1 D1) (post := []) [.int (nI (z_cn G (z_days G D (1 + j647)) 2) - nI (z_cn G D 2))] hx hb hml hown hts (m_X3_pass_ l Dg cI cR cZ sa rb rt G D (1 + j647) (by omega) hG hW hB hV) gL_act_X3_pass_ rfl kd_X3_pass_ ⟨Nat.le_of_ble_eq_true rfl, Nat.le_of_ble_eq_true rfl⟩ hK hN hJ (q_nilP (pre := z_cW cI h na ta G (z_days G D (1 + j647)) G1 D1) hP) (q_nilD (pre := z_cW cI h na ta G (z_days G D (1 + j647)) G1 D1) hD) hS (q_fst rfl rfl) rfl rfl rfl rfl rfl hl.1 (Nat.le_of_ble_eq_true rfl) dL_act_662 ⟨by show _ ≤ 41; omega, by show _ ≤ 1300; omega⟩ (fun H locs hP hD hS => ?_)
          rw [List.append_nil] at hP hD
          have hP : va_P Dg vwCl (z_cW cI h na ta G (z_days G D (1 + j647)) G1 D1 ++ q_W cI cR sa rb rt G (z_days G D (1 + j647))) H := hP
          have hD : va_D _ (z_cW cI h na ta G (z_days G D (1 + j647)) G1 D1 ++ q_W cI cR sa rb rt G (z_days G D (1 + j647))) := hD
          refine lv_icmp_ne (tgt := 672) hx hb dL_act_665 (by decide) (fun c665 => absurd rfl c665) (fun c665 => ?_)
          refine lv_iconst (v := 1) hx hb dL_act_668 (by decide) ?_
          refine lv_goto (tgt := 673) hx hb dL_act_669 (by decide) ?_
          exact q_ed_z (b := true) (w' := z_cW cI h na ta G (z_days G D (1 + j647)) G1 D1 ++ q_W cI cR sa rb rt G (z_days G D (1 + j647))) ⟨rfl, ⟨G, z_days G D (1 + j647), G1, D1, sa, rb, rt, rfl, (q_I_days hI _), rfl⟩⟩ hP hD hS ⟨by omega, by omega⟩ hx hb hr hlk dL_act_673
    · skip
      exact k42
