theorem kd_X2_addBatch : yX2_addBatch.cls = RX2 ∧ yX2_addBatch.cls ≠ "java/lang/invoke/MethodHandle" ∧ yX2_addBatch.cls ≠ "java/lang/invoke/VarHandle" ∧ (parseMethodDescriptor yX2_addBatch.desc).map (fun d => d.parameters.length) = some 2 := by decide +kernel
theorem kd_X2_batchOf : yX2_batchOf.cls = RX2 ∧ yX2_batchOf.cls ≠ "java/lang/invoke/MethodHandle" ∧ yX2_batchOf.cls ≠ "java/lang/invoke/VarHandle" ∧ (parseMethodDescriptor yX2_batchOf.desc).map (fun d => d.parameters.length) = some 1 := by decide +kernel
theorem kd_X2_isLost : yX2_isLost.cls = RX2 ∧ yX2_isLost.cls ≠ "java/lang/invoke/MethodHandle" ∧ yX2_isLost.cls ≠ "java/lang/invoke/VarHandle" ∧ (parseMethodDescriptor yX2_isLost.desc).map (fun d => d.parameters.length) = some 1 := by decide +kernel
theorem kd_X2_lostWith : yX2_lostWith.cls = RX2 ∧ yX2_lostWith.cls ≠ "java/lang/invoke/MethodHandle" ∧ yX2_lostWith.cls ≠ "java/lang/invoke/VarHandle" ∧ (parseMethodDescriptor yX2_lostWith.desc).map (fun d => d.parameters.length) = some 2 := by decide +kernel
theorem kd_X2_move : yX2_move.cls = RX2 ∧ yX2_move.cls ≠ "java/lang/invoke/MethodHandle" ∧ yX2_move.cls ≠ "java/lang/invoke/VarHandle" ∧ (parseMethodDescriptor yX2_move.desc).map (fun d => d.parameters.length) = some 2 := by decide +kernel
theorem kd_X2_pass : yX2_pass.cls = RX2 ∧ yX2_pass.cls ≠ "java/lang/invoke/MethodHandle" ∧ yX2_pass.cls ≠ "java/lang/invoke/VarHandle" ∧ (parseMethodDescriptor yX2_pass.desc).map (fun d => d.parameters.length) = some 1 := by decide +kernel
theorem kd_X2_recall : yX2_recall.cls = RX2 ∧ yX2_recall.cls ≠ "java/lang/invoke/MethodHandle" ∧ yX2_recall.cls ≠ "java/lang/invoke/VarHandle" ∧ (parseMethodDescriptor yX2_recall.desc).map (fun d => d.parameters.length) = some 1 := by decide +kernel
theorem kd_X2_seal : yX2_seal.cls = RX2 ∧ yX2_seal.cls ≠ "java/lang/invoke/MethodHandle" ∧ yX2_seal.cls ≠ "java/lang/invoke/VarHandle" ∧ (parseMethodDescriptor yX2_seal.desc).map (fun d => d.parameters.length) = some 3 := by decide +kernel
theorem kd_X2_setShipping : yX2_setShipping.cls = RX2 ∧ yX2_setShipping.cls ≠ "java/lang/invoke/MethodHandle" ∧ yX2_setShipping.cls ≠ "java/lang/invoke/VarHandle" ∧ (parseMethodDescriptor yX2_setShipping.desc).map (fun d => d.parameters.length) = some 2 := by decide +kernel
theorem kd_X2_setWarm : yX2_setWarm.cls = RX2 ∧ yX2_setWarm.cls ≠ "java/lang/invoke/MethodHandle" ∧ yX2_setWarm.cls ≠ "java/lang/invoke/VarHandle" ∧ (parseMethodDescriptor yX2_setWarm.desc).map (fun d => d.parameters.length) = some 2 := by decide +kernel
set_option maxHeartbeats 4000000 in
set_option maxRecDepth 100000 in
theorem m_L_standOn_x1 (l : Launch) (hst : l.stackTraces = false) (Dg : va_G) (cI : ClassId) (cL : ClassId) (h : Nat) (na ta : Nat → Nat) (G : z_GG) (D : z_DD) (G1 : z_GG) (D1 : z_DD) (ob : Nat) (o9 : Nat → Int64) (x_ : Int32) (e1 : ¬ (0 ≤ x_ ∧ x_ ≤ 3)) (hG : z_WG G) (hW : z_WD G D) : z_ML l yL_standOn wsL_standOn 8 131 [.ref h, .int x_, .ref ob] Dg cI cL (z_oW cI cL h na ta ob G D G1 D1 o9) (z_PW 1 (0 : Int64) cI cL h na ta ob G D) := by
  have htc : z_tc G ≤ 60 := hG.2.2.2.2.2.1
  have hbc : z_bc G ≤ 6 := hG.2.2.2.2.1
  refine z_sL (own := RL) (hh := [(0, 9, 12, 21)]) (l0 := [(0, .ref h), (1, .int x_), (2, .ref ob)]) rfl rfl (by decide) (Nat.le_of_ble_eq_true rfl) rfl ?_
  intro p e s m below meth c hx hb hr hml hts hown hlk htab hP hX hD hS ls hl
  refine lv_aload_n hx hb dL_standOn_0 rfl (lv_at hl 2 rfl) ?_
  refine lv_iconst (v := nI 0) hx hb dL_standOn_1 (by decide) ?_
  refine lv_aload_n hx hb dL_standOn_2 rfl (lv_at hl 0 rfl) ?_
  refine lv_iload_n hx hb dL_standOn_3 rfl (lv_at hl 1 rfl) ?_
  refine z_cL (E := "java/lang/IndexOutOfBoundsException") [.int (nI 0), .ref ob] hst hx hb hml hown hts (m_X2_standOn_x1 l hst Dg cI h na ta G D G1 D1 x_ e1 hG hW) gL_standOn_X2_standOn rfl kd_X2_standOn ⟨Nat.le_of_ble_eq_true rfl, Nat.le_of_ble_eq_true rfl⟩ hX hP rfl hl.1 rfl (Nat.le_of_ble_eq_true rfl) dL_standOn_4 ⟨Nat.le_of_ble_eq_true rfl, Nat.le_of_ble_eq_true rfl⟩ (fun ce q9 H hP hS hc1 hc2 hc3 => ?_)
  refine vx_catch (own := RL) (name := "java/lang/IndexOutOfBoundsException") (E := "java/lang/IndexOutOfBoundsException") hown [] ⟨0, 9, 12, 21⟩ [] htab (fun z hz => absurd hz List.not_mem_nil) rfl (by decide) (hts _ (List.mem_cons_of_mem _ (List.mem_append_left _ (List.mem_append_left _ (List.mem_append_left _ (List.mem_append_left _ (List.mem_append_left _ (List.mem_of_getElem? (i := 0) rfl)))))))) (va_Nw.use rfl hX.2.2.1.2.2.2.2.2.2.2.2.2.2.2.2.2.2.2.1) hc1 hc2 hc3 ?_
  refine lv_astore_n (lv' := [(3, .ref q9), (0, .ref h), (1, .int x_), (2, .ref ob)]) hx hb dL_standOn_12 rfl hl (by decide) rfl (fun ls hl => ?_)
  refine lv_iconst (v := 1) hx hb dL_standOn_13 (by decide) ?_
  exact z_eL (w' := (z_oW cI cL h na ta ob G D G1 D1 o9)) (z_PW.of (fun q => absurd q (by decide))) rfl hP hS ⟨Nat.le_of_ble_eq_true rfl, Nat.le_of_ble_eq_true rfl⟩ hx hb hr hlk dL_standOn_14

set_option maxHeartbeats 4000000 in
set_option maxRecDepth 100000 in
theorem m_L_standOn_ok (l : Launch) (hst : l.stackTraces = false) (Dg : va_G) (cI : ClassId) (cL : ClassId) (h : Nat) (na ta : Nat → Nat) (G : z_GG) (D : z_DD) (G1 : z_GG) (D1 : z_DD) (ob : Nat) (o9 : Nat → Int64) (s_ : Nat) (hs4 : s_ < 4) (hG : z_WG G) (hW : z_WD G D) : z_ML l yL_standOn wsL_standOn 8 131 [.ref h, .int (nI s_), .ref ob] Dg cI cL (z_oW cI cL h na ta ob G D G1 D1 o9) (z_PW 0 ((nI (z_on G D s_) : Int32).toInt64) cI cL h na ta ob G D) := by
  have htc : z_tc G ≤ 60 := hG.2.2.2.2.2.1
  have hbc : z_bc G ≤ 6 := hG.2.2.2.2.1
  refine z_sL (own := RL) (hh := [(0, 9, 12, 21)]) (l0 := [(0, .ref h), (1, .int (nI s_)), (2, .ref ob)]) rfl rfl (by decide) (Nat.le_of_ble_eq_true rfl) rfl ?_
  intro p e s m below meth c hx hb hr hml hts hown hlk htab hP hX hD hS ls hl
  refine lv_aload_n hx hb dL_standOn_0 rfl (lv_at hl 2 rfl) ?_
  refine lv_iconst (v := nI 0) hx hb dL_standOn_1 (by decide) ?_
  refine lv_aload_n hx hb dL_standOn_2 rfl (lv_at hl 0 rfl) ?_
  refine lv_iload_n hx hb dL_standOn_3 rfl (lv_at hl 1 rfl) ?_
  refine z_rVi (v := nI (z_on G D s_)) [.int (nI 0), .ref ob] hx hb hml hown hts (m_X2_standOn l Dg cI h na ta G D G1 D1 s_ hs4 hG hW) gL_standOn_X2_standOn rfl kd_X2_standOn ⟨Nat.le_of_ble_eq_true rfl, Nat.le_of_ble_eq_true rfl⟩ hX.1.1 hX.1.2 (z_Pl hP) rfl rfl rfl rfl hl.1 rfl (Nat.le_of_ble_eq_true rfl) dL_standOn_4 ⟨Nat.zero_le _, Nat.zero_le _⟩ ?_
  refine lv_i2l (v := Int32.toInt64 (nI (z_on G D s_))) hx hb dL_standOn_7 rfl ?_
  refine va_last hx hb hX.2.1 hP hD hS 39 0 rfl rfl (vp_in_nI (by decide) (by decide)) dL_standOn_8 (fun H locs hP hD hS => ?_)
  have hP : va_P Dg vwCl (z_oW cI cL h na ta ob G D G1 D1 (vp_updL o9 (nI 0).toNatClampNeg (Int32.toInt64 (nI (z_on G D s_))))) H := hP
  refine lv_goto (tgt := 15) hx hb dL_standOn_9 (by decide) ?_
  refine lv_iconst (v := 0) hx hb dL_standOn_15 (by decide) ?_
  exact z_eL (w' := (z_oW cI cL h na ta ob G D G1 D1 (vp_updL o9 (nI 0).toNatClampNeg (Int32.toInt64 (nI (z_on G D s_)))))) (z_PW.of (fun _ => rfl)) rfl hP hS ⟨Nat.le_of_ble_eq_true rfl, Nat.le_of_ble_eq_true rfl⟩ hx hb hr hlk dL_standOn_16

set_option maxHeartbeats 4000000 in
set_option maxRecDepth 100000 in
theorem m_L_warmOf_x1 (l : Launch) (hst : l.stackTraces = false) (Dg : va_G) (cI : ClassId) (cL : ClassId) (h : Nat) (na ta : Nat → Nat) (G : z_GG) (D : z_DD) (G1 : z_GG) (D1 : z_DD) (ob : Nat) (o9 : Nat → Int64) (x_ : Int32) (e1 : ¬ (0 ≤ x_ ∧ x_ ≤ 3)) (hG : z_WG G) (hW : z_WD G D) : z_ML l yL_warmOf wsL_warmOf 8 131 [.ref h, .int x_, .ref ob] Dg cI cL (z_oW cI cL h na ta ob G D G1 D1 o9) (z_PW 1 (0 : Int64) cI cL h na ta ob G D) := by
  have htc : z_tc G ≤ 60 := hG.2.2.2.2.2.1
  have hbc : z_bc G ≤ 6 := hG.2.2.2.2.1
  refine z_sL (own := RL) (hh := [(0, 9, 12, 21)]) (l0 := [(0, .ref h), (1, .int x_), (2, .ref ob)]) rfl rfl (by decide) (Nat.le_of_ble_eq_true rfl) rfl ?_
  intro p e s m below meth c hx hb hr hml hts hown hlk htab hP hX hD hS ls hl
  refine lv_aload_n hx hb dL_warmOf_0 rfl (lv_at hl 2 rfl) ?_
  refine lv_iconst (v := nI 0) hx hb dL_warmOf_1 (by decide) ?_
  refine lv_aload_n hx hb dL_warmOf_2 rfl (lv_at hl 0 rfl) ?_
  refine lv_iload_n hx hb dL_warmOf_3 rfl (lv_at hl 1 rfl) ?_
  refine z_cL (E := "java/lang/IndexOutOfBoundsException") [.int (nI 0), .ref ob] hst hx hb hml hown hts (m_X2_warmOf_x1 l hst Dg cI h na ta G D G1 D1 x_ e1 hG hW) gL_warmOf_X2_warmOf rfl kd_X2_warmOf ⟨Nat.le_of_ble_eq_true rfl, Nat.le_of_ble_eq_true rfl⟩ hX hP rfl hl.1 rfl (Nat.le_of_ble_eq_true rfl) dL_warmOf_4 ⟨Nat.le_of_ble_eq_true rfl, Nat.le_of_ble_eq_true rfl⟩ (fun ce q9 H hP hS hc1 hc2 hc3 => ?_)
  refine vx_catch (own := RL) (name := "java/lang/IndexOutOfBoundsException") (E := "java/lang/IndexOutOfBoundsException") hown [] ⟨0, 9, 12, 21⟩ [] htab (fun z hz => absurd hz List.not_mem_nil) rfl (by decide) (hts _ (List.mem_cons_of_mem _ (List.mem_append_left _ (List.mem_append_left _ (List.mem_append_left _ (List.mem_append_left _ (List.mem_of_getElem? (i := 0) rfl))))))) (va_Nw.use rfl hX.2.2.1.2.2.2.2.2.2.2.2.2.2.2.2.2.2.2.1) hc1 hc2 hc3 ?_
  refine lv_astore_n (lv' := [(3, .ref q9), (0, .ref h), (1, .int x_), (2, .ref ob)]) hx hb dL_warmOf_12 rfl hl (by decide) rfl (fun ls hl => ?_)
  refine lv_iconst (v := 1) hx hb dL_warmOf_13 (by decide) ?_
  exact z_eL (w' := (z_oW cI cL h na ta ob G D G1 D1 o9)) (z_PW.of (fun q => absurd q (by decide))) rfl hP hS ⟨Nat.le_of_ble_eq_true rfl, Nat.le_of_ble_eq_true rfl⟩ hx hb hr hlk dL_warmOf_14

set_option maxHeartbeats 4000000 in
set_option maxRecDepth 100000 in
theorem m_L_warmOf_ok (l : Launch) (hst : l.stackTraces = false) (Dg : va_G) (cI : ClassId) (cL : ClassId) (h : Nat) (na ta : Nat → Nat) (G : z_GG) (D : z_DD) (G1 : z_GG) (D1 : z_DD) (ob : Nat) (o9 : Nat → Int64) (s_ : Nat) (hs4 : s_ < 4) (hG : z_WG G) (hW : z_WD G D) : z_ML l yL_warmOf wsL_warmOf 8 131 [.ref h, .int (nI s_), .ref ob] Dg cI cL (z_oW cI cL h na ta ob G D G1 D1 o9) (z_PW 0 ((z_wm G s_ : Int32).toInt64) cI cL h na ta ob G D) := by
  have htc : z_tc G ≤ 60 := hG.2.2.2.2.2.1
  have hbc : z_bc G ≤ 6 := hG.2.2.2.2.1
  refine z_sL (own := RL) (hh := [(0, 9, 12, 21)]) (l0 := [(0, .ref h), (1, .int (nI s_)), (2, .ref ob)]) rfl rfl (by decide) (Nat.le_of_ble_eq_true rfl) rfl ?_
  intro p e s m below meth c hx hb hr hml hts hown hlk htab hP hX hD hS ls hl
  refine lv_aload_n hx hb dL_warmOf_0 rfl (lv_at hl 2 rfl) ?_
  refine lv_iconst (v := nI 0) hx hb dL_warmOf_1 (by decide) ?_
  refine lv_aload_n hx hb dL_warmOf_2 rfl (lv_at hl 0 rfl) ?_
  refine lv_iload_n hx hb dL_warmOf_3 rfl (lv_at hl 1 rfl) ?_
  refine z_rVi (v := z_wm G s_) [.int (nI 0), .ref ob] hx hb hml hown hts (m_X2_warmOf l Dg cI h na ta G D G1 D1 s_ hs4 hG hW) gL_warmOf_X2_warmOf rfl kd_X2_warmOf ⟨Nat.le_of_ble_eq_true rfl, Nat.le_of_ble_eq_true rfl⟩ hX.1.1 hX.1.2 (z_Pl hP) rfl rfl rfl rfl hl.1 rfl (Nat.le_of_ble_eq_true rfl) dL_warmOf_4 ⟨Nat.zero_le _, Nat.zero_le _⟩ ?_
  refine lv_i2l (v := Int32.toInt64 (z_wm G s_)) hx hb dL_warmOf_7 rfl ?_
  refine va_last hx hb hX.2.1 hP hD hS 39 0 rfl rfl (vp_in_nI (by decide) (by decide)) dL_warmOf_8 (fun H locs hP hD hS => ?_)
  have hP : va_P Dg vwCl (z_oW cI cL h na ta ob G D G1 D1 (vp_updL o9 (nI 0).toNatClampNeg (Int32.toInt64 (z_wm G s_)))) H := hP
  refine lv_goto (tgt := 15) hx hb dL_warmOf_9 (by decide) ?_
  refine lv_iconst (v := 0) hx hb dL_warmOf_15 (by decide) ?_
  exact z_eL (w' := (z_oW cI cL h na ta ob G D G1 D1 (vp_updL o9 (nI 0).toNatClampNeg (Int32.toInt64 (z_wm G s_))))) (z_PW.of (fun _ => rfl)) rfl hP hS ⟨Nat.le_of_ble_eq_true rfl, Nat.le_of_ble_eq_true rfl⟩ hx hb hr hlk dL_warmOf_16

set_option maxHeartbeats 4000000 in
set_option maxRecDepth 100000 in
theorem m_L_batchOf_x1 (l : Launch) (hst : l.stackTraces = false) (Dg : va_G) (cI : ClassId) (cL : ClassId) (h : Nat) (na ta : Nat → Nat) (G : z_GG) (D : z_DD) (G1 : z_GG) (D1 : z_DD) (ob : Nat) (o9 : Nat → Int64) (x_ : Int32) (e1 : ¬ (0 ≤ x_ ∧ x_ ≤ nI (z_tc G) - 1)) (hG : z_WG G) (hW : z_WD G D) : z_ML l yL_batchOf wsL_batchOf 8 132 [.ref h, .int x_, .ref ob] Dg cI cL (z_oW cI cL h na ta ob G D G1 D1 o9) (z_PW 1 (0 : Int64) cI cL h na ta ob G D) := by
  have htc : z_tc G ≤ 60 := hG.2.2.2.2.2.1
  have hbc : z_bc G ≤ 6 := hG.2.2.2.2.1
  refine z_sL (own := RL) (hh := [(0, 9, 12, 21)]) (l0 := [(0, .ref h), (1, .int x_), (2, .ref ob)]) rfl rfl (by decide) (Nat.le_of_ble_eq_true rfl) rfl ?_
  intro p e s m below meth c hx hb hr hml hts hown hlk htab hP hX hD hS ls hl
  refine lv_aload_n hx hb dL_batchOf_0 rfl (lv_at hl 2 rfl) ?_
  refine lv_iconst (v := nI 0) hx hb dL_batchOf_1 (by decide) ?_
  refine lv_aload_n hx hb dL_batchOf_2 rfl (lv_at hl 0 rfl) ?_
  refine lv_iload_n hx hb dL_batchOf_3 rfl (lv_at hl 1 rfl) ?_
  refine z_cL (E := "java/lang/IndexOutOfBoundsException") [.int (nI 0), .ref ob] hst hx hb hml hown hts (m_X2_batchOf_x1 l hst Dg cI h na ta G D G1 D1 x_ e1 hG hW) gL_batchOf_X2_batchOf rfl kd_X2_batchOf ⟨Nat.le_of_ble_eq_true rfl, Nat.le_of_ble_eq_true rfl⟩ hX hP rfl hl.1 rfl (Nat.le_of_ble_eq_true rfl) dL_batchOf_4 ⟨Nat.le_of_ble_eq_true rfl, Nat.le_of_ble_eq_true rfl⟩ (fun ce q9 H hP hS hc1 hc2 hc3 => ?_)
  refine vx_catch (own := RL) (name := "java/lang/IndexOutOfBoundsException") (E := "java/lang/IndexOutOfBoundsException") hown [] ⟨0, 9, 12, 21⟩ [] htab (fun z hz => absurd hz List.not_mem_nil) rfl (by decide) (hts _ (List.mem_cons_of_mem _ (List.mem_append_left _ (List.mem_append_left _ (List.mem_append_left _ (List.mem_append_left _ (List.mem_of_getElem? (i := 0) rfl))))))) (va_Nw.use rfl hX.2.2.1.2.2.2.2.2.2.2.2.2.2.2.2.2.2.2.1) hc1 hc2 hc3 ?_
  refine lv_astore_n (lv' := [(3, .ref q9), (0, .ref h), (1, .int x_), (2, .ref ob)]) hx hb dL_batchOf_12 rfl hl (by decide) rfl (fun ls hl => ?_)
  refine lv_iconst (v := 1) hx hb dL_batchOf_13 (by decide) ?_
  exact z_eL (w' := (z_oW cI cL h na ta ob G D G1 D1 o9)) (z_PW.of (fun q => absurd q (by decide))) rfl hP hS ⟨Nat.le_of_ble_eq_true rfl, Nat.le_of_ble_eq_true rfl⟩ hx hb hr hlk dL_batchOf_14

set_option maxHeartbeats 4000000 in
set_option maxRecDepth 100000 in
theorem m_L_batchOf_ok (l : Launch) (hst : l.stackTraces = false) (Dg : va_G) (cI : ClassId) (cL : ClassId) (h : Nat) (na ta : Nat → Nat) (G : z_GG) (D : z_DD) (G1 : z_GG) (D1 : z_DD) (ob : Nat) (o9 : Nat → Int64) (t : Nat) (ht : t < z_tc G) (hG : z_WG G) (hW : z_WD G D) : z_ML l yL_batchOf wsL_batchOf 8 132 [.ref h, .int (nI t), .ref ob] Dg cI cL (z_oW cI cL h na ta ob G D G1 D1 o9) (z_PW 0 ((nI (z_bt G t) : Int32).toInt64) cI cL h na ta ob G D) := by
  have htc : z_tc G ≤ 60 := hG.2.2.2.2.2.1
  have hbc : z_bc G ≤ 6 := hG.2.2.2.2.1
  refine z_sL (own := RL) (hh := [(0, 9, 12, 21)]) (l0 := [(0, .ref h), (1, .int (nI t)), (2, .ref ob)]) rfl rfl (by decide) (Nat.le_of_ble_eq_true rfl) rfl ?_
  intro p e s m below meth c hx hb hr hml hts hown hlk htab hP hX hD hS ls hl
  refine lv_aload_n hx hb dL_batchOf_0 rfl (lv_at hl 2 rfl) ?_
  refine lv_iconst (v := nI 0) hx hb dL_batchOf_1 (by decide) ?_
  refine lv_aload_n hx hb dL_batchOf_2 rfl (lv_at hl 0 rfl) ?_
  refine lv_iload_n hx hb dL_batchOf_3 rfl (lv_at hl 1 rfl) ?_
  refine z_rVi (v := nI (z_bt G t)) [.int (nI 0), .ref ob] hx hb hml hown hts (m_X2_batchOf l Dg cI h na ta G D G1 D1 t ht hG hW) gL_batchOf_X2_batchOf rfl kd_X2_batchOf ⟨Nat.le_of_ble_eq_true rfl, Nat.le_of_ble_eq_true rfl⟩ hX.1.1 hX.1.2 (z_Pl hP) rfl rfl rfl rfl hl.1 rfl (Nat.le_of_ble_eq_true rfl) dL_batchOf_4 ⟨Nat.zero_le _, Nat.zero_le _⟩ ?_
  refine lv_i2l (v := Int32.toInt64 (nI (z_bt G t))) hx hb dL_batchOf_7 rfl ?_
  refine va_last hx hb hX.2.1 hP hD hS 39 0 rfl rfl (vp_in_nI (by decide) (by decide)) dL_batchOf_8 (fun H locs hP hD hS => ?_)
  have hP : va_P Dg vwCl (z_oW cI cL h na ta ob G D G1 D1 (vp_updL o9 (nI 0).toNatClampNeg (Int32.toInt64 (nI (z_bt G t))))) H := hP
  refine lv_goto (tgt := 15) hx hb dL_batchOf_9 (by decide) ?_
  refine lv_iconst (v := 0) hx hb dL_batchOf_15 (by decide) ?_
  exact z_eL (w' := (z_oW cI cL h na ta ob G D G1 D1 (vp_updL o9 (nI 0).toNatClampNeg (Int32.toInt64 (nI (z_bt G t)))))) (z_PW.of (fun _ => rfl)) rfl hP hS ⟨Nat.le_of_ble_eq_true rfl, Nat.le_of_ble_eq_true rfl⟩ hx hb hr hlk dL_batchOf_16

set_option maxHeartbeats 4000000 in
set_option maxRecDepth 100000 in
theorem m_L_shelfOf_x1 (l : Launch) (hst : l.stackTraces = false) (Dg : va_G) (cI : ClassId) (cL : ClassId) (h : Nat) (na ta : Nat → Nat) (G : z_GG) (D : z_DD) (G1 : z_GG) (D1 : z_DD) (ob : Nat) (o9 : Nat → Int64) (x_ : Int32) (e1 : ¬ (0 ≤ x_ ∧ x_ ≤ nI (z_tc G) - 1)) (hG : z_WG G) (hW : z_WD G D) : z_ML l yL_shelfOf wsL_shelfOf 8 132 [.ref h, .int x_, .ref ob] Dg cI cL (z_oW cI cL h na ta ob G D G1 D1 o9) (z_PW 1 (0 : Int64) cI cL h na ta ob G D) := by
  have htc : z_tc G ≤ 60 := hG.2.2.2.2.2.1
  have hbc : z_bc G ≤ 6 := hG.2.2.2.2.1
  refine z_sL (own := RL) (hh := [(0, 9, 12, 21)]) (l0 := [(0, .ref h), (1, .int x_), (2, .ref ob)]) rfl rfl (by decide) (Nat.le_of_ble_eq_true rfl) rfl ?_
  intro p e s m below meth c hx hb hr hml hts hown hlk htab hP hX hD hS ls hl
  refine lv_aload_n hx hb dL_shelfOf_0 rfl (lv_at hl 2 rfl) ?_
  refine lv_iconst (v := nI 0) hx hb dL_shelfOf_1 (by decide) ?_
  refine lv_aload_n hx hb dL_shelfOf_2 rfl (lv_at hl 0 rfl) ?_
  refine lv_iload_n hx hb dL_shelfOf_3 rfl (lv_at hl 1 rfl) ?_
  refine z_cL (E := "java/lang/IndexOutOfBoundsException") [.int (nI 0), .ref ob] hst hx hb hml hown hts (m_X2_shelfOf_x1 l hst Dg cI h na ta G D G1 D1 x_ e1 hG hW) gL_shelfOf_X2_shelfOf rfl kd_X2_shelfOf ⟨Nat.le_of_ble_eq_true rfl, Nat.le_of_ble_eq_true rfl⟩ hX hP rfl hl.1 rfl (Nat.le_of_ble_eq_true rfl) dL_shelfOf_4 ⟨Nat.le_of_ble_eq_true rfl, Nat.le_of_ble_eq_true rfl⟩ (fun ce q9 H hP hS hc1 hc2 hc3 => ?_)
  refine vx_catch (own := RL) (name := "java/lang/IndexOutOfBoundsException") (E := "java/lang/IndexOutOfBoundsException") hown [] ⟨0, 9, 12, 21⟩ [] htab (fun z hz => absurd hz List.not_mem_nil) rfl (by decide) (hts _ (List.mem_cons_of_mem _ (List.mem_append_left _ (List.mem_append_left _ (List.mem_append_left _ (List.mem_append_left _ (List.mem_append_left _ (List.mem_of_getElem? (i := 0) rfl)))))))) (va_Nw.use rfl hX.2.2.1.2.2.2.2.2.2.2.2.2.2.2.2.2.2.2.1) hc1 hc2 hc3 ?_
  refine lv_astore_n (lv' := [(3, .ref q9), (0, .ref h), (1, .int x_), (2, .ref ob)]) hx hb dL_shelfOf_12 rfl hl (by decide) rfl (fun ls hl => ?_)
  refine lv_iconst (v := 1) hx hb dL_shelfOf_13 (by decide) ?_
  exact z_eL (w' := (z_oW cI cL h na ta ob G D G1 D1 o9)) (z_PW.of (fun q => absurd q (by decide))) rfl hP hS ⟨Nat.le_of_ble_eq_true rfl, Nat.le_of_ble_eq_true rfl⟩ hx hb hr hlk dL_shelfOf_14

set_option maxHeartbeats 4000000 in
set_option maxRecDepth 100000 in
theorem m_L_shelfOf_ok (l : Launch) (hst : l.stackTraces = false) (Dg : va_G) (cI : ClassId) (cL : ClassId) (h : Nat) (na ta : Nat → Nat) (G : z_GG) (D : z_DD) (G1 : z_GG) (D1 : z_DD) (ob : Nat) (o9 : Nat → Int64) (t : Nat) (ht : t < z_tc G) (hG : z_WG G) (hW : z_WD G D) : z_ML l yL_shelfOf wsL_shelfOf 8 132 [.ref h, .int (nI t), .ref ob] Dg cI cL (z_oW cI cL h na ta ob G D G1 D1 o9) (z_PW 0 ((z_shf G D t : Int32).toInt64) cI cL h na ta ob G D) := by
  have htc : z_tc G ≤ 60 := hG.2.2.2.2.2.1
  have hbc : z_bc G ≤ 6 := hG.2.2.2.2.1
  refine z_sL (own := RL) (hh := [(0, 9, 12, 21)]) (l0 := [(0, .ref h), (1, .int (nI t)), (2, .ref ob)]) rfl rfl (by decide) (Nat.le_of_ble_eq_true rfl) rfl ?_
  intro p e s m below meth c hx hb hr hml hts hown hlk htab hP hX hD hS ls hl
  refine lv_aload_n hx hb dL_shelfOf_0 rfl (lv_at hl 2 rfl) ?_
  refine lv_iconst (v := nI 0) hx hb dL_shelfOf_1 (by decide) ?_
  refine lv_aload_n hx hb dL_shelfOf_2 rfl (lv_at hl 0 rfl) ?_
  refine lv_iload_n hx hb dL_shelfOf_3 rfl (lv_at hl 1 rfl) ?_
  refine z_rVi (v := z_shf G D t) [.int (nI 0), .ref ob] hx hb hml hown hts (m_X2_shelfOf l Dg cI h na ta G D G1 D1 t ht hG hW) gL_shelfOf_X2_shelfOf rfl kd_X2_shelfOf ⟨Nat.le_of_ble_eq_true rfl, Nat.le_of_ble_eq_true rfl⟩ hX.1.1 hX.1.2 (z_Pl hP) rfl rfl rfl rfl hl.1 rfl (Nat.le_of_ble_eq_true rfl) dL_shelfOf_4 ⟨Nat.zero_le _, Nat.zero_le _⟩ ?_
  refine lv_i2l (v := Int32.toInt64 (z_shf G D t)) hx hb dL_shelfOf_7 rfl ?_
  refine va_last hx hb hX.2.1 hP hD hS 39 0 rfl rfl (vp_in_nI (by decide) (by decide)) dL_shelfOf_8 (fun H locs hP hD hS => ?_)
  have hP : va_P Dg vwCl (z_oW cI cL h na ta ob G D G1 D1 (vp_updL o9 (nI 0).toNatClampNeg (Int32.toInt64 (z_shf G D t)))) H := hP
  refine lv_goto (tgt := 15) hx hb dL_shelfOf_9 (by decide) ?_
  refine lv_iconst (v := 0) hx hb dL_shelfOf_15 (by decide) ?_
  exact z_eL (w' := (z_oW cI cL h na ta ob G D G1 D1 (vp_updL o9 (nI 0).toNatClampNeg (Int32.toInt64 (z_shf G D t))))) (z_PW.of (fun _ => rfl)) rfl hP hS ⟨Nat.le_of_ble_eq_true rfl, Nat.le_of_ble_eq_true rfl⟩ hx hb hr hlk dL_shelfOf_16

set_option maxHeartbeats 4000000 in
set_option maxRecDepth 100000 in
theorem m_L_vacuumOf_x1 (l : Launch) (hst : l.stackTraces = false) (Dg : va_G) (cI : ClassId) (cL : ClassId) (h : Nat) (na ta : Nat → Nat) (G : z_GG) (D : z_DD) (G1 : z_GG) (D1 : z_DD) (ob : Nat) (o9 : Nat → Int64) (x_ : Int32) (e1 : ¬ (0 ≤ x_ ∧ x_ ≤ nI (z_tc G) - 1)) (hG : z_WG G) (hW : z_WD G D) : z_ML l yL_vacuumOf wsL_vacuumOf 8 132 [.ref h, .int x_, .ref ob] Dg cI cL (z_oW cI cL h na ta ob G D G1 D1 o9) (z_PW 1 (0 : Int64) cI cL h na ta ob G D) := by
  have htc : z_tc G ≤ 60 := hG.2.2.2.2.2.1
  have hbc : z_bc G ≤ 6 := hG.2.2.2.2.1
  refine z_sL (own := RL) (hh := [(0, 9, 12, 21)]) (l0 := [(0, .ref h), (1, .int x_), (2, .ref ob)]) rfl rfl (by decide) (Nat.le_of_ble_eq_true rfl) rfl ?_
  intro p e s m below meth c hx hb hr hml hts hown hlk htab hP hX hD hS ls hl
  refine lv_aload_n hx hb dL_vacuumOf_0 rfl (lv_at hl 2 rfl) ?_
  refine lv_iconst (v := nI 0) hx hb dL_vacuumOf_1 (by decide) ?_
  refine lv_aload_n hx hb dL_vacuumOf_2 rfl (lv_at hl 0 rfl) ?_
  refine lv_iload_n hx hb dL_vacuumOf_3 rfl (lv_at hl 1 rfl) ?_
  refine z_cL (E := "java/lang/IndexOutOfBoundsException") [.int (nI 0), .ref ob] hst hx hb hml hown hts (m_X2_vacuumOf_x1 l hst Dg cI h na ta G D G1 D1 x_ e1 hG hW) gL_vacuumOf_X2_vacuumOf rfl kd_X2_vacuumOf ⟨Nat.le_of_ble_eq_true rfl, Nat.le_of_ble_eq_true rfl⟩ hX hP rfl hl.1 rfl (Nat.le_of_ble_eq_true rfl) dL_vacuumOf_4 ⟨Nat.le_of_ble_eq_true rfl, Nat.le_of_ble_eq_true rfl⟩ (fun ce q9 H hP hS hc1 hc2 hc3 => ?_)
  refine vx_catch (own := RL) (name := "java/lang/IndexOutOfBoundsException") (E := "java/lang/IndexOutOfBoundsException") hown [] ⟨0, 9, 12, 21⟩ [] htab (fun z hz => absurd hz List.not_mem_nil) rfl (by decide) (hts _ (List.mem_cons_of_mem _ (List.mem_append_left _ (List.mem_append_left _ (List.mem_append_left _ (List.mem_append_left _ (List.mem_of_getElem? (i := 0) rfl))))))) (va_Nw.use rfl hX.2.2.1.2.2.2.2.2.2.2.2.2.2.2.2.2.2.2.1) hc1 hc2 hc3 ?_
  refine lv_astore_n (lv' := [(3, .ref q9), (0, .ref h), (1, .int x_), (2, .ref ob)]) hx hb dL_vacuumOf_12 rfl hl (by decide) rfl (fun ls hl => ?_)
  refine lv_iconst (v := 1) hx hb dL_vacuumOf_13 (by decide) ?_
  exact z_eL (w' := (z_oW cI cL h na ta ob G D G1 D1 o9)) (z_PW.of (fun q => absurd q (by decide))) rfl hP hS ⟨Nat.le_of_ble_eq_true rfl, Nat.le_of_ble_eq_true rfl⟩ hx hb hr hlk dL_vacuumOf_14

set_option maxHeartbeats 4000000 in
set_option maxRecDepth 100000 in
theorem m_L_vacuumOf_ok (l : Launch) (hst : l.stackTraces = false) (Dg : va_G) (cI : ClassId) (cL : ClassId) (h : Nat) (na ta : Nat → Nat) (G : z_GG) (D : z_DD) (G1 : z_GG) (D1 : z_DD) (ob : Nat) (o9 : Nat → Int64) (t : Nat) (ht : t < z_tc G) (hG : z_WG G) (hW : z_WD G D) : z_ML l yL_vacuumOf wsL_vacuumOf 8 132 [.ref h, .int (nI t), .ref ob] Dg cI cL (z_oW cI cL h na ta ob G D G1 D1 o9) (z_PW 0 ((z_vc D t : Int32).toInt64) cI cL h na ta ob G D) := by
  have htc : z_tc G ≤ 60 := hG.2.2.2.2.2.1
  have hbc : z_bc G ≤ 6 := hG.2.2.2.2.1
  refine z_sL (own := RL) (hh := [(0, 9, 12, 21)]) (l0 := [(0, .ref h), (1, .int (nI t)), (2, .ref ob)]) rfl rfl (by decide) (Nat.le_of_ble_eq_true rfl) rfl ?_
  intro p e s m below meth c hx hb hr hml hts hown hlk htab hP hX hD hS ls hl
  refine lv_aload_n hx hb dL_vacuumOf_0 rfl (lv_at hl 2 rfl) ?_
  refine lv_iconst (v := nI 0) hx hb dL_vacuumOf_1 (by decide) ?_
  refine lv_aload_n hx hb dL_vacuumOf_2 rfl (lv_at hl 0 rfl) ?_
  refine lv_iload_n hx hb dL_vacuumOf_3 rfl (lv_at hl 1 rfl) ?_
  refine z_rVi (v := z_vc D t) [.int (nI 0), .ref ob] hx hb hml hown hts (m_X2_vacuumOf l Dg cI h na ta G D G1 D1 t ht hG hW) gL_vacuumOf_X2_vacuumOf rfl kd_X2_vacuumOf ⟨Nat.le_of_ble_eq_true rfl, Nat.le_of_ble_eq_true rfl⟩ hX.1.1 hX.1.2 (z_Pl hP) rfl rfl rfl rfl hl.1 rfl (Nat.le_of_ble_eq_true rfl) dL_vacuumOf_4 ⟨Nat.zero_le _, Nat.zero_le _⟩ ?_
  refine lv_i2l (v := Int32.toInt64 (z_vc D t)) hx hb dL_vacuumOf_7 rfl ?_
  refine va_last hx hb hX.2.1 hP hD hS 39 0 rfl rfl (vp_in_nI (by decide) (by decide)) dL_vacuumOf_8 (fun H locs hP hD hS => ?_)
  have hP : va_P Dg vwCl (z_oW cI cL h na ta ob G D G1 D1 (vp_updL o9 (nI 0).toNatClampNeg (Int32.toInt64 (z_vc D t)))) H := hP
  refine lv_goto (tgt := 15) hx hb dL_vacuumOf_9 (by decide) ?_
  refine lv_iconst (v := 0) hx hb dL_vacuumOf_15 (by decide) ?_
  exact z_eL (w' := (z_oW cI cL h na ta ob G D G1 D1 (vp_updL o9 (nI 0).toNatClampNeg (Int32.toInt64 (z_vc D t))))) (z_PW.of (fun _ => rfl)) rfl hP hS ⟨Nat.le_of_ble_eq_true rfl, Nat.le_of_ble_eq_true rfl⟩ hx hb hr hlk dL_vacuumOf_16

set_option maxHeartbeats 4000000 in
set_option maxRecDepth 100000 in
theorem m_L_isShipped_x1 (l : Launch) (hst : l.stackTraces = false) (Dg : va_G) (cI : ClassId) (cL : ClassId) (h : Nat) (na ta : Nat → Nat) (G : z_GG) (D : z_DD) (G1 : z_GG) (D1 : z_DD) (ob : Nat) (o9 : Nat → Int64) (x_ : Int32) (e1 : ¬ (0 ≤ x_ ∧ x_ ≤ nI (z_tc G) - 1)) (hG : z_WG G) (hW : z_WD G D) : z_ML l yL_isShipped wsL_isShipped 8 132 [.ref h, .int x_, .ref ob] Dg cI cL (z_oW cI cL h na ta ob G D G1 D1 o9) (z_PW 1 (0 : Int64) cI cL h na ta ob G D) := by
  have htc : z_tc G ≤ 60 := hG.2.2.2.2.2.1
  have hbc : z_bc G ≤ 6 := hG.2.2.2.2.1
  refine z_sL (own := RL) (hh := [(0, 16, 19, 21)]) (l0 := [(0, .ref h), (1, .int x_), (2, .ref ob)]) rfl rfl (by decide) (Nat.le_of_ble_eq_true rfl) rfl ?_
  intro p e s m below meth c hx hb hr hml hts hown hlk htab hP hX hD hS ls hl
  refine lv_aload_n hx hb dL_isShipped_0 rfl (lv_at hl 2 rfl) ?_
  refine lv_iconst (v := nI 0) hx hb dL_isShipped_1 (by decide) ?_
  refine lv_aload_n hx hb dL_isShipped_2 rfl (lv_at hl 0 rfl) ?_
  refine lv_iload_n hx hb dL_isShipped_3 rfl (lv_at hl 1 rfl) ?_
  refine z_cL (E := "java/lang/IndexOutOfBoundsException") [.int (nI 0), .ref ob] hst hx hb hml hown hts (m_X2_isShipped_x1 l hst Dg cI h na ta G D G1 D1 x_ e1 hG hW) gL_isShipped_X2_isShipped rfl kd_X2_isShipped ⟨Nat.le_of_ble_eq_true rfl, Nat.le_of_ble_eq_true rfl⟩ hX hP rfl hl.1 rfl (Nat.le_of_ble_eq_true rfl) dL_isShipped_4 ⟨Nat.le_of_ble_eq_true rfl, Nat.le_of_ble_eq_true rfl⟩ (fun ce q9 H hP hS hc1 hc2 hc3 => ?_)
  refine vx_catch (own := RL) (name := "java/lang/IndexOutOfBoundsException") (E := "java/lang/IndexOutOfBoundsException") hown [] ⟨0, 16, 19, 21⟩ [] htab (fun z hz => absurd hz List.not_mem_nil) rfl (by decide) (hts _ (List.mem_cons_of_mem _ (List.mem_append_left _ (List.mem_append_left _ (List.mem_append_left _ (List.mem_append_left _ (List.mem_of_getElem? (i := 0) rfl))))))) (va_Nw.use rfl hX.2.2.1.2.2.2.2.2.2.2.2.2.2.2.2.2.2.2.1) hc1 hc2 hc3 ?_
  refine lv_astore_n (lv' := [(3, .ref q9), (0, .ref h), (1, .int x_), (2, .ref ob)]) hx hb dL_isShipped_19 rfl hl (by decide) rfl (fun ls hl => ?_)
  refine lv_iconst (v := 1) hx hb dL_isShipped_20 (by decide) ?_
  exact z_eL (w' := (z_oW cI cL h na ta ob G D G1 D1 o9)) (z_PW.of (fun q => absurd q (by decide))) rfl hP hS ⟨Nat.le_of_ble_eq_true rfl, Nat.le_of_ble_eq_true rfl⟩ hx hb hr hlk dL_isShipped_21

set_option maxHeartbeats 4000000 in
set_option maxRecDepth 100000 in
theorem m_L_isShipped_ok (l : Launch) (hst : l.stackTraces = false) (Dg : va_G) (cI : ClassId) (cL : ClassId) (h : Nat) (na ta : Nat → Nat) (G : z_GG) (D : z_DD) (G1 : z_GG) (D1 : z_DD) (ob : Nat) (o9 : Nat → Int64) (t : Nat) (ht : t < z_tc G) (hG : z_WG G) (hW : z_WD G D) : z_ML l yL_isShipped wsL_isShipped 8 132 [.ref h, .int (nI t), .ref ob] Dg cI cL (z_oW cI cL h na ta ob G D G1 D1 o9) (z_PW 0 ((z_bI (z_pl D t == 2) : Int32).toInt64) cI cL h na ta ob G D) := by
  have htc : z_tc G ≤ 60 := hG.2.2.2.2.2.1
  have hbc : z_bc G ≤ 6 := hG.2.2.2.2.1
  refine z_sL (own := RL) (hh := [(0, 16, 19, 21)]) (l0 := [(0, .ref h), (1, .int (nI t)), (2, .ref ob)]) rfl rfl (by decide) (Nat.le_of_ble_eq_true rfl) rfl ?_
  intro p e s m below meth c hx hb hr hml hts hown hlk htab hP hX hD hS ls hl
  refine lv_aload_n hx hb dL_isShipped_0 rfl (lv_at hl 2 rfl) ?_
  refine lv_iconst (v := nI 0) hx hb dL_isShipped_1 (by decide) ?_
  refine lv_aload_n hx hb dL_isShipped_2 rfl (lv_at hl 0 rfl) ?_
  refine lv_iload_n hx hb dL_isShipped_3 rfl (lv_at hl 1 rfl) ?_
  refine z_rVi (v := z_bI (z_pl D t == 2)) [.int (nI 0), .ref ob] hx hb hml hown hts (m_X2_isShipped l Dg cI h na ta G D G1 D1 t ht hG hW) gL_isShipped_X2_isShipped rfl kd_X2_isShipped ⟨Nat.le_of_ble_eq_true rfl, Nat.le_of_ble_eq_true rfl⟩ hX.1.1 hX.1.2 (z_Pl hP) rfl rfl rfl rfl hl.1 rfl (Nat.le_of_ble_eq_true rfl) dL_isShipped_4 ⟨Nat.zero_le _, Nat.zero_le _⟩ ?_
  refine lv_if_eq (tgt := 14) hx hb dL_isShipped_7 (by decide) (fun c7 => ?_) (fun c7 => ?_)
  · skip
    refine lv_lconst (v := 0) hx hb dL_isShipped_14 (by decide) ?_
    refine z_topl (x' := (z_bI (z_pl D t == 2)).toInt64) (by rw [z_bI0 c7]; rfl) ?_
    refine va_last hx hb hX.2.1 hP hD hS 39 0 rfl rfl (vp_in_nI (by decide) (by decide)) dL_isShipped_15 (fun H locs hP hD hS => ?_)
    have hP : va_P Dg vwCl (z_oW cI cL h na ta ob G D G1 D1 (vp_updL o9 (nI 0).toNatClampNeg ((z_bI (z_pl D t == 2)).toInt64))) H := hP
    refine lv_goto (tgt := 22) hx hb dL_isShipped_16 (by decide) ?_
    refine lv_iconst (v := 0) hx hb dL_isShipped_22 (by decide) ?_
    exact z_eL (w' := (z_oW cI cL h na ta ob G D G1 D1 (vp_updL o9 (nI 0).toNatClampNeg ((z_bI (z_pl D t == 2)).toInt64)))) (z_PW.of (fun _ => rfl)) rfl hP hS ⟨Nat.le_of_ble_eq_true rfl, Nat.le_of_ble_eq_true rfl⟩ hx hb hr hlk dL_isShipped_23
  · skip
    refine lv_lconst (v := 1) hx hb dL_isShipped_10 (by decide) ?_
    refine lv_goto (tgt := 15) hx hb dL_isShipped_11 (by decide) ?_
    refine z_topl (x' := (z_bI (z_pl D t == 2)).toInt64) (by rw [z_bI1 c7]; rfl) ?_
    refine va_last hx hb hX.2.1 hP hD hS 39 0 rfl rfl (vp_in_nI (by decide) (by decide)) dL_isShipped_15 (fun H locs hP hD hS => ?_)
    have hP : va_P Dg vwCl (z_oW cI cL h na ta ob G D G1 D1 (vp_updL o9 (nI 0).toNatClampNeg ((z_bI (z_pl D t == 2)).toInt64))) H := hP
    refine lv_goto (tgt := 22) hx hb dL_isShipped_16 (by decide) ?_
    refine lv_iconst (v := 0) hx hb dL_isShipped_22 (by decide) ?_
    exact z_eL (w' := (z_oW cI cL h na ta ob G D G1 D1 (vp_updL o9 (nI 0).toNatClampNeg ((z_bI (z_pl D t == 2)).toInt64)))) (z_PW.of (fun _ => rfl)) rfl hP hS ⟨Nat.le_of_ble_eq_true rfl, Nat.le_of_ble_eq_true rfl⟩ hx hb hr hlk dL_isShipped_23

set_option maxHeartbeats 4000000 in
set_option maxRecDepth 100000 in
theorem m_L_isLost_x1 (l : Launch) (hst : l.stackTraces = false) (Dg : va_G) (cI : ClassId) (cL : ClassId) (h : Nat) (na ta : Nat → Nat) (G : z_GG) (D : z_DD) (G1 : z_GG) (D1 : z_DD) (ob : Nat) (o9 : Nat → Int64) (x_ : Int32) (e1 : ¬ (0 ≤ x_ ∧ x_ ≤ nI (z_tc G) - 1)) (hG : z_WG G) (hW : z_WD G D) : z_ML l yL_isLost wsL_isLost 8 132 [.ref h, .int x_, .ref ob] Dg cI cL (z_oW cI cL h na ta ob G D G1 D1 o9) (z_PW 1 (0 : Int64) cI cL h na ta ob G D) := by
  have htc : z_tc G ≤ 60 := hG.2.2.2.2.2.1
  have hbc : z_bc G ≤ 6 := hG.2.2.2.2.1
  refine z_sL (own := RL) (hh := [(0, 16, 19, 21)]) (l0 := [(0, .ref h), (1, .int x_), (2, .ref ob)]) rfl rfl (by decide) (Nat.le_of_ble_eq_true rfl) rfl ?_
  intro p e s m below meth c hx hb hr hml hts hown hlk htab hP hX hD hS ls hl
  refine lv_aload_n hx hb dL_isLost_0 rfl (lv_at hl 2 rfl) ?_
  refine lv_iconst (v := nI 0) hx hb dL_isLost_1 (by decide) ?_
  refine lv_aload_n hx hb dL_isLost_2 rfl (lv_at hl 0 rfl) ?_
  refine lv_iload_n hx hb dL_isLost_3 rfl (lv_at hl 1 rfl) ?_
  refine z_cL (E := "java/lang/IndexOutOfBoundsException") [.int (nI 0), .ref ob] hst hx hb hml hown hts (m_X2_isLost_x1 l hst Dg cI h na ta G D G1 D1 x_ e1 hG hW) gL_isLost_X2_isLost rfl kd_X2_isLost ⟨Nat.le_of_ble_eq_true rfl, Nat.le_of_ble_eq_true rfl⟩ hX hP rfl hl.1 rfl (Nat.le_of_ble_eq_true rfl) dL_isLost_4 ⟨Nat.le_of_ble_eq_true rfl, Nat.le_of_ble_eq_true rfl⟩ (fun ce q9 H hP hS hc1 hc2 hc3 => ?_)
  refine vx_catch (own := RL) (name := "java/lang/IndexOutOfBoundsException") (E := "java/lang/IndexOutOfBoundsException") hown [] ⟨0, 16, 19, 21⟩ [] htab (fun z hz => absurd hz List.not_mem_nil) rfl (by decide) (hts _ (List.mem_cons_of_mem _ (List.mem_append_left _ (List.mem_append_left _ (List.mem_append_left _ (List.mem_append_left _ (List.mem_of_getElem? (i := 0) rfl))))))) (va_Nw.use rfl hX.2.2.1.2.2.2.2.2.2.2.2.2.2.2.2.2.2.2.1) hc1 hc2 hc3 ?_
  refine lv_astore_n (lv' := [(3, .ref q9), (0, .ref h), (1, .int x_), (2, .ref ob)]) hx hb dL_isLost_19 rfl hl (by decide) rfl (fun ls hl => ?_)
  refine lv_iconst (v := 1) hx hb dL_isLost_20 (by decide) ?_
  exact z_eL (w' := (z_oW cI cL h na ta ob G D G1 D1 o9)) (z_PW.of (fun q => absurd q (by decide))) rfl hP hS ⟨Nat.le_of_ble_eq_true rfl, Nat.le_of_ble_eq_true rfl⟩ hx hb hr hlk dL_isLost_21

set_option maxHeartbeats 4000000 in
set_option maxRecDepth 100000 in
theorem m_L_isLost_ok (l : Launch) (hst : l.stackTraces = false) (Dg : va_G) (cI : ClassId) (cL : ClassId) (h : Nat) (na ta : Nat → Nat) (G : z_GG) (D : z_DD) (G1 : z_GG) (D1 : z_DD) (ob : Nat) (o9 : Nat → Int64) (t : Nat) (ht : t < z_tc G) (hG : z_WG G) (hW : z_WD G D) : z_ML l yL_isLost wsL_isLost 8 132 [.ref h, .int (nI t), .ref ob] Dg cI cL (z_oW cI cL h na ta ob G D G1 D1 o9) (z_PW 0 ((z_bI (z_pl D t == 3) : Int32).toInt64) cI cL h na ta ob G D) := by
  have htc : z_tc G ≤ 60 := hG.2.2.2.2.2.1
  have hbc : z_bc G ≤ 6 := hG.2.2.2.2.1
  refine z_sL (own := RL) (hh := [(0, 16, 19, 21)]) (l0 := [(0, .ref h), (1, .int (nI t)), (2, .ref ob)]) rfl rfl (by decide) (Nat.le_of_ble_eq_true rfl) rfl ?_
  intro p e s m below meth c hx hb hr hml hts hown hlk htab hP hX hD hS ls hl
  refine lv_aload_n hx hb dL_isLost_0 rfl (lv_at hl 2 rfl) ?_
  refine lv_iconst (v := nI 0) hx hb dL_isLost_1 (by decide) ?_
  refine lv_aload_n hx hb dL_isLost_2 rfl (lv_at hl 0 rfl) ?_
  refine lv_iload_n hx hb dL_isLost_3 rfl (lv_at hl 1 rfl) ?_
  refine z_rVi (v := z_bI (z_pl D t == 3)) [.int (nI 0), .ref ob] hx hb hml hown hts (m_X2_isLost l Dg cI h na ta G D G1 D1 t ht hG hW) gL_isLost_X2_isLost rfl kd_X2_isLost ⟨Nat.le_of_ble_eq_true rfl, Nat.le_of_ble_eq_true rfl⟩ hX.1.1 hX.1.2 (z_Pl hP) rfl rfl rfl rfl hl.1 rfl (Nat.le_of_ble_eq_true rfl) dL_isLost_4 ⟨Nat.zero_le _, Nat.zero_le _⟩ ?_
  refine lv_if_eq (tgt := 14) hx hb dL_isLost_7 (by decide) (fun c7 => ?_) (fun c7 => ?_)
  · skip
    refine lv_lconst (v := 0) hx hb dL_isLost_14 (by decide) ?_
    refine z_topl (x' := (z_bI (z_pl D t == 3)).toInt64) (by rw [z_bI0 c7]; rfl) ?_
    refine va_last hx hb hX.2.1 hP hD hS 39 0 rfl rfl (vp_in_nI (by decide) (by decide)) dL_isLost_15 (fun H locs hP hD hS => ?_)
    have hP : va_P Dg vwCl (z_oW cI cL h na ta ob G D G1 D1 (vp_updL o9 (nI 0).toNatClampNeg ((z_bI (z_pl D t == 3)).toInt64))) H := hP
    refine lv_goto (tgt := 22) hx hb dL_isLost_16 (by decide) ?_
    refine lv_iconst (v := 0) hx hb dL_isLost_22 (by decide) ?_
    exact z_eL (w' := (z_oW cI cL h na ta ob G D G1 D1 (vp_updL o9 (nI 0).toNatClampNeg ((z_bI (z_pl D t == 3)).toInt64)))) (z_PW.of (fun _ => rfl)) rfl hP hS ⟨Nat.le_of_ble_eq_true rfl, Nat.le_of_ble_eq_true rfl⟩ hx hb hr hlk dL_isLost_23
  · skip
    refine lv_lconst (v := 1) hx hb dL_isLost_10 (by decide) ?_
    refine lv_goto (tgt := 15) hx hb dL_isLost_11 (by decide) ?_
    refine z_topl (x' := (z_bI (z_pl D t == 3)).toInt64) (by rw [z_bI1 c7]; rfl) ?_
    refine va_last hx hb hX.2.1 hP hD hS 39 0 rfl rfl (vp_in_nI (by decide) (by decide)) dL_isLost_15 (fun H locs hP hD hS => ?_)
    have hP : va_P Dg vwCl (z_oW cI cL h na ta ob G D G1 D1 (vp_updL o9 (nI 0).toNatClampNeg ((z_bI (z_pl D t == 3)).toInt64))) H := hP
    refine lv_goto (tgt := 22) hx hb dL_isLost_16 (by decide) ?_
    refine lv_iconst (v := 0) hx hb dL_isLost_22 (by decide) ?_
    exact z_eL (w' := (z_oW cI cL h na ta ob G D G1 D1 (vp_updL o9 (nI 0).toNatClampNeg ((z_bI (z_pl D t == 3)).toInt64)))) (z_PW.of (fun _ => rfl)) rfl hP hS ⟨Nat.le_of_ble_eq_true rfl, Nat.le_of_ble_eq_true rfl⟩ hx hb hr hlk dL_isLost_23

set_option maxHeartbeats 4000000 in
set_option maxRecDepth 100000 in
theorem m_L_daysOf_x1 (l : Launch) (hst : l.stackTraces = false) (Dg : va_G) (cI : ClassId) (cL : ClassId) (h : Nat) (na ta : Nat → Nat) (G : z_GG) (D : z_DD) (G1 : z_GG) (D1 : z_DD) (ob : Nat) (o9 : Nat → Int64) (x_ : Int32) (e1 : ¬ (0 ≤ x_ ∧ x_ ≤ nI (z_tc G) - 1)) (hG : z_WG G) (hW : z_WD G D) : z_ML l yL_daysOf wsL_daysOf 8 132 [.ref h, .int x_, .ref ob] Dg cI cL (z_oW cI cL h na ta ob G D G1 D1 o9) (z_PW 1 (0 : Int64) cI cL h na ta ob G D) := by
  have htc : z_tc G ≤ 60 := hG.2.2.2.2.2.1
  have hbc : z_bc G ≤ 6 := hG.2.2.2.2.1
  refine z_sL (own := RL) (hh := [(0, 9, 12, 21)]) (l0 := [(0, .ref h), (1, .int x_), (2, .ref ob)]) rfl rfl (by decide) (Nat.le_of_ble_eq_true rfl) rfl ?_
  intro p e s m below meth c hx hb hr hml hts hown hlk htab hP hX hD hS ls hl
  refine lv_aload_n hx hb dL_daysOf_0 rfl (lv_at hl 2 rfl) ?_
  refine lv_iconst (v := nI 0) hx hb dL_daysOf_1 (by decide) ?_
  refine lv_aload_n hx hb dL_daysOf_2 rfl (lv_at hl 0 rfl) ?_
  refine lv_iload_n hx hb dL_daysOf_3 rfl (lv_at hl 1 rfl) ?_
  refine z_cL (E := "java/lang/IndexOutOfBoundsException") [.int (nI 0), .ref ob] hst hx hb hml hown hts (m_X2_daysOf_x1 l hst Dg cI h na ta G D G1 D1 x_ e1 hG hW) gL_daysOf_X2_daysOf rfl kd_X2_daysOf ⟨Nat.le_of_ble_eq_true rfl, Nat.le_of_ble_eq_true rfl⟩ hX hP rfl hl.1 rfl (Nat.le_of_ble_eq_true rfl) dL_daysOf_4 ⟨Nat.le_of_ble_eq_true rfl, Nat.le_of_ble_eq_true rfl⟩ (fun ce q9 H hP hS hc1 hc2 hc3 => ?_)
  refine vx_catch (own := RL) (name := "java/lang/IndexOutOfBoundsException") (E := "java/lang/IndexOutOfBoundsException") hown [] ⟨0, 9, 12, 21⟩ [] htab (fun z hz => absurd hz List.not_mem_nil) rfl (by decide) (hts _ (List.mem_cons_of_mem _ (List.mem_append_left _ (List.mem_append_left _ (List.mem_append_left _ (List.mem_append_left _ (List.mem_append_left _ (List.mem_of_getElem? (i := 0) rfl)))))))) (va_Nw.use rfl hX.2.2.1.2.2.2.2.2.2.2.2.2.2.2.2.2.2.2.1) hc1 hc2 hc3 ?_
  refine lv_astore_n (lv' := [(3, .ref q9), (0, .ref h), (1, .int x_), (2, .ref ob)]) hx hb dL_daysOf_12 rfl hl (by decide) rfl (fun ls hl => ?_)
  refine lv_iconst (v := 1) hx hb dL_daysOf_13 (by decide) ?_
  exact z_eL (w' := (z_oW cI cL h na ta ob G D G1 D1 o9)) (z_PW.of (fun q => absurd q (by decide))) rfl hP hS ⟨Nat.le_of_ble_eq_true rfl, Nat.le_of_ble_eq_true rfl⟩ hx hb hr hlk dL_daysOf_14

set_option maxHeartbeats 4000000 in
set_option maxRecDepth 100000 in
theorem m_L_daysOf_ok (l : Launch) (hst : l.stackTraces = false) (Dg : va_G) (cI : ClassId) (cL : ClassId) (h : Nat) (na ta : Nat → Nat) (G : z_GG) (D : z_DD) (G1 : z_GG) (D1 : z_DD) (ob : Nat) (o9 : Nat → Int64) (t : Nat) (ht : t < z_tc G) (hG : z_WG G) (hW : z_WD G D) : z_ML l yL_daysOf wsL_daysOf 8 132 [.ref h, .int (nI t), .ref ob] Dg cI cL (z_oW cI cL h na ta ob G D G1 D1 o9) (z_PW 0 ((z_dof G D t : Int32).toInt64) cI cL h na ta ob G D) := by
  have htc : z_tc G ≤ 60 := hG.2.2.2.2.2.1
  have hbc : z_bc G ≤ 6 := hG.2.2.2.2.1
  refine z_sL (own := RL) (hh := [(0, 9, 12, 21)]) (l0 := [(0, .ref h), (1, .int (nI t)), (2, .ref ob)]) rfl rfl (by decide) (Nat.le_of_ble_eq_true rfl) rfl ?_
  intro p e s m below meth c hx hb hr hml hts hown hlk htab hP hX hD hS ls hl
  refine lv_aload_n hx hb dL_daysOf_0 rfl (lv_at hl 2 rfl) ?_
  refine lv_iconst (v := nI 0) hx hb dL_daysOf_1 (by decide) ?_
  refine lv_aload_n hx hb dL_daysOf_2 rfl (lv_at hl 0 rfl) ?_
  refine lv_iload_n hx hb dL_daysOf_3 rfl (lv_at hl 1 rfl) ?_
  refine z_rVi (v := z_dof G D t) [.int (nI 0), .ref ob] hx hb hml hown hts (m_X2_daysOf l Dg cI h na ta G D G1 D1 t ht hG hW) gL_daysOf_X2_daysOf rfl kd_X2_daysOf ⟨Nat.le_of_ble_eq_true rfl, Nat.le_of_ble_eq_true rfl⟩ hX.1.1 hX.1.2 (z_Pl hP) rfl rfl rfl rfl hl.1 rfl (Nat.le_of_ble_eq_true rfl) dL_daysOf_4 ⟨Nat.zero_le _, Nat.zero_le _⟩ ?_
  refine lv_i2l (v := Int32.toInt64 (z_dof G D t)) hx hb dL_daysOf_7 rfl ?_
  refine va_last hx hb hX.2.1 hP hD hS 39 0 rfl rfl (vp_in_nI (by decide) (by decide)) dL_daysOf_8 (fun H locs hP hD hS => ?_)
  have hP : va_P Dg vwCl (z_oW cI cL h na ta ob G D G1 D1 (vp_updL o9 (nI 0).toNatClampNeg (Int32.toInt64 (z_dof G D t)))) H := hP
  refine lv_goto (tgt := 15) hx hb dL_daysOf_9 (by decide) ?_
  refine lv_iconst (v := 0) hx hb dL_daysOf_15 (by decide) ?_
  exact z_eL (w' := (z_oW cI cL h na ta ob G D G1 D1 (vp_updL o9 (nI 0).toNatClampNeg (Int32.toInt64 (z_dof G D t))))) (z_PW.of (fun _ => rfl)) rfl hP hS ⟨Nat.le_of_ble_eq_true rfl, Nat.le_of_ble_eq_true rfl⟩ hx hb hr hlk dL_daysOf_16

set_option maxHeartbeats 4000000 in
set_option maxRecDepth 100000 in
theorem m_L_bestShelf_x1 (l : Launch) (hst : l.stackTraces = false) (Dg : va_G) (cI : ClassId) (cL : ClassId) (h : Nat) (na ta : Nat → Nat) (G : z_GG) (D : z_DD) (G1 : z_GG) (D1 : z_DD) (ob : Nat) (o9 : Nat → Int64) (x_ : Int32) (e1 : ¬ (0 ≤ x_ ∧ x_ ≤ nI (z_tc G) - 1)) (hG : z_WG G) (hW : z_WD G D) : z_ML l yL_bestShelf wsL_bestShelf 8 134 [.ref h, .int x_, .ref ob] Dg cI cL (z_oW cI cL h na ta ob G D G1 D1 o9) (z_PW 1 (0 : Int64) cI cL h na ta ob G D) := by
  have htc : z_tc G ≤ 60 := hG.2.2.2.2.2.1
  have hbc : z_bc G ≤ 6 := hG.2.2.2.2.1
  refine z_sL (own := RL) (hh := [(0, 9, 12, 21)]) (l0 := [(0, .ref h), (1, .int x_), (2, .ref ob)]) rfl rfl (by decide) (Nat.le_of_ble_eq_true rfl) rfl ?_
  intro p e s m below meth c hx hb hr hml hts hown hlk htab hP hX hD hS ls hl
  refine lv_aload_n hx hb dL_bestShelf_0 rfl (lv_at hl 2 rfl) ?_
  refine lv_iconst (v := nI 0) hx hb dL_bestShelf_1 (by decide) ?_
  refine lv_aload_n hx hb dL_bestShelf_2 rfl (lv_at hl 0 rfl) ?_
  refine lv_iload_n hx hb dL_bestShelf_3 rfl (lv_at hl 1 rfl) ?_
  refine z_cL (E := "java/lang/IndexOutOfBoundsException") [.int (nI 0), .ref ob] hst hx hb hml hown hts (m_X2_bestShelf_x1 l hst Dg cI h na ta G D G1 D1 x_ e1 hG hW) gL_bestShelf_X2_bestShelf rfl kd_X2_bestShelf ⟨Nat.le_of_ble_eq_true rfl, Nat.le_of_ble_eq_true rfl⟩ hX hP rfl hl.1 rfl (Nat.le_of_ble_eq_true rfl) dL_bestShelf_4 ⟨Nat.le_of_ble_eq_true rfl, Nat.le_of_ble_eq_true rfl⟩ (fun ce q9 H hP hS hc1 hc2 hc3 => ?_)
  refine vx_catch (own := RL) (name := "java/lang/IndexOutOfBoundsException") (E := "java/lang/IndexOutOfBoundsException") hown [] ⟨0, 9, 12, 21⟩ [] htab (fun z hz => absurd hz List.not_mem_nil) rfl (by decide) (hts _ (List.mem_cons_of_mem _ (List.mem_append_left _ (List.mem_append_left _ (List.mem_append_left _ (List.mem_append_left _ (List.mem_append_left _ (List.mem_of_getElem? (i := 0) rfl)))))))) (va_Nw.use rfl hX.2.2.1.2.2.2.2.2.2.2.2.2.2.2.2.2.2.2.1) hc1 hc2 hc3 ?_
  refine lv_astore_n (lv' := [(3, .ref q9), (0, .ref h), (1, .int x_), (2, .ref ob)]) hx hb dL_bestShelf_12 rfl hl (by decide) rfl (fun ls hl => ?_)
  refine lv_iconst (v := 1) hx hb dL_bestShelf_13 (by decide) ?_
  exact z_eL (w' := (z_oW cI cL h na ta ob G D G1 D1 o9)) (z_PW.of (fun q => absurd q (by decide))) rfl hP hS ⟨Nat.le_of_ble_eq_true rfl, Nat.le_of_ble_eq_true rfl⟩ hx hb hr hlk dL_bestShelf_14

set_option maxHeartbeats 4000000 in
set_option maxRecDepth 100000 in
theorem m_L_bestShelf_ok (l : Launch) (hst : l.stackTraces = false) (Dg : va_G) (cI : ClassId) (cL : ClassId) (h : Nat) (na ta : Nat → Nat) (G : z_GG) (D : z_DD) (G1 : z_GG) (D1 : z_DD) (ob : Nat) (o9 : Nat → Int64) (t : Nat) (ht : t < z_tc G) (hG : z_WG G) (hW : z_WD G D) : z_ML l yL_bestShelf wsL_bestShelf 8 134 [.ref h, .int (nI t), .ref ob] Dg cI cL (z_oW cI cL h na ta ob G D G1 D1 o9) (z_PW 0 ((z_bsh G D t : Int32).toInt64) cI cL h na ta ob G D) := by
  have htc : z_tc G ≤ 60 := hG.2.2.2.2.2.1
  have hbc : z_bc G ≤ 6 := hG.2.2.2.2.1
  refine z_sL (own := RL) (hh := [(0, 9, 12, 21)]) (l0 := [(0, .ref h), (1, .int (nI t)), (2, .ref ob)]) rfl rfl (by decide) (Nat.le_of_ble_eq_true rfl) rfl ?_
  intro p e s m below meth c hx hb hr hml hts hown hlk htab hP hX hD hS ls hl
  refine lv_aload_n hx hb dL_bestShelf_0 rfl (lv_at hl 2 rfl) ?_
  refine lv_iconst (v := nI 0) hx hb dL_bestShelf_1 (by decide) ?_
  refine lv_aload_n hx hb dL_bestShelf_2 rfl (lv_at hl 0 rfl) ?_
  refine lv_iload_n hx hb dL_bestShelf_3 rfl (lv_at hl 1 rfl) ?_
  refine z_rVi (v := z_bsh G D t) [.int (nI 0), .ref ob] hx hb hml hown hts (m_X2_bestShelf l Dg cI h na ta G D G1 D1 t ht hG hW) gL_bestShelf_X2_bestShelf rfl kd_X2_bestShelf ⟨Nat.le_of_ble_eq_true rfl, Nat.le_of_ble_eq_true rfl⟩ hX.1.1 hX.1.2 (z_Pl hP) rfl rfl rfl rfl hl.1 rfl (Nat.le_of_ble_eq_true rfl) dL_bestShelf_4 ⟨Nat.zero_le _, Nat.zero_le _⟩ ?_
  refine lv_i2l (v := Int32.toInt64 (z_bsh G D t)) hx hb dL_bestShelf_7 rfl ?_
  refine va_last hx hb hX.2.1 hP hD hS 39 0 rfl rfl (vp_in_nI (by decide) (by decide)) dL_bestShelf_8 (fun H locs hP hD hS => ?_)
  have hP : va_P Dg vwCl (z_oW cI cL h na ta ob G D G1 D1 (vp_updL o9 (nI 0).toNatClampNeg (Int32.toInt64 (z_bsh G D t)))) H := hP
  refine lv_goto (tgt := 15) hx hb dL_bestShelf_9 (by decide) ?_
  refine lv_iconst (v := 0) hx hb dL_bestShelf_15 (by decide) ?_
  exact z_eL (w' := (z_oW cI cL h na ta ob G D G1 D1 (vp_updL o9 (nI 0).toNatClampNeg (Int32.toInt64 (z_bsh G D t))))) (z_PW.of (fun _ => rfl)) rfl hP hS ⟨Nat.le_of_ble_eq_true rfl, Nat.le_of_ble_eq_true rfl⟩ hx hb hr hlk dL_bestShelf_16

set_option maxHeartbeats 4000000 in
set_option maxRecDepth 100000 in
theorem m_L_swelledOf_x1 (l : Launch) (hst : l.stackTraces = false) (Dg : va_G) (cI : ClassId) (cL : ClassId) (h : Nat) (na ta : Nat → Nat) (G : z_GG) (D : z_DD) (G1 : z_GG) (D1 : z_DD) (ob : Nat) (o9 : Nat → Int64) (x_ : Int32) (e1 : ¬ (0 ≤ x_ ∧ x_ ≤ nI (z_bc G) - 1)) (hG : z_WG G) (hW : z_WD G D) : z_ML l yL_swelledOf wsL_swelledOf 8 132 [.ref h, .int x_, .ref ob] Dg cI cL (z_oW cI cL h na ta ob G D G1 D1 o9) (z_PW 1 (0 : Int64) cI cL h na ta ob G D) := by
  have htc : z_tc G ≤ 60 := hG.2.2.2.2.2.1
  have hbc : z_bc G ≤ 6 := hG.2.2.2.2.1
  refine z_sL (own := RL) (hh := [(0, 9, 12, 21)]) (l0 := [(0, .ref h), (1, .int x_), (2, .ref ob)]) rfl rfl (by decide) (Nat.le_of_ble_eq_true rfl) rfl ?_
  intro p e s m below meth c hx hb hr hml hts hown hlk htab hP hX hD hS ls hl
  refine lv_aload_n hx hb dL_swelledOf_0 rfl (lv_at hl 2 rfl) ?_
  refine lv_iconst (v := nI 0) hx hb dL_swelledOf_1 (by decide) ?_
  refine lv_aload_n hx hb dL_swelledOf_2 rfl (lv_at hl 0 rfl) ?_
  refine lv_iload_n hx hb dL_swelledOf_3 rfl (lv_at hl 1 rfl) ?_
  refine z_cL (E := "java/lang/IndexOutOfBoundsException") [.int (nI 0), .ref ob] hst hx hb hml hown hts (m_X2_swelledOf_x1 l hst Dg cI h na ta G D G1 D1 x_ e1 hG hW) gL_swelledOf_X2_swelledOf rfl kd_X2_swelledOf ⟨Nat.le_of_ble_eq_true rfl, Nat.le_of_ble_eq_true rfl⟩ hX hP rfl hl.1 rfl (Nat.le_of_ble_eq_true rfl) dL_swelledOf_4 ⟨Nat.le_of_ble_eq_true rfl, Nat.le_of_ble_eq_true rfl⟩ (fun ce q9 H hP hS hc1 hc2 hc3 => ?_)
  refine vx_catch (own := RL) (name := "java/lang/IndexOutOfBoundsException") (E := "java/lang/IndexOutOfBoundsException") hown [] ⟨0, 9, 12, 21⟩ [] htab (fun z hz => absurd hz List.not_mem_nil) rfl (by decide) (hts _ (List.mem_cons_of_mem _ (List.mem_append_left _ (List.mem_append_left _ (List.mem_append_left _ (List.mem_append_left _ (List.mem_of_getElem? (i := 0) rfl))))))) (va_Nw.use rfl hX.2.2.1.2.2.2.2.2.2.2.2.2.2.2.2.2.2.2.1) hc1 hc2 hc3 ?_
  refine lv_astore_n (lv' := [(3, .ref q9), (0, .ref h), (1, .int x_), (2, .ref ob)]) hx hb dL_swelledOf_12 rfl hl (by decide) rfl (fun ls hl => ?_)
  refine lv_iconst (v := 1) hx hb dL_swelledOf_13 (by decide) ?_
  exact z_eL (w' := (z_oW cI cL h na ta ob G D G1 D1 o9)) (z_PW.of (fun q => absurd q (by decide))) rfl hP hS ⟨Nat.le_of_ble_eq_true rfl, Nat.le_of_ble_eq_true rfl⟩ hx hb hr hlk dL_swelledOf_14

set_option maxHeartbeats 4000000 in
set_option maxRecDepth 100000 in
theorem m_L_swelledOf_ok (l : Launch) (hst : l.stackTraces = false) (Dg : va_G) (cI : ClassId) (cL : ClassId) (h : Nat) (na ta : Nat → Nat) (G : z_GG) (D : z_DD) (G1 : z_GG) (D1 : z_DD) (ob : Nat) (o9 : Nat → Int64) (b_ : Nat) (hbb : b_ < z_bc G) (hG : z_WG G) (hW : z_WD G D) : z_ML l yL_swelledOf wsL_swelledOf 8 132 [.ref h, .int (nI b_), .ref ob] Dg cI cL (z_oW cI cL h na ta ob G D G1 D1 o9) (z_PW 0 ((z_sw D b_ : Int32).toInt64) cI cL h na ta ob G D) := by
  have htc : z_tc G ≤ 60 := hG.2.2.2.2.2.1
  have hbc : z_bc G ≤ 6 := hG.2.2.2.2.1
  refine z_sL (own := RL) (hh := [(0, 9, 12, 21)]) (l0 := [(0, .ref h), (1, .int (nI b_)), (2, .ref ob)]) rfl rfl (by decide) (Nat.le_of_ble_eq_true rfl) rfl ?_
  intro p e s m below meth c hx hb hr hml hts hown hlk htab hP hX hD hS ls hl
  refine lv_aload_n hx hb dL_swelledOf_0 rfl (lv_at hl 2 rfl) ?_
  refine lv_iconst (v := nI 0) hx hb dL_swelledOf_1 (by decide) ?_
  refine lv_aload_n hx hb dL_swelledOf_2 rfl (lv_at hl 0 rfl) ?_
  refine lv_iload_n hx hb dL_swelledOf_3 rfl (lv_at hl 1 rfl) ?_
  refine z_rVi (v := z_sw D b_) [.int (nI 0), .ref ob] hx hb hml hown hts (m_X2_swelledOf l Dg cI h na ta G D G1 D1 b_ hbb hG hW) gL_swelledOf_X2_swelledOf rfl kd_X2_swelledOf ⟨Nat.le_of_ble_eq_true rfl, Nat.le_of_ble_eq_true rfl⟩ hX.1.1 hX.1.2 (z_Pl hP) rfl rfl rfl rfl hl.1 rfl (Nat.le_of_ble_eq_true rfl) dL_swelledOf_4 ⟨Nat.zero_le _, Nat.zero_le _⟩ ?_
  refine lv_i2l (v := Int32.toInt64 (z_sw D b_)) hx hb dL_swelledOf_7 rfl ?_
  refine va_last hx hb hX.2.1 hP hD hS 39 0 rfl rfl (vp_in_nI (by decide) (by decide)) dL_swelledOf_8 (fun H locs hP hD hS => ?_)
  have hP : va_P Dg vwCl (z_oW cI cL h na ta ob G D G1 D1 (vp_updL o9 (nI 0).toNatClampNeg (Int32.toInt64 (z_sw D b_)))) H := hP
  refine lv_goto (tgt := 15) hx hb dL_swelledOf_9 (by decide) ?_
  refine lv_iconst (v := 0) hx hb dL_swelledOf_15 (by decide) ?_
  exact z_eL (w' := (z_oW cI cL h na ta ob G D G1 D1 (vp_updL o9 (nI 0).toNatClampNeg (Int32.toInt64 (z_sw D b_))))) (z_PW.of (fun _ => rfl)) rfl hP hS ⟨Nat.le_of_ble_eq_true rfl, Nat.le_of_ble_eq_true rfl⟩ hx hb hr hlk dL_swelledOf_16

set_option maxHeartbeats 4000000 in
set_option maxRecDepth 100000 in
theorem m_L_leftOf_x1 (l : Launch) (hst : l.stackTraces = false) (Dg : va_G) (cI : ClassId) (cL : ClassId) (h : Nat) (na ta : Nat → Nat) (G : z_GG) (D : z_DD) (G1 : z_GG) (D1 : z_DD) (ob : Nat) (o9 : Nat → Int64) (x_ : Int32) (e1 : ¬ (0 ≤ x_ ∧ x_ ≤ nI (z_bc G) - 1)) (hG : z_WG G) (hW : z_WD G D) : z_ML l yL_leftOf wsL_leftOf 8 132 [.ref h, .int x_, .ref ob] Dg cI cL (z_oW cI cL h na ta ob G D G1 D1 o9) (z_PW 1 (0 : Int64) cI cL h na ta ob G D) := by
  have htc : z_tc G ≤ 60 := hG.2.2.2.2.2.1
  have hbc : z_bc G ≤ 6 := hG.2.2.2.2.1
  refine z_sL (own := RL) (hh := [(0, 9, 12, 21)]) (l0 := [(0, .ref h), (1, .int x_), (2, .ref ob)]) rfl rfl (by decide) (Nat.le_of_ble_eq_true rfl) rfl ?_
  intro p e s m below meth c hx hb hr hml hts hown hlk htab hP hX hD hS ls hl
  refine lv_aload_n hx hb dL_leftOf_0 rfl (lv_at hl 2 rfl) ?_
  refine lv_iconst (v := nI 0) hx hb dL_leftOf_1 (by decide) ?_
  refine lv_aload_n hx hb dL_leftOf_2 rfl (lv_at hl 0 rfl) ?_
  refine lv_iload_n hx hb dL_leftOf_3 rfl (lv_at hl 1 rfl) ?_
  refine z_cL (E := "java/lang/IndexOutOfBoundsException") [.int (nI 0), .ref ob] hst hx hb hml hown hts (m_X2_leftOf_x1 l hst Dg cI h na ta G D G1 D1 x_ e1 hG hW) gL_leftOf_X2_leftOf rfl kd_X2_leftOf ⟨Nat.le_of_ble_eq_true rfl, Nat.le_of_ble_eq_true rfl⟩ hX hP rfl hl.1 rfl (Nat.le_of_ble_eq_true rfl) dL_leftOf_4 ⟨Nat.le_of_ble_eq_true rfl, Nat.le_of_ble_eq_true rfl⟩ (fun ce q9 H hP hS hc1 hc2 hc3 => ?_)
  refine vx_catch (own := RL) (name := "java/lang/IndexOutOfBoundsException") (E := "java/lang/IndexOutOfBoundsException") hown [] ⟨0, 9, 12, 21⟩ [] htab (fun z hz => absurd hz List.not_mem_nil) rfl (by decide) (hts _ (List.mem_cons_of_mem _ (List.mem_append_left _ (List.mem_append_left _ (List.mem_append_left _ (List.mem_append_left _ (List.mem_append_left _ (List.mem_of_getElem? (i := 0) rfl)))))))) (va_Nw.use rfl hX.2.2.1.2.2.2.2.2.2.2.2.2.2.2.2.2.2.2.1) hc1 hc2 hc3 ?_
  refine lv_astore_n (lv' := [(3, .ref q9), (0, .ref h), (1, .int x_), (2, .ref ob)]) hx hb dL_leftOf_12 rfl hl (by decide) rfl (fun ls hl => ?_)
  refine lv_iconst (v := 1) hx hb dL_leftOf_13 (by decide) ?_
  exact z_eL (w' := (z_oW cI cL h na ta ob G D G1 D1 o9)) (z_PW.of (fun q => absurd q (by decide))) rfl hP hS ⟨Nat.le_of_ble_eq_true rfl, Nat.le_of_ble_eq_true rfl⟩ hx hb hr hlk dL_leftOf_14

set_option maxHeartbeats 4000000 in
set_option maxRecDepth 100000 in
theorem m_L_leftOf_ok (l : Launch) (hst : l.stackTraces = false) (Dg : va_G) (cI : ClassId) (cL : ClassId) (h : Nat) (na ta : Nat → Nat) (G : z_GG) (D : z_DD) (G1 : z_GG) (D1 : z_DD) (ob : Nat) (o9 : Nat → Int64) (b_ : Nat) (hbb : b_ < z_bc G) (hG : z_WG G) (hW : z_WD G D) : z_ML l yL_leftOf wsL_leftOf 8 132 [.ref h, .int (nI b_), .ref ob] Dg cI cL (z_oW cI cL h na ta ob G D G1 D1 o9) (z_PW 0 ((nI (z_lf G D b_) : Int32).toInt64) cI cL h na ta ob G D) := by
  have htc : z_tc G ≤ 60 := hG.2.2.2.2.2.1
  have hbc : z_bc G ≤ 6 := hG.2.2.2.2.1
  refine z_sL (own := RL) (hh := [(0, 9, 12, 21)]) (l0 := [(0, .ref h), (1, .int (nI b_)), (2, .ref ob)]) rfl rfl (by decide) (Nat.le_of_ble_eq_true rfl) rfl ?_
  intro p e s m below meth c hx hb hr hml hts hown hlk htab hP hX hD hS ls hl
  refine lv_aload_n hx hb dL_leftOf_0 rfl (lv_at hl 2 rfl) ?_
  refine lv_iconst (v := nI 0) hx hb dL_leftOf_1 (by decide) ?_
  refine lv_aload_n hx hb dL_leftOf_2 rfl (lv_at hl 0 rfl) ?_
  refine lv_iload_n hx hb dL_leftOf_3 rfl (lv_at hl 1 rfl) ?_
  refine z_rVi (v := nI (z_lf G D b_)) [.int (nI 0), .ref ob] hx hb hml hown hts (m_X2_leftOf l Dg cI h na ta G D G1 D1 b_ hbb hG hW) gL_leftOf_X2_leftOf rfl kd_X2_leftOf ⟨Nat.le_of_ble_eq_true rfl, Nat.le_of_ble_eq_true rfl⟩ hX.1.1 hX.1.2 (z_Pl hP) rfl rfl rfl rfl hl.1 rfl (Nat.le_of_ble_eq_true rfl) dL_leftOf_4 ⟨Nat.zero_le _, Nat.zero_le _⟩ ?_
  refine lv_i2l (v := Int32.toInt64 (nI (z_lf G D b_))) hx hb dL_leftOf_7 rfl ?_
  refine va_last hx hb hX.2.1 hP hD hS 39 0 rfl rfl (vp_in_nI (by decide) (by decide)) dL_leftOf_8 (fun H locs hP hD hS => ?_)
  have hP : va_P Dg vwCl (z_oW cI cL h na ta ob G D G1 D1 (vp_updL o9 (nI 0).toNatClampNeg (Int32.toInt64 (nI (z_lf G D b_))))) H := hP
  refine lv_goto (tgt := 15) hx hb dL_leftOf_9 (by decide) ?_
  refine lv_iconst (v := 0) hx hb dL_leftOf_15 (by decide) ?_
  exact z_eL (w' := (z_oW cI cL h na ta ob G D G1 D1 (vp_updL o9 (nI 0).toNatClampNeg (Int32.toInt64 (nI (z_lf G D b_)))))) (z_PW.of (fun _ => rfl)) rfl hP hS ⟨Nat.le_of_ble_eq_true rfl, Nat.le_of_ble_eq_true rfl⟩ hx hb hr hlk dL_leftOf_16

set_option maxHeartbeats 4000000 in
set_option maxRecDepth 100000 in
theorem m_L_isRecalled_x1 (l : Launch) (hst : l.stackTraces = false) (Dg : va_G) (cI : ClassId) (cL : ClassId) (h : Nat) (na ta : Nat → Nat) (G : z_GG) (D : z_DD) (G1 : z_GG) (D1 : z_DD) (ob : Nat) (o9 : Nat → Int64) (x_ : Int32) (e1 : ¬ (0 ≤ x_ ∧ x_ ≤ nI (z_bc G) - 1)) (hG : z_WG G) (hW : z_WD G D) : z_ML l yL_isRecalled wsL_isRecalled 8 132 [.ref h, .int x_, .ref ob] Dg cI cL (z_oW cI cL h na ta ob G D G1 D1 o9) (z_PW 1 (0 : Int64) cI cL h na ta ob G D) := by
  have htc : z_tc G ≤ 60 := hG.2.2.2.2.2.1
  have hbc : z_bc G ≤ 6 := hG.2.2.2.2.1
  refine z_sL (own := RL) (hh := [(0, 16, 19, 21)]) (l0 := [(0, .ref h), (1, .int x_), (2, .ref ob)]) rfl rfl (by decide) (Nat.le_of_ble_eq_true rfl) rfl ?_
  intro p e s m below meth c hx hb hr hml hts hown hlk htab hP hX hD hS ls hl
  refine lv_aload_n hx hb dL_isRecalled_0 rfl (lv_at hl 2 rfl) ?_
  refine lv_iconst (v := nI 0) hx hb dL_isRecalled_1 (by decide) ?_
  refine lv_aload_n hx hb dL_isRecalled_2 rfl (lv_at hl 0 rfl) ?_
  refine lv_iload_n hx hb dL_isRecalled_3 rfl (lv_at hl 1 rfl) ?_
  refine z_cL (E := "java/lang/IndexOutOfBoundsException") [.int (nI 0), .ref ob] hst hx hb hml hown hts (m_X2_isRecalled_x1 l hst Dg cI h na ta G D G1 D1 x_ e1 hG hW) gL_isRecalled_X2_isRecalled rfl kd_X2_isRecalled ⟨Nat.le_of_ble_eq_true rfl, Nat.le_of_ble_eq_true rfl⟩ hX hP rfl hl.1 rfl (Nat.le_of_ble_eq_true rfl) dL_isRecalled_4 ⟨Nat.le_of_ble_eq_true rfl, Nat.le_of_ble_eq_true rfl⟩ (fun ce q9 H hP hS hc1 hc2 hc3 => ?_)
  refine vx_catch (own := RL) (name := "java/lang/IndexOutOfBoundsException") (E := "java/lang/IndexOutOfBoundsException") hown [] ⟨0, 16, 19, 21⟩ [] htab (fun z hz => absurd hz List.not_mem_nil) rfl (by decide) (hts _ (List.mem_cons_of_mem _ (List.mem_append_left _ (List.mem_append_left _ (List.mem_append_left _ (List.mem_append_left _ (List.mem_append_left _ (List.mem_of_getElem? (i := 0) rfl)))))))) (va_Nw.use rfl hX.2.2.1.2.2.2.2.2.2.2.2.2.2.2.2.2.2.2.1) hc1 hc2 hc3 ?_
  refine lv_astore_n (lv' := [(3, .ref q9), (0, .ref h), (1, .int x_), (2, .ref ob)]) hx hb dL_isRecalled_19 rfl hl (by decide) rfl (fun ls hl => ?_)
  refine lv_iconst (v := 1) hx hb dL_isRecalled_20 (by decide) ?_
  exact z_eL (w' := (z_oW cI cL h na ta ob G D G1 D1 o9)) (z_PW.of (fun q => absurd q (by decide))) rfl hP hS ⟨Nat.le_of_ble_eq_true rfl, Nat.le_of_ble_eq_true rfl⟩ hx hb hr hlk dL_isRecalled_21

set_option maxHeartbeats 4000000 in
set_option maxRecDepth 100000 in
theorem m_L_isRecalled_ok (l : Launch) (hst : l.stackTraces = false) (Dg : va_G) (cI : ClassId) (cL : ClassId) (h : Nat) (na ta : Nat → Nat) (G : z_GG) (D : z_DD) (G1 : z_GG) (D1 : z_DD) (ob : Nat) (o9 : Nat → Int64) (b_ : Nat) (hbb : b_ < z_bc G) (hG : z_WG G) (hW : z_WD G D) : z_ML l yL_isRecalled wsL_isRecalled 8 132 [.ref h, .int (nI b_), .ref ob] Dg cI cL (z_oW cI cL h na ta ob G D G1 D1 o9) (z_PW 0 ((z_bI (z_rc D b_) : Int32).toInt64) cI cL h na ta ob G D) := by
  have htc : z_tc G ≤ 60 := hG.2.2.2.2.2.1
  have hbc : z_bc G ≤ 6 := hG.2.2.2.2.1
  refine z_sL (own := RL) (hh := [(0, 16, 19, 21)]) (l0 := [(0, .ref h), (1, .int (nI b_)), (2, .ref ob)]) rfl rfl (by decide) (Nat.le_of_ble_eq_true rfl) rfl ?_
  intro p e s m below meth c hx hb hr hml hts hown hlk htab hP hX hD hS ls hl
  refine lv_aload_n hx hb dL_isRecalled_0 rfl (lv_at hl 2 rfl) ?_
  refine lv_iconst (v := nI 0) hx hb dL_isRecalled_1 (by decide) ?_
  refine lv_aload_n hx hb dL_isRecalled_2 rfl (lv_at hl 0 rfl) ?_
  refine lv_iload_n hx hb dL_isRecalled_3 rfl (lv_at hl 1 rfl) ?_
  refine z_rVi (v := z_bI (z_rc D b_)) [.int (nI 0), .ref ob] hx hb hml hown hts (m_X2_isRecalled l Dg cI h na ta G D G1 D1 b_ hbb hG hW) gL_isRecalled_X2_isRecalled rfl kd_X2_isRecalled ⟨Nat.le_of_ble_eq_true rfl, Nat.le_of_ble_eq_true rfl⟩ hX.1.1 hX.1.2 (z_Pl hP) rfl rfl rfl rfl hl.1 rfl (Nat.le_of_ble_eq_true rfl) dL_isRecalled_4 ⟨Nat.zero_le _, Nat.zero_le _⟩ ?_
  refine lv_if_eq (tgt := 14) hx hb dL_isRecalled_7 (by decide) (fun c7 => ?_) (fun c7 => ?_)
  · skip
    refine lv_lconst (v := 0) hx hb dL_isRecalled_14 (by decide) ?_
    refine z_topl (x' := (z_bI (z_rc D b_)).toInt64) (by rw [z_bI0 c7]; rfl) ?_
    refine va_last hx hb hX.2.1 hP hD hS 39 0 rfl rfl (vp_in_nI (by decide) (by decide)) dL_isRecalled_15 (fun H locs hP hD hS => ?_)
    have hP : va_P Dg vwCl (z_oW cI cL h na ta ob G D G1 D1 (vp_updL o9 (nI 0).toNatClampNeg ((z_bI (z_rc D b_)).toInt64))) H := hP
    refine lv_goto (tgt := 22) hx hb dL_isRecalled_16 (by decide) ?_
    refine lv_iconst (v := 0) hx hb dL_isRecalled_22 (by decide) ?_
    exact z_eL (w' := (z_oW cI cL h na ta ob G D G1 D1 (vp_updL o9 (nI 0).toNatClampNeg ((z_bI (z_rc D b_)).toInt64)))) (z_PW.of (fun _ => rfl)) rfl hP hS ⟨Nat.le_of_ble_eq_true rfl, Nat.le_of_ble_eq_true rfl⟩ hx hb hr hlk dL_isRecalled_23
  · skip
    refine lv_lconst (v := 1) hx hb dL_isRecalled_10 (by decide) ?_
    refine lv_goto (tgt := 15) hx hb dL_isRecalled_11 (by decide) ?_
    refine z_topl (x' := (z_bI (z_rc D b_)).toInt64) (by rw [z_bI1 c7]; rfl) ?_
    refine va_last hx hb hX.2.1 hP hD hS 39 0 rfl rfl (vp_in_nI (by decide) (by decide)) dL_isRecalled_15 (fun H locs hP hD hS => ?_)
    have hP : va_P Dg vwCl (z_oW cI cL h na ta ob G D G1 D1 (vp_updL o9 (nI 0).toNatClampNeg ((z_bI (z_rc D b_)).toInt64))) H := hP
    refine lv_goto (tgt := 22) hx hb dL_isRecalled_16 (by decide) ?_
    refine lv_iconst (v := 0) hx hb dL_isRecalled_22 (by decide) ?_
    exact z_eL (w' := (z_oW cI cL h na ta ob G D G1 D1 (vp_updL o9 (nI 0).toNatClampNeg ((z_bI (z_rc D b_)).toInt64)))) (z_PW.of (fun _ => rfl)) rfl hP hS ⟨Nat.le_of_ble_eq_true rfl, Nat.le_of_ble_eq_true rfl⟩ hx hb hr hlk dL_isRecalled_23

set_option maxHeartbeats 4000000 in
set_option maxRecDepth 100000 in
theorem m_L_daysUntilRecalled_x1 (l : Launch) (hst : l.stackTraces = false) (Dg : va_G) (cI : ClassId) (cL : ClassId) (h : Nat) (na ta : Nat → Nat) (G : z_GG) (D : z_DD) (G1 : z_GG) (D1 : z_DD) (ob : Nat) (o9 : Nat → Int64) (x_ : Int32) (e1 : ¬ (0 ≤ x_ ∧ x_ ≤ nI (z_bc G) - 1)) (hG : z_WG G) (hW : z_WD G D) : z_ML l yL_daysUntilRecalled wsL_daysUntilRecalled 8 133 [.ref h, .int x_, .ref ob] Dg cI cL (z_oW cI cL h na ta ob G D G1 D1 o9) (z_PW 1 (0 : Int64) cI cL h na ta ob G D) := by
  have htc : z_tc G ≤ 60 := hG.2.2.2.2.2.1
  have hbc : z_bc G ≤ 6 := hG.2.2.2.2.1
  refine z_sL (own := RL) (hh := [(0, 9, 12, 21)]) (l0 := [(0, .ref h), (1, .int x_), (2, .ref ob)]) rfl rfl (by decide) (Nat.le_of_ble_eq_true rfl) rfl ?_
  intro p e s m below meth c hx hb hr hml hts hown hlk htab hP hX hD hS ls hl
  refine lv_aload_n hx hb dL_daysUntilRecalled_0 rfl (lv_at hl 2 rfl) ?_
  refine lv_iconst (v := nI 0) hx hb dL_daysUntilRecalled_1 (by decide) ?_
  refine lv_aload_n hx hb dL_daysUntilRecalled_2 rfl (lv_at hl 0 rfl) ?_
  refine lv_iload_n hx hb dL_daysUntilRecalled_3 rfl (lv_at hl 1 rfl) ?_
  refine z_cL (E := "java/lang/IndexOutOfBoundsException") [.int (nI 0), .ref ob] hst hx hb hml hown hts (m_X2_daysUntilRecalled_x1 l hst Dg cI h na ta G D G1 D1 x_ e1 hG hW) gL_daysUntilRecalled_X2_daysUntilRecalled rfl kd_X2_daysUntilRecalled ⟨Nat.le_of_ble_eq_true rfl, Nat.le_of_ble_eq_true rfl⟩ hX hP rfl hl.1 rfl (Nat.le_of_ble_eq_true rfl) dL_daysUntilRecalled_4 ⟨Nat.le_of_ble_eq_true rfl, Nat.le_of_ble_eq_true rfl⟩ (fun ce q9 H hP hS hc1 hc2 hc3 => ?_)
  refine vx_catch (own := RL) (name := "java/lang/IndexOutOfBoundsException") (E := "java/lang/IndexOutOfBoundsException") hown [] ⟨0, 9, 12, 21⟩ [] htab (fun z hz => absurd hz List.not_mem_nil) rfl (by decide) (hts _ (List.mem_cons_of_mem _ (List.mem_append_left _ (List.mem_append_left _ (List.mem_append_left _ (List.mem_append_left _ (List.mem_append_left _ (List.mem_of_getElem? (i := 0) rfl)))))))) (va_Nw.use rfl hX.2.2.1.2.2.2.2.2.2.2.2.2.2.2.2.2.2.2.1) hc1 hc2 hc3 ?_
  refine lv_astore_n (lv' := [(3, .ref q9), (0, .ref h), (1, .int x_), (2, .ref ob)]) hx hb dL_daysUntilRecalled_12 rfl hl (by decide) rfl (fun ls hl => ?_)
  refine lv_iconst (v := 1) hx hb dL_daysUntilRecalled_13 (by decide) ?_
  exact z_eL (w' := (z_oW cI cL h na ta ob G D G1 D1 o9)) (z_PW.of (fun q => absurd q (by decide))) rfl hP hS ⟨Nat.le_of_ble_eq_true rfl, Nat.le_of_ble_eq_true rfl⟩ hx hb hr hlk dL_daysUntilRecalled_14

set_option maxHeartbeats 4000000 in
set_option maxRecDepth 100000 in
theorem m_L_daysUntilRecalled_ok (l : Launch) (hst : l.stackTraces = false) (Dg : va_G) (cI : ClassId) (cL : ClassId) (h : Nat) (na ta : Nat → Nat) (G : z_GG) (D : z_DD) (G1 : z_GG) (D1 : z_DD) (ob : Nat) (o9 : Nat → Int64) (b_ : Nat) (hbb : b_ < z_bc G) (hG : z_WG G) (hW : z_WD G D) : z_ML l yL_daysUntilRecalled wsL_daysUntilRecalled 8 133 [.ref h, .int (nI b_), .ref ob] Dg cI cL (z_oW cI cL h na ta ob G D G1 D1 o9) (z_PW 0 ((z_ur G D b_ : Int32).toInt64) cI cL h na ta ob G D) := by
  have htc : z_tc G ≤ 60 := hG.2.2.2.2.2.1
  have hbc : z_bc G ≤ 6 := hG.2.2.2.2.1
  refine z_sL (own := RL) (hh := [(0, 9, 12, 21)]) (l0 := [(0, .ref h), (1, .int (nI b_)), (2, .ref ob)]) rfl rfl (by decide) (Nat.le_of_ble_eq_true rfl) rfl ?_
  intro p e s m below meth c hx hb hr hml hts hown hlk htab hP hX hD hS ls hl
  refine lv_aload_n hx hb dL_daysUntilRecalled_0 rfl (lv_at hl 2 rfl) ?_
  refine lv_iconst (v := nI 0) hx hb dL_daysUntilRecalled_1 (by decide) ?_
  refine lv_aload_n hx hb dL_daysUntilRecalled_2 rfl (lv_at hl 0 rfl) ?_
  refine lv_iload_n hx hb dL_daysUntilRecalled_3 rfl (lv_at hl 1 rfl) ?_
  refine z_wCBi (v := z_ur G D b_) [.int (nI 0), .ref ob] [] [(ob, .inl (cL, 1, .inr (.inl o9)))] hx hb hml hown hts (m_X2_daysUntilRecalled l Dg cI h na ta G D G1 D1 b_ hbb hG hW) gL_daysUntilRecalled_X2_daysUntilRecalled rfl kd_X2_daysUntilRecalled ⟨Nat.le_of_ble_eq_true rfl, Nat.le_of_ble_eq_true rfl⟩ hX.1.1 hX.1.2 hP hD hS rfl hl.1 rfl (Nat.le_of_ble_eq_true rfl) dL_daysUntilRecalled_4 ⟨Nat.zero_le _, Nat.zero_le _⟩ (fun G9 D9 H locs hP hD hS => ?_)
  have hP : va_P Dg vwCl (z_oW cI cL h na ta ob G D G9 D9 o9) H := hP
  have hD : va_D _ (z_oW cI cL h na ta ob G D G9 D9 o9) := hD
  refine lv_i2l (v := Int32.toInt64 (z_ur G D b_)) hx hb dL_daysUntilRecalled_7 rfl ?_
  refine va_last hx hb hX.2.1 hP hD hS 39 0 rfl rfl (vp_in_nI (by decide) (by decide)) dL_daysUntilRecalled_8 (fun H locs hP hD hS => ?_)
  have hP : va_P Dg vwCl (z_oW cI cL h na ta ob G D G9 D9 (vp_updL o9 (nI 0).toNatClampNeg (Int32.toInt64 (z_ur G D b_)))) H := hP
  refine lv_goto (tgt := 15) hx hb dL_daysUntilRecalled_9 (by decide) ?_
  refine lv_iconst (v := 0) hx hb dL_daysUntilRecalled_15 (by decide) ?_
  exact z_eL (w' := (z_oW cI cL h na ta ob G D G9 D9 (vp_updL o9 (nI 0).toNatClampNeg (Int32.toInt64 (z_ur G D b_))))) (z_PW.of (fun _ => rfl)) rfl hP hS ⟨Nat.le_of_ble_eq_true rfl, Nat.le_of_ble_eq_true rfl⟩ hx hb hr hlk dL_daysUntilRecalled_16

set_option maxHeartbeats 4000000 in
set_option maxRecDepth 100000 in
theorem m_L_first_x1 (l : Launch) (hst : l.stackTraces = false) (Dg : va_G) (cI : ClassId) (cL : ClassId) (h : Nat) (na ta : Nat → Nat) (G : z_GG) (D : z_DD) (G1 : z_GG) (D1 : z_DD) (ob : Nat) (o9 : Nat → Int64) (x_ : Int32) (e1 : ¬ (0 ≤ x_ ∧ x_ ≤ 2)) (hG : z_WG G) (hW : z_WD G D) : z_ML l yL_first wsL_first 8 131 [.ref h, .int x_, .ref ob] Dg cI cL (z_oW cI cL h na ta ob G D G1 D1 o9) (z_PW 1 (0 : Int64) cI cL h na ta ob G D) := by
  have htc : z_tc G ≤ 60 := hG.2.2.2.2.2.1
  have hbc : z_bc G ≤ 6 := hG.2.2.2.2.1
  refine z_sL (own := RL) (hh := [(0, 9, 12, 13)]) (l0 := [(0, .ref h), (1, .int x_), (2, .ref ob)]) rfl rfl (by decide) (Nat.le_of_ble_eq_true rfl) rfl ?_
  intro p e s m below meth c hx hb hr hml hts hown hlk htab hP hX hD hS ls hl
  refine lv_aload_n hx hb dL_first_0 rfl (lv_at hl 2 rfl) ?_
  refine lv_iconst (v := nI 0) hx hb dL_first_1 (by decide) ?_
  refine lv_aload_n hx hb dL_first_2 rfl (lv_at hl 0 rfl) ?_
  refine lv_iload_n hx hb dL_first_3 rfl (lv_at hl 1 rfl) ?_
  refine z_cL (E := "java/lang/IllegalArgumentException") [.int (nI 0), .ref ob] hst hx hb hml hown hts (m_X2_first_x1 l hst Dg cI h na ta G D G1 D1 x_ e1 hG hW) gL_first_X2_first rfl kd_X2_first ⟨Nat.le_of_ble_eq_true rfl, Nat.le_of_ble_eq_true rfl⟩ hX hP rfl hl.1 rfl (Nat.le_of_ble_eq_true rfl) dL_first_4 ⟨Nat.le_of_ble_eq_true rfl, Nat.le_of_ble_eq_true rfl⟩ (fun ce q9 H hP hS hc1 hc2 hc3 => ?_)
  refine vx_catch (own := RL) (name := "java/lang/IllegalArgumentException") (E := "java/lang/IllegalArgumentException") hown [] ⟨0, 9, 12, 13⟩ [] htab (fun z hz => absurd hz List.not_mem_nil) rfl (by decide) (hts _ (List.mem_cons_of_mem _ (List.mem_append_left _ (List.mem_append_left _ (List.mem_append_left _ (List.mem_append_left _ (List.mem_append_left _ (List.mem_of_getElem? (i := 0) rfl)))))))) (va_Nw.use rfl hX.2.2.1.2.2.2.2.2.2.2.2.2.2.2.2.2.1) hc1 hc2 hc3 ?_
  refine lv_astore_n (lv' := [(3, .ref q9), (0, .ref h), (1, .int x_), (2, .ref ob)]) hx hb dL_first_12 rfl hl (by decide) rfl (fun ls hl => ?_)
  refine lv_iconst (v := 1) hx hb dL_first_13 (by decide) ?_
  exact z_eL (w' := (z_oW cI cL h na ta ob G D G1 D1 o9)) (z_PW.of (fun q => absurd q (by decide))) rfl hP hS ⟨Nat.le_of_ble_eq_true rfl, Nat.le_of_ble_eq_true rfl⟩ hx hb hr hlk dL_first_14

set_option maxHeartbeats 4000000 in
set_option maxRecDepth 100000 in
theorem m_L_first_ok (l : Launch) (hst : l.stackTraces = false) (Dg : va_G) (cI : ClassId) (cL : ClassId) (h : Nat) (na ta : Nat → Nat) (G : z_GG) (D : z_DD) (G1 : z_GG) (D1 : z_DD) (ob : Nat) (o9 : Nat → Int64) (o : Nat) (ho : o < 3) (hG : z_WG G) (hW : z_WD G D) : z_ML l yL_first wsL_first 8 131 [.ref h, .int (nI o), .ref ob] Dg cI cL (z_oW cI cL h na ta ob G D G1 D1 o9) (z_PW 0 ((z_oi (z_fb G D o (z_tc G)) : Int32).toInt64) cI cL h na ta ob G D) := by
  have htc : z_tc G ≤ 60 := hG.2.2.2.2.2.1
  have hbc : z_bc G ≤ 6 := hG.2.2.2.2.1
  refine z_sL (own := RL) (hh := [(0, 9, 12, 13)]) (l0 := [(0, .ref h), (1, .int (nI o)), (2, .ref ob)]) rfl rfl (by decide) (Nat.le_of_ble_eq_true rfl) rfl ?_
  intro p e s m below meth c hx hb hr hml hts hown hlk htab hP hX hD hS ls hl
  refine lv_aload_n hx hb dL_first_0 rfl (lv_at hl 2 rfl) ?_
  refine lv_iconst (v := nI 0) hx hb dL_first_1 (by decide) ?_
  refine lv_aload_n hx hb dL_first_2 rfl (lv_at hl 0 rfl) ?_
  refine lv_iload_n hx hb dL_first_3 rfl (lv_at hl 1 rfl) ?_
  refine z_rVi (v := z_oi (z_fb G D o (z_tc G))) [.int (nI 0), .ref ob] hx hb hml hown hts (m_X2_first l Dg cI h na ta G D G1 D1 o ho hG hW) gL_first_X2_first rfl kd_X2_first ⟨Nat.le_of_ble_eq_true rfl, Nat.le_of_ble_eq_true rfl⟩ hX.1.1 hX.1.2 (z_Pl hP) rfl rfl rfl rfl hl.1 rfl (Nat.le_of_ble_eq_true rfl) dL_first_4 ⟨Nat.zero_le _, Nat.zero_le _⟩ ?_
  refine lv_i2l (v := Int32.toInt64 (z_oi (z_fb G D o (z_tc G)))) hx hb dL_first_7 rfl ?_
  refine va_last hx hb hX.2.1 hP hD hS 39 0 rfl rfl (vp_in_nI (by decide) (by decide)) dL_first_8 (fun H locs hP hD hS => ?_)
  have hP : va_P Dg vwCl (z_oW cI cL h na ta ob G D G1 D1 (vp_updL o9 (nI 0).toNatClampNeg (Int32.toInt64 (z_oi (z_fb G D o (z_tc G)))))) H := hP
  refine lv_goto (tgt := 15) hx hb dL_first_9 (by decide) ?_
  refine lv_iconst (v := 0) hx hb dL_first_15 (by decide) ?_
  exact z_eL (w' := (z_oW cI cL h na ta ob G D G1 D1 (vp_updL o9 (nI 0).toNatClampNeg (Int32.toInt64 (z_oi (z_fb G D o (z_tc G))))))) (z_PW.of (fun _ => rfl)) rfl hP hS ⟨Nat.le_of_ble_eq_true rfl, Nat.le_of_ble_eq_true rfl⟩ hx hb hr hlk dL_first_16

set_option maxHeartbeats 4000000 in
set_option maxRecDepth 100000 in
theorem m_L_placeBy_x1 (l : Launch) (hst : l.stackTraces = false) (Dg : va_G) (cI : ClassId) (cL : ClassId) (h : Nat) (na ta : Nat → Nat) (G : z_GG) (D : z_DD) (G1 : z_GG) (D1 : z_DD) (ob : Nat) (o9 : Nat → Int64) (x_ : Int32) (y_ : Int32) (e1 : ¬ (0 ≤ x_ ∧ x_ ≤ nI (z_tc G) - 1)) (hG : z_WG G) (hW : z_WD G D) : z_ML l yL_placeBy wsL_placeBy 8 133 [.ref h, .int x_, .int y_, .ref ob] Dg cI cL (z_oW cI cL h na ta ob G D G1 D1 o9) (z_PW 1 (0 : Int64) cI cL h na ta ob G D) := by
  have htc : z_tc G ≤ 60 := hG.2.2.2.2.2.1
  have hbc : z_bc G ≤ 6 := hG.2.2.2.2.1
  refine z_sL (own := RL) (hh := [(0, 10, 13, 21), (0, 10, 17, 13)]) (l0 := [(0, .ref h), (1, .int x_), (2, .int y_), (3, .ref ob)]) rfl rfl (by decide) (Nat.le_of_ble_eq_true rfl) rfl ?_
  intro p e s m below meth c hx hb hr hml hts hown hlk htab hP hX hD hS ls hl
  refine lv_aload_n hx hb dL_placeBy_0 rfl (lv_at hl 3 rfl) ?_
  refine lv_iconst (v := nI 0) hx hb dL_placeBy_1 (by decide) ?_
  refine lv_aload_n hx hb dL_placeBy_2 rfl (lv_at hl 0 rfl) ?_
  refine lv_iload_n hx hb dL_placeBy_3 rfl (lv_at hl 1 rfl) ?_
  refine lv_iload_n hx hb dL_placeBy_4 rfl (lv_at hl 2 rfl) ?_
  refine z_cL (E := "java/lang/IndexOutOfBoundsException") [.int (nI 0), .ref ob] hst hx hb hml hown hts (m_X2_placeBy_x1 l hst Dg cI h na ta G D G1 D1 x_ y_ e1 hG hW) gL_placeBy_X2_placeBy rfl kd_X2_placeBy ⟨Nat.le_of_ble_eq_true rfl, Nat.le_of_ble_eq_true rfl⟩ hX hP rfl hl.1 rfl (Nat.le_of_ble_eq_true rfl) dL_placeBy_5 ⟨Nat.le_of_ble_eq_true rfl, Nat.le_of_ble_eq_true rfl⟩ (fun ce q9 H hP hS hc1 hc2 hc3 => ?_)
  refine vx_catch (own := RL) (name := "java/lang/IndexOutOfBoundsException") (E := "java/lang/IndexOutOfBoundsException") hown [] ⟨0, 10, 13, 21⟩ [⟨0, 10, 17, 13⟩] htab (fun z hz => absurd hz List.not_mem_nil) rfl (by decide) (hts _ (List.mem_cons_of_mem _ (List.mem_append_left _ (List.mem_append_left _ (List.mem_append_left _ (List.mem_append_left _ (List.mem_append_left _ (List.mem_append_left _ (List.mem_of_getElem? (i := 0) rfl))))))))) (va_Nw.use rfl hX.2.2.1.2.2.2.2.2.2.2.2.2.2.2.2.2.2.2.1) hc1 hc2 hc3 ?_
  refine lv_astore (lv' := [(4, .ref q9), (0, .ref h), (1, .int x_), (2, .int y_), (3, .ref ob)]) hx hb dL_placeBy_13 hl (by decide) rfl (fun ls hl => ?_)
  refine lv_iconst (v := 1) hx hb dL_placeBy_15 (by decide) ?_
  exact z_eL (w' := (z_oW cI cL h na ta ob G D G1 D1 o9)) (z_PW.of (fun q => absurd q (by decide))) rfl hP hS ⟨Nat.le_of_ble_eq_true rfl, Nat.le_of_ble_eq_true rfl⟩ hx hb hr hlk dL_placeBy_16

set_option maxHeartbeats 4000000 in
set_option maxRecDepth 100000 in
theorem m_L_placeBy_x2 (l : Launch) (hst : l.stackTraces = false) (Dg : va_G) (cI : ClassId) (cL : ClassId) (h : Nat) (na ta : Nat → Nat) (G : z_GG) (D : z_DD) (G1 : z_GG) (D1 : z_DD) (ob : Nat) (o9 : Nat → Int64) (t : Nat) (x_ : Int32) (ht : t < z_tc G) (e1 : ¬ (0 ≤ x_ ∧ x_ ≤ 2)) (hG : z_WG G) (hW : z_WD G D) : z_ML l yL_placeBy wsL_placeBy 8 133 [.ref h, .int (nI t), .int x_, .ref ob] Dg cI cL (z_oW cI cL h na ta ob G D G1 D1 o9) (z_PW 2 (0 : Int64) cI cL h na ta ob G D) := by
  have htc : z_tc G ≤ 60 := hG.2.2.2.2.2.1
  have hbc : z_bc G ≤ 6 := hG.2.2.2.2.1
  refine z_sL (own := RL) (hh := [(0, 10, 13, 21), (0, 10, 17, 13)]) (l0 := [(0, .ref h), (1, .int (nI t)), (2, .int x_), (3, .ref ob)]) rfl rfl (by decide) (Nat.le_of_ble_eq_true rfl) rfl ?_
  intro p e s m below meth c hx hb hr hml hts hown hlk htab hP hX hD hS ls hl
  refine lv_aload_n hx hb dL_placeBy_0 rfl (lv_at hl 3 rfl) ?_
  refine lv_iconst (v := nI 0) hx hb dL_placeBy_1 (by decide) ?_
  refine lv_aload_n hx hb dL_placeBy_2 rfl (lv_at hl 0 rfl) ?_
  refine lv_iload_n hx hb dL_placeBy_3 rfl (lv_at hl 1 rfl) ?_
  refine lv_iload_n hx hb dL_placeBy_4 rfl (lv_at hl 2 rfl) ?_
  refine z_cL (E := "java/lang/IllegalArgumentException") [.int (nI 0), .ref ob] hst hx hb hml hown hts (m_X2_placeBy_x2 l hst Dg cI h na ta G D G1 D1 t x_ ht e1 hG hW) gL_placeBy_X2_placeBy rfl kd_X2_placeBy ⟨Nat.le_of_ble_eq_true rfl, Nat.le_of_ble_eq_true rfl⟩ hX hP rfl hl.1 rfl (Nat.le_of_ble_eq_true rfl) dL_placeBy_5 ⟨Nat.le_of_ble_eq_true rfl, Nat.le_of_ble_eq_true rfl⟩ (fun ce q9 H hP hS hc1 hc2 hc3 => ?_)
  refine vx_catch (own := RL) (name := "java/lang/IllegalArgumentException") (E := "java/lang/IllegalArgumentException") hown [⟨0, 10, 13, 21⟩] ⟨0, 10, 17, 13⟩ [] htab (fun z hz => by obtain rfl := List.mem_singleton.mp hz; exact Or.inr ⟨by decide, _, (hts _ (List.mem_cons_of_mem _ (List.mem_append_left _ (List.mem_append_left _ (List.mem_append_left _ (List.mem_append_left _ (List.mem_append_left _ (List.mem_append_left _ (List.mem_of_getElem? (i := 0) rfl))))))))), hX.2.2.2.2.2.1⟩) rfl (by decide) (hts _ (List.mem_cons_of_mem _ (List.mem_append_left _ (List.mem_append_left _ (List.mem_append_left _ (List.mem_append_left _ (List.mem_append_left _ (List.mem_append_left _ (List.mem_of_getElem? (i := 1) rfl))))))))) (va_Nw.use rfl hX.2.2.1.2.2.2.2.2.2.2.2.2.2.2.2.2.1) hc1 hc2 hc3 ?_
  refine lv_astore (lv' := [(4, .ref q9), (0, .ref h), (1, .int (nI t)), (2, .int x_), (3, .ref ob)]) hx hb dL_placeBy_17 hl (by decide) rfl (fun ls hl => ?_)
  refine lv_iconst (v := 2) hx hb dL_placeBy_19 (by decide) ?_
  exact z_eL (w' := (z_oW cI cL h na ta ob G D G1 D1 o9)) (z_PW.of (fun q => absurd q (by decide))) rfl hP hS ⟨Nat.le_of_ble_eq_true rfl, Nat.le_of_ble_eq_true rfl⟩ hx hb hr hlk dL_placeBy_20

set_option maxHeartbeats 4000000 in
set_option maxRecDepth 100000 in
theorem m_L_placeBy_ok (l : Launch) (hst : l.stackTraces = false) (Dg : va_G) (cI : ClassId) (cL : ClassId) (h : Nat) (na ta : Nat → Nat) (G : z_GG) (D : z_DD) (G1 : z_GG) (D1 : z_DD) (ob : Nat) (o9 : Nat → Int64) (t : Nat) (o : Nat) (ht : t < z_tc G) (ho : o < 3) (hG : z_WG G) (hW : z_WD G D) : z_ML l yL_placeBy wsL_placeBy 8 133 [.ref h, .int (nI t), .int (nI o), .ref ob] Dg cI cL (z_oW cI cL h na ta ob G D G1 D1 o9) (z_PW 0 ((z_plb G D o t : Int32).toInt64) cI cL h na ta ob G D) := by
  have htc : z_tc G ≤ 60 := hG.2.2.2.2.2.1
  have hbc : z_bc G ≤ 6 := hG.2.2.2.2.1
  refine z_sL (own := RL) (hh := [(0, 10, 13, 21), (0, 10, 17, 13)]) (l0 := [(0, .ref h), (1, .int (nI t)), (2, .int (nI o)), (3, .ref ob)]) rfl rfl (by decide) (Nat.le_of_ble_eq_true rfl) rfl ?_
  intro p e s m below meth c hx hb hr hml hts hown hlk htab hP hX hD hS ls hl
  refine lv_aload_n hx hb dL_placeBy_0 rfl (lv_at hl 3 rfl) ?_
  refine lv_iconst (v := nI 0) hx hb dL_placeBy_1 (by decide) ?_
  refine lv_aload_n hx hb dL_placeBy_2 rfl (lv_at hl 0 rfl) ?_
  refine lv_iload_n hx hb dL_placeBy_3 rfl (lv_at hl 1 rfl) ?_
  refine lv_iload_n hx hb dL_placeBy_4 rfl (lv_at hl 2 rfl) ?_
  refine z_rVi (v := z_plb G D o t) [.int (nI 0), .ref ob] hx hb hml hown hts (m_X2_placeBy l Dg cI h na ta G D G1 D1 t o ht ho hG hW) gL_placeBy_X2_placeBy rfl kd_X2_placeBy ⟨Nat.le_of_ble_eq_true rfl, Nat.le_of_ble_eq_true rfl⟩ hX.1.1 hX.1.2 (z_Pl hP) rfl rfl rfl rfl hl.1 rfl (Nat.le_of_ble_eq_true rfl) dL_placeBy_5 ⟨Nat.zero_le _, Nat.zero_le _⟩ ?_
  refine lv_i2l (v := Int32.toInt64 (z_plb G D o t)) hx hb dL_placeBy_8 rfl ?_
  refine va_last hx hb hX.2.1 hP hD hS 39 0 rfl rfl (vp_in_nI (by decide) (by decide)) dL_placeBy_9 (fun H locs hP hD hS => ?_)
  have hP : va_P Dg vwCl (z_oW cI cL h na ta ob G D G1 D1 (vp_updL o9 (nI 0).toNatClampNeg (Int32.toInt64 (z_plb G D o t)))) H := hP
  refine lv_goto (tgt := 21) hx hb dL_placeBy_10 (by decide) ?_
  refine lv_iconst (v := 0) hx hb dL_placeBy_21 (by decide) ?_
  exact z_eL (w' := (z_oW cI cL h na ta ob G D G1 D1 (vp_updL o9 (nI 0).toNatClampNeg (Int32.toInt64 (z_plb G D o t))))) (z_PW.of (fun _ => rfl)) rfl hP hS ⟨Nat.le_of_ble_eq_true rfl, Nat.le_of_ble_eq_true rfl⟩ hx hb hr hlk dL_placeBy_22

set_option maxHeartbeats 4000000 in
set_option maxRecDepth 100000 in
theorem m_L_lostWith_x1 (l : Launch) (hst : l.stackTraces = false) (Dg : va_G) (cI : ClassId) (cL : ClassId) (h : Nat) (na ta : Nat → Nat) (G : z_GG) (D : z_DD) (G1 : z_GG) (D1 : z_DD) (ob : Nat) (o9 : Nat → Int64) (x_ : Int32) (y_ : Int32) (e1 : ¬ (0 ≤ x_ ∧ x_ ≤ 9)) (hG : z_WG G) (hW : z_WD G D) : z_ML l yL_lostWith wsL_lostWith 9 153 [.ref h, .int x_, .int y_, .ref ob] Dg cI cL (z_oW cI cL h na ta ob G D G1 D1 o9) (z_PW 1 (0 : Int64) cI cL h na ta ob G D) := by
  have htc : z_tc G ≤ 60 := hG.2.2.2.2.2.1
  have hbc : z_bc G ≤ 6 := hG.2.2.2.2.1
  refine z_sL (own := RL) (hh := [(0, 10, 13, 13)]) (l0 := [(0, .ref h), (1, .int x_), (2, .int y_), (3, .ref ob)]) rfl rfl (by decide) (Nat.le_of_ble_eq_true rfl) rfl ?_
  intro p e s m below meth c hx hb hr hml hts hown hlk htab hP hX hD hS ls hl
  refine lv_aload_n hx hb dL_lostWith_0 rfl (lv_at hl 3 rfl) ?_
  refine lv_iconst (v := nI 0) hx hb dL_lostWith_1 (by decide) ?_
  refine lv_aload_n hx hb dL_lostWith_2 rfl (lv_at hl 0 rfl) ?_
  refine lv_iload_n hx hb dL_lostWith_3 rfl (lv_at hl 1 rfl) ?_
  refine lv_iload_n hx hb dL_lostWith_4 rfl (lv_at hl 2 rfl) ?_
  refine z_cL (E := "java/lang/IllegalArgumentException") [.int (nI 0), .ref ob] hst hx hb hml hown hts (m_X2_lostWith_x1 l hst Dg cI h na ta G D G1 D1 x_ y_ e1 hG hW) gL_lostWith_X2_lostWith rfl kd_X2_lostWith ⟨Nat.le_of_ble_eq_true rfl, Nat.le_of_ble_eq_true rfl⟩ hX hP rfl hl.1 rfl (Nat.le_of_ble_eq_true rfl) dL_lostWith_5 ⟨Nat.le_of_ble_eq_true rfl, Nat.le_of_ble_eq_true rfl⟩ (fun ce q9 H hP hS hc1 hc2 hc3 => ?_)
  refine vx_catch (own := RL) (name := "java/lang/IllegalArgumentException") (E := "java/lang/IllegalArgumentException") hown [] ⟨0, 10, 13, 13⟩ [] htab (fun z hz => absurd hz List.not_mem_nil) rfl (by decide) (hts _ (List.mem_cons_of_mem _ (List.mem_append_left _ (List.mem_append_left _ (List.mem_append_left _ (List.mem_append_left _ (List.mem_append_left _ (List.mem_of_getElem? (i := 0) rfl)))))))) (va_Nw.use rfl hX.2.2.1.2.2.2.2.2.2.2.2.2.2.2.2.2.1) hc1 hc2 hc3 ?_
  refine lv_astore (lv' := [(4, .ref q9), (0, .ref h), (1, .int x_), (2, .int y_), (3, .ref ob)]) hx hb dL_lostWith_13 hl (by decide) rfl (fun ls hl => ?_)
  refine lv_iconst (v := 1) hx hb dL_lostWith_15 (by decide) ?_
  exact z_eL (w' := (z_oW cI cL h na ta ob G D G1 D1 o9)) (z_PW.of (fun q => absurd q (by decide))) rfl hP hS ⟨Nat.le_of_ble_eq_true rfl, Nat.le_of_ble_eq_true rfl⟩ hx hb hr hlk dL_lostWith_16

set_option maxHeartbeats 4000000 in
set_option maxRecDepth 100000 in
theorem m_L_lostWith_x2 (l : Launch) (hst : l.stackTraces = false) (Dg : va_G) (cI : ClassId) (cL : ClassId) (h : Nat) (na ta : Nat → Nat) (G : z_GG) (D : z_DD) (G1 : z_GG) (D1 : z_DD) (ob : Nat) (o9 : Nat → Int64) (m_ : Nat) (x_ : Int32) (hm9 : m_ < 10) (e1 : ¬ (0 ≤ x_ ∧ x_ ≤ 2)) (hG : z_WG G) (hW : z_WD G D) : z_ML l yL_lostWith wsL_lostWith 9 153 [.ref h, .int (nI m_), .int x_, .ref ob] Dg cI cL (z_oW cI cL h na ta ob G D G1 D1 o9) (z_PW 1 (0 : Int64) cI cL h na ta ob G D) := by
  have htc : z_tc G ≤ 60 := hG.2.2.2.2.2.1
  have hbc : z_bc G ≤ 6 := hG.2.2.2.2.1
  refine z_sL (own := RL) (hh := [(0, 10, 13, 13)]) (l0 := [(0, .ref h), (1, .int (nI m_)), (2, .int x_), (3, .ref ob)]) rfl rfl (by decide) (Nat.le_of_ble_eq_true rfl) rfl ?_
  intro p e s m below meth c hx hb hr hml hts hown hlk htab hP hX hD hS ls hl
  refine lv_aload_n hx hb dL_lostWith_0 rfl (lv_at hl 3 rfl) ?_
  refine lv_iconst (v := nI 0) hx hb dL_lostWith_1 (by decide) ?_
  refine lv_aload_n hx hb dL_lostWith_2 rfl (lv_at hl 0 rfl) ?_
  refine lv_iload_n hx hb dL_lostWith_3 rfl (lv_at hl 1 rfl) ?_
  refine lv_iload_n hx hb dL_lostWith_4 rfl (lv_at hl 2 rfl) ?_
  refine z_cL (E := "java/lang/IllegalArgumentException") [.int (nI 0), .ref ob] hst hx hb hml hown hts (m_X2_lostWith_x2 l hst Dg cI h na ta G D G1 D1 m_ x_ hm9 e1 hG hW) gL_lostWith_X2_lostWith rfl kd_X2_lostWith ⟨Nat.le_of_ble_eq_true rfl, Nat.le_of_ble_eq_true rfl⟩ hX hP rfl hl.1 rfl (Nat.le_of_ble_eq_true rfl) dL_lostWith_5 ⟨Nat.le_of_ble_eq_true rfl, Nat.le_of_ble_eq_true rfl⟩ (fun ce q9 H hP hS hc1 hc2 hc3 => ?_)
  refine vx_catch (own := RL) (name := "java/lang/IllegalArgumentException") (E := "java/lang/IllegalArgumentException") hown [] ⟨0, 10, 13, 13⟩ [] htab (fun z hz => absurd hz List.not_mem_nil) rfl (by decide) (hts _ (List.mem_cons_of_mem _ (List.mem_append_left _ (List.mem_append_left _ (List.mem_append_left _ (List.mem_append_left _ (List.mem_append_left _ (List.mem_of_getElem? (i := 0) rfl)))))))) (va_Nw.use rfl hX.2.2.1.2.2.2.2.2.2.2.2.2.2.2.2.2.1) hc1 hc2 hc3 ?_
  refine lv_astore (lv' := [(4, .ref q9), (0, .ref h), (1, .int (nI m_)), (2, .int x_), (3, .ref ob)]) hx hb dL_lostWith_13 hl (by decide) rfl (fun ls hl => ?_)
  refine lv_iconst (v := 1) hx hb dL_lostWith_15 (by decide) ?_
  exact z_eL (w' := (z_oW cI cL h na ta ob G D G1 D1 o9)) (z_PW.of (fun q => absurd q (by decide))) rfl hP hS ⟨Nat.le_of_ble_eq_true rfl, Nat.le_of_ble_eq_true rfl⟩ hx hb hr hlk dL_lostWith_16

set_option maxHeartbeats 4000000 in
set_option maxRecDepth 100000 in
theorem m_L_lostWith_ok (l : Launch) (hst : l.stackTraces = false) (Dg : va_G) (cI : ClassId) (cL : ClassId) (h : Nat) (na ta : Nat → Nat) (G : z_GG) (D : z_DD) (G1 : z_GG) (D1 : z_DD) (ob : Nat) (o9 : Nat → Int64) (m_ : Nat) (o : Nat) (hm9 : m_ < 10) (ho : o < 3) (hG : z_WG G) (hW : z_WD G D) : z_ML l yL_lostWith wsL_lostWith 9 153 [.ref h, .int (nI m_), .int (nI o), .ref ob] Dg cI cL (z_oW cI cL h na ta ob G D G1 D1 o9) (z_PW 0 ((z_ls G D m_ o : Int32).toInt64) cI cL h na ta ob G D) := by
  have htc : z_tc G ≤ 60 := hG.2.2.2.2.2.1
  have hbc : z_bc G ≤ 6 := hG.2.2.2.2.1
  refine z_sL (own := RL) (hh := [(0, 10, 13, 13)]) (l0 := [(0, .ref h), (1, .int (nI m_)), (2, .int (nI o)), (3, .ref ob)]) rfl rfl (by decide) (Nat.le_of_ble_eq_true rfl) rfl ?_
  intro p e s m below meth c hx hb hr hml hts hown hlk htab hP hX hD hS ls hl
  refine lv_aload_n hx hb dL_lostWith_0 rfl (lv_at hl 3 rfl) ?_
  refine lv_iconst (v := nI 0) hx hb dL_lostWith_1 (by decide) ?_
  refine lv_aload_n hx hb dL_lostWith_2 rfl (lv_at hl 0 rfl) ?_
  refine lv_iload_n hx hb dL_lostWith_3 rfl (lv_at hl 1 rfl) ?_
  refine lv_iload_n hx hb dL_lostWith_4 rfl (lv_at hl 2 rfl) ?_
  refine z_wCBi (v := z_ls G D m_ o) [.int (nI 0), .ref ob] [] [(ob, .inl (cL, 1, .inr (.inl o9)))] hx hb hml hown hts (m_X2_lostWith l Dg cI h na ta G D G1 D1 m_ o hm9 ho hG hW) gL_lostWith_X2_lostWith rfl kd_X2_lostWith ⟨Nat.le_of_ble_eq_true rfl, Nat.le_of_ble_eq_true rfl⟩ hX.1.1 hX.1.2 hP hD hS rfl hl.1 rfl (Nat.le_of_ble_eq_true rfl) dL_lostWith_5 ⟨Nat.zero_le _, Nat.zero_le _⟩ (fun G9 D9 H locs hP hD hS => ?_)
  have hP : va_P Dg vwCl (z_oW cI cL h na ta ob G D G9 D9 o9) H := hP
  have hD : va_D _ (z_oW cI cL h na ta ob G D G9 D9 o9) := hD
  refine lv_i2l (v := Int32.toInt64 (z_ls G D m_ o)) hx hb dL_lostWith_8 rfl ?_
  refine va_last hx hb hX.2.1 hP hD hS 39 0 rfl rfl (vp_in_nI (by decide) (by decide)) dL_lostWith_9 (fun H locs hP hD hS => ?_)
  have hP : va_P Dg vwCl (z_oW cI cL h na ta ob G D G9 D9 (vp_updL o9 (nI 0).toNatClampNeg (Int32.toInt64 (z_ls G D m_ o)))) H := hP
  refine lv_goto (tgt := 17) hx hb dL_lostWith_10 (by decide) ?_
  refine lv_iconst (v := 0) hx hb dL_lostWith_17 (by decide) ?_
  exact z_eL (w' := (z_oW cI cL h na ta ob G D G9 D9 (vp_updL o9 (nI 0).toNatClampNeg (Int32.toInt64 (z_ls G D m_ o))))) (z_PW.of (fun _ => rfl)) rfl hP hS ⟨Nat.le_of_ble_eq_true rfl, Nat.le_of_ble_eq_true rfl⟩ hx hb hr hlk dL_lostWith_18

set_option maxHeartbeats 4000000 in
set_option maxRecDepth 100000 in
theorem m_L_setShipping_x1 (l : Launch) (hst : l.stackTraces = false) (Dg : va_G) (cI : ClassId) (cL : ClassId) (h : Nat) (na ta : Nat → Nat) (G : z_GG) (D : z_DD) (G1 : z_GG) (D1 : z_DD) (ob : Nat) (o9 : Nat → Int64) (x_ : Int32) (y_ : Int32) (e1 : ¬ (0 ≤ x_ ∧ x_ ≤ 9)) (hG : z_WG G) (hW : z_WD G D) : z_ML l yL_setShipping wsL_setShipping 9 154 [.ref h, .int x_, .int y_, .ref ob] Dg cI cL (z_oW cI cL h na ta ob G D G1 D1 o9) (z_PW 1 (0 : Int64) cI cL h na ta ob G D) := by
  have htc : z_tc G ≤ 60 := hG.2.2.2.2.2.1
  have hbc : z_bc G ≤ 6 := hG.2.2.2.2.1
  refine z_sL (own := RL) (hh := [(0, 10, 13, 13)]) (l0 := [(0, .ref h), (1, .int x_), (2, .int y_), (3, .ref ob)]) rfl rfl (by decide) (Nat.le_of_ble_eq_true rfl) rfl ?_
  intro p e s m below meth c hx hb hr hml hts hown hlk htab hP hX hD hS ls hl
  refine lv_aload_n hx hb dL_setShipping_0 rfl (lv_at hl 3 rfl) ?_
  refine lv_iconst (v := nI 0) hx hb dL_setShipping_1 (by decide) ?_
  refine lv_aload_n hx hb dL_setShipping_2 rfl (lv_at hl 0 rfl) ?_
  refine lv_iload_n hx hb dL_setShipping_3 rfl (lv_at hl 1 rfl) ?_
  refine lv_iload_n hx hb dL_setShipping_4 rfl (lv_at hl 2 rfl) ?_
  refine z_cL (E := "java/lang/IllegalArgumentException") [.int (nI 0), .ref ob] hst hx hb hml hown hts (m_X2_setShipping_x1 l hst Dg cI h na ta G D G1 D1 x_ y_ e1 hG hW) gL_setShipping_X2_setShipping rfl kd_X2_setShipping ⟨Nat.le_of_ble_eq_true rfl, Nat.le_of_ble_eq_true rfl⟩ hX hP rfl hl.1 rfl (Nat.le_of_ble_eq_true rfl) dL_setShipping_5 ⟨Nat.le_of_ble_eq_true rfl, Nat.le_of_ble_eq_true rfl⟩ (fun ce q9 H hP hS hc1 hc2 hc3 => ?_)
  refine vx_catch (own := RL) (name := "java/lang/IllegalArgumentException") (E := "java/lang/IllegalArgumentException") hown [] ⟨0, 10, 13, 13⟩ [] htab (fun z hz => absurd hz List.not_mem_nil) rfl (by decide) (hts _ (List.mem_cons_of_mem _ (List.mem_append_left _ (List.mem_append_left _ (List.mem_append_left _ (List.mem_of_getElem? (i := 0) rfl)))))) (va_Nw.use rfl hX.2.2.1.2.2.2.2.2.2.2.2.2.2.2.2.2.1) hc1 hc2 hc3 ?_
  refine lv_astore (lv' := [(4, .ref q9), (0, .ref h), (1, .int x_), (2, .int y_), (3, .ref ob)]) hx hb dL_setShipping_13 hl (by decide) rfl (fun ls hl => ?_)
  refine lv_iconst (v := 1) hx hb dL_setShipping_15 (by decide) ?_
  exact z_eL (w' := (z_oW cI cL h na ta ob G D G1 D1 o9)) (z_PW.of (fun q => absurd q (by decide))) rfl hP hS ⟨Nat.le_of_ble_eq_true rfl, Nat.le_of_ble_eq_true rfl⟩ hx hb hr hlk dL_setShipping_16

set_option maxHeartbeats 4000000 in
set_option maxRecDepth 100000 in
theorem m_L_setShipping_x2 (l : Launch) (hst : l.stackTraces = false) (Dg : va_G) (cI : ClassId) (cL : ClassId) (h : Nat) (na ta : Nat → Nat) (G : z_GG) (D : z_DD) (G1 : z_GG) (D1 : z_DD) (ob : Nat) (o9 : Nat → Int64) (m_ : Nat) (x_ : Int32) (hm9 : m_ < 10) (e1 : ¬ (0 ≤ x_ ∧ x_ ≤ 2)) (hG : z_WG G) (hW : z_WD G D) : z_ML l yL_setShipping wsL_setShipping 9 154 [.ref h, .int (nI m_), .int x_, .ref ob] Dg cI cL (z_oW cI cL h na ta ob G D G1 D1 o9) (z_PW 1 (0 : Int64) cI cL h na ta ob G D) := by
  have htc : z_tc G ≤ 60 := hG.2.2.2.2.2.1
  have hbc : z_bc G ≤ 6 := hG.2.2.2.2.1
  refine z_sL (own := RL) (hh := [(0, 10, 13, 13)]) (l0 := [(0, .ref h), (1, .int (nI m_)), (2, .int x_), (3, .ref ob)]) rfl rfl (by decide) (Nat.le_of_ble_eq_true rfl) rfl ?_
  intro p e s m below meth c hx hb hr hml hts hown hlk htab hP hX hD hS ls hl
  refine lv_aload_n hx hb dL_setShipping_0 rfl (lv_at hl 3 rfl) ?_
  refine lv_iconst (v := nI 0) hx hb dL_setShipping_1 (by decide) ?_
  refine lv_aload_n hx hb dL_setShipping_2 rfl (lv_at hl 0 rfl) ?_
  refine lv_iload_n hx hb dL_setShipping_3 rfl (lv_at hl 1 rfl) ?_
  refine lv_iload_n hx hb dL_setShipping_4 rfl (lv_at hl 2 rfl) ?_
  refine z_cL (E := "java/lang/IllegalArgumentException") [.int (nI 0), .ref ob] hst hx hb hml hown hts (m_X2_setShipping_x2 l hst Dg cI h na ta G D G1 D1 m_ x_ hm9 e1 hG hW) gL_setShipping_X2_setShipping rfl kd_X2_setShipping ⟨Nat.le_of_ble_eq_true rfl, Nat.le_of_ble_eq_true rfl⟩ hX hP rfl hl.1 rfl (Nat.le_of_ble_eq_true rfl) dL_setShipping_5 ⟨Nat.le_of_ble_eq_true rfl, Nat.le_of_ble_eq_true rfl⟩ (fun ce q9 H hP hS hc1 hc2 hc3 => ?_)
  refine vx_catch (own := RL) (name := "java/lang/IllegalArgumentException") (E := "java/lang/IllegalArgumentException") hown [] ⟨0, 10, 13, 13⟩ [] htab (fun z hz => absurd hz List.not_mem_nil) rfl (by decide) (hts _ (List.mem_cons_of_mem _ (List.mem_append_left _ (List.mem_append_left _ (List.mem_append_left _ (List.mem_of_getElem? (i := 0) rfl)))))) (va_Nw.use rfl hX.2.2.1.2.2.2.2.2.2.2.2.2.2.2.2.2.1) hc1 hc2 hc3 ?_
  refine lv_astore (lv' := [(4, .ref q9), (0, .ref h), (1, .int (nI m_)), (2, .int x_), (3, .ref ob)]) hx hb dL_setShipping_13 hl (by decide) rfl (fun ls hl => ?_)
  refine lv_iconst (v := 1) hx hb dL_setShipping_15 (by decide) ?_
  exact z_eL (w' := (z_oW cI cL h na ta ob G D G1 D1 o9)) (z_PW.of (fun q => absurd q (by decide))) rfl hP hS ⟨Nat.le_of_ble_eq_true rfl, Nat.le_of_ble_eq_true rfl⟩ hx hb hr hlk dL_setShipping_16

set_option maxHeartbeats 4000000 in
set_option maxRecDepth 100000 in
theorem m_L_setShipping_ok (l : Launch) (hst : l.stackTraces = false) (Dg : va_G) (cI : ClassId) (cL : ClassId) (h : Nat) (na ta : Nat → Nat) (G : z_GG) (D : z_DD) (G1 : z_GG) (D1 : z_DD) (ob : Nat) (o9 : Nat → Int64) (m_ : Nat) (o : Nat) (hm9 : m_ < 10) (ho : o < 3) (hG : z_WG G) (hW : z_WD G D) : z_ML l yL_setShipping wsL_setShipping 9 154 [.ref h, .int (nI m_), .int (nI o), .ref ob] Dg cI cL (z_oW cI cL h na ta ob G D G1 D1 o9) (z_PW 0 ((nI (z_sd G) : Int32).toInt64) cI cL h na ta ob (z_ship G m_ o) D) := by
  have htc : z_tc G ≤ 60 := hG.2.2.2.2.2.1
  have hbc : z_bc G ≤ 6 := hG.2.2.2.2.1
  refine z_sL (own := RL) (hh := [(0, 10, 13, 13)]) (l0 := [(0, .ref h), (1, .int (nI m_)), (2, .int (nI o)), (3, .ref ob)]) rfl rfl (by decide) (Nat.le_of_ble_eq_true rfl) rfl ?_
  intro p e s m below meth c hx hb hr hml hts hown hlk htab hP hX hD hS ls hl
  refine lv_aload_n hx hb dL_setShipping_0 rfl (lv_at hl 3 rfl) ?_
  refine lv_iconst (v := nI 0) hx hb dL_setShipping_1 (by decide) ?_
  refine lv_aload_n hx hb dL_setShipping_2 rfl (lv_at hl 0 rfl) ?_
  refine lv_iload_n hx hb dL_setShipping_3 rfl (lv_at hl 1 rfl) ?_
  refine lv_iload_n hx hb dL_setShipping_4 rfl (lv_at hl 2 rfl) ?_
  refine z_wBi (v := nI (z_sd G)) [.int (nI 0), .ref ob] [] [(ob, .inl (cL, 1, .inr (.inl o9)))] 0 hx hb hml hown hts (m_X2_setShipping l Dg cI h na ta G D G1 D1 m_ o hm9 ho hG hW) gL_setShipping_X2_setShipping rfl kd_X2_setShipping ⟨Nat.le_of_ble_eq_true rfl, Nat.le_of_ble_eq_true rfl⟩ hX.1.1 hX.1.2 hP hD hS rfl rfl rfl rfl rfl hl.1 rfl (Nat.le_of_ble_eq_true rfl) dL_setShipping_5 ⟨Nat.zero_le _, Nat.zero_le _⟩ (fun H locs hP hD hS => ?_)
  have hP : va_P Dg vwCl (z_oW cI cL h na ta ob (z_ship G m_ o) D G1 D1 o9) H := hP
  have hD : va_D _ (z_oW cI cL h na ta ob (z_ship G m_ o) D G1 D1 o9) := hD
  refine lv_i2l (v := Int32.toInt64 (nI (z_sd G))) hx hb dL_setShipping_8 rfl ?_
  refine va_last hx hb hX.2.1 hP hD hS 39 0 rfl rfl (vp_in_nI (by decide) (by decide)) dL_setShipping_9 (fun H locs hP hD hS => ?_)
  have hP : va_P Dg vwCl (z_oW cI cL h na ta ob (z_ship G m_ o) D G1 D1 (vp_updL o9 (nI 0).toNatClampNeg (Int32.toInt64 (nI (z_sd G))))) H := hP
  refine lv_goto (tgt := 17) hx hb dL_setShipping_10 (by decide) ?_
  refine lv_iconst (v := 0) hx hb dL_setShipping_17 (by decide) ?_
  exact z_eL (w' := (z_oW cI cL h na ta ob (z_ship G m_ o) D G1 D1 (vp_updL o9 (nI 0).toNatClampNeg (Int32.toInt64 (nI (z_sd G)))))) (z_PW.of (fun _ => rfl)) rfl hP hS ⟨Nat.le_of_ble_eq_true rfl, Nat.le_of_ble_eq_true rfl⟩ hx hb hr hlk dL_setShipping_18

set_option maxHeartbeats 4000000 in
set_option maxRecDepth 100000 in
theorem m_L_addBatch_x1 (l : Launch) (hst : l.stackTraces = false) (Dg : va_G) (cI : ClassId) (cL : ClassId) (h : Nat) (na ta : Nat → Nat) (G : z_GG) (D : z_DD) (G1 : z_GG) (D1 : z_DD) (ob : Nat) (o9 : Nat → Int64) (v_ : Int32) (k_ : Int32) (e1 : ¬ (1 ≤ v_ ∧ v_ ≤ 99)) (hG : z_WG G) (hW : z_WD G D) : z_ML l yL_addBatch wsL_addBatch 7 112 [.ref h, .int v_, .int k_, .ref ob] Dg cI cL (z_oW cI cL h na ta ob G D G1 D1 o9) (z_PW 1 (0 : Int64) cI cL h na ta ob G D) := by
  have htc : z_tc G ≤ 60 := hG.2.2.2.2.2.1
  have hbc : z_bc G ≤ 6 := hG.2.2.2.2.1
  refine z_sL (own := RL) (hh := [(0, 10, 13, 13), (0, 10, 17, 15)]) (l0 := [(0, .ref h), (1, .int v_), (2, .int k_), (3, .ref ob)]) rfl rfl (by decide) (Nat.le_of_ble_eq_true rfl) rfl ?_
  intro p e s m below meth c hx hb hr hml hts hown hlk htab hP hX hD hS ls hl
  refine lv_aload_n hx hb dL_addBatch_0 rfl (lv_at hl 3 rfl) ?_
  refine lv_iconst (v := nI 0) hx hb dL_addBatch_1 (by decide) ?_
  refine lv_aload_n hx hb dL_addBatch_2 rfl (lv_at hl 0 rfl) ?_
  refine lv_iload_n hx hb dL_addBatch_3 rfl (lv_at hl 1 rfl) ?_
  refine lv_iload_n hx hb dL_addBatch_4 rfl (lv_at hl 2 rfl) ?_
  refine z_cL (E := "java/lang/IllegalArgumentException") [.int (nI 0), .ref ob] hst hx hb hml hown hts (m_X2_addBatch_x1 l hst Dg cI h na ta G D G1 D1 v_ k_ e1 hG hW) gL_addBatch_X2_addBatch rfl kd_X2_addBatch ⟨Nat.le_of_ble_eq_true rfl, Nat.le_of_ble_eq_true rfl⟩ hX hP rfl hl.1 rfl (Nat.le_of_ble_eq_true rfl) dL_addBatch_5 ⟨Nat.le_of_ble_eq_true rfl, Nat.le_of_ble_eq_true rfl⟩ (fun ce q9 H hP hS hc1 hc2 hc3 => ?_)
  refine vx_catch (own := RL) (name := "java/lang/IllegalArgumentException") (E := "java/lang/IllegalArgumentException") hown [] ⟨0, 10, 13, 13⟩ [⟨0, 10, 17, 15⟩] htab (fun z hz => absurd hz List.not_mem_nil) rfl (by decide) (hts _ (List.mem_cons_of_mem _ (List.mem_append_left _ (List.mem_append_left _ (List.mem_append_left _ (List.mem_append_left _ (List.mem_append_left _ (List.mem_append_left _ (List.mem_of_getElem? (i := 0) rfl))))))))) (va_Nw.use rfl hX.2.2.1.2.2.2.2.2.2.2.2.2.2.2.2.2.1) hc1 hc2 hc3 ?_
  refine lv_astore (lv' := [(4, .ref q9), (0, .ref h), (1, .int v_), (2, .int k_), (3, .ref ob)]) hx hb dL_addBatch_13 hl (by decide) rfl (fun ls hl => ?_)
  refine lv_iconst (v := 1) hx hb dL_addBatch_15 (by decide) ?_
  exact z_eL (w' := (z_oW cI cL h na ta ob G D G1 D1 o9)) (z_PW.of (fun q => absurd q (by decide))) rfl hP hS ⟨Nat.le_of_ble_eq_true rfl, Nat.le_of_ble_eq_true rfl⟩ hx hb hr hlk dL_addBatch_16

set_option maxHeartbeats 4000000 in
set_option maxRecDepth 100000 in
theorem m_L_addBatch_x2 (l : Launch) (hst : l.stackTraces = false) (Dg : va_G) (cI : ClassId) (cL : ClassId) (h : Nat) (na ta : Nat → Nat) (G : z_GG) (D : z_DD) (G1 : z_GG) (D1 : z_DD) (ob : Nat) (o9 : Nat → Int64) (v_ : Int32) (k_ : Int32) (hv1 : 1 ≤ v_) (hv2 : v_ ≤ 99) (e1 : ¬ (0 ≤ k_ ∧ k_ ≤ 5)) (hG : z_WG G) (hW : z_WD G D) : z_ML l yL_addBatch wsL_addBatch 7 112 [.ref h, .int v_, .int k_, .ref ob] Dg cI cL (z_oW cI cL h na ta ob G D G1 D1 o9) (z_PW 1 (0 : Int64) cI cL h na ta ob G D) := by
  have htc : z_tc G ≤ 60 := hG.2.2.2.2.2.1
  have hbc : z_bc G ≤ 6 := hG.2.2.2.2.1
  refine z_sL (own := RL) (hh := [(0, 10, 13, 13), (0, 10, 17, 15)]) (l0 := [(0, .ref h), (1, .int v_), (2, .int k_), (3, .ref ob)]) rfl rfl (by decide) (Nat.le_of_ble_eq_true rfl) rfl ?_
  intro p e s m below meth c hx hb hr hml hts hown hlk htab hP hX hD hS ls hl
  refine lv_aload_n hx hb dL_addBatch_0 rfl (lv_at hl 3 rfl) ?_
  refine lv_iconst (v := nI 0) hx hb dL_addBatch_1 (by decide) ?_
  refine lv_aload_n hx hb dL_addBatch_2 rfl (lv_at hl 0 rfl) ?_
  refine lv_iload_n hx hb dL_addBatch_3 rfl (lv_at hl 1 rfl) ?_
  refine lv_iload_n hx hb dL_addBatch_4 rfl (lv_at hl 2 rfl) ?_
  refine z_cL (E := "java/lang/IllegalArgumentException") [.int (nI 0), .ref ob] hst hx hb hml hown hts (m_X2_addBatch_x2 l hst Dg cI h na ta G D G1 D1 v_ k_ hv1 hv2 e1 hG hW) gL_addBatch_X2_addBatch rfl kd_X2_addBatch ⟨Nat.le_of_ble_eq_true rfl, Nat.le_of_ble_eq_true rfl⟩ hX hP rfl hl.1 rfl (Nat.le_of_ble_eq_true rfl) dL_addBatch_5 ⟨Nat.le_of_ble_eq_true rfl, Nat.le_of_ble_eq_true rfl⟩ (fun ce q9 H hP hS hc1 hc2 hc3 => ?_)
  refine vx_catch (own := RL) (name := "java/lang/IllegalArgumentException") (E := "java/lang/IllegalArgumentException") hown [] ⟨0, 10, 13, 13⟩ [⟨0, 10, 17, 15⟩] htab (fun z hz => absurd hz List.not_mem_nil) rfl (by decide) (hts _ (List.mem_cons_of_mem _ (List.mem_append_left _ (List.mem_append_left _ (List.mem_append_left _ (List.mem_append_left _ (List.mem_append_left _ (List.mem_append_left _ (List.mem_of_getElem? (i := 0) rfl))))))))) (va_Nw.use rfl hX.2.2.1.2.2.2.2.2.2.2.2.2.2.2.2.2.1) hc1 hc2 hc3 ?_
  refine lv_astore (lv' := [(4, .ref q9), (0, .ref h), (1, .int v_), (2, .int k_), (3, .ref ob)]) hx hb dL_addBatch_13 hl (by decide) rfl (fun ls hl => ?_)
  refine lv_iconst (v := 1) hx hb dL_addBatch_15 (by decide) ?_
  exact z_eL (w' := (z_oW cI cL h na ta ob G D G1 D1 o9)) (z_PW.of (fun q => absurd q (by decide))) rfl hP hS ⟨Nat.le_of_ble_eq_true rfl, Nat.le_of_ble_eq_true rfl⟩ hx hb hr hlk dL_addBatch_16

set_option maxHeartbeats 4000000 in
set_option maxRecDepth 100000 in
theorem m_L_addBatch_x3 (l : Launch) (hst : l.stackTraces = false) (Dg : va_G) (cI : ClassId) (cL : ClassId) (h : Nat) (na ta : Nat → Nat) (G : z_GG) (D : z_DD) (G1 : z_GG) (D1 : z_DD) (ob : Nat) (o9 : Nat → Int64) (v_ : Int32) (k_ : Int32) (hv1 : 1 ≤ v_) (hv2 : v_ ≤ 99) (hk1 : 0 ≤ k_) (hk2 : k_ ≤ 5) (hb6 : z_bc G = 6) (hG : z_WG G) (hW : z_WD G D) : z_ML l yL_addBatch wsL_addBatch 7 112 [.ref h, .int v_, .int k_, .ref ob] Dg cI cL (z_oW cI cL h na ta ob G D G1 D1 o9) (z_PW 2 (0 : Int64) cI cL h na ta ob G D) := by
  have htc : z_tc G ≤ 60 := hG.2.2.2.2.2.1
  have hbc : z_bc G ≤ 6 := hG.2.2.2.2.1
  refine z_sL (own := RL) (hh := [(0, 10, 13, 13), (0, 10, 17, 15)]) (l0 := [(0, .ref h), (1, .int v_), (2, .int k_), (3, .ref ob)]) rfl rfl (by decide) (Nat.le_of_ble_eq_true rfl) rfl ?_
  intro p e s m below meth c hx hb hr hml hts hown hlk htab hP hX hD hS ls hl
  refine lv_aload_n hx hb dL_addBatch_0 rfl (lv_at hl 3 rfl) ?_
  refine lv_iconst (v := nI 0) hx hb dL_addBatch_1 (by decide) ?_
  refine lv_aload_n hx hb dL_addBatch_2 rfl (lv_at hl 0 rfl) ?_
  refine lv_iload_n hx hb dL_addBatch_3 rfl (lv_at hl 1 rfl) ?_
  refine lv_iload_n hx hb dL_addBatch_4 rfl (lv_at hl 2 rfl) ?_
  refine z_cL (E := "java/lang/IllegalStateException") [.int (nI 0), .ref ob] hst hx hb hml hown hts (m_X2_addBatch_x3 l hst Dg cI h na ta G D G1 D1 v_ k_ hv1 hv2 hk1 hk2 hb6 hG hW) gL_addBatch_X2_addBatch rfl kd_X2_addBatch ⟨Nat.le_of_ble_eq_true rfl, Nat.le_of_ble_eq_true rfl⟩ hX hP rfl hl.1 rfl (Nat.le_of_ble_eq_true rfl) dL_addBatch_5 ⟨Nat.le_of_ble_eq_true rfl, Nat.le_of_ble_eq_true rfl⟩ (fun ce q9 H hP hS hc1 hc2 hc3 => ?_)
  refine vx_catch (own := RL) (name := "java/lang/IllegalStateException") (E := "java/lang/IllegalStateException") hown [⟨0, 10, 13, 13⟩] ⟨0, 10, 17, 15⟩ [] htab (fun z hz => by obtain rfl := List.mem_singleton.mp hz; exact Or.inr ⟨by decide, _, (hts _ (List.mem_cons_of_mem _ (List.mem_append_left _ (List.mem_append_left _ (List.mem_append_left _ (List.mem_append_left _ (List.mem_append_left _ (List.mem_append_left _ (List.mem_of_getElem? (i := 0) rfl))))))))), hX.2.2.2.2.1⟩) rfl (by decide) (hts _ (List.mem_cons_of_mem _ (List.mem_append_left _ (List.mem_append_left _ (List.mem_append_left _ (List.mem_append_left _ (List.mem_append_left _ (List.mem_append_left _ (List.mem_of_getElem? (i := 1) rfl))))))))) (va_Nw.use rfl hX.2.2.1.2.2.2.2.2.2.2.2.2.2.2.2.2.2.1) hc1 hc2 hc3 ?_
  refine lv_astore (lv' := [(4, .ref q9), (0, .ref h), (1, .int v_), (2, .int k_), (3, .ref ob)]) hx hb dL_addBatch_17 hl (by decide) rfl (fun ls hl => ?_)
  refine lv_iconst (v := 2) hx hb dL_addBatch_19 (by decide) ?_
  exact z_eL (w' := (z_oW cI cL h na ta ob G D G1 D1 o9)) (z_PW.of (fun q => absurd q (by decide))) rfl hP hS ⟨Nat.le_of_ble_eq_true rfl, Nat.le_of_ble_eq_true rfl⟩ hx hb hr hlk dL_addBatch_20

set_option maxHeartbeats 4000000 in
set_option maxRecDepth 100000 in
theorem m_L_addBatch_ok (l : Launch) (hst : l.stackTraces = false) (Dg : va_G) (cI : ClassId) (cL : ClassId) (h : Nat) (na ta : Nat → Nat) (G : z_GG) (D : z_DD) (G1 : z_GG) (D1 : z_DD) (ob : Nat) (o9 : Nat → Int64) (v_ : Int32) (k_ : Int32) (hv1 : 1 ≤ v_) (hv2 : v_ ≤ 99) (hk1 : 0 ≤ k_) (hk2 : k_ ≤ 5) (hb6 : z_bc G < 6) (hG : z_WG G) (hW : z_WD G D) : z_ML l yL_addBatch wsL_addBatch 7 112 [.ref h, .int v_, .int k_, .ref ob] Dg cI cL (z_oW cI cL h na ta ob G D G1 D1 o9) (z_PW 0 ((nI (z_bc G) : Int32).toInt64) cI cL h na ta ob (z_addb G v_ k_) D) := by
  have htc : z_tc G ≤ 60 := hG.2.2.2.2.2.1
  have hbc : z_bc G ≤ 6 := hG.2.2.2.2.1
  refine z_sL (own := RL) (hh := [(0, 10, 13, 13), (0, 10, 17, 15)]) (l0 := [(0, .ref h), (1, .int v_), (2, .int k_), (3, .ref ob)]) rfl rfl (by decide) (Nat.le_of_ble_eq_true rfl) rfl ?_
  intro p e s m below meth c hx hb hr hml hts hown hlk htab hP hX hD hS ls hl
  refine lv_aload_n hx hb dL_addBatch_0 rfl (lv_at hl 3 rfl) ?_
  refine lv_iconst (v := nI 0) hx hb dL_addBatch_1 (by decide) ?_
  refine lv_aload_n hx hb dL_addBatch_2 rfl (lv_at hl 0 rfl) ?_
  refine lv_iload_n hx hb dL_addBatch_3 rfl (lv_at hl 1 rfl) ?_
  refine lv_iload_n hx hb dL_addBatch_4 rfl (lv_at hl 2 rfl) ?_
  refine z_wBi (v := nI (z_bc G)) [.int (nI 0), .ref ob] [] [(ob, .inl (cL, 1, .inr (.inl o9)))] 0 hx hb hml hown hts (m_X2_addBatch l Dg cI h na ta G D G1 D1 v_ k_ hv1 hv2 hk1 hk2 hb6 hG hW) gL_addBatch_X2_addBatch rfl kd_X2_addBatch ⟨Nat.le_of_ble_eq_true rfl, Nat.le_of_ble_eq_true rfl⟩ hX.1.1 hX.1.2 hP hD hS rfl rfl rfl rfl rfl hl.1 rfl (Nat.le_of_ble_eq_true rfl) dL_addBatch_5 ⟨Nat.zero_le _, Nat.zero_le _⟩ (fun H locs hP hD hS => ?_)
  have hP : va_P Dg vwCl (z_oW cI cL h na ta ob (z_addb G v_ k_) D G1 D1 o9) H := hP
  have hD : va_D _ (z_oW cI cL h na ta ob (z_addb G v_ k_) D G1 D1 o9) := hD
  refine lv_i2l (v := Int32.toInt64 (nI (z_bc G))) hx hb dL_addBatch_8 rfl ?_
  refine va_last hx hb hX.2.1 hP hD hS 39 0 rfl rfl (vp_in_nI (by decide) (by decide)) dL_addBatch_9 (fun H locs hP hD hS => ?_)
  have hP : va_P Dg vwCl (z_oW cI cL h na ta ob (z_addb G v_ k_) D G1 D1 (vp_updL o9 (nI 0).toNatClampNeg (Int32.toInt64 (nI (z_bc G))))) H := hP
  refine lv_goto (tgt := 21) hx hb dL_addBatch_10 (by decide) ?_
  refine lv_iconst (v := 0) hx hb dL_addBatch_21 (by decide) ?_
  exact z_eL (w' := (z_oW cI cL h na ta ob (z_addb G v_ k_) D G1 D1 (vp_updL o9 (nI 0).toNatClampNeg (Int32.toInt64 (nI (z_bc G)))))) (z_PW.of (fun _ => rfl)) rfl hP hS ⟨Nat.le_of_ble_eq_true rfl, Nat.le_of_ble_eq_true rfl⟩ hx hb hr hlk dL_addBatch_22

set_option maxHeartbeats 4000000 in
set_option maxRecDepth 100000 in
theorem m_L_seal_x1 (l : Launch) (hst : l.stackTraces = false) (Dg : va_G) (cI : ClassId) (cL : ClassId) (h : Nat) (na ta : Nat → Nat) (G : z_GG) (D : z_DD) (G1 : z_GG) (D1 : z_DD) (ob : Nat) (o9 : Nat → Int64) (x_ : Int32) (y_ : Int32) (w_ : Int32) (e1 : ¬ (0 ≤ x_ ∧ x_ ≤ nI (z_bc G) - 1)) (hG : z_WG G) (hW : z_WD G D) : z_ML l yL_seal wsL_seal 8 134 [.ref h, .int x_, .int y_, .int w_, .ref ob] Dg cI cL (z_oW cI cL h na ta ob G D G1 D1 o9) (z_PW 1 (0 : Int64) cI cL h na ta ob G D) := by
  have htc : z_tc G ≤ 60 := hG.2.2.2.2.2.1
  have hbc : z_bc G ≤ 6 := hG.2.2.2.2.1
  refine z_sL (own := RL) (hh := [(0, 12, 15, 21), (0, 12, 19, 13), (0, 12, 23, 15)]) (l0 := [(0, .ref h), (1, .int x_), (2, .int y_), (3, .int w_), (4, .ref ob)]) rfl rfl (by decide) (Nat.le_of_ble_eq_true rfl) rfl ?_
  intro p e s m below meth c hx hb hr hml hts hown hlk htab hP hX hD hS ls hl
  refine lv_aload hx hb dL_seal_0 (lv_at hl 4 rfl) ?_
  refine lv_iconst (v := nI 0) hx hb dL_seal_2 (by decide) ?_
  refine lv_aload_n hx hb dL_seal_3 rfl (lv_at hl 0 rfl) ?_
  refine lv_iload_n hx hb dL_seal_4 rfl (lv_at hl 1 rfl) ?_
  refine lv_iload_n hx hb dL_seal_5 rfl (lv_at hl 2 rfl) ?_
  refine lv_iload_n hx hb dL_seal_6 rfl (lv_at hl 3 rfl) ?_
  refine z_cL (E := "java/lang/IndexOutOfBoundsException") [.int (nI 0), .ref ob] hst hx hb hml hown hts (m_X2_seal_x1 l hst Dg cI h na ta G D G1 D1 x_ y_ w_ e1 hG hW) gL_seal_X2_seal rfl kd_X2_seal ⟨Nat.le_of_ble_eq_true rfl, Nat.le_of_ble_eq_true rfl⟩ hX hP rfl hl.1 rfl (Nat.le_of_ble_eq_true rfl) dL_seal_7 ⟨Nat.le_of_ble_eq_true rfl, Nat.le_of_ble_eq_true rfl⟩ (fun ce q9 H hP hS hc1 hc2 hc3 => ?_)
  refine vx_catch (own := RL) (name := "java/lang/IndexOutOfBoundsException") (E := "java/lang/IndexOutOfBoundsException") hown [] ⟨0, 12, 15, 21⟩ [⟨0, 12, 19, 13⟩, ⟨0, 12, 23, 15⟩] htab (fun z hz => absurd hz List.not_mem_nil) rfl (by decide) (hts _ (List.mem_cons_of_mem _ (List.mem_append_left _ (List.mem_append_left _ (List.mem_append_left _ (List.mem_append_left _ (List.mem_append_left _ (List.mem_append_left _ (List.mem_append_left _ (List.mem_of_getElem? (i := 0) rfl)))))))))) (va_Nw.use rfl hX.2.2.1.2.2.2.2.2.2.2.2.2.2.2.2.2.2.2.1) hc1 hc2 hc3 ?_
  refine lv_astore (lv' := [(5, .ref q9), (0, .ref h), (1, .int x_), (2, .int y_), (3, .int w_), (4, .ref ob)]) hx hb dL_seal_15 hl (by decide) rfl (fun ls hl => ?_)
  refine lv_iconst (v := 1) hx hb dL_seal_17 (by decide) ?_
  exact z_eL (w' := (z_oW cI cL h na ta ob G D G1 D1 o9)) (z_PW.of (fun q => absurd q (by decide))) rfl hP hS ⟨Nat.le_of_ble_eq_true rfl, Nat.le_of_ble_eq_true rfl⟩ hx hb hr hlk dL_seal_18

set_option maxHeartbeats 4000000 in
set_option maxRecDepth 100000 in
theorem m_L_seal_x2 (l : Launch) (hst : l.stackTraces = false) (Dg : va_G) (cI : ClassId) (cL : ClassId) (h : Nat) (na ta : Nat → Nat) (G : z_GG) (D : z_DD) (G1 : z_GG) (D1 : z_DD) (ob : Nat) (o9 : Nat → Int64) (b_ : Nat) (x_ : Int32) (w_ : Int32) (hbb : b_ < z_bc G) (e1 : ¬ (0 ≤ x_ ∧ x_ ≤ 3)) (hG : z_WG G) (hW : z_WD G D) : z_ML l yL_seal wsL_seal 8 134 [.ref h, .int (nI b_), .int x_, .int w_, .ref ob] Dg cI cL (z_oW cI cL h na ta ob G D G1 D1 o9) (z_PW 1 (0 : Int64) cI cL h na ta ob G D) := by
  have htc : z_tc G ≤ 60 := hG.2.2.2.2.2.1
  have hbc : z_bc G ≤ 6 := hG.2.2.2.2.1
  refine z_sL (own := RL) (hh := [(0, 12, 15, 21), (0, 12, 19, 13), (0, 12, 23, 15)]) (l0 := [(0, .ref h), (1, .int (nI b_)), (2, .int x_), (3, .int w_), (4, .ref ob)]) rfl rfl (by decide) (Nat.le_of_ble_eq_true rfl) rfl ?_
  intro p e s m below meth c hx hb hr hml hts hown hlk htab hP hX hD hS ls hl
  refine lv_aload hx hb dL_seal_0 (lv_at hl 4 rfl) ?_
  refine lv_iconst (v := nI 0) hx hb dL_seal_2 (by decide) ?_
  refine lv_aload_n hx hb dL_seal_3 rfl (lv_at hl 0 rfl) ?_
  refine lv_iload_n hx hb dL_seal_4 rfl (lv_at hl 1 rfl) ?_
  refine lv_iload_n hx hb dL_seal_5 rfl (lv_at hl 2 rfl) ?_
  refine lv_iload_n hx hb dL_seal_6 rfl (lv_at hl 3 rfl) ?_
  refine z_cL (E := "java/lang/IndexOutOfBoundsException") [.int (nI 0), .ref ob] hst hx hb hml hown hts (m_X2_seal_x2 l hst Dg cI h na ta G D G1 D1 b_ x_ w_ hbb e1 hG hW) gL_seal_X2_seal rfl kd_X2_seal ⟨Nat.le_of_ble_eq_true rfl, Nat.le_of_ble_eq_true rfl⟩ hX hP rfl hl.1 rfl (Nat.le_of_ble_eq_true rfl) dL_seal_7 ⟨Nat.le_of_ble_eq_true rfl, Nat.le_of_ble_eq_true rfl⟩ (fun ce q9 H hP hS hc1 hc2 hc3 => ?_)
  refine vx_catch (own := RL) (name := "java/lang/IndexOutOfBoundsException") (E := "java/lang/IndexOutOfBoundsException") hown [] ⟨0, 12, 15, 21⟩ [⟨0, 12, 19, 13⟩, ⟨0, 12, 23, 15⟩] htab (fun z hz => absurd hz List.not_mem_nil) rfl (by decide) (hts _ (List.mem_cons_of_mem _ (List.mem_append_left _ (List.mem_append_left _ (List.mem_append_left _ (List.mem_append_left _ (List.mem_append_left _ (List.mem_append_left _ (List.mem_append_left _ (List.mem_of_getElem? (i := 0) rfl)))))))))) (va_Nw.use rfl hX.2.2.1.2.2.2.2.2.2.2.2.2.2.2.2.2.2.2.1) hc1 hc2 hc3 ?_
  refine lv_astore (lv' := [(5, .ref q9), (0, .ref h), (1, .int (nI b_)), (2, .int x_), (3, .int w_), (4, .ref ob)]) hx hb dL_seal_15 hl (by decide) rfl (fun ls hl => ?_)
  refine lv_iconst (v := 1) hx hb dL_seal_17 (by decide) ?_
  exact z_eL (w' := (z_oW cI cL h na ta ob G D G1 D1 o9)) (z_PW.of (fun q => absurd q (by decide))) rfl hP hS ⟨Nat.le_of_ble_eq_true rfl, Nat.le_of_ble_eq_true rfl⟩ hx hb hr hlk dL_seal_18

set_option maxHeartbeats 4000000 in
set_option maxRecDepth 100000 in
theorem m_L_seal_x3 (l : Launch) (hst : l.stackTraces = false) (Dg : va_G) (cI : ClassId) (cL : ClassId) (h : Nat) (na ta : Nat → Nat) (G : z_GG) (D : z_DD) (G1 : z_GG) (D1 : z_DD) (ob : Nat) (o9 : Nat → Int64) (b_ : Nat) (s_ : Nat) (w_ : Int32) (hbb : b_ < z_bc G) (hs4 : s_ < 4) (e1 : ¬ (1 ≤ w_ ∧ w_ ≤ 20)) (hG : z_WG G) (hW : z_WD G D) : z_ML l yL_seal wsL_seal 8 134 [.ref h, .int (nI b_), .int (nI s_), .int w_, .ref ob] Dg cI cL (z_oW cI cL h na ta ob G D G1 D1 o9) (z_PW 2 (0 : Int64) cI cL h na ta ob G D) := by
  have htc : z_tc G ≤ 60 := hG.2.2.2.2.2.1
  have hbc : z_bc G ≤ 6 := hG.2.2.2.2.1
  refine z_sL (own := RL) (hh := [(0, 12, 15, 21), (0, 12, 19, 13), (0, 12, 23, 15)]) (l0 := [(0, .ref h), (1, .int (nI b_)), (2, .int (nI s_)), (3, .int w_), (4, .ref ob)]) rfl rfl (by decide) (Nat.le_of_ble_eq_true rfl) rfl ?_
  intro p e s m below meth c hx hb hr hml hts hown hlk htab hP hX hD hS ls hl
  refine lv_aload hx hb dL_seal_0 (lv_at hl 4 rfl) ?_
  refine lv_iconst (v := nI 0) hx hb dL_seal_2 (by decide) ?_
  refine lv_aload_n hx hb dL_seal_3 rfl (lv_at hl 0 rfl) ?_
  refine lv_iload_n hx hb dL_seal_4 rfl (lv_at hl 1 rfl) ?_
  refine lv_iload_n hx hb dL_seal_5 rfl (lv_at hl 2 rfl) ?_
  refine lv_iload_n hx hb dL_seal_6 rfl (lv_at hl 3 rfl) ?_
  refine z_cL (E := "java/lang/IllegalArgumentException") [.int (nI 0), .ref ob] hst hx hb hml hown hts (m_X2_seal_x3 l hst Dg cI h na ta G D G1 D1 b_ s_ w_ hbb hs4 e1 hG hW) gL_seal_X2_seal rfl kd_X2_seal ⟨Nat.le_of_ble_eq_true rfl, Nat.le_of_ble_eq_true rfl⟩ hX hP rfl hl.1 rfl (Nat.le_of_ble_eq_true rfl) dL_seal_7 ⟨Nat.le_of_ble_eq_true rfl, Nat.le_of_ble_eq_true rfl⟩ (fun ce q9 H hP hS hc1 hc2 hc3 => ?_)
  refine vx_catch (own := RL) (name := "java/lang/IllegalArgumentException") (E := "java/lang/IllegalArgumentException") hown [⟨0, 12, 15, 21⟩] ⟨0, 12, 19, 13⟩ [⟨0, 12, 23, 15⟩] htab (fun z hz => by obtain rfl := List.mem_singleton.mp hz; exact Or.inr ⟨by decide, _, (hts _ (List.mem_cons_of_mem _ (List.mem_append_left _ (List.mem_append_left _ (List.mem_append_left _ (List.mem_append_left _ (List.mem_append_left _ (List.mem_append_left _ (List.mem_append_left _ (List.mem_of_getElem? (i := 0) rfl)))))))))), hX.2.2.2.2.2.1⟩) rfl (by decide) (hts _ (List.mem_cons_of_mem _ (List.mem_append_left _ (List.mem_append_left _ (List.mem_append_left _ (List.mem_append_left _ (List.mem_append_left _ (List.mem_append_left _ (List.mem_append_left _ (List.mem_of_getElem? (i := 1) rfl)))))))))) (va_Nw.use rfl hX.2.2.1.2.2.2.2.2.2.2.2.2.2.2.2.2.1) hc1 hc2 hc3 ?_
  refine lv_astore (lv' := [(5, .ref q9), (0, .ref h), (1, .int (nI b_)), (2, .int (nI s_)), (3, .int w_), (4, .ref ob)]) hx hb dL_seal_19 hl (by decide) rfl (fun ls hl => ?_)
  refine lv_iconst (v := 2) hx hb dL_seal_21 (by decide) ?_
  exact z_eL (w' := (z_oW cI cL h na ta ob G D G1 D1 o9)) (z_PW.of (fun q => absurd q (by decide))) rfl hP hS ⟨Nat.le_of_ble_eq_true rfl, Nat.le_of_ble_eq_true rfl⟩ hx hb hr hlk dL_seal_22

set_option maxHeartbeats 4000000 in
set_option maxRecDepth 100000 in
theorem m_L_seal_x4 (l : Launch) (hst : l.stackTraces = false) (Dg : va_G) (cI : ClassId) (cL : ClassId) (h : Nat) (na ta : Nat → Nat) (G : z_GG) (D : z_DD) (G1 : z_GG) (D1 : z_DD) (ob : Nat) (o9 : Nat → Int64) (b_ : Nat) (s_ : Nat) (k_ : Nat) (hbb : b_ < z_bc G) (hs4 : s_ < 4) (hk1 : 1 ≤ k_) (hk2 : k_ ≤ 20) (hk60 : 60 < z_tc G + k_) (hG : z_WG G) (hW : z_WD G D) : z_ML l yL_seal wsL_seal 8 134 [.ref h, .int (nI b_), .int (nI s_), .int (nI k_), .ref ob] Dg cI cL (z_oW cI cL h na ta ob G D G1 D1 o9) (z_PW 3 (0 : Int64) cI cL h na ta ob G D) := by
  have htc : z_tc G ≤ 60 := hG.2.2.2.2.2.1
  have hbc : z_bc G ≤ 6 := hG.2.2.2.2.1
  refine z_sL (own := RL) (hh := [(0, 12, 15, 21), (0, 12, 19, 13), (0, 12, 23, 15)]) (l0 := [(0, .ref h), (1, .int (nI b_)), (2, .int (nI s_)), (3, .int (nI k_)), (4, .ref ob)]) rfl rfl (by decide) (Nat.le_of_ble_eq_true rfl) rfl ?_
  intro p e s m below meth c hx hb hr hml hts hown hlk htab hP hX hD hS ls hl
  refine lv_aload hx hb dL_seal_0 (lv_at hl 4 rfl) ?_
  refine lv_iconst (v := nI 0) hx hb dL_seal_2 (by decide) ?_
  refine lv_aload_n hx hb dL_seal_3 rfl (lv_at hl 0 rfl) ?_
  refine lv_iload_n hx hb dL_seal_4 rfl (lv_at hl 1 rfl) ?_
  refine lv_iload_n hx hb dL_seal_5 rfl (lv_at hl 2 rfl) ?_
  refine lv_iload_n hx hb dL_seal_6 rfl (lv_at hl 3 rfl) ?_
  refine z_cL (E := "java/lang/IllegalStateException") [.int (nI 0), .ref ob] hst hx hb hml hown hts (m_X2_seal_x4 l hst Dg cI h na ta G D G1 D1 b_ s_ k_ hbb hs4 hk1 hk2 hk60 hG hW) gL_seal_X2_seal rfl kd_X2_seal ⟨Nat.le_of_ble_eq_true rfl, Nat.le_of_ble_eq_true rfl⟩ hX hP rfl hl.1 rfl (Nat.le_of_ble_eq_true rfl) dL_seal_7 ⟨Nat.le_of_ble_eq_true rfl, Nat.le_of_ble_eq_true rfl⟩ (fun ce q9 H hP hS hc1 hc2 hc3 => ?_)
  refine vx_catch (own := RL) (name := "java/lang/IllegalStateException") (E := "java/lang/IllegalStateException") hown [⟨0, 12, 15, 21⟩, ⟨0, 12, 19, 13⟩] ⟨0, 12, 23, 15⟩ [] htab (fun z hz => by rcases List.mem_cons.mp hz with rfl | hz; exact Or.inr ⟨by decide, _, (hts _ (List.mem_cons_of_mem _ (List.mem_append_left _ (List.mem_append_left _ (List.mem_append_left _ (List.mem_append_left _ (List.mem_append_left _ (List.mem_append_left _ (List.mem_append_left _ (List.mem_of_getElem? (i := 0) rfl)))))))))), hX.2.2.2.2.2.2⟩; obtain rfl := List.mem_singleton.mp hz; exact Or.inr ⟨by decide, _, (hts _ (List.mem_cons_of_mem _ (List.mem_append_left _ (List.mem_append_left _ (List.mem_append_left _ (List.mem_append_left _ (List.mem_append_left _ (List.mem_append_left _ (List.mem_append_left _ (List.mem_of_getElem? (i := 1) rfl)))))))))), hX.2.2.2.2.1⟩) rfl (by decide) (hts _ (List.mem_cons_of_mem _ (List.mem_append_left _ (List.mem_append_left _ (List.mem_append_left _ (List.mem_append_left _ (List.mem_append_left _ (List.mem_append_left _ (List.mem_append_left _ (List.mem_of_getElem? (i := 2) rfl)))))))))) (va_Nw.use rfl hX.2.2.1.2.2.2.2.2.2.2.2.2.2.2.2.2.2.1) hc1 hc2 hc3 ?_
  refine lv_astore (lv' := [(5, .ref q9), (0, .ref h), (1, .int (nI b_)), (2, .int (nI s_)), (3, .int (nI k_)), (4, .ref ob)]) hx hb dL_seal_23 hl (by decide) rfl (fun ls hl => ?_)
  refine lv_iconst (v := 3) hx hb dL_seal_25 (by decide) ?_
  exact z_eL (w' := (z_oW cI cL h na ta ob G D G1 D1 o9)) (z_PW.of (fun q => absurd q (by decide))) rfl hP hS ⟨Nat.le_of_ble_eq_true rfl, Nat.le_of_ble_eq_true rfl⟩ hx hb hr hlk dL_seal_26

set_option maxHeartbeats 4000000 in
set_option maxRecDepth 100000 in
theorem m_L_seal_x5 (l : Launch) (hst : l.stackTraces = false) (Dg : va_G) (cI : ClassId) (cL : ClassId) (h : Nat) (na ta : Nat → Nat) (G : z_GG) (D : z_DD) (G1 : z_GG) (D1 : z_DD) (ob : Nat) (o9 : Nat → Int64) (b_ : Nat) (s_ : Nat) (k_ : Nat) (hbb : b_ < z_bc G) (hs4 : s_ < 4) (hk1 : 1 ≤ k_) (hk2 : k_ ≤ 20) (hk60 : z_tc G + k_ ≤ 60) (hrc : z_rc D b_ = true) (hG : z_WG G) (hW : z_WD G D) : z_ML l yL_seal wsL_seal 8 134 [.ref h, .int (nI b_), .int (nI s_), .int (nI k_), .ref ob] Dg cI cL (z_oW cI cL h na ta ob G D G1 D1 o9) (z_PW 3 (0 : Int64) cI cL h na ta ob G D) := by
  have htc : z_tc G ≤ 60 := hG.2.2.2.2.2.1
  have hbc : z_bc G ≤ 6 := hG.2.2.2.2.1
  refine z_sL (own := RL) (hh := [(0, 12, 15, 21), (0, 12, 19, 13), (0, 12, 23, 15)]) (l0 := [(0, .ref h), (1, .int (nI b_)), (2, .int (nI s_)), (3, .int (nI k_)), (4, .ref ob)]) rfl rfl (by decide) (Nat.le_of_ble_eq_true rfl) rfl ?_
  intro p e s m below meth c hx hb hr hml hts hown hlk htab hP hX hD hS ls hl
  refine lv_aload hx hb dL_seal_0 (lv_at hl 4 rfl) ?_
  refine lv_iconst (v := nI 0) hx hb dL_seal_2 (by decide) ?_
  refine lv_aload_n hx hb dL_seal_3 rfl (lv_at hl 0 rfl) ?_
  refine lv_iload_n hx hb dL_seal_4 rfl (lv_at hl 1 rfl) ?_
  refine lv_iload_n hx hb dL_seal_5 rfl (lv_at hl 2 rfl) ?_
  refine lv_iload_n hx hb dL_seal_6 rfl (lv_at hl 3 rfl) ?_
  refine z_cL (E := "java/lang/IllegalStateException") [.int (nI 0), .ref ob] hst hx hb hml hown hts (m_X2_seal_x5 l hst Dg cI h na ta G D G1 D1 b_ s_ k_ hbb hs4 hk1 hk2 hk60 hrc hG hW) gL_seal_X2_seal rfl kd_X2_seal ⟨Nat.le_of_ble_eq_true rfl, Nat.le_of_ble_eq_true rfl⟩ hX hP rfl hl.1 rfl (Nat.le_of_ble_eq_true rfl) dL_seal_7 ⟨Nat.le_of_ble_eq_true rfl, Nat.le_of_ble_eq_true rfl⟩ (fun ce q9 H hP hS hc1 hc2 hc3 => ?_)
  refine vx_catch (own := RL) (name := "java/lang/IllegalStateException") (E := "java/lang/IllegalStateException") hown [⟨0, 12, 15, 21⟩, ⟨0, 12, 19, 13⟩] ⟨0, 12, 23, 15⟩ [] htab (fun z hz => by rcases List.mem_cons.mp hz with rfl | hz; exact Or.inr ⟨by decide, _, (hts _ (List.mem_cons_of_mem _ (List.mem_append_left _ (List.mem_append_left _ (List.mem_append_left _ (List.mem_append_left _ (List.mem_append_left _ (List.mem_append_left _ (List.mem_append_left _ (List.mem_of_getElem? (i := 0) rfl)))))))))), hX.2.2.2.2.2.2⟩; obtain rfl := List.mem_singleton.mp hz; exact Or.inr ⟨by decide, _, (hts _ (List.mem_cons_of_mem _ (List.mem_append_left _ (List.mem_append_left _ (List.mem_append_left _ (List.mem_append_left _ (List.mem_append_left _ (List.mem_append_left _ (List.mem_append_left _ (List.mem_of_getElem? (i := 1) rfl)))))))))), hX.2.2.2.2.1⟩) rfl (by decide) (hts _ (List.mem_cons_of_mem _ (List.mem_append_left _ (List.mem_append_left _ (List.mem_append_left _ (List.mem_append_left _ (List.mem_append_left _ (List.mem_append_left _ (List.mem_append_left _ (List.mem_of_getElem? (i := 2) rfl)))))))))) (va_Nw.use rfl hX.2.2.1.2.2.2.2.2.2.2.2.2.2.2.2.2.2.1) hc1 hc2 hc3 ?_
  refine lv_astore (lv' := [(5, .ref q9), (0, .ref h), (1, .int (nI b_)), (2, .int (nI s_)), (3, .int (nI k_)), (4, .ref ob)]) hx hb dL_seal_23 hl (by decide) rfl (fun ls hl => ?_)
  refine lv_iconst (v := 3) hx hb dL_seal_25 (by decide) ?_
  exact z_eL (w' := (z_oW cI cL h na ta ob G D G1 D1 o9)) (z_PW.of (fun q => absurd q (by decide))) rfl hP hS ⟨Nat.le_of_ble_eq_true rfl, Nat.le_of_ble_eq_true rfl⟩ hx hb hr hlk dL_seal_26

set_option maxHeartbeats 4000000 in
set_option maxRecDepth 100000 in
theorem m_L_seal_ok (l : Launch) (hst : l.stackTraces = false) (Dg : va_G) (cI : ClassId) (cL : ClassId) (h : Nat) (na ta : Nat → Nat) (G : z_GG) (D : z_DD) (G1 : z_GG) (D1 : z_DD) (ob : Nat) (o9 : Nat → Int64) (b_ : Nat) (s_ : Nat) (k_ : Nat) (hbb : b_ < z_bc G) (hs4 : s_ < 4) (hk1 : 1 ≤ k_) (hk2 : k_ ≤ 20) (hk60 : z_tc G + k_ ≤ 60) (hrc : z_rc D b_ = false) (hG : z_WG G) (hW : z_WD G D) : z_ML l yL_seal wsL_seal 8 134 [.ref h, .int (nI b_), .int (nI s_), .int (nI k_), .ref ob] Dg cI cL (z_oW cI cL h na ta ob G D G1 D1 o9) (z_PW 0 ((nI (z_tc G) : Int32).toInt64) cI cL h na ta ob (z_gn G b_ s_ k_) (z_dn G D b_ s_ k_)) := by
  have htc : z_tc G ≤ 60 := hG.2.2.2.2.2.1
  have hbc : z_bc G ≤ 6 := hG.2.2.2.2.1
  refine z_sL (own := RL) (hh := [(0, 12, 15, 21), (0, 12, 19, 13), (0, 12, 23, 15)]) (l0 := [(0, .ref h), (1, .int (nI b_)), (2, .int (nI s_)), (3, .int (nI k_)), (4, .ref ob)]) rfl rfl (by decide) (Nat.le_of_ble_eq_true rfl) rfl ?_
  intro p e s m below meth c hx hb hr hml hts hown hlk htab hP hX hD hS ls hl
  refine lv_aload hx hb dL_seal_0 (lv_at hl 4 rfl) ?_
  refine lv_iconst (v := nI 0) hx hb dL_seal_2 (by decide) ?_
  refine lv_aload_n hx hb dL_seal_3 rfl (lv_at hl 0 rfl) ?_
  refine lv_iload_n hx hb dL_seal_4 rfl (lv_at hl 1 rfl) ?_
  refine lv_iload_n hx hb dL_seal_5 rfl (lv_at hl 2 rfl) ?_
  refine lv_iload_n hx hb dL_seal_6 rfl (lv_at hl 3 rfl) ?_
  refine z_wBi (v := nI (z_tc G)) [.int (nI 0), .ref ob] [] [(ob, .inl (cL, 1, .inr (.inl o9)))] 0 hx hb hml hown hts (m_X2_seal l Dg cI h na ta G D G1 D1 b_ s_ k_ hbb hs4 hk1 hk2 hk60 hrc hG hW) gL_seal_X2_seal rfl kd_X2_seal ⟨Nat.le_of_ble_eq_true rfl, Nat.le_of_ble_eq_true rfl⟩ hX.1.1 hX.1.2 hP hD hS rfl rfl rfl rfl rfl hl.1 rfl (Nat.le_of_ble_eq_true rfl) dL_seal_7 ⟨Nat.zero_le _, Nat.zero_le _⟩ (fun H locs hP hD hS => ?_)
  have hP : va_P Dg vwCl (z_oW cI cL h na ta ob (z_gn G b_ s_ k_) (z_dn G D b_ s_ k_) G1 D1 o9) H := hP
  have hD : va_D _ (z_oW cI cL h na ta ob (z_gn G b_ s_ k_) (z_dn G D b_ s_ k_) G1 D1 o9) := hD
  refine lv_i2l (v := Int32.toInt64 (nI (z_tc G))) hx hb dL_seal_10 rfl ?_
  refine va_last hx hb hX.2.1 hP hD hS 39 0 rfl rfl (vp_in_nI (by decide) (by decide)) dL_seal_11 (fun H locs hP hD hS => ?_)
  have hP : va_P Dg vwCl (z_oW cI cL h na ta ob (z_gn G b_ s_ k_) (z_dn G D b_ s_ k_) G1 D1 (vp_updL o9 (nI 0).toNatClampNeg (Int32.toInt64 (nI (z_tc G))))) H := hP
  refine lv_goto (tgt := 27) hx hb dL_seal_12 (by decide) ?_
  refine lv_iconst (v := 0) hx hb dL_seal_27 (by decide) ?_
  exact z_eL (w' := (z_oW cI cL h na ta ob (z_gn G b_ s_ k_) (z_dn G D b_ s_ k_) G1 D1 (vp_updL o9 (nI 0).toNatClampNeg (Int32.toInt64 (nI (z_tc G)))))) (z_PW.of (fun _ => rfl)) rfl hP hS ⟨Nat.le_of_ble_eq_true rfl, Nat.le_of_ble_eq_true rfl⟩ hx hb hr hlk dL_seal_28

set_option maxHeartbeats 4000000 in
set_option maxRecDepth 100000 in
theorem m_L_move_x1 (l : Launch) (hst : l.stackTraces = false) (Dg : va_G) (cI : ClassId) (cL : ClassId) (h : Nat) (na ta : Nat → Nat) (G : z_GG) (D : z_DD) (G1 : z_GG) (D1 : z_DD) (ob : Nat) (o9 : Nat → Int64) (x_ : Int32) (y_ : Int32) (e1 : ¬ (0 ≤ x_ ∧ x_ ≤ nI (z_tc G) - 1)) (hG : z_WG G) (hW : z_WD G D) : z_ML l yL_move wsL_move 8 134 [.ref h, .int x_, .int y_, .ref ob] Dg cI cL (z_oW cI cL h na ta ob G D G1 D1 o9) (z_PW 1 (0 : Int64) cI cL h na ta ob G D) := by
  have htc : z_tc G ≤ 60 := hG.2.2.2.2.2.1
  have hbc : z_bc G ≤ 6 := hG.2.2.2.2.1
  refine z_sL (own := RL) (hh := [(0, 10, 13, 21), (0, 10, 17, 15)]) (l0 := [(0, .ref h), (1, .int x_), (2, .int y_), (3, .ref ob)]) rfl rfl (by decide) (Nat.le_of_ble_eq_true rfl) rfl ?_
  intro p e s m below meth c hx hb hr hml hts hown hlk htab hP hX hD hS ls hl
  refine lv_aload_n hx hb dL_move_0 rfl (lv_at hl 3 rfl) ?_
  refine lv_iconst (v := nI 0) hx hb dL_move_1 (by decide) ?_
  refine lv_aload_n hx hb dL_move_2 rfl (lv_at hl 0 rfl) ?_
  refine lv_iload_n hx hb dL_move_3 rfl (lv_at hl 1 rfl) ?_
  refine lv_iload_n hx hb dL_move_4 rfl (lv_at hl 2 rfl) ?_
  refine z_cL (E := "java/lang/IndexOutOfBoundsException") [.int (nI 0), .ref ob] hst hx hb hml hown hts (m_X2_move_x1 l hst Dg cI h na ta G D G1 D1 x_ y_ e1 hG hW) gL_move_X2_move rfl kd_X2_move ⟨Nat.le_of_ble_eq_true rfl, Nat.le_of_ble_eq_true rfl⟩ hX hP rfl hl.1 rfl (Nat.le_of_ble_eq_true rfl) dL_move_5 ⟨Nat.le_of_ble_eq_true rfl, Nat.le_of_ble_eq_true rfl⟩ (fun ce q9 H hP hS hc1 hc2 hc3 => ?_)
  refine vx_catch (own := RL) (name := "java/lang/IndexOutOfBoundsException") (E := "java/lang/IndexOutOfBoundsException") hown [] ⟨0, 10, 13, 21⟩ [⟨0, 10, 17, 15⟩] htab (fun z hz => absurd hz List.not_mem_nil) rfl (by decide) (hts _ (List.mem_cons_of_mem _ (List.mem_append_left _ (List.mem_append_left _ (List.mem_append_left _ (List.mem_append_left _ (List.mem_append_left _ (List.mem_append_left _ (List.mem_of_getElem? (i := 0) rfl))))))))) (va_Nw.use rfl hX.2.2.1.2.2.2.2.2.2.2.2.2.2.2.2.2.2.2.1) hc1 hc2 hc3 ?_
  refine lv_astore (lv' := [(4, .ref q9), (0, .ref h), (1, .int x_), (2, .int y_), (3, .ref ob)]) hx hb dL_move_13 hl (by decide) rfl (fun ls hl => ?_)
  refine lv_iconst (v := 1) hx hb dL_move_15 (by decide) ?_
  exact z_eL (w' := (z_oW cI cL h na ta ob G D G1 D1 o9)) (z_PW.of (fun q => absurd q (by decide))) rfl hP hS ⟨Nat.le_of_ble_eq_true rfl, Nat.le_of_ble_eq_true rfl⟩ hx hb hr hlk dL_move_16

set_option maxHeartbeats 4000000 in
set_option maxRecDepth 100000 in
theorem m_L_move_x2 (l : Launch) (hst : l.stackTraces = false) (Dg : va_G) (cI : ClassId) (cL : ClassId) (h : Nat) (na ta : Nat → Nat) (G : z_GG) (D : z_DD) (G1 : z_GG) (D1 : z_DD) (ob : Nat) (o9 : Nat → Int64) (t : Nat) (x_ : Int32) (ht : t < z_tc G) (e1 : ¬ (0 ≤ x_ ∧ x_ ≤ 3)) (hG : z_WG G) (hW : z_WD G D) : z_ML l yL_move wsL_move 8 134 [.ref h, .int (nI t), .int x_, .ref ob] Dg cI cL (z_oW cI cL h na ta ob G D G1 D1 o9) (z_PW 1 (0 : Int64) cI cL h na ta ob G D) := by
  have htc : z_tc G ≤ 60 := hG.2.2.2.2.2.1
  have hbc : z_bc G ≤ 6 := hG.2.2.2.2.1
  refine z_sL (own := RL) (hh := [(0, 10, 13, 21), (0, 10, 17, 15)]) (l0 := [(0, .ref h), (1, .int (nI t)), (2, .int x_), (3, .ref ob)]) rfl rfl (by decide) (Nat.le_of_ble_eq_true rfl) rfl ?_
  intro p e s m below meth c hx hb hr hml hts hown hlk htab hP hX hD hS ls hl
  refine lv_aload_n hx hb dL_move_0 rfl (lv_at hl 3 rfl) ?_
  refine lv_iconst (v := nI 0) hx hb dL_move_1 (by decide) ?_
  refine lv_aload_n hx hb dL_move_2 rfl (lv_at hl 0 rfl) ?_
  refine lv_iload_n hx hb dL_move_3 rfl (lv_at hl 1 rfl) ?_
  refine lv_iload_n hx hb dL_move_4 rfl (lv_at hl 2 rfl) ?_
  refine z_cL (E := "java/lang/IndexOutOfBoundsException") [.int (nI 0), .ref ob] hst hx hb hml hown hts (m_X2_move_x2 l hst Dg cI h na ta G D G1 D1 t x_ ht e1 hG hW) gL_move_X2_move rfl kd_X2_move ⟨Nat.le_of_ble_eq_true rfl, Nat.le_of_ble_eq_true rfl⟩ hX hP rfl hl.1 rfl (Nat.le_of_ble_eq_true rfl) dL_move_5 ⟨Nat.le_of_ble_eq_true rfl, Nat.le_of_ble_eq_true rfl⟩ (fun ce q9 H hP hS hc1 hc2 hc3 => ?_)
  refine vx_catch (own := RL) (name := "java/lang/IndexOutOfBoundsException") (E := "java/lang/IndexOutOfBoundsException") hown [] ⟨0, 10, 13, 21⟩ [⟨0, 10, 17, 15⟩] htab (fun z hz => absurd hz List.not_mem_nil) rfl (by decide) (hts _ (List.mem_cons_of_mem _ (List.mem_append_left _ (List.mem_append_left _ (List.mem_append_left _ (List.mem_append_left _ (List.mem_append_left _ (List.mem_append_left _ (List.mem_of_getElem? (i := 0) rfl))))))))) (va_Nw.use rfl hX.2.2.1.2.2.2.2.2.2.2.2.2.2.2.2.2.2.2.1) hc1 hc2 hc3 ?_
  refine lv_astore (lv' := [(4, .ref q9), (0, .ref h), (1, .int (nI t)), (2, .int x_), (3, .ref ob)]) hx hb dL_move_13 hl (by decide) rfl (fun ls hl => ?_)
  refine lv_iconst (v := 1) hx hb dL_move_15 (by decide) ?_
  exact z_eL (w' := (z_oW cI cL h na ta ob G D G1 D1 o9)) (z_PW.of (fun q => absurd q (by decide))) rfl hP hS ⟨Nat.le_of_ble_eq_true rfl, Nat.le_of_ble_eq_true rfl⟩ hx hb hr hlk dL_move_16

set_option maxHeartbeats 4000000 in
set_option maxRecDepth 100000 in
theorem m_L_move_x3 (l : Launch) (hst : l.stackTraces = false) (Dg : va_G) (cI : ClassId) (cL : ClassId) (h : Nat) (na ta : Nat → Nat) (G : z_GG) (D : z_DD) (G1 : z_GG) (D1 : z_DD) (ob : Nat) (o9 : Nat → Int64) (t : Nat) (s_ : Nat) (ht : t < z_tc G) (hs4 : s_ < 4) (hp1 : ¬ z_pl D t = 1) (hG : z_WG G) (hW : z_WD G D) : z_ML l yL_move wsL_move 8 134 [.ref h, .int (nI t), .int (nI s_), .ref ob] Dg cI cL (z_oW cI cL h na ta ob G D G1 D1 o9) (z_PW 2 (0 : Int64) cI cL h na ta ob G D) := by
  have htc : z_tc G ≤ 60 := hG.2.2.2.2.2.1
  have hbc : z_bc G ≤ 6 := hG.2.2.2.2.1
  refine z_sL (own := RL) (hh := [(0, 10, 13, 21), (0, 10, 17, 15)]) (l0 := [(0, .ref h), (1, .int (nI t)), (2, .int (nI s_)), (3, .ref ob)]) rfl rfl (by decide) (Nat.le_of_ble_eq_true rfl) rfl ?_
  intro p e s m below meth c hx hb hr hml hts hown hlk htab hP hX hD hS ls hl
  refine lv_aload_n hx hb dL_move_0 rfl (lv_at hl 3 rfl) ?_
  refine lv_iconst (v := nI 0) hx hb dL_move_1 (by decide) ?_
  refine lv_aload_n hx hb dL_move_2 rfl (lv_at hl 0 rfl) ?_
  refine lv_iload_n hx hb dL_move_3 rfl (lv_at hl 1 rfl) ?_
  refine lv_iload_n hx hb dL_move_4 rfl (lv_at hl 2 rfl) ?_
  refine z_cL (E := "java/lang/IllegalStateException") [.int (nI 0), .ref ob] hst hx hb hml hown hts (m_X2_move_x3 l hst Dg cI h na ta G D G1 D1 t s_ ht hs4 hp1 hG hW) gL_move_X2_move rfl kd_X2_move ⟨Nat.le_of_ble_eq_true rfl, Nat.le_of_ble_eq_true rfl⟩ hX hP rfl hl.1 rfl (Nat.le_of_ble_eq_true rfl) dL_move_5 ⟨Nat.le_of_ble_eq_true rfl, Nat.le_of_ble_eq_true rfl⟩ (fun ce q9 H hP hS hc1 hc2 hc3 => ?_)
  refine vx_catch (own := RL) (name := "java/lang/IllegalStateException") (E := "java/lang/IllegalStateException") hown [⟨0, 10, 13, 21⟩] ⟨0, 10, 17, 15⟩ [] htab (fun z hz => by obtain rfl := List.mem_singleton.mp hz; exact Or.inr ⟨by decide, _, (hts _ (List.mem_cons_of_mem _ (List.mem_append_left _ (List.mem_append_left _ (List.mem_append_left _ (List.mem_append_left _ (List.mem_append_left _ (List.mem_append_left _ (List.mem_of_getElem? (i := 0) rfl))))))))), hX.2.2.2.2.2.2⟩) rfl (by decide) (hts _ (List.mem_cons_of_mem _ (List.mem_append_left _ (List.mem_append_left _ (List.mem_append_left _ (List.mem_append_left _ (List.mem_append_left _ (List.mem_append_left _ (List.mem_of_getElem? (i := 1) rfl))))))))) (va_Nw.use rfl hX.2.2.1.2.2.2.2.2.2.2.2.2.2.2.2.2.2.1) hc1 hc2 hc3 ?_
  refine lv_astore (lv' := [(4, .ref q9), (0, .ref h), (1, .int (nI t)), (2, .int (nI s_)), (3, .ref ob)]) hx hb dL_move_17 hl (by decide) rfl (fun ls hl => ?_)
  refine lv_iconst (v := 2) hx hb dL_move_19 (by decide) ?_
  exact z_eL (w' := (z_oW cI cL h na ta ob G D G1 D1 o9)) (z_PW.of (fun q => absurd q (by decide))) rfl hP hS ⟨Nat.le_of_ble_eq_true rfl, Nat.le_of_ble_eq_true rfl⟩ hx hb hr hlk dL_move_20

set_option maxHeartbeats 4000000 in
set_option maxRecDepth 100000 in
theorem m_L_move_ok (l : Launch) (hst : l.stackTraces = false) (Dg : va_G) (cI : ClassId) (cL : ClassId) (h : Nat) (na ta : Nat → Nat) (G : z_GG) (D : z_DD) (G1 : z_GG) (D1 : z_DD) (ob : Nat) (o9 : Nat → Int64) (t : Nat) (s_ : Nat) (ht : t < z_tc G) (hs4 : s_ < 4) (hp1 : z_pl D t = 1) (hG : z_WG G) (hW : z_WD G D) : z_ML l yL_move wsL_move 8 134 [.ref h, .int (nI t), .int (nI s_), .ref ob] Dg cI cL (z_oW cI cL h na ta ob G D G1 D1 o9) (z_PW 0 ((nI (z_sh G t) : Int32).toInt64) cI cL h na ta ob (z_setsh G t s_) D) := by
  have htc : z_tc G ≤ 60 := hG.2.2.2.2.2.1
  have hbc : z_bc G ≤ 6 := hG.2.2.2.2.1
  refine z_sL (own := RL) (hh := [(0, 10, 13, 21), (0, 10, 17, 15)]) (l0 := [(0, .ref h), (1, .int (nI t)), (2, .int (nI s_)), (3, .ref ob)]) rfl rfl (by decide) (Nat.le_of_ble_eq_true rfl) rfl ?_
  intro p e s m below meth c hx hb hr hml hts hown hlk htab hP hX hD hS ls hl
  refine lv_aload_n hx hb dL_move_0 rfl (lv_at hl 3 rfl) ?_
  refine lv_iconst (v := nI 0) hx hb dL_move_1 (by decide) ?_
  refine lv_aload_n hx hb dL_move_2 rfl (lv_at hl 0 rfl) ?_
  refine lv_iload_n hx hb dL_move_3 rfl (lv_at hl 1 rfl) ?_
  refine lv_iload_n hx hb dL_move_4 rfl (lv_at hl 2 rfl) ?_
  refine z_wBi (v := nI (z_sh G t)) [.int (nI 0), .ref ob] [] [(ob, .inl (cL, 1, .inr (.inl o9)))] 0 hx hb hml hown hts (m_X2_move l Dg cI h na ta G D G1 D1 t s_ ht hs4 hp1 hG hW) gL_move_X2_move rfl kd_X2_move ⟨Nat.le_of_ble_eq_true rfl, Nat.le_of_ble_eq_true rfl⟩ hX.1.1 hX.1.2 hP hD hS rfl rfl rfl rfl rfl hl.1 rfl (Nat.le_of_ble_eq_true rfl) dL_move_5 ⟨Nat.zero_le _, Nat.zero_le _⟩ (fun H locs hP hD hS => ?_)
  have hP : va_P Dg vwCl (z_oW cI cL h na ta ob (z_setsh G t s_) D G1 D1 o9) H := hP
  have hD : va_D _ (z_oW cI cL h na ta ob (z_setsh G t s_) D G1 D1 o9) := hD
  refine lv_i2l (v := Int32.toInt64 (nI (z_sh G t))) hx hb dL_move_8 rfl ?_
  refine va_last hx hb hX.2.1 hP hD hS 39 0 rfl rfl (vp_in_nI (by decide) (by decide)) dL_move_9 (fun H locs hP hD hS => ?_)
  have hP : va_P Dg vwCl (z_oW cI cL h na ta ob (z_setsh G t s_) D G1 D1 (vp_updL o9 (nI 0).toNatClampNeg (Int32.toInt64 (nI (z_sh G t))))) H := hP
  refine lv_goto (tgt := 21) hx hb dL_move_10 (by decide) ?_
  refine lv_iconst (v := 0) hx hb dL_move_21 (by decide) ?_
  exact z_eL (w' := (z_oW cI cL h na ta ob (z_setsh G t s_) D G1 D1 (vp_updL o9 (nI 0).toNatClampNeg (Int32.toInt64 (nI (z_sh G t)))))) (z_PW.of (fun _ => rfl)) rfl hP hS ⟨Nat.le_of_ble_eq_true rfl, Nat.le_of_ble_eq_true rfl⟩ hx hb hr hlk dL_move_22

set_option maxHeartbeats 4000000 in
set_option maxRecDepth 100000 in
theorem m_L_setWarm_x1 (l : Launch) (hst : l.stackTraces = false) (Dg : va_G) (cI : ClassId) (cL : ClassId) (h : Nat) (na ta : Nat → Nat) (G : z_GG) (D : z_DD) (G1 : z_GG) (D1 : z_DD) (ob : Nat) (o9 : Nat → Int64) (x_ : Int32) (y_ : Int32) (e1 : ¬ (0 ≤ x_ ∧ x_ ≤ 3)) (hG : z_WG G) (hW : z_WD G D) : z_ML l yL_setWarm wsL_setWarm 8 133 [.ref h, .int x_, .int y_, .ref ob] Dg cI cL (z_oW cI cL h na ta ob G D G1 D1 o9) (z_PW 1 (0 : Int64) cI cL h na ta ob G D) := by
  have htc : z_tc G ≤ 60 := hG.2.2.2.2.2.1
  have hbc : z_bc G ≤ 6 := hG.2.2.2.2.1
  refine z_sL (own := RL) (hh := [(0, 10, 13, 21), (0, 10, 17, 13)]) (l0 := [(0, .ref h), (1, .int x_), (2, .int y_), (3, .ref ob)]) rfl rfl (by decide) (Nat.le_of_ble_eq_true rfl) rfl ?_
  intro p e s m below meth c hx hb hr hml hts hown hlk htab hP hX hD hS ls hl
  refine lv_aload_n hx hb dL_setWarm_0 rfl (lv_at hl 3 rfl) ?_
  refine lv_iconst (v := nI 0) hx hb dL_setWarm_1 (by decide) ?_
  refine lv_aload_n hx hb dL_setWarm_2 rfl (lv_at hl 0 rfl) ?_
  refine lv_iload_n hx hb dL_setWarm_3 rfl (lv_at hl 1 rfl) ?_
  refine lv_iload_n hx hb dL_setWarm_4 rfl (lv_at hl 2 rfl) ?_
  refine z_cL (E := "java/lang/IndexOutOfBoundsException") [.int (nI 0), .ref ob] hst hx hb hml hown hts (m_X2_setWarm_x1 l hst Dg cI h na ta G D G1 D1 x_ y_ e1 hG hW) gL_setWarm_X2_setWarm rfl kd_X2_setWarm ⟨Nat.le_of_ble_eq_true rfl, Nat.le_of_ble_eq_true rfl⟩ hX hP rfl hl.1 rfl (Nat.le_of_ble_eq_true rfl) dL_setWarm_5 ⟨Nat.le_of_ble_eq_true rfl, Nat.le_of_ble_eq_true rfl⟩ (fun ce q9 H hP hS hc1 hc2 hc3 => ?_)
  refine vx_catch (own := RL) (name := "java/lang/IndexOutOfBoundsException") (E := "java/lang/IndexOutOfBoundsException") hown [] ⟨0, 10, 13, 21⟩ [⟨0, 10, 17, 13⟩] htab (fun z hz => absurd hz List.not_mem_nil) rfl (by decide) (hts _ (List.mem_cons_of_mem _ (List.mem_append_left _ (List.mem_append_left _ (List.mem_append_left _ (List.mem_append_left _ (List.mem_append_left _ (List.mem_append_left _ (List.mem_of_getElem? (i := 0) rfl))))))))) (va_Nw.use rfl hX.2.2.1.2.2.2.2.2.2.2.2.2.2.2.2.2.2.2.1) hc1 hc2 hc3 ?_
  refine lv_astore (lv' := [(4, .ref q9), (0, .ref h), (1, .int x_), (2, .int y_), (3, .ref ob)]) hx hb dL_setWarm_13 hl (by decide) rfl (fun ls hl => ?_)
  refine lv_iconst (v := 1) hx hb dL_setWarm_15 (by decide) ?_
  exact z_eL (w' := (z_oW cI cL h na ta ob G D G1 D1 o9)) (z_PW.of (fun q => absurd q (by decide))) rfl hP hS ⟨Nat.le_of_ble_eq_true rfl, Nat.le_of_ble_eq_true rfl⟩ hx hb hr hlk dL_setWarm_16

set_option maxHeartbeats 4000000 in
set_option maxRecDepth 100000 in
theorem m_L_setWarm_x2 (l : Launch) (hst : l.stackTraces = false) (Dg : va_G) (cI : ClassId) (cL : ClassId) (h : Nat) (na ta : Nat → Nat) (G : z_GG) (D : z_DD) (G1 : z_GG) (D1 : z_DD) (ob : Nat) (o9 : Nat → Int64) (s_ : Nat) (w_ : Int32) (hs4 : s_ < 4) (e1 : ¬ (0 ≤ w_ ∧ w_ ≤ 3)) (hG : z_WG G) (hW : z_WD G D) : z_ML l yL_setWarm wsL_setWarm 8 133 [.ref h, .int (nI s_), .int w_, .ref ob] Dg cI cL (z_oW cI cL h na ta ob G D G1 D1 o9) (z_PW 2 (0 : Int64) cI cL h na ta ob G D) := by
  have htc : z_tc G ≤ 60 := hG.2.2.2.2.2.1
  have hbc : z_bc G ≤ 6 := hG.2.2.2.2.1
  refine z_sL (own := RL) (hh := [(0, 10, 13, 21), (0, 10, 17, 13)]) (l0 := [(0, .ref h), (1, .int (nI s_)), (2, .int w_), (3, .ref ob)]) rfl rfl (by decide) (Nat.le_of_ble_eq_true rfl) rfl ?_
  intro p e s m below meth c hx hb hr hml hts hown hlk htab hP hX hD hS ls hl
  refine lv_aload_n hx hb dL_setWarm_0 rfl (lv_at hl 3 rfl) ?_
  refine lv_iconst (v := nI 0) hx hb dL_setWarm_1 (by decide) ?_
  refine lv_aload_n hx hb dL_setWarm_2 rfl (lv_at hl 0 rfl) ?_
  refine lv_iload_n hx hb dL_setWarm_3 rfl (lv_at hl 1 rfl) ?_
  refine lv_iload_n hx hb dL_setWarm_4 rfl (lv_at hl 2 rfl) ?_
  refine z_cL (E := "java/lang/IllegalArgumentException") [.int (nI 0), .ref ob] hst hx hb hml hown hts (m_X2_setWarm_x2 l hst Dg cI h na ta G D G1 D1 s_ w_ hs4 e1 hG hW) gL_setWarm_X2_setWarm rfl kd_X2_setWarm ⟨Nat.le_of_ble_eq_true rfl, Nat.le_of_ble_eq_true rfl⟩ hX hP rfl hl.1 rfl (Nat.le_of_ble_eq_true rfl) dL_setWarm_5 ⟨Nat.le_of_ble_eq_true rfl, Nat.le_of_ble_eq_true rfl⟩ (fun ce q9 H hP hS hc1 hc2 hc3 => ?_)
  refine vx_catch (own := RL) (name := "java/lang/IllegalArgumentException") (E := "java/lang/IllegalArgumentException") hown [⟨0, 10, 13, 21⟩] ⟨0, 10, 17, 13⟩ [] htab (fun z hz => by obtain rfl := List.mem_singleton.mp hz; exact Or.inr ⟨by decide, _, (hts _ (List.mem_cons_of_mem _ (List.mem_append_left _ (List.mem_append_left _ (List.mem_append_left _ (List.mem_append_left _ (List.mem_append_left _ (List.mem_append_left _ (List.mem_of_getElem? (i := 0) rfl))))))))), hX.2.2.2.2.2.1⟩) rfl (by decide) (hts _ (List.mem_cons_of_mem _ (List.mem_append_left _ (List.mem_append_left _ (List.mem_append_left _ (List.mem_append_left _ (List.mem_append_left _ (List.mem_append_left _ (List.mem_of_getElem? (i := 1) rfl))))))))) (va_Nw.use rfl hX.2.2.1.2.2.2.2.2.2.2.2.2.2.2.2.2.1) hc1 hc2 hc3 ?_
  refine lv_astore (lv' := [(4, .ref q9), (0, .ref h), (1, .int (nI s_)), (2, .int w_), (3, .ref ob)]) hx hb dL_setWarm_17 hl (by decide) rfl (fun ls hl => ?_)
  refine lv_iconst (v := 2) hx hb dL_setWarm_19 (by decide) ?_
  exact z_eL (w' := (z_oW cI cL h na ta ob G D G1 D1 o9)) (z_PW.of (fun q => absurd q (by decide))) rfl hP hS ⟨Nat.le_of_ble_eq_true rfl, Nat.le_of_ble_eq_true rfl⟩ hx hb hr hlk dL_setWarm_20

set_option maxHeartbeats 4000000 in
set_option maxRecDepth 100000 in
theorem m_L_setWarm_ok (l : Launch) (hst : l.stackTraces = false) (Dg : va_G) (cI : ClassId) (cL : ClassId) (h : Nat) (na ta : Nat → Nat) (G : z_GG) (D : z_DD) (G1 : z_GG) (D1 : z_DD) (ob : Nat) (o9 : Nat → Int64) (s_ : Nat) (w_ : Int32) (hs4 : s_ < 4) (hw1 : 0 ≤ w_) (hw2 : w_ ≤ 3) (hG : z_WG G) (hW : z_WD G D) : z_ML l yL_setWarm wsL_setWarm 8 133 [.ref h, .int (nI s_), .int w_, .ref ob] Dg cI cL (z_oW cI cL h na ta ob G D G1 D1 o9) (z_PW 0 ((z_wm G s_ : Int32).toInt64) cI cL h na ta ob (z_setwm G s_ w_) D) := by
  have htc : z_tc G ≤ 60 := hG.2.2.2.2.2.1
  have hbc : z_bc G ≤ 6 := hG.2.2.2.2.1
  refine z_sL (own := RL) (hh := [(0, 10, 13, 21), (0, 10, 17, 13)]) (l0 := [(0, .ref h), (1, .int (nI s_)), (2, .int w_), (3, .ref ob)]) rfl rfl (by decide) (Nat.le_of_ble_eq_true rfl) rfl ?_
  intro p e s m below meth c hx hb hr hml hts hown hlk htab hP hX hD hS ls hl
  refine lv_aload_n hx hb dL_setWarm_0 rfl (lv_at hl 3 rfl) ?_
  refine lv_iconst (v := nI 0) hx hb dL_setWarm_1 (by decide) ?_
  refine lv_aload_n hx hb dL_setWarm_2 rfl (lv_at hl 0 rfl) ?_
  refine lv_iload_n hx hb dL_setWarm_3 rfl (lv_at hl 1 rfl) ?_
  refine lv_iload_n hx hb dL_setWarm_4 rfl (lv_at hl 2 rfl) ?_
  refine z_wBi (v := z_wm G s_) [.int (nI 0), .ref ob] [] [(ob, .inl (cL, 1, .inr (.inl o9)))] 0 hx hb hml hown hts (m_X2_setWarm l Dg cI h na ta G D G1 D1 s_ w_ hs4 hw1 hw2 hG hW) gL_setWarm_X2_setWarm rfl kd_X2_setWarm ⟨Nat.le_of_ble_eq_true rfl, Nat.le_of_ble_eq_true rfl⟩ hX.1.1 hX.1.2 hP hD hS rfl rfl rfl rfl rfl hl.1 rfl (Nat.le_of_ble_eq_true rfl) dL_setWarm_5 ⟨Nat.zero_le _, Nat.zero_le _⟩ (fun H locs hP hD hS => ?_)
  have hP : va_P Dg vwCl (z_oW cI cL h na ta ob (z_setwm G s_ w_) D G1 D1 o9) H := hP
  have hD : va_D _ (z_oW cI cL h na ta ob (z_setwm G s_ w_) D G1 D1 o9) := hD
  refine lv_i2l (v := Int32.toInt64 (z_wm G s_)) hx hb dL_setWarm_8 rfl ?_
  refine va_last hx hb hX.2.1 hP hD hS 39 0 rfl rfl (vp_in_nI (by decide) (by decide)) dL_setWarm_9 (fun H locs hP hD hS => ?_)
  have hP : va_P Dg vwCl (z_oW cI cL h na ta ob (z_setwm G s_ w_) D G1 D1 (vp_updL o9 (nI 0).toNatClampNeg (Int32.toInt64 (z_wm G s_)))) H := hP
  refine lv_goto (tgt := 21) hx hb dL_setWarm_10 (by decide) ?_
  refine lv_iconst (v := 0) hx hb dL_setWarm_21 (by decide) ?_
  exact z_eL (w' := (z_oW cI cL h na ta ob (z_setwm G s_ w_) D G1 D1 (vp_updL o9 (nI 0).toNatClampNeg (Int32.toInt64 (z_wm G s_))))) (z_PW.of (fun _ => rfl)) rfl hP hS ⟨Nat.le_of_ble_eq_true rfl, Nat.le_of_ble_eq_true rfl⟩ hx hb hr hlk dL_setWarm_22

set_option maxHeartbeats 4000000 in
set_option maxRecDepth 100000 in
theorem m_L_recall_x1 (l : Launch) (hst : l.stackTraces = false) (Dg : va_G) (cI : ClassId) (cL : ClassId) (h : Nat) (na ta : Nat → Nat) (G : z_GG) (D : z_DD) (G1 : z_GG) (D1 : z_DD) (ob : Nat) (o9 : Nat → Int64) (x_ : Int32) (e1 : ¬ (0 ≤ x_ ∧ x_ ≤ nI (z_bc G) - 1)) (hG : z_WG G) (hW : z_WD G D) : z_ML l yL_recall wsL_recall 8 132 [.ref h, .int x_, .ref ob] Dg cI cL (z_oW cI cL h na ta ob G D G1 D1 o9) (z_PW 1 (0 : Int64) cI cL h na ta ob G D) := by
  have htc : z_tc G ≤ 60 := hG.2.2.2.2.2.1
  have hbc : z_bc G ≤ 6 := hG.2.2.2.2.1
  refine z_sL (own := RL) (hh := [(0, 9, 12, 21), (0, 9, 15, 15)]) (l0 := [(0, .ref h), (1, .int x_), (2, .ref ob)]) rfl rfl (by decide) (Nat.le_of_ble_eq_true rfl) rfl ?_
  intro p e s m below meth c hx hb hr hml hts hown hlk htab hP hX hD hS ls hl
  refine lv_aload_n hx hb dL_recall_0 rfl (lv_at hl 2 rfl) ?_
  refine lv_iconst (v := nI 0) hx hb dL_recall_1 (by decide) ?_
  refine lv_aload_n hx hb dL_recall_2 rfl (lv_at hl 0 rfl) ?_
  refine lv_iload_n hx hb dL_recall_3 rfl (lv_at hl 1 rfl) ?_
  refine z_cL (E := "java/lang/IndexOutOfBoundsException") [.int (nI 0), .ref ob] hst hx hb hml hown hts (m_X2_recall_x1 l hst Dg cI h na ta G D G1 D1 x_ e1 hG hW) gL_recall_X2_recall rfl kd_X2_recall ⟨Nat.le_of_ble_eq_true rfl, Nat.le_of_ble_eq_true rfl⟩ hX hP rfl hl.1 rfl (Nat.le_of_ble_eq_true rfl) dL_recall_4 ⟨Nat.le_of_ble_eq_true rfl, Nat.le_of_ble_eq_true rfl⟩ (fun ce q9 H hP hS hc1 hc2 hc3 => ?_)
  refine vx_catch (own := RL) (name := "java/lang/IndexOutOfBoundsException") (E := "java/lang/IndexOutOfBoundsException") hown [] ⟨0, 9, 12, 21⟩ [⟨0, 9, 15, 15⟩] htab (fun z hz => absurd hz List.not_mem_nil) rfl (by decide) (hts _ (List.mem_cons_of_mem _ (List.mem_append_left _ (List.mem_append_left _ (List.mem_append_left _ (List.mem_append_left _ (List.mem_append_left _ (List.mem_append_left _ (List.mem_of_getElem? (i := 0) rfl))))))))) (va_Nw.use rfl hX.2.2.1.2.2.2.2.2.2.2.2.2.2.2.2.2.2.2.1) hc1 hc2 hc3 ?_
  refine lv_astore_n (lv' := [(3, .ref q9), (0, .ref h), (1, .int x_), (2, .ref ob)]) hx hb dL_recall_12 rfl hl (by decide) rfl (fun ls hl => ?_)
  refine lv_iconst (v := 1) hx hb dL_recall_13 (by decide) ?_
  exact z_eL (w' := (z_oW cI cL h na ta ob G D G1 D1 o9)) (z_PW.of (fun q => absurd q (by decide))) rfl hP hS ⟨Nat.le_of_ble_eq_true rfl, Nat.le_of_ble_eq_true rfl⟩ hx hb hr hlk dL_recall_14

set_option maxHeartbeats 4000000 in
set_option maxRecDepth 100000 in
theorem m_L_recall_x2 (l : Launch) (hst : l.stackTraces = false) (Dg : va_G) (cI : ClassId) (cL : ClassId) (h : Nat) (na ta : Nat → Nat) (G : z_GG) (D : z_DD) (G1 : z_GG) (D1 : z_DD) (ob : Nat) (o9 : Nat → Int64) (b_ : Nat) (hbb : b_ < z_bc G) (hrc : z_rc D b_ = true) (hG : z_WG G) (hW : z_WD G D) : z_ML l yL_recall wsL_recall 8 132 [.ref h, .int (nI b_), .ref ob] Dg cI cL (z_oW cI cL h na ta ob G D G1 D1 o9) (z_PW 2 (0 : Int64) cI cL h na ta ob G D) := by
  have htc : z_tc G ≤ 60 := hG.2.2.2.2.2.1
  have hbc : z_bc G ≤ 6 := hG.2.2.2.2.1
  refine z_sL (own := RL) (hh := [(0, 9, 12, 21), (0, 9, 15, 15)]) (l0 := [(0, .ref h), (1, .int (nI b_)), (2, .ref ob)]) rfl rfl (by decide) (Nat.le_of_ble_eq_true rfl) rfl ?_
  intro p e s m below meth c hx hb hr hml hts hown hlk htab hP hX hD hS ls hl
  refine lv_aload_n hx hb dL_recall_0 rfl (lv_at hl 2 rfl) ?_
  refine lv_iconst (v := nI 0) hx hb dL_recall_1 (by decide) ?_
  refine lv_aload_n hx hb dL_recall_2 rfl (lv_at hl 0 rfl) ?_
  refine lv_iload_n hx hb dL_recall_3 rfl (lv_at hl 1 rfl) ?_
  refine z_cL (E := "java/lang/IllegalStateException") [.int (nI 0), .ref ob] hst hx hb hml hown hts (m_X2_recall_x2 l hst Dg cI h na ta G D G1 D1 b_ hbb hrc hG hW) gL_recall_X2_recall rfl kd_X2_recall ⟨Nat.le_of_ble_eq_true rfl, Nat.le_of_ble_eq_true rfl⟩ hX hP rfl hl.1 rfl (Nat.le_of_ble_eq_true rfl) dL_recall_4 ⟨Nat.le_of_ble_eq_true rfl, Nat.le_of_ble_eq_true rfl⟩ (fun ce q9 H hP hS hc1 hc2 hc3 => ?_)
  refine vx_catch (own := RL) (name := "java/lang/IllegalStateException") (E := "java/lang/IllegalStateException") hown [⟨0, 9, 12, 21⟩] ⟨0, 9, 15, 15⟩ [] htab (fun z hz => by obtain rfl := List.mem_singleton.mp hz; exact Or.inr ⟨by decide, _, (hts _ (List.mem_cons_of_mem _ (List.mem_append_left _ (List.mem_append_left _ (List.mem_append_left _ (List.mem_append_left _ (List.mem_append_left _ (List.mem_append_left _ (List.mem_of_getElem? (i := 0) rfl))))))))), hX.2.2.2.2.2.2⟩) rfl (by decide) (hts _ (List.mem_cons_of_mem _ (List.mem_append_left _ (List.mem_append_left _ (List.mem_append_left _ (List.mem_append_left _ (List.mem_append_left _ (List.mem_append_left _ (List.mem_of_getElem? (i := 1) rfl))))))))) (va_Nw.use rfl hX.2.2.1.2.2.2.2.2.2.2.2.2.2.2.2.2.2.1) hc1 hc2 hc3 ?_
  refine lv_astore_n (lv' := [(3, .ref q9), (0, .ref h), (1, .int (nI b_)), (2, .ref ob)]) hx hb dL_recall_15 rfl hl (by decide) rfl (fun ls hl => ?_)
  refine lv_iconst (v := 2) hx hb dL_recall_16 (by decide) ?_
  exact z_eL (w' := (z_oW cI cL h na ta ob G D G1 D1 o9)) (z_PW.of (fun q => absurd q (by decide))) rfl hP hS ⟨Nat.le_of_ble_eq_true rfl, Nat.le_of_ble_eq_true rfl⟩ hx hb hr hlk dL_recall_17

set_option maxHeartbeats 4000000 in
set_option maxRecDepth 100000 in
theorem m_L_recall_ok (l : Launch) (hst : l.stackTraces = false) (Dg : va_G) (cI : ClassId) (cL : ClassId) (h : Nat) (na ta : Nat → Nat) (G : z_GG) (D : z_DD) (G1 : z_GG) (D1 : z_DD) (ob : Nat) (o9 : Nat → Int64) (b_ : Nat) (hbb : b_ < z_bc G) (hrc : z_rc D b_ = false) (hG : z_WG G) (hW : z_WD G D) : z_ML l yL_recall wsL_recall 8 132 [.ref h, .int (nI b_), .ref ob] Dg cI cL (z_oW cI cL h na ta ob G D G1 D1 o9) (z_PW 0 ((nI (z_rb G b_ D).1 : Int32).toInt64) cI cL h na ta ob G ((z_rb G b_ D).2)) := by
  have htc : z_tc G ≤ 60 := hG.2.2.2.2.2.1
  have hbc : z_bc G ≤ 6 := hG.2.2.2.2.1
  refine z_sL (own := RL) (hh := [(0, 9, 12, 21), (0, 9, 15, 15)]) (l0 := [(0, .ref h), (1, .int (nI b_)), (2, .ref ob)]) rfl rfl (by decide) (Nat.le_of_ble_eq_true rfl) rfl ?_
  intro p e s m below meth c hx hb hr hml hts hown hlk htab hP hX hD hS ls hl
  refine lv_aload_n hx hb dL_recall_0 rfl (lv_at hl 2 rfl) ?_
  refine lv_iconst (v := nI 0) hx hb dL_recall_1 (by decide) ?_
  refine lv_aload_n hx hb dL_recall_2 rfl (lv_at hl 0 rfl) ?_
  refine lv_iload_n hx hb dL_recall_3 rfl (lv_at hl 1 rfl) ?_
  refine z_wBi (v := nI (z_rb G b_ D).1) [.int (nI 0), .ref ob] [] [(ob, .inl (cL, 1, .inr (.inl o9)))] 0 hx hb hml hown hts (m_X2_recall l Dg cI h na ta G D G1 D1 b_ hbb hrc hG hW) gL_recall_X2_recall rfl kd_X2_recall ⟨Nat.le_of_ble_eq_true rfl, Nat.le_of_ble_eq_true rfl⟩ hX.1.1 hX.1.2 hP hD hS rfl rfl rfl rfl rfl hl.1 rfl (Nat.le_of_ble_eq_true rfl) dL_recall_4 ⟨Nat.zero_le _, Nat.zero_le _⟩ (fun H locs hP hD hS => ?_)
  have hP : va_P Dg vwCl (z_oW cI cL h na ta ob G ((z_rb G b_ D).2) G1 D1 o9) H := hP
  have hD : va_D _ (z_oW cI cL h na ta ob G ((z_rb G b_ D).2) G1 D1 o9) := hD
  refine lv_i2l (v := Int32.toInt64 (nI (z_rb G b_ D).1)) hx hb dL_recall_7 rfl ?_
  refine va_last hx hb hX.2.1 hP hD hS 39 0 rfl rfl (vp_in_nI (by decide) (by decide)) dL_recall_8 (fun H locs hP hD hS => ?_)
  have hP : va_P Dg vwCl (z_oW cI cL h na ta ob G ((z_rb G b_ D).2) G1 D1 (vp_updL o9 (nI 0).toNatClampNeg (Int32.toInt64 (nI (z_rb G b_ D).1)))) H := hP
  refine lv_goto (tgt := 18) hx hb dL_recall_9 (by decide) ?_
  refine lv_iconst (v := 0) hx hb dL_recall_18 (by decide) ?_
  exact z_eL (w' := (z_oW cI cL h na ta ob G ((z_rb G b_ D).2) G1 D1 (vp_updL o9 (nI 0).toNatClampNeg (Int32.toInt64 (nI (z_rb G b_ D).1))))) (z_PW.of (fun _ => rfl)) rfl hP hS ⟨Nat.le_of_ble_eq_true rfl, Nat.le_of_ble_eq_true rfl⟩ hx hb hr hlk dL_recall_19

set_option maxHeartbeats 4000000 in
set_option maxRecDepth 100000 in
theorem m_L_pass_x1 (l : Launch) (hst : l.stackTraces = false) (Dg : va_G) (cI : ClassId) (cL : ClassId) (h : Nat) (na ta : Nat → Nat) (G : z_GG) (D : z_DD) (G1 : z_GG) (D1 : z_DD) (ob : Nat) (o9 : Nat → Int64) (x_ : Int32) (e1 : ¬ (1 ≤ x_ ∧ x_ ≤ 60)) (hG : z_WG G) (hW : z_WD G D) : z_ML l yL_pass wsL_pass 7 113 [.ref h, .int x_, .ref ob] Dg cI cL (z_oW cI cL h na ta ob G D G1 D1 o9) (z_PW 1 (0 : Int64) cI cL h na ta ob G D) := by
  have htc : z_tc G ≤ 60 := hG.2.2.2.2.2.1
  have hbc : z_bc G ≤ 6 := hG.2.2.2.2.1
  refine z_sL (own := RL) (hh := [(0, 9, 12, 13)]) (l0 := [(0, .ref h), (1, .int x_), (2, .ref ob)]) rfl rfl (by decide) (Nat.le_of_ble_eq_true rfl) rfl ?_
  intro p e s m below meth c hx hb hr hml hts hown hlk htab hP hX hD hS ls hl
  refine lv_aload_n hx hb dL_pass_0 rfl (lv_at hl 2 rfl) ?_
  refine lv_iconst (v := nI 0) hx hb dL_pass_1 (by decide) ?_
  refine lv_aload_n hx hb dL_pass_2 rfl (lv_at hl 0 rfl) ?_
  refine lv_iload_n hx hb dL_pass_3 rfl (lv_at hl 1 rfl) ?_
  refine z_cL (E := "java/lang/IllegalArgumentException") [.int (nI 0), .ref ob] hst hx hb hml hown hts (m_X2_pass_x1 l hst Dg cI h na ta G D G1 D1 x_ e1 hG hW) gL_pass_X2_pass rfl kd_X2_pass ⟨Nat.le_of_ble_eq_true rfl, Nat.le_of_ble_eq_true rfl⟩ hX hP rfl hl.1 rfl (Nat.le_of_ble_eq_true rfl) dL_pass_4 ⟨Nat.le_of_ble_eq_true rfl, Nat.le_of_ble_eq_true rfl⟩ (fun ce q9 H hP hS hc1 hc2 hc3 => ?_)
  refine vx_catch (own := RL) (name := "java/lang/IllegalArgumentException") (E := "java/lang/IllegalArgumentException") hown [] ⟨0, 9, 12, 13⟩ [] htab (fun z hz => absurd hz List.not_mem_nil) rfl (by decide) (hts _ (List.mem_cons_of_mem _ (List.mem_append_left _ (List.mem_append_left _ (List.mem_append_left _ (List.mem_append_left _ (List.mem_append_left _ (List.mem_of_getElem? (i := 0) rfl)))))))) (va_Nw.use rfl hX.2.2.1.2.2.2.2.2.2.2.2.2.2.2.2.2.1) hc1 hc2 hc3 ?_
  refine lv_astore_n (lv' := [(3, .ref q9), (0, .ref h), (1, .int x_), (2, .ref ob)]) hx hb dL_pass_12 rfl hl (by decide) rfl (fun ls hl => ?_)
  refine lv_iconst (v := 1) hx hb dL_pass_13 (by decide) ?_
  exact z_eL (w' := (z_oW cI cL h na ta ob G D G1 D1 o9)) (z_PW.of (fun q => absurd q (by decide))) rfl hP hS ⟨Nat.le_of_ble_eq_true rfl, Nat.le_of_ble_eq_true rfl⟩ hx hb hr hlk dL_pass_14

set_option maxHeartbeats 4000000 in
set_option maxRecDepth 100000 in
theorem m_L_pass_ok (l : Launch) (hst : l.stackTraces = false) (Dg : va_G) (cI : ClassId) (cL : ClassId) (h : Nat) (na ta : Nat → Nat) (G : z_GG) (D : z_DD) (G1 : z_GG) (D1 : z_DD) (ob : Nat) (o9 : Nat → Int64) (k_ : Nat) (hk1 : 1 ≤ k_) (hk2 : k_ ≤ 60) (hG : z_WG G) (hW : z_WD G D) : z_ML l yL_pass wsL_pass 7 113 [.ref h, .int (nI k_), .ref ob] Dg cI cL (z_oW cI cL h na ta ob G D G1 D1 o9) (z_PW 0 ((nI (z_cn G (z_days G D k_) 2) - nI (z_cn G D 2) : Int32).toInt64) cI cL h na ta ob G (z_days G D k_)) := by
  have htc : z_tc G ≤ 60 := hG.2.2.2.2.2.1
  have hbc : z_bc G ≤ 6 := hG.2.2.2.2.1
  refine z_sL (own := RL) (hh := [(0, 9, 12, 13)]) (l0 := [(0, .ref h), (1, .int (nI k_)), (2, .ref ob)]) rfl rfl (by decide) (Nat.le_of_ble_eq_true rfl) rfl ?_
  intro p e s m below meth c hx hb hr hml hts hown hlk htab hP hX hD hS ls hl
  refine lv_aload_n hx hb dL_pass_0 rfl (lv_at hl 2 rfl) ?_
  refine lv_iconst (v := nI 0) hx hb dL_pass_1 (by decide) ?_
  refine lv_aload_n hx hb dL_pass_2 rfl (lv_at hl 0 rfl) ?_
  refine lv_iload_n hx hb dL_pass_3 rfl (lv_at hl 1 rfl) ?_
  refine z_wBi (v := nI (z_cn G (z_days G D k_) 2) - nI (z_cn G D 2)) [.int (nI 0), .ref ob] [] [(ob, .inl (cL, 1, .inr (.inl o9)))] 0 hx hb hml hown hts (m_X2_pass l Dg cI h na ta G D G1 D1 k_ hk1 hk2 hG hW) gL_pass_X2_pass rfl kd_X2_pass ⟨Nat.le_of_ble_eq_true rfl, Nat.le_of_ble_eq_true rfl⟩ hX.1.1 hX.1.2 hP hD hS rfl rfl rfl rfl rfl hl.1 rfl (Nat.le_of_ble_eq_true rfl) dL_pass_4 ⟨Nat.zero_le _, Nat.zero_le _⟩ (fun H locs hP hD hS => ?_)
  have hP : va_P Dg vwCl (z_oW cI cL h na ta ob G (z_days G D k_) G1 D1 o9) H := hP
  have hD : va_D _ (z_oW cI cL h na ta ob G (z_days G D k_) G1 D1 o9) := hD
  refine lv_i2l (v := Int32.toInt64 (nI (z_cn G (z_days G D k_) 2) - nI (z_cn G D 2))) hx hb dL_pass_7 rfl ?_
  refine va_last hx hb hX.2.1 hP hD hS 39 0 rfl rfl (vp_in_nI (by decide) (by decide)) dL_pass_8 (fun H locs hP hD hS => ?_)
  have hP : va_P Dg vwCl (z_oW cI cL h na ta ob G (z_days G D k_) G1 D1 (vp_updL o9 (nI 0).toNatClampNeg (Int32.toInt64 (nI (z_cn G (z_days G D k_) 2) - nI (z_cn G D 2))))) H := hP
  refine lv_goto (tgt := 15) hx hb dL_pass_9 (by decide) ?_
  refine lv_iconst (v := 0) hx hb dL_pass_15 (by decide) ?_
  exact z_eL (w' := (z_oW cI cL h na ta ob G (z_days G D k_) G1 D1 (vp_updL o9 (nI 0).toNatClampNeg (Int32.toInt64 (nI (z_cn G (z_days G D k_) 2) - nI (z_cn G D 2)))))) (z_PW.of (fun _ => rfl)) rfl hP hS ⟨Nat.le_of_ble_eq_true rfl, Nat.le_of_ble_eq_true rfl⟩ hx hb hr hlk dL_pass_16
