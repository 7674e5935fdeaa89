theorem kd_X0_copyFrom : yX0_copyFrom.cls = RX0 ∧ yX0_copyFrom.cls ≠ "java/lang/invoke/MethodHandle" ∧ yX0_copyFrom.cls ≠ "java/lang/invoke/VarHandle" ∧ (parseMethodDescriptor yX0_copyFrom.desc).map (fun d => d.parameters.length) = some 1 := by decide +kernel
theorem kd_X1_copyFrom : yX1_copyFrom.cls = RX1 ∧ yX1_copyFrom.cls ≠ "java/lang/invoke/MethodHandle" ∧ yX1_copyFrom.cls ≠ "java/lang/invoke/VarHandle" ∧ (parseMethodDescriptor yX1_copyFrom.desc).map (fun d => d.parameters.length) = some 1 := by decide +kernel
theorem kd_X1_countAheadOf : yX1_countAheadOf.cls = RX1 ∧ yX1_countAheadOf.cls ≠ "java/lang/invoke/MethodHandle" ∧ yX1_countAheadOf.cls ≠ "java/lang/invoke/VarHandle" ∧ (parseMethodDescriptor yX1_countAheadOf.desc).map (fun d => d.parameters.length) = some 2 := by decide +kernel
theorem kd_X1_countAt : yX1_countAt.cls = RX1 ∧ yX1_countAt.cls ≠ "java/lang/invoke/MethodHandle" ∧ yX1_countAt.cls ≠ "java/lang/invoke/VarHandle" ∧ (parseMethodDescriptor yX1_countAt.desc).map (fun d => d.parameters.length) = some 1 := by decide +kernel
theorem kd_X1_countHeldWith : yX1_countHeldWith.cls = RX1 ∧ yX1_countHeldWith.cls ≠ "java/lang/invoke/MethodHandle" ∧ yX1_countHeldWith.cls ≠ "java/lang/invoke/VarHandle" ∧ (parseMethodDescriptor yX1_countHeldWith.desc).map (fun d => d.parameters.length) = some 2 := by decide +kernel
theorem kd_X1_daysToSwell : yX1_daysToSwell.cls = RX1 ∧ yX1_daysToSwell.cls ≠ "java/lang/invoke/MethodHandle" ∧ yX1_daysToSwell.cls ≠ "java/lang/invoke/VarHandle" ∧ (parseMethodDescriptor yX1_daysToSwell.desc).map (fun d => d.parameters.length) = some 2 := by decide +kernel
theorem kd_X1_passDay : yX1_passDay.cls = RX1 ∧ yX1_passDay.cls ≠ "java/lang/invoke/MethodHandle" ∧ yX1_passDay.cls ≠ "java/lang/invoke/VarHandle" ∧ (parseMethodDescriptor yX1_passDay.desc).map (fun d => d.parameters.length) = some 0 := by decide +kernel
theorem kd_X1_takeBatch : yX1_takeBatch.cls = RX1 ∧ yX1_takeBatch.cls ≠ "java/lang/invoke/MethodHandle" ∧ yX1_takeBatch.cls ≠ "java/lang/invoke/VarHandle" ∧ (parseMethodDescriptor yX1_takeBatch.desc).map (fun d => d.parameters.length) = some 2 := by decide +kernel
theorem kd_X1_takeTins : yX1_takeTins.cls = RX1 ∧ yX1_takeTins.cls ≠ "java/lang/invoke/MethodHandle" ∧ yX1_takeTins.cls ≠ "java/lang/invoke/VarHandle" ∧ (parseMethodDescriptor yX1_takeTins.desc).map (fun d => d.parameters.length) = some 3 := by decide +kernel
theorem kd_X2_batches : yX2_batches.cls = RX2 ∧ yX2_batches.cls ≠ "java/lang/invoke/MethodHandle" ∧ yX2_batches.cls ≠ "java/lang/invoke/VarHandle" ∧ (parseMethodDescriptor yX2_batches.desc).map (fun d => d.parameters.length) = some 0 := by decide +kernel
theorem kd_X2_bestOrder : yX2_bestOrder.cls = RX2 ∧ yX2_bestOrder.cls ≠ "java/lang/invoke/MethodHandle" ∧ yX2_bestOrder.cls ≠ "java/lang/invoke/VarHandle" ∧ (parseMethodDescriptor yX2_bestOrder.desc).map (fun d => d.parameters.length) = some 0 := by decide +kernel
theorem kd_X2_bestShelf : yX2_bestShelf.cls = RX2 ∧ yX2_bestShelf.cls ≠ "java/lang/invoke/MethodHandle" ∧ yX2_bestShelf.cls ≠ "java/lang/invoke/VarHandle" ∧ (parseMethodDescriptor yX2_bestShelf.desc).map (fun d => d.parameters.length) = some 1 := by decide +kernel
theorem kd_X2_day : yX2_day.cls = RX2 ∧ yX2_day.cls ≠ "java/lang/invoke/MethodHandle" ∧ yX2_day.cls ≠ "java/lang/invoke/VarHandle" ∧ (parseMethodDescriptor yX2_day.desc).map (fun d => d.parameters.length) = some 0 := by decide +kernel
theorem kd_X2_daysOf : yX2_daysOf.cls = RX2 ∧ yX2_daysOf.cls ≠ "java/lang/invoke/MethodHandle" ∧ yX2_daysOf.cls ≠ "java/lang/invoke/VarHandle" ∧ (parseMethodDescriptor yX2_daysOf.desc).map (fun d => d.parameters.length) = some 1 := by decide +kernel
theorem kd_X2_daysUntilRecalled : yX2_daysUntilRecalled.cls = RX2 ∧ yX2_daysUntilRecalled.cls ≠ "java/lang/invoke/MethodHandle" ∧ yX2_daysUntilRecalled.cls ≠ "java/lang/invoke/VarHandle" ∧ (parseMethodDescriptor yX2_daysUntilRecalled.desc).map (fun d => d.parameters.length) = some 1 := by decide +kernel
theorem kd_X2_first : yX2_first.cls = RX2 ∧ yX2_first.cls ≠ "java/lang/invoke/MethodHandle" ∧ yX2_first.cls ≠ "java/lang/invoke/VarHandle" ∧ (parseMethodDescriptor yX2_first.desc).map (fun d => d.parameters.length) = some 1 := by decide +kernel
theorem kd_X2_inCellar : yX2_inCellar.cls = RX2 ∧ yX2_inCellar.cls ≠ "java/lang/invoke/MethodHandle" ∧ yX2_inCellar.cls ≠ "java/lang/invoke/VarHandle" ∧ (parseMethodDescriptor yX2_inCellar.desc).map (fun d => d.parameters.length) = some 0 := by decide +kernel
theorem kdS_X2_isLater : yX2_isLater.cls ≠ "java/lang/invoke/MethodHandle" ∧ yX2_isLater.cls ≠ "java/lang/invoke/VarHandle" ∧ (parseMethodDescriptor yX2_isLater.desc).map (fun d => d.parameters.length) = some 2 := by decide +kernel
theorem kd_X2_isRecalled : yX2_isRecalled.cls = RX2 ∧ yX2_isRecalled.cls ≠ "java/lang/invoke/MethodHandle" ∧ yX2_isRecalled.cls ≠ "java/lang/invoke/VarHandle" ∧ (parseMethodDescriptor yX2_isRecalled.desc).map (fun d => d.parameters.length) = some 1 := by decide +kernel
theorem kd_X2_isShipped : yX2_isShipped.cls = RX2 ∧ yX2_isShipped.cls ≠ "java/lang/invoke/MethodHandle" ∧ yX2_isShipped.cls ≠ "java/lang/invoke/VarHandle" ∧ (parseMethodDescriptor yX2_isShipped.desc).map (fun d => d.parameters.length) = some 1 := by decide +kernel
theorem kdS_X2_isWithin : yX2_isWithin.cls ≠ "java/lang/invoke/MethodHandle" ∧ yX2_isWithin.cls ≠ "java/lang/invoke/VarHandle" ∧ (parseMethodDescriptor yX2_isWithin.desc).map (fun d => d.parameters.length) = some 3 := by decide +kernel
theorem kd_X2_leftOf : yX2_leftOf.cls = RX2 ∧ yX2_leftOf.cls ≠ "java/lang/invoke/MethodHandle" ∧ yX2_leftOf.cls ≠ "java/lang/invoke/VarHandle" ∧ (parseMethodDescriptor yX2_leftOf.desc).map (fun d => d.parameters.length) = some 1 := by decide +kernel
theorem kd_X2_lossBy : yX2_lossBy.cls = RX2 ∧ yX2_lossBy.cls ≠ "java/lang/invoke/MethodHandle" ∧ yX2_lossBy.cls ≠ "java/lang/invoke/VarHandle" ∧ (parseMethodDescriptor yX2_lossBy.desc).map (fun d => d.parameters.length) = some 2 := by decide +kernel
theorem kd_X2_lost : yX2_lost.cls = RX2 ∧ yX2_lost.cls ≠ "java/lang/invoke/MethodHandle" ∧ yX2_lost.cls ≠ "java/lang/invoke/VarHandle" ∧ (parseMethodDescriptor yX2_lost.desc).map (fun d => d.parameters.length) = some 0 := by decide +kernel
theorem kdS_X2_mix : yX2_mix.cls ≠ "java/lang/invoke/MethodHandle" ∧ yX2_mix.cls ≠ "java/lang/invoke/VarHandle" ∧ (parseMethodDescriptor yX2_mix.desc).map (fun d => d.parameters.length) = some 2 := by decide +kernel
theorem kd_X2_mixBatches : yX2_mixBatches.cls = RX2 ∧ yX2_mixBatches.cls ≠ "java/lang/invoke/MethodHandle" ∧ yX2_mixBatches.cls ≠ "java/lang/invoke/VarHandle" ∧ (parseMethodDescriptor yX2_mixBatches.desc).map (fun d => d.parameters.length) = some 1 := by decide +kernel
theorem kd_X2_mixShelves : yX2_mixShelves.cls = RX2 ∧ yX2_mixShelves.cls ≠ "java/lang/invoke/MethodHandle" ∧ yX2_mixShelves.cls ≠ "java/lang/invoke/VarHandle" ∧ (parseMethodDescriptor yX2_mixShelves.desc).map (fun d => d.parameters.length) = some 1 := by decide +kernel
theorem kd_X2_mixTins : yX2_mixTins.cls = RX2 ∧ yX2_mixTins.cls ≠ "java/lang/invoke/MethodHandle" ∧ yX2_mixTins.cls ≠ "java/lang/invoke/VarHandle" ∧ (parseMethodDescriptor yX2_mixTins.desc).map (fun d => d.parameters.length) = some 1 := by decide +kernel
theorem kd_X2_needBatch : yX2_needBatch.cls = RX2 ∧ yX2_needBatch.cls ≠ "java/lang/invoke/MethodHandle" ∧ yX2_needBatch.cls ≠ "java/lang/invoke/VarHandle" ∧ (parseMethodDescriptor yX2_needBatch.desc).map (fun d => d.parameters.length) = some 1 := by decide +kernel
theorem kdS_X2_needOrder : yX2_needOrder.cls ≠ "java/lang/invoke/MethodHandle" ∧ yX2_needOrder.cls ≠ "java/lang/invoke/VarHandle" ∧ (parseMethodDescriptor yX2_needOrder.desc).map (fun d => d.parameters.length) = some 1 := by decide +kernel
theorem kdS_X2_needShelf : yX2_needShelf.cls ≠ "java/lang/invoke/MethodHandle" ∧ yX2_needShelf.cls ≠ "java/lang/invoke/VarHandle" ∧ (parseMethodDescriptor yX2_needShelf.desc).map (fun d => d.parameters.length) = some 1 := by decide +kernel
theorem kdS_X2_needShipping : yX2_needShipping.cls ≠ "java/lang/invoke/MethodHandle" ∧ yX2_needShipping.cls ≠ "java/lang/invoke/VarHandle" ∧ (parseMethodDescriptor yX2_needShipping.desc).map (fun d => d.parameters.length) = some 2 := by decide +kernel
theorem kd_X2_needTin : yX2_needTin.cls = RX2 ∧ yX2_needTin.cls ≠ "java/lang/invoke/MethodHandle" ∧ yX2_needTin.cls ≠ "java/lang/invoke/VarHandle" ∧ (parseMethodDescriptor yX2_needTin.desc).map (fun d => d.parameters.length) = some 1 := by decide +kernel
theorem kd_X2_placeBy : yX2_placeBy.cls = RX2 ∧ yX2_placeBy.cls ≠ "java/lang/invoke/MethodHandle" ∧ yX2_placeBy.cls ≠ "java/lang/invoke/VarHandle" ∧ (parseMethodDescriptor yX2_placeBy.desc).map (fun d => d.parameters.length) = some 2 := by decide +kernel
theorem kd_X2_shelfOf : yX2_shelfOf.cls = RX2 ∧ yX2_shelfOf.cls ≠ "java/lang/invoke/MethodHandle" ∧ yX2_shelfOf.cls ≠ "java/lang/invoke/VarHandle" ∧ (parseMethodDescriptor yX2_shelfOf.desc).map (fun d => d.parameters.length) = some 1 := by decide +kernel
theorem kd_X2_shipped : yX2_shipped.cls = RX2 ∧ yX2_shipped.cls ≠ "java/lang/invoke/MethodHandle" ∧ yX2_shipped.cls ≠ "java/lang/invoke/VarHandle" ∧ (parseMethodDescriptor yX2_shipped.desc).map (fun d => d.parameters.length) = some 0 := by decide +kernel
theorem kd_X2_shippingWanted : yX2_shippingWanted.cls = RX2 ∧ yX2_shippingWanted.cls ≠ "java/lang/invoke/MethodHandle" ∧ yX2_shippingWanted.cls ≠ "java/lang/invoke/VarHandle" ∧ (parseMethodDescriptor yX2_shippingWanted.desc).map (fun d => d.parameters.length) = some 0 := by decide +kernel
theorem kd_X2_standOn : yX2_standOn.cls = RX2 ∧ yX2_standOn.cls ≠ "java/lang/invoke/MethodHandle" ∧ yX2_standOn.cls ≠ "java/lang/invoke/VarHandle" ∧ (parseMethodDescriptor yX2_standOn.desc).map (fun d => d.parameters.length) = some 1 := by decide +kernel
theorem kd_X2_swelled : yX2_swelled.cls = RX2 ∧ yX2_swelled.cls ≠ "java/lang/invoke/MethodHandle" ∧ yX2_swelled.cls ≠ "java/lang/invoke/VarHandle" ∧ (parseMethodDescriptor yX2_swelled.desc).map (fun d => d.parameters.length) = some 0 := by decide +kernel
theorem kd_X2_swelledOf : yX2_swelledOf.cls = RX2 ∧ yX2_swelledOf.cls ≠ "java/lang/invoke/MethodHandle" ∧ yX2_swelledOf.cls ≠ "java/lang/invoke/VarHandle" ∧ (parseMethodDescriptor yX2_swelledOf.desc).map (fun d => d.parameters.length) = some 1 := by decide +kernel
theorem kd_X2_tins : yX2_tins.cls = RX2 ∧ yX2_tins.cls ≠ "java/lang/invoke/MethodHandle" ∧ yX2_tins.cls ≠ "java/lang/invoke/VarHandle" ∧ (parseMethodDescriptor yX2_tins.desc).map (fun d => d.parameters.length) = some 0 := by decide +kernel
theorem kd_X2_vacuumOf : yX2_vacuumOf.cls = RX2 ∧ yX2_vacuumOf.cls ≠ "java/lang/invoke/MethodHandle" ∧ yX2_vacuumOf.cls ≠ "java/lang/invoke/VarHandle" ∧ (parseMethodDescriptor yX2_vacuumOf.desc).map (fun d => d.parameters.length) = some 1 := by decide +kernel
theorem kd_X2_warmOf : yX2_warmOf.cls = RX2 ∧ yX2_warmOf.cls ≠ "java/lang/invoke/MethodHandle" ∧ yX2_warmOf.cls ≠ "java/lang/invoke/VarHandle" ∧ (parseMethodDescriptor yX2_warmOf.desc).map (fun d => d.parameters.length) = some 1 := by decide +kernel
set_option maxHeartbeats 4000000 in
set_option maxRecDepth 100000 in
theorem m_X1_copyFrom (l : Launch) (Dg : va_G) (cI : ClassId) (a b : Nat → Nat) (G1 : z_GG) (D1 : z_DD) (G : z_GG) (D : z_DD)  : z_Mw l yX1_copyFrom wsX1_copyFrom 2 43 [.ref (a 0), .ref (b 0)] Dg cI (z_sW cI b G D ++ z_sW cI a G1 D1) none (z_sW cI b G D ++ z_sW cI a G D) := by
  refine z_sw' (own := RX1) (l0 := [(0, .ref (a 0)), (1, .ref (b 0))]) rfl rfl (by decide) (Nat.le_of_ble_eq_true rfl) rfl ?_
  intro p e s m below meth c hx hb hr hml hts hown hlk hP hK hN hD hS ls hl
  refine lv_aload_n hx hb dX1_copyFrom_0 rfl (lv_at hl 0 rfl) ?_
  refine va_get (ci := 1) (v := .ref (a 1)) (C := RX1) (T := TX1) (N := 14) hx hb hts (fun _ h => (List.mem_cons_of_mem _ (List.mem_append_left _ (List.mem_append_right _ h)))) hown hK hP 19 rfl rfl 0 (by decide) (hts _ (List.mem_cons_of_mem _ (List.mem_append_left _ (List.mem_append_left _ (List.mem_of_getElem? (i := 0) rfl))))) (fun _ h9 => h9) rfl dX1_copyFrom_1 ?_
  refine lv_aload_n hx hb dX1_copyFrom_4 rfl (lv_at hl 1 rfl) ?_
  refine va_get (ci := 1) (v := .ref (b 1)) (C := RX1) (T := TX1) (N := 14) hx hb hts (fun _ h => (List.mem_cons_of_mem _ (List.mem_append_left _ (List.mem_append_right _ h)))) hown hK hP 0 rfl rfl 0 (by decide) (hts _ (List.mem_cons_of_mem _ (List.mem_append_left _ (List.mem_append_left _ (List.mem_of_getElem? (i := 0) rfl))))) (fun _ h9 => h9) rfl dX1_copyFrom_5 ?_
  refine z_wVv [] [20, 29, 1, 10] hx hb hml hown hts (m_X0_copyFrom l Dg cI (a 1) (a 10) (b 1) (b 10) 4 (z_wm G1) (z_wm G) (by decide)) gX1_copyFrom_X0_copyFrom rfl kd_X0_copyFrom ⟨Nat.le_of_ble_eq_true rfl, Nat.le_of_ble_eq_true rfl⟩ hK hN hP hD hS rfl (by decide) rfl rfl rfl rfl rfl hl.1 rfl (Nat.le_of_ble_eq_true rfl) dX1_copyFrom_8 ⟨Nat.zero_le _, Nat.zero_le _⟩ (fun H locs hP hD hS => ?_)
  have hP : va_P Dg vwCl (z_sW cI b G D ++ z_sX cI a (z_wm G) (z_v0 G1) (z_lk G1) (z_sw D1) (fun j9 => z_bI (z_rc D1 j9)) (fun j9 => nI (z_bt G1 j9)) (fun j9 => nI (z_sh G1 j9)) (z_vc D1) (fun j9 => nI (z_pl D1 j9)) (nI (z_bc G1)) (nI (z_tc G1)) (nI (z_sd G1)) (nI (z_od G1)) (z_dy D1)) H := hP
  have hD : va_D _ (z_sW cI b G D ++ z_sX cI a (z_wm G) (z_v0 G1) (z_lk G1) (z_sw D1) (fun j9 => z_bI (z_rc D1 j9)) (fun j9 => nI (z_bt G1 j9)) (fun j9 => nI (z_sh G1 j9)) (z_vc D1) (fun j9 => nI (z_pl D1 j9)) (nI (z_bc G1)) (nI (z_tc G1)) (nI (z_sd G1)) (nI (z_od G1)) (z_dy D1)) := hD
  refine lv_aload_n hx hb dX1_copyFrom_11 rfl (lv_at hl 0 rfl) ?_
  refine va_get (ci := 1) (v := .ref (a 2)) (C := RX1) (T := TX1) (N := 14) hx hb hts (fun _ h => (List.mem_cons_of_mem _ (List.mem_append_left _ (List.mem_append_right _ h)))) hown hK hP 19 rfl rfl 1 (by decide) (hts _ (List.mem_cons_of_mem _ (List.mem_append_left _ (List.mem_append_left _ (List.mem_of_getElem? (i := 1) rfl))))) (fun _ h9 => h9) rfl dX1_copyFrom_12 ?_
  refine lv_aload_n hx hb dX1_copyFrom_15 rfl (lv_at hl 1 rfl) ?_
  refine va_get (ci := 1) (v := .ref (b 2)) (C := RX1) (T := TX1) (N := 14) hx hb hts (fun _ h => (List.mem_cons_of_mem _ (List.mem_append_left _ (List.mem_append_right _ h)))) hown hK hP 0 rfl rfl 1 (by decide) (hts _ (List.mem_cons_of_mem _ (List.mem_append_left _ (List.mem_append_left _ (List.mem_of_getElem? (i := 1) rfl))))) (fun _ h9 => h9) rfl dX1_copyFrom_16 ?_
  refine z_wVv [] [21, 30, 2, 11] hx hb hml hown hts (m_X0_copyFrom l Dg cI (a 2) (a 11) (b 2) (b 11) 6 (z_v0 G1) (z_v0 G) (by decide)) gX1_copyFrom_X0_copyFrom rfl kd_X0_copyFrom ⟨Nat.le_of_ble_eq_true rfl, Nat.le_of_ble_eq_true rfl⟩ hK hN hP hD hS rfl (by decide) rfl rfl rfl rfl rfl hl.1 rfl (Nat.le_of_ble_eq_true rfl) dX1_copyFrom_19 ⟨Nat.zero_le _, Nat.zero_le _⟩ (fun H locs hP hD hS => ?_)
  have hP : va_P Dg vwCl (z_sW cI b G D ++ z_sX cI a (z_wm G) (z_v0 G) (z_lk G1) (z_sw D1) (fun j9 => z_bI (z_rc D1 j9)) (fun j9 => nI (z_bt G1 j9)) (fun j9 => nI (z_sh G1 j9)) (z_vc D1) (fun j9 => nI (z_pl D1 j9)) (nI (z_bc G1)) (nI (z_tc G1)) (nI (z_sd G1)) (nI (z_od G1)) (z_dy D1)) H := hP
  have hD : va_D _ (z_sW cI b G D ++ z_sX cI a (z_wm G) (z_v0 G) (z_lk G1) (z_sw D1) (fun j9 => z_bI (z_rc D1 j9)) (fun j9 => nI (z_bt G1 j9)) (fun j9 => nI (z_sh G1 j9)) (z_vc D1) (fun j9 => nI (z_pl D1 j9)) (nI (z_bc G1)) (nI (z_tc G1)) (nI (z_sd G1)) (nI (z_od G1)) (z_dy D1)) := hD
  refine lv_aload_n hx hb dX1_copyFrom_22 rfl (lv_at hl 0 rfl) ?_
  refine va_get (ci := 1) (v := .ref (a 3)) (C := RX1) (T := TX1) (N := 14) hx hb hts (fun _ h => (List.mem_cons_of_mem _ (List.mem_append_left _ (List.mem_append_right _ h)))) hown hK hP 19 rfl rfl 2 (by decide) (hts _ (List.mem_cons_of_mem _ (List.mem_append_left _ (List.mem_append_left _ (List.mem_of_getElem? (i := 2) rfl))))) (fun _ h9 => h9) rfl dX1_copyFrom_23 ?_
  refine lv_aload_n hx hb dX1_copyFrom_26 rfl (lv_at hl 1 rfl) ?_
  refine va_get (ci := 1) (v := .ref (b 3)) (C := RX1) (T := TX1) (N := 14) hx hb hts (fun _ h => (List.mem_cons_of_mem _ (List.mem_append_left _ (List.mem_append_right _ h)))) hown hK hP 0 rfl rfl 2 (by decide) (hts _ (List.mem_cons_of_mem _ (List.mem_append_left _ (List.mem_append_left _ (List.mem_of_getElem? (i := 2) rfl))))) (fun _ h9 => h9) rfl dX1_copyFrom_27 ?_
  refine z_wVv [] [22, 31, 3, 12] hx hb hml hown hts (m_X0_copyFrom l Dg cI (a 3) (a 12) (b 3) (b 12) 6 (z_lk G1) (z_lk G) (by decide)) gX1_copyFrom_X0_copyFrom rfl kd_X0_copyFrom ⟨Nat.le_of_ble_eq_true rfl, Nat.le_of_ble_eq_true rfl⟩ hK hN hP hD hS rfl (by decide) rfl rfl rfl rfl rfl hl.1 rfl (Nat.le_of_ble_eq_true rfl) dX1_copyFrom_30 ⟨Nat.zero_le _, Nat.zero_le _⟩ (fun H locs hP hD hS => ?_)
  have hP : va_P Dg vwCl (z_sW cI b G D ++ z_sX cI a (z_wm G) (z_v0 G) (z_lk G) (z_sw D1) (fun j9 => z_bI (z_rc D1 j9)) (fun j9 => nI (z_bt G1 j9)) (fun j9 => nI (z_sh G1 j9)) (z_vc D1) (fun j9 => nI (z_pl D1 j9)) (nI (z_bc G1)) (nI (z_tc G1)) (nI (z_sd G1)) (nI (z_od G1)) (z_dy D1)) H := hP
  have hD : va_D _ (z_sW cI b G D ++ z_sX cI a (z_wm G) (z_v0 G) (z_lk G) (z_sw D1) (fun j9 => z_bI (z_rc D1 j9)) (fun j9 => nI (z_bt G1 j9)) (fun j9 => nI (z_sh G1 j9)) (z_vc D1) (fun j9 => nI (z_pl D1 j9)) (nI (z_bc G1)) (nI (z_tc G1)) (nI (z_sd G1)) (nI (z_od G1)) (z_dy D1)) := hD
  refine lv_aload_n hx hb dX1_copyFrom_33 rfl (lv_at hl 0 rfl) ?_
  refine va_get (ci := 1) (v := .ref (a 4)) (C := RX1) (T := TX1) (N := 14) hx hb hts (fun _ h => (List.mem_cons_of_mem _ (List.mem_append_left _ (List.mem_append_right _ h)))) hown hK hP 19 rfl rfl 3 (by decide) (hts _ (List.mem_cons_of_mem _ (List.mem_append_left _ (List.mem_append_left _ (List.mem_of_getElem? (i := 3) rfl))))) (fun _ h9 => h9) rfl dX1_copyFrom_34 ?_
  refine lv_aload_n hx hb dX1_copyFrom_37 rfl (lv_at hl 1 rfl) ?_
  refine va_get (ci := 1) (v := .ref (b 4)) (C := RX1) (T := TX1) (N := 14) hx hb hts (fun _ h => (List.mem_cons_of_mem _ (List.mem_append_left _ (List.mem_append_right _ h)))) hown hK hP 0 rfl rfl 3 (by decide) (hts _ (List.mem_cons_of_mem _ (List.mem_append_left _ (List.mem_append_left _ (List.mem_of_getElem? (i := 3) rfl))))) (fun _ h9 => h9) rfl dX1_copyFrom_38 ?_
  refine z_wVv [] [23, 32, 4, 13] hx hb hml hown hts (m_X0_copyFrom l Dg cI (a 4) (a 13) (b 4) (b 13) 6 (z_sw D1) (z_sw D) (by decide)) gX1_copyFrom_X0_copyFrom rfl kd_X0_copyFrom ⟨Nat.le_of_ble_eq_true rfl, Nat.le_of_ble_eq_true rfl⟩ hK hN hP hD hS rfl (by decide) rfl rfl rfl rfl rfl hl.1 rfl (Nat.le_of_ble_eq_true rfl) dX1_copyFrom_41 ⟨Nat.zero_le _, Nat.zero_le _⟩ (fun H locs hP hD hS => ?_)
  have hP : va_P Dg vwCl (z_sW cI b G D ++ z_sX cI a (z_wm G) (z_v0 G) (z_lk G) (z_sw D) (fun j9 => z_bI (z_rc D1 j9)) (fun j9 => nI (z_bt G1 j9)) (fun j9 => nI (z_sh G1 j9)) (z_vc D1) (fun j9 => nI (z_pl D1 j9)) (nI (z_bc G1)) (nI (z_tc G1)) (nI (z_sd G1)) (nI (z_od G1)) (z_dy D1)) H := hP
  have hD : va_D _ (z_sW cI b G D ++ z_sX cI a (z_wm G) (z_v0 G) (z_lk G) (z_sw D) (fun j9 => z_bI (z_rc D1 j9)) (fun j9 => nI (z_bt G1 j9)) (fun j9 => nI (z_sh G1 j9)) (z_vc D1) (fun j9 => nI (z_pl D1 j9)) (nI (z_bc G1)) (nI (z_tc G1)) (nI (z_sd G1)) (nI (z_od G1)) (z_dy D1)) := hD
  refine lv_aload_n hx hb dX1_copyFrom_44 rfl (lv_at hl 0 rfl) ?_
  refine va_get (ci := 1) (v := .ref (a 5)) (C := RX1) (T := TX1) (N := 14) hx hb hts (fun _ h => (List.mem_cons_of_mem _ (List.mem_append_left _ (List.mem_append_right _ h)))) hown hK hP 19 rfl rfl 4 (by decide) (hts _ (List.mem_cons_of_mem _ (List.mem_append_left _ (List.mem_append_left _ (List.mem_of_getElem? (i := 4) rfl))))) (fun _ h9 => h9) rfl dX1_copyFrom_45 ?_
  refine lv_aload_n hx hb dX1_copyFrom_48 rfl (lv_at hl 1 rfl) ?_
  refine va_get (ci := 1) (v := .ref (b 5)) (C := RX1) (T := TX1) (N := 14) hx hb hts (fun _ h => (List.mem_cons_of_mem _ (List.mem_append_left _ (List.mem_append_right _ h)))) hown hK hP 0 rfl rfl 4 (by decide) (hts _ (List.mem_cons_of_mem _ (List.mem_append_left _ (List.mem_append_left _ (List.mem_of_getElem? (i := 4) rfl))))) (fun _ h9 => h9) rfl dX1_copyFrom_49 ?_
  refine z_wVv [] [24, 33, 5, 14] hx hb hml hown hts (m_X0_copyFrom l Dg cI (a 5) (a 14) (b 5) (b 14) 6 (fun j9 => z_bI (z_rc D1 j9)) (fun j9 => z_bI (z_rc D j9)) (by decide)) gX1_copyFrom_X0_copyFrom rfl kd_X0_copyFrom ⟨Nat.le_of_ble_eq_true rfl, Nat.le_of_ble_eq_true rfl⟩ hK hN hP hD hS rfl (by decide) rfl rfl rfl rfl rfl hl.1 rfl (Nat.le_of_ble_eq_true rfl) dX1_copyFrom_52 ⟨Nat.zero_le _, Nat.zero_le _⟩ (fun H locs hP hD hS => ?_)
  have hP : va_P Dg vwCl (z_sW cI b G D ++ z_sX cI a (z_wm G) (z_v0 G) (z_lk G) (z_sw D) (fun j9 => z_bI (z_rc D j9)) (fun j9 => nI (z_bt G1 j9)) (fun j9 => nI (z_sh G1 j9)) (z_vc D1) (fun j9 => nI (z_pl D1 j9)) (nI (z_bc G1)) (nI (z_tc G1)) (nI (z_sd G1)) (nI (z_od G1)) (z_dy D1)) H := hP
  have hD : va_D _ (z_sW cI b G D ++ z_sX cI a (z_wm G) (z_v0 G) (z_lk G) (z_sw D) (fun j9 => z_bI (z_rc D j9)) (fun j9 => nI (z_bt G1 j9)) (fun j9 => nI (z_sh G1 j9)) (z_vc D1) (fun j9 => nI (z_pl D1 j9)) (nI (z_bc G1)) (nI (z_tc G1)) (nI (z_sd G1)) (nI (z_od G1)) (z_dy D1)) := hD
  refine lv_aload_n hx hb dX1_copyFrom_55 rfl (lv_at hl 0 rfl) ?_
  refine lv_aload_n hx hb dX1_copyFrom_56 rfl (lv_at hl 1 rfl) ?_
  refine va_get (ci := 1) (v := .int (nI (z_bc G))) (C := RX1) (T := TX1) (N := 14) hx hb hts (fun _ h => (List.mem_cons_of_mem _ (List.mem_append_left _ (List.mem_append_right _ h)))) hown hK hP 0 rfl rfl 5 (by decide) (hts _ (List.mem_cons_of_mem _ (List.mem_append_left _ (List.mem_append_left _ (List.mem_of_getElem? (i := 5) rfl))))) (fun _ h9 => h9) rfl dX1_copyFrom_57 ?_
  refine va_put (ci := 1) (v := .int (nI (z_bc G))) (ty := .int) (C := RX1) (T := TX1) (N := 14) hx hb hts (fun _ h => (List.mem_cons_of_mem _ (List.mem_append_left _ (List.mem_append_right _ h)))) tyX1 tyX1_ok nmX1 hown hK hP hD hS 19 rfl rfl 5 (by decide) (hts _ (List.mem_cons_of_mem _ (List.mem_append_left _ (List.mem_append_left _ (List.mem_of_getElem? (i := 5) rfl))))) (fun _ h9 => h9) rfl (by decide +kernel) rfl rfl (Nat.le_of_ble_eq_true rfl) dX1_copyFrom_60 (fun H locs hP hD hS => ?_)
  have hP : va_P Dg vwCl (z_sW cI b G D ++ z_sX cI a (z_wm G) (z_v0 G) (z_lk G) (z_sw D) (fun j9 => z_bI (z_rc D j9)) (fun j9 => nI (z_bt G1 j9)) (fun j9 => nI (z_sh G1 j9)) (z_vc D1) (fun j9 => nI (z_pl D1 j9)) (nI (z_bc G)) (nI (z_tc G1)) (nI (z_sd G1)) (nI (z_od G1)) (z_dy D1)) H := hP
  have hD : va_D _ (z_sW cI b G D ++ z_sX cI a (z_wm G) (z_v0 G) (z_lk G) (z_sw D) (fun j9 => z_bI (z_rc D j9)) (fun j9 => nI (z_bt G1 j9)) (fun j9 => nI (z_sh G1 j9)) (z_vc D1) (fun j9 => nI (z_pl D1 j9)) (nI (z_bc G)) (nI (z_tc G1)) (nI (z_sd G1)) (nI (z_od G1)) (z_dy D1)) := hD
  refine lv_aload_n hx hb dX1_copyFrom_63 rfl (lv_at hl 0 rfl) ?_
  refine va_get (ci := 1) (v := .ref (a 6)) (C := RX1) (T := TX1) (N := 14) hx hb hts (fun _ h => (List.mem_cons_of_mem _ (List.mem_append_left _ (List.mem_append_right _ h)))) hown hK hP 19 rfl rfl 6 (by decide) (hts _ (List.mem_cons_of_mem _ (List.mem_append_left _ (List.mem_append_left _ (List.mem_of_getElem? (i := 6) rfl))))) (fun _ h9 => h9) rfl dX1_copyFrom_64 ?_
  refine lv_aload_n hx hb dX1_copyFrom_67 rfl (lv_at hl 1 rfl) ?_
  refine va_get (ci := 1) (v := .ref (b 6)) (C := RX1) (T := TX1) (N := 14) hx hb hts (fun _ h => (List.mem_cons_of_mem _ (List.mem_append_left _ (List.mem_append_right _ h)))) hown hK hP 0 rfl rfl 6 (by decide) (hts _ (List.mem_cons_of_mem _ (List.mem_append_left _ (List.mem_append_left _ (List.mem_of_getElem? (i := 6) rfl))))) (fun _ h9 => h9) rfl dX1_copyFrom_68 ?_
  refine z_wVv [] [25, 34, 6, 15] hx hb hml hown hts (m_X0_copyFrom l Dg cI (a 6) (a 15) (b 6) (b 15) 60 (fun j9 => nI (z_bt G1 j9)) (fun j9 => nI (z_bt G j9)) (by decide)) gX1_copyFrom_X0_copyFrom rfl kd_X0_copyFrom ⟨Nat.le_of_ble_eq_true rfl, Nat.le_of_ble_eq_true rfl⟩ hK hN hP hD hS rfl (by decide) rfl rfl rfl rfl rfl hl.1 rfl (Nat.le_of_ble_eq_true rfl) dX1_copyFrom_71 ⟨Nat.zero_le _, Nat.zero_le _⟩ (fun H locs hP hD hS => ?_)
  have hP : va_P Dg vwCl (z_sW cI b G D ++ z_sX cI a (z_wm G) (z_v0 G) (z_lk G) (z_sw D) (fun j9 => z_bI (z_rc D j9)) (fun j9 => nI (z_bt G j9)) (fun j9 => nI (z_sh G1 j9)) (z_vc D1) (fun j9 => nI (z_pl D1 j9)) (nI (z_bc G)) (nI (z_tc G1)) (nI (z_sd G1)) (nI (z_od G1)) (z_dy D1)) H := hP
  have hD : va_D _ (z_sW cI b G D ++ z_sX cI a (z_wm G) (z_v0 G) (z_lk G) (z_sw D) (fun j9 => z_bI (z_rc D j9)) (fun j9 => nI (z_bt G j9)) (fun j9 => nI (z_sh G1 j9)) (z_vc D1) (fun j9 => nI (z_pl D1 j9)) (nI (z_bc G)) (nI (z_tc G1)) (nI (z_sd G1)) (nI (z_od G1)) (z_dy D1)) := hD
  refine lv_aload_n hx hb dX1_copyFrom_74 rfl (lv_at hl 0 rfl) ?_
  refine va_get (ci := 1) (v := .ref (a 7)) (C := RX1) (T := TX1) (N := 14) hx hb hts (fun _ h => (List.mem_cons_of_mem _ (List.mem_append_left _ (List.mem_append_right _ h)))) hown hK hP 19 rfl rfl 7 (by decide) (hts _ (List.mem_cons_of_mem _ (List.mem_append_left _ (List.mem_append_left _ (List.mem_of_getElem? (i := 7) rfl))))) (fun _ h9 => h9) rfl dX1_copyFrom_75 ?_
  refine lv_aload_n hx hb dX1_copyFrom_78 rfl (lv_at hl 1 rfl) ?_
  refine va_get (ci := 1) (v := .ref (b 7)) (C := RX1) (T := TX1) (N := 14) hx hb hts (fun _ h => (List.mem_cons_of_mem _ (List.mem_append_left _ (List.mem_append_right _ h)))) hown hK hP 0 rfl rfl 7 (by decide) (hts _ (List.mem_cons_of_mem _ (List.mem_append_left _ (List.mem_append_left _ (List.mem_of_getElem? (i := 7) rfl))))) (fun _ h9 => h9) rfl dX1_copyFrom_79 ?_
  refine z_wVv [] [26, 35, 7, 16] hx hb hml hown hts (m_X0_copyFrom l Dg cI (a 7) (a 16) (b 7) (b 16) 60 (fun j9 => nI (z_sh G1 j9)) (fun j9 => nI (z_sh G j9)) (by decide)) gX1_copyFrom_X0_copyFrom rfl kd_X0_copyFrom ⟨Nat.le_of_ble_eq_true rfl, Nat.le_of_ble_eq_true rfl⟩ hK hN hP hD hS rfl (by decide) rfl rfl rfl rfl rfl hl.1 rfl (Nat.le_of_ble_eq_true rfl) dX1_copyFrom_82 ⟨Nat.zero_le _, Nat.zero_le _⟩ (fun H locs hP hD hS => ?_)
  have hP : va_P Dg vwCl (z_sW cI b G D ++ z_sX cI a (z_wm G) (z_v0 G) (z_lk G) (z_sw D) (fun j9 => z_bI (z_rc D j9)) (fun j9 => nI (z_bt G j9)) (fun j9 => nI (z_sh G j9)) (z_vc D1) (fun j9 => nI (z_pl D1 j9)) (nI (z_bc G)) (nI (z_tc G1)) (nI (z_sd G1)) (nI (z_od G1)) (z_dy D1)) H := hP
  have hD : va_D _ (z_sW cI b G D ++ z_sX cI a (z_wm G) (z_v0 G) (z_lk G) (z_sw D) (fun j9 => z_bI (z_rc D j9)) (fun j9 => nI (z_bt G j9)) (fun j9 => nI (z_sh G j9)) (z_vc D1) (fun j9 => nI (z_pl D1 j9)) (nI (z_bc G)) (nI (z_tc G1)) (nI (z_sd G1)) (nI (z_od G1)) (z_dy D1)) := hD
  refine lv_aload_n hx hb dX1_copyFrom_85 rfl (lv_at hl 0 rfl) ?_
  refine va_get (ci := 1) (v := .ref (a 8)) (C := RX1) (T := TX1) (N := 14) hx hb hts (fun _ h => (List.mem_cons_of_mem _ (List.mem_append_left _ (List.mem_append_right _ h)))) hown hK hP 19 rfl rfl 8 (by decide) (hts _ (List.mem_cons_of_mem _ (List.mem_append_left _ (List.mem_append_left _ (List.mem_of_getElem? (i := 8) rfl))))) (fun _ h9 => h9) rfl dX1_copyFrom_86 ?_
  refine lv_aload_n hx hb dX1_copyFrom_89 rfl (lv_at hl 1 rfl) ?_
  refine va_get (ci := 1) (v := .ref (b 8)) (C := RX1) (T := TX1) (N := 14) hx hb hts (fun _ h => (List.mem_cons_of_mem _ (List.mem_append_left _ (List.mem_append_right _ h)))) hown hK hP 0 rfl rfl 8 (by decide) (hts _ (List.mem_cons_of_mem _ (List.mem_append_left _ (List.mem_append_left _ (List.mem_of_getElem? (i := 8) rfl))))) (fun _ h9 => h9) rfl dX1_copyFrom_90 ?_
  refine z_wVv [] [27, 36, 8, 17] hx hb hml hown hts (m_X0_copyFrom l Dg cI (a 8) (a 17) (b 8) (b 17) 60 (z_vc D1) (z_vc D) (by decide)) gX1_copyFrom_X0_copyFrom rfl kd_X0_copyFrom ⟨Nat.le_of_ble_eq_true rfl, Nat.le_of_ble_eq_true rfl⟩ hK hN hP hD hS rfl (by decide) rfl rfl rfl rfl rfl hl.1 rfl (Nat.le_of_ble_eq_true rfl) dX1_copyFrom_93 ⟨Nat.zero_le _, Nat.zero_le _⟩ (fun H locs hP hD hS => ?_)
  have hP : va_P Dg vwCl (z_sW cI b G D ++ z_sX cI a (z_wm G) (z_v0 G) (z_lk G) (z_sw D) (fun j9 => z_bI (z_rc D j9)) (fun j9 => nI (z_bt G j9)) (fun j9 => nI (z_sh G j9)) (z_vc D) (fun j9 => nI (z_pl D1 j9)) (nI (z_bc G)) (nI (z_tc G1)) (nI (z_sd G1)) (nI (z_od G1)) (z_dy D1)) H := hP
  have hD : va_D _ (z_sW cI b G D ++ z_sX cI a (z_wm G) (z_v0 G) (z_lk G) (z_sw D) (fun j9 => z_bI (z_rc D j9)) (fun j9 => nI (z_bt G j9)) (fun j9 => nI (z_sh G j9)) (z_vc D) (fun j9 => nI (z_pl D1 j9)) (nI (z_bc G)) (nI (z_tc G1)) (nI (z_sd G1)) (nI (z_od G1)) (z_dy D1)) := hD
  refine lv_aload_n hx hb dX1_copyFrom_96 rfl (lv_at hl 0 rfl) ?_
  refine va_get (ci := 1) (v := .ref (a 9)) (C := RX1) (T := TX1) (N := 14) hx hb hts (fun _ h => (List.mem_cons_of_mem _ (List.mem_append_left _ (List.mem_append_right _ h)))) hown hK hP 19 rfl rfl 9 (by decide) (hts _ (List.mem_cons_of_mem _ (List.mem_append_left _ (List.mem_append_left _ (List.mem_of_getElem? (i := 9) rfl))))) (fun _ h9 => h9) rfl dX1_copyFrom_97 ?_
  refine lv_aload_n hx hb dX1_copyFrom_100 rfl (lv_at hl 1 rfl) ?_
  refine va_get (ci := 1) (v := .ref (b 9)) (C := RX1) (T := TX1) (N := 14) hx hb hts (fun _ h => (List.mem_cons_of_mem _ (List.mem_append_left _ (List.mem_append_right _ h)))) hown hK hP 0 rfl rfl 9 (by decide) (hts _ (List.mem_cons_of_mem _ (List.mem_append_left _ (List.mem_append_left _ (List.mem_of_getElem? (i := 9) rfl))))) (fun _ h9 => h9) rfl dX1_copyFrom_101 ?_
  refine z_wVv [] [28, 37, 9, 18] hx hb hml hown hts (m_X0_copyFrom l Dg cI (a 9) (a 18) (b 9) (b 18) 60 (fun j9 => nI (z_pl D1 j9)) (fun j9 => nI (z_pl D j9)) (by decide)) gX1_copyFrom_X0_copyFrom rfl kd_X0_copyFrom ⟨Nat.le_of_ble_eq_true rfl, Nat.le_of_ble_eq_true rfl⟩ hK hN hP hD hS rfl (by decide) rfl rfl rfl rfl rfl hl.1 rfl (Nat.le_of_ble_eq_true rfl) dX1_copyFrom_104 ⟨Nat.zero_le _, Nat.zero_le _⟩ (fun H locs hP hD hS => ?_)
  have hP : va_P Dg vwCl (z_sW cI b G D ++ z_sX cI a (z_wm G) (z_v0 G) (z_lk G) (z_sw D) (fun j9 => z_bI (z_rc D j9)) (fun j9 => nI (z_bt G j9)) (fun j9 => nI (z_sh G j9)) (z_vc D) (fun j9 => nI (z_pl D j9)) (nI (z_bc G)) (nI (z_tc G1)) (nI (z_sd G1)) (nI (z_od G1)) (z_dy D1)) H := hP
  have hD : va_D _ (z_sW cI b G D ++ z_sX cI a (z_wm G) (z_v0 G) (z_lk G) (z_sw D) (fun j9 => z_bI (z_rc D j9)) (fun j9 => nI (z_bt G j9)) (fun j9 => nI (z_sh G j9)) (z_vc D) (fun j9 => nI (z_pl D j9)) (nI (z_bc G)) (nI (z_tc G1)) (nI (z_sd G1)) (nI (z_od G1)) (z_dy D1)) := hD
  refine lv_aload_n hx hb dX1_copyFrom_107 rfl (lv_at hl 0 rfl) ?_
  refine lv_aload_n hx hb dX1_copyFrom_108 rfl (lv_at hl 1 rfl) ?_
  refine va_get (ci := 1) (v := .int (nI (z_tc G))) (C := RX1) (T := TX1) (N := 14) hx hb hts (fun _ h => (List.mem_cons_of_mem _ (List.mem_append_left _ (List.mem_append_right _ h)))) hown hK hP 0 rfl rfl 10 (by decide) (hts _ (List.mem_cons_of_mem _ (List.mem_append_left _ (List.mem_append_left _ (List.mem_of_getElem? (i := 10) rfl))))) (fun _ h9 => h9) rfl dX1_copyFrom_109 ?_
  refine va_put (ci := 1) (v := .int (nI (z_tc G))) (ty := .int) (C := RX1) (T := TX1) (N := 14) hx hb hts (fun _ h => (List.mem_cons_of_mem _ (List.mem_append_left _ (List.mem_append_right _ h)))) tyX1 tyX1_ok nmX1 hown hK hP hD hS 19 rfl rfl 10 (by decide) (hts _ (List.mem_cons_of_mem _ (List.mem_append_left _ (List.mem_append_left _ (List.mem_of_getElem? (i := 10) rfl))))) (fun _ h9 => h9) rfl (by decide +kernel) rfl rfl (Nat.le_of_ble_eq_true rfl) dX1_copyFrom_112 (fun H locs hP hD hS => ?_)
  have hP : va_P Dg vwCl (z_sW cI b G D ++ z_sX cI a (z_wm G) (z_v0 G) (z_lk G) (z_sw D) (fun j9 => z_bI (z_rc D j9)) (fun j9 => nI (z_bt G j9)) (fun j9 => nI (z_sh G j9)) (z_vc D) (fun j9 => nI (z_pl D j9)) (nI (z_bc G)) (nI (z_tc G)) (nI (z_sd G1)) (nI (z_od G1)) (z_dy D1)) H := hP
  have hD : va_D _ (z_sW cI b G D ++ z_sX cI a (z_wm G) (z_v0 G) (z_lk G) (z_sw D) (fun j9 => z_bI (z_rc D j9)) (fun j9 => nI (z_bt G j9)) (fun j9 => nI (z_sh G j9)) (z_vc D) (fun j9 => nI (z_pl D j9)) (nI (z_bc G)) (nI (z_tc G)) (nI (z_sd G1)) (nI (z_od G1)) (z_dy D1)) := hD
  refine lv_aload_n hx hb dX1_copyFrom_115 rfl (lv_at hl 0 rfl) ?_
  refine lv_aload_n hx hb dX1_copyFrom_116 rfl (lv_at hl 1 rfl) ?_
  refine va_get (ci := 1) (v := .int (nI (z_sd G))) (C := RX1) (T := TX1) (N := 14) hx hb hts (fun _ h => (List.mem_cons_of_mem _ (List.mem_append_left _ (List.mem_append_right _ h)))) hown hK hP 0 rfl rfl 11 (by decide) (hts _ (List.mem_cons_of_mem _ (List.mem_append_left _ (List.mem_append_left _ (List.mem_of_getElem? (i := 11) rfl))))) (fun _ h9 => h9) rfl dX1_copyFrom_117 ?_
  refine va_put (ci := 1) (v := .int (nI (z_sd G))) (ty := .int) (C := RX1) (T := TX1) (N := 14) hx hb hts (fun _ h => (List.mem_cons_of_mem _ (List.mem_append_left _ (List.mem_append_right _ h)))) tyX1 tyX1_ok nmX1 hown hK hP hD hS 19 rfl rfl 11 (by decide) (hts _ (List.mem_cons_of_mem _ (List.mem_append_left _ (List.mem_append_left _ (List.mem_of_getElem? (i := 11) rfl))))) (fun _ h9 => h9) rfl (by decide +kernel) rfl rfl (Nat.le_of_ble_eq_true rfl) dX1_copyFrom_120 (fun H locs hP hD hS => ?_)
  have hP : va_P Dg vwCl (z_sW cI b G D ++ z_sX cI a (z_wm G) (z_v0 G) (z_lk G) (z_sw D) (fun j9 => z_bI (z_rc D j9)) (fun j9 => nI (z_bt G j9)) (fun j9 => nI (z_sh G j9)) (z_vc D) (fun j9 => nI (z_pl D j9)) (nI (z_bc G)) (nI (z_tc G)) (nI (z_sd G)) (nI (z_od G1)) (z_dy D1)) H := hP
  have hD : va_D _ (z_sW cI b G D ++ z_sX cI a (z_wm G) (z_v0 G) (z_lk G) (z_sw D) (fun j9 => z_bI (z_rc D j9)) (fun j9 => nI (z_bt G j9)) (fun j9 => nI (z_sh G j9)) (z_vc D) (fun j9 => nI (z_pl D j9)) (nI (z_bc G)) (nI (z_tc G)) (nI (z_sd G)) (nI (z_od G1)) (z_dy D1)) := hD
  refine lv_aload_n hx hb dX1_copyFrom_123 rfl (lv_at hl 0 rfl) ?_
  refine lv_aload_n hx hb dX1_copyFrom_124 rfl (lv_at hl 1 rfl) ?_
  refine va_get (ci := 1) (v := .int (nI (z_od G))) (C := RX1) (T := TX1) (N := 14) hx hb hts (fun _ h => (List.mem_cons_of_mem _ (List.mem_append_left _ (List.mem_append_right _ h)))) hown hK hP 0 rfl rfl 12 (by decide) (hts _ (List.mem_cons_of_mem _ (List.mem_append_left _ (List.mem_append_left _ (List.mem_of_getElem? (i := 12) rfl))))) (fun _ h9 => h9) rfl dX1_copyFrom_125 ?_
  refine va_put (ci := 1) (v := .int (nI (z_od G))) (ty := .int) (C := RX1) (T := TX1) (N := 14) hx hb hts (fun _ h => (List.mem_cons_of_mem _ (List.mem_append_left _ (List.mem_append_right _ h)))) tyX1 tyX1_ok nmX1 hown hK hP hD hS 19 rfl rfl 12 (by decide) (hts _ (List.mem_cons_of_mem _ (List.mem_append_left _ (List.mem_append_left _ (List.mem_of_getElem? (i := 12) rfl))))) (fun _ h9 => h9) rfl (by decide +kernel) rfl rfl (Nat.le_of_ble_eq_true rfl) dX1_copyFrom_128 (fun H locs hP hD hS => ?_)
  have hP : va_P Dg vwCl (z_sW cI b G D ++ z_sX cI a (z_wm G) (z_v0 G) (z_lk G) (z_sw D) (fun j9 => z_bI (z_rc D j9)) (fun j9 => nI (z_bt G j9)) (fun j9 => nI (z_sh G j9)) (z_vc D) (fun j9 => nI (z_pl D j9)) (nI (z_bc G)) (nI (z_tc G)) (nI (z_sd G)) (nI (z_od G)) (z_dy D1)) H := hP
  have hD : va_D _ (z_sW cI b G D ++ z_sX cI a (z_wm G) (z_v0 G) (z_lk G) (z_sw D) (fun j9 => z_bI (z_rc D j9)) (fun j9 => nI (z_bt G j9)) (fun j9 => nI (z_sh G j9)) (z_vc D) (fun j9 => nI (z_pl D j9)) (nI (z_bc G)) (nI (z_tc G)) (nI (z_sd G)) (nI (z_od G)) (z_dy D1)) := hD
  refine lv_aload_n hx hb dX1_copyFrom_131 rfl (lv_at hl 0 rfl) ?_
  refine lv_aload_n hx hb dX1_copyFrom_132 rfl (lv_at hl 1 rfl) ?_
  refine va_get (ci := 1) (v := .int (z_dy D)) (C := RX1) (T := TX1) (N := 14) hx hb hts (fun _ h => (List.mem_cons_of_mem _ (List.mem_append_left _ (List.mem_append_right _ h)))) hown hK hP 0 rfl rfl 13 (by decide) (hts _ (List.mem_cons_of_mem _ (List.mem_append_left _ (List.mem_append_left _ (List.mem_of_getElem? (i := 13) rfl))))) (fun _ h9 => h9) rfl dX1_copyFrom_133 ?_
  refine va_put (ci := 1) (v := .int (z_dy D)) (ty := .int) (C := RX1) (T := TX1) (N := 14) hx hb hts (fun _ h => (List.mem_cons_of_mem _ (List.mem_append_left _ (List.mem_append_right _ h)))) tyX1 tyX1_ok nmX1 hown hK hP hD hS 19 rfl rfl 13 (by decide) (hts _ (List.mem_cons_of_mem _ (List.mem_append_left _ (List.mem_append_left _ (List.mem_of_getElem? (i := 13) rfl))))) (fun _ h9 => h9) rfl (by decide +kernel) rfl rfl (Nat.le_of_ble_eq_true rfl) dX1_copyFrom_136 (fun H locs hP hD hS => ?_)
  have hP : va_P Dg vwCl (z_sW cI b G D ++ z_sX cI a (z_wm G) (z_v0 G) (z_lk G) (z_sw D) (fun j9 => z_bI (z_rc D j9)) (fun j9 => nI (z_bt G j9)) (fun j9 => nI (z_sh G j9)) (z_vc D) (fun j9 => nI (z_pl D j9)) (nI (z_bc G)) (nI (z_tc G)) (nI (z_sd G)) (nI (z_od G)) (z_dy D)) H := hP
  have hD : va_D _ (z_sW cI b G D ++ z_sX cI a (z_wm G) (z_v0 G) (z_lk G) (z_sw D) (fun j9 => z_bI (z_rc D j9)) (fun j9 => nI (z_bt G j9)) (fun j9 => nI (z_sh G j9)) (z_vc D) (fun j9 => nI (z_pl D j9)) (nI (z_bc G)) (nI (z_tc G)) (nI (z_sd G)) (nI (z_od G)) (z_dy D)) := hD
  exact z_ew_v hP hS hx hb hr hlk dX1_copyFrom_139

set_option maxHeartbeats 4000000 in
set_option maxRecDepth 100000 in
theorem m_X2_isWithin_t (l : Launch) (Dg : va_G) (cI : ClassId) (x_ lo_ hi_ : Int32) (h1 : lo_ ≤ x_) (h2 : x_ ≤ hi_) : z_Mr l yX2_isWithin wsX2_isWithin 0 0 [.int x_, .int lo_, .int hi_] Dg cI ([] : va_W) (some (.int 1)) := by
  refine z_sr (own := RX2) (l0 := [(0, .int x_), (1, .int lo_), (2, .int hi_)]) rfl rfl (by decide) (Nat.le_of_ble_eq_true rfl) rfl ?_
  intro p e s m below meth c hx hb hr hml hts hown hlk hP hK hN ls hl
  refine lv_iload_n hx hb dX2_isWithin_0 rfl (lv_at hl 0 rfl) ?_
  refine lv_iload_n hx hb dX2_isWithin_1 rfl (lv_at hl 1 rfl) ?_
  refine lv_icmp_lt (tgt := 14) hx hb dX2_isWithin_2 (by decide) (fun c2 => absurd c2 (z_i32_nlt h1)) (fun c2 => ?_)
  refine lv_iload_n hx hb dX2_isWithin_5 rfl (lv_at hl 0 rfl) ?_
  refine lv_iload_n hx hb dX2_isWithin_6 rfl (lv_at hl 2 rfl) ?_
  refine lv_icmp_gt (tgt := 14) hx hb dX2_isWithin_7 (by decide) (fun c7 => absurd c7 (z_i32_nlt h2)) (fun c7 => ?_)
  refine lv_iconst (v := 1) hx hb dX2_isWithin_10 (by decide) ?_
  refine lv_goto (tgt := 15) hx hb dX2_isWithin_11 (by decide) ?_
  exact z_er_z (b := true) rfl hx hb hr hlk dX2_isWithin_15

set_option maxHeartbeats 4000000 in
set_option maxRecDepth 100000 in
theorem m_X2_isWithin_f (l : Launch) (Dg : va_G) (cI : ClassId) (x_ lo_ hi_ : Int32) (h1 : ¬ (lo_ ≤ x_ ∧ x_ ≤ hi_)) : z_Mr l yX2_isWithin wsX2_isWithin 0 0 [.int x_, .int lo_, .int hi_] Dg cI ([] : va_W) (some (.int 0)) := by
  refine z_sr (own := RX2) (l0 := [(0, .int x_), (1, .int lo_), (2, .int hi_)]) rfl rfl (by decide) (Nat.le_of_ble_eq_true rfl) rfl ?_
  intro p e s m below meth c hx hb hr hml hts hown hlk hP hK hN ls hl
  refine lv_iload_n hx hb dX2_isWithin_0 rfl (lv_at hl 0 rfl) ?_
  refine lv_iload_n hx hb dX2_isWithin_1 rfl (lv_at hl 1 rfl) ?_
  refine lv_icmp_lt (tgt := 14) hx hb dX2_isWithin_2 (by decide) (fun c2 => ?_) (fun c2 => ?_)
  · skip
    refine lv_iconst (v := 0) hx hb dX2_isWithin_14 (by decide) ?_
    exact z_er_z (b := false) rfl hx hb hr hlk dX2_isWithin_15
  · skip
    refine lv_iload_n hx hb dX2_isWithin_5 rfl (lv_at hl 0 rfl) ?_
    refine lv_iload_n hx hb dX2_isWithin_6 rfl (lv_at hl 2 rfl) ?_
    refine lv_icmp_gt (tgt := 14) hx hb dX2_isWithin_7 (by decide) (fun c7 => ?_) (fun c7 => ?_)
    · skip
      refine lv_iconst (v := 0) hx hb dX2_isWithin_14 (by decide) ?_
      exact z_er_z (b := false) rfl hx hb hr hlk dX2_isWithin_15
    · skip
      exact absurd ⟨z_i32_le c2, z_i32_le c7⟩ h1

set_option maxHeartbeats 4000000 in
set_option maxRecDepth 100000 in
theorem m_X2_isLater (l : Launch) (Dg : va_G) (cI : ClassId) (x_ y_ : Int32)  : z_Mr l yX2_isLater wsX2_isLater 0 0 [.int x_, .int y_] Dg cI ([] : va_W) (some (.int (z_bI (z_il x_ y_)))) := by
  refine z_sr (own := RX2) (l0 := [(0, .int x_), (1, .int y_)]) rfl rfl (by decide) (Nat.le_of_ble_eq_true rfl) rfl ?_
  intro p e s m below meth c hx hb hr hml hts hown hlk hP hK hN ls hl
  refine lv_iload_n hx hb dX2_isLater_0 rfl (lv_at hl 1 rfl) ?_
  refine lv_iconst (v := (-1)) hx hb dX2_isLater_1 (by decide) ?_
  refine lv_icmp_eq (tgt := 19) hx hb dX2_isLater_2 (by decide) (fun c2 => ?_) (fun c2 => ?_)
  · skip
    refine lv_iconst (v := 0) hx hb dX2_isLater_19 (by decide) ?_
    exact z_er_z (z_b0 (z_and_f1 (z_dec_f (fun q => q c2)))) hx hb hr hlk dX2_isLater_20
  · skip
    refine lv_iload_n hx hb dX2_isLater_5 rfl (lv_at hl 0 rfl) ?_
    refine lv_iconst (v := (-1)) hx hb dX2_isLater_6 (by decide) ?_
    refine lv_icmp_eq (tgt := 15) hx hb dX2_isLater_7 (by decide) (fun c7 => ?_) (fun c7 => ?_)
    · skip
      refine lv_iconst (v := 1) hx hb dX2_isLater_15 (by decide) ?_
      refine lv_goto (tgt := 20) hx hb dX2_isLater_16 (by decide) ?_
      exact z_er_z (z_b1 (z_and_t (z_dec_t c2) (by rw [z_dec_t c7]; rfl))) hx hb hr hlk dX2_isLater_20
    · skip
      refine lv_iload_n hx hb dX2_isLater_10 rfl (lv_at hl 0 rfl) ?_
      refine lv_iload_n hx hb dX2_isLater_11 rfl (lv_at hl 1 rfl) ?_
      refine lv_icmp_le (tgt := 19) hx hb dX2_isLater_12 (by decide) (fun c12 => ?_) (fun c12 => ?_)
      · skip
        refine lv_iconst (v := 0) hx hb dX2_isLater_19 (by decide) ?_
        exact z_er_z (z_b0 (z_and_f2 (by rw [z_dec_f c7, z_dec_f (z_i32_nlt c12)]; rfl))) hx hb hr hlk dX2_isLater_20
      · skip
        refine lv_iconst (v := 1) hx hb dX2_isLater_15 (by decide) ?_
        refine lv_goto (tgt := 20) hx hb dX2_isLater_16 (by decide) ?_
        exact z_er_z (z_b1 (z_and_t (z_dec_t c2) (by rw [z_dec_t (z_i32_lt c12), Bool.or_true]))) hx hb hr hlk dX2_isLater_20

set_option maxHeartbeats 4000000 in
set_option maxRecDepth 100000 in
theorem m_X2_mix (l : Launch) (Dg : va_G) (cI : ClassId) (d_ x_ : Int64)  : z_Mr l yX2_mix wsX2_mix 0 0 [.long d_, .long x_] Dg cI ([] : va_W) (some (.long (z_mi d_ x_))) := by
  refine z_sr (own := RX2) (l0 := [(0, .long d_), (2, .long x_)]) rfl rfl (by decide) (Nat.le_of_ble_eq_true rfl) rfl ?_
  intro p e s m below meth c hx hb hr hml hts hown hlk hP hK hN ls hl
  refine lv_lload_n hx hb dX2_mix_0 rfl (lv_at hl 0 rfl) ?_
  refine lv_ldc2 (v := 31) hx hb hown (hts _ (List.mem_cons_of_mem _ (List.mem_of_getElem? (i := 0) rfl))) dX2_mix_1 ?_
  refine lv_lmul hx hb dX2_mix_4 ?_
  refine lv_lload_n hx hb dX2_mix_5 rfl (lv_at hl 1 rfl) ?_
  refine lv_ladd hx hb dX2_mix_6 ?_
  exact z_er_l rfl hx hb hr hlk dX2_mix_7

set_option maxHeartbeats 4000000 in
set_option maxRecDepth 100000 in
theorem m_X2_needShelf (l : Launch) (Dg : va_G) (cI : ClassId) (k_ : Nat) (hk : k_ < 4) : z_Mr l yX2_needShelf wsX2_needShelf 1 22 [.int (nI k_)] Dg cI ([] : va_W) none := by
  refine z_sr (own := RX2) (l0 := [(0, .int (nI k_))]) rfl rfl (by decide) (Nat.le_of_ble_eq_true rfl) rfl ?_
  intro p e s m below meth c hx hb hr hml hts hown hlk hP hK hN ls hl
  refine lv_iload_n hx hb dX2_needShelf_0 rfl (lv_at hl 0 rfl) ?_
  refine lv_iconst (v := nI 0) hx hb dX2_needShelf_1 (by decide) ?_
  refine lv_iconst (v := nI 3) hx hb dX2_needShelf_2 (by decide) ?_
  refine z_rSi (v := 1) [] hx hb hml hown hts (m_X2_isWithin_t l Dg cI (nI k_) (nI 0) (nI 3) (nI_le (Nat.zero_le _) (by omega)) (nI_le (by omega) (by decide))) gX2_needShelf_X2_isWithin rfl kdS_X2_isWithin ⟨Nat.le_of_ble_eq_true rfl, Nat.le_of_ble_eq_true rfl⟩ hK hN z_P0 rfl hl.1 rfl (Nat.le_of_ble_eq_true rfl) dX2_needShelf_3 ⟨Nat.zero_le _, Nat.zero_le _⟩ ?_
  refine lv_if_ne (tgt := 19) hx hb dX2_needShelf_6 (by decide) (fun c6 => ?_) (fun c6 => absurd c6 (by decide))
  exact z_er_v hx hb hr hlk dX2_needShelf_19

set_option maxHeartbeats 4000000 in
set_option maxRecDepth 100000 in
theorem m_X2_needOrder (l : Launch) (Dg : va_G) (cI : ClassId) (k_ : Nat) (hk : k_ < 3) : z_Mr l yX2_needOrder wsX2_needOrder 1 22 [.int (nI k_)] Dg cI ([] : va_W) none := by
  refine z_sr (own := RX2) (l0 := [(0, .int (nI k_))]) rfl rfl (by decide) (Nat.le_of_ble_eq_true rfl) rfl ?_
  intro p e s m below meth c hx hb hr hml hts hown hlk hP hK hN ls hl
  refine lv_iload_n hx hb dX2_needOrder_0 rfl (lv_at hl 0 rfl) ?_
  refine lv_iconst (v := nI 0) hx hb dX2_needOrder_1 (by decide) ?_
  refine lv_iconst (v := nI 2) hx hb dX2_needOrder_2 (by decide) ?_
  refine z_rSi (v := 1) [] hx hb hml hown hts (m_X2_isWithin_t l Dg cI (nI k_) (nI 0) (nI 2) (nI_le (Nat.zero_le _) (by omega)) (nI_le (by omega) (by decide))) gX2_needOrder_X2_isWithin rfl kdS_X2_isWithin ⟨Nat.le_of_ble_eq_true rfl, Nat.le_of_ble_eq_true rfl⟩ hK hN z_P0 rfl hl.1 rfl (Nat.le_of_ble_eq_true rfl) dX2_needOrder_3 ⟨Nat.zero_le _, Nat.zero_le _⟩ ?_
  refine lv_if_ne (tgt := 19) hx hb dX2_needOrder_6 (by decide) (fun c6 => ?_) (fun c6 => absurd c6 (by decide))
  exact z_er_v hx hb hr hlk dX2_needOrder_19

set_option maxHeartbeats 4000000 in
set_option maxRecDepth 100000 in
theorem m_X2_needShipping (l : Launch) (Dg : va_G) (cI : ClassId) (k_ o_ : Nat) (hk : k_ < 10) (ho : o_ < 3) : z_Mr l yX2_needShipping wsX2_needShipping 2 42 [.int (nI k_), .int (nI o_)] Dg cI ([] : va_W) none := by
  refine z_sr (own := RX2) (l0 := [(0, .int (nI k_)), (1, .int (nI o_))]) rfl rfl (by decide) (Nat.le_of_ble_eq_true rfl) rfl ?_
  intro p e s m below meth c hx hb hr hml hts hown hlk hP hK hN ls hl
  refine lv_iload_n hx hb dX2_needShipping_0 rfl (lv_at hl 0 rfl) ?_
  refine lv_iconst (v := nI 0) hx hb dX2_needShipping_1 (by decide) ?_
  refine lv_bipush (v := nI 9) hx hb dX2_needShipping_2 (by decide) ?_
  refine z_rSi (v := 1) [] hx hb hml hown hts (m_X2_isWithin_t l Dg cI (nI k_) (nI 0) (nI 9) (nI_le (Nat.zero_le _) (by omega)) (nI_le (by omega) (by decide))) gX2_needShipping_X2_isWithin rfl kdS_X2_isWithin ⟨Nat.le_of_ble_eq_true rfl, Nat.le_of_ble_eq_true rfl⟩ hK hN z_P0 rfl hl.1 rfl (Nat.le_of_ble_eq_true rfl) dX2_needShipping_4 ⟨Nat.zero_le _, Nat.zero_le _⟩ ?_
  refine lv_if_ne (tgt := 20) hx hb dX2_needShipping_7 (by decide) (fun c7 => ?_) (fun c7 => absurd c7 (by decide))
  refine lv_iload_n hx hb dX2_needShipping_20 rfl (lv_at hl 1 rfl) ?_
  refine z_rSv [] hx hb hml hown hts (m_X2_needOrder l Dg cI o_ (by omega)) gX2_needShipping_X2_needOrder rfl kdS_X2_needOrder ⟨Nat.le_of_ble_eq_true rfl, Nat.le_of_ble_eq_true rfl⟩ hK hN z_P0 rfl hl.1 rfl (Nat.le_of_ble_eq_true rfl) dX2_needShipping_21 ⟨Nat.zero_le _, Nat.zero_le _⟩ ?_
  exact z_er_v hx hb hr hlk dX2_needShipping_24

set_option maxHeartbeats 4000000 in
set_option maxRecDepth 100000 in
theorem m_X2_needBatch (l : Launch) (Dg : va_G) (cI : ClassId) (h : Nat) (na ta : Nat → Nat) (G : z_GG) (D : z_DD) (G1 : z_GG) (D1 : z_DD) (k_ : Nat) (hk : k_ < z_bc G) (hbc : z_bc G ≤ 6) : z_Mr l yX2_needBatch wsX2_needBatch 1 22 [.ref h, .int (nI k_)] Dg cI (z_cW cI h na ta G D G1 D1) none := by
  refine z_sr (own := RX2) (l0 := [(0, .ref h), (1, .int (nI k_))]) rfl rfl (by decide) (Nat.le_of_ble_eq_true rfl) rfl ?_
  intro p e s m below meth c hx hb hr hml hts hown hlk hP hK hN ls hl
  refine lv_iload_n hx hb dX2_needBatch_0 rfl (lv_at hl 1 rfl) ?_
  refine lv_iconst (v := nI 0) hx hb dX2_needBatch_1 (by decide) ?_
  refine lv_aload_n hx hb dX2_needBatch_2 rfl (lv_at hl 0 rfl) ?_
  refine va_get (ci := 2) (v := .ref (na 0)) (C := RX2) (T := TX2) (N := 2) hx hb hts (fun _ h => (List.mem_cons_of_mem _ (List.mem_append_left _ (List.mem_append_left _ (List.mem_append_right _ h))))) hown hK hP 0 rfl rfl 0 (by decide) (hts _ (List.mem_cons_of_mem _ (List.mem_append_left _ (List.mem_append_left _ (List.mem_append_left _ (List.mem_of_getElem? (i := 2) rfl)))))) (fun _ h9 => h9) rfl dX2_needBatch_3 ?_
  refine va_getN (ci := 1) (v := .int (nI (z_bc G))) (C := RX1) (T := TX1) (N := 14) hx hb hts (fun _ h => (List.mem_cons_of_mem _ (List.mem_append_left _ (List.mem_append_right _ h)))) hown hK hP 1 rfl rfl 5 (by decide) (va_Nw.use rfl hN.2.1) (fun _ h9 => h9) rfl dX2_needBatch_6 ?_
  refine lv_iconst (v := 1) hx hb dX2_needBatch_9 (by decide) ?_
  refine lv_isub hx hb dX2_needBatch_10 ?_
  refine z_top (x' := nI (z_bc G - 1)) (z_pred (by omega)) ?_
  refine z_rSi (v := 1) [] hx hb hml hown hts (m_X2_isWithin_t l Dg cI (nI k_) (nI 0) (nI (z_bc G - 1)) (nI_le (Nat.zero_le _) (by omega)) (nI_le (by omega) (by omega))) gX2_needBatch_X2_isWithin rfl kdS_X2_isWithin ⟨Nat.le_of_ble_eq_true rfl, Nat.le_of_ble_eq_true rfl⟩ hK hN z_P0 rfl hl.1 rfl (Nat.le_of_ble_eq_true rfl) dX2_needBatch_11 ⟨Nat.zero_le _, Nat.zero_le _⟩ ?_
  refine lv_if_ne (tgt := 27) hx hb dX2_needBatch_14 (by decide) (fun c14 => ?_) (fun c14 => absurd c14 (by decide))
  exact z_er_v hx hb hr hlk dX2_needBatch_27

set_option maxHeartbeats 4000000 in
set_option maxRecDepth 100000 in
theorem m_X2_needTin (l : Launch) (Dg : va_G) (cI : ClassId) (h : Nat) (na ta : Nat → Nat) (G : z_GG) (D : z_DD) (G1 : z_GG) (D1 : z_DD) (k_ : Nat) (hk : k_ < z_tc G) (htc : z_tc G ≤ 60) : z_Mr l yX2_needTin wsX2_needTin 1 22 [.ref h, .int (nI k_)] Dg cI (z_cW cI h na ta G D G1 D1) none := by
  refine z_sr (own := RX2) (l0 := [(0, .ref h), (1, .int (nI k_))]) rfl rfl (by decide) (Nat.le_of_ble_eq_true rfl) rfl ?_
  intro p e s m below meth c hx hb hr hml hts hown hlk hP hK hN ls hl
  refine lv_iload_n hx hb dX2_needTin_0 rfl (lv_at hl 1 rfl) ?_
  refine lv_iconst (v := nI 0) hx hb dX2_needTin_1 (by decide) ?_
  refine lv_aload_n hx hb dX2_needTin_2 rfl (lv_at hl 0 rfl) ?_
  refine va_get (ci := 2) (v := .ref (na 0)) (C := RX2) (T := TX2) (N := 2) hx hb hts (fun _ h => (List.mem_cons_of_mem _ (List.mem_append_left _ (List.mem_append_left _ (List.mem_append_right _ h))))) hown hK hP 0 rfl rfl 0 (by decide) (hts _ (List.mem_cons_of_mem _ (List.mem_append_left _ (List.mem_append_left _ (List.mem_append_left _ (List.mem_of_getElem? (i := 2) rfl)))))) (fun _ h9 => h9) rfl dX2_needTin_3 ?_
  refine va_getN (ci := 1) (v := .int (nI (z_tc G))) (C := RX1) (T := TX1) (N := 14) hx hb hts (fun _ h => (List.mem_cons_of_mem _ (List.mem_append_left _ (List.mem_append_right _ h)))) hown hK hP 1 rfl rfl 10 (by decide) (va_Nw.use rfl hN.2.2.1) (fun _ h9 => h9) rfl dX2_needTin_6 ?_
  refine lv_iconst (v := 1) hx hb dX2_needTin_9 (by decide) ?_
  refine lv_isub hx hb dX2_needTin_10 ?_
  refine z_top (x' := nI (z_tc G - 1)) (z_pred (by omega)) ?_
  refine z_rSi (v := 1) [] hx hb hml hown hts (m_X2_isWithin_t l Dg cI (nI k_) (nI 0) (nI (z_tc G - 1)) (nI_le (Nat.zero_le _) (by omega)) (nI_le (by omega) (by omega))) gX2_needTin_X2_isWithin rfl kdS_X2_isWithin ⟨Nat.le_of_ble_eq_true rfl, Nat.le_of_ble_eq_true rfl⟩ hK hN z_P0 rfl hl.1 rfl (Nat.le_of_ble_eq_true rfl) dX2_needTin_11 ⟨Nat.zero_le _, Nat.zero_le _⟩ ?_
  refine lv_if_ne (tgt := 27) hx hb dX2_needTin_14 (by decide) (fun c14 => ?_) (fun c14 => absurd c14 (by decide))
  exact z_er_v hx hb hr hlk dX2_needTin_27

set_option maxHeartbeats 4000000 in
set_option maxRecDepth 100000 in
theorem m_X2_day (l : Launch) (Dg : va_G) (cI : ClassId) (h : Nat) (na ta : Nat → Nat) (G : z_GG) (D : z_DD) (G1 : z_GG) (D1 : z_DD) (hG : z_WG G) (hW : z_WD G D) : z_Mr l yX2_day wsX2_day 0 0 [.ref h] Dg cI (z_cW cI h na ta G D G1 D1) (some (.int (z_dy D))) := by
  have htc : z_tc G ≤ 60 := hG.2.2.2.2.2.1
  have hbc : z_bc G ≤ 6 := hG.2.2.2.2.1
  refine z_sr (own := RX2) (l0 := [(0, .ref h)]) rfl rfl (by decide) (Nat.le_of_ble_eq_true rfl) rfl ?_
  intro p e s m below meth c hx hb hr hml hts hown hlk hP hK hN ls hl
  refine lv_aload_n hx hb dX2_day_0 rfl (lv_at hl 0 rfl) ?_
  refine va_get (ci := 2) (v := .ref (na 0)) (C := RX2) (T := TX2) (N := 2) hx hb hts (fun _ h => (List.mem_cons_of_mem _ (List.mem_append_left _ (List.mem_append_right _ h)))) hown hK hP 0 rfl rfl 0 (by decide) (hts _ (List.mem_cons_of_mem _ (List.mem_append_left _ (List.mem_append_left _ (List.mem_of_getElem? (i := 0) rfl))))) (fun _ h9 => h9) rfl dX2_day_1 ?_
  refine va_getN (ci := 1) (v := .int (z_dy D)) (C := RX1) (T := TX1) (N := 14) hx hb hts (fun _ h => (List.mem_cons_of_mem _ (List.mem_append_right _ h))) hown hK hP 1 rfl rfl 13 (by decide) (va_Nw.use rfl hN.2.2.2.2.2.2.2.1) (fun _ h9 => h9) rfl dX2_day_4 ?_
  exact z_er_i rfl hx hb hr hlk dX2_day_7

set_option maxHeartbeats 4000000 in
set_option maxRecDepth 100000 in
theorem m_X2_batches (l : Launch) (Dg : va_G) (cI : ClassId) (h : Nat) (na ta : Nat → Nat) (G : z_GG) (D : z_DD) (G1 : z_GG) (D1 : z_DD) (hG : z_WG G) (hW : z_WD G D) : z_Mr l yX2_batches wsX2_batches 0 0 [.ref h] Dg cI (z_cW cI h na ta G D G1 D1) (some (.int (nI (z_bc G)))) := by
  have htc : z_tc G ≤ 60 := hG.2.2.2.2.2.1
  have hbc : z_bc G ≤ 6 := hG.2.2.2.2.1
  refine z_sr (own := RX2) (l0 := [(0, .ref h)]) rfl rfl (by decide) (Nat.le_of_ble_eq_true rfl) rfl ?_
  intro p e s m below meth c hx hb hr hml hts hown hlk hP hK hN ls hl
  refine lv_aload_n hx hb dX2_batches_0 rfl (lv_at hl 0 rfl) ?_
  refine va_get (ci := 2) (v := .ref (na 0)) (C := RX2) (T := TX2) (N := 2) hx hb hts (fun _ h => (List.mem_cons_of_mem _ (List.mem_append_left _ (List.mem_append_right _ h)))) hown hK hP 0 rfl rfl 0 (by decide) (hts _ (List.mem_cons_of_mem _ (List.mem_append_left _ (List.mem_append_left _ (List.mem_of_getElem? (i := 0) rfl))))) (fun _ h9 => h9) rfl dX2_batches_1 ?_
  refine va_getN (ci := 1) (v := .int (nI (z_bc G))) (C := RX1) (T := TX1) (N := 14) hx hb hts (fun _ h => (List.mem_cons_of_mem _ (List.mem_append_right _ h))) hown hK hP 1 rfl rfl 5 (by decide) (va_Nw.use rfl hN.2.1) (fun _ h9 => h9) rfl dX2_batches_4 ?_
  exact z_er_i rfl hx hb hr hlk dX2_batches_7

set_option maxHeartbeats 4000000 in
set_option maxRecDepth 100000 in
theorem m_X2_tins (l : Launch) (Dg : va_G) (cI : ClassId) (h : Nat) (na ta : Nat → Nat) (G : z_GG) (D : z_DD) (G1 : z_GG) (D1 : z_DD) (hG : z_WG G) (hW : z_WD G D) : z_Mr l yX2_tins wsX2_tins 0 0 [.ref h] Dg cI (z_cW cI h na ta G D G1 D1) (some (.int (nI (z_tc G)))) := by
  have htc : z_tc G ≤ 60 := hG.2.2.2.2.2.1
  have hbc : z_bc G ≤ 6 := hG.2.2.2.2.1
  refine z_sr (own := RX2) (l0 := [(0, .ref h)]) rfl rfl (by decide) (Nat.le_of_ble_eq_true rfl) rfl ?_
  intro p e s m below meth c hx hb hr hml hts hown hlk hP hK hN ls hl
  refine lv_aload_n hx hb dX2_tins_0 rfl (lv_at hl 0 rfl) ?_
  refine va_get (ci := 2) (v := .ref (na 0)) (C := RX2) (T := TX2) (N := 2) hx hb hts (fun _ h => (List.mem_cons_of_mem _ (List.mem_append_left _ (List.mem_append_right _ h)))) hown hK hP 0 rfl rfl 0 (by decide) (hts _ (List.mem_cons_of_mem _ (List.mem_append_left _ (List.mem_append_left _ (List.mem_of_getElem? (i := 0) rfl))))) (fun _ h9 => h9) rfl dX2_tins_1 ?_
  refine va_getN (ci := 1) (v := .int (nI (z_tc G))) (C := RX1) (T := TX1) (N := 14) hx hb hts (fun _ h => (List.mem_cons_of_mem _ (List.mem_append_right _ h))) hown hK hP 1 rfl rfl 10 (by decide) (va_Nw.use rfl hN.2.2.1) (fun _ h9 => h9) rfl dX2_tins_4 ?_
  exact z_er_i rfl hx hb hr hlk dX2_tins_7

set_option maxHeartbeats 4000000 in
set_option maxRecDepth 100000 in
theorem m_X2_inCellar (l : Launch) (Dg : va_G) (cI : ClassId) (h : Nat) (na ta : Nat → Nat) (G : z_GG) (D : z_DD) (G1 : z_GG) (D1 : z_DD) (hG : z_WG G) (hW : z_WD G D) : z_Mr l yX2_inCellar wsX2_inCellar 2 44 [.ref h] Dg cI (z_cW cI h na ta G D G1 D1) (some (.int (nI (z_cn G D 1)))) := by
  have htc : z_tc G ≤ 60 := hG.2.2.2.2.2.1
  have hbc : z_bc G ≤ 6 := hG.2.2.2.2.1
  refine z_sr (own := RX2) (l0 := [(0, .ref h)]) rfl rfl (by decide) (Nat.le_of_ble_eq_true rfl) rfl ?_
  intro p e s m below meth c hx hb hr hml hts hown hlk hP hK hN ls hl
  refine lv_aload_n hx hb dX2_inCellar_0 rfl (lv_at hl 0 rfl) ?_
  refine va_get (ci := 2) (v := .ref (na 0)) (C := RX2) (T := TX2) (N := 2) hx hb hts (fun _ h => (List.mem_cons_of_mem _ (List.mem_append_left _ (List.mem_append_left _ (List.mem_append_right _ h))))) hown hK hP 0 rfl rfl 0 (by decide) (hts _ (List.mem_cons_of_mem _ (List.mem_append_left _ (List.mem_append_left _ (List.mem_append_left _ (List.mem_of_getElem? (i := 0) rfl)))))) (fun _ h9 => h9) rfl dX2_inCellar_1 ?_
  refine lv_iconst (v := nI 1) hx hb dX2_inCellar_4 (by decide) ?_
  refine z_rVi (v := nI (z_cn G D 1)) [] hx hb hml hown hts (m_X1_countAt l Dg cI na G D 1 (by decide) hG hW) gX2_inCellar_X1_countAt rfl kd_X1_countAt ⟨Nat.le_of_ble_eq_true rfl, Nat.le_of_ble_eq_true rfl⟩ hK hN (z_Pm (a := [(h, .inr (2, [.ref (na 0), .ref (ta 0)]))]) (c := (z_sW cI ta G1 D1)) hP) rfl rfl rfl rfl hl.1 rfl (Nat.le_of_ble_eq_true rfl) dX2_inCellar_5 ⟨Nat.zero_le _, Nat.zero_le _⟩ ?_
  exact z_er_i rfl hx hb hr hlk dX2_inCellar_8

set_option maxHeartbeats 4000000 in
set_option maxRecDepth 100000 in
theorem m_X2_shipped (l : Launch) (Dg : va_G) (cI : ClassId) (h : Nat) (na ta : Nat → Nat) (G : z_GG) (D : z_DD) (G1 : z_GG) (D1 : z_DD) (hG : z_WG G) (hW : z_WD G D) : z_Mr l yX2_shipped wsX2_shipped 2 44 [.ref h] Dg cI (z_cW cI h na ta G D G1 D1) (some (.int (nI (z_cn G D 2)))) := by
  have htc : z_tc G ≤ 60 := hG.2.2.2.2.2.1
  have hbc : z_bc G ≤ 6 := hG.2.2.2.2.1
  refine z_sr (own := RX2) (l0 := [(0, .ref h)]) rfl rfl (by decide) (Nat.le_of_ble_eq_true rfl) rfl ?_
  intro p e s m below meth c hx hb hr hml hts hown hlk hP hK hN ls hl
  refine lv_aload_n hx hb dX2_shipped_0 rfl (lv_at hl 0 rfl) ?_
  refine va_get (ci := 2) (v := .ref (na 0)) (C := RX2) (T := TX2) (N := 2) hx hb hts (fun _ h => (List.mem_cons_of_mem _ (List.mem_append_left _ (List.mem_append_left _ (List.mem_append_right _ h))))) hown hK hP 0 rfl rfl 0 (by decide) (hts _ (List.mem_cons_of_mem _ (List.mem_append_left _ (List.mem_append_left _ (List.mem_append_left _ (List.mem_of_getElem? (i := 0) rfl)))))) (fun _ h9 => h9) rfl dX2_shipped_1 ?_
  refine lv_iconst (v := nI 2) hx hb dX2_shipped_4 (by decide) ?_
  refine z_rVi (v := nI (z_cn G D 2)) [] hx hb hml hown hts (m_X1_countAt l Dg cI na G D 2 (by decide) hG hW) gX2_shipped_X1_countAt rfl kd_X1_countAt ⟨Nat.le_of_ble_eq_true rfl, Nat.le_of_ble_eq_true rfl⟩ hK hN (z_Pm (a := [(h, .inr (2, [.ref (na 0), .ref (ta 0)]))]) (c := (z_sW cI ta G1 D1)) hP) rfl rfl rfl rfl hl.1 rfl (Nat.le_of_ble_eq_true rfl) dX2_shipped_5 ⟨Nat.zero_le _, Nat.zero_le _⟩ ?_
  exact z_er_i rfl hx hb hr hlk dX2_shipped_8

set_option maxHeartbeats 4000000 in
set_option maxRecDepth 100000 in
theorem m_X2_lost (l : Launch) (Dg : va_G) (cI : ClassId) (h : Nat) (na ta : Nat → Nat) (G : z_GG) (D : z_DD) (G1 : z_GG) (D1 : z_DD) (hG : z_WG G) (hW : z_WD G D) : z_Mr l yX2_lost wsX2_lost 2 44 [.ref h] Dg cI (z_cW cI h na ta G D G1 D1) (some (.int (nI (z_cn G D 3)))) := by
  have htc : z_tc G ≤ 60 := hG.2.2.2.2.2.1
  have hbc : z_bc G ≤ 6 := hG.2.2.2.2.1
  refine z_sr (own := RX2) (l0 := [(0, .ref h)]) rfl rfl (by decide) (Nat.le_of_ble_eq_true rfl) rfl ?_
  intro p e s m below meth c hx hb hr hml hts hown hlk hP hK hN ls hl
  refine lv_aload_n hx hb dX2_lost_0 rfl (lv_at hl 0 rfl) ?_
  refine va_get (ci := 2) (v := .ref (na 0)) (C := RX2) (T := TX2) (N := 2) hx hb hts (fun _ h => (List.mem_cons_of_mem _ (List.mem_append_left _ (List.mem_append_left _ (List.mem_append_right _ h))))) hown hK hP 0 rfl rfl 0 (by decide) (hts _ (List.mem_cons_of_mem _ (List.mem_append_left _ (List.mem_append_left _ (List.mem_append_left _ (List.mem_of_getElem? (i := 0) rfl)))))) (fun _ h9 => h9) rfl dX2_lost_1 ?_
  refine lv_iconst (v := nI 3) hx hb dX2_lost_4 (by decide) ?_
  refine z_rVi (v := nI (z_cn G D 3)) [] hx hb hml hown hts (m_X1_countAt l Dg cI na G D 3 (by decide) hG hW) gX2_lost_X1_countAt rfl kd_X1_countAt ⟨Nat.le_of_ble_eq_true rfl, Nat.le_of_ble_eq_true rfl⟩ hK hN (z_Pm (a := [(h, .inr (2, [.ref (na 0), .ref (ta 0)]))]) (c := (z_sW cI ta G1 D1)) hP) rfl rfl rfl rfl hl.1 rfl (Nat.le_of_ble_eq_true rfl) dX2_lost_5 ⟨Nat.zero_le _, Nat.zero_le _⟩ ?_
  exact z_er_i rfl hx hb hr hlk dX2_lost_8

set_option maxHeartbeats 4000000 in
set_option maxRecDepth 100000 in
theorem m_X2_swelled (l : Launch) (Dg : va_G) (cI : ClassId) (h : Nat) (na ta : Nat → Nat) (G : z_GG) (D : z_DD) (G1 : z_GG) (D1 : z_DD) (hG : z_WG G) (hW : z_WD G D) : z_Mr l yX2_swelled wsX2_swelled 1 21 [.ref h] Dg cI (z_cW cI h na ta G D G1 D1) (some (.int (z_sum (z_sw D) (z_bc G)))) := by
  have htc : z_tc G ≤ 60 := hG.2.2.2.2.2.1
  have hbc : z_bc G ≤ 6 := hG.2.2.2.2.1
  refine z_sr (own := RX2) (l0 := [(0, .ref h)]) rfl rfl (by decide) (Nat.le_of_ble_eq_true rfl) rfl ?_
  intro p e s m below meth c hx hb hr hml hts hown hlk hP hK hN ls hl
  refine lv_iconst (v := 0) hx hb dX2_swelled_0 (by decide) ?_
  refine lv_istore_n (lv' := [(1, .int 0), (0, .ref h)]) hx hb dX2_swelled_1 rfl hl (by decide) rfl (fun ls hl => ?_)
  refine lv_iconst (v := nI 0) hx hb dX2_swelled_2 (by decide) ?_
  refine lv_istore_n (lv' := [(2, .int (nI 0)), (1, .int 0), (0, .ref h)]) hx hb dX2_swelled_3 rfl hl (by decide) rfl (fun ls hl => ?_)
  have lp4 : ∀ (zz i : Nat) , i ≤ z_bc G → z_bc G + 1 ≤ i + zz → ∀ ls : Array Slot, lv_has ls 3 [(0, .ref h), (1, .int (z_sum (z_sw D) i)), (2, .int (nI i))] → W p l e ({ frames := 1, cells := 0, slots := 0, locals := 21 } : Room) s m ([.ref h] : List Value).toArray below meth c s.heap [] 0 0 (MQ below (z_Qr (some (.int (z_sum (z_sw D) (z_bc G))))) ([.ref h] : List Value).toArray s 0 0 z_no) (F0 m 4 ls []) := by
    intro zz
    induction zz with
    | zero => intros; exfalso; omega
    | succ zz ih4 =>
      intro i hi hzz ls hl
      refine lv_iload_n hx hb dX2_swelled_4 rfl (lv_at hl 2 rfl) ?_
      refine lv_aload_n hx hb dX2_swelled_5 rfl (lv_at hl 0 rfl) ?_
      refine va_get (ci := 2) (v := .ref (na 0)) (C := RX2) (T := TX2) (N := 2) hx hb hts (fun _ h => (List.mem_cons_of_mem _ (List.mem_append_left _ (List.mem_append_left _ (List.mem_append_right _ h))))) hown hK hP 0 rfl rfl 0 (by decide) (hts _ (List.mem_cons_of_mem _ (List.mem_append_left _ (List.mem_append_left _ (List.mem_append_left _ (List.mem_of_getElem? (i := 0) rfl)))))) (fun _ h9 => h9) rfl dX2_swelled_6 ?_
      refine va_getN (ci := 1) (v := .int (nI (z_bc G))) (C := RX1) (T := TX1) (N := 14) hx hb hts (fun _ h => (List.mem_cons_of_mem _ (List.mem_append_left _ (List.mem_append_right _ h)))) hown hK hP 1 rfl rfl 5 (by decide) (va_Nw.use rfl hN.2.1) (fun _ h9 => h9) rfl dX2_swelled_9 ?_
      refine lv_icmp_ge (tgt := 35) hx hb dX2_swelled_12 (by decide) (fun c12 => ?_) (fun c12 => ?_)
      · skip
        have hi2 : i = z_bc G := Nat.le_antisymm hi (z_le (by omega) (by omega) c12)
        refine lv_iload_n hx hb dX2_swelled_35 rfl (lv_at hl 1 rfl) ?_
        exact z_er_i (by rw [hi2]) hx hb hr hlk dX2_swelled_36
      · skip
        have hi2 : i < z_bc G := z_nle (by omega) c12
        refine lv_iload_n hx hb dX2_swelled_15 rfl (lv_at hl 1 rfl) ?_
        refine lv_aload_n hx hb dX2_swelled_16 rfl (lv_at hl 0 rfl) ?_
        refine va_get (ci := 2) (v := .ref (na 0)) (C := RX2) (T := TX2) (N := 2) hx hb hts (fun _ h => (List.mem_cons_of_mem _ (List.mem_append_left _ (List.mem_append_left _ (List.mem_append_right _ h))))) hown hK hP 0 rfl rfl 0 (by decide) (hts _ (List.mem_cons_of_mem _ (List.mem_append_left _ (List.mem_append_left _ (List.mem_append_left _ (List.mem_of_getElem? (i := 0) rfl)))))) (fun _ h9 => h9) rfl dX2_swelled_17 ?_
        refine va_getN (ci := 1) (v := .ref (na 4)) (C := RX1) (T := TX1) (N := 14) hx hb hts (fun _ h => (List.mem_cons_of_mem _ (List.mem_append_left _ (List.mem_append_right _ h)))) hown hK hP 1 rfl rfl 3 (by decide) (va_Nw.use rfl hN.2.2.2.2.2.2.2.2.1) (fun _ h9 => h9) rfl dX2_swelled_20 ?_
        refine lv_iload_n hx hb dX2_swelled_23 rfl (lv_at hl 2 rfl) ?_
        refine z_rVi (v := z_sw D i) [.int (z_sum (z_sw D) i)] hx hb hml hown hts (m_X0_get l Dg cI (na 4) (na 13) 6 (z_sw D) i (by omega) (by decide)) gX2_swelled_X0_get rfl kd_X0_get ⟨Nat.le_of_ble_eq_true rfl, Nat.le_of_ble_eq_true rfl⟩ hK hN (hP.sub [5, 14] rfl) rfl rfl rfl rfl hl.1 rfl (Nat.le_of_ble_eq_true rfl) dX2_swelled_24 ⟨Nat.zero_le _, Nat.zero_le _⟩ ?_
        refine lv_iadd hx hb dX2_swelled_27 ?_
        refine lv_istore_n (lv' := [(1, .int ((z_sum (z_sw D) i) + (z_sw D i))), (0, .ref h), (2, .int (nI i))]) hx hb dX2_swelled_28 rfl hl (by decide) rfl (fun ls hl => ?_)
        have hl : lv_has ls 3 [(1, .int (z_sum (z_sw D) (i + 1))), (0, .ref h), (2, .int (nI i))] := by have q : (z_sum (z_sw D) i) + (z_sw D i) = z_sum (z_sw D) (i + 1) := rfl; rw [← q]; exact hl
        refine lv_iinc (v := nI (i + 1)) (lv' := [(2, .int (nI (i + 1))), (1, .int (z_sum (z_sw D) (i + 1))), (0, .ref h)]) hx hb dX2_swelled_29 hl (k := 2) rfl (nI_1 _) (by decide) rfl (fun ls hl => ?_)
        refine lv_goto (tgt := 4) hx hb dX2_swelled_32 (by decide) ?_
        exact ih4 (i + 1) (by omega) (by omega) _ (lv_sub hl [2, 1, 0] rfl)
  exact lp4 (z_bc G + 1) 0 (by omega) (by omega) _ (lv_sub hl [2, 1, 0] rfl)

set_option maxHeartbeats 4000000 in
set_option maxRecDepth 100000 in
theorem m_X2_standOn (l : Launch) (Dg : va_G) (cI : ClassId) (h : Nat) (na ta : Nat → Nat) (G : z_GG) (D : z_DD) (G1 : z_GG) (D1 : z_DD) (s_ : Nat) (hs4 : s_ < 4) (hG : z_WG G) (hW : z_WD G D) : z_Mr l yX2_standOn wsX2_standOn 3 66 [.ref h, .int (nI s_)] Dg cI (z_cW cI h na ta G D G1 D1) (some (.int (nI (z_on G D s_)))) := by
  have htc : z_tc G ≤ 60 := hG.2.2.2.2.2.1
  have hbc : z_bc G ≤ 6 := hG.2.2.2.2.1
  refine z_sr (own := RX2) (l0 := [(0, .ref h), (1, .int (nI s_))]) rfl rfl (by decide) (Nat.le_of_ble_eq_true rfl) rfl ?_
  intro p e s m below meth c hx hb hr hml hts hown hlk hP hK hN ls hl
  refine lv_iload_n hx hb dX2_standOn_0 rfl (lv_at hl 1 rfl) ?_
  refine z_rSv [] hx hb hml hown hts (m_X2_needShelf l Dg cI s_ (by omega)) gX2_standOn_X2_needShelf rfl kdS_X2_needShelf ⟨Nat.le_of_ble_eq_true rfl, Nat.le_of_ble_eq_true rfl⟩ hK hN z_P0 rfl hl.1 rfl (Nat.le_of_ble_eq_true rfl) dX2_standOn_1 ⟨Nat.zero_le _, Nat.zero_le _⟩ ?_
  refine lv_aload_n hx hb dX2_standOn_4 rfl (lv_at hl 0 rfl) ?_
  refine va_get (ci := 2) (v := .ref (na 0)) (C := RX2) (T := TX2) (N := 2) hx hb hts (fun _ h => (List.mem_cons_of_mem _ (List.mem_append_left _ (List.mem_append_left _ (List.mem_append_left _ (List.mem_append_right _ h)))))) hown hK hP 0 rfl rfl 0 (by decide) (hts _ (List.mem_cons_of_mem _ (List.mem_append_left _ (List.mem_append_left _ (List.mem_append_left _ (List.mem_append_left _ (List.mem_append_left _ (List.mem_of_getElem? (i := 0) rfl)))))))) (fun _ h9 => h9) rfl dX2_standOn_5 ?_
  refine lv_aload_n hx hb dX2_standOn_8 rfl (lv_at hl 0 rfl) ?_
  refine va_get (ci := 2) (v := .ref (na 0)) (C := RX2) (T := TX2) (N := 2) hx hb hts (fun _ h => (List.mem_cons_of_mem _ (List.mem_append_left _ (List.mem_append_left _ (List.mem_append_left _ (List.mem_append_right _ h)))))) hown hK hP 0 rfl rfl 0 (by decide) (hts _ (List.mem_cons_of_mem _ (List.mem_append_left _ (List.mem_append_left _ (List.mem_append_left _ (List.mem_append_left _ (List.mem_append_left _ (List.mem_of_getElem? (i := 0) rfl)))))))) (fun _ h9 => h9) rfl dX2_standOn_9 ?_
  refine va_getN (ci := 1) (v := .ref (na 7)) (C := RX1) (T := TX1) (N := 14) hx hb hts (fun _ h => (List.mem_cons_of_mem _ (List.mem_append_left _ (List.mem_append_left _ (List.mem_append_right _ h))))) hown hK hP 1 rfl rfl 7 (by decide) (va_Nw.use rfl hN.2.2.2.1) (fun _ h9 => h9) rfl dX2_standOn_12 ?_
  refine lv_iload_n hx hb dX2_standOn_15 rfl (lv_at hl 1 rfl) ?_
  refine z_rVi (v := nI (z_on G D s_)) [] hx hb hml hown hts (m_X1_countHeldWith_sh l Dg cI na G D s_ (by omega) hG hW) gX2_standOn_X1_countHeldWith rfl kd_X1_countHeldWith ⟨Nat.le_of_ble_eq_true rfl, Nat.le_of_ble_eq_true rfl⟩ hK hN (z_Pm (a := [(h, .inr (2, [.ref (na 0), .ref (ta 0)]))]) (c := (z_sW cI ta G1 D1)) hP) rfl rfl rfl rfl hl.1 rfl (Nat.le_of_ble_eq_true rfl) dX2_standOn_16 ⟨Nat.zero_le _, Nat.zero_le _⟩ ?_
  exact z_er_i rfl hx hb hr hlk dX2_standOn_19

set_option maxHeartbeats 4000000 in
set_option maxRecDepth 100000 in
theorem m_X2_warmOf (l : Launch) (Dg : va_G) (cI : ClassId) (h : Nat) (na ta : Nat → Nat) (G : z_GG) (D : z_DD) (G1 : z_GG) (D1 : z_DD) (s_ : Nat) (hs4 : s_ < 4) (hG : z_WG G) (hW : z_WD G D) : z_Mr l yX2_warmOf wsX2_warmOf 2 42 [.ref h, .int (nI s_)] Dg cI (z_cW cI h na ta G D G1 D1) (some (.int (z_wm G s_))) := by
  have htc : z_tc G ≤ 60 := hG.2.2.2.2.2.1
  have hbc : z_bc G ≤ 6 := hG.2.2.2.2.1
  refine z_sr (own := RX2) (l0 := [(0, .ref h), (1, .int (nI s_))]) rfl rfl (by decide) (Nat.le_of_ble_eq_true rfl) rfl ?_
  intro p e s m below meth c hx hb hr hml hts hown hlk hP hK hN ls hl
  refine lv_iload_n hx hb dX2_warmOf_0 rfl (lv_at hl 1 rfl) ?_
  refine z_rSv [] hx hb hml hown hts (m_X2_needShelf l Dg cI s_ (by omega)) gX2_warmOf_X2_needShelf rfl kdS_X2_needShelf ⟨Nat.le_of_ble_eq_true rfl, Nat.le_of_ble_eq_true rfl⟩ hK hN z_P0 rfl hl.1 rfl (Nat.le_of_ble_eq_true rfl) dX2_warmOf_1 ⟨Nat.zero_le _, Nat.zero_le _⟩ ?_
  refine lv_aload_n hx hb dX2_warmOf_4 rfl (lv_at hl 0 rfl) ?_
  refine va_get (ci := 2) (v := .ref (na 0)) (C := RX2) (T := TX2) (N := 2) hx hb hts (fun _ h => (List.mem_cons_of_mem _ (List.mem_append_left _ (List.mem_append_left _ (List.mem_append_left _ (List.mem_append_right _ h)))))) hown hK hP 0 rfl rfl 0 (by decide) (hts _ (List.mem_cons_of_mem _ (List.mem_append_left _ (List.mem_append_left _ (List.mem_append_left _ (List.mem_append_left _ (List.mem_of_getElem? (i := 0) rfl))))))) (fun _ h9 => h9) rfl dX2_warmOf_5 ?_
  refine va_getN (ci := 1) (v := .ref (na 1)) (C := RX1) (T := TX1) (N := 14) hx hb hts (fun _ h => (List.mem_cons_of_mem _ (List.mem_append_left _ (List.mem_append_left _ (List.mem_append_right _ h))))) hown hK hP 1 rfl rfl 0 (by decide) (va_Nw.use rfl hN.2.2.2.2.1) (fun _ h9 => h9) rfl dX2_warmOf_8 ?_
  refine lv_iload_n hx hb dX2_warmOf_11 rfl (lv_at hl 1 rfl) ?_
  refine z_rVi (v := z_wm G s_) [] hx hb hml hown hts (m_X0_get l Dg cI (na 1) (na 10) 4 (z_wm G) s_ (by omega) (by decide)) gX2_warmOf_X0_get rfl kd_X0_get ⟨Nat.le_of_ble_eq_true rfl, Nat.le_of_ble_eq_true rfl⟩ hK hN (hP.sub [2, 11] rfl) rfl rfl rfl rfl hl.1 rfl (Nat.le_of_ble_eq_true rfl) dX2_warmOf_12 ⟨Nat.zero_le _, Nat.zero_le _⟩ ?_
  exact z_er_i rfl hx hb hr hlk dX2_warmOf_15

set_option maxHeartbeats 4000000 in
set_option maxRecDepth 100000 in
theorem m_X2_batchOf (l : Launch) (Dg : va_G) (cI : ClassId) (h : Nat) (na ta : Nat → Nat) (G : z_GG) (D : z_DD) (G1 : z_GG) (D1 : z_DD) (t : Nat) (ht : t < z_tc G) (hG : z_WG G) (hW : z_WD G D) : z_Mr l yX2_batchOf wsX2_batchOf 2 43 [.ref h, .int (nI t)] Dg cI (z_cW cI h na ta G D G1 D1) (some (.int (nI (z_bt G t)))) := by
  have htc : z_tc G ≤ 60 := hG.2.2.2.2.2.1
  have hbc : z_bc G ≤ 6 := hG.2.2.2.2.1
  have hpl := hW t ht
  have hbt := hG.2.2.1 t
  have hsh := hG.2.2.2.1 t
  refine z_sr (own := RX2) (l0 := [(0, .ref h), (1, .int (nI t))]) rfl rfl (by decide) (Nat.le_of_ble_eq_true rfl) rfl ?_
  intro p e s m below meth c hx hb hr hml hts hown hlk hP hK hN ls hl
  refine lv_aload_n hx hb dX2_batchOf_0 rfl (lv_at hl 0 rfl) ?_
  refine lv_iload_n hx hb dX2_batchOf_1 rfl (lv_at hl 1 rfl) ?_
  refine z_rVv [] hx hb hml hown hts (m_X2_needTin l Dg cI h na ta G D G1 D1 t (by omega) (by omega)) gX2_batchOf_X2_needTin rfl kd_X2_needTin ⟨Nat.le_of_ble_eq_true rfl, Nat.le_of_ble_eq_true rfl⟩ hK hN hP rfl rfl rfl rfl hl.1 rfl (Nat.le_of_ble_eq_true rfl) dX2_batchOf_2 ⟨Nat.zero_le _, Nat.zero_le _⟩ ?_
  refine lv_aload_n hx hb dX2_batchOf_5 rfl (lv_at hl 0 rfl) ?_
  refine va_get (ci := 2) (v := .ref (na 0)) (C := RX2) (T := TX2) (N := 2) hx hb hts (fun _ h => (List.mem_cons_of_mem _ (List.mem_append_left _ (List.mem_append_left _ (List.mem_append_left _ (List.mem_append_right _ h)))))) hown hK hP 0 rfl rfl 0 (by decide) (hts _ (List.mem_cons_of_mem _ (List.mem_append_left _ (List.mem_append_left _ (List.mem_append_left _ (List.mem_append_left _ (List.mem_of_getElem? (i := 0) rfl))))))) (fun _ h9 => h9) rfl dX2_batchOf_6 ?_
  refine va_getN (ci := 1) (v := .ref (na 6)) (C := RX1) (T := TX1) (N := 14) hx hb hts (fun _ h => (List.mem_cons_of_mem _ (List.mem_append_left _ (List.mem_append_left _ (List.mem_append_right _ h))))) hown hK hP 1 rfl rfl 6 (by decide) (va_Nw.use rfl hN.2.2.2.2.2.2.2.2.2.1) (fun _ h9 => h9) rfl dX2_batchOf_9 ?_
  refine lv_iload_n hx hb dX2_batchOf_12 rfl (lv_at hl 1 rfl) ?_
  refine z_rVi (v := nI (z_bt G t)) [] hx hb hml hown hts (m_X0_get l Dg cI (na 6) (na 15) 60 (fun j9 => nI (z_bt G j9)) t (by omega) (by decide)) gX2_batchOf_X0_get rfl kd_X0_get ⟨Nat.le_of_ble_eq_true rfl, Nat.le_of_ble_eq_true rfl⟩ hK hN (hP.sub [7, 16] rfl) rfl rfl rfl rfl hl.1 rfl (Nat.le_of_ble_eq_true rfl) dX2_batchOf_13 ⟨Nat.zero_le _, Nat.zero_le _⟩ ?_
  exact z_er_i rfl hx hb hr hlk dX2_batchOf_16

set_option maxHeartbeats 4000000 in
set_option maxRecDepth 100000 in
theorem m_X2_shelfOf (l : Launch) (Dg : va_G) (cI : ClassId) (h : Nat) (na ta : Nat → Nat) (G : z_GG) (D : z_DD) (G1 : z_GG) (D1 : z_DD) (t : Nat) (ht : t < z_tc G) (hG : z_WG G) (hW : z_WD G D) : z_Mr l yX2_shelfOf wsX2_shelfOf 2 43 [.ref h, .int (nI t)] Dg cI (z_cW cI h na ta G D G1 D1) (some (.int (z_shf G D t))) := by
  have htc : z_tc G ≤ 60 := hG.2.2.2.2.2.1
  have hbc : z_bc G ≤ 6 := hG.2.2.2.2.1
  have hpl := hW t ht
  have hbt := hG.2.2.1 t
  have hsh := hG.2.2.2.1 t
  refine z_sr (own := RX2) (l0 := [(0, .ref h), (1, .int (nI t))]) rfl rfl (by decide) (Nat.le_of_ble_eq_true rfl) rfl ?_
  intro p e s m below meth c hx hb hr hml hts hown hlk hP hK hN ls hl
  refine lv_aload_n hx hb dX2_shelfOf_0 rfl (lv_at hl 0 rfl) ?_
  refine lv_iload_n hx hb dX2_shelfOf_1 rfl (lv_at hl 1 rfl) ?_
  refine z_rVv [] hx hb hml hown hts (m_X2_needTin l Dg cI h na ta G D G1 D1 t (by omega) (by omega)) gX2_shelfOf_X2_needTin rfl kd_X2_needTin ⟨Nat.le_of_ble_eq_true rfl, Nat.le_of_ble_eq_true rfl⟩ hK hN hP rfl rfl rfl rfl hl.1 rfl (Nat.le_of_ble_eq_true rfl) dX2_shelfOf_2 ⟨Nat.zero_le _, Nat.zero_le _⟩ ?_
  refine lv_aload_n hx hb dX2_shelfOf_5 rfl (lv_at hl 0 rfl) ?_
  refine va_get (ci := 2) (v := .ref (na 0)) (C := RX2) (T := TX2) (N := 2) hx hb hts (fun _ h => (List.mem_cons_of_mem _ (List.mem_append_left _ (List.mem_append_left _ (List.mem_append_left _ (List.mem_append_right _ h)))))) hown hK hP 0 rfl rfl 0 (by decide) (hts _ (List.mem_cons_of_mem _ (List.mem_append_left _ (List.mem_append_left _ (List.mem_append_left _ (List.mem_append_left _ (List.mem_of_getElem? (i := 0) rfl))))))) (fun _ h9 => h9) rfl dX2_shelfOf_6 ?_
  refine lv_iload_n hx hb dX2_shelfOf_9 rfl (lv_at hl 1 rfl) ?_
  refine z_rVi (v := z_bI (z_pl D t == 1)) [] hx hb hml hown hts (m_X1_holds l Dg cI na G D t (by omega) hG hW) gX2_shelfOf_X1_holds rfl kd_X1_holds ⟨Nat.le_of_ble_eq_true rfl, Nat.le_of_ble_eq_true rfl⟩ hK hN (z_Pm (a := [(h, .inr (2, [.ref (na 0), .ref (ta 0)]))]) (c := (z_sW cI ta G1 D1)) hP) rfl rfl rfl rfl hl.1 rfl (Nat.le_of_ble_eq_true rfl) dX2_shelfOf_10 ⟨Nat.zero_le _, Nat.zero_le _⟩ ?_
  refine lv_if_eq (tgt := 30) hx hb dX2_shelfOf_13 (by decide) (fun c13 => ?_) (fun c13 => ?_)
  · skip
    refine lv_iconst (v := (-1)) hx hb dX2_shelfOf_30 (by decide) ?_
    exact z_er_i (by rw [z_shf, if_neg (z_bne' (z_bI0 c13))]) hx hb hr hlk dX2_shelfOf_31
  · skip
    refine lv_aload_n hx hb dX2_shelfOf_16 rfl (lv_at hl 0 rfl) ?_
    refine va_get (ci := 2) (v := .ref (na 0)) (C := RX2) (T := TX2) (N := 2) hx hb hts (fun _ h => (List.mem_cons_of_mem _ (List.mem_append_left _ (List.mem_append_left _ (List.mem_append_left _ (List.mem_append_right _ h)))))) hown hK hP 0 rfl rfl 0 (by decide) (hts _ (List.mem_cons_of_mem _ (List.mem_append_left _ (List.mem_append_left _ (List.mem_append_left _ (List.mem_append_left _ (List.mem_of_getElem? (i := 0) rfl))))))) (fun _ h9 => h9) rfl dX2_shelfOf_17 ?_
    refine va_getN (ci := 1) (v := .ref (na 7)) (C := RX1) (T := TX1) (N := 14) hx hb hts (fun _ h => (List.mem_cons_of_mem _ (List.mem_append_left _ (List.mem_append_left _ (List.mem_append_right _ h))))) hown hK hP 1 rfl rfl 7 (by decide) (va_Nw.use rfl hN.2.2.2.1) (fun _ h9 => h9) rfl dX2_shelfOf_20 ?_
    refine lv_iload_n hx hb dX2_shelfOf_23 rfl (lv_at hl 1 rfl) ?_
    refine z_rVi (v := nI (z_sh G t)) [] hx hb hml hown hts (m_X0_get l Dg cI (na 7) (na 16) 60 (fun j9 => nI (z_sh G j9)) t (by omega) (by decide)) gX2_shelfOf_X0_get rfl kd_X0_get ⟨Nat.le_of_ble_eq_true rfl, Nat.le_of_ble_eq_true rfl⟩ hK hN (hP.sub [8, 17] rfl) rfl rfl rfl rfl hl.1 rfl (Nat.le_of_ble_eq_true rfl) dX2_shelfOf_24 ⟨Nat.zero_le _, Nat.zero_le _⟩ ?_
    refine lv_goto (tgt := 31) hx hb dX2_shelfOf_27 (by decide) ?_
    exact z_er_i (by rw [z_shf, if_pos (z_beq' (z_bI1 c13))]) hx hb hr hlk dX2_shelfOf_31

set_option maxHeartbeats 4000000 in
set_option maxRecDepth 100000 in
theorem m_X2_vacuumOf (l : Launch) (Dg : va_G) (cI : ClassId) (h : Nat) (na ta : Nat → Nat) (G : z_GG) (D : z_DD) (G1 : z_GG) (D1 : z_DD) (t : Nat) (ht : t < z_tc G) (hG : z_WG G) (hW : z_WD G D) : z_Mr l yX2_vacuumOf wsX2_vacuumOf 2 43 [.ref h, .int (nI t)] Dg cI (z_cW cI h na ta G D G1 D1) (some (.int (z_vc D t))) := by
  have htc : z_tc G ≤ 60 := hG.2.2.2.2.2.1
  have hbc : z_bc G ≤ 6 := hG.2.2.2.2.1
  have hpl := hW t ht
  have hbt := hG.2.2.1 t
  have hsh := hG.2.2.2.1 t
  refine z_sr (own := RX2) (l0 := [(0, .ref h), (1, .int (nI t))]) rfl rfl (by decide) (Nat.le_of_ble_eq_true rfl) rfl ?_
  intro p e s m below meth c hx hb hr hml hts hown hlk hP hK hN ls hl
  refine lv_aload_n hx hb dX2_vacuumOf_0 rfl (lv_at hl 0 rfl) ?_
  refine lv_iload_n hx hb dX2_vacuumOf_1 rfl (lv_at hl 1 rfl) ?_
  refine z_rVv [] hx hb hml hown hts (m_X2_needTin l Dg cI h na ta G D G1 D1 t (by omega) (by omega)) gX2_vacuumOf_X2_needTin rfl kd_X2_needTin ⟨Nat.le_of_ble_eq_true rfl, Nat.le_of_ble_eq_true rfl⟩ hK hN hP rfl rfl rfl rfl hl.1 rfl (Nat.le_of_ble_eq_true rfl) dX2_vacuumOf_2 ⟨Nat.zero_le _, Nat.zero_le _⟩ ?_
  refine lv_aload_n hx hb dX2_vacuumOf_5 rfl (lv_at hl 0 rfl) ?_
  refine va_get (ci := 2) (v := .ref (na 0)) (C := RX2) (T := TX2) (N := 2) hx hb hts (fun _ h => (List.mem_cons_of_mem _ (List.mem_append_left _ (List.mem_append_left _ (List.mem_append_left _ (List.mem_append_right _ h)))))) hown hK hP 0 rfl rfl 0 (by decide) (hts _ (List.mem_cons_of_mem _ (List.mem_append_left _ (List.mem_append_left _ (List.mem_append_left _ (List.mem_append_left _ (List.mem_of_getElem? (i := 0) rfl))))))) (fun _ h9 => h9) rfl dX2_vacuumOf_6 ?_
  refine va_getN (ci := 1) (v := .ref (na 8)) (C := RX1) (T := TX1) (N := 14) hx hb hts (fun _ h => (List.mem_cons_of_mem _ (List.mem_append_left _ (List.mem_append_left _ (List.mem_append_right _ h))))) hown hK hP 1 rfl rfl 8 (by decide) (va_Nw.use rfl hN.2.2.2.2.2.2.2.2.2.2.1) (fun _ h9 => h9) rfl dX2_vacuumOf_9 ?_
  refine lv_iload_n hx hb dX2_vacuumOf_12 rfl (lv_at hl 1 rfl) ?_
  refine z_rVi (v := z_vc D t) [] hx hb hml hown hts (m_X0_get l Dg cI (na 8) (na 17) 60 (z_vc D) t (by omega) (by decide)) gX2_vacuumOf_X0_get rfl kd_X0_get ⟨Nat.le_of_ble_eq_true rfl, Nat.le_of_ble_eq_true rfl⟩ hK hN (hP.sub [9, 18] rfl) rfl rfl rfl rfl hl.1 rfl (Nat.le_of_ble_eq_true rfl) dX2_vacuumOf_13 ⟨Nat.zero_le _, Nat.zero_le _⟩ ?_
  exact z_er_i rfl hx hb hr hlk dX2_vacuumOf_16

set_option maxHeartbeats 4000000 in
set_option maxRecDepth 100000 in
theorem m_X2_isShipped (l : Launch) (Dg : va_G) (cI : ClassId) (h : Nat) (na ta : Nat → Nat) (G : z_GG) (D : z_DD) (G1 : z_GG) (D1 : z_DD) (t : Nat) (ht : t < z_tc G) (hG : z_WG G) (hW : z_WD G D) : z_Mr l yX2_isShipped wsX2_isShipped 2 43 [.ref h, .int (nI t)] Dg cI (z_cW cI h na ta G D G1 D1) (some (.int (z_bI (z_pl D t == 2)))) := by
  have htc : z_tc G ≤ 60 := hG.2.2.2.2.2.1
  have hbc : z_bc G ≤ 6 := hG.2.2.2.2.1
  have hpl := hW t ht
  have hbt := hG.2.2.1 t
  have hsh := hG.2.2.2.1 t
  refine z_sr (own := RX2) (l0 := [(0, .ref h), (1, .int (nI t))]) rfl rfl (by decide) (Nat.le_of_ble_eq_true rfl) rfl ?_
  intro p e s m below meth c hx hb hr hml hts hown hlk hP hK hN ls hl
  refine lv_aload_n hx hb dX2_isShipped_0 rfl (lv_at hl 0 rfl) ?_
  refine lv_iload_n hx hb dX2_isShipped_1 rfl (lv_at hl 1 rfl) ?_
  refine z_rVv [] hx hb hml hown hts (m_X2_needTin l Dg cI h na ta G D G1 D1 t (by omega) (by omega)) gX2_isShipped_X2_needTin rfl kd_X2_needTin ⟨Nat.le_of_ble_eq_true rfl, Nat.le_of_ble_eq_true rfl⟩ hK hN hP rfl rfl rfl rfl hl.1 rfl (Nat.le_of_ble_eq_true rfl) dX2_isShipped_2 ⟨Nat.zero_le _, Nat.zero_le _⟩ ?_
  refine lv_aload_n hx hb dX2_isShipped_5 rfl (lv_at hl 0 rfl) ?_
  refine va_get (ci := 2) (v := .ref (na 0)) (C := RX2) (T := TX2) (N := 2) hx hb hts (fun _ h => (List.mem_cons_of_mem _ (List.mem_append_left _ (List.mem_append_left _ (List.mem_append_left _ (List.mem_append_right _ h)))))) hown hK hP 0 rfl rfl 0 (by decide) (hts _ (List.mem_cons_of_mem _ (List.mem_append_left _ (List.mem_append_left _ (List.mem_append_left _ (List.mem_append_left _ (List.mem_of_getElem? (i := 0) rfl))))))) (fun _ h9 => h9) rfl dX2_isShipped_6 ?_
  refine va_getN (ci := 1) (v := .ref (na 9)) (C := RX1) (T := TX1) (N := 14) hx hb hts (fun _ h => (List.mem_cons_of_mem _ (List.mem_append_left _ (List.mem_append_left _ (List.mem_append_right _ h))))) hown hK hP 1 rfl rfl 9 (by decide) (va_Nw.use rfl hN.2.2.2.2.2.2.2.2.2.2.2) (fun _ h9 => h9) rfl dX2_isShipped_9 ?_
  refine lv_iload_n hx hb dX2_isShipped_12 rfl (lv_at hl 1 rfl) ?_
  refine z_rVi (v := nI (z_pl D t)) [] hx hb hml hown hts (m_X0_get l Dg cI (na 9) (na 18) 60 (fun j9 => nI (z_pl D j9)) t (by omega) (by decide)) gX2_isShipped_X0_get rfl kd_X0_get ⟨Nat.le_of_ble_eq_true rfl, Nat.le_of_ble_eq_true rfl⟩ hK hN (hP.sub [10, 19] rfl) rfl rfl rfl rfl hl.1 rfl (Nat.le_of_ble_eq_true rfl) dX2_isShipped_13 ⟨Nat.zero_le _, Nat.zero_le _⟩ ?_
  refine lv_iconst (v := nI 2) hx hb dX2_isShipped_16 (by decide) ?_
  refine lv_icmp_ne (tgt := 24) hx hb dX2_isShipped_17 (by decide) (fun c17 => ?_) (fun c17 => ?_)
  · skip
    refine lv_iconst (v := 0) hx hb dX2_isShipped_24 (by decide) ?_
    exact z_er_z (z_b0 (z_bne (z_ne (by omega) (by decide) c17))) hx hb hr hlk dX2_isShipped_25
  · skip
    refine lv_iconst (v := 1) hx hb dX2_isShipped_20 (by decide) ?_
    refine lv_goto (tgt := 25) hx hb dX2_isShipped_21 (by decide) ?_
    exact z_er_z (z_b1 (z_beq (z_eq (by omega) (by decide) c17))) hx hb hr hlk dX2_isShipped_25

set_option maxHeartbeats 4000000 in
set_option maxRecDepth 100000 in
theorem m_X2_isLost (l : Launch) (Dg : va_G) (cI : ClassId) (h : Nat) (na ta : Nat → Nat) (G : z_GG) (D : z_DD) (G1 : z_GG) (D1 : z_DD) (t : Nat) (ht : t < z_tc G) (hG : z_WG G) (hW : z_WD G D) : z_Mr l yX2_isLost wsX2_isLost 2 43 [.ref h, .int (nI t)] Dg cI (z_cW cI h na ta G D G1 D1) (some (.int (z_bI (z_pl D t == 3)))) := by
  have htc : z_tc G ≤ 60 := hG.2.2.2.2.2.1
  have hbc : z_bc G ≤ 6 := hG.2.2.2.2.1
  have hpl := hW t ht
  have hbt := hG.2.2.1 t
  have hsh := hG.2.2.2.1 t
  refine z_sr (own := RX2) (l0 := [(0, .ref h), (1, .int (nI t))]) rfl rfl (by decide) (Nat.le_of_ble_eq_true rfl) rfl ?_
  intro p e s m below meth c hx hb hr hml hts hown hlk hP hK hN ls hl
  refine lv_aload_n hx hb dX2_isLost_0 rfl (lv_at hl 0 rfl) ?_
  refine lv_iload_n hx hb dX2_isLost_1 rfl (lv_at hl 1 rfl) ?_
  refine z_rVv [] hx hb hml hown hts (m_X2_needTin l Dg cI h na ta G D G1 D1 t (by omega) (by omega)) gX2_isLost_X2_needTin rfl kd_X2_needTin ⟨Nat.le_of_ble_eq_true rfl, Nat.le_of_ble_eq_true rfl⟩ hK hN hP rfl rfl rfl rfl hl.1 rfl (Nat.le_of_ble_eq_true rfl) dX2_isLost_2 ⟨Nat.zero_le _, Nat.zero_le _⟩ ?_
  refine lv_aload_n hx hb dX2_isLost_5 rfl (lv_at hl 0 rfl) ?_
  refine va_get (ci := 2) (v := .ref (na 0)) (C := RX2) (T := TX2) (N := 2) hx hb hts (fun _ h => (List.mem_cons_of_mem _ (List.mem_append_left _ (List.mem_append_left _ (List.mem_append_left _ (List.mem_append_right _ h)))))) hown hK hP 0 rfl rfl 0 (by decide) (hts _ (List.mem_cons_of_mem _ (List.mem_append_left _ (List.mem_append_left _ (List.mem_append_left _ (List.mem_append_left _ (List.mem_of_getElem? (i := 0) rfl))))))) (fun _ h9 => h9) rfl dX2_isLost_6 ?_
  refine va_getN (ci := 1) (v := .ref (na 9)) (C := RX1) (T := TX1) (N := 14) hx hb hts (fun _ h => (List.mem_cons_of_mem _ (List.mem_append_left _ (List.mem_append_left _ (List.mem_append_right _ h))))) hown hK hP 1 rfl rfl 9 (by decide) (va_Nw.use rfl hN.2.2.2.2.2.2.2.2.2.2.2) (fun _ h9 => h9) rfl dX2_isLost_9 ?_
  refine lv_iload_n hx hb dX2_isLost_12 rfl (lv_at hl 1 rfl) ?_
  refine z_rVi (v := nI (z_pl D t)) [] hx hb hml hown hts (m_X0_get l Dg cI (na 9) (na 18) 60 (fun j9 => nI (z_pl D j9)) t (by omega) (by decide)) gX2_isLost_X0_get rfl kd_X0_get ⟨Nat.le_of_ble_eq_true rfl, Nat.le_of_ble_eq_true rfl⟩ hK hN (hP.sub [10, 19] rfl) rfl rfl rfl rfl hl.1 rfl (Nat.le_of_ble_eq_true rfl) dX2_isLost_13 ⟨Nat.zero_le _, Nat.zero_le _⟩ ?_
  refine lv_iconst (v := nI 3) hx hb dX2_isLost_16 (by decide) ?_
  refine lv_icmp_ne (tgt := 24) hx hb dX2_isLost_17 (by decide) (fun c17 => ?_) (fun c17 => ?_)
  · skip
    refine lv_iconst (v := 0) hx hb dX2_isLost_24 (by decide) ?_
    exact z_er_z (z_b0 (z_bne (z_ne (by omega) (by decide) c17))) hx hb hr hlk dX2_isLost_25
  · skip
    refine lv_iconst (v := 1) hx hb dX2_isLost_20 (by decide) ?_
    refine lv_goto (tgt := 25) hx hb dX2_isLost_21 (by decide) ?_
    exact z_er_z (z_b1 (z_beq (z_eq (by omega) (by decide) c17))) hx hb hr hlk dX2_isLost_25

set_option maxHeartbeats 4000000 in
set_option maxRecDepth 100000 in
theorem m_X2_swelledOf (l : Launch) (Dg : va_G) (cI : ClassId) (h : Nat) (na ta : Nat → Nat) (G : z_GG) (D : z_DD) (G1 : z_GG) (D1 : z_DD) (b_ : Nat) (hbb : b_ < z_bc G) (hG : z_WG G) (hW : z_WD G D) : z_Mr l yX2_swelledOf wsX2_swelledOf 2 43 [.ref h, .int (nI b_)] Dg cI (z_cW cI h na ta G D G1 D1) (some (.int (z_sw D b_))) := by
  have htc : z_tc G ≤ 60 := hG.2.2.2.2.2.1
  have hbc : z_bc G ≤ 6 := hG.2.2.2.2.1
  refine z_sr (own := RX2) (l0 := [(0, .ref h), (1, .int (nI b_))]) rfl rfl (by decide) (Nat.le_of_ble_eq_true rfl) rfl ?_
  intro p e s m below meth c hx hb hr hml hts hown hlk hP hK hN ls hl
  refine lv_aload_n hx hb dX2_swelledOf_0 rfl (lv_at hl 0 rfl) ?_
  refine lv_iload_n hx hb dX2_swelledOf_1 rfl (lv_at hl 1 rfl) ?_
  refine z_rVv [] hx hb hml hown hts (m_X2_needBatch l Dg cI h na ta G D G1 D1 b_ (by omega) (by omega)) gX2_swelledOf_X2_needBatch rfl kd_X2_needBatch ⟨Nat.le_of_ble_eq_true rfl, Nat.le_of_ble_eq_true rfl⟩ hK hN hP rfl rfl rfl rfl hl.1 rfl (Nat.le_of_ble_eq_true rfl) dX2_swelledOf_2 ⟨Nat.zero_le _, Nat.zero_le _⟩ ?_
  refine lv_aload_n hx hb dX2_swelledOf_5 rfl (lv_at hl 0 rfl) ?_
  refine va_get (ci := 2) (v := .ref (na 0)) (C := RX2) (T := TX2) (N := 2) hx hb hts (fun _ h => (List.mem_cons_of_mem _ (List.mem_append_left _ (List.mem_append_left _ (List.mem_append_left _ (List.mem_append_right _ h)))))) hown hK hP 0 rfl rfl 0 (by decide) (hts _ (List.mem_cons_of_mem _ (List.mem_append_left _ (List.mem_append_left _ (List.mem_append_left _ (List.mem_append_left _ (List.mem_of_getElem? (i := 0) rfl))))))) (fun _ h9 => h9) rfl dX2_swelledOf_6 ?_
  refine va_getN (ci := 1) (v := .ref (na 4)) (C := RX1) (T := TX1) (N := 14) hx hb hts (fun _ h => (List.mem_cons_of_mem _ (List.mem_append_left _ (List.mem_append_left _ (List.mem_append_right _ h))))) hown hK hP 1 rfl rfl 3 (by decide) (va_Nw.use rfl hN.2.2.2.2.2.2.2.2.1) (fun _ h9 => h9) rfl dX2_swelledOf_9 ?_
  refine lv_iload_n hx hb dX2_swelledOf_12 rfl (lv_at hl 1 rfl) ?_
  refine z_rVi (v := z_sw D b_) [] hx hb hml hown hts (m_X0_get l Dg cI (na 4) (na 13) 6 (z_sw D) b_ (by omega) (by decide)) gX2_swelledOf_X0_get rfl kd_X0_get ⟨Nat.le_of_ble_eq_true rfl, Nat.le_of_ble_eq_true rfl⟩ hK hN (hP.sub [5, 14] rfl) rfl rfl rfl rfl hl.1 rfl (Nat.le_of_ble_eq_true rfl) dX2_swelledOf_13 ⟨Nat.zero_le _, Nat.zero_le _⟩ ?_
  exact z_er_i rfl hx hb hr hlk dX2_swelledOf_16

set_option maxHeartbeats 4000000 in
set_option maxRecDepth 100000 in
theorem m_X2_leftOf (l : Launch) (Dg : va_G) (cI : ClassId) (h : Nat) (na ta : Nat → Nat) (G : z_GG) (D : z_DD) (G1 : z_GG) (D1 : z_DD) (b_ : Nat) (hbb : b_ < z_bc G) (hG : z_WG G) (hW : z_WD G D) : z_Mr l yX2_leftOf wsX2_leftOf 3 66 [.ref h, .int (nI b_)] Dg cI (z_cW cI h na ta G D G1 D1) (some (.int (nI (z_lf G D b_)))) := by
  have htc : z_tc G ≤ 60 := hG.2.2.2.2.2.1
  have hbc : z_bc G ≤ 6 := hG.2.2.2.2.1
  refine z_sr (own := RX2) (l0 := [(0, .ref h), (1, .int (nI b_))]) rfl rfl (by decide) (Nat.le_of_ble_eq_true rfl) rfl ?_
  intro p e s m below meth c hx hb hr hml hts hown hlk hP hK hN ls hl
  refine lv_aload_n hx hb dX2_leftOf_0 rfl (lv_at hl 0 rfl) ?_
  refine lv_iload_n hx hb dX2_leftOf_1 rfl (lv_at hl 1 rfl) ?_
  refine z_rVv [] hx hb hml hown hts (m_X2_needBatch l Dg cI h na ta G D G1 D1 b_ (by omega) (by omega)) gX2_leftOf_X2_needBatch rfl kd_X2_needBatch ⟨Nat.le_of_ble_eq_true rfl, Nat.le_of_ble_eq_true rfl⟩ hK hN hP rfl rfl rfl rfl hl.1 rfl (Nat.le_of_ble_eq_true rfl) dX2_leftOf_2 ⟨Nat.zero_le _, Nat.zero_le _⟩ ?_
  refine lv_aload_n hx hb dX2_leftOf_5 rfl (lv_at hl 0 rfl) ?_
  refine va_get (ci := 2) (v := .ref (na 0)) (C := RX2) (T := TX2) (N := 2) hx hb hts (fun _ h => (List.mem_cons_of_mem _ (List.mem_append_left _ (List.mem_append_left _ (List.mem_append_left _ (List.mem_append_right _ h)))))) hown hK hP 0 rfl rfl 0 (by decide) (hts _ (List.mem_cons_of_mem _ (List.mem_append_left _ (List.mem_append_left _ (List.mem_append_left _ (List.mem_append_left _ (List.mem_append_left _ (List.mem_of_getElem? (i := 0) rfl)))))))) (fun _ h9 => h9) rfl dX2_leftOf_6 ?_
  refine lv_aload_n hx hb dX2_leftOf_9 rfl (lv_at hl 0 rfl) ?_
  refine va_get (ci := 2) (v := .ref (na 0)) (C := RX2) (T := TX2) (N := 2) hx hb hts (fun _ h => (List.mem_cons_of_mem _ (List.mem_append_left _ (List.mem_append_left _ (List.mem_append_left _ (List.mem_append_right _ h)))))) hown hK hP 0 rfl rfl 0 (by decide) (hts _ (List.mem_cons_of_mem _ (List.mem_append_left _ (List.mem_append_left _ (List.mem_append_left _ (List.mem_append_left _ (List.mem_append_left _ (List.mem_of_getElem? (i := 0) rfl)))))))) (fun _ h9 => h9) rfl dX2_leftOf_10 ?_
  refine va_getN (ci := 1) (v := .ref (na 6)) (C := RX1) (T := TX1) (N := 14) hx hb hts (fun _ h => (List.mem_cons_of_mem _ (List.mem_append_left _ (List.mem_append_left _ (List.mem_append_right _ h))))) hown hK hP 1 rfl rfl 6 (by decide) (va_Nw.use rfl hN.2.2.2.2.2.2.2.2.2.1) (fun _ h9 => h9) rfl dX2_leftOf_13 ?_
  refine lv_iload_n hx hb dX2_leftOf_16 rfl (lv_at hl 1 rfl) ?_
  refine z_rVi (v := nI (z_lf G D b_)) [] hx hb hml hown hts (m_X1_countHeldWith_bt l Dg cI na G D b_ (by omega) hG hW) gX2_leftOf_X1_countHeldWith rfl kd_X1_countHeldWith ⟨Nat.le_of_ble_eq_true rfl, Nat.le_of_ble_eq_true rfl⟩ hK hN (z_Pm (a := [(h, .inr (2, [.ref (na 0), .ref (ta 0)]))]) (c := (z_sW cI ta G1 D1)) hP) rfl rfl rfl rfl hl.1 rfl (Nat.le_of_ble_eq_true rfl) dX2_leftOf_17 ⟨Nat.zero_le _, Nat.zero_le _⟩ ?_
  exact z_er_i rfl hx hb hr hlk dX2_leftOf_20

set_option maxHeartbeats 4000000 in
set_option maxRecDepth 100000 in
theorem m_X2_isRecalled (l : Launch) (Dg : va_G) (cI : ClassId) (h : Nat) (na ta : Nat → Nat) (G : z_GG) (D : z_DD) (G1 : z_GG) (D1 : z_DD) (b_ : Nat) (hbb : b_ < z_bc G) (hG : z_WG G) (hW : z_WD G D) : z_Mr l yX2_isRecalled wsX2_isRecalled 2 43 [.ref h, .int (nI b_)] Dg cI (z_cW cI h na ta G D G1 D1) (some (.int (z_bI (z_rc D b_)))) := by
  have htc : z_tc G ≤ 60 := hG.2.2.2.2.2.1
  have hbc : z_bc G ≤ 6 := hG.2.2.2.2.1
  refine z_sr (own := RX2) (l0 := [(0, .ref h), (1, .int (nI b_))]) rfl rfl (by decide) (Nat.le_of_ble_eq_true rfl) rfl ?_
  intro p e s m below meth c hx hb hr hml hts hown hlk hP hK hN ls hl
  refine lv_aload_n hx hb dX2_isRecalled_0 rfl (lv_at hl 0 rfl) ?_
  refine lv_iload_n hx hb dX2_isRecalled_1 rfl (lv_at hl 1 rfl) ?_
  refine z_rVv [] hx hb hml hown hts (m_X2_needBatch l Dg cI h na ta G D G1 D1 b_ (by omega) (by omega)) gX2_isRecalled_X2_needBatch rfl kd_X2_needBatch ⟨Nat.le_of_ble_eq_true rfl, Nat.le_of_ble_eq_true rfl⟩ hK hN hP rfl rfl rfl rfl hl.1 rfl (Nat.le_of_ble_eq_true rfl) dX2_isRecalled_2 ⟨Nat.zero_le _, Nat.zero_le _⟩ ?_
  refine lv_aload_n hx hb dX2_isRecalled_5 rfl (lv_at hl 0 rfl) ?_
  refine va_get (ci := 2) (v := .ref (na 0)) (C := RX2) (T := TX2) (N := 2) hx hb hts (fun _ h => (List.mem_cons_of_mem _ (List.mem_append_left _ (List.mem_append_left _ (List.mem_append_left _ (List.mem_append_right _ h)))))) hown hK hP 0 rfl rfl 0 (by decide) (hts _ (List.mem_cons_of_mem _ (List.mem_append_left _ (List.mem_append_left _ (List.mem_append_left _ (List.mem_append_left _ (List.mem_of_getElem? (i := 0) rfl))))))) (fun _ h9 => h9) rfl dX2_isRecalled_6 ?_
  refine lv_iload_n hx hb dX2_isRecalled_9 rfl (lv_at hl 1 rfl) ?_
  refine z_rVi (v := z_bI (z_rc D b_)) [] hx hb hml hown hts (m_X1_isBatchRecalled l Dg cI na G D b_ (by omega)) gX2_isRecalled_X1_isBatchRecalled rfl kd_X1_isBatchRecalled ⟨Nat.le_of_ble_eq_true rfl, Nat.le_of_ble_eq_true rfl⟩ hK hN (z_Pm (a := [(h, .inr (2, [.ref (na 0), .ref (ta 0)]))]) (c := (z_sW cI ta G1 D1)) hP) rfl rfl rfl rfl hl.1 rfl (Nat.le_of_ble_eq_true rfl) dX2_isRecalled_10 ⟨Nat.zero_le _, Nat.zero_le _⟩ ?_
  exact z_er_z rfl hx hb hr hlk dX2_isRecalled_13

set_option maxHeartbeats 4000000 in
set_option maxRecDepth 100000 in
theorem m_X2_first (l : Launch) (Dg : va_G) (cI : ClassId) (h : Nat) (na ta : Nat → Nat) (G : z_GG) (D : z_DD) (G1 : z_GG) (D1 : z_DD) (o : Nat) (ho : o < 3) (hG : z_WG G) (hW : z_WD G D) : z_Mr l yX2_first wsX2_first 3 68 [.ref h, .int (nI o)] Dg cI (z_cW cI h na ta G D G1 D1) (some (.int (z_oi (z_fb G D o (z_tc G))))) := by
  have htc : z_tc G ≤ 60 := hG.2.2.2.2.2.1
  have hbc : z_bc G ≤ 6 := hG.2.2.2.2.1
  refine z_sr (own := RX2) (l0 := [(0, .ref h), (1, .int (nI o))]) rfl rfl (by decide) (Nat.le_of_ble_eq_true rfl) rfl ?_
  intro p e s m below meth c hx hb hr hml hts hown hlk hP hK hN ls hl
  refine lv_iload_n hx hb dX2_first_0 rfl (lv_at hl 1 rfl) ?_
  refine z_rSv [] hx hb hml hown hts (m_X2_needOrder l Dg cI o (by omega)) gX2_first_X2_needOrder rfl kdS_X2_needOrder ⟨Nat.le_of_ble_eq_true rfl, Nat.le_of_ble_eq_true rfl⟩ hK hN z_P0 rfl hl.1 rfl (Nat.le_of_ble_eq_true rfl) dX2_first_1 ⟨Nat.zero_le _, Nat.zero_le _⟩ ?_
  refine lv_aload_n hx hb dX2_first_4 rfl (lv_at hl 0 rfl) ?_
  refine va_get (ci := 2) (v := .ref (na 0)) (C := RX2) (T := TX2) (N := 2) hx hb hts (fun _ h => (List.mem_cons_of_mem _ (List.mem_append_left _ (List.mem_append_left _ (List.mem_append_left _ (List.mem_append_right _ h)))))) hown hK hP 0 rfl rfl 0 (by decide) (hts _ (List.mem_cons_of_mem _ (List.mem_append_left _ (List.mem_append_left _ (List.mem_append_left _ (List.mem_append_left _ (List.mem_append_left _ (List.mem_of_getElem? (i := 0) rfl)))))))) (fun _ h9 => h9) rfl dX2_first_5 ?_
  refine lv_iload_n hx hb dX2_first_8 rfl (lv_at hl 1 rfl) ?_
  refine z_rVi (v := z_oi (z_fb G D o (z_tc G))) [] hx hb hml hown hts (m_X1_firstBy l Dg cI na G D o (by omega) hG hW) gX2_first_X1_firstBy rfl kd_X1_firstBy ⟨Nat.le_of_ble_eq_true rfl, Nat.le_of_ble_eq_true rfl⟩ hK hN (z_Pm (a := [(h, .inr (2, [.ref (na 0), .ref (ta 0)]))]) (c := (z_sW cI ta G1 D1)) hP) rfl rfl rfl rfl hl.1 rfl (Nat.le_of_ble_eq_true rfl) dX2_first_9 ⟨Nat.zero_le _, Nat.zero_le _⟩ ?_
  exact z_er_i rfl hx hb hr hlk dX2_first_12

set_option maxHeartbeats 4000000 in
set_option maxRecDepth 100000 in
theorem m_X2_placeBy (l : Launch) (Dg : va_G) (cI : ClassId) (h : Nat) (na ta : Nat → Nat) (G : z_GG) (D : z_DD) (G1 : z_GG) (D1 : z_DD) (t o : Nat) (ht : t < z_tc G) (ho : o < 3) (hG : z_WG G) (hW : z_WD G D) : z_Mr l yX2_placeBy wsX2_placeBy 3 68 [.ref h, .int (nI t), .int (nI o)] Dg cI (z_cW cI h na ta G D G1 D1) (some (.int (z_plb G D o t))) := by
  have htc : z_tc G ≤ 60 := hG.2.2.2.2.2.1
  have hbc : z_bc G ≤ 6 := hG.2.2.2.2.1
  have hpl := hW t ht
  have hbt := hG.2.2.1 t
  have hsh := hG.2.2.2.1 t
  refine z_sr (own := RX2) (l0 := [(0, .ref h), (1, .int (nI t)), (2, .int (nI o))]) rfl rfl (by decide) (Nat.le_of_ble_eq_true rfl) rfl ?_
  intro p e s m below meth c hx hb hr hml hts hown hlk hP hK hN ls hl
  refine lv_aload_n hx hb dX2_placeBy_0 rfl (lv_at hl 0 rfl) ?_
  refine lv_iload_n hx hb dX2_placeBy_1 rfl (lv_at hl 1 rfl) ?_
  refine z_rVv [] hx hb hml hown hts (m_X2_needTin l Dg cI h na ta G D G1 D1 t (by omega) (by omega)) gX2_placeBy_X2_needTin rfl kd_X2_needTin ⟨Nat.le_of_ble_eq_true rfl, Nat.le_of_ble_eq_true rfl⟩ hK hN hP rfl rfl rfl rfl hl.1 rfl (Nat.le_of_ble_eq_true rfl) dX2_placeBy_2 ⟨Nat.zero_le _, Nat.zero_le _⟩ ?_
  refine lv_iload_n hx hb dX2_placeBy_5 rfl (lv_at hl 2 rfl) ?_
  refine z_rSv [] hx hb hml hown hts (m_X2_needOrder l Dg cI o (by omega)) gX2_placeBy_X2_needOrder rfl kdS_X2_needOrder ⟨Nat.le_of_ble_eq_true rfl, Nat.le_of_ble_eq_true rfl⟩ hK hN z_P0 rfl hl.1 rfl (Nat.le_of_ble_eq_true rfl) dX2_placeBy_6 ⟨Nat.zero_le _, Nat.zero_le _⟩ ?_
  refine lv_aload_n hx hb dX2_placeBy_9 rfl (lv_at hl 0 rfl) ?_
  refine va_get (ci := 2) (v := .ref (na 0)) (C := RX2) (T := TX2) (N := 2) hx hb hts (fun _ h => (List.mem_cons_of_mem _ (List.mem_append_left _ (List.mem_append_left _ (List.mem_append_left _ (List.mem_append_left _ (List.mem_append_right _ h))))))) hown hK hP 0 rfl rfl 0 (by decide) (hts _ (List.mem_cons_of_mem _ (List.mem_append_left _ (List.mem_append_left _ (List.mem_append_left _ (List.mem_append_left _ (List.mem_append_left _ (List.mem_append_left _ (List.mem_of_getElem? (i := 0) rfl))))))))) (fun _ h9 => h9) rfl dX2_placeBy_10 ?_
  refine lv_iload_n hx hb dX2_placeBy_13 rfl (lv_at hl 1 rfl) ?_
  refine z_rVi (v := z_bI (z_pl D t == 1)) [] hx hb hml hown hts (m_X1_holds l Dg cI na G D t (by omega) hG hW) gX2_placeBy_X1_holds rfl kd_X1_holds ⟨Nat.le_of_ble_eq_true rfl, Nat.le_of_ble_eq_true rfl⟩ hK hN (z_Pm (a := [(h, .inr (2, [.ref (na 0), .ref (ta 0)]))]) (c := (z_sW cI ta G1 D1)) hP) rfl rfl rfl rfl hl.1 rfl (Nat.le_of_ble_eq_true rfl) dX2_placeBy_14 ⟨Nat.zero_le _, Nat.zero_le _⟩ ?_
  refine lv_if_eq (tgt := 32) hx hb dX2_placeBy_17 (by decide) (fun c17 => ?_) (fun c17 => ?_)
  · skip
    refine lv_iconst (v := (-1)) hx hb dX2_placeBy_32 (by decide) ?_
    exact z_er_i (by rw [z_plb, if_neg (z_bne' (z_bI0 c17))]) hx hb hr hlk dX2_placeBy_33
  · skip
    refine lv_aload_n hx hb dX2_placeBy_20 rfl (lv_at hl 0 rfl) ?_
    refine va_get (ci := 2) (v := .ref (na 0)) (C := RX2) (T := TX2) (N := 2) hx hb hts (fun _ h => (List.mem_cons_of_mem _ (List.mem_append_left _ (List.mem_append_left _ (List.mem_append_left _ (List.mem_append_left _ (List.mem_append_right _ h))))))) hown hK hP 0 rfl rfl 0 (by decide) (hts _ (List.mem_cons_of_mem _ (List.mem_append_left _ (List.mem_append_left _ (List.mem_append_left _ (List.mem_append_left _ (List.mem_append_left _ (List.mem_append_left _ (List.mem_of_getElem? (i := 0) rfl))))))))) (fun _ h9 => h9) rfl dX2_placeBy_21 ?_
    refine lv_iload_n hx hb dX2_placeBy_24 rfl (lv_at hl 1 rfl) ?_
    refine lv_iload_n hx hb dX2_placeBy_25 rfl (lv_at hl 2 rfl) ?_
    refine z_rVi (v := nI (z_ah G D o t)) [] hx hb hml hown hts (m_X1_countAheadOf l Dg cI na G D t o (by omega) (by omega) hG hW) gX2_placeBy_X1_countAheadOf rfl kd_X1_countAheadOf ⟨Nat.le_of_ble_eq_true rfl, Nat.le_of_ble_eq_true rfl⟩ hK hN (z_Pm (a := [(h, .inr (2, [.ref (na 0), .ref (ta 0)]))]) (c := (z_sW cI ta G1 D1)) hP) rfl rfl rfl rfl hl.1 rfl (Nat.le_of_ble_eq_true rfl) dX2_placeBy_26 ⟨Nat.zero_le _, Nat.zero_le _⟩ ?_
    refine lv_goto (tgt := 33) hx hb dX2_placeBy_29 (by decide) ?_
    exact z_er_i (by rw [z_plb, if_pos (z_beq' (z_bI1 c17))]) hx hb hr hlk dX2_placeBy_33

set_option maxHeartbeats 4000000 in
set_option maxRecDepth 100000 in
theorem m_X2_daysOf (l : Launch) (Dg : va_G) (cI : ClassId) (h : Nat) (na ta : Nat → Nat) (G : z_GG) (D : z_DD) (G1 : z_GG) (D1 : z_DD) (t : Nat) (ht : t < z_tc G) (hG : z_WG G) (hW : z_WD G D) : z_Mr l yX2_daysOf wsX2_daysOf 3 66 [.ref h, .int (nI t)] Dg cI (z_cW cI h na ta G D G1 D1) (some (.int (z_dof G D t))) := by
  have htc : z_tc G ≤ 60 := hG.2.2.2.2.2.1
  have hbc : z_bc G ≤ 6 := hG.2.2.2.2.1
  have hpl := hW t ht
  have hbt := hG.2.2.1 t
  have hsh := hG.2.2.2.1 t
  refine z_sr (own := RX2) (l0 := [(0, .ref h), (1, .int (nI t))]) rfl rfl (by decide) (Nat.le_of_ble_eq_true rfl) rfl ?_
  intro p e s m below meth c hx hb hr hml hts hown hlk hP hK hN ls hl
  refine lv_aload_n hx hb dX2_daysOf_0 rfl (lv_at hl 0 rfl) ?_
  refine lv_iload_n hx hb dX2_daysOf_1 rfl (lv_at hl 1 rfl) ?_
  refine z_rVv [] hx hb hml hown hts (m_X2_needTin l Dg cI h na ta G D G1 D1 t (by omega) (by omega)) gX2_daysOf_X2_needTin rfl kd_X2_needTin ⟨Nat.le_of_ble_eq_true rfl, Nat.le_of_ble_eq_true rfl⟩ hK hN hP rfl rfl rfl rfl hl.1 rfl (Nat.le_of_ble_eq_true rfl) dX2_daysOf_2 ⟨Nat.zero_le _, Nat.zero_le _⟩ ?_
  refine lv_aload_n hx hb dX2_daysOf_5 rfl (lv_at hl 0 rfl) ?_
  refine va_get (ci := 2) (v := .ref (na 0)) (C := RX2) (T := TX2) (N := 2) hx hb hts (fun _ h => (List.mem_cons_of_mem _ (List.mem_append_left _ (List.mem_append_left _ (List.mem_append_left _ (List.mem_append_right _ h)))))) hown hK hP 0 rfl rfl 0 (by decide) (hts _ (List.mem_cons_of_mem _ (List.mem_append_left _ (List.mem_append_left _ (List.mem_append_left _ (List.mem_append_left _ (List.mem_append_left _ (List.mem_of_getElem? (i := 0) rfl)))))))) (fun _ h9 => h9) rfl dX2_daysOf_6 ?_
  refine lv_iload_n hx hb dX2_daysOf_9 rfl (lv_at hl 1 rfl) ?_
  refine z_rVi (v := z_bI (z_pl D t == 1)) [] hx hb hml hown hts (m_X1_holds l Dg cI na G D t (by omega) hG hW) gX2_daysOf_X1_holds rfl kd_X1_holds ⟨Nat.le_of_ble_eq_true rfl, Nat.le_of_ble_eq_true rfl⟩ hK hN (z_Pm (a := [(h, .inr (2, [.ref (na 0), .ref (ta 0)]))]) (c := (z_sW cI ta G1 D1)) hP) rfl rfl rfl rfl hl.1 rfl (Nat.le_of_ble_eq_true rfl) dX2_daysOf_10 ⟨Nat.zero_le _, Nat.zero_le _⟩ ?_
  refine lv_if_eq (tgt := 38) hx hb dX2_daysOf_13 (by decide) (fun c13 => ?_) (fun c13 => ?_)
  · skip
    refine lv_iconst (v := (-1)) hx hb dX2_daysOf_38 (by decide) ?_
    exact z_er_i (by rw [z_dof, if_neg (z_bne' (z_bI0 c13))]) hx hb hr hlk dX2_daysOf_39
  · skip
    refine lv_aload_n hx hb dX2_daysOf_16 rfl (lv_at hl 0 rfl) ?_
    refine va_get (ci := 2) (v := .ref (na 0)) (C := RX2) (T := TX2) (N := 2) hx hb hts (fun _ h => (List.mem_cons_of_mem _ (List.mem_append_left _ (List.mem_append_left _ (List.mem_append_left _ (List.mem_append_right _ h)))))) hown hK hP 0 rfl rfl 0 (by decide) (hts _ (List.mem_cons_of_mem _ (List.mem_append_left _ (List.mem_append_left _ (List.mem_append_left _ (List.mem_append_left _ (List.mem_append_left _ (List.mem_of_getElem? (i := 0) rfl)))))))) (fun _ h9 => h9) rfl dX2_daysOf_17 ?_
    refine lv_iload_n hx hb dX2_daysOf_20 rfl (lv_at hl 1 rfl) ?_
    refine lv_aload_n hx hb dX2_daysOf_21 rfl (lv_at hl 0 rfl) ?_
    refine va_get (ci := 2) (v := .ref (na 0)) (C := RX2) (T := TX2) (N := 2) hx hb hts (fun _ h => (List.mem_cons_of_mem _ (List.mem_append_left _ (List.mem_append_left _ (List.mem_append_left _ (List.mem_append_right _ h)))))) hown hK hP 0 rfl rfl 0 (by decide) (hts _ (List.mem_cons_of_mem _ (List.mem_append_left _ (List.mem_append_left _ (List.mem_append_left _ (List.mem_append_left _ (List.mem_append_left _ (List.mem_of_getElem? (i := 0) rfl)))))))) (fun _ h9 => h9) rfl dX2_daysOf_22 ?_
    refine va_getN (ci := 1) (v := .ref (na 7)) (C := RX1) (T := TX1) (N := 14) hx hb hts (fun _ h => (List.mem_cons_of_mem _ (List.mem_append_left _ (List.mem_append_left _ (List.mem_append_right _ h))))) hown hK hP 1 rfl rfl 7 (by decide) (va_Nw.use rfl hN.2.2.2.1) (fun _ h9 => h9) rfl dX2_daysOf_25 ?_
    refine lv_iload_n hx hb dX2_daysOf_28 rfl (lv_at hl 1 rfl) ?_
    refine z_rVi (v := nI (z_sh G t)) [.int (nI t), .ref (na 0)] hx hb hml hown hts (m_X0_get l Dg cI (na 7) (na 16) 60 (fun j9 => nI (z_sh G j9)) t (by omega) (by decide)) gX2_daysOf_X0_get rfl kd_X0_get ⟨Nat.le_of_ble_eq_true rfl, Nat.le_of_ble_eq_true rfl⟩ hK hN (hP.sub [8, 17] rfl) rfl rfl rfl rfl hl.1 rfl (Nat.le_of_ble_eq_true rfl) dX2_daysOf_29 ⟨Nat.zero_le _, Nat.zero_le _⟩ ?_
    refine z_rVi (v := z_un G D t (z_sh G t)) [] hx hb hml hown hts (m_X1_daysToSwell l Dg cI na G D t (z_sh G t) (by omega) (by omega) hG) gX2_daysOf_X1_daysToSwell rfl kd_X1_daysToSwell ⟨Nat.le_of_ble_eq_true rfl, Nat.le_of_ble_eq_true rfl⟩ hK hN (z_Pm (a := [(h, .inr (2, [.ref (na 0), .ref (ta 0)]))]) (c := (z_sW cI ta G1 D1)) hP) rfl rfl rfl rfl hl.1 rfl (Nat.le_of_ble_eq_true rfl) dX2_daysOf_32 ⟨Nat.zero_le _, Nat.zero_le _⟩ ?_
    refine lv_goto (tgt := 39) hx hb dX2_daysOf_35 (by decide) ?_
    exact z_er_i (by rw [z_dof, if_pos (z_beq' (z_bI1 c13))]) hx hb hr hlk dX2_daysOf_39

set_option maxHeartbeats 4000000 in
set_option maxRecDepth 100000 in
theorem m_X2_bestShelf (l : Launch) (Dg : va_G) (cI : ClassId) (h : Nat) (na ta : Nat → Nat) (G : z_GG) (D : z_DD) (G1 : z_GG) (D1 : z_DD) (t : Nat) (ht : t < z_tc G) (hG : z_WG G) (hW : z_WD G D) : z_Mr l yX2_bestShelf wsX2_bestShelf 3 66 [.ref h, .int (nI t)] Dg cI (z_cW cI h na ta G D G1 D1) (some (.int (z_bsh G D t))) := by
  have htc : z_tc G ≤ 60 := hG.2.2.2.2.2.1
  have hbc : z_bc G ≤ 6 := hG.2.2.2.2.1
  have hpl := hW t ht
  have hbt := hG.2.2.1 t
  have hsh := hG.2.2.2.1 t
  refine z_sr (own := RX2) (l0 := [(0, .ref h), (1, .int (nI t))]) rfl rfl (by decide) (Nat.le_of_ble_eq_true rfl) rfl ?_
  intro p e s m below meth c hx hb hr hml hts hown hlk hP hK hN ls hl
  refine lv_aload_n hx hb dX2_bestShelf_0 rfl (lv_at hl 0 rfl) ?_
  refine lv_iload_n hx hb dX2_bestShelf_1 rfl (lv_at hl 1 rfl) ?_
  refine z_rVv [] hx hb hml hown hts (m_X2_needTin l Dg cI h na ta G D G1 D1 t (by omega) (by omega)) gX2_bestShelf_X2_needTin rfl kd_X2_needTin ⟨Nat.le_of_ble_eq_true rfl, Nat.le_of_ble_eq_true rfl⟩ hK hN hP rfl rfl rfl rfl hl.1 rfl (Nat.le_of_ble_eq_true rfl) dX2_bestShelf_2 ⟨Nat.zero_le _, Nat.zero_le _⟩ ?_
  refine lv_aload_n hx hb dX2_bestShelf_5 rfl (lv_at hl 0 rfl) ?_
  refine va_get (ci := 2) (v := .ref (na 0)) (C := RX2) (T := TX2) (N := 2) hx hb hts (fun _ h => (List.mem_cons_of_mem _ (List.mem_append_left _ (List.mem_append_left _ (List.mem_append_left _ (List.mem_append_right _ h)))))) hown hK hP 0 rfl rfl 0 (by decide) (hts _ (List.mem_cons_of_mem _ (List.mem_append_left _ (List.mem_append_left _ (List.mem_append_left _ (List.mem_append_left _ (List.mem_append_left _ (List.mem_of_getElem? (i := 0) rfl)))))))) (fun _ h9 => h9) rfl dX2_bestShelf_6 ?_
  refine lv_iload_n hx hb dX2_bestShelf_9 rfl (lv_at hl 1 rfl) ?_
  refine z_rVi (v := z_bI (z_pl D t == 1)) [] hx hb hml hown hts (m_X1_holds l Dg cI na G D t (by omega) hG hW) gX2_bestShelf_X1_holds rfl kd_X1_holds ⟨Nat.le_of_ble_eq_true rfl, Nat.le_of_ble_eq_true rfl⟩ hK hN (z_Pm (a := [(h, .inr (2, [.ref (na 0), .ref (ta 0)]))]) (c := (z_sW cI ta G1 D1)) hP) rfl rfl rfl rfl hl.1 rfl (Nat.le_of_ble_eq_true rfl) dX2_bestShelf_10 ⟨Nat.zero_le _, Nat.zero_le _⟩ ?_
  refine lv_if_ne (tgt := 18) hx hb dX2_bestShelf_13 (by decide) (fun c13 => ?_) (fun c13 => ?_)
  · skip
    refine lv_iconst (v := nI 0) hx hb dX2_bestShelf_18 (by decide) ?_
    refine lv_istore_n (lv' := [(2, .int (nI 0)), (0, .ref h), (1, .int (nI t))]) hx hb dX2_bestShelf_19 rfl hl (by decide) rfl (fun ls hl => ?_)
    refine lv_iconst (v := nI 1) hx hb dX2_bestShelf_20 (by decide) ?_
    refine lv_istore_n (lv' := [(3, .int (nI 1)), (2, .int (nI 0)), (0, .ref h), (1, .int (nI t))]) hx hb dX2_bestShelf_21 rfl hl (by decide) rfl (fun ls hl => ?_)
    have lp22 : ∀ (zz i : Nat) , i ≤ 3 → 3 + 1 ≤ i + zz → ∀ ls : Array Slot, lv_has ls 4 [(0, .ref h), (1, .int (nI t)), (2, .int (nI (z_bsn G D t i))), (3, .int (nI (i + 1)))] → W p l e ({ frames := 3, cells := 0, slots := 0, locals := 66 } : Room) s m ([.ref h, .int (nI t)] : List Value).toArray below meth c s.heap [] 0 0 (MQ below (z_Qr (some (.int (z_bsh G D t)))) ([.ref h, .int (nI t)] : List Value).toArray s 0 0 z_no) (F0 m 22 ls []) := by
      intro zz
      induction zz with
      | zero => intros; exfalso; omega
      | succ zz ih22 =>
        intro i hi hzz ls hl
        refine lv_iload_n hx hb dX2_bestShelf_22 rfl (lv_at hl 3 rfl) ?_
        refine lv_iconst (v := nI 4) hx hb dX2_bestShelf_23 (by decide) ?_
        refine lv_icmp_ge (tgt := 59) hx hb dX2_bestShelf_24 (by decide) (fun c24 => ?_) (fun c24 => ?_)
        · skip
          have hi2 : i = 3 := by have := z_le (by omega) (by omega) c24; omega
          refine lv_iload_n hx hb dX2_bestShelf_59 rfl (lv_at hl 2 rfl) ?_
          exact z_er_i (by rw [hi2, z_bsh, if_pos (z_beq' (z_bI1 c13))]) hx hb hr hlk dX2_bestShelf_60
        · skip
          have hi2 : i < 3 := by have := z_nle (by omega) c24; omega
          have hbl := z_bsn_le G D t i
          refine lv_aload_n hx hb dX2_bestShelf_27 rfl (lv_at hl 0 rfl) ?_
          refine va_get (ci := 2) (v := .ref (na 0)) (C := RX2) (T := TX2) (N := 2) hx hb hts (fun _ h => (List.mem_cons_of_mem _ (List.mem_append_left _ (List.mem_append_left _ (List.mem_append_left _ (List.mem_append_right _ h)))))) hown hK hP 0 rfl rfl 0 (by decide) (hts _ (List.mem_cons_of_mem _ (List.mem_append_left _ (List.mem_append_left _ (List.mem_append_left _ (List.mem_append_left _ (List.mem_append_left _ (List.mem_of_getElem? (i := 0) rfl)))))))) (fun _ h9 => h9) rfl dX2_bestShelf_28 ?_
          refine lv_iload_n hx hb dX2_bestShelf_31 rfl (lv_at hl 1 rfl) ?_
          refine lv_iload_n hx hb dX2_bestShelf_32 rfl (lv_at hl 3 rfl) ?_
          refine z_rVi (v := z_un G D t (i + 1)) [] hx hb hml hown hts (m_X1_daysToSwell l Dg cI na G D t (i + 1) (by omega) (by omega) hG) gX2_bestShelf_X1_daysToSwell rfl kd_X1_daysToSwell ⟨Nat.le_of_ble_eq_true rfl, Nat.le_of_ble_eq_true rfl⟩ hK hN (z_Pm (a := [(h, .inr (2, [.ref (na 0), .ref (ta 0)]))]) (c := (z_sW cI ta G1 D1)) hP) rfl rfl rfl rfl hl.1 rfl (Nat.le_of_ble_eq_true rfl) dX2_bestShelf_33 ⟨Nat.zero_le _, Nat.zero_le _⟩ ?_
          refine lv_aload_n hx hb dX2_bestShelf_36 rfl (lv_at hl 0 rfl) ?_
          refine va_get (ci := 2) (v := .ref (na 0)) (C := RX2) (T := TX2) (N := 2) hx hb hts (fun _ h => (List.mem_cons_of_mem _ (List.mem_append_left _ (List.mem_append_left _ (List.mem_append_left _ (List.mem_append_right _ h)))))) hown hK hP 0 rfl rfl 0 (by decide) (hts _ (List.mem_cons_of_mem _ (List.mem_append_left _ (List.mem_append_left _ (List.mem_append_left _ (List.mem_append_left _ (List.mem_append_left _ (List.mem_of_getElem? (i := 0) rfl)))))))) (fun _ h9 => h9) rfl dX2_bestShelf_37 ?_
          refine lv_iload_n hx hb dX2_bestShelf_40 rfl (lv_at hl 1 rfl) ?_
          refine lv_iload_n hx hb dX2_bestShelf_41 rfl (lv_at hl 2 rfl) ?_
          refine z_rVi (v := z_un G D t (z_bsn G D t i)) [.int (z_un G D t (i + 1))] hx hb hml hown hts (m_X1_daysToSwell l Dg cI na G D t (z_bsn G D t i) (by omega) (by omega) hG) gX2_bestShelf_X1_daysToSwell rfl kd_X1_daysToSwell ⟨Nat.le_of_ble_eq_true rfl, Nat.le_of_ble_eq_true rfl⟩ hK hN (z_Pm (a := [(h, .inr (2, [.ref (na 0), .ref (ta 0)]))]) (c := (z_sW cI ta G1 D1)) hP) rfl rfl rfl rfl hl.1 rfl (Nat.le_of_ble_eq_true rfl) dX2_bestShelf_42 ⟨Nat.zero_le _, Nat.zero_le _⟩ ?_
          refine z_rSi (v := z_bI (z_il (z_un G D t (i + 1)) (z_un G D t (z_bsn G D t i)))) [] hx hb hml hown hts (m_X2_isLater l Dg cI (z_un G D t (i + 1)) (z_un G D t (z_bsn G D t i))) gX2_bestShelf_X2_isLater rfl kdS_X2_isLater ⟨Nat.le_of_ble_eq_true rfl, Nat.le_of_ble_eq_true rfl⟩ hK hN z_P0 rfl hl.1 rfl (Nat.le_of_ble_eq_true rfl) dX2_bestShelf_45 ⟨Nat.zero_le _, Nat.zero_le _⟩ ?_
          refine lv_if_eq (tgt := 53) hx hb dX2_bestShelf_48 (by decide) (fun c48 => ?_) (fun c48 => ?_)
          · skip
            have e1 : z_bsn G D t (i + 1) = z_bsn G D t i := by rw [z_bsn, if_neg (by rw [z_bI0 c48]; decide)]
            have hl : lv_has ls 4 [(0, .ref h), (1, .int (nI t)), (2, .int (nI (z_bsn G D t (i + 1)))), (3, .int (nI (i + 1)))] := by have q : nI (z_bsn G D t i) = nI (z_bsn G D t (i + 1)) := (by rw [e1]); rw [← q]; exact hl
            refine lv_iinc (v := nI (i + 1 + 1)) (lv' := [(3, .int (nI (i + 1 + 1))), (0, .ref h), (1, .int (nI t)), (2, .int (nI (z_bsn G D t (i + 1))))]) hx hb dX2_bestShelf_53 hl (k := 3) rfl (nI_1 _) (by decide) rfl (fun ls hl => ?_)
            refine lv_goto (tgt := 22) hx hb dX2_bestShelf_56 (by decide) ?_
            exact ih22 (i + 1) (by omega) (by omega) _ (lv_sub hl [1, 2, 3, 0] rfl)
          · skip
            refine lv_iload_n hx hb dX2_bestShelf_51 rfl (lv_at hl 3 rfl) ?_
            refine lv_istore_n (lv' := [(2, .int (nI (i + 1))), (0, .ref h), (1, .int (nI t)), (3, .int (nI (i + 1)))]) hx hb dX2_bestShelf_52 rfl hl (by decide) rfl (fun ls hl => ?_)
            have e1 : z_bsn G D t (i + 1) = i + 1 := by rw [z_bsn, if_pos (z_bI1 c48)]
            have hl : lv_has ls 4 [(2, .int (nI (z_bsn G D t (i + 1)))), (0, .ref h), (1, .int (nI t)), (3, .int (nI (i + 1)))] := by have q : nI (i + 1) = nI (z_bsn G D t (i + 1)) := (by rw [e1]); rw [← q]; exact hl
            refine lv_iinc (v := nI (i + 1 + 1)) (lv' := [(3, .int (nI (i + 1 + 1))), (2, .int (nI (z_bsn G D t (i + 1)))), (0, .ref h), (1, .int (nI t))]) hx hb dX2_bestShelf_53 hl (k := 3) rfl (nI_1 _) (by decide) rfl (fun ls hl => ?_)
            refine lv_goto (tgt := 22) hx hb dX2_bestShelf_56 (by decide) ?_
            exact ih22 (i + 1) (by omega) (by omega) _ (lv_sub hl [2, 3, 1, 0] rfl)
    exact lp22 (3 + 1) 0 (by omega) (by omega) _ (lv_sub hl [2, 3, 1, 0] rfl)
  · skip
    refine lv_iconst (v := (-1)) hx hb dX2_bestShelf_16 (by decide) ?_
    exact z_er_i (by rw [z_bsh, if_neg (z_bne' (z_bI0 c13))]) hx hb hr hlk dX2_bestShelf_17

set_option maxHeartbeats 4000000 in
set_option maxRecDepth 100000 in
theorem m_X2_lossBy (l : Launch) (Dg : va_G) (cI : ClassId) (h : Nat) (na ta : Nat → Nat) (G : z_GG) (D : z_DD) (G1 : z_GG) (D1 : z_DD) (m_ o : Nat) (hm9 : m_ < 10) (ho : o < 3) (hG : z_WG G) (hW : z_WD G D) : z_Mc l yX2_lossBy wsX2_lossBy 4 89 [.ref h, .int (nI m_), .int (nI o)] Dg cI h na ta G D G1 D1 (some (.int (z_ls G D m_ o))) G D := by
  have htc : z_tc G ≤ 60 := hG.2.2.2.2.2.1
  have hbc : z_bc G ≤ 6 := hG.2.2.2.2.1
  have hG2 := z_WG_ship hG (m := m_) (o := o) (by omega) (by omega)
  have hW2 : z_WD (z_ship G m_ o) D := hW
  refine z_sw' (own := RX2) (l0 := [(0, .ref h), (1, .int (nI m_)), (2, .int (nI o))]) rfl rfl (by decide) (Nat.le_of_ble_eq_true rfl) rfl ?_
  intro p e s m below meth c hx hb hr hml hts hown hlk hP hK hN hD hS ls hl
  refine lv_aload_n hx hb dX2_lossBy_0 rfl (lv_at hl 0 rfl) ?_
  refine va_get (ci := 2) (v := .ref (ta 0)) (C := RX2) (T := TX2) (N := 2) hx hb hts (fun _ h => (List.mem_cons_of_mem _ (List.mem_append_left _ (List.mem_append_left _ (List.mem_append_right _ h))))) hown hK hP 0 rfl rfl 1 (by decide) (hts _ (List.mem_cons_of_mem _ (List.mem_append_left _ (List.mem_append_left _ (List.mem_append_left _ (List.mem_append_left _ (List.mem_of_getElem? (i := 0) rfl))))))) (fun _ h9 => h9) rfl dX2_lossBy_1 ?_
  refine lv_aload_n hx hb dX2_lossBy_4 rfl (lv_at hl 0 rfl) ?_
  refine va_get (ci := 2) (v := .ref (na 0)) (C := RX2) (T := TX2) (N := 2) hx hb hts (fun _ h => (List.mem_cons_of_mem _ (List.mem_append_left _ (List.mem_append_left _ (List.mem_append_right _ h))))) hown hK hP 0 rfl rfl 0 (by decide) (hts _ (List.mem_cons_of_mem _ (List.mem_append_left _ (List.mem_append_left _ (List.mem_append_left _ (List.mem_append_left _ (List.mem_of_getElem? (i := 1) rfl))))))) (fun _ h9 => h9) rfl dX2_lossBy_5 ?_
  refine z_wBv [] [(h, .inr (2, [.ref (na 0), .ref (ta 0)]))] [] 19 hx hb hml hown hts (m_X1_copyFrom l Dg cI ta na G1 D1 G D) gX2_lossBy_X1_copyFrom rfl kd_X1_copyFrom ⟨Nat.le_of_ble_eq_true rfl, Nat.le_of_ble_eq_true rfl⟩ hK hN hP hD hS rfl rfl rfl rfl rfl hl.1 rfl (Nat.le_of_ble_eq_true rfl) dX2_lossBy_8 ⟨Nat.zero_le _, Nat.zero_le _⟩ (fun H locs hP hD hS => ?_)
  have hP : va_P Dg vwCl (z_cW cI h na ta G D G D) H := hP
  have hD : va_D _ (z_cW cI h na ta G D G D) := hD
  refine lv_aload_n hx hb dX2_lossBy_11 rfl (lv_at hl 0 rfl) ?_
  refine va_get (ci := 2) (v := .ref (ta 0)) (C := RX2) (T := TX2) (N := 2) hx hb hts (fun _ h => (List.mem_cons_of_mem _ (List.mem_append_left _ (List.mem_append_left _ (List.mem_append_right _ h))))) hown hK hP 0 rfl rfl 1 (by decide) (hts _ (List.mem_cons_of_mem _ (List.mem_append_left _ (List.mem_append_left _ (List.mem_append_left _ (List.mem_append_left _ (List.mem_of_getElem? (i := 0) rfl))))))) (fun _ h9 => h9) rfl dX2_lossBy_12 ?_
  refine lv_iload_n hx hb dX2_lossBy_15 rfl (lv_at hl 1 rfl) ?_
  refine va_putN (ci := 1) (v := .int (nI m_)) (ty := .int) (C := RX1) (T := TX1) (N := 14) hx hb hts (fun _ h => (List.mem_cons_of_mem _ (List.mem_append_left _ (List.mem_append_right _ h)))) tyX1 tyX1_ok nmX1 hown hK hP hD hS 20 rfl rfl 11 (by decide) (va_Nw.use rfl hN.2.2.2.2.2.1) (fun _ h9 => h9) rfl (by decide +kernel) rfl rfl (Nat.le_of_ble_eq_true rfl) dX2_lossBy_16 (fun H locs hP hD hS => ?_)
  have hP : va_P Dg vwCl ((h, .inr (2, [.ref (na 0), .ref (ta 0)])) :: ((z_sW cI na G D) ++ (z_sX cI ta (z_wm G) (z_v0 G) (z_lk G) (z_sw D) (fun j9 => z_bI (z_rc D j9)) (fun j9 => nI (z_bt G j9)) (fun j9 => nI (z_sh G j9)) (z_vc D) (fun j9 => nI (z_pl D j9)) (nI (z_bc G)) (nI (z_tc G)) (nI m_) (nI (z_od G)) (z_dy D)))) H := hP
  have hD : va_D _ ((h, .inr (2, [.ref (na 0), .ref (ta 0)])) :: ((z_sW cI na G D) ++ (z_sX cI ta (z_wm G) (z_v0 G) (z_lk G) (z_sw D) (fun j9 => z_bI (z_rc D j9)) (fun j9 => nI (z_bt G j9)) (fun j9 => nI (z_sh G j9)) (z_vc D) (fun j9 => nI (z_pl D j9)) (nI (z_bc G)) (nI (z_tc G)) (nI m_) (nI (z_od G)) (z_dy D)))) := hD
  refine lv_aload_n hx hb dX2_lossBy_19 rfl (lv_at hl 0 rfl) ?_
  refine va_get (ci := 2) (v := .ref (ta 0)) (C := RX2) (T := TX2) (N := 2) hx hb hts (fun _ h => (List.mem_cons_of_mem _ (List.mem_append_left _ (List.mem_append_left _ (List.mem_append_right _ h))))) hown hK hP 0 rfl rfl 1 (by decide) (hts _ (List.mem_cons_of_mem _ (List.mem_append_left _ (List.mem_append_left _ (List.mem_append_left _ (List.mem_append_left _ (List.mem_of_getElem? (i := 0) rfl))))))) (fun _ h9 => h9) rfl dX2_lossBy_20 ?_
  refine lv_iload_n hx hb dX2_lossBy_23 rfl (lv_at hl 2 rfl) ?_
  refine va_putN (ci := 1) (v := .int (nI o)) (ty := .int) (C := RX1) (T := TX1) (N := 14) hx hb hts (fun _ h => (List.mem_cons_of_mem _ (List.mem_append_left _ (List.mem_append_right _ h)))) tyX1 tyX1_ok nmX1 hown hK hP hD hS 20 rfl rfl 12 (by decide) (va_Nw.use rfl hN.2.2.2.2.2.2.1) (fun _ h9 => h9) rfl (by decide +kernel) rfl rfl (Nat.le_of_ble_eq_true rfl) dX2_lossBy_24 (fun H locs hP hD hS => ?_)
  have hP : va_P Dg vwCl ((h, .inr (2, [.ref (na 0), .ref (ta 0)])) :: ((z_sW cI na G D) ++ (z_sX cI ta (z_wm G) (z_v0 G) (z_lk G) (z_sw D) (fun j9 => z_bI (z_rc D j9)) (fun j9 => nI (z_bt G j9)) (fun j9 => nI (z_sh G j9)) (z_vc D) (fun j9 => nI (z_pl D j9)) (nI (z_bc G)) (nI (z_tc G)) (nI m_) (nI o) (z_dy D)))) H := hP
  have hD : va_D _ ((h, .inr (2, [.ref (na 0), .ref (ta 0)])) :: ((z_sW cI na G D) ++ (z_sX cI ta (z_wm G) (z_v0 G) (z_lk G) (z_sw D) (fun j9 => z_bI (z_rc D j9)) (fun j9 => nI (z_bt G j9)) (fun j9 => nI (z_sh G j9)) (z_vc D) (fun j9 => nI (z_pl D j9)) (nI (z_bc G)) (nI (z_tc G)) (nI m_) (nI o) (z_dy D)))) := hD
  have hP : va_P Dg vwCl (z_cW cI h na ta G D (z_ship G m_ o) D) H := hP
  have hD : va_D _ (z_cW cI h na ta G D (z_ship G m_ o) D) := hD
  refine lv_iconst (v := nI 0) hx hb dX2_lossBy_27 (by decide) ?_
  refine lv_istore_n (lv' := [(3, .int (nI 0)), (0, .ref h), (1, .int (nI m_)), (2, .int (nI o))]) hx hb dX2_lossBy_28 rfl hl (by decide) rfl (fun ls hl => ?_)
  have lp29 : ∀ (zz i : Nat) , i ≤ 30 → 30 + 1 ≤ i + zz → ∀ (H : Heap) (locs : List Loc), va_P Dg vwCl (z_cW cI h na ta G D (z_ship G m_ o) (z_days (z_ship G m_ o) D i)) H → va_D (z_in (z_cW cI h na ta G D G1 D1)) (z_cW cI h na ta G D (z_ship G m_ o) (z_days (z_ship G m_ o) D i)) → va_S (z_in (z_cW cI h na ta G D G1 D1)) s.heap H locs → ∀ ls : Array Slot, lv_has ls 4 [(0, .ref h), (1, .int (nI m_)), (2, .int (nI o)), (3, .int (nI i))] → W p l e ({ frames := 4, cells := 0, slots := 0, locals := 89 } : Room) s m ([.ref h, .int (nI m_), .int (nI o)] : List Value).toArray below meth c H locs 0 0 (MQ below (z_Qc (some (.int (z_ls G D m_ o))) Dg cI h na ta G D (z_cW cI h na ta G D G1 D1)) ([.ref h, .int (nI m_), .int (nI o)] : List Value).toArray s 0 0 (z_in (z_cW cI h na ta G D G1 D1))) (F0 m 29 ls []) := by
    intro zz
    induction zz with
    | zero => intros; exfalso; omega
    | succ zz ih29 =>
      intro i hi hzz H locs hP hD hS ls hl
      refine lv_iload_n hx hb dX2_lossBy_29 rfl (lv_at hl 3 rfl) ?_
      refine lv_bipush (v := nI 30) hx hb dX2_lossBy_30 (by decide) ?_
      refine lv_icmp_ge (tgt := 48) hx hb dX2_lossBy_32 (by decide) (fun c32 => ?_) (fun c32 => ?_)
      · skip
        have hi2 : i = 30 := by have := z_le (by omega) (by omega) c32; omega
        have hWi := z_WD_days hW2 i
        refine lv_aload_n hx hb dX2_lossBy_48 rfl (lv_at hl 0 rfl) ?_
        refine va_get (ci := 2) (v := .ref (ta 0)) (C := RX2) (T := TX2) (N := 2) hx hb hts (fun _ h => (List.mem_cons_of_mem _ (List.mem_append_left _ (List.mem_append_left _ (List.mem_append_right _ h))))) hown hK hP 0 rfl rfl 1 (by decide) (hts _ (List.mem_cons_of_mem _ (List.mem_append_left _ (List.mem_append_left _ (List.mem_append_left _ (List.mem_append_left _ (List.mem_of_getElem? (i := 0) rfl))))))) (fun _ h9 => h9) rfl dX2_lossBy_49 ?_
        refine lv_iconst (v := nI 3) hx hb dX2_lossBy_52 (by decide) ?_
        refine z_rVi (v := nI (z_cn (z_ship G m_ o) (z_days (z_ship G m_ o) D i) 3)) [] hx hb hml hown hts (m_X1_countAt l Dg cI ta (z_ship G m_ o) (z_days (z_ship G m_ o) D i) 3 (by decide) hG2 hWi) gX2_lossBy_X1_countAt rfl kd_X1_countAt ⟨Nat.le_of_ble_eq_true rfl, Nat.le_of_ble_eq_true rfl⟩ hK hN (z_Pm (a := ((h, .inr (2, [.ref (na 0), .ref (ta 0)])) :: (z_sW cI na G D))) (c := []) hP) rfl rfl rfl rfl hl.1 rfl (Nat.le_of_ble_eq_true rfl) dX2_lossBy_53 ⟨Nat.zero_le _, Nat.zero_le _⟩ ?_
        refine lv_aload_n hx hb dX2_lossBy_56 rfl (lv_at hl 0 rfl) ?_
        refine va_get (ci := 2) (v := .ref (na 0)) (C := RX2) (T := TX2) (N := 2) hx hb hts (fun _ h => (List.mem_cons_of_mem _ (List.mem_append_left _ (List.mem_append_left _ (List.mem_append_right _ h))))) hown hK hP 0 rfl rfl 0 (by decide) (hts _ (List.mem_cons_of_mem _ (List.mem_append_left _ (List.mem_append_left _ (List.mem_append_left _ (List.mem_append_left _ (List.mem_of_getElem? (i := 1) rfl))))))) (fun _ h9 => h9) rfl dX2_lossBy_57 ?_
        refine lv_iconst (v := nI 3) hx hb dX2_lossBy_60 (by decide) ?_
        refine z_rVi (v := nI (z_cn G D 3)) [.int (nI (z_cn (z_ship G m_ o) (z_days (z_ship G m_ o) D i) 3))] hx hb hml hown hts (m_X1_countAt l Dg cI na G D 3 (by decide) hG hW) gX2_lossBy_X1_countAt rfl kd_X1_countAt ⟨Nat.le_of_ble_eq_true rfl, Nat.le_of_ble_eq_true rfl⟩ hK hN (z_Pm (a := [(h, .inr (2, [.ref (na 0), .ref (ta 0)]))]) (c := (z_sW cI ta (z_ship G m_ o) (z_days (z_ship G m_ o) D i))) hP) rfl rfl rfl rfl hl.1 rfl (Nat.le_of_ble_eq_true rfl) dX2_lossBy_61 ⟨Nat.zero_le _, Nat.zero_le _⟩ ?_
        refine lv_isub hx hb dX2_lossBy_64 ?_
        exact z_ec_i (by rw [hi2]; rfl) hP hS hx hb hr hlk dX2_lossBy_65
      · skip
        have hi2 : i < 30 := by have := z_nle (by omega) c32; omega
        have hWi := z_WD_days hW2 i
        refine lv_aload_n hx hb dX2_lossBy_35 rfl (lv_at hl 0 rfl) ?_
        refine va_get (ci := 2) (v := .ref (ta 0)) (C := RX2) (T := TX2) (N := 2) hx hb hts (fun _ h => (List.mem_cons_of_mem _ (List.mem_append_left _ (List.mem_append_left _ (List.mem_append_right _ h))))) hown hK hP 0 rfl rfl 1 (by decide) (hts _ (List.mem_cons_of_mem _ (List.mem_append_left _ (List.mem_append_left _ (List.mem_append_left _ (List.mem_append_left _ (List.mem_of_getElem? (i := 0) rfl))))))) (fun _ h9 => h9) rfl dX2_lossBy_36 ?_
        refine z_wBv [] ((h, .inr (2, [.ref (na 0), .ref (ta 0)])) :: (z_sW cI na G D)) [] 0 hx hb hml hown hts (m_X1_passDay l Dg cI ta (z_ship G m_ o) (z_days (z_ship G m_ o) D i) hG2 hWi) gX2_lossBy_X1_passDay rfl kd_X1_passDay ⟨Nat.le_of_ble_eq_true rfl, Nat.le_of_ble_eq_true rfl⟩ hK hN hP hD hS rfl rfl rfl rfl rfl hl.1 rfl (Nat.le_of_ble_eq_true rfl) dX2_lossBy_39 ⟨Nat.zero_le _, Nat.zero_le _⟩ (fun H locs hP hD hS => ?_)
        have hP : va_P Dg vwCl (z_cW cI h na ta G D (z_ship G m_ o) (z_day (z_ship G m_ o) (z_days (z_ship G m_ o) D i))) H := hP
        have hD : va_D _ (z_cW cI h na ta G D (z_ship G m_ o) (z_day (z_ship G m_ o) (z_days (z_ship G m_ o) D i))) := hD
        have hP : va_P Dg vwCl (z_cW cI h na ta G D (z_ship G m_ o) (z_days (z_ship G m_ o) D (i + 1))) H := hP
        have hD : va_D _ (z_cW cI h na ta G D (z_ship G m_ o) (z_days (z_ship G m_ o) D (i + 1))) := hD
        refine lv_iinc (v := nI (i + 1)) (lv' := [(3, .int (nI (i + 1))), (0, .ref h), (1, .int (nI m_)), (2, .int (nI o))]) hx hb dX2_lossBy_42 hl (k := 3) rfl (nI_1 _) (by decide) rfl (fun ls hl => ?_)
        refine lv_goto (tgt := 29) hx hb dX2_lossBy_45 (by decide) ?_
        exact ih29 (i + 1) (by omega) (by omega) _ _ hP hD hS _ (lv_sub hl [1, 2, 3, 0] rfl)
  exact lp29 (30 + 1) 0 (by omega) (by omega) _ _ hP hD hS _ (lv_sub hl [1, 2, 3, 0] rfl)

set_option maxHeartbeats 4000000 in
set_option maxRecDepth 100000 in
theorem m_X2_lostWith (l : Launch) (Dg : va_G) (cI : ClassId) (h : Nat) (na ta : Nat → Nat) (G : z_GG) (D : z_DD) (G1 : z_GG) (D1 : z_DD) (m_ o : Nat) (hm9 : m_ < 10) (ho : o < 3) (hG : z_WG G) (hW : z_WD G D) : z_Mc l yX2_lostWith wsX2_lostWith 5 112 [.ref h, .int (nI m_), .int (nI o)] Dg cI h na ta G D G1 D1 (some (.int (z_ls G D m_ o))) G D := by
  have htc : z_tc G ≤ 60 := hG.2.2.2.2.2.1
  have hbc : z_bc G ≤ 6 := hG.2.2.2.2.1
  have hsd : z_sd G ≤ 9 := hG.2.2.2.2.2.2.1
  have hod : z_od G ≤ 2 := hG.2.2.2.2.2.2.2
  refine z_sw' (own := RX2) (l0 := [(0, .ref h), (1, .int (nI m_)), (2, .int (nI o))]) rfl rfl (by decide) (Nat.le_of_ble_eq_true rfl) rfl ?_
  intro p e s m below meth c hx hb hr hml hts hown hlk hP hK hN hD hS ls hl
  refine lv_iload_n hx hb dX2_lostWith_0 rfl (lv_at hl 1 rfl) ?_
  refine lv_iload_n hx hb dX2_lostWith_1 rfl (lv_at hl 2 rfl) ?_
  refine z_rSv [] hx hb hml hown hts (m_X2_needShipping l Dg cI m_ o (by omega) (by omega)) gX2_lostWith_X2_needShipping rfl kdS_X2_needShipping ⟨Nat.le_of_ble_eq_true rfl, Nat.le_of_ble_eq_true rfl⟩ hK hN z_P0 rfl hl.1 rfl (Nat.le_of_ble_eq_true rfl) dX2_lostWith_2 ⟨Nat.zero_le _, Nat.zero_le _⟩ ?_
  refine lv_aload_n hx hb dX2_lostWith_5 rfl (lv_at hl 0 rfl) ?_
  refine lv_iload_n hx hb dX2_lostWith_6 rfl (lv_at hl 1 rfl) ?_
  refine lv_iload_n hx hb dX2_lostWith_7 rfl (lv_at hl 2 rfl) ?_
  refine z_wCi (v := z_ls G D m_ o) [] hx hb hml hown hts (m_X2_lossBy l Dg cI h na ta G D G1 D1 m_ o (by omega) (by omega) hG hW) gX2_lostWith_X2_lossBy rfl kd_X2_lossBy ⟨Nat.le_of_ble_eq_true rfl, Nat.le_of_ble_eq_true rfl⟩ hK hN hP hD hS rfl hl.1 rfl (Nat.le_of_ble_eq_true rfl) dX2_lostWith_8 ⟨Nat.zero_le _, Nat.zero_le _⟩ (fun G8 D8 H locs hP hD hS => ?_)
  have hP : va_P Dg vwCl (z_cW cI h na ta G D G8 D8) H := hP
  have hD : va_D _ (z_cW cI h na ta G D G8 D8) := hD
  exact z_ec_i rfl hP hS hx hb hr hlk dX2_lostWith_11

set_option maxHeartbeats 4000000 in
set_option maxRecDepth 100000 in
theorem m_X2_bestOrder (l : Launch) (Dg : va_G) (cI : ClassId) (h : Nat) (na ta : Nat → Nat) (G : z_GG) (D : z_DD) (G1 : z_GG) (D1 : z_DD) (hG : z_WG G) (hW : z_WD G D) : z_Mc l yX2_bestOrder wsX2_bestOrder 5 112 [.ref h] Dg cI h na ta G D G1 D1 (some (.int (nI (z_bo G D)))) G D := by
  have htc : z_tc G ≤ 60 := hG.2.2.2.2.2.1
  have hbc : z_bc G ≤ 6 := hG.2.2.2.2.1
  have hsd : z_sd G ≤ 9 := hG.2.2.2.2.2.2.1
  have hod : z_od G ≤ 2 := hG.2.2.2.2.2.2.2
  refine z_sw' (own := RX2) (l0 := [(0, .ref h)]) rfl rfl (by decide) (Nat.le_of_ble_eq_true rfl) rfl ?_
  intro p e s m below meth c hx hb hr hml hts hown hlk hP hK hN hD hS ls hl
  refine lv_iconst (v := nI 0) hx hb dX2_bestOrder_0 (by decide) ?_
  refine lv_istore_n (lv' := [(1, .int (nI 0)), (0, .ref h)]) hx hb dX2_bestOrder_1 rfl hl (by decide) rfl (fun ls hl => ?_)
  refine lv_aload_n hx hb dX2_bestOrder_2 rfl (lv_at hl 1 rfl) ?_
  refine lv_aload_n hx hb dX2_bestOrder_3 rfl (lv_at hl 1 rfl) ?_
  refine va_get (ci := 2) (v := .ref (na 0)) (C := RX2) (T := TX2) (N := 2) hx hb hts (fun _ h => (List.mem_cons_of_mem _ (List.mem_append_left _ (List.mem_append_left _ (List.mem_append_right _ h))))) hown hK hP 0 rfl rfl 0 (by decide) (hts _ (List.mem_cons_of_mem _ (List.mem_append_left _ (List.mem_append_left _ (List.mem_append_left _ (List.mem_append_left _ (List.mem_of_getElem? (i := 0) rfl))))))) (fun _ h9 => h9) rfl dX2_bestOrder_4 ?_
  refine va_getN (ci := 1) (v := .int (nI (z_sd G))) (C := RX1) (T := TX1) (N := 14) hx hb hts (fun _ h => (List.mem_cons_of_mem _ (List.mem_append_left _ (List.mem_append_right _ h)))) hown hK hP 1 rfl rfl 11 (by decide) (va_Nw.use rfl hN.2.2.2.2.2.1) (fun _ h9 => h9) rfl dX2_bestOrder_7 ?_
  refine lv_iconst (v := nI 0) hx hb dX2_bestOrder_10 (by decide) ?_
  refine z_wCi (v := z_ls G D (z_sd G) 0) [] hx hb hml hown hts (m_X2_lossBy l Dg cI h na ta G D G1 D1 (z_sd G) 0 (by omega) (by omega) hG hW) gX2_bestOrder_X2_lossBy rfl kd_X2_lossBy ⟨Nat.le_of_ble_eq_true rfl, Nat.le_of_ble_eq_true rfl⟩ hK hN hP hD hS rfl hl.1 rfl (Nat.le_of_ble_eq_true rfl) dX2_bestOrder_11 ⟨Nat.zero_le _, Nat.zero_le _⟩ (fun G11 D11 H locs hP hD hS => ?_)
  have hP : va_P Dg vwCl (z_cW cI h na ta G D G11 D11) H := hP
  have hD : va_D _ (z_cW cI h na ta G D G11 D11) := hD
  refine lv_istore_n (lv' := [(2, .int (z_ls G D (z_sd G) 0)), (1, .int (nI 0)), (0, .ref h)]) hx hb dX2_bestOrder_14 rfl hl (by decide) rfl (fun ls hl => ?_)
  refine lv_iconst (v := nI 1) hx hb dX2_bestOrder_15 (by decide) ?_
  refine lv_istore_n (lv' := [(3, .int (nI 1)), (2, .int (z_ls G D (z_sd G) 0)), (1, .int (nI 0)), (0, .ref h)]) hx hb dX2_bestOrder_16 rfl hl (by decide) rfl (fun ls hl => ?_)
  have lp17 : ∀ (zz i : Nat) (Gt : z_GG) (Dt : z_DD), i ≤ 2 → 2 + 1 ≤ i + zz → ∀ (H : Heap) (locs : List Loc), va_P Dg vwCl (z_cW cI h na ta G D Gt Dt) H → va_D (z_in (z_cW cI h na ta G D G1 D1)) (z_cW cI h na ta G D Gt Dt) → va_S (z_in (z_cW cI h na ta G D G1 D1)) s.heap H locs → ∀ ls : Array Slot, lv_has ls 5 [(0, .ref h), (1, .int (nI (z_bon G D i).1)), (2, .int ((z_bon G D i).2)), (3, .int (nI (i + 1)))] → W p l e ({ frames := 5, cells := 0, slots := 0, locals := 112 } : Room) s m ([.ref h] : List Value).toArray below meth c H locs 0 0 (MQ below (z_Qc (some (.int (nI (z_bo G D)))) Dg cI h na ta G D (z_cW cI h na ta G D G1 D1)) ([.ref h] : List Value).toArray s 0 0 (z_in (z_cW cI h na ta G D G1 D1))) (F0 m 17 ls []) := by
    intro zz
    induction zz with
    | zero => intros; exfalso; omega
    | succ zz ih17 =>
      intro i Gt Dt hi hzz H locs hP hD hS ls hl
      refine lv_iload_n hx hb dX2_bestOrder_17 rfl (lv_at hl 3 rfl) ?_
      refine lv_iconst (v := nI 2) hx hb dX2_bestOrder_18 (by decide) ?_
      refine lv_icmp_gt (tgt := 53) hx hb dX2_bestOrder_19 (by decide) (fun c19 => ?_) (fun c19 => ?_)
      · skip
        have hi2 : i = 2 := by have := z_nle (b := 2) (by decide) (fun q => absurd c19 (z_i32_nlt q)); omega
        refine lv_iload_n hx hb dX2_bestOrder_53 rfl (lv_at hl 1 rfl) ?_
        exact z_ec_i (by rw [hi2]; rfl) hP hS hx hb hr hlk dX2_bestOrder_54
      · skip
        have hi2 : i < 2 := by have := z_le (by omega) (by omega) (z_i32_le c19); omega
        refine lv_aload_n hx hb dX2_bestOrder_22 rfl (lv_at hl 0 rfl) ?_
        refine lv_aload_n hx hb dX2_bestOrder_23 rfl (lv_at hl 0 rfl) ?_
        refine va_get (ci := 2) (v := .ref (na 0)) (C := RX2) (T := TX2) (N := 2) hx hb hts (fun _ h => (List.mem_cons_of_mem _ (List.mem_append_left _ (List.mem_append_left _ (List.mem_append_right _ h))))) hown hK hP 0 rfl rfl 0 (by decide) (hts _ (List.mem_cons_of_mem _ (List.mem_append_left _ (List.mem_append_left _ (List.mem_append_left _ (List.mem_append_left _ (List.mem_of_getElem? (i := 0) rfl))))))) (fun _ h9 => h9) rfl dX2_bestOrder_24 ?_
        refine va_getN (ci := 1) (v := .int (nI (z_sd G))) (C := RX1) (T := TX1) (N := 14) hx hb hts (fun _ h => (List.mem_cons_of_mem _ (List.mem_append_left _ (List.mem_append_right _ h)))) hown hK hP 1 rfl rfl 11 (by decide) (va_Nw.use rfl hN.2.2.2.2.2.1) (fun _ h9 => h9) rfl dX2_bestOrder_27 ?_
        refine lv_iload_n hx hb dX2_bestOrder_30 rfl (lv_at hl 3 rfl) ?_
        refine z_wCi (v := z_ls G D (z_sd G) (i + 1)) [] hx hb hml hown hts (m_X2_lossBy l Dg cI h na ta G D Gt Dt (z_sd G) (i + 1) (by omega) (by omega) hG hW) gX2_bestOrder_X2_lossBy rfl kd_X2_lossBy ⟨Nat.le_of_ble_eq_true rfl, Nat.le_of_ble_eq_true rfl⟩ hK hN hP hD hS rfl hl.1 rfl (Nat.le_of_ble_eq_true rfl) dX2_bestOrder_31 ⟨Nat.zero_le _, Nat.zero_le _⟩ (fun G31 D31 H locs hP hD hS => ?_)
        have hP : va_P Dg vwCl (z_cW cI h na ta G D G31 D31) H := hP
        have hD : va_D _ (z_cW cI h na ta G D G31 D31) := hD
        refine lv_istore (lv' := [(4, .int (z_ls G D (z_sd G) (i + 1))), (0, .ref h), (1, .int (nI (z_bon G D i).1)), (2, .int ((z_bon G D i).2)), (3, .int (nI (i + 1)))]) hx hb dX2_bestOrder_34 hl (by decide) rfl (fun ls hl => ?_)
        refine lv_iload hx hb dX2_bestOrder_36 (lv_at hl 0 rfl) ?_
        refine lv_iload_n hx hb dX2_bestOrder_38 rfl (lv_at hl 3 rfl) ?_
        refine lv_icmp_ge (tgt := 47) hx hb dX2_bestOrder_39 (by decide) (fun c39 => ?_) (fun c39 => ?_)
        · skip
          have e1 : z_bon G D (i + 1) = z_bon G D i := by rw [z_bon, if_neg (z_i32_nlt c39)]
          have hl : lv_has ls 5 [(4, .int (z_ls G D (z_sd G) (i + 1))), (0, .ref h), (1, .int (nI (z_bon G D (i + 1)).1)), (2, .int ((z_bon G D i).2)), (3, .int (nI (i + 1)))] := by have q : nI (z_bon G D i).1 = nI (z_bon G D (i + 1)).1 := (by rw [e1]); rw [← q]; exact hl
          have hl : lv_has ls 5 [(4, .int (z_ls G D (z_sd G) (i + 1))), (0, .ref h), (1, .int (nI (z_bon G D (i + 1)).1)), (2, .int ((z_bon G D (i + 1)).2)), (3, .int (nI (i + 1)))] := by have q : (z_bon G D i).2 = (z_bon G D (i + 1)).2 := (by rw [e1]); rw [← q]; exact hl
          refine lv_iinc (v := nI (i + 1 + 1)) (lv' := [(3, .int (nI (i + 1 + 1))), (4, .int (z_ls G D (z_sd G) (i + 1))), (0, .ref h), (1, .int (nI (z_bon G D (i + 1)).1)), (2, .int ((z_bon G D (i + 1)).2))]) hx hb dX2_bestOrder_47 hl (k := 4) rfl (nI_1 _) (by decide) rfl (fun ls hl => ?_)
          refine lv_goto (tgt := 17) hx hb dX2_bestOrder_50 (by decide) ?_
          exact ih17 (i + 1) G31 D31 (by omega) (by omega) _ _ hP hD hS _ (lv_sub hl [2, 3, 4, 0] rfl)
        · skip
          refine lv_iload_n hx hb dX2_bestOrder_42 rfl (lv_at hl 4 rfl) ?_
          refine lv_istore_n (lv' := [(1, .int (nI (i + 1))), (4, .int (z_ls G D (z_sd G) (i + 1))), (0, .ref h), (2, .int ((z_bon G D i).2)), (3, .int (nI (i + 1)))]) hx hb dX2_bestOrder_43 rfl hl (by decide) rfl (fun ls hl => ?_)
          refine lv_iload hx hb dX2_bestOrder_44 (lv_at hl 1 rfl) ?_
          refine lv_istore_n (lv' := [(2, .int (z_ls G D (z_sd G) (i + 1))), (1, .int (nI (i + 1))), (4, .int (z_ls G D (z_sd G) (i + 1))), (0, .ref h), (3, .int (nI (i + 1)))]) hx hb dX2_bestOrder_46 rfl hl (by decide) rfl (fun ls hl => ?_)
          have e1 : z_bon G D (i + 1) = (i + 1, z_ls G D (z_sd G) (i + 1)) := by rw [z_bon, if_pos (z_i32_lt c39)]
          have hl : lv_has ls 5 [(2, .int (z_ls G D (z_sd G) (i + 1))), (1, .int (nI (z_bon G D (i + 1)).1)), (4, .int (z_ls G D (z_sd G) (i + 1))), (0, .ref h), (3, .int (nI (i + 1)))] := by have q : nI (i + 1) = nI (z_bon G D (i + 1)).1 := (by rw [e1]); rw [← q]; exact hl
          have hl : lv_has ls 5 [(2, .int ((z_bon G D (i + 1)).2)), (1, .int (nI (z_bon G D (i + 1)).1)), (4, .int (z_ls G D (z_sd G) (i + 1))), (0, .ref h), (3, .int (nI (i + 1)))] := by have q : z_ls G D (z_sd G) (i + 1) = (z_bon G D (i + 1)).2 := (by rw [e1]); rw [← q]; exact hl
          refine lv_iinc (v := nI (i + 1 + 1)) (lv' := [(3, .int (nI (i + 1 + 1))), (2, .int ((z_bon G D (i + 1)).2)), (1, .int (nI (z_bon G D (i + 1)).1)), (4, .int (z_ls G D (z_sd G) (i + 1))), (0, .ref h)]) hx hb dX2_bestOrder_47 hl (k := 4) rfl (nI_1 _) (by decide) rfl (fun ls hl => ?_)
          refine lv_goto (tgt := 17) hx hb dX2_bestOrder_50 (by decide) ?_
          exact ih17 (i + 1) G31 D31 (by omega) (by omega) _ _ hP hD hS _ (lv_sub hl [4, 2, 1, 0] rfl)
  exact lp17 (2 + 1) 0 G11 D11 (by omega) (by omega) _ _ hP hD hS _ (lv_sub hl [3, 2, 1, 0] rfl)

set_option maxHeartbeats 4000000 in
set_option maxRecDepth 100000 in
theorem m_X2_shippingWanted (l : Launch) (Dg : va_G) (cI : ClassId) (h : Nat) (na ta : Nat → Nat) (G : z_GG) (D : z_DD) (G1 : z_GG) (D1 : z_DD) (hG : z_WG G) (hW : z_WD G D) : z_Mc l yX2_shippingWanted wsX2_shippingWanted 5 112 [.ref h] Dg cI h na ta G D G1 D1 (some (.int (z_wt G D))) G D := by
  have htc : z_tc G ≤ 60 := hG.2.2.2.2.2.1
  have hbc : z_bc G ≤ 6 := hG.2.2.2.2.1
  have hsd : z_sd G ≤ 9 := hG.2.2.2.2.2.2.1
  have hod : z_od G ≤ 2 := hG.2.2.2.2.2.2.2
  refine z_sw' (own := RX2) (l0 := [(0, .ref h)]) rfl rfl (by decide) (Nat.le_of_ble_eq_true rfl) rfl ?_
  intro p e s m below meth c hx hb hr hml hts hown hlk hP hK hN hD hS ls hl
  refine lv_iconst (v := nI 0) hx hb dX2_shippingWanted_0 (by decide) ?_
  refine lv_istore_n (lv' := [(1, .int (nI 0)), (0, .ref h)]) hx hb dX2_shippingWanted_1 rfl hl (by decide) rfl (fun ls hl => ?_)
  have lp2 : ∀ (zz i : Nat) (Gt : z_GG) (Dt : z_DD), i ≤ 10 → 10 + 1 ≤ i + zz → z_wt G D = z_wtn G D (10 - i) → ∀ (H : Heap) (locs : List Loc), va_P Dg vwCl (z_cW cI h na ta G D Gt Dt) H → va_D (z_in (z_cW cI h na ta G D G1 D1)) (z_cW cI h na ta G D Gt Dt) → va_S (z_in (z_cW cI h na ta G D G1 D1)) s.heap H locs → ∀ ls : Array Slot, lv_has ls 2 [(0, .ref h), (1, .int (nI i))] → W p l e ({ frames := 5, cells := 0, slots := 0, locals := 112 } : Room) s m ([.ref h] : List Value).toArray below meth c H locs 0 0 (MQ below (z_Qc (some (.int (z_wt G D))) Dg cI h na ta G D (z_cW cI h na ta G D G1 D1)) ([.ref h] : List Value).toArray s 0 0 (z_in (z_cW cI h na ta G D G1 D1))) (F0 m 2 ls []) := by
    intro zz
    induction zz with
    | zero => intros; exfalso; omega
    | succ zz ih2 =>
      intro i Gt Dt hi hzz hf2_0 H locs hP hD hS ls hl
      refine lv_iload_n hx hb dX2_shippingWanted_2 rfl (lv_at hl 1 rfl) ?_
      refine lv_bipush (v := nI 9) hx hb dX2_shippingWanted_3 (by decide) ?_
      refine lv_icmp_gt (tgt := 31) hx hb dX2_shippingWanted_5 (by decide) (fun c5 => ?_) (fun c5 => ?_)
      · skip
        have hi2 : i = 10 := by have := z_nle (b := 9) (by decide) (fun q => absurd c5 (z_i32_nlt q)); omega
        refine lv_iconst (v := (-1)) hx hb dX2_shippingWanted_31 (by decide) ?_
        exact z_ec_i (by rw [hf2_0, hi2]; rfl) hP hS hx hb hr hlk dX2_shippingWanted_32
      · skip
        have hi2 : i < 10 := by have := z_le (by omega) (by omega) (z_i32_le c5); omega
        refine lv_aload_n hx hb dX2_shippingWanted_8 rfl (lv_at hl 0 rfl) ?_
        refine lv_iload_n hx hb dX2_shippingWanted_9 rfl (lv_at hl 1 rfl) ?_
        refine lv_aload_n hx hb dX2_shippingWanted_10 rfl (lv_at hl 0 rfl) ?_
        refine va_get (ci := 2) (v := .ref (na 0)) (C := RX2) (T := TX2) (N := 2) hx hb hts (fun _ h => (List.mem_cons_of_mem _ (List.mem_append_left _ (List.mem_append_left _ (List.mem_append_right _ h))))) hown hK hP 0 rfl rfl 0 (by decide) (hts _ (List.mem_cons_of_mem _ (List.mem_append_left _ (List.mem_append_left _ (List.mem_append_left _ (List.mem_append_left _ (List.mem_of_getElem? (i := 0) rfl))))))) (fun _ h9 => h9) rfl dX2_shippingWanted_11 ?_
        refine va_getN (ci := 1) (v := .int (nI (z_od G))) (C := RX1) (T := TX1) (N := 14) hx hb hts (fun _ h => (List.mem_cons_of_mem _ (List.mem_append_left _ (List.mem_append_right _ h)))) hown hK hP 1 rfl rfl 12 (by decide) (va_Nw.use rfl hN.2.2.2.2.2.2.1) (fun _ h9 => h9) rfl dX2_shippingWanted_14 ?_
        refine z_wCi (v := z_ls G D i (z_od G)) [] hx hb hml hown hts (m_X2_lossBy l Dg cI h na ta G D Gt Dt i (z_od G) (by omega) (by omega) hG hW) gX2_shippingWanted_X2_lossBy rfl kd_X2_lossBy ⟨Nat.le_of_ble_eq_true rfl, Nat.le_of_ble_eq_true rfl⟩ hK hN hP hD hS rfl hl.1 rfl (Nat.le_of_ble_eq_true rfl) dX2_shippingWanted_17 ⟨Nat.zero_le _, Nat.zero_le _⟩ (fun G17 D17 H locs hP hD hS => ?_)
        have hP : va_P Dg vwCl (z_cW cI h na ta G D G17 D17) H := hP
        have hD : va_D _ (z_cW cI h na ta G D G17 D17) := hD
        refine lv_if_ne (tgt := 25) hx hb dX2_shippingWanted_20 (by decide) (fun c20 => ?_) (fun c20 => ?_)
        · skip
          refine lv_iinc (v := nI (i + 1)) (lv' := [(1, .int (nI (i + 1))), (0, .ref h)]) hx hb dX2_shippingWanted_25 hl (k := 1) rfl (nI_1 _) (by decide) rfl (fun ls hl => ?_)
          refine lv_goto (tgt := 2) hx hb dX2_shippingWanted_28 (by decide) ?_
          exact ih2 (i + 1) G17 D17 (by omega) (by omega) (by rw [hf2_0, z_wt_s hi2, if_neg c20]) _ _ hP hD hS _ (lv_sub hl [1, 0] rfl)
        · skip
          refine lv_iload_n hx hb dX2_shippingWanted_23 rfl (lv_at hl 1 rfl) ?_
          exact z_ec_i (by rw [hf2_0, z_wt_s hi2, if_pos c20]) hP hS hx hb hr hlk dX2_shippingWanted_24
  exact lp2 (10 + 1) 0 G1 D1 (by omega) (by omega) rfl _ _ hP hD hS _ (lv_sub hl [1, 0] rfl)

set_option maxHeartbeats 4000000 in
set_option maxRecDepth 100000 in
theorem m_X2_daysUntilRecalled (l : Launch) (Dg : va_G) (cI : ClassId) (h : Nat) (na ta : Nat → Nat) (G : z_GG) (D : z_DD) (G1 : z_GG) (D1 : z_DD) (b_ : Nat) (hbb : b_ < z_bc G) (hG : z_WG G) (hW : z_WD G D) : z_Mc l yX2_daysUntilRecalled wsX2_daysUntilRecalled 4 89 [.ref h, .int (nI b_)] Dg cI h na ta G D G1 D1 (some (.int (z_ur G D b_))) G D := by
  have htc : z_tc G ≤ 60 := hG.2.2.2.2.2.1
  have hbc : z_bc G ≤ 6 := hG.2.2.2.2.1
  have hsd : z_sd G ≤ 9 := hG.2.2.2.2.2.2.1
  have hod : z_od G ≤ 2 := hG.2.2.2.2.2.2.2
  refine z_sw' (own := RX2) (l0 := [(0, .ref h), (1, .int (nI b_))]) rfl rfl (by decide) (Nat.le_of_ble_eq_true rfl) rfl ?_
  intro p e s m below meth c hx hb hr hml hts hown hlk hP hK hN hD hS ls hl
  refine lv_aload_n hx hb dX2_daysUntilRecalled_0 rfl (lv_at hl 0 rfl) ?_
  refine lv_iload_n hx hb dX2_daysUntilRecalled_1 rfl (lv_at hl 1 rfl) ?_
  refine z_rVv [] hx hb hml hown hts (m_X2_needBatch l Dg cI h na ta G D G1 D1 b_ (by omega) (by omega)) gX2_daysUntilRecalled_X2_needBatch rfl kd_X2_needBatch ⟨Nat.le_of_ble_eq_true rfl, Nat.le_of_ble_eq_true rfl⟩ hK hN hP rfl rfl rfl rfl hl.1 rfl (Nat.le_of_ble_eq_true rfl) dX2_daysUntilRecalled_2 ⟨Nat.zero_le _, Nat.zero_le _⟩ ?_
  refine lv_aload_n hx hb dX2_daysUntilRecalled_5 rfl (lv_at hl 0 rfl) ?_
  refine va_get (ci := 2) (v := .ref (na 0)) (C := RX2) (T := TX2) (N := 2) hx hb hts (fun _ h => (List.mem_cons_of_mem _ (List.mem_append_left _ (List.mem_append_left _ (List.mem_append_left _ (List.mem_append_right _ h)))))) hown hK hP 0 rfl rfl 0 (by decide) (hts _ (List.mem_cons_of_mem _ (List.mem_append_left _ (List.mem_append_left _ (List.mem_append_left _ (List.mem_append_left _ (List.mem_append_left _ (List.mem_of_getElem? (i := 0) rfl)))))))) (fun _ h9 => h9) rfl dX2_daysUntilRecalled_6 ?_
  refine lv_iload_n hx hb dX2_daysUntilRecalled_9 rfl (lv_at hl 1 rfl) ?_
  refine z_rVi (v := z_bI (z_rc D b_)) [] hx hb hml hown hts (m_X1_isBatchRecalled l Dg cI na G D b_ (by omega)) gX2_daysUntilRecalled_X1_isBatchRecalled rfl kd_X1_isBatchRecalled ⟨Nat.le_of_ble_eq_true rfl, Nat.le_of_ble_eq_true rfl⟩ hK hN (z_Pm (a := [(h, .inr (2, [.ref (na 0), .ref (ta 0)]))]) (c := (z_sW cI ta G1 D1)) hP) rfl rfl rfl rfl hl.1 rfl (Nat.le_of_ble_eq_true rfl) dX2_daysUntilRecalled_10 ⟨Nat.zero_le _, Nat.zero_le _⟩ ?_
  refine lv_if_eq (tgt := 18) hx hb dX2_daysUntilRecalled_13 (by decide) (fun c13 => ?_) (fun c13 => ?_)
  · skip
    refine lv_aload_n hx hb dX2_daysUntilRecalled_18 rfl (lv_at hl 0 rfl) ?_
    refine va_get (ci := 2) (v := .ref (ta 0)) (C := RX2) (T := TX2) (N := 2) hx hb hts (fun _ h => (List.mem_cons_of_mem _ (List.mem_append_left _ (List.mem_append_left _ (List.mem_append_left _ (List.mem_append_right _ h)))))) hown hK hP 0 rfl rfl 1 (by decide) (hts _ (List.mem_cons_of_mem _ (List.mem_append_left _ (List.mem_append_left _ (List.mem_append_left _ (List.mem_append_left _ (List.mem_append_left _ (List.mem_of_getElem? (i := 1) rfl)))))))) (fun _ h9 => h9) rfl dX2_daysUntilRecalled_19 ?_
    refine lv_aload_n hx hb dX2_daysUntilRecalled_22 rfl (lv_at hl 0 rfl) ?_
    refine va_get (ci := 2) (v := .ref (na 0)) (C := RX2) (T := TX2) (N := 2) hx hb hts (fun _ h => (List.mem_cons_of_mem _ (List.mem_append_left _ (List.mem_append_left _ (List.mem_append_left _ (List.mem_append_right _ h)))))) hown hK hP 0 rfl rfl 0 (by decide) (hts _ (List.mem_cons_of_mem _ (List.mem_append_left _ (List.mem_append_left _ (List.mem_append_left _ (List.mem_append_left _ (List.mem_append_left _ (List.mem_of_getElem? (i := 0) rfl)))))))) (fun _ h9 => h9) rfl dX2_daysUntilRecalled_23 ?_
    refine z_wBv [] [(h, .inr (2, [.ref (na 0), .ref (ta 0)]))] [] 19 hx hb hml hown hts (m_X1_copyFrom l Dg cI ta na G1 D1 G D) gX2_daysUntilRecalled_X1_copyFrom rfl kd_X1_copyFrom ⟨Nat.le_of_ble_eq_true rfl, Nat.le_of_ble_eq_true rfl⟩ hK hN hP hD hS rfl rfl rfl rfl rfl hl.1 rfl (Nat.le_of_ble_eq_true rfl) dX2_daysUntilRecalled_26 ⟨Nat.zero_le _, Nat.zero_le _⟩ (fun H locs hP hD hS => ?_)
    have hP : va_P Dg vwCl (z_cW cI h na ta G D G D) H := hP
    have hD : va_D _ (z_cW cI h na ta G D G D) := hD
    refine lv_iconst (v := nI 1) hx hb dX2_daysUntilRecalled_29 (by decide) ?_
    refine lv_istore_n (lv' := [(2, .int (nI 1)), (0, .ref h), (1, .int (nI b_))]) hx hb dX2_daysUntilRecalled_30 rfl hl (by decide) rfl (fun ls hl => ?_)
    have lp31 : ∀ (zz i : Nat) , i ≤ 60 → 60 + 1 ≤ i + zz → z_ur G D b_ = z_urn G D b_ (60 - i) → ∀ (H : Heap) (locs : List Loc), va_P Dg vwCl (z_cW cI h na ta G D G (z_days G D i)) H → va_D (z_in (z_cW cI h na ta G D G1 D1)) (z_cW cI h na ta G D G (z_days G D i)) → va_S (z_in (z_cW cI h na ta G D G1 D1)) s.heap H locs → ∀ ls : Array Slot, lv_has ls 3 [(0, .ref h), (1, .int (nI b_)), (2, .int (nI (i + 1)))] → W p l e ({ frames := 4, cells := 0, slots := 0, locals := 89 } : Room) s m ([.ref h, .int (nI b_)] : List Value).toArray below meth c H locs 0 0 (MQ below (z_Qc (some (.int (z_ur G D b_))) Dg cI h na ta G D (z_cW cI h na ta G D G1 D1)) ([.ref h, .int (nI b_)] : List Value).toArray s 0 0 (z_in (z_cW cI h na ta G D G1 D1))) (F0 m 31 ls []) := by
      intro zz
      induction zz with
      | zero => intros; exfalso; omega
      | succ zz ih31 =>
        intro i hi hzz hf31_0 H locs hP hD hS ls hl
        refine lv_iload_n hx hb dX2_daysUntilRecalled_31 rfl (lv_at hl 2 rfl) ?_
        refine lv_bipush (v := nI 60) hx hb dX2_daysUntilRecalled_32 (by decide) ?_
        refine lv_icmp_gt (tgt := 63) hx hb dX2_daysUntilRecalled_34 (by decide) (fun c34 => ?_) (fun c34 => ?_)
        · skip
          have hi2 : i = 60 := by have := z_nle (b := 60) (by decide) (fun q => absurd c34 (z_i32_nlt q)); omega
          refine lv_iconst (v := (-1)) hx hb dX2_daysUntilRecalled_63 (by decide) ?_
          exact z_ec_i (by rw [hf31_0, hi2]; rfl) hP hS hx hb hr hlk dX2_daysUntilRecalled_64
        · skip
          have hi2 : i < 60 := by have := z_le (by omega) (by omega) (z_i32_le c34); omega
          have hWi := z_WD_days hW i
          refine lv_aload_n hx hb dX2_daysUntilRecalled_37 rfl (lv_at hl 0 rfl) ?_
          refine va_get (ci := 2) (v := .ref (ta 0)) (C := RX2) (T := TX2) (N := 2) hx hb hts (fun _ h => (List.mem_cons_of_mem _ (List.mem_append_left _ (List.mem_append_left _ (List.mem_append_left _ (List.mem_append_right _ h)))))) hown hK hP 0 rfl rfl 1 (by decide) (hts _ (List.mem_cons_of_mem _ (List.mem_append_left _ (List.mem_append_left _ (List.mem_append_left _ (List.mem_append_left _ (List.mem_append_left _ (List.mem_of_getElem? (i := 1) rfl)))))))) (fun _ h9 => h9) rfl dX2_daysUntilRecalled_38 ?_
          refine z_wBv [] ((h, .inr (2, [.ref (na 0), .ref (ta 0)])) :: (z_sW cI na G D)) [] 0 hx hb hml hown hts (m_X1_passDay l Dg cI ta G (z_days G D i) hG hWi) gX2_daysUntilRecalled_X1_passDay rfl kd_X1_passDay ⟨Nat.le_of_ble_eq_true rfl, Nat.le_of_ble_eq_true rfl⟩ hK hN hP hD hS rfl rfl rfl rfl rfl hl.1 rfl (Nat.le_of_ble_eq_true rfl) dX2_daysUntilRecalled_41 ⟨Nat.zero_le _, Nat.zero_le _⟩ (fun H locs hP hD hS => ?_)
          have hP : va_P Dg vwCl (z_cW cI h na ta G D G (z_day G (z_days G D i))) H := hP
          have hD : va_D _ (z_cW cI h na ta G D G (z_day G (z_days G D i))) := hD
          have hP : va_P Dg vwCl (z_cW cI h na ta G D G (z_days G D (i + 1))) H := hP
          have hD : va_D _ (z_cW cI h na ta G D G (z_days G D (i + 1))) := hD
          refine lv_aload_n hx hb dX2_daysUntilRecalled_44 rfl (lv_at hl 0 rfl) ?_
          refine va_get (ci := 2) (v := .ref (ta 0)) (C := RX2) (T := TX2) (N := 2) hx hb hts (fun _ h => (List.mem_cons_of_mem _ (List.mem_append_left _ (List.mem_append_left _ (List.mem_append_left _ (List.mem_append_right _ h)))))) hown hK hP 0 rfl rfl 1 (by decide) (hts _ (List.mem_cons_of_mem _ (List.mem_append_left _ (List.mem_append_left _ (List.mem_append_left _ (List.mem_append_left _ (List.mem_append_left _ (List.mem_of_getElem? (i := 1) rfl)))))))) (fun _ h9 => h9) rfl dX2_daysUntilRecalled_45 ?_
          refine lv_iload_n hx hb dX2_daysUntilRecalled_48 rfl (lv_at hl 1 rfl) ?_
          refine z_rVi (v := z_bI (z_rc (z_days G D (i + 1)) b_)) [] hx hb hml hown hts (m_X1_isBatchRecalled l Dg cI ta G (z_days G D (i + 1)) b_ (by omega)) gX2_daysUntilRecalled_X1_isBatchRecalled rfl kd_X1_isBatchRecalled ⟨Nat.le_of_ble_eq_true rfl, Nat.le_of_ble_eq_true rfl⟩ hK hN (z_Pm (a := ((h, .inr (2, [.ref (na 0), .ref (ta 0)])) :: (z_sW cI na G D))) (c := []) hP) rfl rfl rfl rfl hl.1 rfl (Nat.le_of_ble_eq_true rfl) dX2_daysUntilRecalled_49 ⟨Nat.zero_le _, Nat.zero_le _⟩ ?_
          refine lv_if_eq (tgt := 57) hx hb dX2_daysUntilRecalled_52 (by decide) (fun c52 => ?_) (fun c52 => ?_)
          · skip
            refine lv_iinc (v := nI (i + 1 + 1)) (lv' := [(2, .int (nI (i + 1 + 1))), (0, .ref h), (1, .int (nI b_))]) hx hb dX2_daysUntilRecalled_57 hl (k := 2) rfl (nI_1 _) (by decide) rfl (fun ls hl => ?_)
            refine lv_goto (tgt := 31) hx hb dX2_daysUntilRecalled_60 (by decide) ?_
            exact ih31 (i + 1) (by omega) (by omega) (by rw [hf31_0, z_ur_s hi2, if_neg (by rw [z_bI0 c52]; decide)]) _ _ hP hD hS _ (lv_sub hl [1, 2, 0] rfl)
          · skip
            refine lv_iload_n hx hb dX2_daysUntilRecalled_55 rfl (lv_at hl 2 rfl) ?_
            exact z_ec_i (by rw [hf31_0, z_ur_s hi2, if_pos (z_bI1 c52)]) hP hS hx hb hr hlk dX2_daysUntilRecalled_56
    exact lp31 (60 + 1) 0 (by omega) (by omega) (by rw [z_ur, if_neg (by rw [z_bI0 c13]; decide)]) _ _ hP hD hS _ (lv_sub hl [1, 2, 0] rfl)
  · skip
    refine lv_iconst (v := 0) hx hb dX2_daysUntilRecalled_16 (by decide) ?_
    exact z_ec_i (by rw [z_ur, if_pos (z_bI1 c13)]) hP hS hx hb hr hlk dX2_daysUntilRecalled_17

set_option maxHeartbeats 4000000 in
set_option maxRecDepth 100000 in
theorem m_X2_mixShelves (l : Launch) (Dg : va_G) (cI : ClassId) (h : Nat) (na ta : Nat → Nat) (G : z_GG) (D : z_DD) (G1 : z_GG) (D1 : z_DD) (d_ : Int64) (hG : z_WG G) (hW : z_WD G D) : z_Mr l yX2_mixShelves wsX2_mixShelves 4 87 [.ref h, .long d_] Dg cI (z_cW cI h na ta G D G1 D1) (some (.long (z_dgs G D d_ 4))) := by
  have htc : z_tc G ≤ 60 := hG.2.2.2.2.2.1
  have hbc : z_bc G ≤ 6 := hG.2.2.2.2.1
  refine z_sr (own := RX2) (l0 := [(0, .ref h), (1, .long d_)]) rfl rfl (by decide) (Nat.le_of_ble_eq_true rfl) rfl ?_
  intro p e s m below meth c hx hb hr hml hts hown hlk hP hK hN ls hl
  refine lv_lload_n hx hb dX2_mixShelves_0 rfl (lv_at hl 1 rfl) ?_
  refine lv_lstore_n (lv' := [(3, .long d_), (0, .ref h), (1, .long d_)]) hx hb dX2_mixShelves_1 rfl hl (by decide) rfl (fun ls hl => ?_)
  refine lv_iconst (v := nI 0) hx hb dX2_mixShelves_2 (by decide) ?_
  refine lv_istore (lv' := [(5, .int (nI 0)), (3, .long d_), (0, .ref h), (1, .long d_)]) hx hb dX2_mixShelves_3 hl (by decide) rfl (fun ls hl => ?_)
  have lp5 : ∀ (zz i : Nat) , i ≤ 4 → 4 + 1 ≤ i + zz → ∀ ls : Array Slot, lv_has ls 6 [(0, .ref h), (1, .long d_), (3, .long (z_dgs G D d_ i)), (5, .int (nI i))] → W p l e ({ frames := 4, cells := 0, slots := 0, locals := 87 } : Room) s m ([.ref h, .long d_] : List Value).toArray below meth c s.heap [] 0 0 (MQ below (z_Qr (some (.long (z_dgs G D d_ 4)))) ([.ref h, .long d_] : List Value).toArray s 0 0 z_no) (F0 m 5 ls []) := by
    intro zz
    induction zz with
    | zero => intros; exfalso; omega
    | succ zz ih5 =>
      intro i hi hzz ls hl
      refine lv_iload hx hb dX2_mixShelves_5 (lv_at hl 3 rfl) ?_
      refine lv_iconst (v := nI 4) hx hb dX2_mixShelves_7 (by decide) ?_
      refine lv_icmp_ge (tgt := 41) hx hb dX2_mixShelves_8 (by decide) (fun c8 => ?_) (fun c8 => ?_)
      · skip
        have hi2 : i = 4 := by have := z_le (by omega) (by omega) c8; omega
        refine lv_lload_n hx hb dX2_mixShelves_41 rfl (lv_at hl 2 rfl) ?_
        exact z_er_l (by rw [hi2]) hx hb hr hlk dX2_mixShelves_42
      · skip
        have hi2 : i < 4 := by have := z_nle (by omega) c8; omega
        refine lv_lload_n hx hb dX2_mixShelves_11 rfl (lv_at hl 2 rfl) ?_
        refine lv_aload_n hx hb dX2_mixShelves_12 rfl (lv_at hl 0 rfl) ?_
        refine lv_iload hx hb dX2_mixShelves_13 (lv_at hl 3 rfl) ?_
        refine z_rVi (v := nI (z_on G D i)) [.long (z_dgs G D d_ i)] hx hb hml hown hts (m_X2_standOn l Dg cI h na ta G D G1 D1 i (by omega) hG hW) gX2_mixShelves_X2_standOn rfl kd_X2_standOn ⟨Nat.le_of_ble_eq_true rfl, Nat.le_of_ble_eq_true rfl⟩ hK hN hP rfl rfl rfl rfl hl.1 rfl (Nat.le_of_ble_eq_true rfl) dX2_mixShelves_15 ⟨Nat.zero_le _, Nat.zero_le _⟩ ?_
        refine lv_i2l (v := Int32.toInt64 (nI (z_on G D i))) hx hb dX2_mixShelves_18 rfl ?_
        refine z_rSl (v := z_mi (z_dgs G D d_ i) (Int32.toInt64 (nI (z_on G D i)))) [] hx hb hml hown hts (m_X2_mix l Dg cI (z_dgs G D d_ i) (Int32.toInt64 (nI (z_on G D i)))) gX2_mixShelves_X2_mix rfl kdS_X2_mix ⟨Nat.le_of_ble_eq_true rfl, Nat.le_of_ble_eq_true rfl⟩ hK hN z_P0 rfl hl.1 rfl (Nat.le_of_ble_eq_true rfl) dX2_mixShelves_19 ⟨Nat.zero_le _, Nat.zero_le _⟩ ?_
        refine lv_lstore_n (lv' := [(3, .long (z_mi (z_dgs G D d_ i) (Int32.toInt64 (nI (z_on G D i))))), (0, .ref h), (1, .long d_), (5, .int (nI i))]) hx hb dX2_mixShelves_22 rfl hl (by decide) rfl (fun ls hl => ?_)
        refine lv_lload_n hx hb dX2_mixShelves_23 rfl (lv_at hl 0 rfl) ?_
        refine lv_aload_n hx hb dX2_mixShelves_24 rfl (lv_at hl 1 rfl) ?_
        refine lv_iload hx hb dX2_mixShelves_25 (lv_at hl 3 rfl) ?_
        refine z_rVi (v := z_wm G i) [.long (z_mi (z_dgs G D d_ i) (Int32.toInt64 (nI (z_on G D i))))] hx hb hml hown hts (m_X2_warmOf l Dg cI h na ta G D G1 D1 i (by omega) hG hW) gX2_mixShelves_X2_warmOf rfl kd_X2_warmOf ⟨Nat.le_of_ble_eq_true rfl, Nat.le_of_ble_eq_true rfl⟩ hK hN hP rfl rfl rfl rfl hl.1 rfl (Nat.le_of_ble_eq_true rfl) dX2_mixShelves_27 ⟨Nat.zero_le _, Nat.zero_le _⟩ ?_
        refine lv_i2l (v := Int32.toInt64 (z_wm G i)) hx hb dX2_mixShelves_30 rfl ?_
        refine z_rSl (v := z_mi (z_mi (z_dgs G D d_ i) (Int32.toInt64 (nI (z_on G D i)))) (Int32.toInt64 (z_wm G i))) [] hx hb hml hown hts (m_X2_mix l Dg cI (z_mi (z_dgs G D d_ i) (Int32.toInt64 (nI (z_on G D i)))) (Int32.toInt64 (z_wm G i))) gX2_mixShelves_X2_mix rfl kdS_X2_mix ⟨Nat.le_of_ble_eq_true rfl, Nat.le_of_ble_eq_true rfl⟩ hK hN z_P0 rfl hl.1 rfl (Nat.le_of_ble_eq_true rfl) dX2_mixShelves_31 ⟨Nat.zero_le _, Nat.zero_le _⟩ ?_
        refine lv_lstore_n (lv' := [(3, .long (z_mi (z_mi (z_dgs G D d_ i) (Int32.toInt64 (nI (z_on G D i)))) (Int32.toInt64 (z_wm G i)))), (0, .ref h), (1, .long d_), (5, .int (nI i))]) hx hb dX2_mixShelves_34 rfl hl (by decide) rfl (fun ls hl => ?_)
        have hl : lv_has ls 6 [(3, .long (z_dgs G D d_ (i + 1))), (0, .ref h), (1, .long d_), (5, .int (nI i))] := by have q : z_mi (z_mi (z_dgs G D d_ i) (Int32.toInt64 (nI (z_on G D i)))) (Int32.toInt64 (z_wm G i)) = z_dgs G D d_ (i + 1) := rfl; rw [← q]; exact hl
        refine lv_iinc (v := nI (i + 1)) (lv' := [(5, .int (nI (i + 1))), (3, .long (z_dgs G D d_ (i + 1))), (0, .ref h), (1, .long d_)]) hx hb dX2_mixShelves_35 hl (k := 3) rfl (nI_1 _) (by decide) rfl (fun ls hl => ?_)
        refine lv_goto (tgt := 5) hx hb dX2_mixShelves_38 (by decide) ?_
        exact ih5 (i + 1) (by omega) (by omega) _ (lv_sub hl [2, 3, 1, 0] rfl)
  exact lp5 (4 + 1) 0 (by omega) (by omega) _ (lv_sub hl [2, 3, 1, 0] rfl)

set_option maxHeartbeats 4000000 in
set_option maxRecDepth 100000 in
theorem m_X2_mixBatches (l : Launch) (Dg : va_G) (cI : ClassId) (h : Nat) (na ta : Nat → Nat) (G : z_GG) (D : z_DD) (G1 : z_GG) (D1 : z_DD) (d_ : Int64) (hG : z_WG G) (hW : z_WD G D) : z_Mc l yX2_mixBatches wsX2_mixBatches 5 111 [.ref h, .long d_] Dg cI h na ta G D G1 D1 (some (.long (z_dgb G D d_ (z_bc G)))) G D := by
  have htc : z_tc G ≤ 60 := hG.2.2.2.2.2.1
  have hbc : z_bc G ≤ 6 := hG.2.2.2.2.1
  refine z_sw' (own := RX2) (l0 := [(0, .ref h), (1, .long d_)]) rfl rfl (by decide) (Nat.le_of_ble_eq_true rfl) rfl ?_
  intro p e s m below meth c hx hb hr hml hts hown hlk hP hK hN hD hS ls hl
  refine lv_lload_n hx hb dX2_mixBatches_0 rfl (lv_at hl 1 rfl) ?_
  refine lv_lstore_n (lv' := [(3, .long d_), (0, .ref h), (1, .long d_)]) hx hb dX2_mixBatches_1 rfl hl (by decide) rfl (fun ls hl => ?_)
  refine lv_iconst (v := nI 0) hx hb dX2_mixBatches_2 (by decide) ?_
  refine lv_istore (lv' := [(5, .int (nI 0)), (3, .long d_), (0, .ref h), (1, .long d_)]) hx hb dX2_mixBatches_3 hl (by decide) rfl (fun ls hl => ?_)
  have lp5 : ∀ (zz i : Nat) (Gt : z_GG) (Dt : z_DD), i ≤ z_bc G → z_bc G + 1 ≤ i + zz → ∀ (H : Heap) (locs : List Loc), va_P Dg vwCl (z_cW cI h na ta G D Gt Dt) H → va_D (z_in (z_cW cI h na ta G D G1 D1)) (z_cW cI h na ta G D Gt Dt) → va_S (z_in (z_cW cI h na ta G D G1 D1)) s.heap H locs → ∀ ls : Array Slot, lv_has ls 6 [(0, .ref h), (1, .long d_), (3, .long (z_dgb G D d_ i)), (5, .int (nI i))] → W p l e ({ frames := 5, cells := 0, slots := 0, locals := 111 } : Room) s m ([.ref h, .long d_] : List Value).toArray below meth c H locs 0 0 (MQ below (z_Qc (some (.long (z_dgb G D d_ (z_bc G)))) Dg cI h na ta G D (z_cW cI h na ta G D G1 D1)) ([.ref h, .long d_] : List Value).toArray s 0 0 (z_in (z_cW cI h na ta G D G1 D1))) (F0 m 5 ls []) := by
    intro zz
    induction zz with
    | zero => intros; exfalso; omega
    | succ zz ih5 =>
      intro i Gt Dt hi hzz H locs hP hD hS ls hl
      refine lv_iload hx hb dX2_mixBatches_5 (lv_at hl 3 rfl) ?_
      refine lv_aload_n hx hb dX2_mixBatches_7 rfl (lv_at hl 0 rfl) ?_
      refine va_get (ci := 2) (v := .ref (na 0)) (C := RX2) (T := TX2) (N := 2) hx hb hts (fun _ h => (List.mem_cons_of_mem _ (List.mem_append_left _ (List.mem_append_left _ (List.mem_append_left _ (List.mem_append_right _ h)))))) hown hK hP 0 rfl rfl 0 (by decide) (hts _ (List.mem_cons_of_mem _ (List.mem_append_left _ (List.mem_append_left _ (List.mem_append_left _ (List.mem_append_left _ (List.mem_append_left _ (List.mem_of_getElem? (i := 0) rfl)))))))) (fun _ h9 => h9) rfl dX2_mixBatches_8 ?_
      refine va_getN (ci := 1) (v := .int (nI (z_bc G))) (C := RX1) (T := TX1) (N := 14) hx hb hts (fun _ h => (List.mem_cons_of_mem _ (List.mem_append_left _ (List.mem_append_left _ (List.mem_append_right _ h))))) hown hK hP 1 rfl rfl 5 (by decide) (va_Nw.use rfl hN.2.1) (fun _ h9 => h9) rfl dX2_mixBatches_11 ?_
      refine lv_icmp_ge (tgt := 78) hx hb dX2_mixBatches_14 (by decide) (fun c14 => ?_) (fun c14 => ?_)
      · skip
        have hi2 : i = z_bc G := Nat.le_antisymm hi (z_le (by omega) (by omega) c14)
        refine lv_lload_n hx hb dX2_mixBatches_78 rfl (lv_at hl 2 rfl) ?_
        exact z_ec_l (by rw [hi2]) hP hS hx hb hr hlk dX2_mixBatches_79
      · skip
        have hi2 : i < z_bc G := z_nle (by omega) c14
        refine lv_lload_n hx hb dX2_mixBatches_17 rfl (lv_at hl 2 rfl) ?_
        refine lv_aload_n hx hb dX2_mixBatches_18 rfl (lv_at hl 0 rfl) ?_
        refine lv_iload hx hb dX2_mixBatches_19 (lv_at hl 3 rfl) ?_
        refine z_rVi (v := z_sw D i) [.long (z_dgb G D d_ i)] hx hb hml hown hts (m_X2_swelledOf l Dg cI h na ta G D Gt Dt i (by omega) hG hW) gX2_mixBatches_X2_swelledOf rfl kd_X2_swelledOf ⟨Nat.le_of_ble_eq_true rfl, Nat.le_of_ble_eq_true rfl⟩ hK hN hP rfl rfl rfl rfl hl.1 rfl (Nat.le_of_ble_eq_true rfl) dX2_mixBatches_21 ⟨Nat.zero_le _, Nat.zero_le _⟩ ?_
        refine lv_i2l (v := Int32.toInt64 (z_sw D i)) hx hb dX2_mixBatches_24 rfl ?_
        refine z_rSl (v := z_mi (z_dgb G D d_ i) (Int32.toInt64 (z_sw D i))) [] hx hb hml hown hts (m_X2_mix l Dg cI (z_dgb G D d_ i) (Int32.toInt64 (z_sw D i))) gX2_mixBatches_X2_mix rfl kdS_X2_mix ⟨Nat.le_of_ble_eq_true rfl, Nat.le_of_ble_eq_true rfl⟩ hK hN z_P0 rfl hl.1 rfl (Nat.le_of_ble_eq_true rfl) dX2_mixBatches_25 ⟨Nat.zero_le _, Nat.zero_le _⟩ ?_
        refine lv_lstore_n (lv' := [(3, .long (z_mi (z_dgb G D d_ i) (Int32.toInt64 (z_sw D i)))), (0, .ref h), (1, .long d_), (5, .int (nI i))]) hx hb dX2_mixBatches_28 rfl hl (by decide) rfl (fun ls hl => ?_)
        refine lv_lload_n hx hb dX2_mixBatches_29 rfl (lv_at hl 0 rfl) ?_
        refine lv_aload_n hx hb dX2_mixBatches_30 rfl (lv_at hl 1 rfl) ?_
        refine lv_iload hx hb dX2_mixBatches_31 (lv_at hl 3 rfl) ?_
        refine z_rVi (v := nI (z_lf G D i)) [.long (z_mi (z_dgb G D d_ i) (Int32.toInt64 (z_sw D i)))] hx hb hml hown hts (m_X2_leftOf l Dg cI h na ta G D Gt Dt i (by omega) hG hW) gX2_mixBatches_X2_leftOf rfl kd_X2_leftOf ⟨Nat.le_of_ble_eq_true rfl, Nat.le_of_ble_eq_true rfl⟩ hK hN hP rfl rfl rfl rfl hl.1 rfl (Nat.le_of_ble_eq_true rfl) dX2_mixBatches_33 ⟨Nat.zero_le _, Nat.zero_le _⟩ ?_
        refine lv_i2l (v := Int32.toInt64 (nI (z_lf G D i))) hx hb dX2_mixBatches_36 rfl ?_
        refine z_rSl (v := z_mi (z_mi (z_dgb G D d_ i) (Int32.toInt64 (z_sw D i))) (Int32.toInt64 (nI (z_lf G D i)))) [] hx hb hml hown hts (m_X2_mix l Dg cI (z_mi (z_dgb G D d_ i) (Int32.toInt64 (z_sw D i))) (Int32.toInt64 (nI (z_lf G D i)))) gX2_mixBatches_X2_mix rfl kdS_X2_mix ⟨Nat.le_of_ble_eq_true rfl, Nat.le_of_ble_eq_true rfl⟩ hK hN z_P0 rfl hl.1 rfl (Nat.le_of_ble_eq_true rfl) dX2_mixBatches_37 ⟨Nat.zero_le _, Nat.zero_le _⟩ ?_
        refine lv_lstore_n (lv' := [(3, .long (z_mi (z_mi (z_dgb G D d_ i) (Int32.toInt64 (z_sw D i))) (Int32.toInt64 (nI (z_lf G D i))))), (0, .ref h), (1, .long d_), (5, .int (nI i))]) hx hb dX2_mixBatches_40 rfl hl (by decide) rfl (fun ls hl => ?_)
        refine lv_lload_n hx hb dX2_mixBatches_41 rfl (lv_at hl 0 rfl) ?_
        refine lv_aload_n hx hb dX2_mixBatches_42 rfl (lv_at hl 1 rfl) ?_
        refine lv_iload hx hb dX2_mixBatches_43 (lv_at hl 3 rfl) ?_
        refine z_rVi (v := z_bI (z_rc D i)) [.long (z_mi (z_mi (z_dgb G D d_ i) (Int32.toInt64 (z_sw D i))) (Int32.toInt64 (nI (z_lf G D i))))] hx hb hml hown hts (m_X2_isRecalled l Dg cI h na ta G D Gt Dt i (by omega) hG hW) gX2_mixBatches_X2_isRecalled rfl kd_X2_isRecalled ⟨Nat.le_of_ble_eq_true rfl, Nat.le_of_ble_eq_true rfl⟩ hK hN hP rfl rfl rfl rfl hl.1 rfl (Nat.le_of_ble_eq_true rfl) dX2_mixBatches_45 ⟨Nat.zero_le _, Nat.zero_le _⟩ ?_
        refine lv_if_eq (tgt := 55) hx hb dX2_mixBatches_48 (by decide) (fun c48 => ?_) (fun c48 => ?_)
        · skip
          refine lv_lconst (v := 0) hx hb dX2_mixBatches_55 (by decide) ?_
          refine z_topl (x' := (z_bI (z_rc D i)).toInt64) (by rw [z_bI0 c48]; rfl) ?_
          refine z_rSl (v := z_mi (z_mi (z_mi (z_dgb G D d_ i) (Int32.toInt64 (z_sw D i))) (Int32.toInt64 (nI (z_lf G D i)))) ((z_bI (z_rc D i)).toInt64)) [] hx hb hml hown hts (m_X2_mix l Dg cI (z_mi (z_mi (z_dgb G D d_ i) (Int32.toInt64 (z_sw D i))) (Int32.toInt64 (nI (z_lf G D i)))) ((z_bI (z_rc D i)).toInt64)) gX2_mixBatches_X2_mix rfl kdS_X2_mix ⟨Nat.le_of_ble_eq_true rfl, Nat.le_of_ble_eq_true rfl⟩ hK hN z_P0 rfl hl.1 rfl (Nat.le_of_ble_eq_true rfl) dX2_mixBatches_56 ⟨Nat.zero_le _, Nat.zero_le _⟩ ?_
          refine lv_lstore_n (lv' := [(3, .long (z_mi (z_mi (z_mi (z_dgb G D d_ i) (Int32.toInt64 (z_sw D i))) (Int32.toInt64 (nI (z_lf G D i)))) ((z_bI (z_rc D i)).toInt64))), (0, .ref h), (1, .long d_), (5, .int (nI i))]) hx hb dX2_mixBatches_59 rfl hl (by decide) rfl (fun ls hl => ?_)
          refine lv_lload_n hx hb dX2_mixBatches_60 rfl (lv_at hl 0 rfl) ?_
          refine lv_aload_n hx hb dX2_mixBatches_61 rfl (lv_at hl 1 rfl) ?_
          refine lv_iload hx hb dX2_mixBatches_62 (lv_at hl 3 rfl) ?_
          refine z_wCi (v := z_ur G D i) [.long (z_mi (z_mi (z_mi (z_dgb G D d_ i) (Int32.toInt64 (z_sw D i))) (Int32.toInt64 (nI (z_lf G D i)))) ((z_bI (z_rc D i)).toInt64))] hx hb hml hown hts (m_X2_daysUntilRecalled l Dg cI h na ta G D Gt Dt i (by omega) hG hW) gX2_mixBatches_X2_daysUntilRecalled rfl kd_X2_daysUntilRecalled ⟨Nat.le_of_ble_eq_true rfl, Nat.le_of_ble_eq_true rfl⟩ hK hN hP hD hS rfl hl.1 rfl (Nat.le_of_ble_eq_true rfl) dX2_mixBatches_64 ⟨Nat.zero_le _, Nat.zero_le _⟩ (fun G64 D64 H locs hP hD hS => ?_)
          have hP : va_P Dg vwCl (z_cW cI h na ta G D G64 D64) H := hP
          have hD : va_D _ (z_cW cI h na ta G D G64 D64) := hD
          refine lv_i2l (v := Int32.toInt64 (z_ur G D i)) hx hb dX2_mixBatches_67 rfl ?_
          refine z_rSl (v := z_mi (z_mi (z_mi (z_mi (z_dgb G D d_ i) (Int32.toInt64 (z_sw D i))) (Int32.toInt64 (nI (z_lf G D i)))) ((z_bI (z_rc D i)).toInt64)) (Int32.toInt64 (z_ur G D i))) [] hx hb hml hown hts (m_X2_mix l Dg cI (z_mi (z_mi (z_mi (z_dgb G D d_ i) (Int32.toInt64 (z_sw D i))) (Int32.toInt64 (nI (z_lf G D i)))) ((z_bI (z_rc D i)).toInt64)) (Int32.toInt64 (z_ur G D i))) gX2_mixBatches_X2_mix rfl kdS_X2_mix ⟨Nat.le_of_ble_eq_true rfl, Nat.le_of_ble_eq_true rfl⟩ hK hN z_P0 rfl hl.1 rfl (Nat.le_of_ble_eq_true rfl) dX2_mixBatches_68 ⟨Nat.zero_le _, Nat.zero_le _⟩ ?_
          refine lv_lstore_n (lv' := [(3, .long (z_mi (z_mi (z_mi (z_mi (z_dgb G D d_ i) (Int32.toInt64 (z_sw D i))) (Int32.toInt64 (nI (z_lf G D i)))) ((z_bI (z_rc D i)).toInt64)) (Int32.toInt64 (z_ur G D i)))), (0, .ref h), (1, .long d_), (5, .int (nI i))]) hx hb dX2_mixBatches_71 rfl hl (by decide) rfl (fun ls hl => ?_)
          have hl : lv_has ls 6 [(3, .long (z_dgb G D d_ (i + 1))), (0, .ref h), (1, .long d_), (5, .int (nI i))] := by have q : z_mi (z_mi (z_mi (z_mi (z_dgb G D d_ i) (Int32.toInt64 (z_sw D i))) (Int32.toInt64 (nI (z_lf G D i)))) ((z_bI (z_rc D i)).toInt64)) (Int32.toInt64 (z_ur G D i)) = z_dgb G D d_ (i + 1) := rfl; rw [← q]; exact hl
          refine lv_iinc (v := nI (i + 1)) (lv' := [(5, .int (nI (i + 1))), (3, .long (z_dgb G D d_ (i + 1))), (0, .ref h), (1, .long d_)]) hx hb dX2_mixBatches_72 hl (k := 3) rfl (nI_1 _) (by decide) rfl (fun ls hl => ?_)
          refine lv_goto (tgt := 5) hx hb dX2_mixBatches_75 (by decide) ?_
          exact ih5 (i + 1) G64 D64 (by omega) (by omega) _ _ hP hD hS _ (lv_sub hl [2, 3, 1, 0] rfl)
        · skip
          refine lv_lconst (v := 1) hx hb dX2_mixBatches_51 (by decide) ?_
          refine lv_goto (tgt := 56) hx hb dX2_mixBatches_52 (by decide) ?_
          refine z_topl (x' := (z_bI (z_rc D i)).toInt64) (by rw [z_bI1 c48]; rfl) ?_
          refine z_rSl (v := z_mi (z_mi (z_mi (z_dgb G D d_ i) (Int32.toInt64 (z_sw D i))) (Int32.toInt64 (nI (z_lf G D i)))) ((z_bI (z_rc D i)).toInt64)) [] hx hb hml hown hts (m_X2_mix l Dg cI (z_mi (z_mi (z_dgb G D d_ i) (Int32.toInt64 (z_sw D i))) (Int32.toInt64 (nI (z_lf G D i)))) ((z_bI (z_rc D i)).toInt64)) gX2_mixBatches_X2_mix rfl kdS_X2_mix ⟨Nat.le_of_ble_eq_true rfl, Nat.le_of_ble_eq_true rfl⟩ hK hN z_P0 rfl hl.1 rfl (Nat.le_of_ble_eq_true rfl) dX2_mixBatches_56 ⟨Nat.zero_le _, Nat.zero_le _⟩ ?_
          refine lv_lstore_n (lv' := [(3, .long (z_mi (z_mi (z_mi (z_dgb G D d_ i) (Int32.toInt64 (z_sw D i))) (Int32.toInt64 (nI (z_lf G D i)))) ((z_bI (z_rc D i)).toInt64))), (0, .ref h), (1, .long d_), (5, .int (nI i))]) hx hb dX2_mixBatches_59 rfl hl (by decide) rfl (fun ls hl => ?_)
          refine lv_lload_n hx hb dX2_mixBatches_60 rfl (lv_at hl 0 rfl) ?_
          refine lv_aload_n hx hb dX2_mixBatches_61 rfl (lv_at hl 1 rfl) ?_
          refine lv_iload hx hb dX2_mixBatches_62 (lv_at hl 3 rfl) ?_
          refine z_wCi (v := z_ur G D i) [.long (z_mi (z_mi (z_mi (z_dgb G D d_ i) (Int32.toInt64 (z_sw D i))) (Int32.toInt64 (nI (z_lf G D i)))) ((z_bI (z_rc D i)).toInt64))] hx hb hml hown hts (m_X2_daysUntilRecalled l Dg cI h na ta G D Gt Dt i (by omega) hG hW) gX2_mixBatches_X2_daysUntilRecalled rfl kd_X2_daysUntilRecalled ⟨Nat.le_of_ble_eq_true rfl, Nat.le_of_ble_eq_true rfl⟩ hK hN hP hD hS rfl hl.1 rfl (Nat.le_of_ble_eq_true rfl) dX2_mixBatches_64 ⟨Nat.zero_le _, Nat.zero_le _⟩ (fun G64 D64 H locs hP hD hS => ?_)
          have hP : va_P Dg vwCl (z_cW cI h na ta G D G64 D64) H := hP
          have hD : va_D _ (z_cW cI h na ta G D G64 D64) := hD
          refine lv_i2l (v := Int32.toInt64 (z_ur G D i)) hx hb dX2_mixBatches_67 rfl ?_
          refine z_rSl (v := z_mi (z_mi (z_mi (z_mi (z_dgb G D d_ i) (Int32.toInt64 (z_sw D i))) (Int32.toInt64 (nI (z_lf G D i)))) ((z_bI (z_rc D i)).toInt64)) (Int32.toInt64 (z_ur G D i))) [] hx hb hml hown hts (m_X2_mix l Dg cI (z_mi (z_mi (z_mi (z_dgb G D d_ i) (Int32.toInt64 (z_sw D i))) (Int32.toInt64 (nI (z_lf G D i)))) ((z_bI (z_rc D i)).toInt64)) (Int32.toInt64 (z_ur G D i))) gX2_mixBatches_X2_mix rfl kdS_X2_mix ⟨Nat.le_of_ble_eq_true rfl, Nat.le_of_ble_eq_true rfl⟩ hK hN z_P0 rfl hl.1 rfl (Nat.le_of_ble_eq_true rfl) dX2_mixBatches_68 ⟨Nat.zero_le _, Nat.zero_le _⟩ ?_
          refine lv_lstore_n (lv' := [(3, .long (z_mi (z_mi (z_mi (z_mi (z_dgb G D d_ i) (Int32.toInt64 (z_sw D i))) (Int32.toInt64 (nI (z_lf G D i)))) ((z_bI (z_rc D i)).toInt64)) (Int32.toInt64 (z_ur G D i)))), (0, .ref h), (1, .long d_), (5, .int (nI i))]) hx hb dX2_mixBatches_71 rfl hl (by decide) rfl (fun ls hl => ?_)
          have hl : lv_has ls 6 [(3, .long (z_dgb G D d_ (i + 1))), (0, .ref h), (1, .long d_), (5, .int (nI i))] := by have q : z_mi (z_mi (z_mi (z_mi (z_dgb G D d_ i) (Int32.toInt64 (z_sw D i))) (Int32.toInt64 (nI (z_lf G D i)))) ((z_bI (z_rc D i)).toInt64)) (Int32.toInt64 (z_ur G D i)) = z_dgb G D d_ (i + 1) := rfl; rw [← q]; exact hl
          refine lv_iinc (v := nI (i + 1)) (lv' := [(5, .int (nI (i + 1))), (3, .long (z_dgb G D d_ (i + 1))), (0, .ref h), (1, .long d_)]) hx hb dX2_mixBatches_72 hl (k := 3) rfl (nI_1 _) (by decide) rfl (fun ls hl => ?_)
          refine lv_goto (tgt := 5) hx hb dX2_mixBatches_75 (by decide) ?_
          exact ih5 (i + 1) G64 D64 (by omega) (by omega) _ _ hP hD hS _ (lv_sub hl [2, 3, 1, 0] rfl)
  exact lp5 (z_bc G + 1) 0 G1 D1 (by omega) (by omega) _ _ hP hD hS _ (lv_sub hl [2, 3, 1, 0] rfl)

set_option maxHeartbeats 4000000 in
set_option maxRecDepth 100000 in
theorem m_X2_mixTins (l : Launch) (Dg : va_G) (cI : ClassId) (h : Nat) (na ta : Nat → Nat) (G : z_GG) (D : z_DD) (G1 : z_GG) (D1 : z_DD) (d_ : Int64) (hG : z_WG G) (hW : z_WD G D) : z_Mr l yX2_mixTins wsX2_mixTins 4 90 [.ref h, .long d_] Dg cI (z_cW cI h na ta G D G1 D1) (some (.long (z_dgt G D d_ (z_tc G)))) := by
  have htc : z_tc G ≤ 60 := hG.2.2.2.2.2.1
  have hbc : z_bc G ≤ 6 := hG.2.2.2.2.1
  refine z_sr (own := RX2) (l0 := [(0, .ref h), (1, .long d_)]) rfl rfl (by decide) (Nat.le_of_ble_eq_true rfl) rfl ?_
  intro p e s m below meth c hx hb hr hml hts hown hlk hP hK hN ls hl
  refine lv_lload_n hx hb dX2_mixTins_0 rfl (lv_at hl 1 rfl) ?_
  refine lv_lstore_n (lv' := [(3, .long d_), (0, .ref h), (1, .long d_)]) hx hb dX2_mixTins_1 rfl hl (by decide) rfl (fun ls hl => ?_)
  refine lv_iconst (v := nI 0) hx hb dX2_mixTins_2 (by decide) ?_
  refine lv_istore (lv' := [(5, .int (nI 0)), (3, .long d_), (0, .ref h), (1, .long d_)]) hx hb dX2_mixTins_3 hl (by decide) rfl (fun ls hl => ?_)
  have lp5 : ∀ (zz i : Nat) , i ≤ z_tc G → z_tc G + 1 ≤ i + zz → ∀ ls : Array Slot, lv_has ls 6 [(0, .ref h), (1, .long d_), (3, .long (z_dgt G D d_ i)), (5, .int (nI i))] → W p l e ({ frames := 4, cells := 0, slots := 0, locals := 90 } : Room) s m ([.ref h, .long d_] : List Value).toArray below meth c s.heap [] 0 0 (MQ below (z_Qr (some (.long (z_dgt G D d_ (z_tc G))))) ([.ref h, .long d_] : List Value).toArray s 0 0 z_no) (F0 m 5 ls []) := by
    intro zz
    induction zz with
    | zero => intros; exfalso; omega
    | succ zz ih5 =>
      intro i hi hzz ls hl
      refine lv_iload hx hb dX2_mixTins_5 (lv_at hl 3 rfl) ?_
      refine lv_aload_n hx hb dX2_mixTins_7 rfl (lv_at hl 0 rfl) ?_
      refine va_get (ci := 2) (v := .ref (na 0)) (C := RX2) (T := TX2) (N := 2) hx hb hts (fun _ h => (List.mem_cons_of_mem _ (List.mem_append_left _ (List.mem_append_left _ (List.mem_append_left _ (List.mem_append_left _ (List.mem_append_right _ h))))))) hown hK hP 0 rfl rfl 0 (by decide) (hts _ (List.mem_cons_of_mem _ (List.mem_append_left _ (List.mem_append_left _ (List.mem_append_left _ (List.mem_append_left _ (List.mem_append_left _ (List.mem_append_left _ (List.mem_of_getElem? (i := 0) rfl))))))))) (fun _ h9 => h9) rfl dX2_mixTins_8 ?_
      refine va_getN (ci := 1) (v := .int (nI (z_tc G))) (C := RX1) (T := TX1) (N := 14) hx hb hts (fun _ h => (List.mem_cons_of_mem _ (List.mem_append_left _ (List.mem_append_left _ (List.mem_append_left _ (List.mem_append_right _ h)))))) hown hK hP 1 rfl rfl 10 (by decide) (va_Nw.use rfl hN.2.2.1) (fun _ h9 => h9) rfl dX2_mixTins_11 ?_
      refine lv_icmp_ge (tgt := 103) hx hb dX2_mixTins_14 (by decide) (fun c14 => ?_) (fun c14 => ?_)
      · skip
        have hi2 : i = z_tc G := Nat.le_antisymm hi (z_le (by omega) (by omega) c14)
        refine lv_lload_n hx hb dX2_mixTins_103 rfl (lv_at hl 2 rfl) ?_
        exact z_er_l (by rw [hi2]) hx hb hr hlk dX2_mixTins_104
      · skip
        have hi2 : i < z_tc G := z_nle (by omega) c14
        refine lv_lload_n hx hb dX2_mixTins_17 rfl (lv_at hl 2 rfl) ?_
        refine lv_aload_n hx hb dX2_mixTins_18 rfl (lv_at hl 0 rfl) ?_
        refine lv_iload hx hb dX2_mixTins_19 (lv_at hl 3 rfl) ?_
        refine z_rVi (v := z_shf G D i) [.long (z_dgt G D d_ i)] hx hb hml hown hts (m_X2_shelfOf l Dg cI h na ta G D G1 D1 i (by omega) hG hW) gX2_mixTins_X2_shelfOf rfl kd_X2_shelfOf ⟨Nat.le_of_ble_eq_true rfl, Nat.le_of_ble_eq_true rfl⟩ hK hN hP rfl rfl rfl rfl hl.1 rfl (Nat.le_of_ble_eq_true rfl) dX2_mixTins_21 ⟨Nat.zero_le _, Nat.zero_le _⟩ ?_
        refine lv_i2l (v := Int32.toInt64 (z_shf G D i)) hx hb dX2_mixTins_24 rfl ?_
        refine z_rSl (v := z_mi (z_dgt G D d_ i) (Int32.toInt64 (z_shf G D i))) [] hx hb hml hown hts (m_X2_mix l Dg cI (z_dgt G D d_ i) (Int32.toInt64 (z_shf G D i))) gX2_mixTins_X2_mix rfl kdS_X2_mix ⟨Nat.le_of_ble_eq_true rfl, Nat.le_of_ble_eq_true rfl⟩ hK hN z_P0 rfl hl.1 rfl (Nat.le_of_ble_eq_true rfl) dX2_mixTins_25 ⟨Nat.zero_le _, Nat.zero_le _⟩ ?_
        refine lv_lstore_n (lv' := [(3, .long (z_mi (z_dgt G D d_ i) (Int32.toInt64 (z_shf G D i)))), (0, .ref h), (1, .long d_), (5, .int (nI i))]) hx hb dX2_mixTins_28 rfl hl (by decide) rfl (fun ls hl => ?_)
        refine lv_lload_n hx hb dX2_mixTins_29 rfl (lv_at hl 0 rfl) ?_
        refine lv_aload_n hx hb dX2_mixTins_30 rfl (lv_at hl 1 rfl) ?_
        refine lv_iload hx hb dX2_mixTins_31 (lv_at hl 3 rfl) ?_
        refine z_rVi (v := z_vc D i) [.long (z_mi (z_dgt G D d_ i) (Int32.toInt64 (z_shf G D i)))] hx hb hml hown hts (m_X2_vacuumOf l Dg cI h na ta G D G1 D1 i (by omega) hG hW) gX2_mixTins_X2_vacuumOf rfl kd_X2_vacuumOf ⟨Nat.le_of_ble_eq_true rfl, Nat.le_of_ble_eq_true rfl⟩ hK hN hP rfl rfl rfl rfl hl.1 rfl (Nat.le_of_ble_eq_true rfl) dX2_mixTins_33 ⟨Nat.zero_le _, Nat.zero_le _⟩ ?_
        refine lv_i2l (v := Int32.toInt64 (z_vc D i)) hx hb dX2_mixTins_36 rfl ?_
        refine z_rSl (v := z_mi (z_mi (z_dgt G D d_ i) (Int32.toInt64 (z_shf G D i))) (Int32.toInt64 (z_vc D i))) [] hx hb hml hown hts (m_X2_mix l Dg cI (z_mi (z_dgt G D d_ i) (Int32.toInt64 (z_shf G D i))) (Int32.toInt64 (z_vc D i))) gX2_mixTins_X2_mix rfl kdS_X2_mix ⟨Nat.le_of_ble_eq_true rfl, Nat.le_of_ble_eq_true rfl⟩ hK hN z_P0 rfl hl.1 rfl (Nat.le_of_ble_eq_true rfl) dX2_mixTins_37 ⟨Nat.zero_le _, Nat.zero_le _⟩ ?_
        refine lv_lstore_n (lv' := [(3, .long (z_mi (z_mi (z_dgt G D d_ i) (Int32.toInt64 (z_shf G D i))) (Int32.toInt64 (z_vc D i)))), (0, .ref h), (1, .long d_), (5, .int (nI i))]) hx hb dX2_mixTins_40 rfl hl (by decide) rfl (fun ls hl => ?_)
        refine lv_lload_n hx hb dX2_mixTins_41 rfl (lv_at hl 0 rfl) ?_
        refine lv_aload_n hx hb dX2_mixTins_42 rfl (lv_at hl 1 rfl) ?_
        refine lv_iload hx hb dX2_mixTins_43 (lv_at hl 3 rfl) ?_
        refine z_rVi (v := z_bI (z_pl D i == 2)) [.long (z_mi (z_mi (z_dgt G D d_ i) (Int32.toInt64 (z_shf G D i))) (Int32.toInt64 (z_vc D i)))] hx hb hml hown hts (m_X2_isShipped l Dg cI h na ta G D G1 D1 i (by omega) hG hW) gX2_mixTins_X2_isShipped rfl kd_X2_isShipped ⟨Nat.le_of_ble_eq_true rfl, Nat.le_of_ble_eq_true rfl⟩ hK hN hP rfl rfl rfl rfl hl.1 rfl (Nat.le_of_ble_eq_true rfl) dX2_mixTins_45 ⟨Nat.zero_le _, Nat.zero_le _⟩ ?_
        refine lv_if_eq (tgt := 55) hx hb dX2_mixTins_48 (by decide) (fun c48 => ?_) (fun c48 => ?_)
        · skip
          refine lv_lconst (v := 0) hx hb dX2_mixTins_55 (by decide) ?_
          refine z_topl (x' := (z_bI (z_pl D i == 2)).toInt64) (by rw [z_bI0 c48]; rfl) ?_
          refine z_rSl (v := z_mi (z_mi (z_mi (z_dgt G D d_ i) (Int32.toInt64 (z_shf G D i))) (Int32.toInt64 (z_vc D i))) ((z_bI (z_pl D i == 2)).toInt64)) [] hx hb hml hown hts (m_X2_mix l Dg cI (z_mi (z_mi (z_dgt G D d_ i) (Int32.toInt64 (z_shf G D i))) (Int32.toInt64 (z_vc D i))) ((z_bI (z_pl D i == 2)).toInt64)) gX2_mixTins_X2_mix rfl kdS_X2_mix ⟨Nat.le_of_ble_eq_true rfl, Nat.le_of_ble_eq_true rfl⟩ hK hN z_P0 rfl hl.1 rfl (Nat.le_of_ble_eq_true rfl) dX2_mixTins_56 ⟨Nat.zero_le _, Nat.zero_le _⟩ ?_
          refine lv_lstore_n (lv' := [(3, .long (z_mi (z_mi (z_mi (z_dgt G D d_ i) (Int32.toInt64 (z_shf G D i))) (Int32.toInt64 (z_vc D i))) ((z_bI (z_pl D i == 2)).toInt64))), (0, .ref h), (1, .long d_), (5, .int (nI i))]) hx hb dX2_mixTins_59 rfl hl (by decide) rfl (fun ls hl => ?_)
          refine lv_lload_n hx hb dX2_mixTins_60 rfl (lv_at hl 0 rfl) ?_
          refine lv_aload_n hx hb dX2_mixTins_61 rfl (lv_at hl 1 rfl) ?_
          refine lv_iload hx hb dX2_mixTins_62 (lv_at hl 3 rfl) ?_
          refine lv_iconst (v := nI 1) hx hb dX2_mixTins_64 (by decide) ?_
          refine z_rVi (v := z_plb G D 1 i) [.long (z_mi (z_mi (z_mi (z_dgt G D d_ i) (Int32.toInt64 (z_shf G D i))) (Int32.toInt64 (z_vc D i))) ((z_bI (z_pl D i == 2)).toInt64))] hx hb hml hown hts (m_X2_placeBy l Dg cI h na ta G D G1 D1 i 1 (by omega) (by omega) hG hW) gX2_mixTins_X2_placeBy rfl kd_X2_placeBy ⟨Nat.le_of_ble_eq_true rfl, Nat.le_of_ble_eq_true rfl⟩ hK hN hP rfl rfl rfl rfl hl.1 rfl (Nat.le_of_ble_eq_true rfl) dX2_mixTins_65 ⟨Nat.zero_le _, Nat.zero_le _⟩ ?_
          refine lv_i2l (v := Int32.toInt64 (z_plb G D 1 i)) hx hb dX2_mixTins_68 rfl ?_
          refine z_rSl (v := z_mi (z_mi (z_mi (z_mi (z_dgt G D d_ i) (Int32.toInt64 (z_shf G D i))) (Int32.toInt64 (z_vc D i))) ((z_bI (z_pl D i == 2)).toInt64)) (Int32.toInt64 (z_plb G D 1 i))) [] hx hb hml hown hts (m_X2_mix l Dg cI (z_mi (z_mi (z_mi (z_dgt G D d_ i) (Int32.toInt64 (z_shf G D i))) (Int32.toInt64 (z_vc D i))) ((z_bI (z_pl D i == 2)).toInt64)) (Int32.toInt64 (z_plb G D 1 i))) gX2_mixTins_X2_mix rfl kdS_X2_mix ⟨Nat.le_of_ble_eq_true rfl, Nat.le_of_ble_eq_true rfl⟩ hK hN z_P0 rfl hl.1 rfl (Nat.le_of_ble_eq_true rfl) dX2_mixTins_69 ⟨Nat.zero_le _, Nat.zero_le _⟩ ?_
          refine lv_lstore_n (lv' := [(3, .long (z_mi (z_mi (z_mi (z_mi (z_dgt G D d_ i) (Int32.toInt64 (z_shf G D i))) (Int32.toInt64 (z_vc D i))) ((z_bI (z_pl D i == 2)).toInt64)) (Int32.toInt64 (z_plb G D 1 i)))), (0, .ref h), (1, .long d_), (5, .int (nI i))]) hx hb dX2_mixTins_72 rfl hl (by decide) rfl (fun ls hl => ?_)
          refine lv_lload_n hx hb dX2_mixTins_73 rfl (lv_at hl 0 rfl) ?_
          refine lv_aload_n hx hb dX2_mixTins_74 rfl (lv_at hl 1 rfl) ?_
          refine lv_iload hx hb dX2_mixTins_75 (lv_at hl 3 rfl) ?_
          refine z_rVi (v := z_dof G D i) [.long (z_mi (z_mi (z_mi (z_mi (z_dgt G D d_ i) (Int32.toInt64 (z_shf G D i))) (Int32.toInt64 (z_vc D i))) ((z_bI (z_pl D i == 2)).toInt64)) (Int32.toInt64 (z_plb G D 1 i)))] hx hb hml hown hts (m_X2_daysOf l Dg cI h na ta G D G1 D1 i (by omega) hG hW) gX2_mixTins_X2_daysOf rfl kd_X2_daysOf ⟨Nat.le_of_ble_eq_true rfl, Nat.le_of_ble_eq_true rfl⟩ hK hN hP rfl rfl rfl rfl hl.1 rfl (Nat.le_of_ble_eq_true rfl) dX2_mixTins_77 ⟨Nat.zero_le _, Nat.zero_le _⟩ ?_
          refine lv_i2l (v := Int32.toInt64 (z_dof G D i)) hx hb dX2_mixTins_80 rfl ?_
          refine z_rSl (v := z_mi (z_mi (z_mi (z_mi (z_mi (z_dgt G D d_ i) (Int32.toInt64 (z_shf G D i))) (Int32.toInt64 (z_vc D i))) ((z_bI (z_pl D i == 2)).toInt64)) (Int32.toInt64 (z_plb G D 1 i))) (Int32.toInt64 (z_dof G D i))) [] hx hb hml hown hts (m_X2_mix l Dg cI (z_mi (z_mi (z_mi (z_mi (z_dgt G D d_ i) (Int32.toInt64 (z_shf G D i))) (Int32.toInt64 (z_vc D i))) ((z_bI (z_pl D i == 2)).toInt64)) (Int32.toInt64 (z_plb G D 1 i))) (Int32.toInt64 (z_dof G D i))) gX2_mixTins_X2_mix rfl kdS_X2_mix ⟨Nat.le_of_ble_eq_true rfl, Nat.le_of_ble_eq_true rfl⟩ hK hN z_P0 rfl hl.1 rfl (Nat.le_of_ble_eq_true rfl) dX2_mixTins_81 ⟨Nat.zero_le _, Nat.zero_le _⟩ ?_
          refine lv_lstore_n (lv' := [(3, .long (z_mi (z_mi (z_mi (z_mi (z_mi (z_dgt G D d_ i) (Int32.toInt64 (z_shf G D i))) (Int32.toInt64 (z_vc D i))) ((z_bI (z_pl D i == 2)).toInt64)) (Int32.toInt64 (z_plb G D 1 i))) (Int32.toInt64 (z_dof G D i)))), (0, .ref h), (1, .long d_), (5, .int (nI i))]) hx hb dX2_mixTins_84 rfl hl (by decide) rfl (fun ls hl => ?_)
          refine lv_lload_n hx hb dX2_mixTins_85 rfl (lv_at hl 0 rfl) ?_
          refine lv_aload_n hx hb dX2_mixTins_86 rfl (lv_at hl 1 rfl) ?_
          refine lv_iload hx hb dX2_mixTins_87 (lv_at hl 3 rfl) ?_
          refine z_rVi (v := z_bsh G D i) [.long (z_mi (z_mi (z_mi (z_mi (z_mi (z_dgt G D d_ i) (Int32.toInt64 (z_shf G D i))) (Int32.toInt64 (z_vc D i))) ((z_bI (z_pl D i == 2)).toInt64)) (Int32.toInt64 (z_plb G D 1 i))) (Int32.toInt64 (z_dof G D i)))] hx hb hml hown hts (m_X2_bestShelf l Dg cI h na ta G D G1 D1 i (by omega) hG hW) gX2_mixTins_X2_bestShelf rfl kd_X2_bestShelf ⟨Nat.le_of_ble_eq_true rfl, Nat.le_of_ble_eq_true rfl⟩ hK hN hP rfl rfl rfl rfl hl.1 rfl (Nat.le_of_ble_eq_true rfl) dX2_mixTins_89 ⟨Nat.zero_le _, Nat.zero_le _⟩ ?_
          refine lv_i2l (v := Int32.toInt64 (z_bsh G D i)) hx hb dX2_mixTins_92 rfl ?_
          refine z_rSl (v := z_mi (z_mi (z_mi (z_mi (z_mi (z_mi (z_dgt G D d_ i) (Int32.toInt64 (z_shf G D i))) (Int32.toInt64 (z_vc D i))) ((z_bI (z_pl D i == 2)).toInt64)) (Int32.toInt64 (z_plb G D 1 i))) (Int32.toInt64 (z_dof G D i))) (Int32.toInt64 (z_bsh G D i))) [] hx hb hml hown hts (m_X2_mix l Dg cI (z_mi (z_mi (z_mi (z_mi (z_mi (z_dgt G D d_ i) (Int32.toInt64 (z_shf G D i))) (Int32.toInt64 (z_vc D i))) ((z_bI (z_pl D i == 2)).toInt64)) (Int32.toInt64 (z_plb G D 1 i))) (Int32.toInt64 (z_dof G D i))) (Int32.toInt64 (z_bsh G D i))) gX2_mixTins_X2_mix rfl kdS_X2_mix ⟨Nat.le_of_ble_eq_true rfl, Nat.le_of_ble_eq_true rfl⟩ hK hN z_P0 rfl hl.1 rfl (Nat.le_of_ble_eq_true rfl) dX2_mixTins_93 ⟨Nat.zero_le _, Nat.zero_le _⟩ ?_
          refine lv_lstore_n (lv' := [(3, .long (z_mi (z_mi (z_mi (z_mi (z_mi (z_mi (z_dgt G D d_ i) (Int32.toInt64 (z_shf G D i))) (Int32.toInt64 (z_vc D i))) ((z_bI (z_pl D i == 2)).toInt64)) (Int32.toInt64 (z_plb G D 1 i))) (Int32.toInt64 (z_dof G D i))) (Int32.toInt64 (z_bsh G D i)))), (0, .ref h), (1, .long d_), (5, .int (nI i))]) hx hb dX2_mixTins_96 rfl hl (by decide) rfl (fun ls hl => ?_)
          have hl : lv_has ls 6 [(3, .long (z_dgt G D d_ (i + 1))), (0, .ref h), (1, .long d_), (5, .int (nI i))] := by have q : z_mi (z_mi (z_mi (z_mi (z_mi (z_mi (z_dgt G D d_ i) (Int32.toInt64 (z_shf G D i))) (Int32.toInt64 (z_vc D i))) ((z_bI (z_pl D i == 2)).toInt64)) (Int32.toInt64 (z_plb G D 1 i))) (Int32.toInt64 (z_dof G D i))) (Int32.toInt64 (z_bsh G D i)) = z_dgt G D d_ (i + 1) := rfl; rw [← q]; exact hl
          refine lv_iinc (v := nI (i + 1)) (lv' := [(5, .int (nI (i + 1))), (3, .long (z_dgt G D d_ (i + 1))), (0, .ref h), (1, .long d_)]) hx hb dX2_mixTins_97 hl (k := 3) rfl (nI_1 _) (by decide) rfl (fun ls hl => ?_)
          refine lv_goto (tgt := 5) hx hb dX2_mixTins_100 (by decide) ?_
          exact ih5 (i + 1) (by omega) (by omega) _ (lv_sub hl [2, 3, 1, 0] rfl)
        · skip
          refine lv_lconst (v := 1) hx hb dX2_mixTins_51 (by decide) ?_
          refine lv_goto (tgt := 56) hx hb dX2_mixTins_52 (by decide) ?_
          refine z_topl (x' := (z_bI (z_pl D i == 2)).toInt64) (by rw [z_bI1 c48]; rfl) ?_
          refine z_rSl (v := z_mi (z_mi (z_mi (z_dgt G D d_ i) (Int32.toInt64 (z_shf G D i))) (Int32.toInt64 (z_vc D i))) ((z_bI (z_pl D i == 2)).toInt64)) [] hx hb hml hown hts (m_X2_mix l Dg cI (z_mi (z_mi (z_dgt G D d_ i) (Int32.toInt64 (z_shf G D i))) (Int32.toInt64 (z_vc D i))) ((z_bI (z_pl D i == 2)).toInt64)) gX2_mixTins_X2_mix rfl kdS_X2_mix ⟨Nat.le_of_ble_eq_true rfl, Nat.le_of_ble_eq_true rfl⟩ hK hN z_P0 rfl hl.1 rfl (Nat.le_of_ble_eq_true rfl) dX2_mixTins_56 ⟨Nat.zero_le _, Nat.zero_le _⟩ ?_
          refine lv_lstore_n (lv' := [(3, .long (z_mi (z_mi (z_mi (z_dgt G D d_ i) (Int32.toInt64 (z_shf G D i))) (Int32.toInt64 (z_vc D i))) ((z_bI (z_pl D i == 2)).toInt64))), (0, .ref h), (1, .long d_), (5, .int (nI i))]) hx hb dX2_mixTins_59 rfl hl (by decide) rfl (fun ls hl => ?_)
          refine lv_lload_n hx hb dX2_mixTins_60 rfl (lv_at hl 0 rfl) ?_
          refine lv_aload_n hx hb dX2_mixTins_61 rfl (lv_at hl 1 rfl) ?_
          refine lv_iload hx hb dX2_mixTins_62 (lv_at hl 3 rfl) ?_
          refine lv_iconst (v := nI 1) hx hb dX2_mixTins_64 (by decide) ?_
          refine z_rVi (v := z_plb G D 1 i) [.long (z_mi (z_mi (z_mi (z_dgt G D d_ i) (Int32.toInt64 (z_shf G D i))) (Int32.toInt64 (z_vc D i))) ((z_bI (z_pl D i == 2)).toInt64))] hx hb hml hown hts (m_X2_placeBy l Dg cI h na ta G D G1 D1 i 1 (by omega) (by omega) hG hW) gX2_mixTins_X2_placeBy rfl kd_X2_placeBy ⟨Nat.le_of_ble_eq_true rfl, Nat.le_of_ble_eq_true rfl⟩ hK hN hP rfl rfl rfl rfl hl.1 rfl (Nat.le_of_ble_eq_true rfl) dX2_mixTins_65 ⟨Nat.zero_le _, Nat.zero_le _⟩ ?_
          refine lv_i2l (v := Int32.toInt64 (z_plb G D 1 i)) hx hb dX2_mixTins_68 rfl ?_
          refine z_rSl (v := z_mi (z_mi (z_mi (z_mi (z_dgt G D d_ i) (Int32.toInt64 (z_shf G D i))) (Int32.toInt64 (z_vc D i))) ((z_bI (z_pl D i == 2)).toInt64)) (Int32.toInt64 (z_plb G D 1 i))) [] hx hb hml hown hts (m_X2_mix l Dg cI (z_mi (z_mi (z_mi (z_dgt G D d_ i) (Int32.toInt64 (z_shf G D i))) (Int32.toInt64 (z_vc D i))) ((z_bI (z_pl D i == 2)).toInt64)) (Int32.toInt64 (z_plb G D 1 i))) gX2_mixTins_X2_mix rfl kdS_X2_mix ⟨Nat.le_of_ble_eq_true rfl, Nat.le_of_ble_eq_true rfl⟩ hK hN z_P0 rfl hl.1 rfl (Nat.le_of_ble_eq_true rfl) dX2_mixTins_69 ⟨Nat.zero_le _, Nat.zero_le _⟩ ?_
          refine lv_lstore_n (lv' := [(3, .long (z_mi (z_mi (z_mi (z_mi (z_dgt G D d_ i) (Int32.toInt64 (z_shf G D i))) (Int32.toInt64 (z_vc D i))) ((z_bI (z_pl D i == 2)).toInt64)) (Int32.toInt64 (z_plb G D 1 i)))), (0, .ref h), (1, .long d_), (5, .int (nI i))]) hx hb dX2_mixTins_72 rfl hl (by decide) rfl (fun ls hl => ?_)
          refine lv_lload_n hx hb dX2_mixTins_73 rfl (lv_at hl 0 rfl) ?_
          refine lv_aload_n hx hb dX2_mixTins_74 rfl (lv_at hl 1 rfl) ?_
          refine lv_iload hx hb dX2_mixTins_75 (lv_at hl 3 rfl) ?_
          refine z_rVi (v := z_dof G D i) [.long (z_mi (z_mi (z_mi (z_mi (z_dgt G D d_ i) (Int32.toInt64 (z_shf G D i))) (Int32.toInt64 (z_vc D i))) ((z_bI (z_pl D i == 2)).toInt64)) (Int32.toInt64 (z_plb G D 1 i)))] hx hb hml hown hts (m_X2_daysOf l Dg cI h na ta G D G1 D1 i (by omega) hG hW) gX2_mixTins_X2_daysOf rfl kd_X2_daysOf ⟨Nat.le_of_ble_eq_true rfl, Nat.le_of_ble_eq_true rfl⟩ hK hN hP rfl rfl rfl rfl hl.1 rfl (Nat.le_of_ble_eq_true rfl) dX2_mixTins_77 ⟨Nat.zero_le _, Nat.zero_le _⟩ ?_
          refine lv_i2l (v := Int32.toInt64 (z_dof G D i)) hx hb dX2_mixTins_80 rfl ?_
          refine z_rSl (v := z_mi (z_mi (z_mi (z_mi (z_mi (z_dgt G D d_ i) (Int32.toInt64 (z_shf G D i))) (Int32.toInt64 (z_vc D i))) ((z_bI (z_pl D i == 2)).toInt64)) (Int32.toInt64 (z_plb G D 1 i))) (Int32.toInt64 (z_dof G D i))) [] hx hb hml hown hts (m_X2_mix l Dg cI (z_mi (z_mi (z_mi (z_mi (z_dgt G D d_ i) (Int32.toInt64 (z_shf G D i))) (Int32.toInt64 (z_vc D i))) ((z_bI (z_pl D i == 2)).toInt64)) (Int32.toInt64 (z_plb G D 1 i))) (Int32.toInt64 (z_dof G D i))) gX2_mixTins_X2_mix rfl kdS_X2_mix ⟨Nat.le_of_ble_eq_true rfl, Nat.le_of_ble_eq_true rfl⟩ hK hN z_P0 rfl hl.1 rfl (Nat.le_of_ble_eq_true rfl) dX2_mixTins_81 ⟨Nat.zero_le _, Nat.zero_le _⟩ ?_
          refine lv_lstore_n (lv' := [(3, .long (z_mi (z_mi (z_mi (z_mi (z_mi (z_dgt G D d_ i) (Int32.toInt64 (z_shf G D i))) (Int32.toInt64 (z_vc D i))) ((z_bI (z_pl D i == 2)).toInt64)) (Int32.toInt64 (z_plb G D 1 i))) (Int32.toInt64 (z_dof G D i)))), (0, .ref h), (1, .long d_), (5, .int (nI i))]) hx hb dX2_mixTins_84 rfl hl (by decide) rfl (fun ls hl => ?_)
          refine lv_lload_n hx hb dX2_mixTins_85 rfl (lv_at hl 0 rfl) ?_
          refine lv_aload_n hx hb dX2_mixTins_86 rfl (lv_at hl 1 rfl) ?_
          refine lv_iload hx hb dX2_mixTins_87 (lv_at hl 3 rfl) ?_
          refine z_rVi (v := z_bsh G D i) [.long (z_mi (z_mi (z_mi (z_mi (z_mi (z_dgt G D d_ i) (Int32.toInt64 (z_shf G D i))) (Int32.toInt64 (z_vc D i))) ((z_bI (z_pl D i == 2)).toInt64)) (Int32.toInt64 (z_plb G D 1 i))) (Int32.toInt64 (z_dof G D i)))] hx hb hml hown hts (m_X2_bestShelf l Dg cI h na ta G D G1 D1 i (by omega) hG hW) gX2_mixTins_X2_bestShelf rfl kd_X2_bestShelf ⟨Nat.le_of_ble_eq_true rfl, Nat.le_of_ble_eq_true rfl⟩ hK hN hP rfl rfl rfl rfl hl.1 rfl (Nat.le_of_ble_eq_true rfl) dX2_mixTins_89 ⟨Nat.zero_le _, Nat.zero_le _⟩ ?_
          refine lv_i2l (v := Int32.toInt64 (z_bsh G D i)) hx hb dX2_mixTins_92 rfl ?_
          refine z_rSl (v := z_mi (z_mi (z_mi (z_mi (z_mi (z_mi (z_dgt G D d_ i) (Int32.toInt64 (z_shf G D i))) (Int32.toInt64 (z_vc D i))) ((z_bI (z_pl D i == 2)).toInt64)) (Int32.toInt64 (z_plb G D 1 i))) (Int32.toInt64 (z_dof G D i))) (Int32.toInt64 (z_bsh G D i))) [] hx hb hml hown hts (m_X2_mix l Dg cI (z_mi (z_mi (z_mi (z_mi (z_mi (z_dgt G D d_ i) (Int32.toInt64 (z_shf G D i))) (Int32.toInt64 (z_vc D i))) ((z_bI (z_pl D i == 2)).toInt64)) (Int32.toInt64 (z_plb G D 1 i))) (Int32.toInt64 (z_dof G D i))) (Int32.toInt64 (z_bsh G D i))) gX2_mixTins_X2_mix rfl kdS_X2_mix ⟨Nat.le_of_ble_eq_true rfl, Nat.le_of_ble_eq_true rfl⟩ hK hN z_P0 rfl hl.1 rfl (Nat.le_of_ble_eq_true rfl) dX2_mixTins_93 ⟨Nat.zero_le _, Nat.zero_le _⟩ ?_
          refine lv_lstore_n (lv' := [(3, .long (z_mi (z_mi (z_mi (z_mi (z_mi (z_mi (z_dgt G D d_ i) (Int32.toInt64 (z_shf G D i))) (Int32.toInt64 (z_vc D i))) ((z_bI (z_pl D i == 2)).toInt64)) (Int32.toInt64 (z_plb G D 1 i))) (Int32.toInt64 (z_dof G D i))) (Int32.toInt64 (z_bsh G D i)))), (0, .ref h), (1, .long d_), (5, .int (nI i))]) hx hb dX2_mixTins_96 rfl hl (by decide) rfl (fun ls hl => ?_)
          have hl : lv_has ls 6 [(3, .long (z_dgt G D d_ (i + 1))), (0, .ref h), (1, .long d_), (5, .int (nI i))] := by have q : z_mi (z_mi (z_mi (z_mi (z_mi (z_mi (z_dgt G D d_ i) (Int32.toInt64 (z_shf G D i))) (Int32.toInt64 (z_vc D i))) ((z_bI (z_pl D i == 2)).toInt64)) (Int32.toInt64 (z_plb G D 1 i))) (Int32.toInt64 (z_dof G D i))) (Int32.toInt64 (z_bsh G D i)) = z_dgt G D d_ (i + 1) := rfl; rw [← q]; exact hl
          refine lv_iinc (v := nI (i + 1)) (lv' := [(5, .int (nI (i + 1))), (3, .long (z_dgt G D d_ (i + 1))), (0, .ref h), (1, .long d_)]) hx hb dX2_mixTins_97 hl (k := 3) rfl (nI_1 _) (by decide) rfl (fun ls hl => ?_)
          refine lv_goto (tgt := 5) hx hb dX2_mixTins_100 (by decide) ?_
          exact ih5 (i + 1) (by omega) (by omega) _ (lv_sub hl [2, 3, 1, 0] rfl)
  exact lp5 (z_tc G + 1) 0 (by omega) (by omega) _ (lv_sub hl [2, 3, 1, 0] rfl)

set_option maxHeartbeats 4000000 in
set_option maxRecDepth 100000 in
theorem m_X2_digest (l : Launch) (Dg : va_G) (cI : ClassId) (h : Nat) (na ta : Nat → Nat) (G : z_GG) (D : z_DD) (G1 : z_GG) (D1 : z_DD) (hG : z_WG G) (hW : z_WD G D) : z_Mc l yX2_digest wsX2_digest 6 136 [.ref h] Dg cI h na ta G D G1 D1 (some (.long (z_dg G D))) G D := by
  have htc : z_tc G ≤ 60 := hG.2.2.2.2.2.1
  have hbc : z_bc G ≤ 6 := hG.2.2.2.2.1
  refine z_sw' (own := RX2) (l0 := [(0, .ref h)]) rfl rfl (by decide) (Nat.le_of_ble_eq_true rfl) rfl ?_
  intro p e s m below meth c hx hb hr hml hts hown hlk hP hK hN hD hS ls hl
  refine lv_ldc2 (v := 2351) hx hb hown (hts _ (List.mem_cons_of_mem _ (List.mem_append_left _ (List.mem_append_left _ (List.mem_append_left _ (List.mem_append_left _ (List.mem_append_left _ (List.mem_append_left _ (List.mem_of_getElem? (i := 0) rfl))))))))) dX2_digest_0 ?_
  refine lv_lstore_n (lv' := [(1, .long 2351), (0, .ref h)]) hx hb dX2_digest_3 rfl hl (by decide) rfl (fun ls hl => ?_)
  refine lv_lload_n hx hb dX2_digest_4 rfl (lv_at hl 0 rfl) ?_
  refine lv_aload_n hx hb dX2_digest_5 rfl (lv_at hl 1 rfl) ?_
  refine z_rVi (v := z_dy D) [.long 2351] hx hb hml hown hts (m_X2_day l Dg cI h na ta G D G1 D1 hG hW) gX2_digest_X2_day rfl kd_X2_day ⟨Nat.le_of_ble_eq_true rfl, Nat.le_of_ble_eq_true rfl⟩ hK hN hP rfl rfl rfl rfl hl.1 rfl (Nat.le_of_ble_eq_true rfl) dX2_digest_6 ⟨Nat.zero_le _, Nat.zero_le _⟩ ?_
  refine lv_i2l (v := Int32.toInt64 (z_dy D)) hx hb dX2_digest_9 rfl ?_
  refine z_rSl (v := z_mi 2351 (Int32.toInt64 (z_dy D))) [] hx hb hml hown hts (m_X2_mix l Dg cI 2351 (Int32.toInt64 (z_dy D))) gX2_digest_X2_mix rfl kdS_X2_mix ⟨Nat.le_of_ble_eq_true rfl, Nat.le_of_ble_eq_true rfl⟩ hK hN z_P0 rfl hl.1 rfl (Nat.le_of_ble_eq_true rfl) dX2_digest_10 ⟨Nat.zero_le _, Nat.zero_le _⟩ ?_
  refine lv_lstore_n (lv' := [(1, .long (z_mi 2351 (Int32.toInt64 (z_dy D)))), (0, .ref h)]) hx hb dX2_digest_13 rfl hl (by decide) rfl (fun ls hl => ?_)
  refine lv_lload_n hx hb dX2_digest_14 rfl (lv_at hl 0 rfl) ?_
  refine lv_aload_n hx hb dX2_digest_15 rfl (lv_at hl 1 rfl) ?_
  refine z_rVi (v := nI (z_bc G)) [.long (z_mi 2351 (Int32.toInt64 (z_dy D)))] hx hb hml hown hts (m_X2_batches l Dg cI h na ta G D G1 D1 hG hW) gX2_digest_X2_batches rfl kd_X2_batches ⟨Nat.le_of_ble_eq_true rfl, Nat.le_of_ble_eq_true rfl⟩ hK hN hP rfl rfl rfl rfl hl.1 rfl (Nat.le_of_ble_eq_true rfl) dX2_digest_16 ⟨Nat.zero_le _, Nat.zero_le _⟩ ?_
  refine lv_i2l (v := Int32.toInt64 (nI (z_bc G))) hx hb dX2_digest_19 rfl ?_
  refine z_rSl (v := z_mi (z_mi 2351 (Int32.toInt64 (z_dy D))) (Int32.toInt64 (nI (z_bc G)))) [] hx hb hml hown hts (m_X2_mix l Dg cI (z_mi 2351 (Int32.toInt64 (z_dy D))) (Int32.toInt64 (nI (z_bc G)))) gX2_digest_X2_mix rfl kdS_X2_mix ⟨Nat.le_of_ble_eq_true rfl, Nat.le_of_ble_eq_true rfl⟩ hK hN z_P0 rfl hl.1 rfl (Nat.le_of_ble_eq_true rfl) dX2_digest_20 ⟨Nat.zero_le _, Nat.zero_le _⟩ ?_
  refine lv_lstore_n (lv' := [(1, .long (z_mi (z_mi 2351 (Int32.toInt64 (z_dy D))) (Int32.toInt64 (nI (z_bc G))))), (0, .ref h)]) hx hb dX2_digest_23 rfl hl (by decide) rfl (fun ls hl => ?_)
  refine lv_lload_n hx hb dX2_digest_24 rfl (lv_at hl 0 rfl) ?_
  refine lv_aload_n hx hb dX2_digest_25 rfl (lv_at hl 1 rfl) ?_
  refine z_rVi (v := nI (z_tc G)) [.long (z_mi (z_mi 2351 (Int32.toInt64 (z_dy D))) (Int32.toInt64 (nI (z_bc G))))] hx hb hml hown hts (m_X2_tins l Dg cI h na ta G D G1 D1 hG hW) gX2_digest_X2_tins rfl kd_X2_tins ⟨Nat.le_of_ble_eq_true rfl, Nat.le_of_ble_eq_true rfl⟩ hK hN hP rfl rfl rfl rfl hl.1 rfl (Nat.le_of_ble_eq_true rfl) dX2_digest_26 ⟨Nat.zero_le _, Nat.zero_le _⟩ ?_
  refine lv_i2l (v := Int32.toInt64 (nI (z_tc G))) hx hb dX2_digest_29 rfl ?_
  refine z_rSl (v := z_mi (z_mi (z_mi 2351 (Int32.toInt64 (z_dy D))) (Int32.toInt64 (nI (z_bc G)))) (Int32.toInt64 (nI (z_tc G)))) [] hx hb hml hown hts (m_X2_mix l Dg cI (z_mi (z_mi 2351 (Int32.toInt64 (z_dy D))) (Int32.toInt64 (nI (z_bc G)))) (Int32.toInt64 (nI (z_tc G)))) gX2_digest_X2_mix rfl kdS_X2_mix ⟨Nat.le_of_ble_eq_true rfl, Nat.le_of_ble_eq_true rfl⟩ hK hN z_P0 rfl hl.1 rfl (Nat.le_of_ble_eq_true rfl) dX2_digest_30 ⟨Nat.zero_le _, Nat.zero_le _⟩ ?_
  refine lv_lstore_n (lv' := [(1, .long (z_mi (z_mi (z_mi 2351 (Int32.toInt64 (z_dy D))) (Int32.toInt64 (nI (z_bc G)))) (Int32.toInt64 (nI (z_tc G))))), (0, .ref h)]) hx hb dX2_digest_33 rfl hl (by decide) rfl (fun ls hl => ?_)
  refine lv_lload_n hx hb dX2_digest_34 rfl (lv_at hl 0 rfl) ?_
  refine lv_aload_n hx hb dX2_digest_35 rfl (lv_at hl 1 rfl) ?_
  refine z_rVi (v := nI (z_cn G D 1)) [.long (z_mi (z_mi (z_mi 2351 (Int32.toInt64 (z_dy D))) (Int32.toInt64 (nI (z_bc G)))) (Int32.toInt64 (nI (z_tc G))))] hx hb hml hown hts (m_X2_inCellar l Dg cI h na ta G D G1 D1 hG hW) gX2_digest_X2_inCellar rfl kd_X2_inCellar ⟨Nat.le_of_ble_eq_true rfl, Nat.le_of_ble_eq_true rfl⟩ hK hN hP rfl rfl rfl rfl hl.1 rfl (Nat.le_of_ble_eq_true rfl) dX2_digest_36 ⟨Nat.zero_le _, Nat.zero_le _⟩ ?_
  refine lv_i2l (v := Int32.toInt64 (nI (z_cn G D 1))) hx hb dX2_digest_39 rfl ?_
  refine z_rSl (v := z_mi (z_mi (z_mi (z_mi 2351 (Int32.toInt64 (z_dy D))) (Int32.toInt64 (nI (z_bc G)))) (Int32.toInt64 (nI (z_tc G)))) (Int32.toInt64 (nI (z_cn G D 1)))) [] hx hb hml hown hts (m_X2_mix l Dg cI (z_mi (z_mi (z_mi 2351 (Int32.toInt64 (z_dy D))) (Int32.toInt64 (nI (z_bc G)))) (Int32.toInt64 (nI (z_tc G)))) (Int32.toInt64 (nI (z_cn G D 1)))) gX2_digest_X2_mix rfl kdS_X2_mix ⟨Nat.le_of_ble_eq_true rfl, Nat.le_of_ble_eq_true rfl⟩ hK hN z_P0 rfl hl.1 rfl (Nat.le_of_ble_eq_true rfl) dX2_digest_40 ⟨Nat.zero_le _, Nat.zero_le _⟩ ?_
  refine lv_lstore_n (lv' := [(1, .long (z_mi (z_mi (z_mi (z_mi 2351 (Int32.toInt64 (z_dy D))) (Int32.toInt64 (nI (z_bc G)))) (Int32.toInt64 (nI (z_tc G)))) (Int32.toInt64 (nI (z_cn G D 1))))), (0, .ref h)]) hx hb dX2_digest_43 rfl hl (by decide) rfl (fun ls hl => ?_)
  refine lv_lload_n hx hb dX2_digest_44 rfl (lv_at hl 0 rfl) ?_
  refine lv_aload_n hx hb dX2_digest_45 rfl (lv_at hl 1 rfl) ?_
  refine z_rVi (v := nI (z_cn G D 2)) [.long (z_mi (z_mi (z_mi (z_mi 2351 (Int32.toInt64 (z_dy D))) (Int32.toInt64 (nI (z_bc G)))) (Int32.toInt64 (nI (z_tc G)))) (Int32.toInt64 (nI (z_cn G D 1))))] hx hb hml hown hts (m_X2_shipped l Dg cI h na ta G D G1 D1 hG hW) gX2_digest_X2_shipped rfl kd_X2_shipped ⟨Nat.le_of_ble_eq_true rfl, Nat.le_of_ble_eq_true rfl⟩ hK hN hP rfl rfl rfl rfl hl.1 rfl (Nat.le_of_ble_eq_true rfl) dX2_digest_46 ⟨Nat.zero_le _, Nat.zero_le _⟩ ?_
  refine lv_i2l (v := Int32.toInt64 (nI (z_cn G D 2))) hx hb dX2_digest_49 rfl ?_
  refine z_rSl (v := z_mi (z_mi (z_mi (z_mi (z_mi 2351 (Int32.toInt64 (z_dy D))) (Int32.toInt64 (nI (z_bc G)))) (Int32.toInt64 (nI (z_tc G)))) (Int32.toInt64 (nI (z_cn G D 1)))) (Int32.toInt64 (nI (z_cn G D 2)))) [] hx hb hml hown hts (m_X2_mix l Dg cI (z_mi (z_mi (z_mi (z_mi 2351 (Int32.toInt64 (z_dy D))) (Int32.toInt64 (nI (z_bc G)))) (Int32.toInt64 (nI (z_tc G)))) (Int32.toInt64 (nI (z_cn G D 1)))) (Int32.toInt64 (nI (z_cn G D 2)))) gX2_digest_X2_mix rfl kdS_X2_mix ⟨Nat.le_of_ble_eq_true rfl, Nat.le_of_ble_eq_true rfl⟩ hK hN z_P0 rfl hl.1 rfl (Nat.le_of_ble_eq_true rfl) dX2_digest_50 ⟨Nat.zero_le _, Nat.zero_le _⟩ ?_
  refine lv_lstore_n (lv' := [(1, .long (z_mi (z_mi (z_mi (z_mi (z_mi 2351 (Int32.toInt64 (z_dy D))) (Int32.toInt64 (nI (z_bc G)))) (Int32.toInt64 (nI (z_tc G)))) (Int32.toInt64 (nI (z_cn G D 1)))) (Int32.toInt64 (nI (z_cn G D 2))))), (0, .ref h)]) hx hb dX2_digest_53 rfl hl (by decide) rfl (fun ls hl => ?_)
  refine lv_lload_n hx hb dX2_digest_54 rfl (lv_at hl 0 rfl) ?_
  refine lv_aload_n hx hb dX2_digest_55 rfl (lv_at hl 1 rfl) ?_
  refine z_rVi (v := nI (z_cn G D 3)) [.long (z_mi (z_mi (z_mi (z_mi (z_mi 2351 (Int32.toInt64 (z_dy D))) (Int32.toInt64 (nI (z_bc G)))) (Int32.toInt64 (nI (z_tc G)))) (Int32.toInt64 (nI (z_cn G D 1)))) (Int32.toInt64 (nI (z_cn G D 2))))] hx hb hml hown hts (m_X2_lost l Dg cI h na ta G D G1 D1 hG hW) gX2_digest_X2_lost rfl kd_X2_lost ⟨Nat.le_of_ble_eq_true rfl, Nat.le_of_ble_eq_true rfl⟩ hK hN hP rfl rfl rfl rfl hl.1 rfl (Nat.le_of_ble_eq_true rfl) dX2_digest_56 ⟨Nat.zero_le _, Nat.zero_le _⟩ ?_
  refine lv_i2l (v := Int32.toInt64 (nI (z_cn G D 3))) hx hb dX2_digest_59 rfl ?_
  refine z_rSl (v := z_mi (z_mi (z_mi (z_mi (z_mi (z_mi 2351 (Int32.toInt64 (z_dy D))) (Int32.toInt64 (nI (z_bc G)))) (Int32.toInt64 (nI (z_tc G)))) (Int32.toInt64 (nI (z_cn G D 1)))) (Int32.toInt64 (nI (z_cn G D 2)))) (Int32.toInt64 (nI (z_cn G D 3)))) [] hx hb hml hown hts (m_X2_mix l Dg cI (z_mi (z_mi (z_mi (z_mi (z_mi 2351 (Int32.toInt64 (z_dy D))) (Int32.toInt64 (nI (z_bc G)))) (Int32.toInt64 (nI (z_tc G)))) (Int32.toInt64 (nI (z_cn G D 1)))) (Int32.toInt64 (nI (z_cn G D 2)))) (Int32.toInt64 (nI (z_cn G D 3)))) gX2_digest_X2_mix rfl kdS_X2_mix ⟨Nat.le_of_ble_eq_true rfl, Nat.le_of_ble_eq_true rfl⟩ hK hN z_P0 rfl hl.1 rfl (Nat.le_of_ble_eq_true rfl) dX2_digest_60 ⟨Nat.zero_le _, Nat.zero_le _⟩ ?_
  refine lv_lstore_n (lv' := [(1, .long (z_mi (z_mi (z_mi (z_mi (z_mi (z_mi 2351 (Int32.toInt64 (z_dy D))) (Int32.toInt64 (nI (z_bc G)))) (Int32.toInt64 (nI (z_tc G)))) (Int32.toInt64 (nI (z_cn G D 1)))) (Int32.toInt64 (nI (z_cn G D 2)))) (Int32.toInt64 (nI (z_cn G D 3))))), (0, .ref h)]) hx hb dX2_digest_63 rfl hl (by decide) rfl (fun ls hl => ?_)
  refine lv_lload_n hx hb dX2_digest_64 rfl (lv_at hl 0 rfl) ?_
  refine lv_aload_n hx hb dX2_digest_65 rfl (lv_at hl 1 rfl) ?_
  refine z_rVi (v := z_sum (z_sw D) (z_bc G)) [.long (z_mi (z_mi (z_mi (z_mi (z_mi (z_mi 2351 (Int32.toInt64 (z_dy D))) (Int32.toInt64 (nI (z_bc G)))) (Int32.toInt64 (nI (z_tc G)))) (Int32.toInt64 (nI (z_cn G D 1)))) (Int32.toInt64 (nI (z_cn G D 2)))) (Int32.toInt64 (nI (z_cn G D 3))))] hx hb hml hown hts (m_X2_swelled l Dg cI h na ta G D G1 D1 hG hW) gX2_digest_X2_swelled rfl kd_X2_swelled ⟨Nat.le_of_ble_eq_true rfl, Nat.le_of_ble_eq_true rfl⟩ hK hN hP rfl rfl rfl rfl hl.1 rfl (Nat.le_of_ble_eq_true rfl) dX2_digest_66 ⟨Nat.zero_le _, Nat.zero_le _⟩ ?_
  refine lv_i2l (v := Int32.toInt64 (z_sum (z_sw D) (z_bc G))) hx hb dX2_digest_69 rfl ?_
  refine z_rSl (v := z_mi (z_mi (z_mi (z_mi (z_mi (z_mi (z_mi 2351 (Int32.toInt64 (z_dy D))) (Int32.toInt64 (nI (z_bc G)))) (Int32.toInt64 (nI (z_tc G)))) (Int32.toInt64 (nI (z_cn G D 1)))) (Int32.toInt64 (nI (z_cn G D 2)))) (Int32.toInt64 (nI (z_cn G D 3)))) (Int32.toInt64 (z_sum (z_sw D) (z_bc G)))) [] hx hb hml hown hts (m_X2_mix l Dg cI (z_mi (z_mi (z_mi (z_mi (z_mi (z_mi 2351 (Int32.toInt64 (z_dy D))) (Int32.toInt64 (nI (z_bc G)))) (Int32.toInt64 (nI (z_tc G)))) (Int32.toInt64 (nI (z_cn G D 1)))) (Int32.toInt64 (nI (z_cn G D 2)))) (Int32.toInt64 (nI (z_cn G D 3)))) (Int32.toInt64 (z_sum (z_sw D) (z_bc G)))) gX2_digest_X2_mix rfl kdS_X2_mix ⟨Nat.le_of_ble_eq_true rfl, Nat.le_of_ble_eq_true rfl⟩ hK hN z_P0 rfl hl.1 rfl (Nat.le_of_ble_eq_true rfl) dX2_digest_70 ⟨Nat.zero_le _, Nat.zero_le _⟩ ?_
  refine lv_lstore_n (lv' := [(1, .long (z_mi (z_mi (z_mi (z_mi (z_mi (z_mi (z_mi 2351 (Int32.toInt64 (z_dy D))) (Int32.toInt64 (nI (z_bc G)))) (Int32.toInt64 (nI (z_tc G)))) (Int32.toInt64 (nI (z_cn G D 1)))) (Int32.toInt64 (nI (z_cn G D 2)))) (Int32.toInt64 (nI (z_cn G D 3)))) (Int32.toInt64 (z_sum (z_sw D) (z_bc G))))), (0, .ref h)]) hx hb dX2_digest_73 rfl hl (by decide) rfl (fun ls hl => ?_)
  refine lv_iconst (v := nI 0) hx hb dX2_digest_74 (by decide) ?_
  refine lv_istore_n (lv' := [(3, .int (nI 0)), (1, .long (z_mi (z_mi (z_mi (z_mi (z_mi (z_mi (z_mi 2351 (Int32.toInt64 (z_dy D))) (Int32.toInt64 (nI (z_bc G)))) (Int32.toInt64 (nI (z_tc G)))) (Int32.toInt64 (nI (z_cn G D 1)))) (Int32.toInt64 (nI (z_cn G D 2)))) (Int32.toInt64 (nI (z_cn G D 3)))) (Int32.toInt64 (z_sum (z_sw D) (z_bc G))))), (0, .ref h)]) hx hb dX2_digest_75 rfl hl (by decide) rfl (fun ls hl => ?_)
  have hl : lv_has ls 4 [(3, .int (nI 0)), (1, .long (z_dgo G D (z_dg7 G D) 0)), (0, .ref h)] := by have q : z_mi (z_mi (z_mi (z_mi (z_mi (z_mi (z_mi 2351 (Int32.toInt64 (z_dy D))) (Int32.toInt64 (nI (z_bc G)))) (Int32.toInt64 (nI (z_tc G)))) (Int32.toInt64 (nI (z_cn G D 1)))) (Int32.toInt64 (nI (z_cn G D 2)))) (Int32.toInt64 (nI (z_cn G D 3)))) (Int32.toInt64 (z_sum (z_sw D) (z_bc G))) = z_dgo G D (z_dg7 G D) 0 := rfl; rw [← q]; exact hl
  have lp76 : ∀ (zz i : Nat) , i ≤ 3 → 3 + 1 ≤ i + zz → ∀ (H : Heap) (locs : List Loc), va_P Dg vwCl (z_cW cI h na ta G D G1 D1) H → va_D (z_in (z_cW cI h na ta G D G1 D1)) (z_cW cI h na ta G D G1 D1) → va_S (z_in (z_cW cI h na ta G D G1 D1)) s.heap H locs → ∀ ls : Array Slot, lv_has ls 4 [(0, .ref h), (1, .long (z_dgo G D (z_dg7 G D) i)), (3, .int (nI i))] → W p l e ({ frames := 6, cells := 0, slots := 0, locals := 136 } : Room) s m ([.ref h] : List Value).toArray below meth c H locs 0 0 (MQ below (z_Qc (some (.long (z_dg G D))) Dg cI h na ta G D (z_cW cI h na ta G D G1 D1)) ([.ref h] : List Value).toArray s 0 0 (z_in (z_cW cI h na ta G D G1 D1))) (F0 m 76 ls []) := by
    intro zz
    induction zz with
    | zero => intros; exfalso; omega
    | succ zz ih76 =>
      intro i hi hzz H locs hP hD hS ls hl
      refine lv_iload_n hx hb dX2_digest_76 rfl (lv_at hl 2 rfl) ?_
      refine lv_iconst (v := nI 2) hx hb dX2_digest_77 (by decide) ?_
      refine lv_icmp_gt (tgt := 98) hx hb dX2_digest_78 (by decide) (fun c78 => ?_) (fun c78 => ?_)
      · skip
        have hi2 : i = 3 := by have := z_nle (b := 2) (by decide) (fun q => absurd c78 (z_i32_nlt q)); omega
        refine lv_lload_n hx hb dX2_digest_98 rfl (lv_at hl 1 rfl) ?_
        refine lv_aload_n hx hb dX2_digest_99 rfl (lv_at hl 0 rfl) ?_
        refine z_wCi (v := nI (z_bo G D)) [.long (z_dgo G D (z_dg7 G D) i)] hx hb hml hown hts (m_X2_bestOrder l Dg cI h na ta G D G1 D1 hG hW) gX2_digest_X2_bestOrder rfl kd_X2_bestOrder ⟨Nat.le_of_ble_eq_true rfl, Nat.le_of_ble_eq_true rfl⟩ hK hN hP hD hS rfl hl.1 rfl (Nat.le_of_ble_eq_true rfl) dX2_digest_100 ⟨Nat.zero_le _, Nat.zero_le _⟩ (fun G100 D100 H locs hP hD hS => ?_)
        have hP : va_P Dg vwCl (z_cW cI h na ta G D G100 D100) H := hP
        have hD : va_D _ (z_cW cI h na ta G D G100 D100) := hD
        refine lv_i2l (v := Int32.toInt64 (nI (z_bo G D))) hx hb dX2_digest_103 rfl ?_
        refine z_rSl (v := z_mi (z_dgo G D (z_dg7 G D) i) (Int32.toInt64 (nI (z_bo G D)))) [] hx hb hml hown hts (m_X2_mix l Dg cI (z_dgo G D (z_dg7 G D) i) (Int32.toInt64 (nI (z_bo G D)))) gX2_digest_X2_mix rfl kdS_X2_mix ⟨Nat.le_of_ble_eq_true rfl, Nat.le_of_ble_eq_true rfl⟩ hK hN z_P0 rfl hl.1 rfl (Nat.le_of_ble_eq_true rfl) dX2_digest_104 ⟨Nat.zero_le _, Nat.zero_le _⟩ ?_
        refine lv_lstore_n (lv' := [(1, .long (z_mi (z_dgo G D (z_dg7 G D) i) (Int32.toInt64 (nI (z_bo G D))))), (0, .ref h), (3, .int (nI i))]) hx hb dX2_digest_107 rfl hl (by decide) rfl (fun ls hl => ?_)
        refine lv_lload_n hx hb dX2_digest_108 rfl (lv_at hl 0 rfl) ?_
        refine lv_aload_n hx hb dX2_digest_109 rfl (lv_at hl 1 rfl) ?_
        refine z_wCi (v := z_wt G D) [.long (z_mi (z_dgo G D (z_dg7 G D) i) (Int32.toInt64 (nI (z_bo G D))))] hx hb hml hown hts (m_X2_shippingWanted l Dg cI h na ta G D G100 D100 hG hW) gX2_digest_X2_shippingWanted rfl kd_X2_shippingWanted ⟨Nat.le_of_ble_eq_true rfl, Nat.le_of_ble_eq_true rfl⟩ hK hN hP hD hS rfl hl.1 rfl (Nat.le_of_ble_eq_true rfl) dX2_digest_110 ⟨Nat.zero_le _, Nat.zero_le _⟩ (fun G110 D110 H locs hP hD hS => ?_)
        have hP : va_P Dg vwCl (z_cW cI h na ta G D G110 D110) H := hP
        have hD : va_D _ (z_cW cI h na ta G D G110 D110) := hD
        refine lv_i2l (v := Int32.toInt64 (z_wt G D)) hx hb dX2_digest_113 rfl ?_
        refine z_rSl (v := z_mi (z_mi (z_dgo G D (z_dg7 G D) i) (Int32.toInt64 (nI (z_bo G D)))) (Int32.toInt64 (z_wt G D))) [] hx hb hml hown hts (m_X2_mix l Dg cI (z_mi (z_dgo G D (z_dg7 G D) i) (Int32.toInt64 (nI (z_bo G D)))) (Int32.toInt64 (z_wt G D))) gX2_digest_X2_mix rfl kdS_X2_mix ⟨Nat.le_of_ble_eq_true rfl, Nat.le_of_ble_eq_true rfl⟩ hK hN z_P0 rfl hl.1 rfl (Nat.le_of_ble_eq_true rfl) dX2_digest_114 ⟨Nat.zero_le _, Nat.zero_le _⟩ ?_
        refine lv_lstore_n (lv' := [(1, .long (z_mi (z_mi (z_dgo G D (z_dg7 G D) i) (Int32.toInt64 (nI (z_bo G D)))) (Int32.toInt64 (z_wt G D)))), (0, .ref h), (3, .int (nI i))]) hx hb dX2_digest_117 rfl hl (by decide) rfl (fun ls hl => ?_)
        refine lv_aload_n hx hb dX2_digest_118 rfl (lv_at hl 1 rfl) ?_
        refine lv_lload_n hx hb dX2_digest_119 rfl (lv_at hl 0 rfl) ?_
        refine z_rVl (v := z_dgs G D (z_mi (z_mi (z_dgo G D (z_dg7 G D) i) (Int32.toInt64 (nI (z_bo G D)))) (Int32.toInt64 (z_wt G D))) 4) [] hx hb hml hown hts (m_X2_mixShelves l Dg cI h na ta G D G110 D110 (z_mi (z_mi (z_dgo G D (z_dg7 G D) i) (Int32.toInt64 (nI (z_bo G D)))) (Int32.toInt64 (z_wt G D))) hG hW) gX2_digest_X2_mixShelves rfl kd_X2_mixShelves ⟨Nat.le_of_ble_eq_true rfl, Nat.le_of_ble_eq_true rfl⟩ hK hN hP rfl rfl rfl rfl hl.1 rfl (Nat.le_of_ble_eq_true rfl) dX2_digest_120 ⟨Nat.zero_le _, Nat.zero_le _⟩ ?_
        refine lv_lstore_n (lv' := [(1, .long (z_dgs G D (z_mi (z_mi (z_dgo G D (z_dg7 G D) i) (Int32.toInt64 (nI (z_bo G D)))) (Int32.toInt64 (z_wt G D))) 4)), (0, .ref h), (3, .int (nI i))]) hx hb dX2_digest_123 rfl hl (by decide) rfl (fun ls hl => ?_)
        refine lv_aload_n hx hb dX2_digest_124 rfl (lv_at hl 1 rfl) ?_
        refine lv_lload_n hx hb dX2_digest_125 rfl (lv_at hl 0 rfl) ?_
        refine z_wCl (v := z_dgb G D (z_dgs G D (z_mi (z_mi (z_dgo G D (z_dg7 G D) i) (Int32.toInt64 (nI (z_bo G D)))) (Int32.toInt64 (z_wt G D))) 4) (z_bc G)) [] hx hb hml hown hts (m_X2_mixBatches l Dg cI h na ta G D G110 D110 (z_dgs G D (z_mi (z_mi (z_dgo G D (z_dg7 G D) i) (Int32.toInt64 (nI (z_bo G D)))) (Int32.toInt64 (z_wt G D))) 4) hG hW) gX2_digest_X2_mixBatches rfl kd_X2_mixBatches ⟨Nat.le_of_ble_eq_true rfl, Nat.le_of_ble_eq_true rfl⟩ hK hN hP hD hS rfl hl.1 rfl (Nat.le_of_ble_eq_true rfl) dX2_digest_126 ⟨Nat.zero_le _, Nat.zero_le _⟩ (fun G126 D126 H locs hP hD hS => ?_)
        have hP : va_P Dg vwCl (z_cW cI h na ta G D G126 D126) H := hP
        have hD : va_D _ (z_cW cI h na ta G D G126 D126) := hD
        refine lv_lstore_n (lv' := [(1, .long (z_dgb G D (z_dgs G D (z_mi (z_mi (z_dgo G D (z_dg7 G D) i) (Int32.toInt64 (nI (z_bo G D)))) (Int32.toInt64 (z_wt G D))) 4) (z_bc G))), (0, .ref h), (3, .int (nI i))]) hx hb dX2_digest_129 rfl hl (by decide) rfl (fun ls hl => ?_)
        refine lv_aload_n hx hb dX2_digest_130 rfl (lv_at hl 1 rfl) ?_
        refine lv_lload_n hx hb dX2_digest_131 rfl (lv_at hl 0 rfl) ?_
        refine z_rVl (v := z_dgt G D (z_dgb G D (z_dgs G D (z_mi (z_mi (z_dgo G D (z_dg7 G D) i) (Int32.toInt64 (nI (z_bo G D)))) (Int32.toInt64 (z_wt G D))) 4) (z_bc G)) (z_tc G)) [] hx hb hml hown hts (m_X2_mixTins l Dg cI h na ta G D G126 D126 (z_dgb G D (z_dgs G D (z_mi (z_mi (z_dgo G D (z_dg7 G D) i) (Int32.toInt64 (nI (z_bo G D)))) (Int32.toInt64 (z_wt G D))) 4) (z_bc G)) hG hW) gX2_digest_X2_mixTins rfl kd_X2_mixTins ⟨Nat.le_of_ble_eq_true rfl, Nat.le_of_ble_eq_true rfl⟩ hK hN hP rfl rfl rfl rfl hl.1 rfl (Nat.le_of_ble_eq_true rfl) dX2_digest_132 ⟨Nat.zero_le _, Nat.zero_le _⟩ ?_
        exact z_ec_l (by rw [hi2]; rfl) hP hS hx hb hr hlk dX2_digest_135
      · skip
        have hi2 : i < 3 := by have := z_le (by omega) (by omega) (z_i32_le c78); omega
        refine lv_lload_n hx hb dX2_digest_81 rfl (lv_at hl 1 rfl) ?_
        refine lv_aload_n hx hb dX2_digest_82 rfl (lv_at hl 0 rfl) ?_
        refine lv_iload_n hx hb dX2_digest_83 rfl (lv_at hl 2 rfl) ?_
        refine z_rVi (v := z_oi (z_fb G D i (z_tc G))) [.long (z_dgo G D (z_dg7 G D) i)] hx hb hml hown hts (m_X2_first l Dg cI h na ta G D G1 D1 i (by omega) hG hW) gX2_digest_X2_first rfl kd_X2_first ⟨Nat.le_of_ble_eq_true rfl, Nat.le_of_ble_eq_true rfl⟩ hK hN hP rfl rfl rfl rfl hl.1 rfl (Nat.le_of_ble_eq_true rfl) dX2_digest_84 ⟨Nat.zero_le _, Nat.zero_le _⟩ ?_
        refine lv_i2l (v := Int32.toInt64 (z_oi (z_fb G D i (z_tc G)))) hx hb dX2_digest_87 rfl ?_
        refine z_rSl (v := z_mi (z_dgo G D (z_dg7 G D) i) (Int32.toInt64 (z_oi (z_fb G D i (z_tc G))))) [] hx hb hml hown hts (m_X2_mix l Dg cI (z_dgo G D (z_dg7 G D) i) (Int32.toInt64 (z_oi (z_fb G D i (z_tc G))))) gX2_digest_X2_mix rfl kdS_X2_mix ⟨Nat.le_of_ble_eq_true rfl, Nat.le_of_ble_eq_true rfl⟩ hK hN z_P0 rfl hl.1 rfl (Nat.le_of_ble_eq_true rfl) dX2_digest_88 ⟨Nat.zero_le _, Nat.zero_le _⟩ ?_
        refine lv_lstore_n (lv' := [(1, .long (z_mi (z_dgo G D (z_dg7 G D) i) (Int32.toInt64 (z_oi (z_fb G D i (z_tc G)))))), (0, .ref h), (3, .int (nI i))]) hx hb dX2_digest_91 rfl hl (by decide) rfl (fun ls hl => ?_)
        have hl : lv_has ls 4 [(1, .long (z_dgo G D (z_dg7 G D) (i + 1))), (0, .ref h), (3, .int (nI i))] := by have q : z_mi (z_dgo G D (z_dg7 G D) i) (Int32.toInt64 (z_oi (z_fb G D i (z_tc G)))) = z_dgo G D (z_dg7 G D) (i + 1) := rfl; rw [← q]; exact hl
        refine lv_iinc (v := nI (i + 1)) (lv' := [(3, .int (nI (i + 1))), (1, .long (z_dgo G D (z_dg7 G D) (i + 1))), (0, .ref h)]) hx hb dX2_digest_92 hl (k := 2) rfl (nI_1 _) (by decide) rfl (fun ls hl => ?_)
        refine lv_goto (tgt := 76) hx hb dX2_digest_95 (by decide) ?_
        exact ih76 (i + 1) (by omega) (by omega) _ _ hP hD hS _ (lv_sub hl [2, 1, 0] rfl)
  exact lp76 (3 + 1) 0 (by omega) (by omega) _ _ hP hD hS _ (lv_sub hl [2, 1, 0] rfl)

set_option maxHeartbeats 4000000 in
set_option maxRecDepth 100000 in
theorem m_X2_addBatch (l : Launch) (Dg : va_G) (cI : ClassId) (h : Nat) (na ta : Nat → Nat) (G : z_GG) (D : z_DD) (G1 : z_GG) (D1 : z_DD) (v_ k_ : Int32) (hv1 : 1 ≤ v_) (hv2 : v_ ≤ 99) (hk1 : 0 ≤ k_) (hk2 : k_ ≤ 5) (hb6 : z_bc G < 6) (hG : z_WG G) (hW : z_WD G D) : z_Mw l yX2_addBatch wsX2_addBatch 2 45 [.ref h, .int v_, .int k_] Dg cI (z_cW cI h na ta G D G1 D1) (some (.int (nI (z_bc G)))) (z_cW cI h na ta (z_addb G v_ k_) D G1 D1) := by
  have htc : z_tc G ≤ 60 := hG.2.2.2.2.2.1
  have hbc : z_bc G ≤ 6 := hG.2.2.2.2.1
  refine z_sw' (own := RX2) (l0 := [(0, .ref h), (1, .int v_), (2, .int k_)]) rfl rfl (by decide) (Nat.le_of_ble_eq_true rfl) rfl ?_
  intro p e s m below meth c hx hb hr hml hts hown hlk hP hK hN hD hS ls hl
  refine lv_iload_n hx hb dX2_addBatch_0 rfl (lv_at hl 1 rfl) ?_
  refine lv_iconst (v := 1) hx hb dX2_addBatch_1 (by decide) ?_
  refine lv_bipush (v := 99) hx hb dX2_addBatch_2 (by decide) ?_
  refine z_rSi (v := 1) [] hx hb hml hown hts (m_X2_isWithin_t l Dg cI v_ 1 99 hv1 hv2) gX2_addBatch_X2_isWithin rfl kdS_X2_isWithin ⟨Nat.le_of_ble_eq_true rfl, Nat.le_of_ble_eq_true rfl⟩ hK hN z_P0 rfl hl.1 rfl (Nat.le_of_ble_eq_true rfl) dX2_addBatch_4 ⟨Nat.zero_le _, Nat.zero_le _⟩ ?_
  refine lv_if_eq (tgt := 19) hx hb dX2_addBatch_7 (by decide) (fun c7 => absurd c7 (by decide)) (fun c7 => ?_)
  refine lv_iload_n hx hb dX2_addBatch_10 rfl (lv_at hl 2 rfl) ?_
  refine lv_iconst (v := 0) hx hb dX2_addBatch_11 (by decide) ?_
  refine lv_iconst (v := 5) hx hb dX2_addBatch_12 (by decide) ?_
  refine z_rSi (v := 1) [] hx hb hml hown hts (m_X2_isWithin_t l Dg cI k_ 0 5 hk1 hk2) gX2_addBatch_X2_isWithin rfl kdS_X2_isWithin ⟨Nat.le_of_ble_eq_true rfl, Nat.le_of_ble_eq_true rfl⟩ hK hN z_P0 rfl hl.1 rfl (Nat.le_of_ble_eq_true rfl) dX2_addBatch_13 ⟨Nat.zero_le _, Nat.zero_le _⟩ ?_
  refine lv_if_ne (tgt := 29) hx hb dX2_addBatch_16 (by decide) (fun c16 => ?_) (fun c16 => absurd c16 (by decide))
  refine lv_aload_n hx hb dX2_addBatch_29 rfl (lv_at hl 0 rfl) ?_
  refine va_get (ci := 2) (v := .ref (na 0)) (C := RX2) (T := TX2) (N := 2) hx hb hts (fun _ h => (List.mem_cons_of_mem _ (List.mem_append_left _ (List.mem_append_left _ (List.mem_append_left _ (List.mem_append_left _ (List.mem_append_right _ h))))))) hown hK hP 0 rfl rfl 0 (by decide) (hts _ (List.mem_cons_of_mem _ (List.mem_append_left _ (List.mem_append_left _ (List.mem_append_left _ (List.mem_append_left _ (List.mem_append_left _ (List.mem_of_getElem? (i := 4) rfl)))))))) (fun _ h9 => h9) rfl dX2_addBatch_30 ?_
  refine va_getN (ci := 1) (v := .int (nI (z_bc G))) (C := RX1) (T := TX1) (N := 14) hx hb hts (fun _ h => (List.mem_cons_of_mem _ (List.mem_append_left _ (List.mem_append_left _ (List.mem_append_left _ (List.mem_append_right _ h)))))) hown hK hP 1 rfl rfl 5 (by decide) (va_Nw.use rfl hN.2.1) (fun _ h9 => h9) rfl dX2_addBatch_33 ?_
  refine lv_bipush (v := nI 6) hx hb dX2_addBatch_36 (by decide) ?_
  refine lv_icmp_lt (tgt := 51) hx hb dX2_addBatch_38 (by decide) (fun c38 => ?_) (fun c38 => absurd (nI_lt hb6 (by decide)) c38)
  refine lv_aload_n hx hb dX2_addBatch_51 rfl (lv_at hl 0 rfl) ?_
  refine va_get (ci := 2) (v := .ref (na 0)) (C := RX2) (T := TX2) (N := 2) hx hb hts (fun _ h => (List.mem_cons_of_mem _ (List.mem_append_left _ (List.mem_append_left _ (List.mem_append_left _ (List.mem_append_left _ (List.mem_append_right _ h))))))) hown hK hP 0 rfl rfl 0 (by decide) (hts _ (List.mem_cons_of_mem _ (List.mem_append_left _ (List.mem_append_left _ (List.mem_append_left _ (List.mem_append_left _ (List.mem_append_left _ (List.mem_of_getElem? (i := 4) rfl)))))))) (fun _ h9 => h9) rfl dX2_addBatch_52 ?_
  refine lv_iload_n hx hb dX2_addBatch_55 rfl (lv_at hl 1 rfl) ?_
  refine lv_iload_n hx hb dX2_addBatch_56 rfl (lv_at hl 2 rfl) ?_
  refine z_wBi (v := nI (z_bc G)) [] [(h, .inr (2, [.ref (na 0), .ref (ta 0)]))] (z_sW cI ta G1 D1) 0 hx hb hml hown hts (m_X1_takeBatch l Dg cI na G D v_ k_ (by omega)) gX2_addBatch_X1_takeBatch rfl kd_X1_takeBatch ⟨Nat.le_of_ble_eq_true rfl, Nat.le_of_ble_eq_true rfl⟩ hK hN hP hD hS rfl rfl rfl rfl rfl hl.1 rfl (Nat.le_of_ble_eq_true rfl) dX2_addBatch_57 ⟨Nat.zero_le _, Nat.zero_le _⟩ (fun H locs hP hD hS => ?_)
  have hP : va_P Dg vwCl (z_cW cI h na ta (z_addb G v_ k_) D G1 D1) H := hP
  have hD : va_D _ (z_cW cI h na ta (z_addb G v_ k_) D G1 D1) := hD
  exact z_ew_i rfl hP hS hx hb hr hlk dX2_addBatch_60

set_option maxHeartbeats 4000000 in
set_option maxRecDepth 100000 in
theorem m_X2_seal (l : Launch) (Dg : va_G) (cI : ClassId) (h : Nat) (na ta : Nat → Nat) (G : z_GG) (D : z_DD) (G1 : z_GG) (D1 : z_DD) (b_ s_ k_ : Nat) (hbb : b_ < z_bc G) (hs4 : s_ < 4) (hk1 : 1 ≤ k_) (hk2 : k_ ≤ 20) (hk60 : z_tc G + k_ ≤ 60) (hrc : z_rc D b_ = false) (hG : z_WG G) (hW : z_WD G D) : z_Mw l yX2_seal wsX2_seal 2 47 [.ref h, .int (nI b_), .int (nI s_), .int (nI k_)] Dg cI (z_cW cI h na ta G D G1 D1) (some (.int (nI (z_tc G)))) (z_cW cI h na ta (z_gn G b_ s_ k_) (z_dn G D b_ s_ k_) G1 D1) := by
  have htc : z_tc G ≤ 60 := hG.2.2.2.2.2.1
  have hbc : z_bc G ≤ 6 := hG.2.2.2.2.1
  refine z_sw' (own := RX2) (l0 := [(0, .ref h), (1, .int (nI b_)), (2, .int (nI s_)), (3, .int (nI k_))]) rfl rfl (by decide) (Nat.le_of_ble_eq_true rfl) rfl ?_
  intro p e s m below meth c hx hb hr hml hts hown hlk hP hK hN hD hS ls hl
  refine lv_aload_n hx hb dX2_seal_0 rfl (lv_at hl 0 rfl) ?_
  refine lv_iload_n hx hb dX2_seal_1 rfl (lv_at hl 1 rfl) ?_
  refine z_rVv [] hx hb hml hown hts (m_X2_needBatch l Dg cI h na ta G D G1 D1 b_ (by omega) (by omega)) gX2_seal_X2_needBatch rfl kd_X2_needBatch ⟨Nat.le_of_ble_eq_true rfl, Nat.le_of_ble_eq_true rfl⟩ hK hN hP rfl rfl rfl rfl hl.1 rfl (Nat.le_of_ble_eq_true rfl) dX2_seal_2 ⟨Nat.zero_le _, Nat.zero_le _⟩ ?_
  refine lv_iload_n hx hb dX2_seal_5 rfl (lv_at hl 2 rfl) ?_
  refine z_rSv [] hx hb hml hown hts (m_X2_needShelf l Dg cI s_ (by omega)) gX2_seal_X2_needShelf rfl kdS_X2_needShelf ⟨Nat.le_of_ble_eq_true rfl, Nat.le_of_ble_eq_true rfl⟩ hK hN z_P0 rfl hl.1 rfl (Nat.le_of_ble_eq_true rfl) dX2_seal_6 ⟨Nat.zero_le _, Nat.zero_le _⟩ ?_
  refine lv_iload_n hx hb dX2_seal_9 rfl (lv_at hl 3 rfl) ?_
  refine lv_iconst (v := nI 1) hx hb dX2_seal_10 (by decide) ?_
  refine lv_bipush (v := nI 20) hx hb dX2_seal_11 (by decide) ?_
  refine z_rSi (v := 1) [] hx hb hml hown hts (m_X2_isWithin_t l Dg cI (nI k_) (nI 1) (nI 20) (nI_le hk1 (by omega)) (nI_le hk2 (by decide))) gX2_seal_X2_isWithin rfl kdS_X2_isWithin ⟨Nat.le_of_ble_eq_true rfl, Nat.le_of_ble_eq_true rfl⟩ hK hN z_P0 rfl hl.1 rfl (Nat.le_of_ble_eq_true rfl) dX2_seal_13 ⟨Nat.zero_le _, Nat.zero_le _⟩ ?_
  refine lv_if_ne (tgt := 29) hx hb dX2_seal_16 (by decide) (fun c16 => ?_) (fun c16 => absurd c16 (by decide))
  refine lv_aload_n hx hb dX2_seal_29 rfl (lv_at hl 0 rfl) ?_
  refine va_get (ci := 2) (v := .ref (na 0)) (C := RX2) (T := TX2) (N := 2) hx hb hts (fun _ h => (List.mem_cons_of_mem _ (List.mem_append_left _ (List.mem_append_left _ (List.mem_append_left _ (List.mem_append_left _ (List.mem_append_left _ (List.mem_append_right _ h)))))))) hown hK hP 0 rfl rfl 0 (by decide) (hts _ (List.mem_cons_of_mem _ (List.mem_append_left _ (List.mem_append_left _ (List.mem_append_left _ (List.mem_append_left _ (List.mem_append_left _ (List.mem_append_left _ (List.mem_append_left _ (List.mem_of_getElem? (i := 4) rfl)))))))))) (fun _ h9 => h9) rfl dX2_seal_30 ?_
  refine va_getN (ci := 1) (v := .int (nI (z_tc G))) (C := RX1) (T := TX1) (N := 14) hx hb hts (fun _ h => (List.mem_cons_of_mem _ (List.mem_append_left _ (List.mem_append_left _ (List.mem_append_left _ (List.mem_append_left _ (List.mem_append_right _ h))))))) hown hK hP 1 rfl rfl 10 (by decide) (va_Nw.use rfl hN.2.2.1) (fun _ h9 => h9) rfl dX2_seal_33 ?_
  refine lv_iload_n hx hb dX2_seal_36 rfl (lv_at hl 3 rfl) ?_
  refine lv_iadd hx hb dX2_seal_37 ?_
  refine z_top (x' := nI (z_tc G + k_)) (nI_add _ _) ?_
  refine lv_bipush (v := nI 60) hx hb dX2_seal_38 (by decide) ?_
  refine lv_icmp_gt (tgt := 54) hx hb dX2_seal_40 (by decide) (fun c40 => absurd c40 (z_i32_nlt (nI_le hk60 (by decide)))) (fun c40 => ?_)
  refine lv_aload_n hx hb dX2_seal_43 rfl (lv_at hl 0 rfl) ?_
  refine va_get (ci := 2) (v := .ref (na 0)) (C := RX2) (T := TX2) (N := 2) hx hb hts (fun _ h => (List.mem_cons_of_mem _ (List.mem_append_left _ (List.mem_append_left _ (List.mem_append_left _ (List.mem_append_left _ (List.mem_append_left _ (List.mem_append_right _ h)))))))) hown hK hP 0 rfl rfl 0 (by decide) (hts _ (List.mem_cons_of_mem _ (List.mem_append_left _ (List.mem_append_left _ (List.mem_append_left _ (List.mem_append_left _ (List.mem_append_left _ (List.mem_append_left _ (List.mem_append_left _ (List.mem_of_getElem? (i := 4) rfl)))))))))) (fun _ h9 => h9) rfl dX2_seal_44 ?_
  refine lv_iload_n hx hb dX2_seal_47 rfl (lv_at hl 1 rfl) ?_
  refine z_rVi (v := z_bI (z_rc D b_)) [] hx hb hml hown hts (m_X1_isBatchRecalled l Dg cI na G D b_ (by omega)) gX2_seal_X1_isBatchRecalled rfl kd_X1_isBatchRecalled ⟨Nat.le_of_ble_eq_true rfl, Nat.le_of_ble_eq_true rfl⟩ hK hN (z_Pm (a := [(h, .inr (2, [.ref (na 0), .ref (ta 0)]))]) (c := (z_sW cI ta G1 D1)) hP) rfl rfl rfl rfl hl.1 rfl (Nat.le_of_ble_eq_true rfl) dX2_seal_48 ⟨Nat.zero_le _, Nat.zero_le _⟩ ?_
  refine lv_if_eq (tgt := 64) hx hb dX2_seal_51 (by decide) (fun c51 => ?_) (fun c51 => absurd (by rw [hrc]; rfl) c51)
  refine lv_aload_n hx hb dX2_seal_64 rfl (lv_at hl 0 rfl) ?_
  refine va_get (ci := 2) (v := .ref (na 0)) (C := RX2) (T := TX2) (N := 2) hx hb hts (fun _ h => (List.mem_cons_of_mem _ (List.mem_append_left _ (List.mem_append_left _ (List.mem_append_left _ (List.mem_append_left _ (List.mem_append_left _ (List.mem_append_right _ h)))))))) hown hK hP 0 rfl rfl 0 (by decide) (hts _ (List.mem_cons_of_mem _ (List.mem_append_left _ (List.mem_append_left _ (List.mem_append_left _ (List.mem_append_left _ (List.mem_append_left _ (List.mem_append_left _ (List.mem_append_left _ (List.mem_of_getElem? (i := 4) rfl)))))))))) (fun _ h9 => h9) rfl dX2_seal_65 ?_
  refine lv_iload_n hx hb dX2_seal_68 rfl (lv_at hl 1 rfl) ?_
  refine lv_iload_n hx hb dX2_seal_69 rfl (lv_at hl 2 rfl) ?_
  refine lv_iload_n hx hb dX2_seal_70 rfl (lv_at hl 3 rfl) ?_
  refine z_wBi (v := nI (z_tc G)) [] [(h, .inr (2, [.ref (na 0), .ref (ta 0)]))] (z_sW cI ta G1 D1) 0 hx hb hml hown hts (m_X1_takeTins l Dg cI na G D b_ s_ k_ (by omega) (by omega)) gX2_seal_X1_takeTins rfl kd_X1_takeTins ⟨Nat.le_of_ble_eq_true rfl, Nat.le_of_ble_eq_true rfl⟩ hK hN hP hD hS rfl rfl rfl rfl rfl hl.1 rfl (Nat.le_of_ble_eq_true rfl) dX2_seal_71 ⟨Nat.zero_le _, Nat.zero_le _⟩ (fun H locs hP hD hS => ?_)
  have hP : va_P Dg vwCl (z_cW cI h na ta (z_gn G b_ s_ k_) (z_dn G D b_ s_ k_) G1 D1) H := hP
  have hD : va_D _ (z_cW cI h na ta (z_gn G b_ s_ k_) (z_dn G D b_ s_ k_) G1 D1) := hD
  exact z_ew_i rfl hP hS hx hb hr hlk dX2_seal_74

set_option maxHeartbeats 4000000 in
set_option maxRecDepth 100000 in
theorem m_X2_move (l : Launch) (Dg : va_G) (cI : ClassId) (h : Nat) (na ta : Nat → Nat) (G : z_GG) (D : z_DD) (G1 : z_GG) (D1 : z_DD) (t s_ : Nat) (ht : t < z_tc G) (hs4 : s_ < 4) (hp1 : z_pl D t = 1) (hG : z_WG G) (hW : z_WD G D) : z_Mw l yX2_move wsX2_move 2 43 [.ref h, .int (nI t), .int (nI s_)] Dg cI (z_cW cI h na ta G D G1 D1) (some (.int (nI (z_sh G t)))) (z_cW cI h na ta (z_setsh G t s_) D G1 D1) := by
  have htc : z_tc G ≤ 60 := hG.2.2.2.2.2.1
  have hbc : z_bc G ≤ 6 := hG.2.2.2.2.1
  refine z_sw' (own := RX2) (l0 := [(0, .ref h), (1, .int (nI t)), (2, .int (nI s_))]) rfl rfl (by decide) (Nat.le_of_ble_eq_true rfl) rfl ?_
  intro p e s m below meth c hx hb hr hml hts hown hlk hP hK hN hD hS ls hl
  refine lv_aload_n hx hb dX2_move_0 rfl (lv_at hl 0 rfl) ?_
  refine lv_iload_n hx hb dX2_move_1 rfl (lv_at hl 1 rfl) ?_
  refine z_rVv [] hx hb hml hown hts (m_X2_needTin l Dg cI h na ta G D G1 D1 t (by omega) (by omega)) gX2_move_X2_needTin rfl kd_X2_needTin ⟨Nat.le_of_ble_eq_true rfl, Nat.le_of_ble_eq_true rfl⟩ hK hN hP rfl rfl rfl rfl hl.1 rfl (Nat.le_of_ble_eq_true rfl) dX2_move_2 ⟨Nat.zero_le _, Nat.zero_le _⟩ ?_
  refine lv_iload_n hx hb dX2_move_5 rfl (lv_at hl 2 rfl) ?_
  refine z_rSv [] hx hb hml hown hts (m_X2_needShelf l Dg cI s_ (by omega)) gX2_move_X2_needShelf rfl kdS_X2_needShelf ⟨Nat.le_of_ble_eq_true rfl, Nat.le_of_ble_eq_true rfl⟩ hK hN z_P0 rfl hl.1 rfl (Nat.le_of_ble_eq_true rfl) dX2_move_6 ⟨Nat.zero_le _, Nat.zero_le _⟩ ?_
  refine lv_aload_n hx hb dX2_move_9 rfl (lv_at hl 0 rfl) ?_
  refine va_get (ci := 2) (v := .ref (na 0)) (C := RX2) (T := TX2) (N := 2) hx hb hts (fun _ h => (List.mem_cons_of_mem _ (List.mem_append_left _ (List.mem_append_left _ (List.mem_append_left _ (List.mem_append_left _ (List.mem_append_right _ h))))))) hown hK hP 0 rfl rfl 0 (by decide) (hts _ (List.mem_cons_of_mem _ (List.mem_append_left _ (List.mem_append_left _ (List.mem_append_left _ (List.mem_append_left _ (List.mem_append_left _ (List.mem_append_left _ (List.mem_of_getElem? (i := 2) rfl))))))))) (fun _ h9 => h9) rfl dX2_move_10 ?_
  refine lv_iload_n hx hb dX2_move_13 rfl (lv_at hl 1 rfl) ?_
  refine z_rVi (v := z_bI (z_pl D t == 1)) [] hx hb hml hown hts (m_X1_holds l Dg cI na G D t (by omega) hG hW) gX2_move_X1_holds rfl kd_X1_holds ⟨Nat.le_of_ble_eq_true rfl, Nat.le_of_ble_eq_true rfl⟩ hK hN (z_Pm (a := [(h, .inr (2, [.ref (na 0), .ref (ta 0)]))]) (c := (z_sW cI ta G1 D1)) hP) rfl rfl rfl rfl hl.1 rfl (Nat.le_of_ble_eq_true rfl) dX2_move_14 ⟨Nat.zero_le _, Nat.zero_le _⟩ ?_
  refine lv_if_ne (tgt := 30) hx hb dX2_move_17 (by decide) (fun c17 => ?_) (fun c17 => absurd c17 (by rw [hp1]; decide))
  refine lv_aload_n hx hb dX2_move_30 rfl (lv_at hl 0 rfl) ?_
  refine va_get (ci := 2) (v := .ref (na 0)) (C := RX2) (T := TX2) (N := 2) hx hb hts (fun _ h => (List.mem_cons_of_mem _ (List.mem_append_left _ (List.mem_append_left _ (List.mem_append_left _ (List.mem_append_left _ (List.mem_append_right _ h))))))) hown hK hP 0 rfl rfl 0 (by decide) (hts _ (List.mem_cons_of_mem _ (List.mem_append_left _ (List.mem_append_left _ (List.mem_append_left _ (List.mem_append_left _ (List.mem_append_left _ (List.mem_append_left _ (List.mem_of_getElem? (i := 2) rfl))))))))) (fun _ h9 => h9) rfl dX2_move_31 ?_
  refine va_getN (ci := 1) (v := .ref (na 7)) (C := RX1) (T := TX1) (N := 14) hx hb hts (fun _ h => (List.mem_cons_of_mem _ (List.mem_append_left _ (List.mem_append_left _ (List.mem_append_left _ (List.mem_append_right _ h)))))) hown hK hP 1 rfl rfl 7 (by decide) (va_Nw.use rfl hN.2.2.2.1) (fun _ h9 => h9) rfl dX2_move_34 ?_
  refine lv_iload_n hx hb dX2_move_37 rfl (lv_at hl 1 rfl) ?_
  refine z_rVi (v := nI (z_sh G t)) [] hx hb hml hown hts (m_X0_get l Dg cI (na 7) (na 16) 60 (fun j9 => nI (z_sh G j9)) t (by omega) (by decide)) gX2_move_X0_get rfl kd_X0_get ⟨Nat.le_of_ble_eq_true rfl, Nat.le_of_ble_eq_true rfl⟩ hK hN (hP.sub [8, 17] rfl) rfl rfl rfl rfl hl.1 rfl (Nat.le_of_ble_eq_true rfl) dX2_move_38 ⟨Nat.zero_le _, Nat.zero_le _⟩ ?_
  refine lv_istore_n (lv' := [(3, .int (nI (z_sh G t))), (0, .ref h), (1, .int (nI t)), (2, .int (nI s_))]) hx hb dX2_move_41 rfl hl (by decide) rfl (fun ls hl => ?_)
  refine lv_aload_n hx hb dX2_move_42 rfl (lv_at hl 1 rfl) ?_
  refine va_get (ci := 2) (v := .ref (na 0)) (C := RX2) (T := TX2) (N := 2) hx hb hts (fun _ h => (List.mem_cons_of_mem _ (List.mem_append_left _ (List.mem_append_left _ (List.mem_append_left _ (List.mem_append_left _ (List.mem_append_right _ h))))))) hown hK hP 0 rfl rfl 0 (by decide) (hts _ (List.mem_cons_of_mem _ (List.mem_append_left _ (List.mem_append_left _ (List.mem_append_left _ (List.mem_append_left _ (List.mem_append_left _ (List.mem_append_left _ (List.mem_of_getElem? (i := 2) rfl))))))))) (fun _ h9 => h9) rfl dX2_move_43 ?_
  refine va_getN (ci := 1) (v := .ref (na 7)) (C := RX1) (T := TX1) (N := 14) hx hb hts (fun _ h => (List.mem_cons_of_mem _ (List.mem_append_left _ (List.mem_append_left _ (List.mem_append_left _ (List.mem_append_right _ h)))))) hown hK hP 1 rfl rfl 7 (by decide) (va_Nw.use rfl hN.2.2.2.1) (fun _ h9 => h9) rfl dX2_move_46 ?_
  refine lv_iload_n hx hb dX2_move_49 rfl (lv_at hl 2 rfl) ?_
  refine lv_iload_n hx hb dX2_move_50 rfl (lv_at hl 3 rfl) ?_
  refine z_wVv [] [8, 17] hx hb hml hown hts (m_X0_set l Dg cI (na 7) (na 16) 60 (fun j9 => nI (z_sh G j9)) t (nI s_) (by omega) (by decide)) gX2_move_X0_set rfl kd_X0_set ⟨Nat.le_of_ble_eq_true rfl, Nat.le_of_ble_eq_true rfl⟩ hK hN hP hD hS rfl (by decide) rfl rfl rfl rfl rfl hl.1 rfl (Nat.le_of_ble_eq_true rfl) dX2_move_51 ⟨Nat.zero_le _, Nat.zero_le _⟩ (fun H locs hP hD hS => ?_)
  have hP : va_P Dg vwCl ((h, .inr (2, [.ref (na 0), .ref (ta 0)])) :: ((z_sX cI na (z_wm G) (z_v0 G) (z_lk G) (z_sw D) (fun j9 => z_bI (z_rc D j9)) (fun j9 => nI (z_bt G j9)) (upd (fun j9 => nI (z_sh G j9)) t (nI s_)) (z_vc D) (fun j9 => nI (z_pl D j9)) (nI (z_bc G)) (nI (z_tc G)) (nI (z_sd G)) (nI (z_od G)) (z_dy D)) ++ (z_sW cI ta G1 D1))) H := hP
  have hD : va_D _ ((h, .inr (2, [.ref (na 0), .ref (ta 0)])) :: ((z_sX cI na (z_wm G) (z_v0 G) (z_lk G) (z_sw D) (fun j9 => z_bI (z_rc D j9)) (fun j9 => nI (z_bt G j9)) (upd (fun j9 => nI (z_sh G j9)) t (nI s_)) (z_vc D) (fun j9 => nI (z_pl D j9)) (nI (z_bc G)) (nI (z_tc G)) (nI (z_sd G)) (nI (z_od G)) (z_dy D)) ++ (z_sW cI ta G1 D1))) := hD
  rw [z_upN] at hP hD
  have hP : va_P Dg vwCl ((h, .inr (2, [.ref (na 0), .ref (ta 0)])) :: ((z_sX cI na (z_wm G) (z_v0 G) (z_lk G) (z_sw D) (fun j9 => z_bI (z_rc D j9)) (fun j9 => nI (z_bt G j9)) (fun j9 => nI (va_up (z_sh G) t s_ j9)) (z_vc D) (fun j9 => nI (z_pl D j9)) (nI (z_bc G)) (nI (z_tc G)) (nI (z_sd G)) (nI (z_od G)) (z_dy D)) ++ (z_sW cI ta G1 D1))) H := hP
  have hD : va_D _ ((h, .inr (2, [.ref (na 0), .ref (ta 0)])) :: ((z_sX cI na (z_wm G) (z_v0 G) (z_lk G) (z_sw D) (fun j9 => z_bI (z_rc D j9)) (fun j9 => nI (z_bt G j9)) (fun j9 => nI (va_up (z_sh G) t s_ j9)) (z_vc D) (fun j9 => nI (z_pl D j9)) (nI (z_bc G)) (nI (z_tc G)) (nI (z_sd G)) (nI (z_od G)) (z_dy D)) ++ (z_sW cI ta G1 D1))) := hD
  have hP : va_P Dg vwCl (z_cW cI h na ta (z_setsh G t s_) D G1 D1) H := hP
  have hD : va_D _ (z_cW cI h na ta (z_setsh G t s_) D G1 D1) := hD
  refine lv_iload_n hx hb dX2_move_54 rfl (lv_at hl 0 rfl) ?_
  exact z_ew_i rfl hP hS hx hb hr hlk dX2_move_55

set_option maxHeartbeats 4000000 in
set_option maxRecDepth 100000 in
theorem m_X2_setWarm (l : Launch) (Dg : va_G) (cI : ClassId) (h : Nat) (na ta : Nat → Nat) (G : z_GG) (D : z_DD) (G1 : z_GG) (D1 : z_DD) (s_ : Nat) (w_ : Int32) (hs4 : s_ < 4) (hw1 : 0 ≤ w_) (hw2 : w_ ≤ 3) (hG : z_WG G) (hW : z_WD G D) : z_Mw l yX2_setWarm wsX2_setWarm 2 42 [.ref h, .int (nI s_), .int w_] Dg cI (z_cW cI h na ta G D G1 D1) (some (.int (z_wm G s_))) (z_cW cI h na ta (z_setwm G s_ w_) D G1 D1) := by
  have htc : z_tc G ≤ 60 := hG.2.2.2.2.2.1
  have hbc : z_bc G ≤ 6 := hG.2.2.2.2.1
  refine z_sw' (own := RX2) (l0 := [(0, .ref h), (1, .int (nI s_)), (2, .int w_)]) rfl rfl (by decide) (Nat.le_of_ble_eq_true rfl) rfl ?_
  intro p e s m below meth c hx hb hr hml hts hown hlk hP hK hN hD hS ls hl
  refine lv_iload_n hx hb dX2_setWarm_0 rfl (lv_at hl 1 rfl) ?_
  refine z_rSv [] hx hb hml hown hts (m_X2_needShelf l Dg cI s_ (by omega)) gX2_setWarm_X2_needShelf rfl kdS_X2_needShelf ⟨Nat.le_of_ble_eq_true rfl, Nat.le_of_ble_eq_true rfl⟩ hK hN z_P0 rfl hl.1 rfl (Nat.le_of_ble_eq_true rfl) dX2_setWarm_1 ⟨Nat.zero_le _, Nat.zero_le _⟩ ?_
  refine lv_iload_n hx hb dX2_setWarm_4 rfl (lv_at hl 2 rfl) ?_
  refine lv_iconst (v := 0) hx hb dX2_setWarm_5 (by decide) ?_
  refine lv_iconst (v := 3) hx hb dX2_setWarm_6 (by decide) ?_
  refine z_rSi (v := 1) [] hx hb hml hown hts (m_X2_isWithin_t l Dg cI w_ 0 3 hw1 hw2) gX2_setWarm_X2_isWithin rfl kdS_X2_isWithin ⟨Nat.le_of_ble_eq_true rfl, Nat.le_of_ble_eq_true rfl⟩ hK hN z_P0 rfl hl.1 rfl (Nat.le_of_ble_eq_true rfl) dX2_setWarm_7 ⟨Nat.zero_le _, Nat.zero_le _⟩ ?_
  refine lv_if_ne (tgt := 23) hx hb dX2_setWarm_10 (by decide) (fun c10 => ?_) (fun c10 => absurd c10 (by decide))
  refine lv_aload_n hx hb dX2_setWarm_23 rfl (lv_at hl 0 rfl) ?_
  refine va_get (ci := 2) (v := .ref (na 0)) (C := RX2) (T := TX2) (N := 2) hx hb hts (fun _ h => (List.mem_cons_of_mem _ (List.mem_append_left _ (List.mem_append_left _ (List.mem_append_left _ (List.mem_append_left _ (List.mem_append_right _ h))))))) hown hK hP 0 rfl rfl 0 (by decide) (hts _ (List.mem_cons_of_mem _ (List.mem_append_left _ (List.mem_append_left _ (List.mem_append_left _ (List.mem_append_left _ (List.mem_append_left _ (List.mem_of_getElem? (i := 2) rfl)))))))) (fun _ h9 => h9) rfl dX2_setWarm_24 ?_
  refine va_getN (ci := 1) (v := .ref (na 1)) (C := RX1) (T := TX1) (N := 14) hx hb hts (fun _ h => (List.mem_cons_of_mem _ (List.mem_append_left _ (List.mem_append_left _ (List.mem_append_left _ (List.mem_append_right _ h)))))) hown hK hP 1 rfl rfl 0 (by decide) (va_Nw.use rfl hN.2.2.2.2.1) (fun _ h9 => h9) rfl dX2_setWarm_27 ?_
  refine lv_iload_n hx hb dX2_setWarm_30 rfl (lv_at hl 1 rfl) ?_
  refine z_rVi (v := z_wm G s_) [] hx hb hml hown hts (m_X0_get l Dg cI (na 1) (na 10) 4 (z_wm G) s_ (by omega) (by decide)) gX2_setWarm_X0_get rfl kd_X0_get ⟨Nat.le_of_ble_eq_true rfl, Nat.le_of_ble_eq_true rfl⟩ hK hN (hP.sub [2, 11] rfl) rfl rfl rfl rfl hl.1 rfl (Nat.le_of_ble_eq_true rfl) dX2_setWarm_31 ⟨Nat.zero_le _, Nat.zero_le _⟩ ?_
  refine lv_istore_n (lv' := [(3, .int (z_wm G s_)), (0, .ref h), (1, .int (nI s_)), (2, .int w_)]) hx hb dX2_setWarm_34 rfl hl (by decide) rfl (fun ls hl => ?_)
  refine lv_aload_n hx hb dX2_setWarm_35 rfl (lv_at hl 1 rfl) ?_
  refine va_get (ci := 2) (v := .ref (na 0)) (C := RX2) (T := TX2) (N := 2) hx hb hts (fun _ h => (List.mem_cons_of_mem _ (List.mem_append_left _ (List.mem_append_left _ (List.mem_append_left _ (List.mem_append_left _ (List.mem_append_right _ h))))))) hown hK hP 0 rfl rfl 0 (by decide) (hts _ (List.mem_cons_of_mem _ (List.mem_append_left _ (List.mem_append_left _ (List.mem_append_left _ (List.mem_append_left _ (List.mem_append_left _ (List.mem_of_getElem? (i := 2) rfl)))))))) (fun _ h9 => h9) rfl dX2_setWarm_36 ?_
  refine va_getN (ci := 1) (v := .ref (na 1)) (C := RX1) (T := TX1) (N := 14) hx hb hts (fun _ h => (List.mem_cons_of_mem _ (List.mem_append_left _ (List.mem_append_left _ (List.mem_append_left _ (List.mem_append_right _ h)))))) hown hK hP 1 rfl rfl 0 (by decide) (va_Nw.use rfl hN.2.2.2.2.1) (fun _ h9 => h9) rfl dX2_setWarm_39 ?_
  refine lv_iload_n hx hb dX2_setWarm_42 rfl (lv_at hl 2 rfl) ?_
  refine lv_iload_n hx hb dX2_setWarm_43 rfl (lv_at hl 3 rfl) ?_
  refine z_wVv [] [2, 11] hx hb hml hown hts (m_X0_set l Dg cI (na 1) (na 10) 4 (z_wm G) s_ w_ (by omega) (by decide)) gX2_setWarm_X0_set rfl kd_X0_set ⟨Nat.le_of_ble_eq_true rfl, Nat.le_of_ble_eq_true rfl⟩ hK hN hP hD hS rfl (by decide) rfl rfl rfl rfl rfl hl.1 rfl (Nat.le_of_ble_eq_true rfl) dX2_setWarm_44 ⟨Nat.zero_le _, Nat.zero_le _⟩ (fun H locs hP hD hS => ?_)
  have hP : va_P Dg vwCl ((h, .inr (2, [.ref (na 0), .ref (ta 0)])) :: ((z_sX cI na (upd (z_wm G) s_ w_) (z_v0 G) (z_lk G) (z_sw D) (fun j9 => z_bI (z_rc D j9)) (fun j9 => nI (z_bt G j9)) (fun j9 => nI (z_sh G j9)) (z_vc D) (fun j9 => nI (z_pl D j9)) (nI (z_bc G)) (nI (z_tc G)) (nI (z_sd G)) (nI (z_od G)) (z_dy D)) ++ (z_sW cI ta G1 D1))) H := hP
  have hD : va_D _ ((h, .inr (2, [.ref (na 0), .ref (ta 0)])) :: ((z_sX cI na (upd (z_wm G) s_ w_) (z_v0 G) (z_lk G) (z_sw D) (fun j9 => z_bI (z_rc D j9)) (fun j9 => nI (z_bt G j9)) (fun j9 => nI (z_sh G j9)) (z_vc D) (fun j9 => nI (z_pl D j9)) (nI (z_bc G)) (nI (z_tc G)) (nI (z_sd G)) (nI (z_od G)) (z_dy D)) ++ (z_sW cI ta G1 D1))) := hD
  have hP : va_P Dg vwCl (z_cW cI h na ta (z_setwm G s_ w_) D G1 D1) H := hP
  have hD : va_D _ (z_cW cI h na ta (z_setwm G s_ w_) D G1 D1) := hD
  refine lv_iload_n hx hb dX2_setWarm_47 rfl (lv_at hl 0 rfl) ?_
  exact z_ew_i rfl hP hS hx hb hr hlk dX2_setWarm_48

set_option maxHeartbeats 4000000 in
set_option maxRecDepth 100000 in
theorem m_X2_setShipping (l : Launch) (Dg : va_G) (cI : ClassId) (h : Nat) (na ta : Nat → Nat) (G : z_GG) (D : z_DD) (G1 : z_GG) (D1 : z_DD) (m_ o : Nat) (hm9 : m_ < 10) (ho : o < 3) (hG : z_WG G) (hW : z_WD G D) : z_Mw l yX2_setShipping wsX2_setShipping 3 63 [.ref h, .int (nI m_), .int (nI o)] Dg cI (z_cW cI h na ta G D G1 D1) (some (.int (nI (z_sd G)))) (z_cW cI h na ta (z_ship G m_ o) D G1 D1) := by
  have htc : z_tc G ≤ 60 := hG.2.2.2.2.2.1
  have hbc : z_bc G ≤ 6 := hG.2.2.2.2.1
  refine z_sw' (own := RX2) (l0 := [(0, .ref h), (1, .int (nI m_)), (2, .int (nI o))]) rfl rfl (by decide) (Nat.le_of_ble_eq_true rfl) rfl ?_
  intro p e s m below meth c hx hb hr hml hts hown hlk hP hK hN hD hS ls hl
  refine lv_iload_n hx hb dX2_setShipping_0 rfl (lv_at hl 1 rfl) ?_
  refine lv_iload_n hx hb dX2_setShipping_1 rfl (lv_at hl 2 rfl) ?_
  refine z_rSv [] hx hb hml hown hts (m_X2_needShipping l Dg cI m_ o (by omega) (by omega)) gX2_setShipping_X2_needShipping rfl kdS_X2_needShipping ⟨Nat.le_of_ble_eq_true rfl, Nat.le_of_ble_eq_true rfl⟩ hK hN z_P0 rfl hl.1 rfl (Nat.le_of_ble_eq_true rfl) dX2_setShipping_2 ⟨Nat.zero_le _, Nat.zero_le _⟩ ?_
  refine lv_aload_n hx hb dX2_setShipping_5 rfl (lv_at hl 0 rfl) ?_
  refine va_get (ci := 2) (v := .ref (na 0)) (C := RX2) (T := TX2) (N := 2) hx hb hts (fun _ h => (List.mem_cons_of_mem _ (List.mem_append_left _ (List.mem_append_left _ (List.mem_append_right _ h))))) hown hK hP 0 rfl rfl 0 (by decide) (hts _ (List.mem_cons_of_mem _ (List.mem_append_left _ (List.mem_append_left _ (List.mem_append_left _ (List.mem_of_getElem? (i := 0) rfl)))))) (fun _ h9 => h9) rfl dX2_setShipping_6 ?_
  refine va_getN (ci := 1) (v := .int (nI (z_sd G))) (C := RX1) (T := TX1) (N := 14) hx hb hts (fun _ h => (List.mem_cons_of_mem _ (List.mem_append_left _ (List.mem_append_right _ h)))) hown hK hP 1 rfl rfl 11 (by decide) (va_Nw.use rfl hN.2.2.2.2.2.1) (fun _ h9 => h9) rfl dX2_setShipping_9 ?_
  refine lv_istore_n (lv' := [(3, .int (nI (z_sd G))), (0, .ref h), (1, .int (nI m_)), (2, .int (nI o))]) hx hb dX2_setShipping_12 rfl hl (by decide) rfl (fun ls hl => ?_)
  refine lv_aload_n hx hb dX2_setShipping_13 rfl (lv_at hl 1 rfl) ?_
  refine va_get (ci := 2) (v := .ref (na 0)) (C := RX2) (T := TX2) (N := 2) hx hb hts (fun _ h => (List.mem_cons_of_mem _ (List.mem_append_left _ (List.mem_append_left _ (List.mem_append_right _ h))))) hown hK hP 0 rfl rfl 0 (by decide) (hts _ (List.mem_cons_of_mem _ (List.mem_append_left _ (List.mem_append_left _ (List.mem_append_left _ (List.mem_of_getElem? (i := 0) rfl)))))) (fun _ h9 => h9) rfl dX2_setShipping_14 ?_
  refine lv_iload_n hx hb dX2_setShipping_17 rfl (lv_at hl 2 rfl) ?_
  refine va_putN (ci := 1) (v := .int (nI m_)) (ty := .int) (C := RX1) (T := TX1) (N := 14) hx hb hts (fun _ h => (List.mem_cons_of_mem _ (List.mem_append_left _ (List.mem_append_right _ h)))) tyX1 tyX1_ok nmX1 hown hK hP hD hS 1 rfl rfl 11 (by decide) (va_Nw.use rfl hN.2.2.2.2.2.1) (fun _ h9 => h9) rfl (by decide +kernel) rfl rfl (Nat.le_of_ble_eq_true rfl) dX2_setShipping_18 (fun H locs hP hD hS => ?_)
  have hP : va_P Dg vwCl ((h, .inr (2, [.ref (na 0), .ref (ta 0)])) :: ((z_sX cI na (z_wm G) (z_v0 G) (z_lk G) (z_sw D) (fun j9 => z_bI (z_rc D j9)) (fun j9 => nI (z_bt G j9)) (fun j9 => nI (z_sh G j9)) (z_vc D) (fun j9 => nI (z_pl D j9)) (nI (z_bc G)) (nI (z_tc G)) (nI m_) (nI (z_od G)) (z_dy D)) ++ (z_sW cI ta G1 D1))) H := hP
  have hD : va_D _ ((h, .inr (2, [.ref (na 0), .ref (ta 0)])) :: ((z_sX cI na (z_wm G) (z_v0 G) (z_lk G) (z_sw D) (fun j9 => z_bI (z_rc D j9)) (fun j9 => nI (z_bt G j9)) (fun j9 => nI (z_sh G j9)) (z_vc D) (fun j9 => nI (z_pl D j9)) (nI (z_bc G)) (nI (z_tc G)) (nI m_) (nI (z_od G)) (z_dy D)) ++ (z_sW cI ta G1 D1))) := hD
  refine lv_aload_n hx hb dX2_setShipping_21 rfl (lv_at hl 1 rfl) ?_
  refine va_get (ci := 2) (v := .ref (na 0)) (C := RX2) (T := TX2) (N := 2) hx hb hts (fun _ h => (List.mem_cons_of_mem _ (List.mem_append_left _ (List.mem_append_left _ (List.mem_append_right _ h))))) hown hK hP 0 rfl rfl 0 (by decide) (hts _ (List.mem_cons_of_mem _ (List.mem_append_left _ (List.mem_append_left _ (List.mem_append_left _ (List.mem_of_getElem? (i := 0) rfl)))))) (fun _ h9 => h9) rfl dX2_setShipping_22 ?_
  refine lv_iload_n hx hb dX2_setShipping_25 rfl (lv_at hl 3 rfl) ?_
  refine va_putN (ci := 1) (v := .int (nI o)) (ty := .int) (C := RX1) (T := TX1) (N := 14) hx hb hts (fun _ h => (List.mem_cons_of_mem _ (List.mem_append_left _ (List.mem_append_right _ h)))) tyX1 tyX1_ok nmX1 hown hK hP hD hS 1 rfl rfl 12 (by decide) (va_Nw.use rfl hN.2.2.2.2.2.2.1) (fun _ h9 => h9) rfl (by decide +kernel) rfl rfl (Nat.le_of_ble_eq_true rfl) dX2_setShipping_26 (fun H locs hP hD hS => ?_)
  have hP : va_P Dg vwCl ((h, .inr (2, [.ref (na 0), .ref (ta 0)])) :: ((z_sX cI na (z_wm G) (z_v0 G) (z_lk G) (z_sw D) (fun j9 => z_bI (z_rc D j9)) (fun j9 => nI (z_bt G j9)) (fun j9 => nI (z_sh G j9)) (z_vc D) (fun j9 => nI (z_pl D j9)) (nI (z_bc G)) (nI (z_tc G)) (nI m_) (nI o) (z_dy D)) ++ (z_sW cI ta G1 D1))) H := hP
  have hD : va_D _ ((h, .inr (2, [.ref (na 0), .ref (ta 0)])) :: ((z_sX cI na (z_wm G) (z_v0 G) (z_lk G) (z_sw D) (fun j9 => z_bI (z_rc D j9)) (fun j9 => nI (z_bt G j9)) (fun j9 => nI (z_sh G j9)) (z_vc D) (fun j9 => nI (z_pl D j9)) (nI (z_bc G)) (nI (z_tc G)) (nI m_) (nI o) (z_dy D)) ++ (z_sW cI ta G1 D1))) := hD
  have hP : va_P Dg vwCl (z_cW cI h na ta (z_ship G m_ o) D G1 D1) H := hP
  have hD : va_D _ (z_cW cI h na ta (z_ship G m_ o) D G1 D1) := hD
  refine lv_iload_n hx hb dX2_setShipping_29 rfl (lv_at hl 0 rfl) ?_
  exact z_ew_i rfl hP hS hx hb hr hlk dX2_setShipping_30

set_option maxHeartbeats 4000000 in
set_option maxRecDepth 100000 in
theorem m_X2_recall (l : Launch) (Dg : va_G) (cI : ClassId) (h : Nat) (na ta : Nat → Nat) (G : z_GG) (D : z_DD) (G1 : z_GG) (D1 : z_DD) (b_ : Nat) (hbb : b_ < z_bc G) (hrc : z_rc D b_ = false) (hG : z_WG G) (hW : z_WD G D) : z_Mw l yX2_recall wsX2_recall 2 45 [.ref h, .int (nI b_)] Dg cI (z_cW cI h na ta G D G1 D1) (some (.int (nI (z_rb G b_ D).1))) (z_cW cI h na ta G ((z_rb G b_ D).2) G1 D1) := by
  have htc : z_tc G ≤ 60 := hG.2.2.2.2.2.1
  have hbc : z_bc G ≤ 6 := hG.2.2.2.2.1
  refine z_sw' (own := RX2) (l0 := [(0, .ref h), (1, .int (nI b_))]) rfl rfl (by decide) (Nat.le_of_ble_eq_true rfl) rfl ?_
  intro p e s m below meth c hx hb hr hml hts hown hlk hP hK hN hD hS ls hl
  refine lv_aload_n hx hb dX2_recall_0 rfl (lv_at hl 0 rfl) ?_
  refine lv_iload_n hx hb dX2_recall_1 rfl (lv_at hl 1 rfl) ?_
  refine z_rVv [] hx hb hml hown hts (m_X2_needBatch l Dg cI h na ta G D G1 D1 b_ (by omega) (by omega)) gX2_recall_X2_needBatch rfl kd_X2_needBatch ⟨Nat.le_of_ble_eq_true rfl, Nat.le_of_ble_eq_true rfl⟩ hK hN hP rfl rfl rfl rfl hl.1 rfl (Nat.le_of_ble_eq_true rfl) dX2_recall_2 ⟨Nat.zero_le _, Nat.zero_le _⟩ ?_
  refine lv_aload_n hx hb dX2_recall_5 rfl (lv_at hl 0 rfl) ?_
  refine va_get (ci := 2) (v := .ref (na 0)) (C := RX2) (T := TX2) (N := 2) hx hb hts (fun _ h => (List.mem_cons_of_mem _ (List.mem_append_left _ (List.mem_append_left _ (List.mem_append_left _ (List.mem_append_left _ (List.mem_append_right _ h))))))) hown hK hP 0 rfl rfl 0 (by decide) (hts _ (List.mem_cons_of_mem _ (List.mem_append_left _ (List.mem_append_left _ (List.mem_append_left _ (List.mem_append_left _ (List.mem_append_left _ (List.mem_append_left _ (List.mem_of_getElem? (i := 2) rfl))))))))) (fun _ h9 => h9) rfl dX2_recall_6 ?_
  refine lv_iload_n hx hb dX2_recall_9 rfl (lv_at hl 1 rfl) ?_
  refine z_rVi (v := z_bI (z_rc D b_)) [] hx hb hml hown hts (m_X1_isBatchRecalled l Dg cI na G D b_ (by omega)) gX2_recall_X1_isBatchRecalled rfl kd_X1_isBatchRecalled ⟨Nat.le_of_ble_eq_true rfl, Nat.le_of_ble_eq_true rfl⟩ hK hN (z_Pm (a := [(h, .inr (2, [.ref (na 0), .ref (ta 0)]))]) (c := (z_sW cI ta G1 D1)) hP) rfl rfl rfl rfl hl.1 rfl (Nat.le_of_ble_eq_true rfl) dX2_recall_10 ⟨Nat.zero_le _, Nat.zero_le _⟩ ?_
  refine lv_if_eq (tgt := 26) hx hb dX2_recall_13 (by decide) (fun c13 => ?_) (fun c13 => absurd (by rw [hrc]; rfl) c13)
  refine lv_aload_n hx hb dX2_recall_26 rfl (lv_at hl 0 rfl) ?_
  refine va_get (ci := 2) (v := .ref (na 0)) (C := RX2) (T := TX2) (N := 2) hx hb hts (fun _ h => (List.mem_cons_of_mem _ (List.mem_append_left _ (List.mem_append_left _ (List.mem_append_left _ (List.mem_append_left _ (List.mem_append_right _ h))))))) hown hK hP 0 rfl rfl 0 (by decide) (hts _ (List.mem_cons_of_mem _ (List.mem_append_left _ (List.mem_append_left _ (List.mem_append_left _ (List.mem_append_left _ (List.mem_append_left _ (List.mem_append_left _ (List.mem_of_getElem? (i := 2) rfl))))))))) (fun _ h9 => h9) rfl dX2_recall_27 ?_
  refine lv_iload_n hx hb dX2_recall_30 rfl (lv_at hl 1 rfl) ?_
  refine z_wBi (v := nI (z_rb G b_ D).1) [] [(h, .inr (2, [.ref (na 0), .ref (ta 0)]))] (z_sW cI ta G1 D1) 0 hx hb hml hown hts (m_X1_recallBatch l Dg cI na G D b_ (by omega) hG hW) gX2_recall_X1_recallBatch rfl kd_X1_recallBatch ⟨Nat.le_of_ble_eq_true rfl, Nat.le_of_ble_eq_true rfl⟩ hK hN hP hD hS rfl rfl rfl rfl rfl hl.1 rfl (Nat.le_of_ble_eq_true rfl) dX2_recall_31 ⟨Nat.zero_le _, Nat.zero_le _⟩ (fun H locs hP hD hS => ?_)
  have hP : va_P Dg vwCl (z_cW cI h na ta G ((z_rb G b_ D).2) G1 D1) H := hP
  have hD : va_D _ (z_cW cI h na ta G ((z_rb G b_ D).2) G1 D1) := hD
  exact z_ew_i rfl hP hS hx hb hr hlk dX2_recall_34

set_option maxHeartbeats 4000000 in
set_option maxRecDepth 100000 in
theorem m_X2_pass (l : Launch) (Dg : va_G) (cI : ClassId) (h : Nat) (na ta : Nat → Nat) (G : z_GG) (D : z_DD) (G1 : z_GG) (D1 : z_DD) (k_ : Nat) (hk1 : 1 ≤ k_) (hk2 : k_ ≤ 60) (hG : z_WG G) (hW : z_WD G D) : z_Mw l yX2_pass wsX2_pass 4 89 [.ref h, .int (nI k_)] Dg cI (z_cW cI h na ta G D G1 D1) (some (.int (nI (z_cn G (z_days G D k_) 2) - nI (z_cn G D 2)))) (z_cW cI h na ta G (z_days G D k_) G1 D1) := by
  have htc : z_tc G ≤ 60 := hG.2.2.2.2.2.1
  have hbc : z_bc G ≤ 6 := hG.2.2.2.2.1
  refine z_sw' (own := RX2) (l0 := [(0, .ref h), (1, .int (nI k_))]) rfl rfl (by decide) (Nat.le_of_ble_eq_true rfl) rfl ?_
  intro p e s m below meth c hx hb hr hml hts hown hlk hP hK hN hD hS ls hl
  refine lv_iload_n hx hb dX2_pass_0 rfl (lv_at hl 1 rfl) ?_
  refine lv_iconst (v := nI 1) hx hb dX2_pass_1 (by decide) ?_
  refine lv_bipush (v := nI 60) hx hb dX2_pass_2 (by decide) ?_
  refine z_rSi (v := 1) [] hx hb hml hown hts (m_X2_isWithin_t l Dg cI (nI k_) (nI 1) (nI 60) (nI_le hk1 (by omega)) (nI_le hk2 (by decide))) gX2_pass_X2_isWithin rfl kdS_X2_isWithin ⟨Nat.le_of_ble_eq_true rfl, Nat.le_of_ble_eq_true rfl⟩ hK hN z_P0 rfl hl.1 rfl (Nat.le_of_ble_eq_true rfl) dX2_pass_4 ⟨Nat.zero_le _, Nat.zero_le _⟩ ?_
  refine lv_if_ne (tgt := 20) hx hb dX2_pass_7 (by decide) (fun c7 => ?_) (fun c7 => absurd c7 (by decide))
  refine lv_aload_n hx hb dX2_pass_20 rfl (lv_at hl 0 rfl) ?_
  refine va_get (ci := 2) (v := .ref (na 0)) (C := RX2) (T := TX2) (N := 2) hx hb hts (fun _ h => (List.mem_cons_of_mem _ (List.mem_append_left _ (List.mem_append_left _ (List.mem_append_left _ (List.mem_append_right _ h)))))) hown hK hP 0 rfl rfl 0 (by decide) (hts _ (List.mem_cons_of_mem _ (List.mem_append_left _ (List.mem_append_left _ (List.mem_append_left _ (List.mem_append_left _ (List.mem_append_left _ (List.mem_of_getElem? (i := 2) rfl)))))))) (fun _ h9 => h9) rfl dX2_pass_21 ?_
  refine lv_iconst (v := nI 2) hx hb dX2_pass_24 (by decide) ?_
  refine z_rVi (v := nI (z_cn G D 2)) [] hx hb hml hown hts (m_X1_countAt l Dg cI na G D 2 (by decide) hG hW) gX2_pass_X1_countAt rfl kd_X1_countAt ⟨Nat.le_of_ble_eq_true rfl, Nat.le_of_ble_eq_true rfl⟩ hK hN (z_Pm (a := [(h, .inr (2, [.ref (na 0), .ref (ta 0)]))]) (c := (z_sW cI ta G1 D1)) hP) rfl rfl rfl rfl hl.1 rfl (Nat.le_of_ble_eq_true rfl) dX2_pass_25 ⟨Nat.zero_le _, Nat.zero_le _⟩ ?_
  refine lv_istore_n (lv' := [(2, .int (nI (z_cn G D 2))), (0, .ref h), (1, .int (nI k_))]) hx hb dX2_pass_28 rfl hl (by decide) rfl (fun ls hl => ?_)
  refine lv_iconst (v := nI 0) hx hb dX2_pass_29 (by decide) ?_
  refine lv_istore_n (lv' := [(3, .int (nI 0)), (2, .int (nI (z_cn G D 2))), (0, .ref h), (1, .int (nI k_))]) hx hb dX2_pass_30 rfl hl (by decide) rfl (fun ls hl => ?_)
  have lp31 : ∀ (zz i : Nat) , i ≤ k_ → k_ + 1 ≤ i + zz → ∀ (H : Heap) (locs : List Loc), va_P Dg vwCl (z_cW cI h na ta G (z_days G D i) G1 D1) H → va_D (z_in (z_cW cI h na ta G D G1 D1)) (z_cW cI h na ta G (z_days G D i) G1 D1) → va_S (z_in (z_cW cI h na ta G D G1 D1)) s.heap H locs → ∀ ls : Array Slot, lv_has ls 4 [(0, .ref h), (1, .int (nI k_)), (2, .int (nI (z_cn G D 2))), (3, .int (nI i))] → W p l e ({ frames := 4, cells := 0, slots := 0, locals := 89 } : Room) s m ([.ref h, .int (nI k_)] : List Value).toArray below meth c H locs 0 0 (MQ below (z_Qw (some (.int (nI (z_cn G (z_days G D k_) 2) - nI (z_cn G D 2)))) Dg (z_cW cI h na ta G D G1 D1) (z_cW cI h na ta G (z_days G D k_) G1 D1)) ([.ref h, .int (nI k_)] : List Value).toArray s 0 0 (z_in (z_cW cI h na ta G D G1 D1))) (F0 m 31 ls []) := by
    intro zz
    induction zz with
    | zero => intros; exfalso; omega
    | succ zz ih31 =>
      intro i hi hzz H locs hP hD hS ls hl
      refine lv_iload_n hx hb dX2_pass_31 rfl (lv_at hl 3 rfl) ?_
      refine lv_iload_n hx hb dX2_pass_32 rfl (lv_at hl 1 rfl) ?_
      refine lv_icmp_ge (tgt := 49) hx hb dX2_pass_33 (by decide) (fun c33 => ?_) (fun c33 => ?_)
      · skip
        have hi2 : i = k_ := by have := z_le (by omega) (by omega) c33; omega
        subst hi2
        have hWi := z_WD_days hW i
        refine lv_aload_n hx hb dX2_pass_49 rfl (lv_at hl 0 rfl) ?_
        refine va_get (ci := 2) (v := .ref (na 0)) (C := RX2) (T := TX2) (N := 2) hx hb hts (fun _ h => (List.mem_cons_of_mem _ (List.mem_append_left _ (List.mem_append_left _ (List.mem_append_left _ (List.mem_append_right _ h)))))) hown hK hP 0 rfl rfl 0 (by decide) (hts _ (List.mem_cons_of_mem _ (List.mem_append_left _ (List.mem_append_left _ (List.mem_append_left _ (List.mem_append_left _ (List.mem_append_left _ (List.mem_of_getElem? (i := 2) rfl)))))))) (fun _ h9 => h9) rfl dX2_pass_50 ?_
        refine lv_iconst (v := nI 2) hx hb dX2_pass_53 (by decide) ?_
        refine z_rVi (v := nI (z_cn G (z_days G D i) 2)) [] hx hb hml hown hts (m_X1_countAt l Dg cI na G (z_days G D i) 2 (by decide) hG hWi) gX2_pass_X1_countAt rfl kd_X1_countAt ⟨Nat.le_of_ble_eq_true rfl, Nat.le_of_ble_eq_true rfl⟩ hK hN (z_Pm (a := [(h, .inr (2, [.ref (na 0), .ref (ta 0)]))]) (c := (z_sW cI ta G1 D1)) hP) rfl rfl rfl rfl hl.1 rfl (Nat.le_of_ble_eq_true rfl) dX2_pass_54 ⟨Nat.zero_le _, Nat.zero_le _⟩ ?_
        refine lv_iload_n hx hb dX2_pass_57 rfl (lv_at hl 2 rfl) ?_
        refine lv_isub hx hb dX2_pass_58 ?_
        exact z_ew_i rfl hP hS hx hb hr hlk dX2_pass_59
      · skip
        have hi2 : i < k_ := by have := z_nle (by omega) c33; omega
        have hWi := z_WD_days hW i
        refine lv_aload_n hx hb dX2_pass_36 rfl (lv_at hl 0 rfl) ?_
        refine va_get (ci := 2) (v := .ref (na 0)) (C := RX2) (T := TX2) (N := 2) hx hb hts (fun _ h => (List.mem_cons_of_mem _ (List.mem_append_left _ (List.mem_append_left _ (List.mem_append_left _ (List.mem_append_right _ h)))))) hown hK hP 0 rfl rfl 0 (by decide) (hts _ (List.mem_cons_of_mem _ (List.mem_append_left _ (List.mem_append_left _ (List.mem_append_left _ (List.mem_append_left _ (List.mem_append_left _ (List.mem_of_getElem? (i := 2) rfl)))))))) (fun _ h9 => h9) rfl dX2_pass_37 ?_
        refine z_wBv [] [(h, .inr (2, [.ref (na 0), .ref (ta 0)]))] (z_sW cI ta G1 D1) 0 hx hb hml hown hts (m_X1_passDay l Dg cI na G (z_days G D i) hG hWi) gX2_pass_X1_passDay rfl kd_X1_passDay ⟨Nat.le_of_ble_eq_true rfl, Nat.le_of_ble_eq_true rfl⟩ hK hN hP hD hS rfl rfl rfl rfl rfl hl.1 rfl (Nat.le_of_ble_eq_true rfl) dX2_pass_40 ⟨Nat.zero_le _, Nat.zero_le _⟩ (fun H locs hP hD hS => ?_)
        have hP : va_P Dg vwCl (z_cW cI h na ta G (z_day G (z_days G D i)) G1 D1) H := hP
        have hD : va_D _ (z_cW cI h na ta G (z_day G (z_days G D i)) G1 D1) := hD
        have hP : va_P Dg vwCl (z_cW cI h na ta G (z_days G D (i + 1)) G1 D1) H := hP
        have hD : va_D _ (z_cW cI h na ta G (z_days G D (i + 1)) G1 D1) := hD
        refine lv_iinc (v := nI (i + 1)) (lv' := [(3, .int (nI (i + 1))), (0, .ref h), (1, .int (nI k_)), (2, .int (nI (z_cn G D 2)))]) hx hb dX2_pass_43 hl (k := 3) rfl (nI_1 _) (by decide) rfl (fun ls hl => ?_)
        refine lv_goto (tgt := 31) hx hb dX2_pass_46 (by decide) ?_
        exact ih31 (i + 1) (by omega) (by omega) _ _ hP hD hS _ (lv_sub hl [1, 2, 3, 0] rfl)
  exact lp31 (k_ + 1) 0 (by omega) (by omega) _ _ hP hD hS _ (lv_sub hl [2, 3, 1, 0] rfl)
