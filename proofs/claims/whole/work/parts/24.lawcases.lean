theorem kdS_L_addBatch : yL_addBatch.cls ≠ "java/lang/invoke/MethodHandle" ∧ yL_addBatch.cls ≠ "java/lang/invoke/VarHandle" ∧ (parseMethodDescriptor yL_addBatch.desc).map (fun d => d.parameters.length) = some 4 := by decide +kernel
theorem kdS_L_batchOf : yL_batchOf.cls ≠ "java/lang/invoke/MethodHandle" ∧ yL_batchOf.cls ≠ "java/lang/invoke/VarHandle" ∧ (parseMethodDescriptor yL_batchOf.desc).map (fun d => d.parameters.length) = some 3 := by decide +kernel
theorem kdS_L_bestShelf : yL_bestShelf.cls ≠ "java/lang/invoke/MethodHandle" ∧ yL_bestShelf.cls ≠ "java/lang/invoke/VarHandle" ∧ (parseMethodDescriptor yL_bestShelf.desc).map (fun d => d.parameters.length) = some 3 := by decide +kernel
theorem kdS_L_daysOf : yL_daysOf.cls ≠ "java/lang/invoke/MethodHandle" ∧ yL_daysOf.cls ≠ "java/lang/invoke/VarHandle" ∧ (parseMethodDescriptor yL_daysOf.desc).map (fun d => d.parameters.length) = some 3 := by decide +kernel
theorem kdS_L_daysUntilRecalled : yL_daysUntilRecalled.cls ≠ "java/lang/invoke/MethodHandle" ∧ yL_daysUntilRecalled.cls ≠ "java/lang/invoke/VarHandle" ∧ (parseMethodDescriptor yL_daysUntilRecalled.desc).map (fun d => d.parameters.length) = some 3 := by decide +kernel
theorem kdS_L_first : yL_first.cls ≠ "java/lang/invoke/MethodHandle" ∧ yL_first.cls ≠ "java/lang/invoke/VarHandle" ∧ (parseMethodDescriptor yL_first.desc).map (fun d => d.parameters.length) = some 3 := by decide +kernel
theorem kdS_L_isLost : yL_isLost.cls ≠ "java/lang/invoke/MethodHandle" ∧ yL_isLost.cls ≠ "java/lang/invoke/VarHandle" ∧ (parseMethodDescriptor yL_isLost.desc).map (fun d => d.parameters.length) = some 3 := by decide +kernel
theorem kdS_L_isRecalled : yL_isRecalled.cls ≠ "java/lang/invoke/MethodHandle" ∧ yL_isRecalled.cls ≠ "java/lang/invoke/VarHandle" ∧ (parseMethodDescriptor yL_isRecalled.desc).map (fun d => d.parameters.length) = some 3 := by decide +kernel
theorem kdS_L_isShipped : yL_isShipped.cls ≠ "java/lang/invoke/MethodHandle" ∧ yL_isShipped.cls ≠ "java/lang/invoke/VarHandle" ∧ (parseMethodDescriptor yL_isShipped.desc).map (fun d => d.parameters.length) = some 3 := by decide +kernel
theorem kdS_L_leftOf : yL_leftOf.cls ≠ "java/lang/invoke/MethodHandle" ∧ yL_leftOf.cls ≠ "java/lang/invoke/VarHandle" ∧ (parseMethodDescriptor yL_leftOf.desc).map (fun d => d.parameters.length) = some 3 := by decide +kernel
theorem kdS_L_lostWith : yL_lostWith.cls ≠ "java/lang/invoke/MethodHandle" ∧ yL_lostWith.cls ≠ "java/lang/invoke/VarHandle" ∧ (parseMethodDescriptor yL_lostWith.desc).map (fun d => d.parameters.length) = some 4 := by decide +kernel
theorem kdS_L_move : yL_move.cls ≠ "java/lang/invoke/MethodHandle" ∧ yL_move.cls ≠ "java/lang/invoke/VarHandle" ∧ (parseMethodDescriptor yL_move.desc).map (fun d => d.parameters.length) = some 4 := by decide +kernel
theorem kdS_L_pass : yL_pass.cls ≠ "java/lang/invoke/MethodHandle" ∧ yL_pass.cls ≠ "java/lang/invoke/VarHandle" ∧ (parseMethodDescriptor yL_pass.desc).map (fun d => d.parameters.length) = some 3 := by decide +kernel
theorem kdS_L_placeBy : yL_placeBy.cls ≠ "java/lang/invoke/MethodHandle" ∧ yL_placeBy.cls ≠ "java/lang/invoke/VarHandle" ∧ (parseMethodDescriptor yL_placeBy.desc).map (fun d => d.parameters.length) = some 4 := by decide +kernel
theorem kdS_L_recall : yL_recall.cls ≠ "java/lang/invoke/MethodHandle" ∧ yL_recall.cls ≠ "java/lang/invoke/VarHandle" ∧ (parseMethodDescriptor yL_recall.desc).map (fun d => d.parameters.length) = some 3 := by decide +kernel
theorem kdS_L_seal : yL_seal.cls ≠ "java/lang/invoke/MethodHandle" ∧ yL_seal.cls ≠ "java/lang/invoke/VarHandle" ∧ (parseMethodDescriptor yL_seal.desc).map (fun d => d.parameters.length) = some 5 := by decide +kernel
theorem kdS_L_setShipping : yL_setShipping.cls ≠ "java/lang/invoke/MethodHandle" ∧ yL_setShipping.cls ≠ "java/lang/invoke/VarHandle" ∧ (parseMethodDescriptor yL_setShipping.desc).map (fun d => d.parameters.length) = some 4 := by decide +kernel
theorem kdS_L_setWarm : yL_setWarm.cls ≠ "java/lang/invoke/MethodHandle" ∧ yL_setWarm.cls ≠ "java/lang/invoke/VarHandle" ∧ (parseMethodDescriptor yL_setWarm.desc).map (fun d => d.parameters.length) = some 4 := by decide +kernel
theorem kdS_L_shelfOf : yL_shelfOf.cls ≠ "java/lang/invoke/MethodHandle" ∧ yL_shelfOf.cls ≠ "java/lang/invoke/VarHandle" ∧ (parseMethodDescriptor yL_shelfOf.desc).map (fun d => d.parameters.length) = some 3 := by decide +kernel
theorem kdS_L_standOn : yL_standOn.cls ≠ "java/lang/invoke/MethodHandle" ∧ yL_standOn.cls ≠ "java/lang/invoke/VarHandle" ∧ (parseMethodDescriptor yL_standOn.desc).map (fun d => d.parameters.length) = some 3 := by decide +kernel
theorem kdS_L_swelledOf : yL_swelledOf.cls ≠ "java/lang/invoke/MethodHandle" ∧ yL_swelledOf.cls ≠ "java/lang/invoke/VarHandle" ∧ (parseMethodDescriptor yL_swelledOf.desc).map (fun d => d.parameters.length) = some 3 := by decide +kernel
theorem kdS_L_vacuumOf : yL_vacuumOf.cls ≠ "java/lang/invoke/MethodHandle" ∧ yL_vacuumOf.cls ≠ "java/lang/invoke/VarHandle" ∧ (parseMethodDescriptor yL_vacuumOf.desc).map (fun d => d.parameters.length) = some 3 := by decide +kernel
theorem kdS_L_warmOf : yL_warmOf.cls ≠ "java/lang/invoke/MethodHandle" ∧ yL_warmOf.cls ≠ "java/lang/invoke/VarHandle" ∧ (parseMethodDescriptor yL_warmOf.desc).map (fun d => d.parameters.length) = some 3 := by decide +kernel
theorem kd_X2_digest : yX2_digest.cls = RX2 ∧ yX2_digest.cls ≠ "java/lang/invoke/MethodHandle" ∧ yX2_digest.cls ≠ "java/lang/invoke/VarHandle" ∧ (parseMethodDescriptor yX2_digest.desc).map (fun d => d.parameters.length) = some 0 := by decide +kernel
theorem kd_X2_meanVacuum : yX2_meanVacuum.cls = RX2 ∧ yX2_meanVacuum.cls ≠ "java/lang/invoke/MethodHandle" ∧ yX2_meanVacuum.cls ≠ "java/lang/invoke/VarHandle" ∧ (parseMethodDescriptor yX2_meanVacuum.desc).map (fun d => d.parameters.length) = some 0 := by decide +kernel
theorem kd_X3_addBatch : yX3_addBatch.cls = RX3 ∧ yX3_addBatch.cls ≠ "java/lang/invoke/MethodHandle" ∧ yX3_addBatch.cls ≠ "java/lang/invoke/VarHandle" ∧ (parseMethodDescriptor yX3_addBatch.desc).map (fun d => d.parameters.length) = some 2 := by decide +kernel
theorem kd_X3_batchOf : yX3_batchOf.cls = RX3 ∧ yX3_batchOf.cls ≠ "java/lang/invoke/MethodHandle" ∧ yX3_batchOf.cls ≠ "java/lang/invoke/VarHandle" ∧ (parseMethodDescriptor yX3_batchOf.desc).map (fun d => d.parameters.length) = some 1 := by decide +kernel
theorem kd_X3_batches : yX3_batches.cls = RX3 ∧ yX3_batches.cls ≠ "java/lang/invoke/MethodHandle" ∧ yX3_batches.cls ≠ "java/lang/invoke/VarHandle" ∧ (parseMethodDescriptor yX3_batches.desc).map (fun d => d.parameters.length) = some 0 := by decide +kernel
theorem kd_X3_bestOrder : yX3_bestOrder.cls = RX3 ∧ yX3_bestOrder.cls ≠ "java/lang/invoke/MethodHandle" ∧ yX3_bestOrder.cls ≠ "java/lang/invoke/VarHandle" ∧ (parseMethodDescriptor yX3_bestOrder.desc).map (fun d => d.parameters.length) = some 0 := by decide +kernel
theorem kd_X3_bestShelf : yX3_bestShelf.cls = RX3 ∧ yX3_bestShelf.cls ≠ "java/lang/invoke/MethodHandle" ∧ yX3_bestShelf.cls ≠ "java/lang/invoke/VarHandle" ∧ (parseMethodDescriptor yX3_bestShelf.desc).map (fun d => d.parameters.length) = some 1 := by decide +kernel
theorem kd_X3_day : yX3_day.cls = RX3 ∧ yX3_day.cls ≠ "java/lang/invoke/MethodHandle" ∧ yX3_day.cls ≠ "java/lang/invoke/VarHandle" ∧ (parseMethodDescriptor yX3_day.desc).map (fun d => d.parameters.length) = some 0 := by decide +kernel
theorem kd_X3_daysOf : yX3_daysOf.cls = RX3 ∧ yX3_daysOf.cls ≠ "java/lang/invoke/MethodHandle" ∧ yX3_daysOf.cls ≠ "java/lang/invoke/VarHandle" ∧ (parseMethodDescriptor yX3_daysOf.desc).map (fun d => d.parameters.length) = some 1 := by decide +kernel
theorem kd_X3_daysUntilRecalled : yX3_daysUntilRecalled.cls = RX3 ∧ yX3_daysUntilRecalled.cls ≠ "java/lang/invoke/MethodHandle" ∧ yX3_daysUntilRecalled.cls ≠ "java/lang/invoke/VarHandle" ∧ (parseMethodDescriptor yX3_daysUntilRecalled.desc).map (fun d => d.parameters.length) = some 1 := by decide +kernel
theorem kd_X3_digest : yX3_digest.cls = RX3 ∧ yX3_digest.cls ≠ "java/lang/invoke/MethodHandle" ∧ yX3_digest.cls ≠ "java/lang/invoke/VarHandle" ∧ (parseMethodDescriptor yX3_digest.desc).map (fun d => d.parameters.length) = some 0 := by decide +kernel
theorem kd_X3_first : yX3_first.cls = RX3 ∧ yX3_first.cls ≠ "java/lang/invoke/MethodHandle" ∧ yX3_first.cls ≠ "java/lang/invoke/VarHandle" ∧ (parseMethodDescriptor yX3_first.desc).map (fun d => d.parameters.length) = some 1 := by decide +kernel
theorem kd_X3_inCellar : yX3_inCellar.cls = RX3 ∧ yX3_inCellar.cls ≠ "java/lang/invoke/MethodHandle" ∧ yX3_inCellar.cls ≠ "java/lang/invoke/VarHandle" ∧ (parseMethodDescriptor yX3_inCellar.desc).map (fun d => d.parameters.length) = some 0 := by decide +kernel
theorem kd_X3_isLost : yX3_isLost.cls = RX3 ∧ yX3_isLost.cls ≠ "java/lang/invoke/MethodHandle" ∧ yX3_isLost.cls ≠ "java/lang/invoke/VarHandle" ∧ (parseMethodDescriptor yX3_isLost.desc).map (fun d => d.parameters.length) = some 1 := by decide +kernel
theorem kd_X3_isRecalled : yX3_isRecalled.cls = RX3 ∧ yX3_isRecalled.cls ≠ "java/lang/invoke/MethodHandle" ∧ yX3_isRecalled.cls ≠ "java/lang/invoke/VarHandle" ∧ (parseMethodDescriptor yX3_isRecalled.desc).map (fun d => d.parameters.length) = some 1 := by decide +kernel
theorem kd_X3_isShipped : yX3_isShipped.cls = RX3 ∧ yX3_isShipped.cls ≠ "java/lang/invoke/MethodHandle" ∧ yX3_isShipped.cls ≠ "java/lang/invoke/VarHandle" ∧ (parseMethodDescriptor yX3_isShipped.desc).map (fun d => d.parameters.length) = some 1 := by decide +kernel
theorem kd_X3_leftOf : yX3_leftOf.cls = RX3 ∧ yX3_leftOf.cls ≠ "java/lang/invoke/MethodHandle" ∧ yX3_leftOf.cls ≠ "java/lang/invoke/VarHandle" ∧ (parseMethodDescriptor yX3_leftOf.desc).map (fun d => d.parameters.length) = some 1 := by decide +kernel
theorem kd_X3_lost : yX3_lost.cls = RX3 ∧ yX3_lost.cls ≠ "java/lang/invoke/MethodHandle" ∧ yX3_lost.cls ≠ "java/lang/invoke/VarHandle" ∧ (parseMethodDescriptor yX3_lost.desc).map (fun d => d.parameters.length) = some 0 := by decide +kernel
theorem kd_X3_lostWith : yX3_lostWith.cls = RX3 ∧ yX3_lostWith.cls ≠ "java/lang/invoke/MethodHandle" ∧ yX3_lostWith.cls ≠ "java/lang/invoke/VarHandle" ∧ (parseMethodDescriptor yX3_lostWith.desc).map (fun d => d.parameters.length) = some 2 := by decide +kernel
theorem kd_X3_meanVacuum : yX3_meanVacuum.cls = RX3 ∧ yX3_meanVacuum.cls ≠ "java/lang/invoke/MethodHandle" ∧ yX3_meanVacuum.cls ≠ "java/lang/invoke/VarHandle" ∧ (parseMethodDescriptor yX3_meanVacuum.desc).map (fun d => d.parameters.length) = some 0 := by decide +kernel
theorem kd_X3_move : yX3_move.cls = RX3 ∧ yX3_move.cls ≠ "java/lang/invoke/MethodHandle" ∧ yX3_move.cls ≠ "java/lang/invoke/VarHandle" ∧ (parseMethodDescriptor yX3_move.desc).map (fun d => d.parameters.length) = some 2 := by decide +kernel
theorem kd_X3_pass : yX3_pass.cls = RX3 ∧ yX3_pass.cls ≠ "java/lang/invoke/MethodHandle" ∧ yX3_pass.cls ≠ "java/lang/invoke/VarHandle" ∧ (parseMethodDescriptor yX3_pass.desc).map (fun d => d.parameters.length) = some 1 := by decide +kernel
theorem kd_X3_placeBy : yX3_placeBy.cls = RX3 ∧ yX3_placeBy.cls ≠ "java/lang/invoke/MethodHandle" ∧ yX3_placeBy.cls ≠ "java/lang/invoke/VarHandle" ∧ (parseMethodDescriptor yX3_placeBy.desc).map (fun d => d.parameters.length) = some 2 := by decide +kernel
theorem kd_X3_recall : yX3_recall.cls = RX3 ∧ yX3_recall.cls ≠ "java/lang/invoke/MethodHandle" ∧ yX3_recall.cls ≠ "java/lang/invoke/VarHandle" ∧ (parseMethodDescriptor yX3_recall.desc).map (fun d => d.parameters.length) = some 1 := by decide +kernel
theorem kd_X3_seal : yX3_seal.cls = RX3 ∧ yX3_seal.cls ≠ "java/lang/invoke/MethodHandle" ∧ yX3_seal.cls ≠ "java/lang/invoke/VarHandle" ∧ (parseMethodDescriptor yX3_seal.desc).map (fun d => d.parameters.length) = some 3 := by decide +kernel
theorem kd_X3_setShipping : yX3_setShipping.cls = RX3 ∧ yX3_setShipping.cls ≠ "java/lang/invoke/MethodHandle" ∧ yX3_setShipping.cls ≠ "java/lang/invoke/VarHandle" ∧ (parseMethodDescriptor yX3_setShipping.desc).map (fun d => d.parameters.length) = some 2 := by decide +kernel
theorem kd_X3_setWarm : yX3_setWarm.cls = RX3 ∧ yX3_setWarm.cls ≠ "java/lang/invoke/MethodHandle" ∧ yX3_setWarm.cls ≠ "java/lang/invoke/VarHandle" ∧ (parseMethodDescriptor yX3_setWarm.desc).map (fun d => d.parameters.length) = some 2 := by decide +kernel
theorem kd_X3_shelfOf : yX3_shelfOf.cls = RX3 ∧ yX3_shelfOf.cls ≠ "java/lang/invoke/MethodHandle" ∧ yX3_shelfOf.cls ≠ "java/lang/invoke/VarHandle" ∧ (parseMethodDescriptor yX3_shelfOf.desc).map (fun d => d.parameters.length) = some 1 := by decide +kernel
theorem kd_X3_shipped : yX3_shipped.cls = RX3 ∧ yX3_shipped.cls ≠ "java/lang/invoke/MethodHandle" ∧ yX3_shipped.cls ≠ "java/lang/invoke/VarHandle" ∧ (parseMethodDescriptor yX3_shipped.desc).map (fun d => d.parameters.length) = some 0 := by decide +kernel
theorem kd_X3_shippingWanted : yX3_shippingWanted.cls = RX3 ∧ yX3_shippingWanted.cls ≠ "java/lang/invoke/MethodHandle" ∧ yX3_shippingWanted.cls ≠ "java/lang/invoke/VarHandle" ∧ (parseMethodDescriptor yX3_shippingWanted.desc).map (fun d => d.parameters.length) = some 0 := by decide +kernel
theorem kd_X3_standOn : yX3_standOn.cls = RX3 ∧ yX3_standOn.cls ≠ "java/lang/invoke/MethodHandle" ∧ yX3_standOn.cls ≠ "java/lang/invoke/VarHandle" ∧ (parseMethodDescriptor yX3_standOn.desc).map (fun d => d.parameters.length) = some 1 := by decide +kernel
theorem kd_X3_swelled : yX3_swelled.cls = RX3 ∧ yX3_swelled.cls ≠ "java/lang/invoke/MethodHandle" ∧ yX3_swelled.cls ≠ "java/lang/invoke/VarHandle" ∧ (parseMethodDescriptor yX3_swelled.desc).map (fun d => d.parameters.length) = some 0 := by decide +kernel
theorem kd_X3_swelledOf : yX3_swelledOf.cls = RX3 ∧ yX3_swelledOf.cls ≠ "java/lang/invoke/MethodHandle" ∧ yX3_swelledOf.cls ≠ "java/lang/invoke/VarHandle" ∧ (parseMethodDescriptor yX3_swelledOf.desc).map (fun d => d.parameters.length) = some 1 := by decide +kernel
theorem kd_X3_thrown : yX3_thrown.cls = RX3 ∧ yX3_thrown.cls ≠ "java/lang/invoke/MethodHandle" ∧ yX3_thrown.cls ≠ "java/lang/invoke/VarHandle" ∧ (parseMethodDescriptor yX3_thrown.desc).map (fun d => d.parameters.length) = some 0 := by decide +kernel
theorem kd_X3_tins : yX3_tins.cls = RX3 ∧ yX3_tins.cls ≠ "java/lang/invoke/MethodHandle" ∧ yX3_tins.cls ≠ "java/lang/invoke/VarHandle" ∧ (parseMethodDescriptor yX3_tins.desc).map (fun d => d.parameters.length) = some 0 := by decide +kernel
theorem kd_X3_vacuumOf : yX3_vacuumOf.cls = RX3 ∧ yX3_vacuumOf.cls ≠ "java/lang/invoke/MethodHandle" ∧ yX3_vacuumOf.cls ≠ "java/lang/invoke/VarHandle" ∧ (parseMethodDescriptor yX3_vacuumOf.desc).map (fun d => d.parameters.length) = some 1 := by decide +kernel
theorem kd_X3_warmOf : yX3_warmOf.cls = RX3 ∧ yX3_warmOf.cls ≠ "java/lang/invoke/MethodHandle" ∧ yX3_warmOf.cls ≠ "java/lang/invoke/VarHandle" ∧ (parseMethodDescriptor yX3_warmOf.desc).map (fun d => d.parameters.length) = some 1 := by decide +kernel
set_option maxHeartbeats 4000000 in
set_option maxRecDepth 100000 in
theorem lc_0 {p : Program} {l : Launch} {e : Env} {s : State} {m : MethodId} {below : List Frame} {meth : Method} {c : Code} {b L : Nat} {xs : Nat → Int32} {Dg : va_G} {cI cL : ClassId} {mo : Nat → Nat} {h : Nat} {na ta : Nat → Nat} {ob i cells slots : Nat} (C0 : z_CX p l s m meth c b L xs Dg cI cL) (hi : 4 * i + 4 ≤ L) (hcs : cells + 1 ≤ 601024 ∧ slots + 12 ≤ 7293034) (kk : z_Go p l e s m below meth c b Dg cI cL mo h na ta ob 1765 i (cells + 1) (slots + 12)) : z_Go p l e s m below meth c b Dg cI cL mo h na ta ob 188 i cells slots := by
  obtain ⟨hx, hb, hr, hml, hown0, hts0, hXs0, hbl, hlk, hX0, hL, hst⟩ := C0
  obtain ⟨hc1, hc2⟩ := hcs
  intro th G D K G1 D1 o H locs d0 ls hG hW hP hD hS hd0 hl
  have htc : z_tc G ≤ 60 := hG.2.2.2.2.2.1
  have hbc : z_bc G ≤ 6 := hG.2.2.2.2.1
  have hts : ∀ w ∈ wsL_law, w.before #[Value.ref b] (s.setDrawn d0) = true := dr_words hts0 d0
  have hown : (s.setDrawn d0).vm.findClass RL = some m.cls := hown0
  have hXs : va_X b L xs (s.setDrawn d0) s.heap := hXs0
  have hX : z_X Dg cI cL (s.setDrawn d0) H := (z_X.at hX0 hS).same rfl
  have hK := hX.1.1
  have hN := hX.1.2
  have hbA : ¬ (fun q : Nat => s.heap.size ≤ q) b := Nat.not_le.mpr hbl
  have hA : ∀ q : Nat, s.heap.size ≤ q → (fun q : Nat => s.heap.size ≤ q) q := fun _ h => h
  have hf0 : cells ≤ room_1.cells ∧ slots ≤ room_1.slots := ⟨(show cells ≤ 601024 by omega), (show slots ≤ 7293034 by omega)⟩
  have hf1 : cells + 1 ≤ room_1.cells ∧ slots + 6 ≤ room_1.slots := ⟨(show cells + 1 ≤ 601024 by omega), (show slots + 6 ≤ 7293034 by omega)⟩
  have hf2 : cells + 1 ≤ room_1.cells ∧ slots + 12 ≤ room_1.slots := ⟨(show cells + 1 ≤ 601024 by omega), (show slots + 12 ≤ 7293034 by omega)⟩
  refine lv_aload_n hx hb dL_law_188 rfl (lv_at hl 3 rfl) ?_
  refine lv_aload_n hx hb dL_law_189 rfl (lv_at hl 4 rfl) ?_
  refine lv_iload hx hb dL_law_190 (lv_at hl 0 rfl) ?_
  refine lv_iconst (v := nI 1) hx hb dL_law_192 (by decide) ?_
  refine lv_iadd hx hb dL_law_193 ?_
  refine z_top (x' := nI (4 * i + 1)) (nI_add _ _) ?_
  refine z_sld hx hb hXs hbl hbA hS (by omega) (by omega) dL_law_194 ?_
  refine lv_aload_n hx hb dL_law_195 rfl (lv_at hl 4 rfl) ?_
  refine lv_iload hx hb dL_law_196 (lv_at hl 0 rfl) ?_
  refine lv_iconst (v := nI 2) hx hb dL_law_198 (by decide) ?_
  refine lv_iadd hx hb dL_law_199 ?_
  refine z_top (x' := nI (4 * i + 2)) (nI_add _ _) ?_
  refine z_sld hx hb hXs hbl hbA hS (by omega) (by omega) dL_law_200 ?_
  refine lv_aload_n hx hb dL_law_201 rfl (lv_at hl 1 rfl) ?_
  obtain ⟨c9, G9, D9, v9, hG9, hW9, hM1, hM2⟩ := z_op_addBatch l hst Dg cI cL h na ta ob mo G D (xs (4 * i + 1)) (xs (4 * i + 2)) hG hW
  refine z_lS (As := [.ref h, .int (xs (4 * i + 1)), .int (xs (4 * i + 2)), .ref ob]) [] (z_mW cI mo th G D K) hx hb hml hown hts (hM1 G1 D1 o) gL_law_L_addBatch rfl kdS_L_addBatch ⟨(Nat.le_of_ble_eq_true rfl), (Nat.le_of_ble_eq_true rfl)⟩ hX hP hD hS rfl hl.1 rfl (Nat.le_of_ble_eq_true rfl) dL_law_202 hf1 (fun o9 w9 H locs hPo hP hD hS => ?_)
  obtain ⟨rfl, G2, D2, o2, rfl, ho⟩ := hPo
  have hX : z_X Dg cI cL (s.setDrawn d0) H := (z_X.at hX0 hS).same rfl
  obtain ⟨K9, hM3⟩ := hM2 th K
  refine lv_istore (lv' := [(5, .int c9), (4, .int (nI (4 * i))), (3, .ref ob), (2, .ref (mo 0)), (1, .ref h), (0, .ref b)]) hx hb dL_law_205 hl (by decide) rfl (fun ls hl => ?_)
  refine lv_aload_n hx hb dL_law_207 rfl (lv_at hl 3 rfl) ?_
  refine lv_aload_n hx hb dL_law_208 rfl (lv_at hl 5 rfl) ?_
  refine lv_iload hx hb dL_law_209 (lv_at hl 1 rfl) ?_
  refine lv_iconst (v := nI 1) hx hb dL_law_211 (by decide) ?_
  refine lv_iadd hx hb dL_law_212 ?_
  refine z_top (x' := nI (4 * i + 1)) (nI_add _ _) ?_
  refine z_sld hx hb hXs hbl hbA hS (by omega) (by omega) dL_law_213 ?_
  refine lv_aload_n hx hb dL_law_214 rfl (lv_at hl 5 rfl) ?_
  refine lv_iload hx hb dL_law_215 (lv_at hl 1 rfl) ?_
  refine lv_iconst (v := nI 2) hx hb dL_law_217 (by decide) ?_
  refine lv_iadd hx hb dL_law_218 ?_
  refine z_top (x' := nI (4 * i + 2)) (nI_add _ _) ?_
  refine z_sld hx hb hXs hbl hbA hS (by omega) (by omega) dL_law_219 ?_
  refine z_wBi (v := v9) [] [] (z_oW cI cL h na ta ob G9 D9 G2 D2 o2) 0 hx hb hml hown hts hM3 gL_law_X3_addBatch rfl kd_X3_addBatch ⟨(Nat.le_of_ble_eq_true rfl), (Nat.le_of_ble_eq_true rfl)⟩ hK hN hP hD hS rfl rfl rfl rfl rfl hl.1 rfl (Nat.le_of_ble_eq_true rfl) dL_law_220 hf1 (fun H locs hP hD hS => ?_)
  have hP : va_P Dg vwCl (z_Lw cI cL mo h na ta ob c9 G9 D9 K9 G2 D2 o2) H := hP
  have hD : va_D _ (z_Lw cI cL mo h na ta ob c9 G9 D9 K9 G2 D2 o2) := hD
  refine lv_istore (lv' := [(6, .int v9), (5, .int c9), (4, .int (nI (4 * i))), (3, .ref ob), (2, .ref (mo 0)), (1, .ref h), (0, .ref b)]) hx hb dL_law_223 hl (by decide) rfl (fun ls hl => ?_)
  refine lv_aload_n hx hb dL_law_225 rfl (lv_at hl 4 rfl) ?_
  refine z_rVi (v := c9) [] hx hb hml hown hts (m_X3_thrown l Dg cI mo c9 G9 D9 K9) gL_law_X3_thrown rfl kd_X3_thrown ⟨(Nat.le_of_ble_eq_true rfl), (Nat.le_of_ble_eq_true rfl)⟩ hK hN (z_Pl hP) rfl rfl rfl rfl hl.1 rfl (Nat.le_of_ble_eq_true rfl) dL_law_226 hf1 ?_
  refine lv_iload hx hb dL_law_229 (lv_at hl 1 rfl) ?_
  refine lv_icmp_eq (tgt := 236) hx hb dL_law_231 (by decide) (fun _ => ?_) (fun h9 => absurd rfl h9)
  refine lv_iload hx hb dL_law_236 (lv_at hl 1 rfl) ?_
  refine lv_if_ne (tgt := 253) hx hb dL_law_238 (by decide) (fun _ => ?_) (fun hz => ?_)
  · skip
    refine lv_goto (tgt := 1765) hx hb dL_law_253 (by decide) ?_
    exact W.widen (k := cells + 1) (n := slots + 12) (by omega) (by omega) (kk c9 G9 D9 K9 G2 D2 o2 H locs d0 ls hG9 hW9 hP hD hS hd0 (lv_sub hl [2, 3, 4, 5, 6] rfl))
  · skip
    refine lv_aload_n hx hb dL_law_241 rfl (lv_at hl 3 rfl) ?_
    refine lv_iconst (v := nI 0) hx hb dL_law_242 (by decide) ?_
    refine va_lald hx hb hX.2.1 hP 47 0 rfl rfl (vp_in_nI (by decide) (by decide)) dL_law_243 ?_
    refine z_topl (x' := (v9).toInt64) (ho hz) ?_
    refine lv_iload hx hb dL_law_244 (lv_at hl 0 rfl) ?_
    refine lv_i2l (v := Int32.toInt64 v9) hx hb dL_law_246 rfl ?_
    refine W.lcmp hx hb dL_law_247 ?_
    refine z_top (x' := 0) (z_lc0 _) ?_
    refine lv_if_eq (tgt := 253) hx hb dL_law_248 (by decide) (fun _ => ?_) (fun h9 => absurd rfl h9)
    refine lv_goto (tgt := 1765) hx hb dL_law_253 (by decide) ?_
    exact W.widen (k := cells + 1) (n := slots + 12) (by omega) (by omega) (kk c9 G9 D9 K9 G2 D2 o2 H locs d0 ls hG9 hW9 hP hD hS hd0 (lv_sub hl [2, 3, 4, 5, 6] rfl))

set_option maxHeartbeats 4000000 in
set_option maxRecDepth 100000 in
theorem lc_1 {p : Program} {l : Launch} {e : Env} {s : State} {m : MethodId} {below : List Frame} {meth : Method} {c : Code} {b L : Nat} {xs : Nat → Int32} {Dg : va_G} {cI cL : ClassId} {mo : Nat → Nat} {h : Nat} {na ta : Nat → Nat} {ob i cells slots : Nat} (C0 : z_CX p l s m meth c b L xs Dg cI cL) (hi : 4 * i + 4 ≤ L) (hcs : cells + 1 ≤ 601024 ∧ slots + 12 ≤ 7293034) (kk : z_Go p l e s m below meth c b Dg cI cL mo h na ta ob 1765 i (cells + 1) (slots + 12)) : z_Go p l e s m below meth c b Dg cI cL mo h na ta ob 256 i cells slots := by
  obtain ⟨hx, hb, hr, hml, hown0, hts0, hXs0, hbl, hlk, hX0, hL, hst⟩ := C0
  obtain ⟨hc1, hc2⟩ := hcs
  intro th G D K G1 D1 o H locs d0 ls hG hW hP hD hS hd0 hl
  have htc : z_tc G ≤ 60 := hG.2.2.2.2.2.1
  have hbc : z_bc G ≤ 6 := hG.2.2.2.2.1
  have hts : ∀ w ∈ wsL_law, w.before #[Value.ref b] (s.setDrawn d0) = true := dr_words hts0 d0
  have hown : (s.setDrawn d0).vm.findClass RL = some m.cls := hown0
  have hXs : va_X b L xs (s.setDrawn d0) s.heap := hXs0
  have hX : z_X Dg cI cL (s.setDrawn d0) H := (z_X.at hX0 hS).same rfl
  have hK := hX.1.1
  have hN := hX.1.2
  have hbA : ¬ (fun q : Nat => s.heap.size ≤ q) b := Nat.not_le.mpr hbl
  have hA : ∀ q : Nat, s.heap.size ≤ q → (fun q : Nat => s.heap.size ≤ q) q := fun _ h => h
  have hf0 : cells ≤ room_1.cells ∧ slots ≤ room_1.slots := ⟨(show cells ≤ 601024 by omega), (show slots ≤ 7293034 by omega)⟩
  have hf1 : cells + 1 ≤ room_1.cells ∧ slots + 6 ≤ room_1.slots := ⟨(show cells + 1 ≤ 601024 by omega), (show slots + 6 ≤ 7293034 by omega)⟩
  have hf2 : cells + 1 ≤ room_1.cells ∧ slots + 12 ≤ room_1.slots := ⟨(show cells + 1 ≤ 601024 by omega), (show slots + 12 ≤ 7293034 by omega)⟩
  refine lv_aload_n hx hb dL_law_256 rfl (lv_at hl 3 rfl) ?_
  refine lv_aload_n hx hb dL_law_257 rfl (lv_at hl 4 rfl) ?_
  refine lv_iload hx hb dL_law_258 (lv_at hl 0 rfl) ?_
  refine lv_iconst (v := nI 1) hx hb dL_law_260 (by decide) ?_
  refine lv_iadd hx hb dL_law_261 ?_
  refine z_top (x' := nI (4 * i + 1)) (nI_add _ _) ?_
  refine z_sld hx hb hXs hbl hbA hS (by omega) (by omega) dL_law_262 ?_
  refine lv_aload_n hx hb dL_law_263 rfl (lv_at hl 4 rfl) ?_
  refine lv_iload hx hb dL_law_264 (lv_at hl 0 rfl) ?_
  refine lv_iconst (v := nI 2) hx hb dL_law_266 (by decide) ?_
  refine lv_iadd hx hb dL_law_267 ?_
  refine z_top (x' := nI (4 * i + 2)) (nI_add _ _) ?_
  refine z_sld hx hb hXs hbl hbA hS (by omega) (by omega) dL_law_268 ?_
  refine lv_aload_n hx hb dL_law_269 rfl (lv_at hl 4 rfl) ?_
  refine lv_iload hx hb dL_law_270 (lv_at hl 0 rfl) ?_
  refine lv_iconst (v := nI 3) hx hb dL_law_272 (by decide) ?_
  refine lv_iadd hx hb dL_law_273 ?_
  refine z_top (x' := nI (4 * i + 3)) (nI_add _ _) ?_
  refine z_sld hx hb hXs hbl hbA hS (by omega) (by omega) dL_law_274 ?_
  refine lv_aload_n hx hb dL_law_275 rfl (lv_at hl 1 rfl) ?_
  obtain ⟨c9, G9, D9, v9, hG9, hW9, hM1, hM2⟩ := z_op_seal l hst Dg cI cL h na ta ob mo G D (xs (4 * i + 1)) (xs (4 * i + 2)) (xs (4 * i + 3)) hG hW
  refine z_lS (As := [.ref h, .int (xs (4 * i + 1)), .int (xs (4 * i + 2)), .int (xs (4 * i + 3)), .ref ob]) [] (z_mW cI mo th G D K) hx hb hml hown hts (hM1 G1 D1 o) gL_law_L_seal rfl kdS_L_seal ⟨(Nat.le_of_ble_eq_true rfl), (Nat.le_of_ble_eq_true rfl)⟩ hX hP hD hS rfl hl.1 rfl (Nat.le_of_ble_eq_true rfl) dL_law_276 hf1 (fun o9 w9 H locs hPo hP hD hS => ?_)
  obtain ⟨rfl, G2, D2, o2, rfl, ho⟩ := hPo
  have hX : z_X Dg cI cL (s.setDrawn d0) H := (z_X.at hX0 hS).same rfl
  obtain ⟨K9, hM3⟩ := hM2 th K
  refine lv_istore (lv' := [(5, .int c9), (4, .int (nI (4 * i))), (3, .ref ob), (2, .ref (mo 0)), (1, .ref h), (0, .ref b)]) hx hb dL_law_279 hl (by decide) rfl (fun ls hl => ?_)
  refine lv_aload_n hx hb dL_law_281 rfl (lv_at hl 3 rfl) ?_
  refine lv_aload_n hx hb dL_law_282 rfl (lv_at hl 5 rfl) ?_
  refine lv_iload hx hb dL_law_283 (lv_at hl 1 rfl) ?_
  refine lv_iconst (v := nI 1) hx hb dL_law_285 (by decide) ?_
  refine lv_iadd hx hb dL_law_286 ?_
  refine z_top (x' := nI (4 * i + 1)) (nI_add _ _) ?_
  refine z_sld hx hb hXs hbl hbA hS (by omega) (by omega) dL_law_287 ?_
  refine lv_aload_n hx hb dL_law_288 rfl (lv_at hl 5 rfl) ?_
  refine lv_iload hx hb dL_law_289 (lv_at hl 1 rfl) ?_
  refine lv_iconst (v := nI 2) hx hb dL_law_291 (by decide) ?_
  refine lv_iadd hx hb dL_law_292 ?_
  refine z_top (x' := nI (4 * i + 2)) (nI_add _ _) ?_
  refine z_sld hx hb hXs hbl hbA hS (by omega) (by omega) dL_law_293 ?_
  refine lv_aload_n hx hb dL_law_294 rfl (lv_at hl 5 rfl) ?_
  refine lv_iload hx hb dL_law_295 (lv_at hl 1 rfl) ?_
  refine lv_iconst (v := nI 3) hx hb dL_law_297 (by decide) ?_
  refine lv_iadd hx hb dL_law_298 ?_
  refine z_top (x' := nI (4 * i + 3)) (nI_add _ _) ?_
  refine z_sld hx hb hXs hbl hbA hS (by omega) (by omega) dL_law_299 ?_
  refine z_wBi (v := v9) [] [] (z_oW cI cL h na ta ob G9 D9 G2 D2 o2) 0 hx hb hml hown hts hM3 gL_law_X3_seal rfl kd_X3_seal ⟨(Nat.le_of_ble_eq_true rfl), (Nat.le_of_ble_eq_true rfl)⟩ hK hN hP hD hS rfl rfl rfl rfl rfl hl.1 rfl (Nat.le_of_ble_eq_true rfl) dL_law_300 hf1 (fun H locs hP hD hS => ?_)
  have hP : va_P Dg vwCl (z_Lw cI cL mo h na ta ob c9 G9 D9 K9 G2 D2 o2) H := hP
  have hD : va_D _ (z_Lw cI cL mo h na ta ob c9 G9 D9 K9 G2 D2 o2) := hD
  refine lv_istore (lv' := [(6, .int v9), (5, .int c9), (4, .int (nI (4 * i))), (3, .ref ob), (2, .ref (mo 0)), (1, .ref h), (0, .ref b)]) hx hb dL_law_303 hl (by decide) rfl (fun ls hl => ?_)
  refine lv_aload_n hx hb dL_law_305 rfl (lv_at hl 4 rfl) ?_
  refine z_rVi (v := c9) [] hx hb hml hown hts (m_X3_thrown l Dg cI mo c9 G9 D9 K9) gL_law_X3_thrown rfl kd_X3_thrown ⟨(Nat.le_of_ble_eq_true rfl), (Nat.le_of_ble_eq_true rfl)⟩ hK hN (z_Pl hP) rfl rfl rfl rfl hl.1 rfl (Nat.le_of_ble_eq_true rfl) dL_law_306 hf1 ?_
  refine lv_iload hx hb dL_law_309 (lv_at hl 1 rfl) ?_
  refine lv_icmp_eq (tgt := 316) hx hb dL_law_311 (by decide) (fun _ => ?_) (fun h9 => absurd rfl h9)
  refine lv_iload hx hb dL_law_316 (lv_at hl 1 rfl) ?_
  refine lv_if_ne (tgt := 333) hx hb dL_law_318 (by decide) (fun _ => ?_) (fun hz => ?_)
  · skip
    refine lv_goto (tgt := 1765) hx hb dL_law_333 (by decide) ?_
    exact W.widen (k := cells + 1) (n := slots + 12) (by omega) (by omega) (kk c9 G9 D9 K9 G2 D2 o2 H locs d0 ls hG9 hW9 hP hD hS hd0 (lv_sub hl [2, 3, 4, 5, 6] rfl))
  · skip
    refine lv_aload_n hx hb dL_law_321 rfl (lv_at hl 3 rfl) ?_
    refine lv_iconst (v := nI 0) hx hb dL_law_322 (by decide) ?_
    refine va_lald hx hb hX.2.1 hP 47 0 rfl rfl (vp_in_nI (by decide) (by decide)) dL_law_323 ?_
    refine z_topl (x' := (v9).toInt64) (ho hz) ?_
    refine lv_iload hx hb dL_law_324 (lv_at hl 0 rfl) ?_
    refine lv_i2l (v := Int32.toInt64 v9) hx hb dL_law_326 rfl ?_
    refine W.lcmp hx hb dL_law_327 ?_
    refine z_top (x' := 0) (z_lc0 _) ?_
    refine lv_if_eq (tgt := 333) hx hb dL_law_328 (by decide) (fun _ => ?_) (fun h9 => absurd rfl h9)
    refine lv_goto (tgt := 1765) hx hb dL_law_333 (by decide) ?_
    exact W.widen (k := cells + 1) (n := slots + 12) (by omega) (by omega) (kk c9 G9 D9 K9 G2 D2 o2 H locs d0 ls hG9 hW9 hP hD hS hd0 (lv_sub hl [2, 3, 4, 5, 6] rfl))

set_option maxHeartbeats 4000000 in
set_option maxRecDepth 100000 in
theorem lc_2 {p : Program} {l : Launch} {e : Env} {s : State} {m : MethodId} {below : List Frame} {meth : Method} {c : Code} {b L : Nat} {xs : Nat → Int32} {Dg : va_G} {cI cL : ClassId} {mo : Nat → Nat} {h : Nat} {na ta : Nat → Nat} {ob i cells slots : Nat} (C0 : z_CX p l s m meth c b L xs Dg cI cL) (hi : 4 * i + 4 ≤ L) (hcs : cells + 1 ≤ 601024 ∧ slots + 12 ≤ 7293034) (kk : z_Go p l e s m below meth c b Dg cI cL mo h na ta ob 1765 i (cells + 1) (slots + 12)) : z_Go p l e s m below meth c b Dg cI cL mo h na ta ob 336 i cells slots := by
  obtain ⟨hx, hb, hr, hml, hown0, hts0, hXs0, hbl, hlk, hX0, hL, hst⟩ := C0
  obtain ⟨hc1, hc2⟩ := hcs
  intro th G D K G1 D1 o H locs d0 ls hG hW hP hD hS hd0 hl
  have htc : z_tc G ≤ 60 := hG.2.2.2.2.2.1
  have hbc : z_bc G ≤ 6 := hG.2.2.2.2.1
  have hts : ∀ w ∈ wsL_law, w.before #[Value.ref b] (s.setDrawn d0) = true := dr_words hts0 d0
  have hown : (s.setDrawn d0).vm.findClass RL = some m.cls := hown0
  have hXs : va_X b L xs (s.setDrawn d0) s.heap := hXs0
  have hX : z_X Dg cI cL (s.setDrawn d0) H := (z_X.at hX0 hS).same rfl
  have hK := hX.1.1
  have hN := hX.1.2
  have hbA : ¬ (fun q : Nat => s.heap.size ≤ q) b := Nat.not_le.mpr hbl
  have hA : ∀ q : Nat, s.heap.size ≤ q → (fun q : Nat => s.heap.size ≤ q) q := fun _ h => h
  have hf0 : cells ≤ room_1.cells ∧ slots ≤ room_1.slots := ⟨(show cells ≤ 601024 by omega), (show slots ≤ 7293034 by omega)⟩
  have hf1 : cells + 1 ≤ room_1.cells ∧ slots + 6 ≤ room_1.slots := ⟨(show cells + 1 ≤ 601024 by omega), (show slots + 6 ≤ 7293034 by omega)⟩
  have hf2 : cells + 1 ≤ room_1.cells ∧ slots + 12 ≤ room_1.slots := ⟨(show cells + 1 ≤ 601024 by omega), (show slots + 12 ≤ 7293034 by omega)⟩
  refine lv_aload_n hx hb dL_law_336 rfl (lv_at hl 3 rfl) ?_
  refine lv_aload_n hx hb dL_law_337 rfl (lv_at hl 4 rfl) ?_
  refine lv_iload hx hb dL_law_338 (lv_at hl 0 rfl) ?_
  refine lv_iconst (v := nI 1) hx hb dL_law_340 (by decide) ?_
  refine lv_iadd hx hb dL_law_341 ?_
  refine z_top (x' := nI (4 * i + 1)) (nI_add _ _) ?_
  refine z_sld hx hb hXs hbl hbA hS (by omega) (by omega) dL_law_342 ?_
  refine lv_aload_n hx hb dL_law_343 rfl (lv_at hl 4 rfl) ?_
  refine lv_iload hx hb dL_law_344 (lv_at hl 0 rfl) ?_
  refine lv_iconst (v := nI 2) hx hb dL_law_346 (by decide) ?_
  refine lv_iadd hx hb dL_law_347 ?_
  refine z_top (x' := nI (4 * i + 2)) (nI_add _ _) ?_
  refine z_sld hx hb hXs hbl hbA hS (by omega) (by omega) dL_law_348 ?_
  refine lv_aload_n hx hb dL_law_349 rfl (lv_at hl 1 rfl) ?_
  obtain ⟨c9, G9, D9, v9, hG9, hW9, hM1, hM2⟩ := z_op_move l hst Dg cI cL h na ta ob mo G D (xs (4 * i + 1)) (xs (4 * i + 2)) hG hW
  refine z_lS (As := [.ref h, .int (xs (4 * i + 1)), .int (xs (4 * i + 2)), .ref ob]) [] (z_mW cI mo th G D K) hx hb hml hown hts (hM1 G1 D1 o) gL_law_L_move rfl kdS_L_move ⟨(Nat.le_of_ble_eq_true rfl), (Nat.le_of_ble_eq_true rfl)⟩ hX hP hD hS rfl hl.1 rfl (Nat.le_of_ble_eq_true rfl) dL_law_350 hf1 (fun o9 w9 H locs hPo hP hD hS => ?_)
  obtain ⟨rfl, G2, D2, o2, rfl, ho⟩ := hPo
  have hX : z_X Dg cI cL (s.setDrawn d0) H := (z_X.at hX0 hS).same rfl
  obtain ⟨K9, hM3⟩ := hM2 th K
  refine lv_istore (lv' := [(5, .int c9), (4, .int (nI (4 * i))), (3, .ref ob), (2, .ref (mo 0)), (1, .ref h), (0, .ref b)]) hx hb dL_law_353 hl (by decide) rfl (fun ls hl => ?_)
  refine lv_aload_n hx hb dL_law_355 rfl (lv_at hl 3 rfl) ?_
  refine lv_aload_n hx hb dL_law_356 rfl (lv_at hl 5 rfl) ?_
  refine lv_iload hx hb dL_law_357 (lv_at hl 1 rfl) ?_
  refine lv_iconst (v := nI 1) hx hb dL_law_359 (by decide) ?_
  refine lv_iadd hx hb dL_law_360 ?_
  refine z_top (x' := nI (4 * i + 1)) (nI_add _ _) ?_
  refine z_sld hx hb hXs hbl hbA hS (by omega) (by omega) dL_law_361 ?_
  refine lv_aload_n hx hb dL_law_362 rfl (lv_at hl 5 rfl) ?_
  refine lv_iload hx hb dL_law_363 (lv_at hl 1 rfl) ?_
  refine lv_iconst (v := nI 2) hx hb dL_law_365 (by decide) ?_
  refine lv_iadd hx hb dL_law_366 ?_
  refine z_top (x' := nI (4 * i + 2)) (nI_add _ _) ?_
  refine z_sld hx hb hXs hbl hbA hS (by omega) (by omega) dL_law_367 ?_
  refine z_wBi (v := v9) [] [] (z_oW cI cL h na ta ob G9 D9 G2 D2 o2) 0 hx hb hml hown hts hM3 gL_law_X3_move rfl kd_X3_move ⟨(Nat.le_of_ble_eq_true rfl), (Nat.le_of_ble_eq_true rfl)⟩ hK hN hP hD hS rfl rfl rfl rfl rfl hl.1 rfl (Nat.le_of_ble_eq_true rfl) dL_law_368 hf1 (fun H locs hP hD hS => ?_)
  have hP : va_P Dg vwCl (z_Lw cI cL mo h na ta ob c9 G9 D9 K9 G2 D2 o2) H := hP
  have hD : va_D _ (z_Lw cI cL mo h na ta ob c9 G9 D9 K9 G2 D2 o2) := hD
  refine lv_istore (lv' := [(6, .int v9), (5, .int c9), (4, .int (nI (4 * i))), (3, .ref ob), (2, .ref (mo 0)), (1, .ref h), (0, .ref b)]) hx hb dL_law_371 hl (by decide) rfl (fun ls hl => ?_)
  refine lv_aload_n hx hb dL_law_373 rfl (lv_at hl 4 rfl) ?_
  refine z_rVi (v := c9) [] hx hb hml hown hts (m_X3_thrown l Dg cI mo c9 G9 D9 K9) gL_law_X3_thrown rfl kd_X3_thrown ⟨(Nat.le_of_ble_eq_true rfl), (Nat.le_of_ble_eq_true rfl)⟩ hK hN (z_Pl hP) rfl rfl rfl rfl hl.1 rfl (Nat.le_of_ble_eq_true rfl) dL_law_374 hf1 ?_
  refine lv_iload hx hb dL_law_377 (lv_at hl 1 rfl) ?_
  refine lv_icmp_eq (tgt := 384) hx hb dL_law_379 (by decide) (fun _ => ?_) (fun h9 => absurd rfl h9)
  refine lv_iload hx hb dL_law_384 (lv_at hl 1 rfl) ?_
  refine lv_if_ne (tgt := 401) hx hb dL_law_386 (by decide) (fun _ => ?_) (fun hz => ?_)
  · skip
    refine lv_goto (tgt := 1765) hx hb dL_law_401 (by decide) ?_
    exact W.widen (k := cells + 1) (n := slots + 12) (by omega) (by omega) (kk c9 G9 D9 K9 G2 D2 o2 H locs d0 ls hG9 hW9 hP hD hS hd0 (lv_sub hl [2, 3, 4, 5, 6] rfl))
  · skip
    refine lv_aload_n hx hb dL_law_389 rfl (lv_at hl 3 rfl) ?_
    refine lv_iconst (v := nI 0) hx hb dL_law_390 (by decide) ?_
    refine va_lald hx hb hX.2.1 hP 47 0 rfl rfl (vp_in_nI (by decide) (by decide)) dL_law_391 ?_
    refine z_topl (x' := (v9).toInt64) (ho hz) ?_
    refine lv_iload hx hb dL_law_392 (lv_at hl 0 rfl) ?_
    refine lv_i2l (v := Int32.toInt64 v9) hx hb dL_law_394 rfl ?_
    refine W.lcmp hx hb dL_law_395 ?_
    refine z_top (x' := 0) (z_lc0 _) ?_
    refine lv_if_eq (tgt := 401) hx hb dL_law_396 (by decide) (fun _ => ?_) (fun h9 => absurd rfl h9)
    refine lv_goto (tgt := 1765) hx hb dL_law_401 (by decide) ?_
    exact W.widen (k := cells + 1) (n := slots + 12) (by omega) (by omega) (kk c9 G9 D9 K9 G2 D2 o2 H locs d0 ls hG9 hW9 hP hD hS hd0 (lv_sub hl [2, 3, 4, 5, 6] rfl))

set_option maxHeartbeats 4000000 in
set_option maxRecDepth 100000 in
theorem lc_3 {p : Program} {l : Launch} {e : Env} {s : State} {m : MethodId} {below : List Frame} {meth : Method} {c : Code} {b L : Nat} {xs : Nat → Int32} {Dg : va_G} {cI cL : ClassId} {mo : Nat → Nat} {h : Nat} {na ta : Nat → Nat} {ob i cells slots : Nat} (C0 : z_CX p l s m meth c b L xs Dg cI cL) (hi : 4 * i + 4 ≤ L) (hcs : cells + 1 ≤ 601024 ∧ slots + 12 ≤ 7293034) (kk : z_Go p l e s m below meth c b Dg cI cL mo h na ta ob 1765 i (cells + 1) (slots + 12)) : z_Go p l e s m below meth c b Dg cI cL mo h na ta ob 404 i cells slots := by
  obtain ⟨hx, hb, hr, hml, hown0, hts0, hXs0, hbl, hlk, hX0, hL, hst⟩ := C0
  obtain ⟨hc1, hc2⟩ := hcs
  intro th G D K G1 D1 o H locs d0 ls hG hW hP hD hS hd0 hl
  have htc : z_tc G ≤ 60 := hG.2.2.2.2.2.1
  have hbc : z_bc G ≤ 6 := hG.2.2.2.2.1
  have hts : ∀ w ∈ wsL_law, w.before #[Value.ref b] (s.setDrawn d0) = true := dr_words hts0 d0
  have hown : (s.setDrawn d0).vm.findClass RL = some m.cls := hown0
  have hXs : va_X b L xs (s.setDrawn d0) s.heap := hXs0
  have hX : z_X Dg cI cL (s.setDrawn d0) H := (z_X.at hX0 hS).same rfl
  have hK := hX.1.1
  have hN := hX.1.2
  have hbA : ¬ (fun q : Nat => s.heap.size ≤ q) b := Nat.not_le.mpr hbl
  have hA : ∀ q : Nat, s.heap.size ≤ q → (fun q : Nat => s.heap.size ≤ q) q := fun _ h => h
  have hf0 : cells ≤ room_1.cells ∧ slots ≤ room_1.slots := ⟨(show cells ≤ 601024 by omega), (show slots ≤ 7293034 by omega)⟩
  have hf1 : cells + 1 ≤ room_1.cells ∧ slots + 6 ≤ room_1.slots := ⟨(show cells + 1 ≤ 601024 by omega), (show slots + 6 ≤ 7293034 by omega)⟩
  have hf2 : cells + 1 ≤ room_1.cells ∧ slots + 12 ≤ room_1.slots := ⟨(show cells + 1 ≤ 601024 by omega), (show slots + 12 ≤ 7293034 by omega)⟩
  refine lv_aload_n hx hb dL_law_404 rfl (lv_at hl 3 rfl) ?_
  refine lv_aload_n hx hb dL_law_405 rfl (lv_at hl 4 rfl) ?_
  refine lv_iload hx hb dL_law_406 (lv_at hl 0 rfl) ?_
  refine lv_iconst (v := nI 1) hx hb dL_law_408 (by decide) ?_
  refine lv_iadd hx hb dL_law_409 ?_
  refine z_top (x' := nI (4 * i + 1)) (nI_add _ _) ?_
  refine z_sld hx hb hXs hbl hbA hS (by omega) (by omega) dL_law_410 ?_
  refine lv_aload_n hx hb dL_law_411 rfl (lv_at hl 4 rfl) ?_
  refine lv_iload hx hb dL_law_412 (lv_at hl 0 rfl) ?_
  refine lv_iconst (v := nI 2) hx hb dL_law_414 (by decide) ?_
  refine lv_iadd hx hb dL_law_415 ?_
  refine z_top (x' := nI (4 * i + 2)) (nI_add _ _) ?_
  refine z_sld hx hb hXs hbl hbA hS (by omega) (by omega) dL_law_416 ?_
  refine lv_aload_n hx hb dL_law_417 rfl (lv_at hl 1 rfl) ?_
  obtain ⟨c9, G9, D9, v9, hG9, hW9, hM1, hM2⟩ := z_op_setWarm l hst Dg cI cL h na ta ob mo G D (xs (4 * i + 1)) (xs (4 * i + 2)) hG hW
  refine z_lS (As := [.ref h, .int (xs (4 * i + 1)), .int (xs (4 * i + 2)), .ref ob]) [] (z_mW cI mo th G D K) hx hb hml hown hts (hM1 G1 D1 o) gL_law_L_setWarm rfl kdS_L_setWarm ⟨(Nat.le_of_ble_eq_true rfl), (Nat.le_of_ble_eq_true rfl)⟩ hX hP hD hS rfl hl.1 rfl (Nat.le_of_ble_eq_true rfl) dL_law_418 hf1 (fun o9 w9 H locs hPo hP hD hS => ?_)
  obtain ⟨rfl, G2, D2, o2, rfl, ho⟩ := hPo
  have hX : z_X Dg cI cL (s.setDrawn d0) H := (z_X.at hX0 hS).same rfl
  obtain ⟨K9, hM3⟩ := hM2 th K
  refine lv_istore (lv' := [(5, .int c9), (4, .int (nI (4 * i))), (3, .ref ob), (2, .ref (mo 0)), (1, .ref h), (0, .ref b)]) hx hb dL_law_421 hl (by decide) rfl (fun ls hl => ?_)
  refine lv_aload_n hx hb dL_law_423 rfl (lv_at hl 3 rfl) ?_
  refine lv_aload_n hx hb dL_law_424 rfl (lv_at hl 5 rfl) ?_
  refine lv_iload hx hb dL_law_425 (lv_at hl 1 rfl) ?_
  refine lv_iconst (v := nI 1) hx hb dL_law_427 (by decide) ?_
  refine lv_iadd hx hb dL_law_428 ?_
  refine z_top (x' := nI (4 * i + 1)) (nI_add _ _) ?_
  refine z_sld hx hb hXs hbl hbA hS (by omega) (by omega) dL_law_429 ?_
  refine lv_aload_n hx hb dL_law_430 rfl (lv_at hl 5 rfl) ?_
  refine lv_iload hx hb dL_law_431 (lv_at hl 1 rfl) ?_
  refine lv_iconst (v := nI 2) hx hb dL_law_433 (by decide) ?_
  refine lv_iadd hx hb dL_law_434 ?_
  refine z_top (x' := nI (4 * i + 2)) (nI_add _ _) ?_
  refine z_sld hx hb hXs hbl hbA hS (by omega) (by omega) dL_law_435 ?_
  refine z_wBi (v := v9) [] [] (z_oW cI cL h na ta ob G9 D9 G2 D2 o2) 0 hx hb hml hown hts hM3 gL_law_X3_setWarm rfl kd_X3_setWarm ⟨(Nat.le_of_ble_eq_true rfl), (Nat.le_of_ble_eq_true rfl)⟩ hK hN hP hD hS rfl rfl rfl rfl rfl hl.1 rfl (Nat.le_of_ble_eq_true rfl) dL_law_436 hf1 (fun H locs hP hD hS => ?_)
  have hP : va_P Dg vwCl (z_Lw cI cL mo h na ta ob c9 G9 D9 K9 G2 D2 o2) H := hP
  have hD : va_D _ (z_Lw cI cL mo h na ta ob c9 G9 D9 K9 G2 D2 o2) := hD
  refine lv_istore (lv' := [(6, .int v9), (5, .int c9), (4, .int (nI (4 * i))), (3, .ref ob), (2, .ref (mo 0)), (1, .ref h), (0, .ref b)]) hx hb dL_law_439 hl (by decide) rfl (fun ls hl => ?_)
  refine lv_aload_n hx hb dL_law_441 rfl (lv_at hl 4 rfl) ?_
  refine z_rVi (v := c9) [] hx hb hml hown hts (m_X3_thrown l Dg cI mo c9 G9 D9 K9) gL_law_X3_thrown rfl kd_X3_thrown ⟨(Nat.le_of_ble_eq_true rfl), (Nat.le_of_ble_eq_true rfl)⟩ hK hN (z_Pl hP) rfl rfl rfl rfl hl.1 rfl (Nat.le_of_ble_eq_true rfl) dL_law_442 hf1 ?_
  refine lv_iload hx hb dL_law_445 (lv_at hl 1 rfl) ?_
  refine lv_icmp_eq (tgt := 452) hx hb dL_law_447 (by decide) (fun _ => ?_) (fun h9 => absurd rfl h9)
  refine lv_iload hx hb dL_law_452 (lv_at hl 1 rfl) ?_
  refine lv_if_ne (tgt := 469) hx hb dL_law_454 (by decide) (fun _ => ?_) (fun hz => ?_)
  · skip
    refine lv_goto (tgt := 1765) hx hb dL_law_469 (by decide) ?_
    exact W.widen (k := cells + 1) (n := slots + 12) (by omega) (by omega) (kk c9 G9 D9 K9 G2 D2 o2 H locs d0 ls hG9 hW9 hP hD hS hd0 (lv_sub hl [2, 3, 4, 5, 6] rfl))
  · skip
    refine lv_aload_n hx hb dL_law_457 rfl (lv_at hl 3 rfl) ?_
    refine lv_iconst (v := nI 0) hx hb dL_law_458 (by decide) ?_
    refine va_lald hx hb hX.2.1 hP 47 0 rfl rfl (vp_in_nI (by decide) (by decide)) dL_law_459 ?_
    refine z_topl (x' := (v9).toInt64) (ho hz) ?_
    refine lv_iload hx hb dL_law_460 (lv_at hl 0 rfl) ?_
    refine lv_i2l (v := Int32.toInt64 v9) hx hb dL_law_462 rfl ?_
    refine W.lcmp hx hb dL_law_463 ?_
    refine z_top (x' := 0) (z_lc0 _) ?_
    refine lv_if_eq (tgt := 469) hx hb dL_law_464 (by decide) (fun _ => ?_) (fun h9 => absurd rfl h9)
    refine lv_goto (tgt := 1765) hx hb dL_law_469 (by decide) ?_
    exact W.widen (k := cells + 1) (n := slots + 12) (by omega) (by omega) (kk c9 G9 D9 K9 G2 D2 o2 H locs d0 ls hG9 hW9 hP hD hS hd0 (lv_sub hl [2, 3, 4, 5, 6] rfl))

set_option maxHeartbeats 4000000 in
set_option maxRecDepth 100000 in
theorem lc_4 {p : Program} {l : Launch} {e : Env} {s : State} {m : MethodId} {below : List Frame} {meth : Method} {c : Code} {b L : Nat} {xs : Nat → Int32} {Dg : va_G} {cI cL : ClassId} {mo : Nat → Nat} {h : Nat} {na ta : Nat → Nat} {ob i cells slots : Nat} (C0 : z_CX p l s m meth c b L xs Dg cI cL) (hi : 4 * i + 4 ≤ L) (hcs : cells + 1 ≤ 601024 ∧ slots + 12 ≤ 7293034) (kk : z_Go p l e s m below meth c b Dg cI cL mo h na ta ob 1765 i (cells + 1) (slots + 12)) : z_Go p l e s m below meth c b Dg cI cL mo h na ta ob 472 i cells slots := by
  obtain ⟨hx, hb, hr, hml, hown0, hts0, hXs0, hbl, hlk, hX0, hL, hst⟩ := C0
  obtain ⟨hc1, hc2⟩ := hcs
  intro th G D K G1 D1 o H locs d0 ls hG hW hP hD hS hd0 hl
  have htc : z_tc G ≤ 60 := hG.2.2.2.2.2.1
  have hbc : z_bc G ≤ 6 := hG.2.2.2.2.1
  have hts : ∀ w ∈ wsL_law, w.before #[Value.ref b] (s.setDrawn d0) = true := dr_words hts0 d0
  have hown : (s.setDrawn d0).vm.findClass RL = some m.cls := hown0
  have hXs : va_X b L xs (s.setDrawn d0) s.heap := hXs0
  have hX : z_X Dg cI cL (s.setDrawn d0) H := (z_X.at hX0 hS).same rfl
  have hK := hX.1.1
  have hN := hX.1.2
  have hbA : ¬ (fun q : Nat => s.heap.size ≤ q) b := Nat.not_le.mpr hbl
  have hA : ∀ q : Nat, s.heap.size ≤ q → (fun q : Nat => s.heap.size ≤ q) q := fun _ h => h
  have hf0 : cells ≤ room_1.cells ∧ slots ≤ room_1.slots := ⟨(show cells ≤ 601024 by omega), (show slots ≤ 7293034 by omega)⟩
  have hf1 : cells + 1 ≤ room_1.cells ∧ slots + 6 ≤ room_1.slots := ⟨(show cells + 1 ≤ 601024 by omega), (show slots + 6 ≤ 7293034 by omega)⟩
  have hf2 : cells + 1 ≤ room_1.cells ∧ slots + 12 ≤ room_1.slots := ⟨(show cells + 1 ≤ 601024 by omega), (show slots + 12 ≤ 7293034 by omega)⟩
  refine lv_aload_n hx hb dL_law_472 rfl (lv_at hl 3 rfl) ?_
  refine lv_aload_n hx hb dL_law_473 rfl (lv_at hl 4 rfl) ?_
  refine lv_iload hx hb dL_law_474 (lv_at hl 0 rfl) ?_
  refine lv_iconst (v := nI 1) hx hb dL_law_476 (by decide) ?_
  refine lv_iadd hx hb dL_law_477 ?_
  refine z_top (x' := nI (4 * i + 1)) (nI_add _ _) ?_
  refine z_sld hx hb hXs hbl hbA hS (by omega) (by omega) dL_law_478 ?_
  refine lv_aload_n hx hb dL_law_479 rfl (lv_at hl 4 rfl) ?_
  refine lv_iload hx hb dL_law_480 (lv_at hl 0 rfl) ?_
  refine lv_iconst (v := nI 2) hx hb dL_law_482 (by decide) ?_
  refine lv_iadd hx hb dL_law_483 ?_
  refine z_top (x' := nI (4 * i + 2)) (nI_add _ _) ?_
  refine z_sld hx hb hXs hbl hbA hS (by omega) (by omega) dL_law_484 ?_
  refine lv_aload_n hx hb dL_law_485 rfl (lv_at hl 1 rfl) ?_
  obtain ⟨c9, G9, D9, v9, hG9, hW9, hM1, hM2⟩ := z_op_setShipping l hst Dg cI cL h na ta ob mo G D (xs (4 * i + 1)) (xs (4 * i + 2)) hG hW
  refine z_lS (As := [.ref h, .int (xs (4 * i + 1)), .int (xs (4 * i + 2)), .ref ob]) [] (z_mW cI mo th G D K) hx hb hml hown hts (hM1 G1 D1 o) gL_law_L_setShipping rfl kdS_L_setShipping ⟨(Nat.le_of_ble_eq_true rfl), (Nat.le_of_ble_eq_true rfl)⟩ hX hP hD hS rfl hl.1 rfl (Nat.le_of_ble_eq_true rfl) dL_law_486 hf1 (fun o9 w9 H locs hPo hP hD hS => ?_)
  obtain ⟨rfl, G2, D2, o2, rfl, ho⟩ := hPo
  have hX : z_X Dg cI cL (s.setDrawn d0) H := (z_X.at hX0 hS).same rfl
  obtain ⟨K9, hM3⟩ := hM2 th K
  refine lv_istore (lv' := [(5, .int c9), (4, .int (nI (4 * i))), (3, .ref ob), (2, .ref (mo 0)), (1, .ref h), (0, .ref b)]) hx hb dL_law_489 hl (by decide) rfl (fun ls hl => ?_)
  refine lv_aload_n hx hb dL_law_491 rfl (lv_at hl 3 rfl) ?_
  refine lv_aload_n hx hb dL_law_492 rfl (lv_at hl 5 rfl) ?_
  refine lv_iload hx hb dL_law_493 (lv_at hl 1 rfl) ?_
  refine lv_iconst (v := nI 1) hx hb dL_law_495 (by decide) ?_
  refine lv_iadd hx hb dL_law_496 ?_
  refine z_top (x' := nI (4 * i + 1)) (nI_add _ _) ?_
  refine z_sld hx hb hXs hbl hbA hS (by omega) (by omega) dL_law_497 ?_
  refine lv_aload_n hx hb dL_law_498 rfl (lv_at hl 5 rfl) ?_
  refine lv_iload hx hb dL_law_499 (lv_at hl 1 rfl) ?_
  refine lv_iconst (v := nI 2) hx hb dL_law_501 (by decide) ?_
  refine lv_iadd hx hb dL_law_502 ?_
  refine z_top (x' := nI (4 * i + 2)) (nI_add _ _) ?_
  refine z_sld hx hb hXs hbl hbA hS (by omega) (by omega) dL_law_503 ?_
  refine z_wBi (v := v9) [] [] (z_oW cI cL h na ta ob G9 D9 G2 D2 o2) 0 hx hb hml hown hts hM3 gL_law_X3_setShipping rfl kd_X3_setShipping ⟨(Nat.le_of_ble_eq_true rfl), (Nat.le_of_ble_eq_true rfl)⟩ hK hN hP hD hS rfl rfl rfl rfl rfl hl.1 rfl (Nat.le_of_ble_eq_true rfl) dL_law_504 hf1 (fun H locs hP hD hS => ?_)
  have hP : va_P Dg vwCl (z_Lw cI cL mo h na ta ob c9 G9 D9 K9 G2 D2 o2) H := hP
  have hD : va_D _ (z_Lw cI cL mo h na ta ob c9 G9 D9 K9 G2 D2 o2) := hD
  refine lv_istore (lv' := [(6, .int v9), (5, .int c9), (4, .int (nI (4 * i))), (3, .ref ob), (2, .ref (mo 0)), (1, .ref h), (0, .ref b)]) hx hb dL_law_507 hl (by decide) rfl (fun ls hl => ?_)
  refine lv_aload_n hx hb dL_law_509 rfl (lv_at hl 4 rfl) ?_
  refine z_rVi (v := c9) [] hx hb hml hown hts (m_X3_thrown l Dg cI mo c9 G9 D9 K9) gL_law_X3_thrown rfl kd_X3_thrown ⟨(Nat.le_of_ble_eq_true rfl), (Nat.le_of_ble_eq_true rfl)⟩ hK hN (z_Pl hP) rfl rfl rfl rfl hl.1 rfl (Nat.le_of_ble_eq_true rfl) dL_law_510 hf1 ?_
  refine lv_iload hx hb dL_law_513 (lv_at hl 1 rfl) ?_
  refine lv_icmp_eq (tgt := 520) hx hb dL_law_515 (by decide) (fun _ => ?_) (fun h9 => absurd rfl h9)
  refine lv_iload hx hb dL_law_520 (lv_at hl 1 rfl) ?_
  refine lv_if_ne (tgt := 537) hx hb dL_law_522 (by decide) (fun _ => ?_) (fun hz => ?_)
  · skip
    refine lv_goto (tgt := 1765) hx hb dL_law_537 (by decide) ?_
    exact W.widen (k := cells + 1) (n := slots + 12) (by omega) (by omega) (kk c9 G9 D9 K9 G2 D2 o2 H locs d0 ls hG9 hW9 hP hD hS hd0 (lv_sub hl [2, 3, 4, 5, 6] rfl))
  · skip
    refine lv_aload_n hx hb dL_law_525 rfl (lv_at hl 3 rfl) ?_
    refine lv_iconst (v := nI 0) hx hb dL_law_526 (by decide) ?_
    refine va_lald hx hb hX.2.1 hP 47 0 rfl rfl (vp_in_nI (by decide) (by decide)) dL_law_527 ?_
    refine z_topl (x' := (v9).toInt64) (ho hz) ?_
    refine lv_iload hx hb dL_law_528 (lv_at hl 0 rfl) ?_
    refine lv_i2l (v := Int32.toInt64 v9) hx hb dL_law_530 rfl ?_
    refine W.lcmp hx hb dL_law_531 ?_
    refine z_top (x' := 0) (z_lc0 _) ?_
    refine lv_if_eq (tgt := 537) hx hb dL_law_532 (by decide) (fun _ => ?_) (fun h9 => absurd rfl h9)
    refine lv_goto (tgt := 1765) hx hb dL_law_537 (by decide) ?_
    exact W.widen (k := cells + 1) (n := slots + 12) (by omega) (by omega) (kk c9 G9 D9 K9 G2 D2 o2 H locs d0 ls hG9 hW9 hP hD hS hd0 (lv_sub hl [2, 3, 4, 5, 6] rfl))

set_option maxHeartbeats 4000000 in
set_option maxRecDepth 100000 in
theorem lc_5 {p : Program} {l : Launch} {e : Env} {s : State} {m : MethodId} {below : List Frame} {meth : Method} {c : Code} {b L : Nat} {xs : Nat → Int32} {Dg : va_G} {cI cL : ClassId} {mo : Nat → Nat} {h : Nat} {na ta : Nat → Nat} {ob i cells slots : Nat} (C0 : z_CX p l s m meth c b L xs Dg cI cL) (hi : 4 * i + 4 ≤ L) (hcs : cells + 1 ≤ 601024 ∧ slots + 12 ≤ 7293034) (kk : z_Go p l e s m below meth c b Dg cI cL mo h na ta ob 1765 i (cells + 1) (slots + 12)) : z_Go p l e s m below meth c b Dg cI cL mo h na ta ob 540 i cells slots := by
  obtain ⟨hx, hb, hr, hml, hown0, hts0, hXs0, hbl, hlk, hX0, hL, hst⟩ := C0
  obtain ⟨hc1, hc2⟩ := hcs
  intro th G D K G1 D1 o H locs d0 ls hG hW hP hD hS hd0 hl
  have htc : z_tc G ≤ 60 := hG.2.2.2.2.2.1
  have hbc : z_bc G ≤ 6 := hG.2.2.2.2.1
  have hts : ∀ w ∈ wsL_law, w.before #[Value.ref b] (s.setDrawn d0) = true := dr_words hts0 d0
  have hown : (s.setDrawn d0).vm.findClass RL = some m.cls := hown0
  have hXs : va_X b L xs (s.setDrawn d0) s.heap := hXs0
  have hX : z_X Dg cI cL (s.setDrawn d0) H := (z_X.at hX0 hS).same rfl
  have hK := hX.1.1
  have hN := hX.1.2
  have hbA : ¬ (fun q : Nat => s.heap.size ≤ q) b := Nat.not_le.mpr hbl
  have hA : ∀ q : Nat, s.heap.size ≤ q → (fun q : Nat => s.heap.size ≤ q) q := fun _ h => h
  have hf0 : cells ≤ room_1.cells ∧ slots ≤ room_1.slots := ⟨(show cells ≤ 601024 by omega), (show slots ≤ 7293034 by omega)⟩
  have hf1 : cells + 1 ≤ room_1.cells ∧ slots + 6 ≤ room_1.slots := ⟨(show cells + 1 ≤ 601024 by omega), (show slots + 6 ≤ 7293034 by omega)⟩
  have hf2 : cells + 1 ≤ room_1.cells ∧ slots + 12 ≤ room_1.slots := ⟨(show cells + 1 ≤ 601024 by omega), (show slots + 12 ≤ 7293034 by omega)⟩
  refine lv_aload_n hx hb dL_law_540 rfl (lv_at hl 3 rfl) ?_
  refine lv_aload_n hx hb dL_law_541 rfl (lv_at hl 4 rfl) ?_
  refine lv_iload hx hb dL_law_542 (lv_at hl 0 rfl) ?_
  refine lv_iconst (v := nI 1) hx hb dL_law_544 (by decide) ?_
  refine lv_iadd hx hb dL_law_545 ?_
  refine z_top (x' := nI (4 * i + 1)) (nI_add _ _) ?_
  refine z_sld hx hb hXs hbl hbA hS (by omega) (by omega) dL_law_546 ?_
  refine lv_aload_n hx hb dL_law_547 rfl (lv_at hl 1 rfl) ?_
  obtain ⟨c9, G9, D9, v9, hG9, hW9, hM1, hM2⟩ := z_op_recall l hst Dg cI cL h na ta ob mo G D (xs (4 * i + 1)) hG hW
  refine z_lS (As := [.ref h, .int (xs (4 * i + 1)), .ref ob]) [] (z_mW cI mo th G D K) hx hb hml hown hts (hM1 G1 D1 o) gL_law_L_recall rfl kdS_L_recall ⟨(Nat.le_of_ble_eq_true rfl), (Nat.le_of_ble_eq_true rfl)⟩ hX hP hD hS rfl hl.1 rfl (Nat.le_of_ble_eq_true rfl) dL_law_548 hf1 (fun o9 w9 H locs hPo hP hD hS => ?_)
  obtain ⟨rfl, G2, D2, o2, rfl, ho⟩ := hPo
  have hX : z_X Dg cI cL (s.setDrawn d0) H := (z_X.at hX0 hS).same rfl
  obtain ⟨K9, hM3⟩ := hM2 th K
  refine lv_istore (lv' := [(5, .int c9), (4, .int (nI (4 * i))), (3, .ref ob), (2, .ref (mo 0)), (1, .ref h), (0, .ref b)]) hx hb dL_law_551 hl (by decide) rfl (fun ls hl => ?_)
  refine lv_aload_n hx hb dL_law_553 rfl (lv_at hl 3 rfl) ?_
  refine lv_aload_n hx hb dL_law_554 rfl (lv_at hl 5 rfl) ?_
  refine lv_iload hx hb dL_law_555 (lv_at hl 1 rfl) ?_
  refine lv_iconst (v := nI 1) hx hb dL_law_557 (by decide) ?_
  refine lv_iadd hx hb dL_law_558 ?_
  refine z_top (x' := nI (4 * i + 1)) (nI_add _ _) ?_
  refine z_sld hx hb hXs hbl hbA hS (by omega) (by omega) dL_law_559 ?_
  refine z_wBi (v := v9) [] [] (z_oW cI cL h na ta ob G9 D9 G2 D2 o2) 0 hx hb hml hown hts hM3 gL_law_X3_recall rfl kd_X3_recall ⟨(Nat.le_of_ble_eq_true rfl), (Nat.le_of_ble_eq_true rfl)⟩ hK hN hP hD hS rfl rfl rfl rfl rfl hl.1 rfl (Nat.le_of_ble_eq_true rfl) dL_law_560 hf1 (fun H locs hP hD hS => ?_)
  have hP : va_P Dg vwCl (z_Lw cI cL mo h na ta ob c9 G9 D9 K9 G2 D2 o2) H := hP
  have hD : va_D _ (z_Lw cI cL mo h na ta ob c9 G9 D9 K9 G2 D2 o2) := hD
  refine lv_istore (lv' := [(6, .int v9), (5, .int c9), (4, .int (nI (4 * i))), (3, .ref ob), (2, .ref (mo 0)), (1, .ref h), (0, .ref b)]) hx hb dL_law_563 hl (by decide) rfl (fun ls hl => ?_)
  refine lv_aload_n hx hb dL_law_565 rfl (lv_at hl 4 rfl) ?_
  refine z_rVi (v := c9) [] hx hb hml hown hts (m_X3_thrown l Dg cI mo c9 G9 D9 K9) gL_law_X3_thrown rfl kd_X3_thrown ⟨(Nat.le_of_ble_eq_true rfl), (Nat.le_of_ble_eq_true rfl)⟩ hK hN (z_Pl hP) rfl rfl rfl rfl hl.1 rfl (Nat.le_of_ble_eq_true rfl) dL_law_566 hf1 ?_
  refine lv_iload hx hb dL_law_569 (lv_at hl 1 rfl) ?_
  refine lv_icmp_eq (tgt := 576) hx hb dL_law_571 (by decide) (fun _ => ?_) (fun h9 => absurd rfl h9)
  refine lv_iload hx hb dL_law_576 (lv_at hl 1 rfl) ?_
  refine lv_if_ne (tgt := 593) hx hb dL_law_578 (by decide) (fun _ => ?_) (fun hz => ?_)
  · skip
    refine lv_goto (tgt := 1765) hx hb dL_law_593 (by decide) ?_
    exact W.widen (k := cells + 1) (n := slots + 12) (by omega) (by omega) (kk c9 G9 D9 K9 G2 D2 o2 H locs d0 ls hG9 hW9 hP hD hS hd0 (lv_sub hl [2, 3, 4, 5, 6] rfl))
  · skip
    refine lv_aload_n hx hb dL_law_581 rfl (lv_at hl 3 rfl) ?_
    refine lv_iconst (v := nI 0) hx hb dL_law_582 (by decide) ?_
    refine va_lald hx hb hX.2.1 hP 47 0 rfl rfl (vp_in_nI (by decide) (by decide)) dL_law_583 ?_
    refine z_topl (x' := (v9).toInt64) (ho hz) ?_
    refine lv_iload hx hb dL_law_584 (lv_at hl 0 rfl) ?_
    refine lv_i2l (v := Int32.toInt64 v9) hx hb dL_law_586 rfl ?_
    refine W.lcmp hx hb dL_law_587 ?_
    refine z_top (x' := 0) (z_lc0 _) ?_
    refine lv_if_eq (tgt := 593) hx hb dL_law_588 (by decide) (fun _ => ?_) (fun h9 => absurd rfl h9)
    refine lv_goto (tgt := 1765) hx hb dL_law_593 (by decide) ?_
    exact W.widen (k := cells + 1) (n := slots + 12) (by omega) (by omega) (kk c9 G9 D9 K9 G2 D2 o2 H locs d0 ls hG9 hW9 hP hD hS hd0 (lv_sub hl [2, 3, 4, 5, 6] rfl))

set_option maxHeartbeats 4000000 in
set_option maxRecDepth 100000 in
theorem lc_6 {p : Program} {l : Launch} {e : Env} {s : State} {m : MethodId} {below : List Frame} {meth : Method} {c : Code} {b L : Nat} {xs : Nat → Int32} {Dg : va_G} {cI cL : ClassId} {mo : Nat → Nat} {h : Nat} {na ta : Nat → Nat} {ob i cells slots : Nat} (C0 : z_CX p l s m meth c b L xs Dg cI cL) (hi : 4 * i + 4 ≤ L) (hcs : cells + 1 ≤ 601024 ∧ slots + 12 ≤ 7293034) (kk : z_Go p l e s m below meth c b Dg cI cL mo h na ta ob 1765 i (cells + 1) (slots + 12)) : z_Go p l e s m below meth c b Dg cI cL mo h na ta ob 596 i cells slots := by
  obtain ⟨hx, hb, hr, hml, hown0, hts0, hXs0, hbl, hlk, hX0, hL, hst⟩ := C0
  obtain ⟨hc1, hc2⟩ := hcs
  intro th G D K G1 D1 o H locs d0 ls hG hW hP hD hS hd0 hl
  have htc : z_tc G ≤ 60 := hG.2.2.2.2.2.1
  have hbc : z_bc G ≤ 6 := hG.2.2.2.2.1
  have hts : ∀ w ∈ wsL_law, w.before #[Value.ref b] (s.setDrawn d0) = true := dr_words hts0 d0
  have hown : (s.setDrawn d0).vm.findClass RL = some m.cls := hown0
  have hXs : va_X b L xs (s.setDrawn d0) s.heap := hXs0
  have hX : z_X Dg cI cL (s.setDrawn d0) H := (z_X.at hX0 hS).same rfl
  have hK := hX.1.1
  have hN := hX.1.2
  have hbA : ¬ (fun q : Nat => s.heap.size ≤ q) b := Nat.not_le.mpr hbl
  have hA : ∀ q : Nat, s.heap.size ≤ q → (fun q : Nat => s.heap.size ≤ q) q := fun _ h => h
  have hf0 : cells ≤ room_1.cells ∧ slots ≤ room_1.slots := ⟨(show cells ≤ 601024 by omega), (show slots ≤ 7293034 by omega)⟩
  have hf1 : cells + 1 ≤ room_1.cells ∧ slots + 6 ≤ room_1.slots := ⟨(show cells + 1 ≤ 601024 by omega), (show slots + 6 ≤ 7293034 by omega)⟩
  have hf2 : cells + 1 ≤ room_1.cells ∧ slots + 12 ≤ room_1.slots := ⟨(show cells + 1 ≤ 601024 by omega), (show slots + 12 ≤ 7293034 by omega)⟩
  refine lv_aload_n hx hb dL_law_596 rfl (lv_at hl 3 rfl) ?_
  refine lv_aload_n hx hb dL_law_597 rfl (lv_at hl 4 rfl) ?_
  refine lv_iload hx hb dL_law_598 (lv_at hl 0 rfl) ?_
  refine lv_iconst (v := nI 1) hx hb dL_law_600 (by decide) ?_
  refine lv_iadd hx hb dL_law_601 ?_
  refine z_top (x' := nI (4 * i + 1)) (nI_add _ _) ?_
  refine z_sld hx hb hXs hbl hbA hS (by omega) (by omega) dL_law_602 ?_
  refine lv_aload_n hx hb dL_law_603 rfl (lv_at hl 1 rfl) ?_
  obtain ⟨c9, G9, D9, v9, hG9, hW9, hM1, hM2⟩ := z_op_pass l hst Dg cI cL h na ta ob mo G D (xs (4 * i + 1)) hG hW
  refine z_lS (As := [.ref h, .int (xs (4 * i + 1)), .ref ob]) [] (z_mW cI mo th G D K) hx hb hml hown hts (hM1 G1 D1 o) gL_law_L_pass rfl kdS_L_pass ⟨(Nat.le_of_ble_eq_true rfl), (Nat.le_of_ble_eq_true rfl)⟩ hX hP hD hS rfl hl.1 rfl (Nat.le_of_ble_eq_true rfl) dL_law_604 hf1 (fun o9 w9 H locs hPo hP hD hS => ?_)
  obtain ⟨rfl, G2, D2, o2, rfl, ho⟩ := hPo
  have hX : z_X Dg cI cL (s.setDrawn d0) H := (z_X.at hX0 hS).same rfl
  obtain ⟨K9, hM3⟩ := hM2 th K
  refine lv_istore (lv' := [(5, .int c9), (4, .int (nI (4 * i))), (3, .ref ob), (2, .ref (mo 0)), (1, .ref h), (0, .ref b)]) hx hb dL_law_607 hl (by decide) rfl (fun ls hl => ?_)
  refine lv_aload_n hx hb dL_law_609 rfl (lv_at hl 3 rfl) ?_
  refine lv_aload_n hx hb dL_law_610 rfl (lv_at hl 5 rfl) ?_
  refine lv_iload hx hb dL_law_611 (lv_at hl 1 rfl) ?_
  refine lv_iconst (v := nI 1) hx hb dL_law_613 (by decide) ?_
  refine lv_iadd hx hb dL_law_614 ?_
  refine z_top (x' := nI (4 * i + 1)) (nI_add _ _) ?_
  refine z_sld hx hb hXs hbl hbA hS (by omega) (by omega) dL_law_615 ?_
  refine z_wBi (v := v9) [] [] (z_oW cI cL h na ta ob G9 D9 G2 D2 o2) 0 hx hb hml hown hts hM3 gL_law_X3_pass rfl kd_X3_pass ⟨(Nat.le_of_ble_eq_true rfl), (Nat.le_of_ble_eq_true rfl)⟩ hK hN hP hD hS rfl rfl rfl rfl rfl hl.1 rfl (Nat.le_of_ble_eq_true rfl) dL_law_616 hf1 (fun H locs hP hD hS => ?_)
  have hP : va_P Dg vwCl (z_Lw cI cL mo h na ta ob c9 G9 D9 K9 G2 D2 o2) H := hP
  have hD : va_D _ (z_Lw cI cL mo h na ta ob c9 G9 D9 K9 G2 D2 o2) := hD
  refine lv_istore (lv' := [(6, .int v9), (5, .int c9), (4, .int (nI (4 * i))), (3, .ref ob), (2, .ref (mo 0)), (1, .ref h), (0, .ref b)]) hx hb dL_law_619 hl (by decide) rfl (fun ls hl => ?_)
  refine lv_aload_n hx hb dL_law_621 rfl (lv_at hl 4 rfl) ?_
  refine z_rVi (v := c9) [] hx hb hml hown hts (m_X3_thrown l Dg cI mo c9 G9 D9 K9) gL_law_X3_thrown rfl kd_X3_thrown ⟨(Nat.le_of_ble_eq_true rfl), (Nat.le_of_ble_eq_true rfl)⟩ hK hN (z_Pl hP) rfl rfl rfl rfl hl.1 rfl (Nat.le_of_ble_eq_true rfl) dL_law_622 hf1 ?_
  refine lv_iload hx hb dL_law_625 (lv_at hl 1 rfl) ?_
  refine lv_icmp_eq (tgt := 632) hx hb dL_law_627 (by decide) (fun _ => ?_) (fun h9 => absurd rfl h9)
  refine lv_iload hx hb dL_law_632 (lv_at hl 1 rfl) ?_
  refine lv_if_ne (tgt := 649) hx hb dL_law_634 (by decide) (fun _ => ?_) (fun hz => ?_)
  · skip
    refine lv_goto (tgt := 1765) hx hb dL_law_649 (by decide) ?_
    exact W.widen (k := cells + 1) (n := slots + 12) (by omega) (by omega) (kk c9 G9 D9 K9 G2 D2 o2 H locs d0 ls hG9 hW9 hP hD hS hd0 (lv_sub hl [2, 3, 4, 5, 6] rfl))
  · skip
    refine lv_aload_n hx hb dL_law_637 rfl (lv_at hl 3 rfl) ?_
    refine lv_iconst (v := nI 0) hx hb dL_law_638 (by decide) ?_
    refine va_lald hx hb hX.2.1 hP 47 0 rfl rfl (vp_in_nI (by decide) (by decide)) dL_law_639 ?_
    refine z_topl (x' := (v9).toInt64) (ho hz) ?_
    refine lv_iload hx hb dL_law_640 (lv_at hl 0 rfl) ?_
    refine lv_i2l (v := Int32.toInt64 v9) hx hb dL_law_642 rfl ?_
    refine W.lcmp hx hb dL_law_643 ?_
    refine z_top (x' := 0) (z_lc0 _) ?_
    refine lv_if_eq (tgt := 649) hx hb dL_law_644 (by decide) (fun _ => ?_) (fun h9 => absurd rfl h9)
    refine lv_goto (tgt := 1765) hx hb dL_law_649 (by decide) ?_
    exact W.widen (k := cells + 1) (n := slots + 12) (by omega) (by omega) (kk c9 G9 D9 K9 G2 D2 o2 H locs d0 ls hG9 hW9 hP hD hS hd0 (lv_sub hl [2, 3, 4, 5, 6] rfl))

set_option maxHeartbeats 4000000 in
set_option maxRecDepth 100000 in
theorem lc_7 {p : Program} {l : Launch} {e : Env} {s : State} {m : MethodId} {below : List Frame} {meth : Method} {c : Code} {b L : Nat} {xs : Nat → Int32} {Dg : va_G} {cI cL : ClassId} {mo : Nat → Nat} {h : Nat} {na ta : Nat → Nat} {ob i cells slots : Nat} (C0 : z_CX p l s m meth c b L xs Dg cI cL) (hi : 4 * i + 4 ≤ L) (hcs : cells + 1 ≤ 601024 ∧ slots + 12 ≤ 7293034) (kk : z_Go p l e s m below meth c b Dg cI cL mo h na ta ob 1765 i (cells + 1) (slots + 12)) : z_Go p l e s m below meth c b Dg cI cL mo h na ta ob 652 i cells slots := by
  obtain ⟨hx, hb, hr, hml, hown0, hts0, hXs0, hbl, hlk, hX0, hL, hst⟩ := C0
  obtain ⟨hc1, hc2⟩ := hcs
  intro th G D K G1 D1 o H locs d0 ls hG hW hP hD hS hd0 hl
  have htc : z_tc G ≤ 60 := hG.2.2.2.2.2.1
  have hbc : z_bc G ≤ 6 := hG.2.2.2.2.1
  have hts : ∀ w ∈ wsL_law, w.before #[Value.ref b] (s.setDrawn d0) = true := dr_words hts0 d0
  have hown : (s.setDrawn d0).vm.findClass RL = some m.cls := hown0
  have hXs : va_X b L xs (s.setDrawn d0) s.heap := hXs0
  have hX : z_X Dg cI cL (s.setDrawn d0) H := (z_X.at hX0 hS).same rfl
  have hK := hX.1.1
  have hN := hX.1.2
  have hbA : ¬ (fun q : Nat => s.heap.size ≤ q) b := Nat.not_le.mpr hbl
  have hA : ∀ q : Nat, s.heap.size ≤ q → (fun q : Nat => s.heap.size ≤ q) q := fun _ h => h
  have hf0 : cells ≤ room_1.cells ∧ slots ≤ room_1.slots := ⟨(show cells ≤ 601024 by omega), (show slots ≤ 7293034 by omega)⟩
  have hf1 : cells + 1 ≤ room_1.cells ∧ slots + 6 ≤ room_1.slots := ⟨(show cells + 1 ≤ 601024 by omega), (show slots + 6 ≤ 7293034 by omega)⟩
  have hf2 : cells + 1 ≤ room_1.cells ∧ slots + 12 ≤ room_1.slots := ⟨(show cells + 1 ≤ 601024 by omega), (show slots + 12 ≤ 7293034 by omega)⟩
  refine lv_aload_n hx hb dL_law_652 rfl (lv_at hl 3 rfl) ?_
  refine z_rVi (v := z_dy D) [] hx hb hml hown hts (m_X2_day l Dg cI h na ta G D G1 D1 hG hW) gL_law_X2_day rfl kd_X2_day ⟨(Nat.le_of_ble_eq_true rfl), (Nat.le_of_ble_eq_true rfl)⟩ hK hN (z_Pm (a := z_mW cI mo th G D K) (c := [(ob, .inl (cL, 1, .inr (.inl o)))]) hP) rfl rfl rfl rfl hl.1 rfl (Nat.le_of_ble_eq_true rfl) dL_law_653 hf0 ?_
  refine lv_aload_n hx hb dL_law_656 rfl (lv_at hl 2 rfl) ?_
  refine z_wBi (v := z_dy D) [.int (z_dy D)] [] (z_oW cI cL h na ta ob G D G1 D1 o) 0 hx hb hml hown hts (m_X3_day l Dg cI mo th G D K hG hW) gL_law_X3_day rfl kd_X3_day ⟨(Nat.le_of_ble_eq_true rfl), (Nat.le_of_ble_eq_true rfl)⟩ hK hN hP hD hS rfl rfl rfl rfl rfl hl.1 rfl (Nat.le_of_ble_eq_true rfl) dL_law_657 hf0 (fun H locs hP hD hS => ?_)
  have hP : va_P Dg vwCl (z_Lw cI cL mo h na ta ob 0 G D K G1 D1 o) H := hP
  have hD : va_D _ (z_Lw cI cL mo h na ta ob 0 G D K G1 D1 o) := hD
  refine lv_icmp_eq (tgt := 1765) hx hb dL_law_660 (by decide) (fun _ => ?_) (fun h9 => absurd rfl h9)
  exact W.widen (k := cells + 1) (n := slots + 12) (by omega) (by omega) (kk 0 G D K G1 D1 o H locs d0 ls hG hW hP hD hS hd0 (lv_sub hl [0, 1, 2, 3, 4] rfl))

set_option maxHeartbeats 4000000 in
set_option maxRecDepth 100000 in
theorem lc_8 {p : Program} {l : Launch} {e : Env} {s : State} {m : MethodId} {below : List Frame} {meth : Method} {c : Code} {b L : Nat} {xs : Nat → Int32} {Dg : va_G} {cI cL : ClassId} {mo : Nat → Nat} {h : Nat} {na ta : Nat → Nat} {ob i cells slots : Nat} (C0 : z_CX p l s m meth c b L xs Dg cI cL) (hi : 4 * i + 4 ≤ L) (hcs : cells + 1 ≤ 601024 ∧ slots + 12 ≤ 7293034) (kk : z_Go p l e s m below meth c b Dg cI cL mo h na ta ob 1765 i (cells + 1) (slots + 12)) : z_Go p l e s m below meth c b Dg cI cL mo h na ta ob 665 i cells slots := by
  obtain ⟨hx, hb, hr, hml, hown0, hts0, hXs0, hbl, hlk, hX0, hL, hst⟩ := C0
  obtain ⟨hc1, hc2⟩ := hcs
  intro th G D K G1 D1 o H locs d0 ls hG hW hP hD hS hd0 hl
  have htc : z_tc G ≤ 60 := hG.2.2.2.2.2.1
  have hbc : z_bc G ≤ 6 := hG.2.2.2.2.1
  have hts : ∀ w ∈ wsL_law, w.before #[Value.ref b] (s.setDrawn d0) = true := dr_words hts0 d0
  have hown : (s.setDrawn d0).vm.findClass RL = some m.cls := hown0
  have hXs : va_X b L xs (s.setDrawn d0) s.heap := hXs0
  have hX : z_X Dg cI cL (s.setDrawn d0) H := (z_X.at hX0 hS).same rfl
  have hK := hX.1.1
  have hN := hX.1.2
  have hbA : ¬ (fun q : Nat => s.heap.size ≤ q) b := Nat.not_le.mpr hbl
  have hA : ∀ q : Nat, s.heap.size ≤ q → (fun q : Nat => s.heap.size ≤ q) q := fun _ h => h
  have hf0 : cells ≤ room_1.cells ∧ slots ≤ room_1.slots := ⟨(show cells ≤ 601024 by omega), (show slots ≤ 7293034 by omega)⟩
  have hf1 : cells + 1 ≤ room_1.cells ∧ slots + 6 ≤ room_1.slots := ⟨(show cells + 1 ≤ 601024 by omega), (show slots + 6 ≤ 7293034 by omega)⟩
  have hf2 : cells + 1 ≤ room_1.cells ∧ slots + 12 ≤ room_1.slots := ⟨(show cells + 1 ≤ 601024 by omega), (show slots + 12 ≤ 7293034 by omega)⟩
  refine lv_aload_n hx hb dL_law_665 rfl (lv_at hl 3 rfl) ?_
  refine z_rVi (v := nI (z_bc G)) [] hx hb hml hown hts (m_X2_batches l Dg cI h na ta G D G1 D1 hG hW) gL_law_X2_batches rfl kd_X2_batches ⟨(Nat.le_of_ble_eq_true rfl), (Nat.le_of_ble_eq_true rfl)⟩ hK hN (z_Pm (a := z_mW cI mo th G D K) (c := [(ob, .inl (cL, 1, .inr (.inl o)))]) hP) rfl rfl rfl rfl hl.1 rfl (Nat.le_of_ble_eq_true rfl) dL_law_666 hf0 ?_
  refine lv_aload_n hx hb dL_law_669 rfl (lv_at hl 2 rfl) ?_
  refine z_wBi (v := nI (z_bc G)) [.int (nI (z_bc G))] [] (z_oW cI cL h na ta ob G D G1 D1 o) 0 hx hb hml hown hts (m_X3_batches l Dg cI mo th G D K hG hW) gL_law_X3_batches rfl kd_X3_batches ⟨(Nat.le_of_ble_eq_true rfl), (Nat.le_of_ble_eq_true rfl)⟩ hK hN hP hD hS rfl rfl rfl rfl rfl hl.1 rfl (Nat.le_of_ble_eq_true rfl) dL_law_670 hf0 (fun H locs hP hD hS => ?_)
  have hP : va_P Dg vwCl (z_Lw cI cL mo h na ta ob 0 G D K G1 D1 o) H := hP
  have hD : va_D _ (z_Lw cI cL mo h na ta ob 0 G D K G1 D1 o) := hD
  refine lv_icmp_eq (tgt := 1765) hx hb dL_law_673 (by decide) (fun _ => ?_) (fun h9 => absurd rfl h9)
  exact W.widen (k := cells + 1) (n := slots + 12) (by omega) (by omega) (kk 0 G D K G1 D1 o H locs d0 ls hG hW hP hD hS hd0 (lv_sub hl [0, 1, 2, 3, 4] rfl))

set_option maxHeartbeats 4000000 in
set_option maxRecDepth 100000 in
theorem lc_9 {p : Program} {l : Launch} {e : Env} {s : State} {m : MethodId} {below : List Frame} {meth : Method} {c : Code} {b L : Nat} {xs : Nat → Int32} {Dg : va_G} {cI cL : ClassId} {mo : Nat → Nat} {h : Nat} {na ta : Nat → Nat} {ob i cells slots : Nat} (C0 : z_CX p l s m meth c b L xs Dg cI cL) (hi : 4 * i + 4 ≤ L) (hcs : cells + 1 ≤ 601024 ∧ slots + 12 ≤ 7293034) (kk : z_Go p l e s m below meth c b Dg cI cL mo h na ta ob 1765 i (cells + 1) (slots + 12)) : z_Go p l e s m below meth c b Dg cI cL mo h na ta ob 678 i cells slots := by
  obtain ⟨hx, hb, hr, hml, hown0, hts0, hXs0, hbl, hlk, hX0, hL, hst⟩ := C0
  obtain ⟨hc1, hc2⟩ := hcs
  intro th G D K G1 D1 o H locs d0 ls hG hW hP hD hS hd0 hl
  have htc : z_tc G ≤ 60 := hG.2.2.2.2.2.1
  have hbc : z_bc G ≤ 6 := hG.2.2.2.2.1
  have hts : ∀ w ∈ wsL_law, w.before #[Value.ref b] (s.setDrawn d0) = true := dr_words hts0 d0
  have hown : (s.setDrawn d0).vm.findClass RL = some m.cls := hown0
  have hXs : va_X b L xs (s.setDrawn d0) s.heap := hXs0
  have hX : z_X Dg cI cL (s.setDrawn d0) H := (z_X.at hX0 hS).same rfl
  have hK := hX.1.1
  have hN := hX.1.2
  have hbA : ¬ (fun q : Nat => s.heap.size ≤ q) b := Nat.not_le.mpr hbl
  have hA : ∀ q : Nat, s.heap.size ≤ q → (fun q : Nat => s.heap.size ≤ q) q := fun _ h => h
  have hf0 : cells ≤ room_1.cells ∧ slots ≤ room_1.slots := ⟨(show cells ≤ 601024 by omega), (show slots ≤ 7293034 by omega)⟩
  have hf1 : cells + 1 ≤ room_1.cells ∧ slots + 6 ≤ room_1.slots := ⟨(show cells + 1 ≤ 601024 by omega), (show slots + 6 ≤ 7293034 by omega)⟩
  have hf2 : cells + 1 ≤ room_1.cells ∧ slots + 12 ≤ room_1.slots := ⟨(show cells + 1 ≤ 601024 by omega), (show slots + 12 ≤ 7293034 by omega)⟩
  refine lv_aload_n hx hb dL_law_678 rfl (lv_at hl 3 rfl) ?_
  refine z_rVi (v := nI (z_tc G)) [] hx hb hml hown hts (m_X2_tins l Dg cI h na ta G D G1 D1 hG hW) gL_law_X2_tins rfl kd_X2_tins ⟨(Nat.le_of_ble_eq_true rfl), (Nat.le_of_ble_eq_true rfl)⟩ hK hN (z_Pm (a := z_mW cI mo th G D K) (c := [(ob, .inl (cL, 1, .inr (.inl o)))]) hP) rfl rfl rfl rfl hl.1 rfl (Nat.le_of_ble_eq_true rfl) dL_law_679 hf0 ?_
  refine lv_aload_n hx hb dL_law_682 rfl (lv_at hl 2 rfl) ?_
  refine z_wBi (v := nI (z_tc G)) [.int (nI (z_tc G))] [] (z_oW cI cL h na ta ob G D G1 D1 o) 0 hx hb hml hown hts (m_X3_tins l Dg cI mo th G D K hG hW) gL_law_X3_tins rfl kd_X3_tins ⟨(Nat.le_of_ble_eq_true rfl), (Nat.le_of_ble_eq_true rfl)⟩ hK hN hP hD hS rfl rfl rfl rfl rfl hl.1 rfl (Nat.le_of_ble_eq_true rfl) dL_law_683 hf0 (fun H locs hP hD hS => ?_)
  have hP : va_P Dg vwCl (z_Lw cI cL mo h na ta ob 0 G D K G1 D1 o) H := hP
  have hD : va_D _ (z_Lw cI cL mo h na ta ob 0 G D K G1 D1 o) := hD
  refine lv_icmp_eq (tgt := 1765) hx hb dL_law_686 (by decide) (fun _ => ?_) (fun h9 => absurd rfl h9)
  exact W.widen (k := cells + 1) (n := slots + 12) (by omega) (by omega) (kk 0 G D K G1 D1 o H locs d0 ls hG hW hP hD hS hd0 (lv_sub hl [0, 1, 2, 3, 4] rfl))

set_option maxHeartbeats 4000000 in
set_option maxRecDepth 100000 in
theorem lc_10 {p : Program} {l : Launch} {e : Env} {s : State} {m : MethodId} {below : List Frame} {meth : Method} {c : Code} {b L : Nat} {xs : Nat → Int32} {Dg : va_G} {cI cL : ClassId} {mo : Nat → Nat} {h : Nat} {na ta : Nat → Nat} {ob i cells slots : Nat} (C0 : z_CX p l s m meth c b L xs Dg cI cL) (hi : 4 * i + 4 ≤ L) (hcs : cells + 1 ≤ 601024 ∧ slots + 12 ≤ 7293034) (kk : z_Go p l e s m below meth c b Dg cI cL mo h na ta ob 1765 i (cells + 1) (slots + 12)) : z_Go p l e s m below meth c b Dg cI cL mo h na ta ob 691 i cells slots := by
  obtain ⟨hx, hb, hr, hml, hown0, hts0, hXs0, hbl, hlk, hX0, hL, hst⟩ := C0
  obtain ⟨hc1, hc2⟩ := hcs
  intro th G D K G1 D1 o H locs d0 ls hG hW hP hD hS hd0 hl
  have htc : z_tc G ≤ 60 := hG.2.2.2.2.2.1
  have hbc : z_bc G ≤ 6 := hG.2.2.2.2.1
  have hts : ∀ w ∈ wsL_law, w.before #[Value.ref b] (s.setDrawn d0) = true := dr_words hts0 d0
  have hown : (s.setDrawn d0).vm.findClass RL = some m.cls := hown0
  have hXs : va_X b L xs (s.setDrawn d0) s.heap := hXs0
  have hX : z_X Dg cI cL (s.setDrawn d0) H := (z_X.at hX0 hS).same rfl
  have hK := hX.1.1
  have hN := hX.1.2
  have hbA : ¬ (fun q : Nat => s.heap.size ≤ q) b := Nat.not_le.mpr hbl
  have hA : ∀ q : Nat, s.heap.size ≤ q → (fun q : Nat => s.heap.size ≤ q) q := fun _ h => h
  have hf0 : cells ≤ room_1.cells ∧ slots ≤ room_1.slots := ⟨(show cells ≤ 601024 by omega), (show slots ≤ 7293034 by omega)⟩
  have hf1 : cells + 1 ≤ room_1.cells ∧ slots + 6 ≤ room_1.slots := ⟨(show cells + 1 ≤ 601024 by omega), (show slots + 6 ≤ 7293034 by omega)⟩
  have hf2 : cells + 1 ≤ room_1.cells ∧ slots + 12 ≤ room_1.slots := ⟨(show cells + 1 ≤ 601024 by omega), (show slots + 12 ≤ 7293034 by omega)⟩
  refine lv_aload_n hx hb dL_law_691 rfl (lv_at hl 3 rfl) ?_
  refine z_rVi (v := nI (z_cn G D 1)) [] hx hb hml hown hts (m_X2_inCellar l Dg cI h na ta G D G1 D1 hG hW) gL_law_X2_inCellar rfl kd_X2_inCellar ⟨(Nat.le_of_ble_eq_true rfl), (Nat.le_of_ble_eq_true rfl)⟩ hK hN (z_Pm (a := z_mW cI mo th G D K) (c := [(ob, .inl (cL, 1, .inr (.inl o)))]) hP) rfl rfl rfl rfl hl.1 rfl (Nat.le_of_ble_eq_true rfl) dL_law_692 hf0 ?_
  refine lv_aload_n hx hb dL_law_695 rfl (lv_at hl 2 rfl) ?_
  refine z_wBi (v := nI (z_cn G D 1)) [.int (nI (z_cn G D 1))] [] (z_oW cI cL h na ta ob G D G1 D1 o) 0 hx hb hml hown hts (m_X3_inCellar l Dg cI mo th G D K hG hW) gL_law_X3_inCellar rfl kd_X3_inCellar ⟨(Nat.le_of_ble_eq_true rfl), (Nat.le_of_ble_eq_true rfl)⟩ hK hN hP hD hS rfl rfl rfl rfl rfl hl.1 rfl (Nat.le_of_ble_eq_true rfl) dL_law_696 hf0 (fun H locs hP hD hS => ?_)
  have hP : va_P Dg vwCl (z_Lw cI cL mo h na ta ob 0 G D K G1 D1 o) H := hP
  have hD : va_D _ (z_Lw cI cL mo h na ta ob 0 G D K G1 D1 o) := hD
  refine lv_icmp_eq (tgt := 1765) hx hb dL_law_699 (by decide) (fun _ => ?_) (fun h9 => absurd rfl h9)
  exact W.widen (k := cells + 1) (n := slots + 12) (by omega) (by omega) (kk 0 G D K G1 D1 o H locs d0 ls hG hW hP hD hS hd0 (lv_sub hl [0, 1, 2, 3, 4] rfl))

set_option maxHeartbeats 4000000 in
set_option maxRecDepth 100000 in
theorem lc_11 {p : Program} {l : Launch} {e : Env} {s : State} {m : MethodId} {below : List Frame} {meth : Method} {c : Code} {b L : Nat} {xs : Nat → Int32} {Dg : va_G} {cI cL : ClassId} {mo : Nat → Nat} {h : Nat} {na ta : Nat → Nat} {ob i cells slots : Nat} (C0 : z_CX p l s m meth c b L xs Dg cI cL) (hi : 4 * i + 4 ≤ L) (hcs : cells + 1 ≤ 601024 ∧ slots + 12 ≤ 7293034) (kk : z_Go p l e s m below meth c b Dg cI cL mo h na ta ob 1765 i (cells + 1) (slots + 12)) : z_Go p l e s m below meth c b Dg cI cL mo h na ta ob 704 i cells slots := by
  obtain ⟨hx, hb, hr, hml, hown0, hts0, hXs0, hbl, hlk, hX0, hL, hst⟩ := C0
  obtain ⟨hc1, hc2⟩ := hcs
  intro th G D K G1 D1 o H locs d0 ls hG hW hP hD hS hd0 hl
  have htc : z_tc G ≤ 60 := hG.2.2.2.2.2.1
  have hbc : z_bc G ≤ 6 := hG.2.2.2.2.1
  have hts : ∀ w ∈ wsL_law, w.before #[Value.ref b] (s.setDrawn d0) = true := dr_words hts0 d0
  have hown : (s.setDrawn d0).vm.findClass RL = some m.cls := hown0
  have hXs : va_X b L xs (s.setDrawn d0) s.heap := hXs0
  have hX : z_X Dg cI cL (s.setDrawn d0) H := (z_X.at hX0 hS).same rfl
  have hK := hX.1.1
  have hN := hX.1.2
  have hbA : ¬ (fun q : Nat => s.heap.size ≤ q) b := Nat.not_le.mpr hbl
  have hA : ∀ q : Nat, s.heap.size ≤ q → (fun q : Nat => s.heap.size ≤ q) q := fun _ h => h
  have hf0 : cells ≤ room_1.cells ∧ slots ≤ room_1.slots := ⟨(show cells ≤ 601024 by omega), (show slots ≤ 7293034 by omega)⟩
  have hf1 : cells + 1 ≤ room_1.cells ∧ slots + 6 ≤ room_1.slots := ⟨(show cells + 1 ≤ 601024 by omega), (show slots + 6 ≤ 7293034 by omega)⟩
  have hf2 : cells + 1 ≤ room_1.cells ∧ slots + 12 ≤ room_1.slots := ⟨(show cells + 1 ≤ 601024 by omega), (show slots + 12 ≤ 7293034 by omega)⟩
  refine lv_aload_n hx hb dL_law_704 rfl (lv_at hl 3 rfl) ?_
  refine z_rVi (v := nI (z_cn G D 2)) [] hx hb hml hown hts (m_X2_shipped l Dg cI h na ta G D G1 D1 hG hW) gL_law_X2_shipped rfl kd_X2_shipped ⟨(Nat.le_of_ble_eq_true rfl), (Nat.le_of_ble_eq_true rfl)⟩ hK hN (z_Pm (a := z_mW cI mo th G D K) (c := [(ob, .inl (cL, 1, .inr (.inl o)))]) hP) rfl rfl rfl rfl hl.1 rfl (Nat.le_of_ble_eq_true rfl) dL_law_705 hf0 ?_
  refine lv_aload_n hx hb dL_law_708 rfl (lv_at hl 2 rfl) ?_
  refine z_wBi (v := nI (z_cn G D 2)) [.int (nI (z_cn G D 2))] [] (z_oW cI cL h na ta ob G D G1 D1 o) 0 hx hb hml hown hts (m_X3_shipped l Dg cI mo th G D K hG hW) gL_law_X3_shipped rfl kd_X3_shipped ⟨(Nat.le_of_ble_eq_true rfl), (Nat.le_of_ble_eq_true rfl)⟩ hK hN hP hD hS rfl rfl rfl rfl rfl hl.1 rfl (Nat.le_of_ble_eq_true rfl) dL_law_709 hf0 (fun H locs hP hD hS => ?_)
  have hP : va_P Dg vwCl (z_Lw cI cL mo h na ta ob 0 G D K G1 D1 o) H := hP
  have hD : va_D _ (z_Lw cI cL mo h na ta ob 0 G D K G1 D1 o) := hD
  refine lv_icmp_eq (tgt := 1765) hx hb dL_law_712 (by decide) (fun _ => ?_) (fun h9 => absurd rfl h9)
  exact W.widen (k := cells + 1) (n := slots + 12) (by omega) (by omega) (kk 0 G D K G1 D1 o H locs d0 ls hG hW hP hD hS hd0 (lv_sub hl [0, 1, 2, 3, 4] rfl))

set_option maxHeartbeats 4000000 in
set_option maxRecDepth 100000 in
theorem lc_12 {p : Program} {l : Launch} {e : Env} {s : State} {m : MethodId} {below : List Frame} {meth : Method} {c : Code} {b L : Nat} {xs : Nat → Int32} {Dg : va_G} {cI cL : ClassId} {mo : Nat → Nat} {h : Nat} {na ta : Nat → Nat} {ob i cells slots : Nat} (C0 : z_CX p l s m meth c b L xs Dg cI cL) (hi : 4 * i + 4 ≤ L) (hcs : cells + 1 ≤ 601024 ∧ slots + 12 ≤ 7293034) (kk : z_Go p l e s m below meth c b Dg cI cL mo h na ta ob 1765 i (cells + 1) (slots + 12)) : z_Go p l e s m below meth c b Dg cI cL mo h na ta ob 717 i cells slots := by
  obtain ⟨hx, hb, hr, hml, hown0, hts0, hXs0, hbl, hlk, hX0, hL, hst⟩ := C0
  obtain ⟨hc1, hc2⟩ := hcs
  intro th G D K G1 D1 o H locs d0 ls hG hW hP hD hS hd0 hl
  have htc : z_tc G ≤ 60 := hG.2.2.2.2.2.1
  have hbc : z_bc G ≤ 6 := hG.2.2.2.2.1
  have hts : ∀ w ∈ wsL_law, w.before #[Value.ref b] (s.setDrawn d0) = true := dr_words hts0 d0
  have hown : (s.setDrawn d0).vm.findClass RL = some m.cls := hown0
  have hXs : va_X b L xs (s.setDrawn d0) s.heap := hXs0
  have hX : z_X Dg cI cL (s.setDrawn d0) H := (z_X.at hX0 hS).same rfl
  have hK := hX.1.1
  have hN := hX.1.2
  have hbA : ¬ (fun q : Nat => s.heap.size ≤ q) b := Nat.not_le.mpr hbl
  have hA : ∀ q : Nat, s.heap.size ≤ q → (fun q : Nat => s.heap.size ≤ q) q := fun _ h => h
  have hf0 : cells ≤ room_1.cells ∧ slots ≤ room_1.slots := ⟨(show cells ≤ 601024 by omega), (show slots ≤ 7293034 by omega)⟩
  have hf1 : cells + 1 ≤ room_1.cells ∧ slots + 6 ≤ room_1.slots := ⟨(show cells + 1 ≤ 601024 by omega), (show slots + 6 ≤ 7293034 by omega)⟩
  have hf2 : cells + 1 ≤ room_1.cells ∧ slots + 12 ≤ room_1.slots := ⟨(show cells + 1 ≤ 601024 by omega), (show slots + 12 ≤ 7293034 by omega)⟩
  refine lv_aload_n hx hb dL_law_717 rfl (lv_at hl 3 rfl) ?_
  refine z_rVi (v := nI (z_cn G D 3)) [] hx hb hml hown hts (m_X2_lost l Dg cI h na ta G D G1 D1 hG hW) gL_law_X2_lost rfl kd_X2_lost ⟨(Nat.le_of_ble_eq_true rfl), (Nat.le_of_ble_eq_true rfl)⟩ hK hN (z_Pm (a := z_mW cI mo th G D K) (c := [(ob, .inl (cL, 1, .inr (.inl o)))]) hP) rfl rfl rfl rfl hl.1 rfl (Nat.le_of_ble_eq_true rfl) dL_law_718 hf0 ?_
  refine lv_aload_n hx hb dL_law_721 rfl (lv_at hl 2 rfl) ?_
  refine z_wBi (v := nI (z_cn G D 3)) [.int (nI (z_cn G D 3))] [] (z_oW cI cL h na ta ob G D G1 D1 o) 0 hx hb hml hown hts (m_X3_lost l Dg cI mo th G D K hG hW) gL_law_X3_lost rfl kd_X3_lost ⟨(Nat.le_of_ble_eq_true rfl), (Nat.le_of_ble_eq_true rfl)⟩ hK hN hP hD hS rfl rfl rfl rfl rfl hl.1 rfl (Nat.le_of_ble_eq_true rfl) dL_law_722 hf0 (fun H locs hP hD hS => ?_)
  have hP : va_P Dg vwCl (z_Lw cI cL mo h na ta ob 0 G D K G1 D1 o) H := hP
  have hD : va_D _ (z_Lw cI cL mo h na ta ob 0 G D K G1 D1 o) := hD
  refine lv_icmp_eq (tgt := 1765) hx hb dL_law_725 (by decide) (fun _ => ?_) (fun h9 => absurd rfl h9)
  exact W.widen (k := cells + 1) (n := slots + 12) (by omega) (by omega) (kk 0 G D K G1 D1 o H locs d0 ls hG hW hP hD hS hd0 (lv_sub hl [0, 1, 2, 3, 4] rfl))

set_option maxHeartbeats 4000000 in
set_option maxRecDepth 100000 in
theorem lc_13 {p : Program} {l : Launch} {e : Env} {s : State} {m : MethodId} {below : List Frame} {meth : Method} {c : Code} {b L : Nat} {xs : Nat → Int32} {Dg : va_G} {cI cL : ClassId} {mo : Nat → Nat} {h : Nat} {na ta : Nat → Nat} {ob i cells slots : Nat} (C0 : z_CX p l s m meth c b L xs Dg cI cL) (hi : 4 * i + 4 ≤ L) (hcs : cells + 1 ≤ 601024 ∧ slots + 12 ≤ 7293034) (kk : z_Go p l e s m below meth c b Dg cI cL mo h na ta ob 1765 i (cells + 1) (slots + 12)) : z_Go p l e s m below meth c b Dg cI cL mo h na ta ob 730 i cells slots := by
  obtain ⟨hx, hb, hr, hml, hown0, hts0, hXs0, hbl, hlk, hX0, hL, hst⟩ := C0
  obtain ⟨hc1, hc2⟩ := hcs
  intro th G D K G1 D1 o H locs d0 ls hG hW hP hD hS hd0 hl
  have htc : z_tc G ≤ 60 := hG.2.2.2.2.2.1
  have hbc : z_bc G ≤ 6 := hG.2.2.2.2.1
  have hts : ∀ w ∈ wsL_law, w.before #[Value.ref b] (s.setDrawn d0) = true := dr_words hts0 d0
  have hown : (s.setDrawn d0).vm.findClass RL = some m.cls := hown0
  have hXs : va_X b L xs (s.setDrawn d0) s.heap := hXs0
  have hX : z_X Dg cI cL (s.setDrawn d0) H := (z_X.at hX0 hS).same rfl
  have hK := hX.1.1
  have hN := hX.1.2
  have hbA : ¬ (fun q : Nat => s.heap.size ≤ q) b := Nat.not_le.mpr hbl
  have hA : ∀ q : Nat, s.heap.size ≤ q → (fun q : Nat => s.heap.size ≤ q) q := fun _ h => h
  have hf0 : cells ≤ room_1.cells ∧ slots ≤ room_1.slots := ⟨(show cells ≤ 601024 by omega), (show slots ≤ 7293034 by omega)⟩
  have hf1 : cells + 1 ≤ room_1.cells ∧ slots + 6 ≤ room_1.slots := ⟨(show cells + 1 ≤ 601024 by omega), (show slots + 6 ≤ 7293034 by omega)⟩
  have hf2 : cells + 1 ≤ room_1.cells ∧ slots + 12 ≤ room_1.slots := ⟨(show cells + 1 ≤ 601024 by omega), (show slots + 12 ≤ 7293034 by omega)⟩
  refine lv_aload_n hx hb dL_law_730 rfl (lv_at hl 3 rfl) ?_
  refine z_rVi (v := z_sum (z_sw D) (z_bc G)) [] hx hb hml hown hts (m_X2_swelled l Dg cI h na ta G D G1 D1 hG hW) gL_law_X2_swelled rfl kd_X2_swelled ⟨(Nat.le_of_ble_eq_true rfl), (Nat.le_of_ble_eq_true rfl)⟩ hK hN (z_Pm (a := z_mW cI mo th G D K) (c := [(ob, .inl (cL, 1, .inr (.inl o)))]) hP) rfl rfl rfl rfl hl.1 rfl (Nat.le_of_ble_eq_true rfl) dL_law_731 hf0 ?_
  refine lv_aload_n hx hb dL_law_734 rfl (lv_at hl 2 rfl) ?_
  refine z_wBi (v := z_sum (z_sw D) (z_bc G)) [.int (z_sum (z_sw D) (z_bc G))] [] (z_oW cI cL h na ta ob G D G1 D1 o) 0 hx hb hml hown hts (m_X3_swelled l Dg cI mo th G D K hG hW) gL_law_X3_swelled rfl kd_X3_swelled ⟨(Nat.le_of_ble_eq_true rfl), (Nat.le_of_ble_eq_true rfl)⟩ hK hN hP hD hS rfl rfl rfl rfl rfl hl.1 rfl (Nat.le_of_ble_eq_true rfl) dL_law_735 hf0 (fun H locs hP hD hS => ?_)
  have hP : va_P Dg vwCl (z_Lw cI cL mo h na ta ob 0 G D K G1 D1 o) H := hP
  have hD : va_D _ (z_Lw cI cL mo h na ta ob 0 G D K G1 D1 o) := hD
  refine lv_icmp_eq (tgt := 1765) hx hb dL_law_738 (by decide) (fun _ => ?_) (fun h9 => absurd rfl h9)
  exact W.widen (k := cells + 1) (n := slots + 12) (by omega) (by omega) (kk 0 G D K G1 D1 o H locs d0 ls hG hW hP hD hS hd0 (lv_sub hl [0, 1, 2, 3, 4] rfl))

set_option maxHeartbeats 4000000 in
set_option maxRecDepth 100000 in
theorem lc_14 {p : Program} {l : Launch} {e : Env} {s : State} {m : MethodId} {below : List Frame} {meth : Method} {c : Code} {b L : Nat} {xs : Nat → Int32} {Dg : va_G} {cI cL : ClassId} {mo : Nat → Nat} {h : Nat} {na ta : Nat → Nat} {ob i cells slots : Nat} (C0 : z_CX p l s m meth c b L xs Dg cI cL) (hi : 4 * i + 4 ≤ L) (hcs : cells + 1 ≤ 601024 ∧ slots + 12 ≤ 7293034) (kk : z_Go p l e s m below meth c b Dg cI cL mo h na ta ob 1765 i (cells + 1) (slots + 12)) : z_Go p l e s m below meth c b Dg cI cL mo h na ta ob 743 i cells slots := by
  obtain ⟨hx, hb, hr, hml, hown0, hts0, hXs0, hbl, hlk, hX0, hL, hst⟩ := C0
  obtain ⟨hc1, hc2⟩ := hcs
  intro th G D K G1 D1 o H locs d0 ls hG hW hP hD hS hd0 hl
  have htc : z_tc G ≤ 60 := hG.2.2.2.2.2.1
  have hbc : z_bc G ≤ 6 := hG.2.2.2.2.1
  have hts : ∀ w ∈ wsL_law, w.before #[Value.ref b] (s.setDrawn d0) = true := dr_words hts0 d0
  have hown : (s.setDrawn d0).vm.findClass RL = some m.cls := hown0
  have hXs : va_X b L xs (s.setDrawn d0) s.heap := hXs0
  have hX : z_X Dg cI cL (s.setDrawn d0) H := (z_X.at hX0 hS).same rfl
  have hK := hX.1.1
  have hN := hX.1.2
  have hbA : ¬ (fun q : Nat => s.heap.size ≤ q) b := Nat.not_le.mpr hbl
  have hA : ∀ q : Nat, s.heap.size ≤ q → (fun q : Nat => s.heap.size ≤ q) q := fun _ h => h
  have hf0 : cells ≤ room_1.cells ∧ slots ≤ room_1.slots := ⟨(show cells ≤ 601024 by omega), (show slots ≤ 7293034 by omega)⟩
  have hf1 : cells + 1 ≤ room_1.cells ∧ slots + 6 ≤ room_1.slots := ⟨(show cells + 1 ≤ 601024 by omega), (show slots + 6 ≤ 7293034 by omega)⟩
  have hf2 : cells + 1 ≤ room_1.cells ∧ slots + 12 ≤ room_1.slots := ⟨(show cells + 1 ≤ 601024 by omega), (show slots + 12 ≤ 7293034 by omega)⟩
  refine lv_aload_n hx hb dL_law_743 rfl (lv_at hl 3 rfl) ?_
  refine lv_aload_n hx hb dL_law_744 rfl (lv_at hl 4 rfl) ?_
  refine lv_iload hx hb dL_law_745 (lv_at hl 0 rfl) ?_
  refine lv_iconst (v := nI 1) hx hb dL_law_747 (by decide) ?_
  refine lv_iadd hx hb dL_law_748 ?_
  refine z_top (x' := nI (4 * i + 1)) (nI_add _ _) ?_
  refine z_sld hx hb hXs hbl hbA hS (by omega) (by omega) dL_law_749 ?_
  refine lv_aload_n hx hb dL_law_750 rfl (lv_at hl 1 rfl) ?_
  obtain ⟨c9, G9, D9, v9, hG9, hW9, hM1, hM2⟩ := z_op_standOn l hst Dg cI cL h na ta ob mo G D (xs (4 * i + 1)) hG hW
  refine z_lS (As := [.ref h, .int (xs (4 * i + 1)), .ref ob]) [] (z_mW cI mo th G D K) hx hb hml hown hts (hM1 G1 D1 o) gL_law_L_standOn rfl kdS_L_standOn ⟨(Nat.le_of_ble_eq_true rfl), (Nat.le_of_ble_eq_true rfl)⟩ hX hP hD hS rfl hl.1 rfl (Nat.le_of_ble_eq_true rfl) dL_law_751 hf1 (fun o9 w9 H locs hPo hP hD hS => ?_)
  obtain ⟨rfl, G2, D2, o2, rfl, ho⟩ := hPo
  have hX : z_X Dg cI cL (s.setDrawn d0) H := (z_X.at hX0 hS).same rfl
  obtain ⟨K9, hM3⟩ := hM2 th K
  refine lv_istore (lv' := [(5, .int c9), (4, .int (nI (4 * i))), (3, .ref ob), (2, .ref (mo 0)), (1, .ref h), (0, .ref b)]) hx hb dL_law_754 hl (by decide) rfl (fun ls hl => ?_)
  refine lv_aload_n hx hb dL_law_756 rfl (lv_at hl 3 rfl) ?_
  refine lv_aload_n hx hb dL_law_757 rfl (lv_at hl 5 rfl) ?_
  refine lv_iload hx hb dL_law_758 (lv_at hl 1 rfl) ?_
  refine lv_iconst (v := nI 1) hx hb dL_law_760 (by decide) ?_
  refine lv_iadd hx hb dL_law_761 ?_
  refine z_top (x' := nI (4 * i + 1)) (nI_add _ _) ?_
  refine z_sld hx hb hXs hbl hbA hS (by omega) (by omega) dL_law_762 ?_
  refine z_wBi (v := v9) [] [] (z_oW cI cL h na ta ob G9 D9 G2 D2 o2) 0 hx hb hml hown hts hM3 gL_law_X3_standOn rfl kd_X3_standOn ⟨(Nat.le_of_ble_eq_true rfl), (Nat.le_of_ble_eq_true rfl)⟩ hK hN hP hD hS rfl rfl rfl rfl rfl hl.1 rfl (Nat.le_of_ble_eq_true rfl) dL_law_763 hf1 (fun H locs hP hD hS => ?_)
  have hP : va_P Dg vwCl (z_Lw cI cL mo h na ta ob c9 G9 D9 K9 G2 D2 o2) H := hP
  have hD : va_D _ (z_Lw cI cL mo h na ta ob c9 G9 D9 K9 G2 D2 o2) := hD
  refine lv_istore (lv' := [(6, .int v9), (5, .int c9), (4, .int (nI (4 * i))), (3, .ref ob), (2, .ref (mo 0)), (1, .ref h), (0, .ref b)]) hx hb dL_law_766 hl (by decide) rfl (fun ls hl => ?_)
  refine lv_aload_n hx hb dL_law_768 rfl (lv_at hl 4 rfl) ?_
  refine z_rVi (v := c9) [] hx hb hml hown hts (m_X3_thrown l Dg cI mo c9 G9 D9 K9) gL_law_X3_thrown rfl kd_X3_thrown ⟨(Nat.le_of_ble_eq_true rfl), (Nat.le_of_ble_eq_true rfl)⟩ hK hN (z_Pl hP) rfl rfl rfl rfl hl.1 rfl (Nat.le_of_ble_eq_true rfl) dL_law_769 hf1 ?_
  refine lv_iload hx hb dL_law_772 (lv_at hl 1 rfl) ?_
  refine lv_icmp_eq (tgt := 779) hx hb dL_law_774 (by decide) (fun _ => ?_) (fun h9 => absurd rfl h9)
  refine lv_iload hx hb dL_law_779 (lv_at hl 1 rfl) ?_
  refine lv_if_ne (tgt := 796) hx hb dL_law_781 (by decide) (fun _ => ?_) (fun hz => ?_)
  · skip
    refine lv_goto (tgt := 1765) hx hb dL_law_796 (by decide) ?_
    exact W.widen (k := cells + 1) (n := slots + 12) (by omega) (by omega) (kk c9 G9 D9 K9 G2 D2 o2 H locs d0 ls hG9 hW9 hP hD hS hd0 (lv_sub hl [2, 3, 4, 5, 6] rfl))
  · skip
    refine lv_aload_n hx hb dL_law_784 rfl (lv_at hl 3 rfl) ?_
    refine lv_iconst (v := nI 0) hx hb dL_law_785 (by decide) ?_
    refine va_lald hx hb hX.2.1 hP 47 0 rfl rfl (vp_in_nI (by decide) (by decide)) dL_law_786 ?_
    refine z_topl (x' := (v9).toInt64) (ho hz) ?_
    refine lv_iload hx hb dL_law_787 (lv_at hl 0 rfl) ?_
    refine lv_i2l (v := Int32.toInt64 v9) hx hb dL_law_789 rfl ?_
    refine W.lcmp hx hb dL_law_790 ?_
    refine z_top (x' := 0) (z_lc0 _) ?_
    refine lv_if_eq (tgt := 796) hx hb dL_law_791 (by decide) (fun _ => ?_) (fun h9 => absurd rfl h9)
    refine lv_goto (tgt := 1765) hx hb dL_law_796 (by decide) ?_
    exact W.widen (k := cells + 1) (n := slots + 12) (by omega) (by omega) (kk c9 G9 D9 K9 G2 D2 o2 H locs d0 ls hG9 hW9 hP hD hS hd0 (lv_sub hl [2, 3, 4, 5, 6] rfl))

set_option maxHeartbeats 4000000 in
set_option maxRecDepth 100000 in
theorem lc_15 {p : Program} {l : Launch} {e : Env} {s : State} {m : MethodId} {below : List Frame} {meth : Method} {c : Code} {b L : Nat} {xs : Nat → Int32} {Dg : va_G} {cI cL : ClassId} {mo : Nat → Nat} {h : Nat} {na ta : Nat → Nat} {ob i cells slots : Nat} (C0 : z_CX p l s m meth c b L xs Dg cI cL) (hi : 4 * i + 4 ≤ L) (hcs : cells + 1 ≤ 601024 ∧ slots + 12 ≤ 7293034) (kk : z_Go p l e s m below meth c b Dg cI cL mo h na ta ob 1765 i (cells + 1) (slots + 12)) : z_Go p l e s m below meth c b Dg cI cL mo h na ta ob 799 i cells slots := by
  obtain ⟨hx, hb, hr, hml, hown0, hts0, hXs0, hbl, hlk, hX0, hL, hst⟩ := C0
  obtain ⟨hc1, hc2⟩ := hcs
  intro th G D K G1 D1 o H locs d0 ls hG hW hP hD hS hd0 hl
  have htc : z_tc G ≤ 60 := hG.2.2.2.2.2.1
  have hbc : z_bc G ≤ 6 := hG.2.2.2.2.1
  have hts : ∀ w ∈ wsL_law, w.before #[Value.ref b] (s.setDrawn d0) = true := dr_words hts0 d0
  have hown : (s.setDrawn d0).vm.findClass RL = some m.cls := hown0
  have hXs : va_X b L xs (s.setDrawn d0) s.heap := hXs0
  have hX : z_X Dg cI cL (s.setDrawn d0) H := (z_X.at hX0 hS).same rfl
  have hK := hX.1.1
  have hN := hX.1.2
  have hbA : ¬ (fun q : Nat => s.heap.size ≤ q) b := Nat.not_le.mpr hbl
  have hA : ∀ q : Nat, s.heap.size ≤ q → (fun q : Nat => s.heap.size ≤ q) q := fun _ h => h
  have hf0 : cells ≤ room_1.cells ∧ slots ≤ room_1.slots := ⟨(show cells ≤ 601024 by omega), (show slots ≤ 7293034 by omega)⟩
  have hf1 : cells + 1 ≤ room_1.cells ∧ slots + 6 ≤ room_1.slots := ⟨(show cells + 1 ≤ 601024 by omega), (show slots + 6 ≤ 7293034 by omega)⟩
  have hf2 : cells + 1 ≤ room_1.cells ∧ slots + 12 ≤ room_1.slots := ⟨(show cells + 1 ≤ 601024 by omega), (show slots + 12 ≤ 7293034 by omega)⟩
  refine lv_aload_n hx hb dL_law_799 rfl (lv_at hl 3 rfl) ?_
  refine lv_aload_n hx hb dL_law_800 rfl (lv_at hl 4 rfl) ?_
  refine lv_iload hx hb dL_law_801 (lv_at hl 0 rfl) ?_
  refine lv_iconst (v := nI 1) hx hb dL_law_803 (by decide) ?_
  refine lv_iadd hx hb dL_law_804 ?_
  refine z_top (x' := nI (4 * i + 1)) (nI_add _ _) ?_
  refine z_sld hx hb hXs hbl hbA hS (by omega) (by omega) dL_law_805 ?_
  refine lv_aload_n hx hb dL_law_806 rfl (lv_at hl 1 rfl) ?_
  obtain ⟨c9, G9, D9, v9, hG9, hW9, hM1, hM2⟩ := z_op_warmOf l hst Dg cI cL h na ta ob mo G D (xs (4 * i + 1)) hG hW
  refine z_lS (As := [.ref h, .int (xs (4 * i + 1)), .ref ob]) [] (z_mW cI mo th G D K) hx hb hml hown hts (hM1 G1 D1 o) gL_law_L_warmOf rfl kdS_L_warmOf ⟨(Nat.le_of_ble_eq_true rfl), (Nat.le_of_ble_eq_true rfl)⟩ hX hP hD hS rfl hl.1 rfl (Nat.le_of_ble_eq_true rfl) dL_law_807 hf1 (fun o9 w9 H locs hPo hP hD hS => ?_)
  obtain ⟨rfl, G2, D2, o2, rfl, ho⟩ := hPo
  have hX : z_X Dg cI cL (s.setDrawn d0) H := (z_X.at hX0 hS).same rfl
  obtain ⟨K9, hM3⟩ := hM2 th K
  refine lv_istore (lv' := [(5, .int c9), (4, .int (nI (4 * i))), (3, .ref ob), (2, .ref (mo 0)), (1, .ref h), (0, .ref b)]) hx hb dL_law_810 hl (by decide) rfl (fun ls hl => ?_)
  refine lv_aload_n hx hb dL_law_812 rfl (lv_at hl 3 rfl) ?_
  refine lv_aload_n hx hb dL_law_813 rfl (lv_at hl 5 rfl) ?_
  refine lv_iload hx hb dL_law_814 (lv_at hl 1 rfl) ?_
  refine lv_iconst (v := nI 1) hx hb dL_law_816 (by decide) ?_
  refine lv_iadd hx hb dL_law_817 ?_
  refine z_top (x' := nI (4 * i + 1)) (nI_add _ _) ?_
  refine z_sld hx hb hXs hbl hbA hS (by omega) (by omega) dL_law_818 ?_
  refine z_wBi (v := v9) [] [] (z_oW cI cL h na ta ob G9 D9 G2 D2 o2) 0 hx hb hml hown hts hM3 gL_law_X3_warmOf rfl kd_X3_warmOf ⟨(Nat.le_of_ble_eq_true rfl), (Nat.le_of_ble_eq_true rfl)⟩ hK hN hP hD hS rfl rfl rfl rfl rfl hl.1 rfl (Nat.le_of_ble_eq_true rfl) dL_law_819 hf1 (fun H locs hP hD hS => ?_)
  have hP : va_P Dg vwCl (z_Lw cI cL mo h na ta ob c9 G9 D9 K9 G2 D2 o2) H := hP
  have hD : va_D _ (z_Lw cI cL mo h na ta ob c9 G9 D9 K9 G2 D2 o2) := hD
  refine lv_istore (lv' := [(6, .int v9), (5, .int c9), (4, .int (nI (4 * i))), (3, .ref ob), (2, .ref (mo 0)), (1, .ref h), (0, .ref b)]) hx hb dL_law_822 hl (by decide) rfl (fun ls hl => ?_)
  refine lv_aload_n hx hb dL_law_824 rfl (lv_at hl 4 rfl) ?_
  refine z_rVi (v := c9) [] hx hb hml hown hts (m_X3_thrown l Dg cI mo c9 G9 D9 K9) gL_law_X3_thrown rfl kd_X3_thrown ⟨(Nat.le_of_ble_eq_true rfl), (Nat.le_of_ble_eq_true rfl)⟩ hK hN (z_Pl hP) rfl rfl rfl rfl hl.1 rfl (Nat.le_of_ble_eq_true rfl) dL_law_825 hf1 ?_
  refine lv_iload hx hb dL_law_828 (lv_at hl 1 rfl) ?_
  refine lv_icmp_eq (tgt := 835) hx hb dL_law_830 (by decide) (fun _ => ?_) (fun h9 => absurd rfl h9)
  refine lv_iload hx hb dL_law_835 (lv_at hl 1 rfl) ?_
  refine lv_if_ne (tgt := 852) hx hb dL_law_837 (by decide) (fun _ => ?_) (fun hz => ?_)
  · skip
    refine lv_goto (tgt := 1765) hx hb dL_law_852 (by decide) ?_
    exact W.widen (k := cells + 1) (n := slots + 12) (by omega) (by omega) (kk c9 G9 D9 K9 G2 D2 o2 H locs d0 ls hG9 hW9 hP hD hS hd0 (lv_sub hl [2, 3, 4, 5, 6] rfl))
  · skip
    refine lv_aload_n hx hb dL_law_840 rfl (lv_at hl 3 rfl) ?_
    refine lv_iconst (v := nI 0) hx hb dL_law_841 (by decide) ?_
    refine va_lald hx hb hX.2.1 hP 47 0 rfl rfl (vp_in_nI (by decide) (by decide)) dL_law_842 ?_
    refine z_topl (x' := (v9).toInt64) (ho hz) ?_
    refine lv_iload hx hb dL_law_843 (lv_at hl 0 rfl) ?_
    refine lv_i2l (v := Int32.toInt64 v9) hx hb dL_law_845 rfl ?_
    refine W.lcmp hx hb dL_law_846 ?_
    refine z_top (x' := 0) (z_lc0 _) ?_
    refine lv_if_eq (tgt := 852) hx hb dL_law_847 (by decide) (fun _ => ?_) (fun h9 => absurd rfl h9)
    refine lv_goto (tgt := 1765) hx hb dL_law_852 (by decide) ?_
    exact W.widen (k := cells + 1) (n := slots + 12) (by omega) (by omega) (kk c9 G9 D9 K9 G2 D2 o2 H locs d0 ls hG9 hW9 hP hD hS hd0 (lv_sub hl [2, 3, 4, 5, 6] rfl))

set_option maxHeartbeats 4000000 in
set_option maxRecDepth 100000 in
theorem lc_16 {p : Program} {l : Launch} {e : Env} {s : State} {m : MethodId} {below : List Frame} {meth : Method} {c : Code} {b L : Nat} {xs : Nat → Int32} {Dg : va_G} {cI cL : ClassId} {mo : Nat → Nat} {h : Nat} {na ta : Nat → Nat} {ob i cells slots : Nat} (C0 : z_CX p l s m meth c b L xs Dg cI cL) (hi : 4 * i + 4 ≤ L) (hcs : cells + 1 ≤ 601024 ∧ slots + 12 ≤ 7293034) (kk : z_Go p l e s m below meth c b Dg cI cL mo h na ta ob 1765 i (cells + 1) (slots + 12)) : z_Go p l e s m below meth c b Dg cI cL mo h na ta ob 855 i cells slots := by
  obtain ⟨hx, hb, hr, hml, hown0, hts0, hXs0, hbl, hlk, hX0, hL, hst⟩ := C0
  obtain ⟨hc1, hc2⟩ := hcs
  intro th G D K G1 D1 o H locs d0 ls hG hW hP hD hS hd0 hl
  have htc : z_tc G ≤ 60 := hG.2.2.2.2.2.1
  have hbc : z_bc G ≤ 6 := hG.2.2.2.2.1
  have hts : ∀ w ∈ wsL_law, w.before #[Value.ref b] (s.setDrawn d0) = true := dr_words hts0 d0
  have hown : (s.setDrawn d0).vm.findClass RL = some m.cls := hown0
  have hXs : va_X b L xs (s.setDrawn d0) s.heap := hXs0
  have hX : z_X Dg cI cL (s.setDrawn d0) H := (z_X.at hX0 hS).same rfl
  have hK := hX.1.1
  have hN := hX.1.2
  have hbA : ¬ (fun q : Nat => s.heap.size ≤ q) b := Nat.not_le.mpr hbl
  have hA : ∀ q : Nat, s.heap.size ≤ q → (fun q : Nat => s.heap.size ≤ q) q := fun _ h => h
  have hf0 : cells ≤ room_1.cells ∧ slots ≤ room_1.slots := ⟨(show cells ≤ 601024 by omega), (show slots ≤ 7293034 by omega)⟩
  have hf1 : cells + 1 ≤ room_1.cells ∧ slots + 6 ≤ room_1.slots := ⟨(show cells + 1 ≤ 601024 by omega), (show slots + 6 ≤ 7293034 by omega)⟩
  have hf2 : cells + 1 ≤ room_1.cells ∧ slots + 12 ≤ room_1.slots := ⟨(show cells + 1 ≤ 601024 by omega), (show slots + 12 ≤ 7293034 by omega)⟩
  refine lv_aload_n hx hb dL_law_855 rfl (lv_at hl 3 rfl) ?_
  refine lv_aload_n hx hb dL_law_856 rfl (lv_at hl 4 rfl) ?_
  refine lv_iload hx hb dL_law_857 (lv_at hl 0 rfl) ?_
  refine lv_iconst (v := nI 1) hx hb dL_law_859 (by decide) ?_
  refine lv_iadd hx hb dL_law_860 ?_
  refine z_top (x' := nI (4 * i + 1)) (nI_add _ _) ?_
  refine z_sld hx hb hXs hbl hbA hS (by omega) (by omega) dL_law_861 ?_
  refine lv_aload_n hx hb dL_law_862 rfl (lv_at hl 1 rfl) ?_
  obtain ⟨c9, G9, D9, v9, hG9, hW9, hM1, hM2⟩ := z_op_batchOf l hst Dg cI cL h na ta ob mo G D (xs (4 * i + 1)) hG hW
  refine z_lS (As := [.ref h, .int (xs (4 * i + 1)), .ref ob]) [] (z_mW cI mo th G D K) hx hb hml hown hts (hM1 G1 D1 o) gL_law_L_batchOf rfl kdS_L_batchOf ⟨(Nat.le_of_ble_eq_true rfl), (Nat.le_of_ble_eq_true rfl)⟩ hX hP hD hS rfl hl.1 rfl (Nat.le_of_ble_eq_true rfl) dL_law_863 hf1 (fun o9 w9 H locs hPo hP hD hS => ?_)
  obtain ⟨rfl, G2, D2, o2, rfl, ho⟩ := hPo
  have hX : z_X Dg cI cL (s.setDrawn d0) H := (z_X.at hX0 hS).same rfl
  obtain ⟨K9, hM3⟩ := hM2 th K
  refine lv_istore (lv' := [(5, .int c9), (4, .int (nI (4 * i))), (3, .ref ob), (2, .ref (mo 0)), (1, .ref h), (0, .ref b)]) hx hb dL_law_866 hl (by decide) rfl (fun ls hl => ?_)
  refine lv_aload_n hx hb dL_law_868 rfl (lv_at hl 3 rfl) ?_
  refine lv_aload_n hx hb dL_law_869 rfl (lv_at hl 5 rfl) ?_
  refine lv_iload hx hb dL_law_870 (lv_at hl 1 rfl) ?_
  refine lv_iconst (v := nI 1) hx hb dL_law_872 (by decide) ?_
  refine lv_iadd hx hb dL_law_873 ?_
  refine z_top (x' := nI (4 * i + 1)) (nI_add _ _) ?_
  refine z_sld hx hb hXs hbl hbA hS (by omega) (by omega) dL_law_874 ?_
  refine z_wBi (v := v9) [] [] (z_oW cI cL h na ta ob G9 D9 G2 D2 o2) 0 hx hb hml hown hts hM3 gL_law_X3_batchOf rfl kd_X3_batchOf ⟨(Nat.le_of_ble_eq_true rfl), (Nat.le_of_ble_eq_true rfl)⟩ hK hN hP hD hS rfl rfl rfl rfl rfl hl.1 rfl (Nat.le_of_ble_eq_true rfl) dL_law_875 hf1 (fun H locs hP hD hS => ?_)
  have hP : va_P Dg vwCl (z_Lw cI cL mo h na ta ob c9 G9 D9 K9 G2 D2 o2) H := hP
  have hD : va_D _ (z_Lw cI cL mo h na ta ob c9 G9 D9 K9 G2 D2 o2) := hD
  refine lv_istore (lv' := [(6, .int v9), (5, .int c9), (4, .int (nI (4 * i))), (3, .ref ob), (2, .ref (mo 0)), (1, .ref h), (0, .ref b)]) hx hb dL_law_878 hl (by decide) rfl (fun ls hl => ?_)
  refine lv_aload_n hx hb dL_law_880 rfl (lv_at hl 4 rfl) ?_
  refine z_rVi (v := c9) [] hx hb hml hown hts (m_X3_thrown l Dg cI mo c9 G9 D9 K9) gL_law_X3_thrown rfl kd_X3_thrown ⟨(Nat.le_of_ble_eq_true rfl), (Nat.le_of_ble_eq_true rfl)⟩ hK hN (z_Pl hP) rfl rfl rfl rfl hl.1 rfl (Nat.le_of_ble_eq_true rfl) dL_law_881 hf1 ?_
  refine lv_iload hx hb dL_law_884 (lv_at hl 1 rfl) ?_
  refine lv_icmp_eq (tgt := 891) hx hb dL_law_886 (by decide) (fun _ => ?_) (fun h9 => absurd rfl h9)
  refine lv_iload hx hb dL_law_891 (lv_at hl 1 rfl) ?_
  refine lv_if_ne (tgt := 908) hx hb dL_law_893 (by decide) (fun _ => ?_) (fun hz => ?_)
  · skip
    refine lv_goto (tgt := 1765) hx hb dL_law_908 (by decide) ?_
    exact W.widen (k := cells + 1) (n := slots + 12) (by omega) (by omega) (kk c9 G9 D9 K9 G2 D2 o2 H locs d0 ls hG9 hW9 hP hD hS hd0 (lv_sub hl [2, 3, 4, 5, 6] rfl))
  · skip
    refine lv_aload_n hx hb dL_law_896 rfl (lv_at hl 3 rfl) ?_
    refine lv_iconst (v := nI 0) hx hb dL_law_897 (by decide) ?_
    refine va_lald hx hb hX.2.1 hP 47 0 rfl rfl (vp_in_nI (by decide) (by decide)) dL_law_898 ?_
    refine z_topl (x' := (v9).toInt64) (ho hz) ?_
    refine lv_iload hx hb dL_law_899 (lv_at hl 0 rfl) ?_
    refine lv_i2l (v := Int32.toInt64 v9) hx hb dL_law_901 rfl ?_
    refine W.lcmp hx hb dL_law_902 ?_
    refine z_top (x' := 0) (z_lc0 _) ?_
    refine lv_if_eq (tgt := 908) hx hb dL_law_903 (by decide) (fun _ => ?_) (fun h9 => absurd rfl h9)
    refine lv_goto (tgt := 1765) hx hb dL_law_908 (by decide) ?_
    exact W.widen (k := cells + 1) (n := slots + 12) (by omega) (by omega) (kk c9 G9 D9 K9 G2 D2 o2 H locs d0 ls hG9 hW9 hP hD hS hd0 (lv_sub hl [2, 3, 4, 5, 6] rfl))

set_option maxHeartbeats 4000000 in
set_option maxRecDepth 100000 in
theorem lc_17 {p : Program} {l : Launch} {e : Env} {s : State} {m : MethodId} {below : List Frame} {meth : Method} {c : Code} {b L : Nat} {xs : Nat → Int32} {Dg : va_G} {cI cL : ClassId} {mo : Nat → Nat} {h : Nat} {na ta : Nat → Nat} {ob i cells slots : Nat} (C0 : z_CX p l s m meth c b L xs Dg cI cL) (hi : 4 * i + 4 ≤ L) (hcs : cells + 1 ≤ 601024 ∧ slots + 12 ≤ 7293034) (kk : z_Go p l e s m below meth c b Dg cI cL mo h na ta ob 1765 i (cells + 1) (slots + 12)) : z_Go p l e s m below meth c b Dg cI cL mo h na ta ob 911 i cells slots := by
  obtain ⟨hx, hb, hr, hml, hown0, hts0, hXs0, hbl, hlk, hX0, hL, hst⟩ := C0
  obtain ⟨hc1, hc2⟩ := hcs
  intro th G D K G1 D1 o H locs d0 ls hG hW hP hD hS hd0 hl
  have htc : z_tc G ≤ 60 := hG.2.2.2.2.2.1
  have hbc : z_bc G ≤ 6 := hG.2.2.2.2.1
  have hts : ∀ w ∈ wsL_law, w.before #[Value.ref b] (s.setDrawn d0) = true := dr_words hts0 d0
  have hown : (s.setDrawn d0).vm.findClass RL = some m.cls := hown0
  have hXs : va_X b L xs (s.setDrawn d0) s.heap := hXs0
  have hX : z_X Dg cI cL (s.setDrawn d0) H := (z_X.at hX0 hS).same rfl
  have hK := hX.1.1
  have hN := hX.1.2
  have hbA : ¬ (fun q : Nat => s.heap.size ≤ q) b := Nat.not_le.mpr hbl
  have hA : ∀ q : Nat, s.heap.size ≤ q → (fun q : Nat => s.heap.size ≤ q) q := fun _ h => h
  have hf0 : cells ≤ room_1.cells ∧ slots ≤ room_1.slots := ⟨(show cells ≤ 601024 by omega), (show slots ≤ 7293034 by omega)⟩
  have hf1 : cells + 1 ≤ room_1.cells ∧ slots + 6 ≤ room_1.slots := ⟨(show cells + 1 ≤ 601024 by omega), (show slots + 6 ≤ 7293034 by omega)⟩
  have hf2 : cells + 1 ≤ room_1.cells ∧ slots + 12 ≤ room_1.slots := ⟨(show cells + 1 ≤ 601024 by omega), (show slots + 12 ≤ 7293034 by omega)⟩
  refine lv_aload_n hx hb dL_law_911 rfl (lv_at hl 3 rfl) ?_
  refine lv_aload_n hx hb dL_law_912 rfl (lv_at hl 4 rfl) ?_
  refine lv_iload hx hb dL_law_913 (lv_at hl 0 rfl) ?_
  refine lv_iconst (v := nI 1) hx hb dL_law_915 (by decide) ?_
  refine lv_iadd hx hb dL_law_916 ?_
  refine z_top (x' := nI (4 * i + 1)) (nI_add _ _) ?_
  refine z_sld hx hb hXs hbl hbA hS (by omega) (by omega) dL_law_917 ?_
  refine lv_aload_n hx hb dL_law_918 rfl (lv_at hl 1 rfl) ?_
  obtain ⟨c9, G9, D9, v9, hG9, hW9, hM1, hM2⟩ := z_op_shelfOf l hst Dg cI cL h na ta ob mo G D (xs (4 * i + 1)) hG hW
  refine z_lS (As := [.ref h, .int (xs (4 * i + 1)), .ref ob]) [] (z_mW cI mo th G D K) hx hb hml hown hts (hM1 G1 D1 o) gL_law_L_shelfOf rfl kdS_L_shelfOf ⟨(Nat.le_of_ble_eq_true rfl), (Nat.le_of_ble_eq_true rfl)⟩ hX hP hD hS rfl hl.1 rfl (Nat.le_of_ble_eq_true rfl) dL_law_919 hf1 (fun o9 w9 H locs hPo hP hD hS => ?_)
  obtain ⟨rfl, G2, D2, o2, rfl, ho⟩ := hPo
  have hX : z_X Dg cI cL (s.setDrawn d0) H := (z_X.at hX0 hS).same rfl
  obtain ⟨K9, hM3⟩ := hM2 th K
  refine lv_istore (lv' := [(5, .int c9), (4, .int (nI (4 * i))), (3, .ref ob), (2, .ref (mo 0)), (1, .ref h), (0, .ref b)]) hx hb dL_law_922 hl (by decide) rfl (fun ls hl => ?_)
  refine lv_aload_n hx hb dL_law_924 rfl (lv_at hl 3 rfl) ?_
  refine lv_aload_n hx hb dL_law_925 rfl (lv_at hl 5 rfl) ?_
  refine lv_iload hx hb dL_law_926 (lv_at hl 1 rfl) ?_
  refine lv_iconst (v := nI 1) hx hb dL_law_928 (by decide) ?_
  refine lv_iadd hx hb dL_law_929 ?_
  refine z_top (x' := nI (4 * i + 1)) (nI_add _ _) ?_
  refine z_sld hx hb hXs hbl hbA hS (by omega) (by omega) dL_law_930 ?_
  refine z_wBi (v := v9) [] [] (z_oW cI cL h na ta ob G9 D9 G2 D2 o2) 0 hx hb hml hown hts hM3 gL_law_X3_shelfOf rfl kd_X3_shelfOf ⟨(Nat.le_of_ble_eq_true rfl), (Nat.le_of_ble_eq_true rfl)⟩ hK hN hP hD hS rfl rfl rfl rfl rfl hl.1 rfl (Nat.le_of_ble_eq_true rfl) dL_law_931 hf1 (fun H locs hP hD hS => ?_)
  have hP : va_P Dg vwCl (z_Lw cI cL mo h na ta ob c9 G9 D9 K9 G2 D2 o2) H := hP
  have hD : va_D _ (z_Lw cI cL mo h na ta ob c9 G9 D9 K9 G2 D2 o2) := hD
  refine lv_istore (lv' := [(6, .int v9), (5, .int c9), (4, .int (nI (4 * i))), (3, .ref ob), (2, .ref (mo 0)), (1, .ref h), (0, .ref b)]) hx hb dL_law_934 hl (by decide) rfl (fun ls hl => ?_)
  refine lv_aload_n hx hb dL_law_936 rfl (lv_at hl 4 rfl) ?_
  refine z_rVi (v := c9) [] hx hb hml hown hts (m_X3_thrown l Dg cI mo c9 G9 D9 K9) gL_law_X3_thrown rfl kd_X3_thrown ⟨(Nat.le_of_ble_eq_true rfl), (Nat.le_of_ble_eq_true rfl)⟩ hK hN (z_Pl hP) rfl rfl rfl rfl hl.1 rfl (Nat.le_of_ble_eq_true rfl) dL_law_937 hf1 ?_
  refine lv_iload hx hb dL_law_940 (lv_at hl 1 rfl) ?_
  refine lv_icmp_eq (tgt := 947) hx hb dL_law_942 (by decide) (fun _ => ?_) (fun h9 => absurd rfl h9)
  refine lv_iload hx hb dL_law_947 (lv_at hl 1 rfl) ?_
  refine lv_if_ne (tgt := 964) hx hb dL_law_949 (by decide) (fun _ => ?_) (fun hz => ?_)
  · skip
    refine lv_goto (tgt := 1765) hx hb dL_law_964 (by decide) ?_
    exact W.widen (k := cells + 1) (n := slots + 12) (by omega) (by omega) (kk c9 G9 D9 K9 G2 D2 o2 H locs d0 ls hG9 hW9 hP hD hS hd0 (lv_sub hl [2, 3, 4, 5, 6] rfl))
  · skip
    refine lv_aload_n hx hb dL_law_952 rfl (lv_at hl 3 rfl) ?_
    refine lv_iconst (v := nI 0) hx hb dL_law_953 (by decide) ?_
    refine va_lald hx hb hX.2.1 hP 47 0 rfl rfl (vp_in_nI (by decide) (by decide)) dL_law_954 ?_
    refine z_topl (x' := (v9).toInt64) (ho hz) ?_
    refine lv_iload hx hb dL_law_955 (lv_at hl 0 rfl) ?_
    refine lv_i2l (v := Int32.toInt64 v9) hx hb dL_law_957 rfl ?_
    refine W.lcmp hx hb dL_law_958 ?_
    refine z_top (x' := 0) (z_lc0 _) ?_
    refine lv_if_eq (tgt := 964) hx hb dL_law_959 (by decide) (fun _ => ?_) (fun h9 => absurd rfl h9)
    refine lv_goto (tgt := 1765) hx hb dL_law_964 (by decide) ?_
    exact W.widen (k := cells + 1) (n := slots + 12) (by omega) (by omega) (kk c9 G9 D9 K9 G2 D2 o2 H locs d0 ls hG9 hW9 hP hD hS hd0 (lv_sub hl [2, 3, 4, 5, 6] rfl))

set_option maxHeartbeats 4000000 in
set_option maxRecDepth 100000 in
theorem lc_18 {p : Program} {l : Launch} {e : Env} {s : State} {m : MethodId} {below : List Frame} {meth : Method} {c : Code} {b L : Nat} {xs : Nat → Int32} {Dg : va_G} {cI cL : ClassId} {mo : Nat → Nat} {h : Nat} {na ta : Nat → Nat} {ob i cells slots : Nat} (C0 : z_CX p l s m meth c b L xs Dg cI cL) (hi : 4 * i + 4 ≤ L) (hcs : cells + 1 ≤ 601024 ∧ slots + 12 ≤ 7293034) (kk : z_Go p l e s m below meth c b Dg cI cL mo h na ta ob 1765 i (cells + 1) (slots + 12)) : z_Go p l e s m below meth c b Dg cI cL mo h na ta ob 967 i cells slots := by
  obtain ⟨hx, hb, hr, hml, hown0, hts0, hXs0, hbl, hlk, hX0, hL, hst⟩ := C0
  obtain ⟨hc1, hc2⟩ := hcs
  intro th G D K G1 D1 o H locs d0 ls hG hW hP hD hS hd0 hl
  have htc : z_tc G ≤ 60 := hG.2.2.2.2.2.1
  have hbc : z_bc G ≤ 6 := hG.2.2.2.2.1
  have hts : ∀ w ∈ wsL_law, w.before #[Value.ref b] (s.setDrawn d0) = true := dr_words hts0 d0
  have hown : (s.setDrawn d0).vm.findClass RL = some m.cls := hown0
  have hXs : va_X b L xs (s.setDrawn d0) s.heap := hXs0
  have hX : z_X Dg cI cL (s.setDrawn d0) H := (z_X.at hX0 hS).same rfl
  have hK := hX.1.1
  have hN := hX.1.2
  have hbA : ¬ (fun q : Nat => s.heap.size ≤ q) b := Nat.not_le.mpr hbl
  have hA : ∀ q : Nat, s.heap.size ≤ q → (fun q : Nat => s.heap.size ≤ q) q := fun _ h => h
  have hf0 : cells ≤ room_1.cells ∧ slots ≤ room_1.slots := ⟨(show cells ≤ 601024 by omega), (show slots ≤ 7293034 by omega)⟩
  have hf1 : cells + 1 ≤ room_1.cells ∧ slots + 6 ≤ room_1.slots := ⟨(show cells + 1 ≤ 601024 by omega), (show slots + 6 ≤ 7293034 by omega)⟩
  have hf2 : cells + 1 ≤ room_1.cells ∧ slots + 12 ≤ room_1.slots := ⟨(show cells + 1 ≤ 601024 by omega), (show slots + 12 ≤ 7293034 by omega)⟩
  refine lv_aload_n hx hb dL_law_967 rfl (lv_at hl 3 rfl) ?_
  refine lv_aload_n hx hb dL_law_968 rfl (lv_at hl 4 rfl) ?_
  refine lv_iload hx hb dL_law_969 (lv_at hl 0 rfl) ?_
  refine lv_iconst (v := nI 1) hx hb dL_law_971 (by decide) ?_
  refine lv_iadd hx hb dL_law_972 ?_
  refine z_top (x' := nI (4 * i + 1)) (nI_add _ _) ?_
  refine z_sld hx hb hXs hbl hbA hS (by omega) (by omega) dL_law_973 ?_
  refine lv_aload_n hx hb dL_law_974 rfl (lv_at hl 1 rfl) ?_
  obtain ⟨c9, G9, D9, v9, hG9, hW9, hM1, hM2⟩ := z_op_vacuumOf l hst Dg cI cL h na ta ob mo G D (xs (4 * i + 1)) hG hW
  refine z_lS (As := [.ref h, .int (xs (4 * i + 1)), .ref ob]) [] (z_mW cI mo th G D K) hx hb hml hown hts (hM1 G1 D1 o) gL_law_L_vacuumOf rfl kdS_L_vacuumOf ⟨(Nat.le_of_ble_eq_true rfl), (Nat.le_of_ble_eq_true rfl)⟩ hX hP hD hS rfl hl.1 rfl (Nat.le_of_ble_eq_true rfl) dL_law_975 hf1 (fun o9 w9 H locs hPo hP hD hS => ?_)
  obtain ⟨rfl, G2, D2, o2, rfl, ho⟩ := hPo
  have hX : z_X Dg cI cL (s.setDrawn d0) H := (z_X.at hX0 hS).same rfl
  obtain ⟨K9, hM3⟩ := hM2 th K
  refine lv_istore (lv' := [(5, .int c9), (4, .int (nI (4 * i))), (3, .ref ob), (2, .ref (mo 0)), (1, .ref h), (0, .ref b)]) hx hb dL_law_978 hl (by decide) rfl (fun ls hl => ?_)
  refine lv_aload_n hx hb dL_law_980 rfl (lv_at hl 3 rfl) ?_
  refine lv_aload_n hx hb dL_law_981 rfl (lv_at hl 5 rfl) ?_
  refine lv_iload hx hb dL_law_982 (lv_at hl 1 rfl) ?_
  refine lv_iconst (v := nI 1) hx hb dL_law_984 (by decide) ?_
  refine lv_iadd hx hb dL_law_985 ?_
  refine z_top (x' := nI (4 * i + 1)) (nI_add _ _) ?_
  refine z_sld hx hb hXs hbl hbA hS (by omega) (by omega) dL_law_986 ?_
  refine z_wBi (v := v9) [] [] (z_oW cI cL h na ta ob G9 D9 G2 D2 o2) 0 hx hb hml hown hts hM3 gL_law_X3_vacuumOf rfl kd_X3_vacuumOf ⟨(Nat.le_of_ble_eq_true rfl), (Nat.le_of_ble_eq_true rfl)⟩ hK hN hP hD hS rfl rfl rfl rfl rfl hl.1 rfl (Nat.le_of_ble_eq_true rfl) dL_law_987 hf1 (fun H locs hP hD hS => ?_)
  have hP : va_P Dg vwCl (z_Lw cI cL mo h na ta ob c9 G9 D9 K9 G2 D2 o2) H := hP
  have hD : va_D _ (z_Lw cI cL mo h na ta ob c9 G9 D9 K9 G2 D2 o2) := hD
  refine lv_istore (lv' := [(6, .int v9), (5, .int c9), (4, .int (nI (4 * i))), (3, .ref ob), (2, .ref (mo 0)), (1, .ref h), (0, .ref b)]) hx hb dL_law_990 hl (by decide) rfl (fun ls hl => ?_)
  refine lv_aload_n hx hb dL_law_992 rfl (lv_at hl 4 rfl) ?_
  refine z_rVi (v := c9) [] hx hb hml hown hts (m_X3_thrown l Dg cI mo c9 G9 D9 K9) gL_law_X3_thrown rfl kd_X3_thrown ⟨(Nat.le_of_ble_eq_true rfl), (Nat.le_of_ble_eq_true rfl)⟩ hK hN (z_Pl hP) rfl rfl rfl rfl hl.1 rfl (Nat.le_of_ble_eq_true rfl) dL_law_993 hf1 ?_
  refine lv_iload hx hb dL_law_996 (lv_at hl 1 rfl) ?_
  refine lv_icmp_eq (tgt := 1003) hx hb dL_law_998 (by decide) (fun _ => ?_) (fun h9 => absurd rfl h9)
  refine lv_iload hx hb dL_law_1003 (lv_at hl 1 rfl) ?_
  refine lv_if_ne (tgt := 1020) hx hb dL_law_1005 (by decide) (fun _ => ?_) (fun hz => ?_)
  · skip
    refine lv_goto (tgt := 1765) hx hb dL_law_1020 (by decide) ?_
    exact W.widen (k := cells + 1) (n := slots + 12) (by omega) (by omega) (kk c9 G9 D9 K9 G2 D2 o2 H locs d0 ls hG9 hW9 hP hD hS hd0 (lv_sub hl [2, 3, 4, 5, 6] rfl))
  · skip
    refine lv_aload_n hx hb dL_law_1008 rfl (lv_at hl 3 rfl) ?_
    refine lv_iconst (v := nI 0) hx hb dL_law_1009 (by decide) ?_
    refine va_lald hx hb hX.2.1 hP 47 0 rfl rfl (vp_in_nI (by decide) (by decide)) dL_law_1010 ?_
    refine z_topl (x' := (v9).toInt64) (ho hz) ?_
    refine lv_iload hx hb dL_law_1011 (lv_at hl 0 rfl) ?_
    refine lv_i2l (v := Int32.toInt64 v9) hx hb dL_law_1013 rfl ?_
    refine W.lcmp hx hb dL_law_1014 ?_
    refine z_top (x' := 0) (z_lc0 _) ?_
    refine lv_if_eq (tgt := 1020) hx hb dL_law_1015 (by decide) (fun _ => ?_) (fun h9 => absurd rfl h9)
    refine lv_goto (tgt := 1765) hx hb dL_law_1020 (by decide) ?_
    exact W.widen (k := cells + 1) (n := slots + 12) (by omega) (by omega) (kk c9 G9 D9 K9 G2 D2 o2 H locs d0 ls hG9 hW9 hP hD hS hd0 (lv_sub hl [2, 3, 4, 5, 6] rfl))

set_option maxHeartbeats 4000000 in
set_option maxRecDepth 100000 in
theorem lc_19 {p : Program} {l : Launch} {e : Env} {s : State} {m : MethodId} {below : List Frame} {meth : Method} {c : Code} {b L : Nat} {xs : Nat → Int32} {Dg : va_G} {cI cL : ClassId} {mo : Nat → Nat} {h : Nat} {na ta : Nat → Nat} {ob i cells slots : Nat} (C0 : z_CX p l s m meth c b L xs Dg cI cL) (hi : 4 * i + 4 ≤ L) (hcs : cells + 1 ≤ 601024 ∧ slots + 12 ≤ 7293034) (kk : z_Go p l e s m below meth c b Dg cI cL mo h na ta ob 1765 i (cells + 1) (slots + 12)) : z_Go p l e s m below meth c b Dg cI cL mo h na ta ob 1023 i cells slots := by
  obtain ⟨hx, hb, hr, hml, hown0, hts0, hXs0, hbl, hlk, hX0, hL, hst⟩ := C0
  obtain ⟨hc1, hc2⟩ := hcs
  intro th G D K G1 D1 o H locs d0 ls hG hW hP hD hS hd0 hl
  have htc : z_tc G ≤ 60 := hG.2.2.2.2.2.1
  have hbc : z_bc G ≤ 6 := hG.2.2.2.2.1
  have hts : ∀ w ∈ wsL_law, w.before #[Value.ref b] (s.setDrawn d0) = true := dr_words hts0 d0
  have hown : (s.setDrawn d0).vm.findClass RL = some m.cls := hown0
  have hXs : va_X b L xs (s.setDrawn d0) s.heap := hXs0
  have hX : z_X Dg cI cL (s.setDrawn d0) H := (z_X.at hX0 hS).same rfl
  have hK := hX.1.1
  have hN := hX.1.2
  have hbA : ¬ (fun q : Nat => s.heap.size ≤ q) b := Nat.not_le.mpr hbl
  have hA : ∀ q : Nat, s.heap.size ≤ q → (fun q : Nat => s.heap.size ≤ q) q := fun _ h => h
  have hf0 : cells ≤ room_1.cells ∧ slots ≤ room_1.slots := ⟨(show cells ≤ 601024 by omega), (show slots ≤ 7293034 by omega)⟩
  have hf1 : cells + 1 ≤ room_1.cells ∧ slots + 6 ≤ room_1.slots := ⟨(show cells + 1 ≤ 601024 by omega), (show slots + 6 ≤ 7293034 by omega)⟩
  have hf2 : cells + 1 ≤ room_1.cells ∧ slots + 12 ≤ room_1.slots := ⟨(show cells + 1 ≤ 601024 by omega), (show slots + 12 ≤ 7293034 by omega)⟩
  refine lv_aload_n hx hb dL_law_1023 rfl (lv_at hl 3 rfl) ?_
  refine lv_aload_n hx hb dL_law_1024 rfl (lv_at hl 4 rfl) ?_
  refine lv_iload hx hb dL_law_1025 (lv_at hl 0 rfl) ?_
  refine lv_iconst (v := nI 1) hx hb dL_law_1027 (by decide) ?_
  refine lv_iadd hx hb dL_law_1028 ?_
  refine z_top (x' := nI (4 * i + 1)) (nI_add _ _) ?_
  refine z_sld hx hb hXs hbl hbA hS (by omega) (by omega) dL_law_1029 ?_
  refine lv_aload_n hx hb dL_law_1030 rfl (lv_at hl 1 rfl) ?_
  obtain ⟨c9, G9, D9, b9, hG9, hW9, hM1, hM2⟩ := z_op_isShipped l hst Dg cI cL h na ta ob mo G D (xs (4 * i + 1)) hG hW
  refine z_lS (As := [.ref h, .int (xs (4 * i + 1)), .ref ob]) [] (z_mW cI mo th G D K) hx hb hml hown hts (hM1 G1 D1 o) gL_law_L_isShipped rfl kdS_L_isShipped ⟨(Nat.le_of_ble_eq_true rfl), (Nat.le_of_ble_eq_true rfl)⟩ hX hP hD hS rfl hl.1 rfl (Nat.le_of_ble_eq_true rfl) dL_law_1031 hf1 (fun o9 w9 H locs hPo hP hD hS => ?_)
  obtain ⟨rfl, G2, D2, o2, rfl, ho⟩ := hPo
  have hX : z_X Dg cI cL (s.setDrawn d0) H := (z_X.at hX0 hS).same rfl
  obtain ⟨K9, hM3⟩ := hM2 th K
  refine lv_istore (lv' := [(5, .int c9), (4, .int (nI (4 * i))), (3, .ref ob), (2, .ref (mo 0)), (1, .ref h), (0, .ref b)]) hx hb dL_law_1034 hl (by decide) rfl (fun ls hl => ?_)
  refine lv_aload_n hx hb dL_law_1036 rfl (lv_at hl 3 rfl) ?_
  refine lv_aload_n hx hb dL_law_1037 rfl (lv_at hl 5 rfl) ?_
  refine lv_iload hx hb dL_law_1038 (lv_at hl 1 rfl) ?_
  refine lv_iconst (v := nI 1) hx hb dL_law_1040 (by decide) ?_
  refine lv_iadd hx hb dL_law_1041 ?_
  refine z_top (x' := nI (4 * i + 1)) (nI_add _ _) ?_
  refine z_sld hx hb hXs hbl hbA hS (by omega) (by omega) dL_law_1042 ?_
  refine z_wBi (v := z_bI b9) [] [] (z_oW cI cL h na ta ob G9 D9 G2 D2 o2) 0 hx hb hml hown hts hM3 gL_law_X3_isShipped rfl kd_X3_isShipped ⟨(Nat.le_of_ble_eq_true rfl), (Nat.le_of_ble_eq_true rfl)⟩ hK hN hP hD hS rfl rfl rfl rfl rfl hl.1 rfl (Nat.le_of_ble_eq_true rfl) dL_law_1043 hf1 (fun H locs hP hD hS => ?_)
  have hP : va_P Dg vwCl (z_Lw cI cL mo h na ta ob c9 G9 D9 K9 G2 D2 o2) H := hP
  have hD : va_D _ (z_Lw cI cL mo h na ta ob c9 G9 D9 K9 G2 D2 o2) := hD
  refine lv_istore (lv' := [(6, .int (z_bI b9)), (5, .int c9), (4, .int (nI (4 * i))), (3, .ref ob), (2, .ref (mo 0)), (1, .ref h), (0, .ref b)]) hx hb dL_law_1046 hl (by decide) rfl (fun ls hl => ?_)
  refine lv_aload_n hx hb dL_law_1048 rfl (lv_at hl 4 rfl) ?_
  refine z_rVi (v := c9) [] hx hb hml hown hts (m_X3_thrown l Dg cI mo c9 G9 D9 K9) gL_law_X3_thrown rfl kd_X3_thrown ⟨(Nat.le_of_ble_eq_true rfl), (Nat.le_of_ble_eq_true rfl)⟩ hK hN (z_Pl hP) rfl rfl rfl rfl hl.1 rfl (Nat.le_of_ble_eq_true rfl) dL_law_1049 hf1 ?_
  refine lv_iload hx hb dL_law_1052 (lv_at hl 1 rfl) ?_
  refine lv_icmp_eq (tgt := 1059) hx hb dL_law_1054 (by decide) (fun _ => ?_) (fun h9 => absurd rfl h9)
  refine lv_iload hx hb dL_law_1059 (lv_at hl 1 rfl) ?_
  refine lv_if_ne (tgt := 1083) hx hb dL_law_1061 (by decide) (fun _ => ?_) (fun hz => ?_)
  · skip
    refine lv_goto (tgt := 1765) hx hb dL_law_1083 (by decide) ?_
    exact W.widen (k := cells + 1) (n := slots + 12) (by omega) (by omega) (kk c9 G9 D9 K9 G2 D2 o2 H locs d0 ls hG9 hW9 hP hD hS hd0 (lv_sub hl [2, 3, 4, 5, 6] rfl))
  · skip
    refine lv_aload_n hx hb dL_law_1064 rfl (lv_at hl 3 rfl) ?_
    refine lv_iconst (v := nI 0) hx hb dL_law_1065 (by decide) ?_
    refine va_lald hx hb hX.2.1 hP 47 0 rfl rfl (vp_in_nI (by decide) (by decide)) dL_law_1066 ?_
    refine z_topl (x' := (z_bI b9).toInt64) (ho hz) ?_
    refine lv_iload hx hb dL_law_1067 (lv_at hl 0 rfl) ?_
    refine lv_if_eq (tgt := 1076) hx hb dL_law_1069 (by decide) (fun c1069 => ?_) (fun c1069 => ?_)
    · skip
      refine lv_lconst (v := 0) hx hb dL_law_1076 (by decide) ?_
      refine z_topl (x' := (z_bI b9).toInt64) (by rw [z_bI0 c1069]; rfl) ?_
      refine W.lcmp hx hb dL_law_1077 ?_
      refine z_top (x' := 0) (z_lc0 _) ?_
      refine lv_if_eq (tgt := 1083) hx hb dL_law_1078 (by decide) (fun _ => ?_) (fun h9 => absurd rfl h9)
      refine lv_goto (tgt := 1765) hx hb dL_law_1083 (by decide) ?_
      exact W.widen (k := cells + 1) (n := slots + 12) (by omega) (by omega) (kk c9 G9 D9 K9 G2 D2 o2 H locs d0 ls hG9 hW9 hP hD hS hd0 (lv_sub hl [2, 3, 4, 5, 6] rfl))
    · skip
      refine lv_lconst (v := 1) hx hb dL_law_1072 (by decide) ?_
      refine lv_goto (tgt := 1077) hx hb dL_law_1073 (by decide) ?_
      refine z_topl (x' := (z_bI b9).toInt64) (by rw [z_bI1 c1069]; rfl) ?_
      refine W.lcmp hx hb dL_law_1077 ?_
      refine z_top (x' := 0) (z_lc0 _) ?_
      refine lv_if_eq (tgt := 1083) hx hb dL_law_1078 (by decide) (fun _ => ?_) (fun h9 => absurd rfl h9)
      refine lv_goto (tgt := 1765) hx hb dL_law_1083 (by decide) ?_
      exact W.widen (k := cells + 1) (n := slots + 12) (by omega) (by omega) (kk c9 G9 D9 K9 G2 D2 o2 H locs d0 ls hG9 hW9 hP hD hS hd0 (lv_sub hl [2, 3, 4, 5, 6] rfl))

set_option maxHeartbeats 4000000 in
set_option maxRecDepth 100000 in
theorem lc_20 {p : Program} {l : Launch} {e : Env} {s : State} {m : MethodId} {below : List Frame} {meth : Method} {c : Code} {b L : Nat} {xs : Nat → Int32} {Dg : va_G} {cI cL : ClassId} {mo : Nat → Nat} {h : Nat} {na ta : Nat → Nat} {ob i cells slots : Nat} (C0 : z_CX p l s m meth c b L xs Dg cI cL) (hi : 4 * i + 4 ≤ L) (hcs : cells + 1 ≤ 601024 ∧ slots + 12 ≤ 7293034) (kk : z_Go p l e s m below meth c b Dg cI cL mo h na ta ob 1765 i (cells + 1) (slots + 12)) : z_Go p l e s m below meth c b Dg cI cL mo h na ta ob 1086 i cells slots := by
  obtain ⟨hx, hb, hr, hml, hown0, hts0, hXs0, hbl, hlk, hX0, hL, hst⟩ := C0
  obtain ⟨hc1, hc2⟩ := hcs
  intro th G D K G1 D1 o H locs d0 ls hG hW hP hD hS hd0 hl
  have htc : z_tc G ≤ 60 := hG.2.2.2.2.2.1
  have hbc : z_bc G ≤ 6 := hG.2.2.2.2.1
  have hts : ∀ w ∈ wsL_law, w.before #[Value.ref b] (s.setDrawn d0) = true := dr_words hts0 d0
  have hown : (s.setDrawn d0).vm.findClass RL = some m.cls := hown0
  have hXs : va_X b L xs (s.setDrawn d0) s.heap := hXs0
  have hX : z_X Dg cI cL (s.setDrawn d0) H := (z_X.at hX0 hS).same rfl
  have hK := hX.1.1
  have hN := hX.1.2
  have hbA : ¬ (fun q : Nat => s.heap.size ≤ q) b := Nat.not_le.mpr hbl
  have hA : ∀ q : Nat, s.heap.size ≤ q → (fun q : Nat => s.heap.size ≤ q) q := fun _ h => h
  have hf0 : cells ≤ room_1.cells ∧ slots ≤ room_1.slots := ⟨(show cells ≤ 601024 by omega), (show slots ≤ 7293034 by omega)⟩
  have hf1 : cells + 1 ≤ room_1.cells ∧ slots + 6 ≤ room_1.slots := ⟨(show cells + 1 ≤ 601024 by omega), (show slots + 6 ≤ 7293034 by omega)⟩
  have hf2 : cells + 1 ≤ room_1.cells ∧ slots + 12 ≤ room_1.slots := ⟨(show cells + 1 ≤ 601024 by omega), (show slots + 12 ≤ 7293034 by omega)⟩
  refine lv_aload_n hx hb dL_law_1086 rfl (lv_at hl 3 rfl) ?_
  refine lv_aload_n hx hb dL_law_1087 rfl (lv_at hl 4 rfl) ?_
  refine lv_iload hx hb dL_law_1088 (lv_at hl 0 rfl) ?_
  refine lv_iconst (v := nI 1) hx hb dL_law_1090 (by decide) ?_
  refine lv_iadd hx hb dL_law_1091 ?_
  refine z_top (x' := nI (4 * i + 1)) (nI_add _ _) ?_
  refine z_sld hx hb hXs hbl hbA hS (by omega) (by omega) dL_law_1092 ?_
  refine lv_aload_n hx hb dL_law_1093 rfl (lv_at hl 1 rfl) ?_
  obtain ⟨c9, G9, D9, b9, hG9, hW9, hM1, hM2⟩ := z_op_isLost l hst Dg cI cL h na ta ob mo G D (xs (4 * i + 1)) hG hW
  refine z_lS (As := [.ref h, .int (xs (4 * i + 1)), .ref ob]) [] (z_mW cI mo th G D K) hx hb hml hown hts (hM1 G1 D1 o) gL_law_L_isLost rfl kdS_L_isLost ⟨(Nat.le_of_ble_eq_true rfl), (Nat.le_of_ble_eq_true rfl)⟩ hX hP hD hS rfl hl.1 rfl (Nat.le_of_ble_eq_true rfl) dL_law_1094 hf1 (fun o9 w9 H locs hPo hP hD hS => ?_)
  obtain ⟨rfl, G2, D2, o2, rfl, ho⟩ := hPo
  have hX : z_X Dg cI cL (s.setDrawn d0) H := (z_X.at hX0 hS).same rfl
  obtain ⟨K9, hM3⟩ := hM2 th K
  refine lv_istore (lv' := [(5, .int c9), (4, .int (nI (4 * i))), (3, .ref ob), (2, .ref (mo 0)), (1, .ref h), (0, .ref b)]) hx hb dL_law_1097 hl (by decide) rfl (fun ls hl => ?_)
  refine lv_aload_n hx hb dL_law_1099 rfl (lv_at hl 3 rfl) ?_
  refine lv_aload_n hx hb dL_law_1100 rfl (lv_at hl 5 rfl) ?_
  refine lv_iload hx hb dL_law_1101 (lv_at hl 1 rfl) ?_
  refine lv_iconst (v := nI 1) hx hb dL_law_1103 (by decide) ?_
  refine lv_iadd hx hb dL_law_1104 ?_
  refine z_top (x' := nI (4 * i + 1)) (nI_add _ _) ?_
  refine z_sld hx hb hXs hbl hbA hS (by omega) (by omega) dL_law_1105 ?_
  refine z_wBi (v := z_bI b9) [] [] (z_oW cI cL h na ta ob G9 D9 G2 D2 o2) 0 hx hb hml hown hts hM3 gL_law_X3_isLost rfl kd_X3_isLost ⟨(Nat.le_of_ble_eq_true rfl), (Nat.le_of_ble_eq_true rfl)⟩ hK hN hP hD hS rfl rfl rfl rfl rfl hl.1 rfl (Nat.le_of_ble_eq_true rfl) dL_law_1106 hf1 (fun H locs hP hD hS => ?_)
  have hP : va_P Dg vwCl (z_Lw cI cL mo h na ta ob c9 G9 D9 K9 G2 D2 o2) H := hP
  have hD : va_D _ (z_Lw cI cL mo h na ta ob c9 G9 D9 K9 G2 D2 o2) := hD
  refine lv_istore (lv' := [(6, .int (z_bI b9)), (5, .int c9), (4, .int (nI (4 * i))), (3, .ref ob), (2, .ref (mo 0)), (1, .ref h), (0, .ref b)]) hx hb dL_law_1109 hl (by decide) rfl (fun ls hl => ?_)
  refine lv_aload_n hx hb dL_law_1111 rfl (lv_at hl 4 rfl) ?_
  refine z_rVi (v := c9) [] hx hb hml hown hts (m_X3_thrown l Dg cI mo c9 G9 D9 K9) gL_law_X3_thrown rfl kd_X3_thrown ⟨(Nat.le_of_ble_eq_true rfl), (Nat.le_of_ble_eq_true rfl)⟩ hK hN (z_Pl hP) rfl rfl rfl rfl hl.1 rfl (Nat.le_of_ble_eq_true rfl) dL_law_1112 hf1 ?_
  refine lv_iload hx hb dL_law_1115 (lv_at hl 1 rfl) ?_
  refine lv_icmp_eq (tgt := 1122) hx hb dL_law_1117 (by decide) (fun _ => ?_) (fun h9 => absurd rfl h9)
  refine lv_iload hx hb dL_law_1122 (lv_at hl 1 rfl) ?_
  refine lv_if_ne (tgt := 1146) hx hb dL_law_1124 (by decide) (fun _ => ?_) (fun hz => ?_)
  · skip
    refine lv_goto (tgt := 1765) hx hb dL_law_1146 (by decide) ?_
    exact W.widen (k := cells + 1) (n := slots + 12) (by omega) (by omega) (kk c9 G9 D9 K9 G2 D2 o2 H locs d0 ls hG9 hW9 hP hD hS hd0 (lv_sub hl [2, 3, 4, 5, 6] rfl))
  · skip
    refine lv_aload_n hx hb dL_law_1127 rfl (lv_at hl 3 rfl) ?_
    refine lv_iconst (v := nI 0) hx hb dL_law_1128 (by decide) ?_
    refine va_lald hx hb hX.2.1 hP 47 0 rfl rfl (vp_in_nI (by decide) (by decide)) dL_law_1129 ?_
    refine z_topl (x' := (z_bI b9).toInt64) (ho hz) ?_
    refine lv_iload hx hb dL_law_1130 (lv_at hl 0 rfl) ?_
    refine lv_if_eq (tgt := 1139) hx hb dL_law_1132 (by decide) (fun c1132 => ?_) (fun c1132 => ?_)
    · skip
      refine lv_lconst (v := 0) hx hb dL_law_1139 (by decide) ?_
      refine z_topl (x' := (z_bI b9).toInt64) (by rw [z_bI0 c1132]; rfl) ?_
      refine W.lcmp hx hb dL_law_1140 ?_
      refine z_top (x' := 0) (z_lc0 _) ?_
      refine lv_if_eq (tgt := 1146) hx hb dL_law_1141 (by decide) (fun _ => ?_) (fun h9 => absurd rfl h9)
      refine lv_goto (tgt := 1765) hx hb dL_law_1146 (by decide) ?_
      exact W.widen (k := cells + 1) (n := slots + 12) (by omega) (by omega) (kk c9 G9 D9 K9 G2 D2 o2 H locs d0 ls hG9 hW9 hP hD hS hd0 (lv_sub hl [2, 3, 4, 5, 6] rfl))
    · skip
      refine lv_lconst (v := 1) hx hb dL_law_1135 (by decide) ?_
      refine lv_goto (tgt := 1140) hx hb dL_law_1136 (by decide) ?_
      refine z_topl (x' := (z_bI b9).toInt64) (by rw [z_bI1 c1132]; rfl) ?_
      refine W.lcmp hx hb dL_law_1140 ?_
      refine z_top (x' := 0) (z_lc0 _) ?_
      refine lv_if_eq (tgt := 1146) hx hb dL_law_1141 (by decide) (fun _ => ?_) (fun h9 => absurd rfl h9)
      refine lv_goto (tgt := 1765) hx hb dL_law_1146 (by decide) ?_
      exact W.widen (k := cells + 1) (n := slots + 12) (by omega) (by omega) (kk c9 G9 D9 K9 G2 D2 o2 H locs d0 ls hG9 hW9 hP hD hS hd0 (lv_sub hl [2, 3, 4, 5, 6] rfl))

set_option maxHeartbeats 4000000 in
set_option maxRecDepth 100000 in
theorem lc_21 {p : Program} {l : Launch} {e : Env} {s : State} {m : MethodId} {below : List Frame} {meth : Method} {c : Code} {b L : Nat} {xs : Nat → Int32} {Dg : va_G} {cI cL : ClassId} {mo : Nat → Nat} {h : Nat} {na ta : Nat → Nat} {ob i cells slots : Nat} (C0 : z_CX p l s m meth c b L xs Dg cI cL) (hi : 4 * i + 4 ≤ L) (hcs : cells + 1 ≤ 601024 ∧ slots + 12 ≤ 7293034) (kk : z_Go p l e s m below meth c b Dg cI cL mo h na ta ob 1765 i (cells + 1) (slots + 12)) : z_Go p l e s m below meth c b Dg cI cL mo h na ta ob 1149 i cells slots := by
  obtain ⟨hx, hb, hr, hml, hown0, hts0, hXs0, hbl, hlk, hX0, hL, hst⟩ := C0
  obtain ⟨hc1, hc2⟩ := hcs
  intro th G D K G1 D1 o H locs d0 ls hG hW hP hD hS hd0 hl
  have htc : z_tc G ≤ 60 := hG.2.2.2.2.2.1
  have hbc : z_bc G ≤ 6 := hG.2.2.2.2.1
  have hts : ∀ w ∈ wsL_law, w.before #[Value.ref b] (s.setDrawn d0) = true := dr_words hts0 d0
  have hown : (s.setDrawn d0).vm.findClass RL = some m.cls := hown0
  have hXs : va_X b L xs (s.setDrawn d0) s.heap := hXs0
  have hX : z_X Dg cI cL (s.setDrawn d0) H := (z_X.at hX0 hS).same rfl
  have hK := hX.1.1
  have hN := hX.1.2
  have hbA : ¬ (fun q : Nat => s.heap.size ≤ q) b := Nat.not_le.mpr hbl
  have hA : ∀ q : Nat, s.heap.size ≤ q → (fun q : Nat => s.heap.size ≤ q) q := fun _ h => h
  have hf0 : cells ≤ room_1.cells ∧ slots ≤ room_1.slots := ⟨(show cells ≤ 601024 by omega), (show slots ≤ 7293034 by omega)⟩
  have hf1 : cells + 1 ≤ room_1.cells ∧ slots + 6 ≤ room_1.slots := ⟨(show cells + 1 ≤ 601024 by omega), (show slots + 6 ≤ 7293034 by omega)⟩
  have hf2 : cells + 1 ≤ room_1.cells ∧ slots + 12 ≤ room_1.slots := ⟨(show cells + 1 ≤ 601024 by omega), (show slots + 12 ≤ 7293034 by omega)⟩
  refine lv_aload_n hx hb dL_law_1149 rfl (lv_at hl 3 rfl) ?_
  refine lv_aload_n hx hb dL_law_1150 rfl (lv_at hl 4 rfl) ?_
  refine lv_iload hx hb dL_law_1151 (lv_at hl 0 rfl) ?_
  refine lv_iconst (v := nI 1) hx hb dL_law_1153 (by decide) ?_
  refine lv_iadd hx hb dL_law_1154 ?_
  refine z_top (x' := nI (4 * i + 1)) (nI_add _ _) ?_
  refine z_sld hx hb hXs hbl hbA hS (by omega) (by omega) dL_law_1155 ?_
  refine lv_aload_n hx hb dL_law_1156 rfl (lv_at hl 1 rfl) ?_
  obtain ⟨c9, G9, D9, v9, hG9, hW9, hM1, hM2⟩ := z_op_swelledOf l hst Dg cI cL h na ta ob mo G D (xs (4 * i + 1)) hG hW
  refine z_lS (As := [.ref h, .int (xs (4 * i + 1)), .ref ob]) [] (z_mW cI mo th G D K) hx hb hml hown hts (hM1 G1 D1 o) gL_law_L_swelledOf rfl kdS_L_swelledOf ⟨(Nat.le_of_ble_eq_true rfl), (Nat.le_of_ble_eq_true rfl)⟩ hX hP hD hS rfl hl.1 rfl (Nat.le_of_ble_eq_true rfl) dL_law_1157 hf1 (fun o9 w9 H locs hPo hP hD hS => ?_)
  obtain ⟨rfl, G2, D2, o2, rfl, ho⟩ := hPo
  have hX : z_X Dg cI cL (s.setDrawn d0) H := (z_X.at hX0 hS).same rfl
  obtain ⟨K9, hM3⟩ := hM2 th K
  refine lv_istore (lv' := [(5, .int c9), (4, .int (nI (4 * i))), (3, .ref ob), (2, .ref (mo 0)), (1, .ref h), (0, .ref b)]) hx hb dL_law_1160 hl (by decide) rfl (fun ls hl => ?_)
  refine lv_aload_n hx hb dL_law_1162 rfl (lv_at hl 3 rfl) ?_
  refine lv_aload_n hx hb dL_law_1163 rfl (lv_at hl 5 rfl) ?_
  refine lv_iload hx hb dL_law_1164 (lv_at hl 1 rfl) ?_
  refine lv_iconst (v := nI 1) hx hb dL_law_1166 (by decide) ?_
  refine lv_iadd hx hb dL_law_1167 ?_
  refine z_top (x' := nI (4 * i + 1)) (nI_add _ _) ?_
  refine z_sld hx hb hXs hbl hbA hS (by omega) (by omega) dL_law_1168 ?_
  refine z_wBi (v := v9) [] [] (z_oW cI cL h na ta ob G9 D9 G2 D2 o2) 0 hx hb hml hown hts hM3 gL_law_X3_swelledOf rfl kd_X3_swelledOf ⟨(Nat.le_of_ble_eq_true rfl), (Nat.le_of_ble_eq_true rfl)⟩ hK hN hP hD hS rfl rfl rfl rfl rfl hl.1 rfl (Nat.le_of_ble_eq_true rfl) dL_law_1169 hf1 (fun H locs hP hD hS => ?_)
  have hP : va_P Dg vwCl (z_Lw cI cL mo h na ta ob c9 G9 D9 K9 G2 D2 o2) H := hP
  have hD : va_D _ (z_Lw cI cL mo h na ta ob c9 G9 D9 K9 G2 D2 o2) := hD
  refine lv_istore (lv' := [(6, .int v9), (5, .int c9), (4, .int (nI (4 * i))), (3, .ref ob), (2, .ref (mo 0)), (1, .ref h), (0, .ref b)]) hx hb dL_law_1172 hl (by decide) rfl (fun ls hl => ?_)
  refine lv_aload_n hx hb dL_law_1174 rfl (lv_at hl 4 rfl) ?_
  refine z_rVi (v := c9) [] hx hb hml hown hts (m_X3_thrown l Dg cI mo c9 G9 D9 K9) gL_law_X3_thrown rfl kd_X3_thrown ⟨(Nat.le_of_ble_eq_true rfl), (Nat.le_of_ble_eq_true rfl)⟩ hK hN (z_Pl hP) rfl rfl rfl rfl hl.1 rfl (Nat.le_of_ble_eq_true rfl) dL_law_1175 hf1 ?_
  refine lv_iload hx hb dL_law_1178 (lv_at hl 1 rfl) ?_
  refine lv_icmp_eq (tgt := 1185) hx hb dL_law_1180 (by decide) (fun _ => ?_) (fun h9 => absurd rfl h9)
  refine lv_iload hx hb dL_law_1185 (lv_at hl 1 rfl) ?_
  refine lv_if_ne (tgt := 1202) hx hb dL_law_1187 (by decide) (fun _ => ?_) (fun hz => ?_)
  · skip
    refine lv_goto (tgt := 1765) hx hb dL_law_1202 (by decide) ?_
    exact W.widen (k := cells + 1) (n := slots + 12) (by omega) (by omega) (kk c9 G9 D9 K9 G2 D2 o2 H locs d0 ls hG9 hW9 hP hD hS hd0 (lv_sub hl [2, 3, 4, 5, 6] rfl))
  · skip
    refine lv_aload_n hx hb dL_law_1190 rfl (lv_at hl 3 rfl) ?_
    refine lv_iconst (v := nI 0) hx hb dL_law_1191 (by decide) ?_
    refine va_lald hx hb hX.2.1 hP 47 0 rfl rfl (vp_in_nI (by decide) (by decide)) dL_law_1192 ?_
    refine z_topl (x' := (v9).toInt64) (ho hz) ?_
    refine lv_iload hx hb dL_law_1193 (lv_at hl 0 rfl) ?_
    refine lv_i2l (v := Int32.toInt64 v9) hx hb dL_law_1195 rfl ?_
    refine W.lcmp hx hb dL_law_1196 ?_
    refine z_top (x' := 0) (z_lc0 _) ?_
    refine lv_if_eq (tgt := 1202) hx hb dL_law_1197 (by decide) (fun _ => ?_) (fun h9 => absurd rfl h9)
    refine lv_goto (tgt := 1765) hx hb dL_law_1202 (by decide) ?_
    exact W.widen (k := cells + 1) (n := slots + 12) (by omega) (by omega) (kk c9 G9 D9 K9 G2 D2 o2 H locs d0 ls hG9 hW9 hP hD hS hd0 (lv_sub hl [2, 3, 4, 5, 6] rfl))

set_option maxHeartbeats 4000000 in
set_option maxRecDepth 100000 in
theorem lc_22 {p : Program} {l : Launch} {e : Env} {s : State} {m : MethodId} {below : List Frame} {meth : Method} {c : Code} {b L : Nat} {xs : Nat → Int32} {Dg : va_G} {cI cL : ClassId} {mo : Nat → Nat} {h : Nat} {na ta : Nat → Nat} {ob i cells slots : Nat} (C0 : z_CX p l s m meth c b L xs Dg cI cL) (hi : 4 * i + 4 ≤ L) (hcs : cells + 1 ≤ 601024 ∧ slots + 12 ≤ 7293034) (kk : z_Go p l e s m below meth c b Dg cI cL mo h na ta ob 1765 i (cells + 1) (slots + 12)) : z_Go p l e s m below meth c b Dg cI cL mo h na ta ob 1205 i cells slots := by
  obtain ⟨hx, hb, hr, hml, hown0, hts0, hXs0, hbl, hlk, hX0, hL, hst⟩ := C0
  obtain ⟨hc1, hc2⟩ := hcs
  intro th G D K G1 D1 o H locs d0 ls hG hW hP hD hS hd0 hl
  have htc : z_tc G ≤ 60 := hG.2.2.2.2.2.1
  have hbc : z_bc G ≤ 6 := hG.2.2.2.2.1
  have hts : ∀ w ∈ wsL_law, w.before #[Value.ref b] (s.setDrawn d0) = true := dr_words hts0 d0
  have hown : (s.setDrawn d0).vm.findClass RL = some m.cls := hown0
  have hXs : va_X b L xs (s.setDrawn d0) s.heap := hXs0
  have hX : z_X Dg cI cL (s.setDrawn d0) H := (z_X.at hX0 hS).same rfl
  have hK := hX.1.1
  have hN := hX.1.2
  have hbA : ¬ (fun q : Nat => s.heap.size ≤ q) b := Nat.not_le.mpr hbl
  have hA : ∀ q : Nat, s.heap.size ≤ q → (fun q : Nat => s.heap.size ≤ q) q := fun _ h => h
  have hf0 : cells ≤ room_1.cells ∧ slots ≤ room_1.slots := ⟨(show cells ≤ 601024 by omega), (show slots ≤ 7293034 by omega)⟩
  have hf1 : cells + 1 ≤ room_1.cells ∧ slots + 6 ≤ room_1.slots := ⟨(show cells + 1 ≤ 601024 by omega), (show slots + 6 ≤ 7293034 by omega)⟩
  have hf2 : cells + 1 ≤ room_1.cells ∧ slots + 12 ≤ room_1.slots := ⟨(show cells + 1 ≤ 601024 by omega), (show slots + 12 ≤ 7293034 by omega)⟩
  refine lv_aload_n hx hb dL_law_1205 rfl (lv_at hl 3 rfl) ?_
  refine lv_aload_n hx hb dL_law_1206 rfl (lv_at hl 4 rfl) ?_
  refine lv_iload hx hb dL_law_1207 (lv_at hl 0 rfl) ?_
  refine lv_iconst (v := nI 1) hx hb dL_law_1209 (by decide) ?_
  refine lv_iadd hx hb dL_law_1210 ?_
  refine z_top (x' := nI (4 * i + 1)) (nI_add _ _) ?_
  refine z_sld hx hb hXs hbl hbA hS (by omega) (by omega) dL_law_1211 ?_
  refine lv_aload_n hx hb dL_law_1212 rfl (lv_at hl 1 rfl) ?_
  obtain ⟨c9, G9, D9, v9, hG9, hW9, hM1, hM2⟩ := z_op_leftOf l hst Dg cI cL h na ta ob mo G D (xs (4 * i + 1)) hG hW
  refine z_lS (As := [.ref h, .int (xs (4 * i + 1)), .ref ob]) [] (z_mW cI mo th G D K) hx hb hml hown hts (hM1 G1 D1 o) gL_law_L_leftOf rfl kdS_L_leftOf ⟨(Nat.le_of_ble_eq_true rfl), (Nat.le_of_ble_eq_true rfl)⟩ hX hP hD hS rfl hl.1 rfl (Nat.le_of_ble_eq_true rfl) dL_law_1213 hf1 (fun o9 w9 H locs hPo hP hD hS => ?_)
  obtain ⟨rfl, G2, D2, o2, rfl, ho⟩ := hPo
  have hX : z_X Dg cI cL (s.setDrawn d0) H := (z_X.at hX0 hS).same rfl
  obtain ⟨K9, hM3⟩ := hM2 th K
  refine lv_istore (lv' := [(5, .int c9), (4, .int (nI (4 * i))), (3, .ref ob), (2, .ref (mo 0)), (1, .ref h), (0, .ref b)]) hx hb dL_law_1216 hl (by decide) rfl (fun ls hl => ?_)
  refine lv_aload_n hx hb dL_law_1218 rfl (lv_at hl 3 rfl) ?_
  refine lv_aload_n hx hb dL_law_1219 rfl (lv_at hl 5 rfl) ?_
  refine lv_iload hx hb dL_law_1220 (lv_at hl 1 rfl) ?_
  refine lv_iconst (v := nI 1) hx hb dL_law_1222 (by decide) ?_
  refine lv_iadd hx hb dL_law_1223 ?_
  refine z_top (x' := nI (4 * i + 1)) (nI_add _ _) ?_
  refine z_sld hx hb hXs hbl hbA hS (by omega) (by omega) dL_law_1224 ?_
  refine z_wBi (v := v9) [] [] (z_oW cI cL h na ta ob G9 D9 G2 D2 o2) 0 hx hb hml hown hts hM3 gL_law_X3_leftOf rfl kd_X3_leftOf ⟨(Nat.le_of_ble_eq_true rfl), (Nat.le_of_ble_eq_true rfl)⟩ hK hN hP hD hS rfl rfl rfl rfl rfl hl.1 rfl (Nat.le_of_ble_eq_true rfl) dL_law_1225 hf1 (fun H locs hP hD hS => ?_)
  have hP : va_P Dg vwCl (z_Lw cI cL mo h na ta ob c9 G9 D9 K9 G2 D2 o2) H := hP
  have hD : va_D _ (z_Lw cI cL mo h na ta ob c9 G9 D9 K9 G2 D2 o2) := hD
  refine lv_istore (lv' := [(6, .int v9), (5, .int c9), (4, .int (nI (4 * i))), (3, .ref ob), (2, .ref (mo 0)), (1, .ref h), (0, .ref b)]) hx hb dL_law_1228 hl (by decide) rfl (fun ls hl => ?_)
  refine lv_aload_n hx hb dL_law_1230 rfl (lv_at hl 4 rfl) ?_
  refine z_rVi (v := c9) [] hx hb hml hown hts (m_X3_thrown l Dg cI mo c9 G9 D9 K9) gL_law_X3_thrown rfl kd_X3_thrown ⟨(Nat.le_of_ble_eq_true rfl), (Nat.le_of_ble_eq_true rfl)⟩ hK hN (z_Pl hP) rfl rfl rfl rfl hl.1 rfl (Nat.le_of_ble_eq_true rfl) dL_law_1231 hf1 ?_
  refine lv_iload hx hb dL_law_1234 (lv_at hl 1 rfl) ?_
  refine lv_icmp_eq (tgt := 1241) hx hb dL_law_1236 (by decide) (fun _ => ?_) (fun h9 => absurd rfl h9)
  refine lv_iload hx hb dL_law_1241 (lv_at hl 1 rfl) ?_
  refine lv_if_ne (tgt := 1258) hx hb dL_law_1243 (by decide) (fun _ => ?_) (fun hz => ?_)
  · skip
    refine lv_goto (tgt := 1765) hx hb dL_law_1258 (by decide) ?_
    exact W.widen (k := cells + 1) (n := slots + 12) (by omega) (by omega) (kk c9 G9 D9 K9 G2 D2 o2 H locs d0 ls hG9 hW9 hP hD hS hd0 (lv_sub hl [2, 3, 4, 5, 6] rfl))
  · skip
    refine lv_aload_n hx hb dL_law_1246 rfl (lv_at hl 3 rfl) ?_
    refine lv_iconst (v := nI 0) hx hb dL_law_1247 (by decide) ?_
    refine va_lald hx hb hX.2.1 hP 47 0 rfl rfl (vp_in_nI (by decide) (by decide)) dL_law_1248 ?_
    refine z_topl (x' := (v9).toInt64) (ho hz) ?_
    refine lv_iload hx hb dL_law_1249 (lv_at hl 0 rfl) ?_
    refine lv_i2l (v := Int32.toInt64 v9) hx hb dL_law_1251 rfl ?_
    refine W.lcmp hx hb dL_law_1252 ?_
    refine z_top (x' := 0) (z_lc0 _) ?_
    refine lv_if_eq (tgt := 1258) hx hb dL_law_1253 (by decide) (fun _ => ?_) (fun h9 => absurd rfl h9)
    refine lv_goto (tgt := 1765) hx hb dL_law_1258 (by decide) ?_
    exact W.widen (k := cells + 1) (n := slots + 12) (by omega) (by omega) (kk c9 G9 D9 K9 G2 D2 o2 H locs d0 ls hG9 hW9 hP hD hS hd0 (lv_sub hl [2, 3, 4, 5, 6] rfl))

set_option maxHeartbeats 4000000 in
set_option maxRecDepth 100000 in
theorem lc_23 {p : Program} {l : Launch} {e : Env} {s : State} {m : MethodId} {below : List Frame} {meth : Method} {c : Code} {b L : Nat} {xs : Nat → Int32} {Dg : va_G} {cI cL : ClassId} {mo : Nat → Nat} {h : Nat} {na ta : Nat → Nat} {ob i cells slots : Nat} (C0 : z_CX p l s m meth c b L xs Dg cI cL) (hi : 4 * i + 4 ≤ L) (hcs : cells + 1 ≤ 601024 ∧ slots + 12 ≤ 7293034) (kk : z_Go p l e s m below meth c b Dg cI cL mo h na ta ob 1765 i (cells + 1) (slots + 12)) : z_Go p l e s m below meth c b Dg cI cL mo h na ta ob 1261 i cells slots := by
  obtain ⟨hx, hb, hr, hml, hown0, hts0, hXs0, hbl, hlk, hX0, hL, hst⟩ := C0
  obtain ⟨hc1, hc2⟩ := hcs
  intro th G D K G1 D1 o H locs d0 ls hG hW hP hD hS hd0 hl
  have htc : z_tc G ≤ 60 := hG.2.2.2.2.2.1
  have hbc : z_bc G ≤ 6 := hG.2.2.2.2.1
  have hts : ∀ w ∈ wsL_law, w.before #[Value.ref b] (s.setDrawn d0) = true := dr_words hts0 d0
  have hown : (s.setDrawn d0).vm.findClass RL = some m.cls := hown0
  have hXs : va_X b L xs (s.setDrawn d0) s.heap := hXs0
  have hX : z_X Dg cI cL (s.setDrawn d0) H := (z_X.at hX0 hS).same rfl
  have hK := hX.1.1
  have hN := hX.1.2
  have hbA : ¬ (fun q : Nat => s.heap.size ≤ q) b := Nat.not_le.mpr hbl
  have hA : ∀ q : Nat, s.heap.size ≤ q → (fun q : Nat => s.heap.size ≤ q) q := fun _ h => h
  have hf0 : cells ≤ room_1.cells ∧ slots ≤ room_1.slots := ⟨(show cells ≤ 601024 by omega), (show slots ≤ 7293034 by omega)⟩
  have hf1 : cells + 1 ≤ room_1.cells ∧ slots + 6 ≤ room_1.slots := ⟨(show cells + 1 ≤ 601024 by omega), (show slots + 6 ≤ 7293034 by omega)⟩
  have hf2 : cells + 1 ≤ room_1.cells ∧ slots + 12 ≤ room_1.slots := ⟨(show cells + 1 ≤ 601024 by omega), (show slots + 12 ≤ 7293034 by omega)⟩
  refine lv_aload_n hx hb dL_law_1261 rfl (lv_at hl 3 rfl) ?_
  refine lv_aload_n hx hb dL_law_1262 rfl (lv_at hl 4 rfl) ?_
  refine lv_iload hx hb dL_law_1263 (lv_at hl 0 rfl) ?_
  refine lv_iconst (v := nI 1) hx hb dL_law_1265 (by decide) ?_
  refine lv_iadd hx hb dL_law_1266 ?_
  refine z_top (x' := nI (4 * i + 1)) (nI_add _ _) ?_
  refine z_sld hx hb hXs hbl hbA hS (by omega) (by omega) dL_law_1267 ?_
  refine lv_aload_n hx hb dL_law_1268 rfl (lv_at hl 1 rfl) ?_
  obtain ⟨c9, G9, D9, b9, hG9, hW9, hM1, hM2⟩ := z_op_isRecalled l hst Dg cI cL h na ta ob mo G D (xs (4 * i + 1)) hG hW
  refine z_lS (As := [.ref h, .int (xs (4 * i + 1)), .ref ob]) [] (z_mW cI mo th G D K) hx hb hml hown hts (hM1 G1 D1 o) gL_law_L_isRecalled rfl kdS_L_isRecalled ⟨(Nat.le_of_ble_eq_true rfl), (Nat.le_of_ble_eq_true rfl)⟩ hX hP hD hS rfl hl.1 rfl (Nat.le_of_ble_eq_true rfl) dL_law_1269 hf1 (fun o9 w9 H locs hPo hP hD hS => ?_)
  obtain ⟨rfl, G2, D2, o2, rfl, ho⟩ := hPo
  have hX : z_X Dg cI cL (s.setDrawn d0) H := (z_X.at hX0 hS).same rfl
  obtain ⟨K9, hM3⟩ := hM2 th K
  refine lv_istore (lv' := [(5, .int c9), (4, .int (nI (4 * i))), (3, .ref ob), (2, .ref (mo 0)), (1, .ref h), (0, .ref b)]) hx hb dL_law_1272 hl (by decide) rfl (fun ls hl => ?_)
  refine lv_aload_n hx hb dL_law_1274 rfl (lv_at hl 3 rfl) ?_
  refine lv_aload_n hx hb dL_law_1275 rfl (lv_at hl 5 rfl) ?_
  refine lv_iload hx hb dL_law_1276 (lv_at hl 1 rfl) ?_
  refine lv_iconst (v := nI 1) hx hb dL_law_1278 (by decide) ?_
  refine lv_iadd hx hb dL_law_1279 ?_
  refine z_top (x' := nI (4 * i + 1)) (nI_add _ _) ?_
  refine z_sld hx hb hXs hbl hbA hS (by omega) (by omega) dL_law_1280 ?_
  refine z_wBi (v := z_bI b9) [] [] (z_oW cI cL h na ta ob G9 D9 G2 D2 o2) 0 hx hb hml hown hts hM3 gL_law_X3_isRecalled rfl kd_X3_isRecalled ⟨(Nat.le_of_ble_eq_true rfl), (Nat.le_of_ble_eq_true rfl)⟩ hK hN hP hD hS rfl rfl rfl rfl rfl hl.1 rfl (Nat.le_of_ble_eq_true rfl) dL_law_1281 hf1 (fun H locs hP hD hS => ?_)
  have hP : va_P Dg vwCl (z_Lw cI cL mo h na ta ob c9 G9 D9 K9 G2 D2 o2) H := hP
  have hD : va_D _ (z_Lw cI cL mo h na ta ob c9 G9 D9 K9 G2 D2 o2) := hD
  refine lv_istore (lv' := [(6, .int (z_bI b9)), (5, .int c9), (4, .int (nI (4 * i))), (3, .ref ob), (2, .ref (mo 0)), (1, .ref h), (0, .ref b)]) hx hb dL_law_1284 hl (by decide) rfl (fun ls hl => ?_)
  refine lv_aload_n hx hb dL_law_1286 rfl (lv_at hl 4 rfl) ?_
  refine z_rVi (v := c9) [] hx hb hml hown hts (m_X3_thrown l Dg cI mo c9 G9 D9 K9) gL_law_X3_thrown rfl kd_X3_thrown ⟨(Nat.le_of_ble_eq_true rfl), (Nat.le_of_ble_eq_true rfl)⟩ hK hN (z_Pl hP) rfl rfl rfl rfl hl.1 rfl (Nat.le_of_ble_eq_true rfl) dL_law_1287 hf1 ?_
  refine lv_iload hx hb dL_law_1290 (lv_at hl 1 rfl) ?_
  refine lv_icmp_eq (tgt := 1297) hx hb dL_law_1292 (by decide) (fun _ => ?_) (fun h9 => absurd rfl h9)
  refine lv_iload hx hb dL_law_1297 (lv_at hl 1 rfl) ?_
  refine lv_if_ne (tgt := 1321) hx hb dL_law_1299 (by decide) (fun _ => ?_) (fun hz => ?_)
  · skip
    refine lv_goto (tgt := 1765) hx hb dL_law_1321 (by decide) ?_
    exact W.widen (k := cells + 1) (n := slots + 12) (by omega) (by omega) (kk c9 G9 D9 K9 G2 D2 o2 H locs d0 ls hG9 hW9 hP hD hS hd0 (lv_sub hl [2, 3, 4, 5, 6] rfl))
  · skip
    refine lv_aload_n hx hb dL_law_1302 rfl (lv_at hl 3 rfl) ?_
    refine lv_iconst (v := nI 0) hx hb dL_law_1303 (by decide) ?_
    refine va_lald hx hb hX.2.1 hP 47 0 rfl rfl (vp_in_nI (by decide) (by decide)) dL_law_1304 ?_
    refine z_topl (x' := (z_bI b9).toInt64) (ho hz) ?_
    refine lv_iload hx hb dL_law_1305 (lv_at hl 0 rfl) ?_
    refine lv_if_eq (tgt := 1314) hx hb dL_law_1307 (by decide) (fun c1307 => ?_) (fun c1307 => ?_)
    · skip
      refine lv_lconst (v := 0) hx hb dL_law_1314 (by decide) ?_
      refine z_topl (x' := (z_bI b9).toInt64) (by rw [z_bI0 c1307]; rfl) ?_
      refine W.lcmp hx hb dL_law_1315 ?_
      refine z_top (x' := 0) (z_lc0 _) ?_
      refine lv_if_eq (tgt := 1321) hx hb dL_law_1316 (by decide) (fun _ => ?_) (fun h9 => absurd rfl h9)
      refine lv_goto (tgt := 1765) hx hb dL_law_1321 (by decide) ?_
      exact W.widen (k := cells + 1) (n := slots + 12) (by omega) (by omega) (kk c9 G9 D9 K9 G2 D2 o2 H locs d0 ls hG9 hW9 hP hD hS hd0 (lv_sub hl [2, 3, 4, 5, 6] rfl))
    · skip
      refine lv_lconst (v := 1) hx hb dL_law_1310 (by decide) ?_
      refine lv_goto (tgt := 1315) hx hb dL_law_1311 (by decide) ?_
      refine z_topl (x' := (z_bI b9).toInt64) (by rw [z_bI1 c1307]; rfl) ?_
      refine W.lcmp hx hb dL_law_1315 ?_
      refine z_top (x' := 0) (z_lc0 _) ?_
      refine lv_if_eq (tgt := 1321) hx hb dL_law_1316 (by decide) (fun _ => ?_) (fun h9 => absurd rfl h9)
      refine lv_goto (tgt := 1765) hx hb dL_law_1321 (by decide) ?_
      exact W.widen (k := cells + 1) (n := slots + 12) (by omega) (by omega) (kk c9 G9 D9 K9 G2 D2 o2 H locs d0 ls hG9 hW9 hP hD hS hd0 (lv_sub hl [2, 3, 4, 5, 6] rfl))

set_option maxHeartbeats 4000000 in
set_option maxRecDepth 100000 in
theorem lc_24 {p : Program} {l : Launch} {e : Env} {s : State} {m : MethodId} {below : List Frame} {meth : Method} {c : Code} {b L : Nat} {xs : Nat → Int32} {Dg : va_G} {cI cL : ClassId} {mo : Nat → Nat} {h : Nat} {na ta : Nat → Nat} {ob i cells slots : Nat} (C0 : z_CX p l s m meth c b L xs Dg cI cL) (hi : 4 * i + 4 ≤ L) (hcs : cells + 1 ≤ 601024 ∧ slots + 12 ≤ 7293034) (kk : z_Go p l e s m below meth c b Dg cI cL mo h na ta ob 1765 i (cells + 1) (slots + 12)) : z_Go p l e s m below meth c b Dg cI cL mo h na ta ob 1324 i cells slots := by
  obtain ⟨hx, hb, hr, hml, hown0, hts0, hXs0, hbl, hlk, hX0, hL, hst⟩ := C0
  obtain ⟨hc1, hc2⟩ := hcs
  intro th G D K G1 D1 o H locs d0 ls hG hW hP hD hS hd0 hl
  have htc : z_tc G ≤ 60 := hG.2.2.2.2.2.1
  have hbc : z_bc G ≤ 6 := hG.2.2.2.2.1
  have hts : ∀ w ∈ wsL_law, w.before #[Value.ref b] (s.setDrawn d0) = true := dr_words hts0 d0
  have hown : (s.setDrawn d0).vm.findClass RL = some m.cls := hown0
  have hXs : va_X b L xs (s.setDrawn d0) s.heap := hXs0
  have hX : z_X Dg cI cL (s.setDrawn d0) H := (z_X.at hX0 hS).same rfl
  have hK := hX.1.1
  have hN := hX.1.2
  have hbA : ¬ (fun q : Nat => s.heap.size ≤ q) b := Nat.not_le.mpr hbl
  have hA : ∀ q : Nat, s.heap.size ≤ q → (fun q : Nat => s.heap.size ≤ q) q := fun _ h => h
  have hf0 : cells ≤ room_1.cells ∧ slots ≤ room_1.slots := ⟨(show cells ≤ 601024 by omega), (show slots ≤ 7293034 by omega)⟩
  have hf1 : cells + 1 ≤ room_1.cells ∧ slots + 6 ≤ room_1.slots := ⟨(show cells + 1 ≤ 601024 by omega), (show slots + 6 ≤ 7293034 by omega)⟩
  have hf2 : cells + 1 ≤ room_1.cells ∧ slots + 12 ≤ room_1.slots := ⟨(show cells + 1 ≤ 601024 by omega), (show slots + 12 ≤ 7293034 by omega)⟩
  refine lv_aload_n hx hb dL_law_1324 rfl (lv_at hl 3 rfl) ?_
  refine lv_aload_n hx hb dL_law_1325 rfl (lv_at hl 4 rfl) ?_
  refine lv_iload hx hb dL_law_1326 (lv_at hl 0 rfl) ?_
  refine lv_iconst (v := nI 1) hx hb dL_law_1328 (by decide) ?_
  refine lv_iadd hx hb dL_law_1329 ?_
  refine z_top (x' := nI (4 * i + 1)) (nI_add _ _) ?_
  refine z_sld hx hb hXs hbl hbA hS (by omega) (by omega) dL_law_1330 ?_
  refine lv_aload_n hx hb dL_law_1331 rfl (lv_at hl 1 rfl) ?_
  obtain ⟨c9, G9, D9, v9, hG9, hW9, hM1, hM2⟩ := z_op_first l hst Dg cI cL h na ta ob mo G D (xs (4 * i + 1)) hG hW
  refine z_lS (As := [.ref h, .int (xs (4 * i + 1)), .ref ob]) [] (z_mW cI mo th G D K) hx hb hml hown hts (hM1 G1 D1 o) gL_law_L_first rfl kdS_L_first ⟨(Nat.le_of_ble_eq_true rfl), (Nat.le_of_ble_eq_true rfl)⟩ hX hP hD hS rfl hl.1 rfl (Nat.le_of_ble_eq_true rfl) dL_law_1332 hf1 (fun o9 w9 H locs hPo hP hD hS => ?_)
  obtain ⟨rfl, G2, D2, o2, rfl, ho⟩ := hPo
  have hX : z_X Dg cI cL (s.setDrawn d0) H := (z_X.at hX0 hS).same rfl
  obtain ⟨K9, hM3⟩ := hM2 th K
  refine lv_istore (lv' := [(5, .int c9), (4, .int (nI (4 * i))), (3, .ref ob), (2, .ref (mo 0)), (1, .ref h), (0, .ref b)]) hx hb dL_law_1335 hl (by decide) rfl (fun ls hl => ?_)
  refine lv_aload_n hx hb dL_law_1337 rfl (lv_at hl 3 rfl) ?_
  refine lv_aload_n hx hb dL_law_1338 rfl (lv_at hl 5 rfl) ?_
  refine lv_iload hx hb dL_law_1339 (lv_at hl 1 rfl) ?_
  refine lv_iconst (v := nI 1) hx hb dL_law_1341 (by decide) ?_
  refine lv_iadd hx hb dL_law_1342 ?_
  refine z_top (x' := nI (4 * i + 1)) (nI_add _ _) ?_
  refine z_sld hx hb hXs hbl hbA hS (by omega) (by omega) dL_law_1343 ?_
  refine z_wBi (v := v9) [] [] (z_oW cI cL h na ta ob G9 D9 G2 D2 o2) 0 hx hb hml hown hts hM3 gL_law_X3_first rfl kd_X3_first ⟨(Nat.le_of_ble_eq_true rfl), (Nat.le_of_ble_eq_true rfl)⟩ hK hN hP hD hS rfl rfl rfl rfl rfl hl.1 rfl (Nat.le_of_ble_eq_true rfl) dL_law_1344 hf1 (fun H locs hP hD hS => ?_)
  have hP : va_P Dg vwCl (z_Lw cI cL mo h na ta ob c9 G9 D9 K9 G2 D2 o2) H := hP
  have hD : va_D _ (z_Lw cI cL mo h na ta ob c9 G9 D9 K9 G2 D2 o2) := hD
  refine lv_istore (lv' := [(6, .int v9), (5, .int c9), (4, .int (nI (4 * i))), (3, .ref ob), (2, .ref (mo 0)), (1, .ref h), (0, .ref b)]) hx hb dL_law_1347 hl (by decide) rfl (fun ls hl => ?_)
  refine lv_aload_n hx hb dL_law_1349 rfl (lv_at hl 4 rfl) ?_
  refine z_rVi (v := c9) [] hx hb hml hown hts (m_X3_thrown l Dg cI mo c9 G9 D9 K9) gL_law_X3_thrown rfl kd_X3_thrown ⟨(Nat.le_of_ble_eq_true rfl), (Nat.le_of_ble_eq_true rfl)⟩ hK hN (z_Pl hP) rfl rfl rfl rfl hl.1 rfl (Nat.le_of_ble_eq_true rfl) dL_law_1350 hf1 ?_
  refine lv_iload hx hb dL_law_1353 (lv_at hl 1 rfl) ?_
  refine lv_icmp_eq (tgt := 1360) hx hb dL_law_1355 (by decide) (fun _ => ?_) (fun h9 => absurd rfl h9)
  refine lv_iload hx hb dL_law_1360 (lv_at hl 1 rfl) ?_
  refine lv_if_ne (tgt := 1377) hx hb dL_law_1362 (by decide) (fun _ => ?_) (fun hz => ?_)
  · skip
    refine lv_goto (tgt := 1765) hx hb dL_law_1377 (by decide) ?_
    exact W.widen (k := cells + 1) (n := slots + 12) (by omega) (by omega) (kk c9 G9 D9 K9 G2 D2 o2 H locs d0 ls hG9 hW9 hP hD hS hd0 (lv_sub hl [2, 3, 4, 5, 6] rfl))
  · skip
    refine lv_aload_n hx hb dL_law_1365 rfl (lv_at hl 3 rfl) ?_
    refine lv_iconst (v := nI 0) hx hb dL_law_1366 (by decide) ?_
    refine va_lald hx hb hX.2.1 hP 47 0 rfl rfl (vp_in_nI (by decide) (by decide)) dL_law_1367 ?_
    refine z_topl (x' := (v9).toInt64) (ho hz) ?_
    refine lv_iload hx hb dL_law_1368 (lv_at hl 0 rfl) ?_
    refine lv_i2l (v := Int32.toInt64 v9) hx hb dL_law_1370 rfl ?_
    refine W.lcmp hx hb dL_law_1371 ?_
    refine z_top (x' := 0) (z_lc0 _) ?_
    refine lv_if_eq (tgt := 1377) hx hb dL_law_1372 (by decide) (fun _ => ?_) (fun h9 => absurd rfl h9)
    refine lv_goto (tgt := 1765) hx hb dL_law_1377 (by decide) ?_
    exact W.widen (k := cells + 1) (n := slots + 12) (by omega) (by omega) (kk c9 G9 D9 K9 G2 D2 o2 H locs d0 ls hG9 hW9 hP hD hS hd0 (lv_sub hl [2, 3, 4, 5, 6] rfl))

set_option maxHeartbeats 4000000 in
set_option maxRecDepth 100000 in
theorem lc_25 {p : Program} {l : Launch} {e : Env} {s : State} {m : MethodId} {below : List Frame} {meth : Method} {c : Code} {b L : Nat} {xs : Nat → Int32} {Dg : va_G} {cI cL : ClassId} {mo : Nat → Nat} {h : Nat} {na ta : Nat → Nat} {ob i cells slots : Nat} (C0 : z_CX p l s m meth c b L xs Dg cI cL) (hi : 4 * i + 4 ≤ L) (hcs : cells + 1 ≤ 601024 ∧ slots + 12 ≤ 7293034) (kk : z_Go p l e s m below meth c b Dg cI cL mo h na ta ob 1765 i (cells + 1) (slots + 12)) : z_Go p l e s m below meth c b Dg cI cL mo h na ta ob 1380 i cells slots := by
  obtain ⟨hx, hb, hr, hml, hown0, hts0, hXs0, hbl, hlk, hX0, hL, hst⟩ := C0
  obtain ⟨hc1, hc2⟩ := hcs
  intro th G D K G1 D1 o H locs d0 ls hG hW hP hD hS hd0 hl
  have htc : z_tc G ≤ 60 := hG.2.2.2.2.2.1
  have hbc : z_bc G ≤ 6 := hG.2.2.2.2.1
  have hts : ∀ w ∈ wsL_law, w.before #[Value.ref b] (s.setDrawn d0) = true := dr_words hts0 d0
  have hown : (s.setDrawn d0).vm.findClass RL = some m.cls := hown0
  have hXs : va_X b L xs (s.setDrawn d0) s.heap := hXs0
  have hX : z_X Dg cI cL (s.setDrawn d0) H := (z_X.at hX0 hS).same rfl
  have hK := hX.1.1
  have hN := hX.1.2
  have hbA : ¬ (fun q : Nat => s.heap.size ≤ q) b := Nat.not_le.mpr hbl
  have hA : ∀ q : Nat, s.heap.size ≤ q → (fun q : Nat => s.heap.size ≤ q) q := fun _ h => h
  have hf0 : cells ≤ room_1.cells ∧ slots ≤ room_1.slots := ⟨(show cells ≤ 601024 by omega), (show slots ≤ 7293034 by omega)⟩
  have hf1 : cells + 1 ≤ room_1.cells ∧ slots + 6 ≤ room_1.slots := ⟨(show cells + 1 ≤ 601024 by omega), (show slots + 6 ≤ 7293034 by omega)⟩
  have hf2 : cells + 1 ≤ room_1.cells ∧ slots + 12 ≤ room_1.slots := ⟨(show cells + 1 ≤ 601024 by omega), (show slots + 12 ≤ 7293034 by omega)⟩
  refine lv_aload_n hx hb dL_law_1380 rfl (lv_at hl 3 rfl) ?_
  refine lv_aload_n hx hb dL_law_1381 rfl (lv_at hl 4 rfl) ?_
  refine lv_iload hx hb dL_law_1382 (lv_at hl 0 rfl) ?_
  refine lv_iconst (v := nI 1) hx hb dL_law_1384 (by decide) ?_
  refine lv_iadd hx hb dL_law_1385 ?_
  refine z_top (x' := nI (4 * i + 1)) (nI_add _ _) ?_
  refine z_sld hx hb hXs hbl hbA hS (by omega) (by omega) dL_law_1386 ?_
  refine lv_aload_n hx hb dL_law_1387 rfl (lv_at hl 4 rfl) ?_
  refine lv_iload hx hb dL_law_1388 (lv_at hl 0 rfl) ?_
  refine lv_iconst (v := nI 2) hx hb dL_law_1390 (by decide) ?_
  refine lv_iadd hx hb dL_law_1391 ?_
  refine z_top (x' := nI (4 * i + 2)) (nI_add _ _) ?_
  refine z_sld hx hb hXs hbl hbA hS (by omega) (by omega) dL_law_1392 ?_
  refine lv_aload_n hx hb dL_law_1393 rfl (lv_at hl 1 rfl) ?_
  obtain ⟨c9, G9, D9, v9, hG9, hW9, hM1, hM2⟩ := z_op_placeBy l hst Dg cI cL h na ta ob mo G D (xs (4 * i + 1)) (xs (4 * i + 2)) hG hW
  refine z_lS (As := [.ref h, .int (xs (4 * i + 1)), .int (xs (4 * i + 2)), .ref ob]) [] (z_mW cI mo th G D K) hx hb hml hown hts (hM1 G1 D1 o) gL_law_L_placeBy rfl kdS_L_placeBy ⟨(Nat.le_of_ble_eq_true rfl), (Nat.le_of_ble_eq_true rfl)⟩ hX hP hD hS rfl hl.1 rfl (Nat.le_of_ble_eq_true rfl) dL_law_1394 hf1 (fun o9 w9 H locs hPo hP hD hS => ?_)
  obtain ⟨rfl, G2, D2, o2, rfl, ho⟩ := hPo
  have hX : z_X Dg cI cL (s.setDrawn d0) H := (z_X.at hX0 hS).same rfl
  obtain ⟨K9, hM3⟩ := hM2 th K
  refine lv_istore (lv' := [(5, .int c9), (4, .int (nI (4 * i))), (3, .ref ob), (2, .ref (mo 0)), (1, .ref h), (0, .ref b)]) hx hb dL_law_1397 hl (by decide) rfl (fun ls hl => ?_)
  refine lv_aload_n hx hb dL_law_1399 rfl (lv_at hl 3 rfl) ?_
  refine lv_aload_n hx hb dL_law_1400 rfl (lv_at hl 5 rfl) ?_
  refine lv_iload hx hb dL_law_1401 (lv_at hl 1 rfl) ?_
  refine lv_iconst (v := nI 1) hx hb dL_law_1403 (by decide) ?_
  refine lv_iadd hx hb dL_law_1404 ?_
  refine z_top (x' := nI (4 * i + 1)) (nI_add _ _) ?_
  refine z_sld hx hb hXs hbl hbA hS (by omega) (by omega) dL_law_1405 ?_
  refine lv_aload_n hx hb dL_law_1406 rfl (lv_at hl 5 rfl) ?_
  refine lv_iload hx hb dL_law_1407 (lv_at hl 1 rfl) ?_
  refine lv_iconst (v := nI 2) hx hb dL_law_1409 (by decide) ?_
  refine lv_iadd hx hb dL_law_1410 ?_
  refine z_top (x' := nI (4 * i + 2)) (nI_add _ _) ?_
  refine z_sld hx hb hXs hbl hbA hS (by omega) (by omega) dL_law_1411 ?_
  refine z_wBi (v := v9) [] [] (z_oW cI cL h na ta ob G9 D9 G2 D2 o2) 0 hx hb hml hown hts hM3 gL_law_X3_placeBy rfl kd_X3_placeBy ⟨(Nat.le_of_ble_eq_true rfl), (Nat.le_of_ble_eq_true rfl)⟩ hK hN hP hD hS rfl rfl rfl rfl rfl hl.1 rfl (Nat.le_of_ble_eq_true rfl) dL_law_1412 hf1 (fun H locs hP hD hS => ?_)
  have hP : va_P Dg vwCl (z_Lw cI cL mo h na ta ob c9 G9 D9 K9 G2 D2 o2) H := hP
  have hD : va_D _ (z_Lw cI cL mo h na ta ob c9 G9 D9 K9 G2 D2 o2) := hD
  refine lv_istore (lv' := [(6, .int v9), (5, .int c9), (4, .int (nI (4 * i))), (3, .ref ob), (2, .ref (mo 0)), (1, .ref h), (0, .ref b)]) hx hb dL_law_1415 hl (by decide) rfl (fun ls hl => ?_)
  refine lv_aload_n hx hb dL_law_1417 rfl (lv_at hl 4 rfl) ?_
  refine z_rVi (v := c9) [] hx hb hml hown hts (m_X3_thrown l Dg cI mo c9 G9 D9 K9) gL_law_X3_thrown rfl kd_X3_thrown ⟨(Nat.le_of_ble_eq_true rfl), (Nat.le_of_ble_eq_true rfl)⟩ hK hN (z_Pl hP) rfl rfl rfl rfl hl.1 rfl (Nat.le_of_ble_eq_true rfl) dL_law_1418 hf1 ?_
  refine lv_iload hx hb dL_law_1421 (lv_at hl 1 rfl) ?_
  refine lv_icmp_eq (tgt := 1428) hx hb dL_law_1423 (by decide) (fun _ => ?_) (fun h9 => absurd rfl h9)
  refine lv_iload hx hb dL_law_1428 (lv_at hl 1 rfl) ?_
  refine lv_if_ne (tgt := 1445) hx hb dL_law_1430 (by decide) (fun _ => ?_) (fun hz => ?_)
  · skip
    refine lv_goto (tgt := 1765) hx hb dL_law_1445 (by decide) ?_
    exact W.widen (k := cells + 1) (n := slots + 12) (by omega) (by omega) (kk c9 G9 D9 K9 G2 D2 o2 H locs d0 ls hG9 hW9 hP hD hS hd0 (lv_sub hl [2, 3, 4, 5, 6] rfl))
  · skip
    refine lv_aload_n hx hb dL_law_1433 rfl (lv_at hl 3 rfl) ?_
    refine lv_iconst (v := nI 0) hx hb dL_law_1434 (by decide) ?_
    refine va_lald hx hb hX.2.1 hP 47 0 rfl rfl (vp_in_nI (by decide) (by decide)) dL_law_1435 ?_
    refine z_topl (x' := (v9).toInt64) (ho hz) ?_
    refine lv_iload hx hb dL_law_1436 (lv_at hl 0 rfl) ?_
    refine lv_i2l (v := Int32.toInt64 v9) hx hb dL_law_1438 rfl ?_
    refine W.lcmp hx hb dL_law_1439 ?_
    refine z_top (x' := 0) (z_lc0 _) ?_
    refine lv_if_eq (tgt := 1445) hx hb dL_law_1440 (by decide) (fun _ => ?_) (fun h9 => absurd rfl h9)
    refine lv_goto (tgt := 1765) hx hb dL_law_1445 (by decide) ?_
    exact W.widen (k := cells + 1) (n := slots + 12) (by omega) (by omega) (kk c9 G9 D9 K9 G2 D2 o2 H locs d0 ls hG9 hW9 hP hD hS hd0 (lv_sub hl [2, 3, 4, 5, 6] rfl))

set_option maxHeartbeats 4000000 in
set_option maxRecDepth 100000 in
theorem lc_26 {p : Program} {l : Launch} {e : Env} {s : State} {m : MethodId} {below : List Frame} {meth : Method} {c : Code} {b L : Nat} {xs : Nat → Int32} {Dg : va_G} {cI cL : ClassId} {mo : Nat → Nat} {h : Nat} {na ta : Nat → Nat} {ob i cells slots : Nat} (C0 : z_CX p l s m meth c b L xs Dg cI cL) (hi : 4 * i + 4 ≤ L) (hcs : cells + 1 ≤ 601024 ∧ slots + 12 ≤ 7293034) (kk : z_Go p l e s m below meth c b Dg cI cL mo h na ta ob 1765 i (cells + 1) (slots + 12)) : z_Go p l e s m below meth c b Dg cI cL mo h na ta ob 1448 i cells slots := by
  obtain ⟨hx, hb, hr, hml, hown0, hts0, hXs0, hbl, hlk, hX0, hL, hst⟩ := C0
  obtain ⟨hc1, hc2⟩ := hcs
  intro th G D K G1 D1 o H locs d0 ls hG hW hP hD hS hd0 hl
  have htc : z_tc G ≤ 60 := hG.2.2.2.2.2.1
  have hbc : z_bc G ≤ 6 := hG.2.2.2.2.1
  have hts : ∀ w ∈ wsL_law, w.before #[Value.ref b] (s.setDrawn d0) = true := dr_words hts0 d0
  have hown : (s.setDrawn d0).vm.findClass RL = some m.cls := hown0
  have hXs : va_X b L xs (s.setDrawn d0) s.heap := hXs0
  have hX : z_X Dg cI cL (s.setDrawn d0) H := (z_X.at hX0 hS).same rfl
  have hK := hX.1.1
  have hN := hX.1.2
  have hbA : ¬ (fun q : Nat => s.heap.size ≤ q) b := Nat.not_le.mpr hbl
  have hA : ∀ q : Nat, s.heap.size ≤ q → (fun q : Nat => s.heap.size ≤ q) q := fun _ h => h
  have hf0 : cells ≤ room_1.cells ∧ slots ≤ room_1.slots := ⟨(show cells ≤ 601024 by omega), (show slots ≤ 7293034 by omega)⟩
  have hf1 : cells + 1 ≤ room_1.cells ∧ slots + 6 ≤ room_1.slots := ⟨(show cells + 1 ≤ 601024 by omega), (show slots + 6 ≤ 7293034 by omega)⟩
  have hf2 : cells + 1 ≤ room_1.cells ∧ slots + 12 ≤ room_1.slots := ⟨(show cells + 1 ≤ 601024 by omega), (show slots + 12 ≤ 7293034 by omega)⟩
  refine lv_aload_n hx hb dL_law_1448 rfl (lv_at hl 3 rfl) ?_
  refine lv_aload_n hx hb dL_law_1449 rfl (lv_at hl 4 rfl) ?_
  refine lv_iload hx hb dL_law_1450 (lv_at hl 0 rfl) ?_
  refine lv_iconst (v := nI 1) hx hb dL_law_1452 (by decide) ?_
  refine lv_iadd hx hb dL_law_1453 ?_
  refine z_top (x' := nI (4 * i + 1)) (nI_add _ _) ?_
  refine z_sld hx hb hXs hbl hbA hS (by omega) (by omega) dL_law_1454 ?_
  refine lv_aload_n hx hb dL_law_1455 rfl (lv_at hl 1 rfl) ?_
  obtain ⟨c9, G9, D9, v9, hG9, hW9, hM1, hM2⟩ := z_op_daysOf l hst Dg cI cL h na ta ob mo G D (xs (4 * i + 1)) hG hW
  refine z_lS (As := [.ref h, .int (xs (4 * i + 1)), .ref ob]) [] (z_mW cI mo th G D K) hx hb hml hown hts (hM1 G1 D1 o) gL_law_L_daysOf rfl kdS_L_daysOf ⟨(Nat.le_of_ble_eq_true rfl), (Nat.le_of_ble_eq_true rfl)⟩ hX hP hD hS rfl hl.1 rfl (Nat.le_of_ble_eq_true rfl) dL_law_1456 hf1 (fun o9 w9 H locs hPo hP hD hS => ?_)
  obtain ⟨rfl, G2, D2, o2, rfl, ho⟩ := hPo
  have hX : z_X Dg cI cL (s.setDrawn d0) H := (z_X.at hX0 hS).same rfl
  obtain ⟨K9, hM3⟩ := hM2 th K
  refine lv_istore (lv' := [(5, .int c9), (4, .int (nI (4 * i))), (3, .ref ob), (2, .ref (mo 0)), (1, .ref h), (0, .ref b)]) hx hb dL_law_1459 hl (by decide) rfl (fun ls hl => ?_)
  refine lv_aload_n hx hb dL_law_1461 rfl (lv_at hl 3 rfl) ?_
  refine lv_aload_n hx hb dL_law_1462 rfl (lv_at hl 5 rfl) ?_
  refine lv_iload hx hb dL_law_1463 (lv_at hl 1 rfl) ?_
  refine lv_iconst (v := nI 1) hx hb dL_law_1465 (by decide) ?_
  refine lv_iadd hx hb dL_law_1466 ?_
  refine z_top (x' := nI (4 * i + 1)) (nI_add _ _) ?_
  refine z_sld hx hb hXs hbl hbA hS (by omega) (by omega) dL_law_1467 ?_
  refine z_wBi (v := v9) [] [] (z_oW cI cL h na ta ob G9 D9 G2 D2 o2) 0 hx hb hml hown hts hM3 gL_law_X3_daysOf rfl kd_X3_daysOf ⟨(Nat.le_of_ble_eq_true rfl), (Nat.le_of_ble_eq_true rfl)⟩ hK hN hP hD hS rfl rfl rfl rfl rfl hl.1 rfl (Nat.le_of_ble_eq_true rfl) dL_law_1468 hf1 (fun H locs hP hD hS => ?_)
  have hP : va_P Dg vwCl (z_Lw cI cL mo h na ta ob c9 G9 D9 K9 G2 D2 o2) H := hP
  have hD : va_D _ (z_Lw cI cL mo h na ta ob c9 G9 D9 K9 G2 D2 o2) := hD
  refine lv_istore (lv' := [(6, .int v9), (5, .int c9), (4, .int (nI (4 * i))), (3, .ref ob), (2, .ref (mo 0)), (1, .ref h), (0, .ref b)]) hx hb dL_law_1471 hl (by decide) rfl (fun ls hl => ?_)
  refine lv_aload_n hx hb dL_law_1473 rfl (lv_at hl 4 rfl) ?_
  refine z_rVi (v := c9) [] hx hb hml hown hts (m_X3_thrown l Dg cI mo c9 G9 D9 K9) gL_law_X3_thrown rfl kd_X3_thrown ⟨(Nat.le_of_ble_eq_true rfl), (Nat.le_of_ble_eq_true rfl)⟩ hK hN (z_Pl hP) rfl rfl rfl rfl hl.1 rfl (Nat.le_of_ble_eq_true rfl) dL_law_1474 hf1 ?_
  refine lv_iload hx hb dL_law_1477 (lv_at hl 1 rfl) ?_
  refine lv_icmp_eq (tgt := 1484) hx hb dL_law_1479 (by decide) (fun _ => ?_) (fun h9 => absurd rfl h9)
  refine lv_iload hx hb dL_law_1484 (lv_at hl 1 rfl) ?_
  refine lv_if_ne (tgt := 1501) hx hb dL_law_1486 (by decide) (fun _ => ?_) (fun hz => ?_)
  · skip
    refine lv_goto (tgt := 1765) hx hb dL_law_1501 (by decide) ?_
    exact W.widen (k := cells + 1) (n := slots + 12) (by omega) (by omega) (kk c9 G9 D9 K9 G2 D2 o2 H locs d0 ls hG9 hW9 hP hD hS hd0 (lv_sub hl [2, 3, 4, 5, 6] rfl))
  · skip
    refine lv_aload_n hx hb dL_law_1489 rfl (lv_at hl 3 rfl) ?_
    refine lv_iconst (v := nI 0) hx hb dL_law_1490 (by decide) ?_
    refine va_lald hx hb hX.2.1 hP 47 0 rfl rfl (vp_in_nI (by decide) (by decide)) dL_law_1491 ?_
    refine z_topl (x' := (v9).toInt64) (ho hz) ?_
    refine lv_iload hx hb dL_law_1492 (lv_at hl 0 rfl) ?_
    refine lv_i2l (v := Int32.toInt64 v9) hx hb dL_law_1494 rfl ?_
    refine W.lcmp hx hb dL_law_1495 ?_
    refine z_top (x' := 0) (z_lc0 _) ?_
    refine lv_if_eq (tgt := 1501) hx hb dL_law_1496 (by decide) (fun _ => ?_) (fun h9 => absurd rfl h9)
    refine lv_goto (tgt := 1765) hx hb dL_law_1501 (by decide) ?_
    exact W.widen (k := cells + 1) (n := slots + 12) (by omega) (by omega) (kk c9 G9 D9 K9 G2 D2 o2 H locs d0 ls hG9 hW9 hP hD hS hd0 (lv_sub hl [2, 3, 4, 5, 6] rfl))

set_option maxHeartbeats 4000000 in
set_option maxRecDepth 100000 in
theorem lc_27 {p : Program} {l : Launch} {e : Env} {s : State} {m : MethodId} {below : List Frame} {meth : Method} {c : Code} {b L : Nat} {xs : Nat → Int32} {Dg : va_G} {cI cL : ClassId} {mo : Nat → Nat} {h : Nat} {na ta : Nat → Nat} {ob i cells slots : Nat} (C0 : z_CX p l s m meth c b L xs Dg cI cL) (hi : 4 * i + 4 ≤ L) (hcs : cells + 1 ≤ 601024 ∧ slots + 12 ≤ 7293034) (kk : z_Go p l e s m below meth c b Dg cI cL mo h na ta ob 1765 i (cells + 1) (slots + 12)) : z_Go p l e s m below meth c b Dg cI cL mo h na ta ob 1504 i cells slots := by
  obtain ⟨hx, hb, hr, hml, hown0, hts0, hXs0, hbl, hlk, hX0, hL, hst⟩ := C0
  obtain ⟨hc1, hc2⟩ := hcs
  intro th G D K G1 D1 o H locs d0 ls hG hW hP hD hS hd0 hl
  have htc : z_tc G ≤ 60 := hG.2.2.2.2.2.1
  have hbc : z_bc G ≤ 6 := hG.2.2.2.2.1
  have hts : ∀ w ∈ wsL_law, w.before #[Value.ref b] (s.setDrawn d0) = true := dr_words hts0 d0
  have hown : (s.setDrawn d0).vm.findClass RL = some m.cls := hown0
  have hXs : va_X b L xs (s.setDrawn d0) s.heap := hXs0
  have hX : z_X Dg cI cL (s.setDrawn d0) H := (z_X.at hX0 hS).same rfl
  have hK := hX.1.1
  have hN := hX.1.2
  have hbA : ¬ (fun q : Nat => s.heap.size ≤ q) b := Nat.not_le.mpr hbl
  have hA : ∀ q : Nat, s.heap.size ≤ q → (fun q : Nat => s.heap.size ≤ q) q := fun _ h => h
  have hf0 : cells ≤ room_1.cells ∧ slots ≤ room_1.slots := ⟨(show cells ≤ 601024 by omega), (show slots ≤ 7293034 by omega)⟩
  have hf1 : cells + 1 ≤ room_1.cells ∧ slots + 6 ≤ room_1.slots := ⟨(show cells + 1 ≤ 601024 by omega), (show slots + 6 ≤ 7293034 by omega)⟩
  have hf2 : cells + 1 ≤ room_1.cells ∧ slots + 12 ≤ room_1.slots := ⟨(show cells + 1 ≤ 601024 by omega), (show slots + 12 ≤ 7293034 by omega)⟩
  refine lv_aload_n hx hb dL_law_1504 rfl (lv_at hl 3 rfl) ?_
  refine lv_aload_n hx hb dL_law_1505 rfl (lv_at hl 4 rfl) ?_
  refine lv_iload hx hb dL_law_1506 (lv_at hl 0 rfl) ?_
  refine lv_iconst (v := nI 1) hx hb dL_law_1508 (by decide) ?_
  refine lv_iadd hx hb dL_law_1509 ?_
  refine z_top (x' := nI (4 * i + 1)) (nI_add _ _) ?_
  refine z_sld hx hb hXs hbl hbA hS (by omega) (by omega) dL_law_1510 ?_
  refine lv_aload_n hx hb dL_law_1511 rfl (lv_at hl 1 rfl) ?_
  obtain ⟨c9, G9, D9, v9, hG9, hW9, hM1, hM2⟩ := z_op_daysUntilRecalled l hst Dg cI cL h na ta ob mo G D (xs (4 * i + 1)) hG hW
  refine z_lS (As := [.ref h, .int (xs (4 * i + 1)), .ref ob]) [] (z_mW cI mo th G D K) hx hb hml hown hts (hM1 G1 D1 o) gL_law_L_daysUntilRecalled rfl kdS_L_daysUntilRecalled ⟨(Nat.le_of_ble_eq_true rfl), (Nat.le_of_ble_eq_true rfl)⟩ hX hP hD hS rfl hl.1 rfl (Nat.le_of_ble_eq_true rfl) dL_law_1512 hf1 (fun o9 w9 H locs hPo hP hD hS => ?_)
  obtain ⟨rfl, G2, D2, o2, rfl, ho⟩ := hPo
  have hX : z_X Dg cI cL (s.setDrawn d0) H := (z_X.at hX0 hS).same rfl
  obtain ⟨K9, hM3⟩ := hM2 th K
  refine lv_istore (lv' := [(5, .int c9), (4, .int (nI (4 * i))), (3, .ref ob), (2, .ref (mo 0)), (1, .ref h), (0, .ref b)]) hx hb dL_law_1515 hl (by decide) rfl (fun ls hl => ?_)
  refine lv_aload_n hx hb dL_law_1517 rfl (lv_at hl 3 rfl) ?_
  refine lv_aload_n hx hb dL_law_1518 rfl (lv_at hl 5 rfl) ?_
  refine lv_iload hx hb dL_law_1519 (lv_at hl 1 rfl) ?_
  refine lv_iconst (v := nI 1) hx hb dL_law_1521 (by decide) ?_
  refine lv_iadd hx hb dL_law_1522 ?_
  refine z_top (x' := nI (4 * i + 1)) (nI_add _ _) ?_
  refine z_sld hx hb hXs hbl hbA hS (by omega) (by omega) dL_law_1523 ?_
  refine z_wBi (v := v9) [] [] (z_oW cI cL h na ta ob G9 D9 G2 D2 o2) 0 hx hb hml hown hts hM3 gL_law_X3_daysUntilRecalled rfl kd_X3_daysUntilRecalled ⟨(Nat.le_of_ble_eq_true rfl), (Nat.le_of_ble_eq_true rfl)⟩ hK hN hP hD hS rfl rfl rfl rfl rfl hl.1 rfl (Nat.le_of_ble_eq_true rfl) dL_law_1524 hf1 (fun H locs hP hD hS => ?_)
  have hP : va_P Dg vwCl (z_Lw cI cL mo h na ta ob c9 G9 D9 K9 G2 D2 o2) H := hP
  have hD : va_D _ (z_Lw cI cL mo h na ta ob c9 G9 D9 K9 G2 D2 o2) := hD
  refine lv_istore (lv' := [(6, .int v9), (5, .int c9), (4, .int (nI (4 * i))), (3, .ref ob), (2, .ref (mo 0)), (1, .ref h), (0, .ref b)]) hx hb dL_law_1527 hl (by decide) rfl (fun ls hl => ?_)
  refine lv_aload_n hx hb dL_law_1529 rfl (lv_at hl 4 rfl) ?_
  refine z_rVi (v := c9) [] hx hb hml hown hts (m_X3_thrown l Dg cI mo c9 G9 D9 K9) gL_law_X3_thrown rfl kd_X3_thrown ⟨(Nat.le_of_ble_eq_true rfl), (Nat.le_of_ble_eq_true rfl)⟩ hK hN (z_Pl hP) rfl rfl rfl rfl hl.1 rfl (Nat.le_of_ble_eq_true rfl) dL_law_1530 hf1 ?_
  refine lv_iload hx hb dL_law_1533 (lv_at hl 1 rfl) ?_
  refine lv_icmp_eq (tgt := 1540) hx hb dL_law_1535 (by decide) (fun _ => ?_) (fun h9 => absurd rfl h9)
  refine lv_iload hx hb dL_law_1540 (lv_at hl 1 rfl) ?_
  refine lv_if_ne (tgt := 1557) hx hb dL_law_1542 (by decide) (fun _ => ?_) (fun hz => ?_)
  · skip
    refine lv_goto (tgt := 1765) hx hb dL_law_1557 (by decide) ?_
    exact W.widen (k := cells + 1) (n := slots + 12) (by omega) (by omega) (kk c9 G9 D9 K9 G2 D2 o2 H locs d0 ls hG9 hW9 hP hD hS hd0 (lv_sub hl [2, 3, 4, 5, 6] rfl))
  · skip
    refine lv_aload_n hx hb dL_law_1545 rfl (lv_at hl 3 rfl) ?_
    refine lv_iconst (v := nI 0) hx hb dL_law_1546 (by decide) ?_
    refine va_lald hx hb hX.2.1 hP 47 0 rfl rfl (vp_in_nI (by decide) (by decide)) dL_law_1547 ?_
    refine z_topl (x' := (v9).toInt64) (ho hz) ?_
    refine lv_iload hx hb dL_law_1548 (lv_at hl 0 rfl) ?_
    refine lv_i2l (v := Int32.toInt64 v9) hx hb dL_law_1550 rfl ?_
    refine W.lcmp hx hb dL_law_1551 ?_
    refine z_top (x' := 0) (z_lc0 _) ?_
    refine lv_if_eq (tgt := 1557) hx hb dL_law_1552 (by decide) (fun _ => ?_) (fun h9 => absurd rfl h9)
    refine lv_goto (tgt := 1765) hx hb dL_law_1557 (by decide) ?_
    exact W.widen (k := cells + 1) (n := slots + 12) (by omega) (by omega) (kk c9 G9 D9 K9 G2 D2 o2 H locs d0 ls hG9 hW9 hP hD hS hd0 (lv_sub hl [2, 3, 4, 5, 6] rfl))

set_option maxHeartbeats 4000000 in
set_option maxRecDepth 100000 in
theorem lc_28 {p : Program} {l : Launch} {e : Env} {s : State} {m : MethodId} {below : List Frame} {meth : Method} {c : Code} {b L : Nat} {xs : Nat → Int32} {Dg : va_G} {cI cL : ClassId} {mo : Nat → Nat} {h : Nat} {na ta : Nat → Nat} {ob i cells slots : Nat} (C0 : z_CX p l s m meth c b L xs Dg cI cL) (hi : 4 * i + 4 ≤ L) (hcs : cells + 1 ≤ 601024 ∧ slots + 12 ≤ 7293034) (kk : z_Go p l e s m below meth c b Dg cI cL mo h na ta ob 1765 i (cells + 1) (slots + 12)) : z_Go p l e s m below meth c b Dg cI cL mo h na ta ob 1560 i cells slots := by
  obtain ⟨hx, hb, hr, hml, hown0, hts0, hXs0, hbl, hlk, hX0, hL, hst⟩ := C0
  obtain ⟨hc1, hc2⟩ := hcs
  intro th G D K G1 D1 o H locs d0 ls hG hW hP hD hS hd0 hl
  have htc : z_tc G ≤ 60 := hG.2.2.2.2.2.1
  have hbc : z_bc G ≤ 6 := hG.2.2.2.2.1
  have hts : ∀ w ∈ wsL_law, w.before #[Value.ref b] (s.setDrawn d0) = true := dr_words hts0 d0
  have hown : (s.setDrawn d0).vm.findClass RL = some m.cls := hown0
  have hXs : va_X b L xs (s.setDrawn d0) s.heap := hXs0
  have hX : z_X Dg cI cL (s.setDrawn d0) H := (z_X.at hX0 hS).same rfl
  have hK := hX.1.1
  have hN := hX.1.2
  have hbA : ¬ (fun q : Nat => s.heap.size ≤ q) b := Nat.not_le.mpr hbl
  have hA : ∀ q : Nat, s.heap.size ≤ q → (fun q : Nat => s.heap.size ≤ q) q := fun _ h => h
  have hf0 : cells ≤ room_1.cells ∧ slots ≤ room_1.slots := ⟨(show cells ≤ 601024 by omega), (show slots ≤ 7293034 by omega)⟩
  have hf1 : cells + 1 ≤ room_1.cells ∧ slots + 6 ≤ room_1.slots := ⟨(show cells + 1 ≤ 601024 by omega), (show slots + 6 ≤ 7293034 by omega)⟩
  have hf2 : cells + 1 ≤ room_1.cells ∧ slots + 12 ≤ room_1.slots := ⟨(show cells + 1 ≤ 601024 by omega), (show slots + 12 ≤ 7293034 by omega)⟩
  refine lv_aload_n hx hb dL_law_1560 rfl (lv_at hl 3 rfl) ?_
  refine lv_aload_n hx hb dL_law_1561 rfl (lv_at hl 4 rfl) ?_
  refine lv_iload hx hb dL_law_1562 (lv_at hl 0 rfl) ?_
  refine lv_iconst (v := nI 1) hx hb dL_law_1564 (by decide) ?_
  refine lv_iadd hx hb dL_law_1565 ?_
  refine z_top (x' := nI (4 * i + 1)) (nI_add _ _) ?_
  refine z_sld hx hb hXs hbl hbA hS (by omega) (by omega) dL_law_1566 ?_
  refine lv_aload_n hx hb dL_law_1567 rfl (lv_at hl 4 rfl) ?_
  refine lv_iload hx hb dL_law_1568 (lv_at hl 0 rfl) ?_
  refine lv_iconst (v := nI 2) hx hb dL_law_1570 (by decide) ?_
  refine lv_iadd hx hb dL_law_1571 ?_
  refine z_top (x' := nI (4 * i + 2)) (nI_add _ _) ?_
  refine z_sld hx hb hXs hbl hbA hS (by omega) (by omega) dL_law_1572 ?_
  refine lv_aload_n hx hb dL_law_1573 rfl (lv_at hl 1 rfl) ?_
  obtain ⟨c9, G9, D9, v9, hG9, hW9, hM1, hM2⟩ := z_op_lostWith l hst Dg cI cL h na ta ob mo G D (xs (4 * i + 1)) (xs (4 * i + 2)) hG hW
  refine z_lS (As := [.ref h, .int (xs (4 * i + 1)), .int (xs (4 * i + 2)), .ref ob]) [] (z_mW cI mo th G D K) hx hb hml hown hts (hM1 G1 D1 o) gL_law_L_lostWith rfl kdS_L_lostWith ⟨(Nat.le_of_ble_eq_true rfl), (Nat.le_of_ble_eq_true rfl)⟩ hX hP hD hS rfl hl.1 rfl (Nat.le_of_ble_eq_true rfl) dL_law_1574 hf1 (fun o9 w9 H locs hPo hP hD hS => ?_)
  obtain ⟨rfl, G2, D2, o2, rfl, ho⟩ := hPo
  have hX : z_X Dg cI cL (s.setDrawn d0) H := (z_X.at hX0 hS).same rfl
  obtain ⟨K9, hM3⟩ := hM2 th K
  refine lv_istore (lv' := [(5, .int c9), (4, .int (nI (4 * i))), (3, .ref ob), (2, .ref (mo 0)), (1, .ref h), (0, .ref b)]) hx hb dL_law_1577 hl (by decide) rfl (fun ls hl => ?_)
  refine lv_aload_n hx hb dL_law_1579 rfl (lv_at hl 3 rfl) ?_
  refine lv_aload_n hx hb dL_law_1580 rfl (lv_at hl 5 rfl) ?_
  refine lv_iload hx hb dL_law_1581 (lv_at hl 1 rfl) ?_
  refine lv_iconst (v := nI 1) hx hb dL_law_1583 (by decide) ?_
  refine lv_iadd hx hb dL_law_1584 ?_
  refine z_top (x' := nI (4 * i + 1)) (nI_add _ _) ?_
  refine z_sld hx hb hXs hbl hbA hS (by omega) (by omega) dL_law_1585 ?_
  refine lv_aload_n hx hb dL_law_1586 rfl (lv_at hl 5 rfl) ?_
  refine lv_iload hx hb dL_law_1587 (lv_at hl 1 rfl) ?_
  refine lv_iconst (v := nI 2) hx hb dL_law_1589 (by decide) ?_
  refine lv_iadd hx hb dL_law_1590 ?_
  refine z_top (x' := nI (4 * i + 2)) (nI_add _ _) ?_
  refine z_sld hx hb hXs hbl hbA hS (by omega) (by omega) dL_law_1591 ?_
  refine z_wBi (v := v9) [] [] (z_oW cI cL h na ta ob G9 D9 G2 D2 o2) 0 hx hb hml hown hts hM3 gL_law_X3_lostWith rfl kd_X3_lostWith ⟨(Nat.le_of_ble_eq_true rfl), (Nat.le_of_ble_eq_true rfl)⟩ hK hN hP hD hS rfl rfl rfl rfl rfl hl.1 rfl (Nat.le_of_ble_eq_true rfl) dL_law_1592 hf1 (fun H locs hP hD hS => ?_)
  have hP : va_P Dg vwCl (z_Lw cI cL mo h na ta ob c9 G9 D9 K9 G2 D2 o2) H := hP
  have hD : va_D _ (z_Lw cI cL mo h na ta ob c9 G9 D9 K9 G2 D2 o2) := hD
  refine lv_istore (lv' := [(6, .int v9), (5, .int c9), (4, .int (nI (4 * i))), (3, .ref ob), (2, .ref (mo 0)), (1, .ref h), (0, .ref b)]) hx hb dL_law_1595 hl (by decide) rfl (fun ls hl => ?_)
  refine lv_aload_n hx hb dL_law_1597 rfl (lv_at hl 4 rfl) ?_
  refine z_rVi (v := c9) [] hx hb hml hown hts (m_X3_thrown l Dg cI mo c9 G9 D9 K9) gL_law_X3_thrown rfl kd_X3_thrown ⟨(Nat.le_of_ble_eq_true rfl), (Nat.le_of_ble_eq_true rfl)⟩ hK hN (z_Pl hP) rfl rfl rfl rfl hl.1 rfl (Nat.le_of_ble_eq_true rfl) dL_law_1598 hf1 ?_
  refine lv_iload hx hb dL_law_1601 (lv_at hl 1 rfl) ?_
  refine lv_icmp_eq (tgt := 1608) hx hb dL_law_1603 (by decide) (fun _ => ?_) (fun h9 => absurd rfl h9)
  refine lv_iload hx hb dL_law_1608 (lv_at hl 1 rfl) ?_
  refine lv_if_ne (tgt := 1625) hx hb dL_law_1610 (by decide) (fun _ => ?_) (fun hz => ?_)
  · skip
    refine lv_goto (tgt := 1765) hx hb dL_law_1625 (by decide) ?_
    exact W.widen (k := cells + 1) (n := slots + 12) (by omega) (by omega) (kk c9 G9 D9 K9 G2 D2 o2 H locs d0 ls hG9 hW9 hP hD hS hd0 (lv_sub hl [2, 3, 4, 5, 6] rfl))
  · skip
    refine lv_aload_n hx hb dL_law_1613 rfl (lv_at hl 3 rfl) ?_
    refine lv_iconst (v := nI 0) hx hb dL_law_1614 (by decide) ?_
    refine va_lald hx hb hX.2.1 hP 47 0 rfl rfl (vp_in_nI (by decide) (by decide)) dL_law_1615 ?_
    refine z_topl (x' := (v9).toInt64) (ho hz) ?_
    refine lv_iload hx hb dL_law_1616 (lv_at hl 0 rfl) ?_
    refine lv_i2l (v := Int32.toInt64 v9) hx hb dL_law_1618 rfl ?_
    refine W.lcmp hx hb dL_law_1619 ?_
    refine z_top (x' := 0) (z_lc0 _) ?_
    refine lv_if_eq (tgt := 1625) hx hb dL_law_1620 (by decide) (fun _ => ?_) (fun h9 => absurd rfl h9)
    refine lv_goto (tgt := 1765) hx hb dL_law_1625 (by decide) ?_
    exact W.widen (k := cells + 1) (n := slots + 12) (by omega) (by omega) (kk c9 G9 D9 K9 G2 D2 o2 H locs d0 ls hG9 hW9 hP hD hS hd0 (lv_sub hl [2, 3, 4, 5, 6] rfl))

set_option maxHeartbeats 4000000 in
set_option maxRecDepth 100000 in
theorem lc_29 {p : Program} {l : Launch} {e : Env} {s : State} {m : MethodId} {below : List Frame} {meth : Method} {c : Code} {b L : Nat} {xs : Nat → Int32} {Dg : va_G} {cI cL : ClassId} {mo : Nat → Nat} {h : Nat} {na ta : Nat → Nat} {ob i cells slots : Nat} (C0 : z_CX p l s m meth c b L xs Dg cI cL) (hi : 4 * i + 4 ≤ L) (hcs : cells + 1 ≤ 601024 ∧ slots + 12 ≤ 7293034) (kk : z_Go p l e s m below meth c b Dg cI cL mo h na ta ob 1765 i (cells + 1) (slots + 12)) : z_Go p l e s m below meth c b Dg cI cL mo h na ta ob 1628 i cells slots := by
  obtain ⟨hx, hb, hr, hml, hown0, hts0, hXs0, hbl, hlk, hX0, hL, hst⟩ := C0
  obtain ⟨hc1, hc2⟩ := hcs
  intro th G D K G1 D1 o H locs d0 ls hG hW hP hD hS hd0 hl
  have htc : z_tc G ≤ 60 := hG.2.2.2.2.2.1
  have hbc : z_bc G ≤ 6 := hG.2.2.2.2.1
  have hts : ∀ w ∈ wsL_law, w.before #[Value.ref b] (s.setDrawn d0) = true := dr_words hts0 d0
  have hown : (s.setDrawn d0).vm.findClass RL = some m.cls := hown0
  have hXs : va_X b L xs (s.setDrawn d0) s.heap := hXs0
  have hX : z_X Dg cI cL (s.setDrawn d0) H := (z_X.at hX0 hS).same rfl
  have hK := hX.1.1
  have hN := hX.1.2
  have hbA : ¬ (fun q : Nat => s.heap.size ≤ q) b := Nat.not_le.mpr hbl
  have hA : ∀ q : Nat, s.heap.size ≤ q → (fun q : Nat => s.heap.size ≤ q) q := fun _ h => h
  have hf0 : cells ≤ room_1.cells ∧ slots ≤ room_1.slots := ⟨(show cells ≤ 601024 by omega), (show slots ≤ 7293034 by omega)⟩
  have hf1 : cells + 1 ≤ room_1.cells ∧ slots + 6 ≤ room_1.slots := ⟨(show cells + 1 ≤ 601024 by omega), (show slots + 6 ≤ 7293034 by omega)⟩
  have hf2 : cells + 1 ≤ room_1.cells ∧ slots + 12 ≤ room_1.slots := ⟨(show cells + 1 ≤ 601024 by omega), (show slots + 12 ≤ 7293034 by omega)⟩
  refine lv_aload_n hx hb dL_law_1628 rfl (lv_at hl 3 rfl) ?_
  refine z_wCBi (v := nI (z_bo G D)) [] (z_mW cI mo th G D K) [(ob, .inl (cL, 1, .inr (.inl o)))] hx hb hml hown hts (m_X2_bestOrder l Dg cI h na ta G D G1 D1 hG hW) gL_law_X2_bestOrder rfl kd_X2_bestOrder ⟨(Nat.le_of_ble_eq_true rfl), (Nat.le_of_ble_eq_true rfl)⟩ hK hN hP hD hS rfl hl.1 rfl (Nat.le_of_ble_eq_true rfl) dL_law_1629 hf0 (fun G2 D2 H locs hP hD hS => ?_)
  have hP : va_P Dg vwCl (z_Lw cI cL mo h na ta ob th G D K G2 D2 o) H := hP
  have hD : va_D _ (z_Lw cI cL mo h na ta ob th G D K G2 D2 o) := hD
  refine lv_aload_n hx hb dL_law_1632 rfl (lv_at hl 2 rfl) ?_
  refine z_wBi (v := nI (z_bo G D)) [.int (nI (z_bo G D))] [] (z_oW cI cL h na ta ob G D G2 D2 o) 0 hx hb hml hown hts (m_X3_bestOrder l Dg cI mo th G D K hG hW) gL_law_X3_bestOrder rfl kd_X3_bestOrder ⟨(Nat.le_of_ble_eq_true rfl), (Nat.le_of_ble_eq_true rfl)⟩ hK hN hP hD hS rfl rfl rfl rfl rfl hl.1 rfl (Nat.le_of_ble_eq_true rfl) dL_law_1633 hf0 (fun H locs hP hD hS => ?_)
  have hP : va_P Dg vwCl (z_Lw cI cL mo h na ta ob 0 G D (z_nw D) G2 D2 o) H := hP
  have hD : va_D _ (z_Lw cI cL mo h na ta ob 0 G D (z_nw D) G2 D2 o) := hD
  refine lv_icmp_eq (tgt := 1765) hx hb dL_law_1636 (by decide) (fun _ => ?_) (fun h9 => absurd rfl h9)
  exact W.widen (k := cells + 1) (n := slots + 12) (by omega) (by omega) (kk 0 G D (z_nw D) G2 D2 o H locs d0 ls hG hW hP hD hS hd0 (lv_sub hl [0, 1, 2, 3, 4] rfl))

set_option maxHeartbeats 4000000 in
set_option maxRecDepth 100000 in
theorem lc_30 {p : Program} {l : Launch} {e : Env} {s : State} {m : MethodId} {below : List Frame} {meth : Method} {c : Code} {b L : Nat} {xs : Nat → Int32} {Dg : va_G} {cI cL : ClassId} {mo : Nat → Nat} {h : Nat} {na ta : Nat → Nat} {ob i cells slots : Nat} (C0 : z_CX p l s m meth c b L xs Dg cI cL) (hi : 4 * i + 4 ≤ L) (hcs : cells + 1 ≤ 601024 ∧ slots + 12 ≤ 7293034) (kk : z_Go p l e s m below meth c b Dg cI cL mo h na ta ob 1765 i (cells + 1) (slots + 12)) : z_Go p l e s m below meth c b Dg cI cL mo h na ta ob 1641 i cells slots := by
  obtain ⟨hx, hb, hr, hml, hown0, hts0, hXs0, hbl, hlk, hX0, hL, hst⟩ := C0
  obtain ⟨hc1, hc2⟩ := hcs
  intro th G D K G1 D1 o H locs d0 ls hG hW hP hD hS hd0 hl
  have htc : z_tc G ≤ 60 := hG.2.2.2.2.2.1
  have hbc : z_bc G ≤ 6 := hG.2.2.2.2.1
  have hts : ∀ w ∈ wsL_law, w.before #[Value.ref b] (s.setDrawn d0) = true := dr_words hts0 d0
  have hown : (s.setDrawn d0).vm.findClass RL = some m.cls := hown0
  have hXs : va_X b L xs (s.setDrawn d0) s.heap := hXs0
  have hX : z_X Dg cI cL (s.setDrawn d0) H := (z_X.at hX0 hS).same rfl
  have hK := hX.1.1
  have hN := hX.1.2
  have hbA : ¬ (fun q : Nat => s.heap.size ≤ q) b := Nat.not_le.mpr hbl
  have hA : ∀ q : Nat, s.heap.size ≤ q → (fun q : Nat => s.heap.size ≤ q) q := fun _ h => h
  have hf0 : cells ≤ room_1.cells ∧ slots ≤ room_1.slots := ⟨(show cells ≤ 601024 by omega), (show slots ≤ 7293034 by omega)⟩
  have hf1 : cells + 1 ≤ room_1.cells ∧ slots + 6 ≤ room_1.slots := ⟨(show cells + 1 ≤ 601024 by omega), (show slots + 6 ≤ 7293034 by omega)⟩
  have hf2 : cells + 1 ≤ room_1.cells ∧ slots + 12 ≤ room_1.slots := ⟨(show cells + 1 ≤ 601024 by omega), (show slots + 12 ≤ 7293034 by omega)⟩
  refine lv_aload_n hx hb dL_law_1641 rfl (lv_at hl 3 rfl) ?_
  refine z_wCBi (v := z_wt G D) [] (z_mW cI mo th G D K) [(ob, .inl (cL, 1, .inr (.inl o)))] hx hb hml hown hts (m_X2_shippingWanted l Dg cI h na ta G D G1 D1 hG hW) gL_law_X2_shippingWanted rfl kd_X2_shippingWanted ⟨(Nat.le_of_ble_eq_true rfl), (Nat.le_of_ble_eq_true rfl)⟩ hK hN hP hD hS rfl hl.1 rfl (Nat.le_of_ble_eq_true rfl) dL_law_1642 hf0 (fun G2 D2 H locs hP hD hS => ?_)
  have hP : va_P Dg vwCl (z_Lw cI cL mo h na ta ob th G D K G2 D2 o) H := hP
  have hD : va_D _ (z_Lw cI cL mo h na ta ob th G D K G2 D2 o) := hD
  refine lv_aload_n hx hb dL_law_1645 rfl (lv_at hl 2 rfl) ?_
  refine z_wBi (v := z_wt G D) [.int (z_wt G D)] [] (z_oW cI cL h na ta ob G D G2 D2 o) 0 hx hb hml hown hts (m_X3_shippingWanted l Dg cI mo th G D K hG hW) gL_law_X3_shippingWanted rfl kd_X3_shippingWanted ⟨(Nat.le_of_ble_eq_true rfl), (Nat.le_of_ble_eq_true rfl)⟩ hK hN hP hD hS rfl rfl rfl rfl rfl hl.1 rfl (Nat.le_of_ble_eq_true rfl) dL_law_1646 hf0 (fun H locs hP hD hS => ?_)
  have hP : va_P Dg vwCl (z_Lw cI cL mo h na ta ob 0 G D (z_nw D) G2 D2 o) H := hP
  have hD : va_D _ (z_Lw cI cL mo h na ta ob 0 G D (z_nw D) G2 D2 o) := hD
  refine lv_icmp_eq (tgt := 1765) hx hb dL_law_1649 (by decide) (fun _ => ?_) (fun h9 => absurd rfl h9)
  exact W.widen (k := cells + 1) (n := slots + 12) (by omega) (by omega) (kk 0 G D (z_nw D) G2 D2 o H locs d0 ls hG hW hP hD hS hd0 (lv_sub hl [0, 1, 2, 3, 4] rfl))

set_option maxHeartbeats 4000000 in
set_option maxRecDepth 100000 in
theorem lc_31 {p : Program} {l : Launch} {e : Env} {s : State} {m : MethodId} {below : List Frame} {meth : Method} {c : Code} {b L : Nat} {xs : Nat → Int32} {Dg : va_G} {cI cL : ClassId} {mo : Nat → Nat} {h : Nat} {na ta : Nat → Nat} {ob i cells slots : Nat} (C0 : z_CX p l s m meth c b L xs Dg cI cL) (hi : 4 * i + 4 ≤ L) (hcs : cells + 1 ≤ 601024 ∧ slots + 12 ≤ 7293034) (kk : z_Go p l e s m below meth c b Dg cI cL mo h na ta ob 1765 i (cells + 1) (slots + 12)) : z_Go p l e s m below meth c b Dg cI cL mo h na ta ob 1654 i cells slots := by
  obtain ⟨hx, hb, hr, hml, hown0, hts0, hXs0, hbl, hlk, hX0, hL, hst⟩ := C0
  obtain ⟨hc1, hc2⟩ := hcs
  intro th G D K G1 D1 o H locs d0 ls hG hW hP hD hS hd0 hl
  have htc : z_tc G ≤ 60 := hG.2.2.2.2.2.1
  have hbc : z_bc G ≤ 6 := hG.2.2.2.2.1
  have hts : ∀ w ∈ wsL_law, w.before #[Value.ref b] (s.setDrawn d0) = true := dr_words hts0 d0
  have hown : (s.setDrawn d0).vm.findClass RL = some m.cls := hown0
  have hXs : va_X b L xs (s.setDrawn d0) s.heap := hXs0
  have hX : z_X Dg cI cL (s.setDrawn d0) H := (z_X.at hX0 hS).same rfl
  have hK := hX.1.1
  have hN := hX.1.2
  have hbA : ¬ (fun q : Nat => s.heap.size ≤ q) b := Nat.not_le.mpr hbl
  have hA : ∀ q : Nat, s.heap.size ≤ q → (fun q : Nat => s.heap.size ≤ q) q := fun _ h => h
  have hf0 : cells ≤ room_1.cells ∧ slots ≤ room_1.slots := ⟨(show cells ≤ 601024 by omega), (show slots ≤ 7293034 by omega)⟩
  have hf1 : cells + 1 ≤ room_1.cells ∧ slots + 6 ≤ room_1.slots := ⟨(show cells + 1 ≤ 601024 by omega), (show slots + 6 ≤ 7293034 by omega)⟩
  have hf2 : cells + 1 ≤ room_1.cells ∧ slots + 12 ≤ room_1.slots := ⟨(show cells + 1 ≤ 601024 by omega), (show slots + 12 ≤ 7293034 by omega)⟩
  refine lv_aload_n hx hb dL_law_1654 rfl (lv_at hl 3 rfl) ?_
  refine lv_aload_n hx hb dL_law_1655 rfl (lv_at hl 4 rfl) ?_
  refine lv_iload hx hb dL_law_1656 (lv_at hl 0 rfl) ?_
  refine lv_iconst (v := nI 1) hx hb dL_law_1658 (by decide) ?_
  refine lv_iadd hx hb dL_law_1659 ?_
  refine z_top (x' := nI (4 * i + 1)) (nI_add _ _) ?_
  refine z_sld hx hb hXs hbl hbA hS (by omega) (by omega) dL_law_1660 ?_
  refine lv_aload_n hx hb dL_law_1661 rfl (lv_at hl 1 rfl) ?_
  obtain ⟨c9, G9, D9, v9, hG9, hW9, hM1, hM2⟩ := z_op_bestShelf l hst Dg cI cL h na ta ob mo G D (xs (4 * i + 1)) hG hW
  refine z_lS (As := [.ref h, .int (xs (4 * i + 1)), .ref ob]) [] (z_mW cI mo th G D K) hx hb hml hown hts (hM1 G1 D1 o) gL_law_L_bestShelf rfl kdS_L_bestShelf ⟨(Nat.le_of_ble_eq_true rfl), (Nat.le_of_ble_eq_true rfl)⟩ hX hP hD hS rfl hl.1 rfl (Nat.le_of_ble_eq_true rfl) dL_law_1662 hf1 (fun o9 w9 H locs hPo hP hD hS => ?_)
  obtain ⟨rfl, G2, D2, o2, rfl, ho⟩ := hPo
  have hX : z_X Dg cI cL (s.setDrawn d0) H := (z_X.at hX0 hS).same rfl
  obtain ⟨K9, hM3⟩ := hM2 th K
  refine lv_istore (lv' := [(5, .int c9), (4, .int (nI (4 * i))), (3, .ref ob), (2, .ref (mo 0)), (1, .ref h), (0, .ref b)]) hx hb dL_law_1665 hl (by decide) rfl (fun ls hl => ?_)
  refine lv_aload_n hx hb dL_law_1667 rfl (lv_at hl 3 rfl) ?_
  refine lv_aload_n hx hb dL_law_1668 rfl (lv_at hl 5 rfl) ?_
  refine lv_iload hx hb dL_law_1669 (lv_at hl 1 rfl) ?_
  refine lv_iconst (v := nI 1) hx hb dL_law_1671 (by decide) ?_
  refine lv_iadd hx hb dL_law_1672 ?_
  refine z_top (x' := nI (4 * i + 1)) (nI_add _ _) ?_
  refine z_sld hx hb hXs hbl hbA hS (by omega) (by omega) dL_law_1673 ?_
  refine z_wBi (v := v9) [] [] (z_oW cI cL h na ta ob G9 D9 G2 D2 o2) 0 hx hb hml hown hts hM3 gL_law_X3_bestShelf rfl kd_X3_bestShelf ⟨(Nat.le_of_ble_eq_true rfl), (Nat.le_of_ble_eq_true rfl)⟩ hK hN hP hD hS rfl rfl rfl rfl rfl hl.1 rfl (Nat.le_of_ble_eq_true rfl) dL_law_1674 hf1 (fun H locs hP hD hS => ?_)
  have hP : va_P Dg vwCl (z_Lw cI cL mo h na ta ob c9 G9 D9 K9 G2 D2 o2) H := hP
  have hD : va_D _ (z_Lw cI cL mo h na ta ob c9 G9 D9 K9 G2 D2 o2) := hD
  refine lv_istore (lv' := [(6, .int v9), (5, .int c9), (4, .int (nI (4 * i))), (3, .ref ob), (2, .ref (mo 0)), (1, .ref h), (0, .ref b)]) hx hb dL_law_1677 hl (by decide) rfl (fun ls hl => ?_)
  refine lv_aload_n hx hb dL_law_1679 rfl (lv_at hl 4 rfl) ?_
  refine z_rVi (v := c9) [] hx hb hml hown hts (m_X3_thrown l Dg cI mo c9 G9 D9 K9) gL_law_X3_thrown rfl kd_X3_thrown ⟨(Nat.le_of_ble_eq_true rfl), (Nat.le_of_ble_eq_true rfl)⟩ hK hN (z_Pl hP) rfl rfl rfl rfl hl.1 rfl (Nat.le_of_ble_eq_true rfl) dL_law_1680 hf1 ?_
  refine lv_iload hx hb dL_law_1683 (lv_at hl 1 rfl) ?_
  refine lv_icmp_eq (tgt := 1690) hx hb dL_law_1685 (by decide) (fun _ => ?_) (fun h9 => absurd rfl h9)
  refine lv_iload hx hb dL_law_1690 (lv_at hl 1 rfl) ?_
  refine lv_if_ne (tgt := 1707) hx hb dL_law_1692 (by decide) (fun _ => ?_) (fun hz => ?_)
  · skip
    refine lv_goto (tgt := 1765) hx hb dL_law_1707 (by decide) ?_
    exact W.widen (k := cells + 1) (n := slots + 12) (by omega) (by omega) (kk c9 G9 D9 K9 G2 D2 o2 H locs d0 ls hG9 hW9 hP hD hS hd0 (lv_sub hl [2, 3, 4, 5, 6] rfl))
  · skip
    refine lv_aload_n hx hb dL_law_1695 rfl (lv_at hl 3 rfl) ?_
    refine lv_iconst (v := nI 0) hx hb dL_law_1696 (by decide) ?_
    refine va_lald hx hb hX.2.1 hP 47 0 rfl rfl (vp_in_nI (by decide) (by decide)) dL_law_1697 ?_
    refine z_topl (x' := (v9).toInt64) (ho hz) ?_
    refine lv_iload hx hb dL_law_1698 (lv_at hl 0 rfl) ?_
    refine lv_i2l (v := Int32.toInt64 v9) hx hb dL_law_1700 rfl ?_
    refine W.lcmp hx hb dL_law_1701 ?_
    refine z_top (x' := 0) (z_lc0 _) ?_
    refine lv_if_eq (tgt := 1707) hx hb dL_law_1702 (by decide) (fun _ => ?_) (fun h9 => absurd rfl h9)
    refine lv_goto (tgt := 1765) hx hb dL_law_1707 (by decide) ?_
    exact W.widen (k := cells + 1) (n := slots + 12) (by omega) (by omega) (kk c9 G9 D9 K9 G2 D2 o2 H locs d0 ls hG9 hW9 hP hD hS hd0 (lv_sub hl [2, 3, 4, 5, 6] rfl))

set_option maxHeartbeats 4000000 in
set_option maxRecDepth 100000 in
theorem lc_32 {p : Program} {l : Launch} {e : Env} {s : State} {m : MethodId} {below : List Frame} {meth : Method} {c : Code} {b L : Nat} {xs : Nat → Int32} {Dg : va_G} {cI cL : ClassId} {mo : Nat → Nat} {h : Nat} {na ta : Nat → Nat} {ob i cells slots : Nat} (C0 : z_CX p l s m meth c b L xs Dg cI cL) (hi : 4 * i + 4 ≤ L) (hcs : cells + 1 ≤ 601024 ∧ slots + 12 ≤ 7293034) (kk : z_Go p l e s m below meth c b Dg cI cL mo h na ta ob 1765 i (cells + 1) (slots + 12)) : z_Go p l e s m below meth c b Dg cI cL mo h na ta ob 1710 i cells slots := by
  obtain ⟨hx, hb, hr, hml, hown0, hts0, hXs0, hbl, hlk, hX0, hL, hst⟩ := C0
  obtain ⟨hc1, hc2⟩ := hcs
  intro th G D K G1 D1 o H locs d0 ls hG hW hP hD hS hd0 hl
  have htc : z_tc G ≤ 60 := hG.2.2.2.2.2.1
  have hbc : z_bc G ≤ 6 := hG.2.2.2.2.1
  have hts : ∀ w ∈ wsL_law, w.before #[Value.ref b] (s.setDrawn d0) = true := dr_words hts0 d0
  have hown : (s.setDrawn d0).vm.findClass RL = some m.cls := hown0
  have hXs : va_X b L xs (s.setDrawn d0) s.heap := hXs0
  have hX : z_X Dg cI cL (s.setDrawn d0) H := (z_X.at hX0 hS).same rfl
  have hK := hX.1.1
  have hN := hX.1.2
  have hbA : ¬ (fun q : Nat => s.heap.size ≤ q) b := Nat.not_le.mpr hbl
  have hA : ∀ q : Nat, s.heap.size ≤ q → (fun q : Nat => s.heap.size ≤ q) q := fun _ h => h
  have hf0 : cells ≤ room_1.cells ∧ slots ≤ room_1.slots := ⟨(show cells ≤ 601024 by omega), (show slots ≤ 7293034 by omega)⟩
  have hf1 : cells + 1 ≤ room_1.cells ∧ slots + 6 ≤ room_1.slots := ⟨(show cells + 1 ≤ 601024 by omega), (show slots + 6 ≤ 7293034 by omega)⟩
  have hf2 : cells + 1 ≤ room_1.cells ∧ slots + 12 ≤ room_1.slots := ⟨(show cells + 1 ≤ 601024 by omega), (show slots + 12 ≤ 7293034 by omega)⟩
  refine lv_aload_n hx hb dL_law_1710 rfl (lv_at hl 3 rfl) ?_
  refine z_lM (q0 := 0) hd0 [] (z_mW cI mo th G D K) [(ob, .inl (cL, 1, .inr (.inl o)))] hx hb hml hown hts (m_X2_meanVacuum l Dg cI h na ta G D G1 D1 hG hW) gL_law_X2_meanVacuum rfl kd_X2_meanVacuum ⟨(Nat.le_of_ble_eq_true rfl), (Nat.le_of_ble_eq_true rfl)⟩ hK hN hP hD hS rfl rfl rfl rfl rfl hl.1 rfl (Nat.le_of_ble_eq_true rfl) dL_law_1711 hf0 (fun r1 H locs d1 hal1 hP hD hS hd1 => ?_)
  have hP : va_P Dg vwCl (z_Lw cI cL mo h na ta ob th G D K G1 D1 o) H := hP
  have hD : va_D _ (z_Lw cI cL mo h na ta ob th G D K G1 D1 o) := hD
  have hts : ∀ w ∈ wsL_law, w.before #[Value.ref b] (s.setDrawn d1) = true := dr_words hts0 d1
  have hown : (s.setDrawn d1).vm.findClass RL = some m.cls := hown0
  have hXs : va_X b L xs (s.setDrawn d1) s.heap := hXs0
  have hX : z_X Dg cI cL (s.setDrawn d1) H := (z_X.at hX0 hS).same rfl
  have hK := hX.1.1
  have hN := hX.1.2
  refine lv_dstore (lv' := [(5, .double r1), (4, .int (nI (4 * i))), (3, .ref ob), (2, .ref (mo 0)), (1, .ref h), (0, .ref b)]) hx hb dL_law_1714 hl (by decide) rfl (fun ls hl => ?_)
  refine lv_aload_n hx hb dL_law_1716 rfl (lv_at hl 3 rfl) ?_
  refine z_lM (q0 := 0) hd1 [] [] (z_oW cI cL h na ta ob G D G1 D1 o) hx hb hml hown hts (m_X3_meanVacuum l Dg cI mo th G D K hG hW) gL_law_X3_meanVacuum rfl kd_X3_meanVacuum ⟨(Nat.le_of_ble_eq_true rfl), (Nat.le_of_ble_eq_true rfl)⟩ hK hN hP hD hS rfl rfl rfl rfl rfl hl.1 rfl (Nat.le_of_ble_eq_true rfl) dL_law_1717 hf0 (fun r2 H locs d2 hal2 hP hD hS hd2 => ?_)
  have hP : va_P Dg vwCl (z_Lw cI cL mo h na ta ob 0 G D K G1 D1 o) H := hP
  have hD : va_D _ (z_Lw cI cL mo h na ta ob 0 G D K G1 D1 o) := hD
  have hts : ∀ w ∈ wsL_law, w.before #[Value.ref b] (s.setDrawn d2) = true := dr_words hts0 d2
  have hown : (s.setDrawn d2).vm.findClass RL = some m.cls := hown0
  have hXs : va_X b L xs (s.setDrawn d2) s.heap := hXs0
  have hX : z_X Dg cI cL (s.setDrawn d2) H := (z_X.at hX0 hS).same rfl
  have hK := hX.1.1
  have hN := hX.1.2
  refine lv_dstore (lv' := [(7, .double r2), (5, .double r1), (4, .int (nI (4 * i))), (3, .ref ob), (2, .ref (mo 0)), (1, .ref h), (0, .ref b)]) hx hb dL_law_1720 hl (by decide) rfl (fun ls hl => ?_)
  refine lv_dload hx hb dL_law_1722 (lv_at hl 1 rfl) ?_
  refine lv_dload hx hb dL_law_1724 (lv_at hl 0 rfl) ?_
  refine lv_dcmp hx hb dL_law_1726 ?_
  rcases z_alike hal1 hal2 with rfl | hn12
  · by_cases hn1 : FP.Core.val64 r1 = .nan
    · have hn2 := hn1
      refine lv_if_eq (tgt := 1748) hx hb dL_law_1727 (by decide) (fun h9 => absurd h9 (z_dc_n (Or.inl hn1))) (fun _ => ?_)
      refine lv_dload hx hb dL_law_1730 (lv_at hl 1 rfl) ?_
      refine lv_dload hx hb dL_law_1732 (lv_at hl 1 rfl) ?_
      refine lv_dcmp hx hb dL_law_1734 ?_
      refine lv_if_eq (tgt := 1746) hx hb dL_law_1735 (by decide) (fun h9 => absurd h9 (z_dc_n (Or.inl hn1))) (fun _ => ?_)
      refine lv_dload hx hb dL_law_1738 (lv_at hl 0 rfl) ?_
      refine lv_dload hx hb dL_law_1740 (lv_at hl 0 rfl) ?_
      refine lv_dcmp hx hb dL_law_1742 ?_
      refine lv_if_ne (tgt := 1748) hx hb dL_law_1743 (by decide) (fun _ => ?_) (fun h9 => absurd h9 (z_dc_n (Or.inl hn2)))
      refine lv_goto (tgt := 1765) hx hb dL_law_1748 (by decide) ?_
      exact W.widen (k := cells + 1) (n := slots + 12) (by omega) (by omega) (kk 0 G D K G1 D1 o H locs d2 ls hG hW hP hD hS hd2 (lv_sub hl [2, 3, 4, 5, 6] rfl))
    · refine lv_if_eq (tgt := 1748) hx hb dL_law_1727 (by decide) (fun _ => ?_) (fun h9 => absurd (z_dc_e hn1) h9)
      refine lv_goto (tgt := 1765) hx hb dL_law_1748 (by decide) ?_
      exact W.widen (k := cells + 1) (n := slots + 12) (by omega) (by omega) (kk 0 G D K G1 D1 o H locs d2 ls hG hW hP hD hS hd2 (lv_sub hl [2, 3, 4, 5, 6] rfl))
  · obtain ⟨hn1, hn2⟩ := hn12
    refine lv_if_eq (tgt := 1748) hx hb dL_law_1727 (by decide) (fun h9 => absurd h9 (z_dc_n (Or.inl hn1))) (fun _ => ?_)
    refine lv_dload hx hb dL_law_1730 (lv_at hl 1 rfl) ?_
    refine lv_dload hx hb dL_law_1732 (lv_at hl 1 rfl) ?_
    refine lv_dcmp hx hb dL_law_1734 ?_
    refine lv_if_eq (tgt := 1746) hx hb dL_law_1735 (by decide) (fun h9 => absurd h9 (z_dc_n (Or.inl hn1))) (fun _ => ?_)
    refine lv_dload hx hb dL_law_1738 (lv_at hl 0 rfl) ?_
    refine lv_dload hx hb dL_law_1740 (lv_at hl 0 rfl) ?_
    refine lv_dcmp hx hb dL_law_1742 ?_
    refine lv_if_ne (tgt := 1748) hx hb dL_law_1743 (by decide) (fun _ => ?_) (fun h9 => absurd h9 (z_dc_n (Or.inl hn2)))
    refine lv_goto (tgt := 1765) hx hb dL_law_1748 (by decide) ?_
    exact W.widen (k := cells + 1) (n := slots + 12) (by omega) (by omega) (kk 0 G D K G1 D1 o H locs d2 ls hG hW hP hD hS hd2 (lv_sub hl [2, 3, 4, 5, 6] rfl))

set_option maxHeartbeats 4000000 in
set_option maxRecDepth 100000 in
theorem lc_33 {p : Program} {l : Launch} {e : Env} {s : State} {m : MethodId} {below : List Frame} {meth : Method} {c : Code} {b L : Nat} {xs : Nat → Int32} {Dg : va_G} {cI cL : ClassId} {mo : Nat → Nat} {h : Nat} {na ta : Nat → Nat} {ob i cells slots : Nat} (C0 : z_CX p l s m meth c b L xs Dg cI cL) (hi : 4 * i + 4 ≤ L) (hcs : cells + 1 ≤ 601024 ∧ slots + 12 ≤ 7293034) (kk : z_Go p l e s m below meth c b Dg cI cL mo h na ta ob 1765 i (cells + 1) (slots + 12)) : z_Go p l e s m below meth c b Dg cI cL mo h na ta ob 1751 i cells slots := by
  obtain ⟨hx, hb, hr, hml, hown0, hts0, hXs0, hbl, hlk, hX0, hL, hst⟩ := C0
  obtain ⟨hc1, hc2⟩ := hcs
  intro th G D K G1 D1 o H locs d0 ls hG hW hP hD hS hd0 hl
  have htc : z_tc G ≤ 60 := hG.2.2.2.2.2.1
  have hbc : z_bc G ≤ 6 := hG.2.2.2.2.1
  have hts : ∀ w ∈ wsL_law, w.before #[Value.ref b] (s.setDrawn d0) = true := dr_words hts0 d0
  have hown : (s.setDrawn d0).vm.findClass RL = some m.cls := hown0
  have hXs : va_X b L xs (s.setDrawn d0) s.heap := hXs0
  have hX : z_X Dg cI cL (s.setDrawn d0) H := (z_X.at hX0 hS).same rfl
  have hK := hX.1.1
  have hN := hX.1.2
  have hbA : ¬ (fun q : Nat => s.heap.size ≤ q) b := Nat.not_le.mpr hbl
  have hA : ∀ q : Nat, s.heap.size ≤ q → (fun q : Nat => s.heap.size ≤ q) q := fun _ h => h
  have hf0 : cells ≤ room_1.cells ∧ slots ≤ room_1.slots := ⟨(show cells ≤ 601024 by omega), (show slots ≤ 7293034 by omega)⟩
  have hf1 : cells + 1 ≤ room_1.cells ∧ slots + 6 ≤ room_1.slots := ⟨(show cells + 1 ≤ 601024 by omega), (show slots + 6 ≤ 7293034 by omega)⟩
  have hf2 : cells + 1 ≤ room_1.cells ∧ slots + 12 ≤ room_1.slots := ⟨(show cells + 1 ≤ 601024 by omega), (show slots + 12 ≤ 7293034 by omega)⟩
  refine lv_aload_n hx hb dL_law_1751 rfl (lv_at hl 3 rfl) ?_
  refine z_wCBl (v := z_dg G D) [] (z_mW cI mo th G D K) [(ob, .inl (cL, 1, .inr (.inl o)))] hx hb hml hown hts (m_X2_digest l Dg cI h na ta G D G1 D1 hG hW) gL_law_X2_digest rfl kd_X2_digest ⟨(Nat.le_of_ble_eq_true rfl), (Nat.le_of_ble_eq_true rfl)⟩ hK hN hP hD hS rfl hl.1 rfl (Nat.le_of_ble_eq_true rfl) dL_law_1752 hf0 (fun G2 D2 H locs hP hD hS => ?_)
  have hP : va_P Dg vwCl (z_Lw cI cL mo h na ta ob th G D K G2 D2 o) H := hP
  have hD : va_D _ (z_Lw cI cL mo h na ta ob th G D K G2 D2 o) := hD
  refine lv_aload_n hx hb dL_law_1755 rfl (lv_at hl 2 rfl) ?_
  refine z_vd (q0 := 0) [.long (z_dg G D)] [] (z_oW cI cL h na ta ob G D G2 D2 o) hx hb hml hown hts (m_X3_digest l Dg cI mo th G D K H.size hG hW) gL_law_X3_digest rfl kd_X3_digest ⟨(Nat.le_of_ble_eq_true rfl), (Nat.le_of_ble_eq_true rfl)⟩ hK hN hP hD hS hA rfl rfl rfl rfl hl.1 rfl (Nat.le_of_ble_eq_true rfl) dL_law_1756 hf2 (fun o9 w9 H locs hPo hP hD hS => ?_)
  obtain ⟨rfl, rfl⟩ := hPo
  have hP : va_P Dg vwCl (z_Lw cI cL mo h na ta ob 0 G D (z_nw D) G2 D2 o) H := hP
  have hD : va_D _ (z_Lw cI cL mo h na ta ob 0 G D (z_nw D) G2 D2 o) := hD
  refine W.lcmp hx hb dL_law_1759 ?_
  refine z_top (x' := 0) (z_lc0 _) ?_
  refine lv_if_eq (tgt := 1765) hx hb dL_law_1760 (by decide) (fun _ => ?_) (fun h9 => absurd rfl h9)
  exact W.widen (k := cells + 1) (n := slots + 12) (by omega) (by omega) (kk 0 G D (z_nw D) G2 D2 o H locs d0 ls hG hW hP hD hS hd0 (lv_sub hl [0, 1, 2, 3, 4] rfl))
