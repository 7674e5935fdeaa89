theorem z_q1 {b : Bool} (h : z_bI b = 1) : b = true := by cases b with
  | true => rfl
  | false => exact absurd h (by decide)
theorem z_q0 {b : Bool} (h : ¬ z_bI b = 1) : b = false := by cases b with
  | true => exact absurd rfl h
  | false => rfl
theorem kd_X3_ahead : yX3_ahead.cls = RX3 ∧ yX3_ahead.cls ≠ "java/lang/invoke/MethodHandle" ∧ yX3_ahead.cls ≠ "java/lang/invoke/VarHandle" ∧ (parseMethodDescriptor yX3_ahead.desc).map (fun d => d.parameters.length) = some 2 := by decide +kernel
theorem kd_X3_allSwelled : yX3_allSwelled.cls = RX3 ∧ yX3_allSwelled.cls ≠ "java/lang/invoke/MethodHandle" ∧ yX3_allSwelled.cls ≠ "java/lang/invoke/VarHandle" ∧ (parseMethodDescriptor yX3_allSwelled.desc).map (fun d => d.parameters.length) = some 0 := by decide +kernel
theorem kd_X3_best : yX3_best.cls = RX3 ∧ yX3_best.cls ≠ "java/lang/invoke/MethodHandle" ∧ yX3_best.cls ≠ "java/lang/invoke/VarHandle" ∧ (parseMethodDescriptor yX3_best.desc).map (fun d => d.parameters.length) = some 0 := by decide +kernel
theorem kd_X3_is : yX3_is.cls = RX3 ∧ yX3_is.cls ≠ "java/lang/invoke/MethodHandle" ∧ yX3_is.cls ≠ "java/lang/invoke/VarHandle" ∧ (parseMethodDescriptor yX3_is.desc).map (fun d => d.parameters.length) = some 2 := by decide +kernel
theorem kd_X3_isBatch : yX3_isBatch.cls = RX3 ∧ yX3_isBatch.cls ≠ "java/lang/invoke/MethodHandle" ∧ yX3_isBatch.cls ≠ "java/lang/invoke/VarHandle" ∧ (parseMethodDescriptor yX3_isBatch.desc).map (fun d => d.parameters.length) = some 1 := by decide +kernel
theorem kd_X3_isNot : yX3_isNot.cls = RX3 ∧ yX3_isNot.cls ≠ "java/lang/invoke/MethodHandle" ∧ yX3_isNot.cls ≠ "java/lang/invoke/VarHandle" ∧ (parseMethodDescriptor yX3_isNot.desc).map (fun d => d.parameters.length) = some 1 := by decide +kernel
theorem kdS_X3_isOrder : yX3_isOrder.cls ≠ "java/lang/invoke/MethodHandle" ∧ yX3_isOrder.cls ≠ "java/lang/invoke/VarHandle" ∧ (parseMethodDescriptor yX3_isOrder.desc).map (fun d => d.parameters.length) = some 1 := by decide +kernel
theorem kdS_X3_isShelf : yX3_isShelf.cls ≠ "java/lang/invoke/MethodHandle" ∧ yX3_isShelf.cls ≠ "java/lang/invoke/VarHandle" ∧ (parseMethodDescriptor yX3_isShelf.desc).map (fun d => d.parameters.length) = some 1 := by decide +kernel
theorem kd_X3_isTin : yX3_isTin.cls = RX3 ∧ yX3_isTin.cls ≠ "java/lang/invoke/MethodHandle" ∧ yX3_isTin.cls ≠ "java/lang/invoke/VarHandle" ∧ (parseMethodDescriptor yX3_isTin.desc).map (fun d => d.parameters.length) = some 1 := by decide +kernel
theorem kd_X3_left : yX3_left.cls = RX3 ∧ yX3_left.cls ≠ "java/lang/invoke/MethodHandle" ∧ yX3_left.cls ≠ "java/lang/invoke/VarHandle" ∧ (parseMethodDescriptor yX3_left.desc).map (fun d => d.parameters.length) = some 1 := by decide +kernel
theorem kd_X3_no : yX3_no.cls = RX3 ∧ yX3_no.cls ≠ "java/lang/invoke/MethodHandle" ∧ yX3_no.cls ≠ "java/lang/invoke/VarHandle" ∧ (parseMethodDescriptor yX3_no.desc).map (fun d => d.parameters.length) = some 1 := by decide +kernel
theorem kd_X3_ok : yX3_ok.cls = RX3 ∧ yX3_ok.cls ≠ "java/lang/invoke/MethodHandle" ∧ yX3_ok.cls ≠ "java/lang/invoke/VarHandle" ∧ (parseMethodDescriptor yX3_ok.desc).map (fun d => d.parameters.length) = some 1 := by decide +kernel
theorem kd_X3_on : yX3_on.cls = RX3 ∧ yX3_on.cls ≠ "java/lang/invoke/MethodHandle" ∧ yX3_on.cls ≠ "java/lang/invoke/VarHandle" ∧ (parseMethodDescriptor yX3_on.desc).map (fun d => d.parameters.length) = some 1 := by decide +kernel
theorem kd_X3_place : yX3_place.cls = RX3 ∧ yX3_place.cls ≠ "java/lang/invoke/MethodHandle" ∧ yX3_place.cls ≠ "java/lang/invoke/VarHandle" ∧ (parseMethodDescriptor yX3_place.desc).map (fun d => d.parameters.length) = some 1 := by decide +kernel
theorem kd_X3_shelfFor : yX3_shelfFor.cls = RX3 ∧ yX3_shelfFor.cls ≠ "java/lang/invoke/MethodHandle" ∧ yX3_shelfFor.cls ≠ "java/lang/invoke/VarHandle" ∧ (parseMethodDescriptor yX3_shelfFor.desc).map (fun d => d.parameters.length) = some 1 := by decide +kernel
theorem kd_X3_untilRecalled : yX3_untilRecalled.cls = RX3 ∧ yX3_untilRecalled.cls ≠ "java/lang/invoke/MethodHandle" ∧ yX3_untilRecalled.cls ≠ "java/lang/invoke/VarHandle" ∧ (parseMethodDescriptor yX3_untilRecalled.desc).map (fun d => d.parameters.length) = some 1 := by decide +kernel
theorem kd_X3_wanted : yX3_wanted.cls = RX3 ∧ yX3_wanted.cls ≠ "java/lang/invoke/MethodHandle" ∧ yX3_wanted.cls ≠ "java/lang/invoke/VarHandle" ∧ (parseMethodDescriptor yX3_wanted.desc).map (fun d => d.parameters.length) = some 0 := by decide +kernel
set_option maxHeartbeats 4000000 in
set_option maxRecDepth 100000 in
theorem m_X3_is_ok (l : Launch) (Dg : va_G) (cI : ClassId) (mo : Nat → Nat) (th : Int32) (G : z_GG) (D : z_DD) (K : Nat → Int32) (t x_ : Nat) (ht : t < z_tc G) (hx3 : x_ < 3) (hG : z_WG G) (hW : z_WD G D) : z_Mw l yX3_is wsX3_is 2 43 [.ref (mo 0), .int (nI t), .int (nI x_)] Dg cI (z_mW cI mo th G D K) (some (.int (z_bI (z_pl D t == x_ + 1)))) (z_mW cI mo 0 G D K) := by
  have htc : z_tc G ≤ 60 := hG.2.2.2.2.2.1
  have hbc : z_bc G ≤ 6 := hG.2.2.2.2.1
  have hpl := hW t ht
  have hbt := hG.2.2.1 t
  have hsh := hG.2.2.2.1 t
  refine z_sw' (own := RX3) (l0 := [(0, .ref (mo 0)), (1, .int (nI t)), (2, .int (nI x_))]) rfl rfl (by decide) (Nat.le_of_ble_eq_true rfl) rfl ?_
  intro p e s m below meth c hx hb hr hml hts hown hlk hP hK hN hD hS ls hl
  refine lv_aload_n hx hb dX3_is_0 rfl (lv_at hl 0 rfl) ?_
  refine lv_iconst (v := 0) hx hb dX3_is_1 (by decide) ?_
  refine va_put (ci := 3) (v := .int 0) (ty := .int) (C := RX3) (T := TX3) (N := 12) hx hb hts (fun _ h => (List.mem_cons_of_mem _ (List.mem_append_right _ h))) tyX3 tyX3_ok nmX3 hown hK hP hD hS 0 rfl rfl 0 (by decide) (hts _ (List.mem_cons_of_mem _ (List.mem_append_left _ (List.mem_of_getElem? (i := 0) rfl)))) (fun _ h9 => h9) rfl (by decide +kernel) rfl rfl (Nat.le_of_ble_eq_true rfl) dX3_is_2 (fun H locs hP hD hS => ?_)
  have hP : va_P Dg vwCl (z_mW cI mo 0 G D K) H := hP
  have hD : va_D _ (z_mW cI mo 0 G D K) := hD
  refine lv_aload_n hx hb dX3_is_5 rfl (lv_at hl 0 rfl) ?_
  refine lv_iload_n hx hb dX3_is_6 rfl (lv_at hl 1 rfl) ?_
  refine z_rVi (v := 1) [] hx hb hml hown hts (m_X3_isTin_t l Dg cI mo 0 G D K t (by omega) hG) gX3_is_X3_isTin rfl kd_X3_isTin ⟨Nat.le_of_ble_eq_true rfl, Nat.le_of_ble_eq_true rfl⟩ hK hN hP rfl rfl rfl rfl hl.1 rfl (Nat.le_of_ble_eq_true rfl) dX3_is_7 ⟨Nat.zero_le _, Nat.zero_le _⟩ ?_
  refine lv_if_eq (tgt := 34) hx hb dX3_is_10 (by decide) (fun c10 => absurd c10 (by decide)) (fun c10 => ?_)
  refine lv_aload_n hx hb dX3_is_13 rfl (lv_at hl 0 rfl) ?_
  refine va_get (ci := 3) (v := .ref (mo 6)) (C := RX3) (T := TX3) (N := 12) hx hb hts (fun _ h => (List.mem_cons_of_mem _ (List.mem_append_right _ h))) hown hK hP 0 rfl rfl 10 (by decide) (hts _ (List.mem_cons_of_mem _ (List.mem_append_left _ (List.mem_of_getElem? (i := 1) rfl)))) (fun _ h9 => h9) rfl dX3_is_14 ?_
  refine lv_bipush (v := nI 13) hx hb dX3_is_17 (by decide) ?_
  refine lv_iload_n hx hb dX3_is_19 rfl (lv_at hl 1 rfl) ?_
  refine lv_iadd hx hb dX3_is_20 ?_
  refine z_top (x' := nI (13 + t)) (nI_add _ _) ?_
  refine z_iald hx hb hK hP 6 0 rfl rfl (by omega) (by decide) dX3_is_21 ?_
  refine z_top (x' := nI (z_pl D t - 1)) (z_nw_st _ (by omega)) ?_
  refine lv_iload_n hx hb dX3_is_22 rfl (lv_at hl 2 rfl) ?_
  refine lv_icmp_ne (tgt := 30) hx hb dX3_is_23 (by decide) (fun c23 => ?_) (fun c23 => ?_)
  · skip
    refine lv_iconst (v := 0) hx hb dX3_is_30 (by decide) ?_
    refine lv_goto (tgt := 39) hx hb dX3_is_31 (by decide) ?_
    exact z_ew_z (z_b0 (z_bne (fun q => z_ne (by omega) (by omega) c23 (by omega)))) hP hS hx hb hr hlk dX3_is_39
  · skip
    refine lv_iconst (v := 1) hx hb dX3_is_26 (by decide) ?_
    refine lv_goto (tgt := 39) hx hb dX3_is_27 (by decide) ?_
    exact z_ew_z (z_b1 (z_beq (by have := z_eq (by omega) (by omega) c23; omega))) hP hS hx hb hr hlk dX3_is_39

set_option maxHeartbeats 4000000 in
set_option maxRecDepth 100000 in
theorem m_X3_is_x1 (l : Launch) (Dg : va_G) (cI : ClassId) (mo : Nat → Nat) (th : Int32) (G : z_GG) (D : z_DD) (K : Nat → Int32) (x_ y_ : Int32) (e1 : ¬ (0 ≤ x_ ∧ x_ ≤ nI (z_tc G) - 1)) : z_Mw l yX3_is wsX3_is 2 43 [.ref (mo 0), .int x_, .int y_] Dg cI (z_mW cI mo th G D K) (some (.int (z_bI false))) (z_mW cI mo 1 G D K) := by
  refine z_sw' (own := RX3) (l0 := [(0, .ref (mo 0)), (1, .int x_), (2, .int y_)]) rfl rfl (by decide) (Nat.le_of_ble_eq_true rfl) rfl ?_
  intro p e s m below meth c hx hb hr hml hts hown hlk hP hK hN hD hS ls hl
  refine lv_aload_n hx hb dX3_is_0 rfl (lv_at hl 0 rfl) ?_
  refine lv_iconst (v := 0) hx hb dX3_is_1 (by decide) ?_
  refine va_put (ci := 3) (v := .int 0) (ty := .int) (C := RX3) (T := TX3) (N := 12) hx hb hts (fun _ h => (List.mem_cons_of_mem _ (List.mem_append_right _ h))) tyX3 tyX3_ok nmX3 hown hK hP hD hS 0 rfl rfl 0 (by decide) (hts _ (List.mem_cons_of_mem _ (List.mem_append_left _ (List.mem_of_getElem? (i := 0) rfl)))) (fun _ h9 => h9) rfl (by decide +kernel) rfl rfl (Nat.le_of_ble_eq_true rfl) dX3_is_2 (fun H locs hP hD hS => ?_)
  have hP : va_P Dg vwCl (z_mW cI mo 0 G D K) H := hP
  have hD : va_D _ (z_mW cI mo 0 G D K) := hD
  refine lv_aload_n hx hb dX3_is_5 rfl (lv_at hl 0 rfl) ?_
  refine lv_iload_n hx hb dX3_is_6 rfl (lv_at hl 1 rfl) ?_
  refine z_rVi (v := 0) [] hx hb hml hown hts (m_X3_isTin_f l Dg cI mo 0 G D K x_ e1) gX3_is_X3_isTin rfl kd_X3_isTin ⟨Nat.le_of_ble_eq_true rfl, Nat.le_of_ble_eq_true rfl⟩ hK hN hP rfl rfl rfl rfl hl.1 rfl (Nat.le_of_ble_eq_true rfl) dX3_is_7 ⟨Nat.zero_le _, Nat.zero_le _⟩ ?_
  refine lv_if_eq (tgt := 34) hx hb dX3_is_10 (by decide) (fun c10 => ?_) (fun c10 => absurd rfl c10)
  refine lv_aload_n hx hb dX3_is_34 rfl (lv_at hl 0 rfl) ?_
  refine lv_iconst (v := 1) hx hb dX3_is_35 (by decide) ?_
  refine z_wAi (v := 0) [] hx hb hml hown hts (m_X3_isNot l Dg cI mo 0 G D K 1) gX3_is_X3_isNot rfl kd_X3_isNot ⟨Nat.le_of_ble_eq_true rfl, Nat.le_of_ble_eq_true rfl⟩ hK hN hP hD hS rfl rfl rfl rfl rfl hl.1 rfl (Nat.le_of_ble_eq_true rfl) dX3_is_36 ⟨Nat.zero_le _, Nat.zero_le _⟩ (fun H locs hP hD hS => ?_)
  have hP : va_P Dg vwCl (z_mW cI mo 1 G D K) H := hP
  have hD : va_D _ (z_mW cI mo 1 G D K) := hD
  exact z_ew_z rfl hP hS hx hb hr hlk dX3_is_39

set_option maxHeartbeats 4000000 in
set_option maxRecDepth 100000 in
theorem m_X3_standOn_x1 (l : Launch) (Dg : va_G) (cI : ClassId) (mo : Nat → Nat) (th : Int32) (G : z_GG) (D : z_DD) (K : Nat → Int32) (x_ : Int32) (e1 : ¬ (0 ≤ x_ ∧ x_ ≤ 3)) (hG : z_WG G) (hW : z_WD G D) : z_Mw l yX3_standOn wsX3_standOn 2 44 [.ref (mo 0), .int x_] Dg cI (z_mW cI mo th G D K) (some (.int 0)) (z_mW cI mo 1 G D K) := by
  have htc : z_tc G ≤ 60 := hG.2.2.2.2.2.1
  have hbc : z_bc G ≤ 6 := hG.2.2.2.2.1
  refine z_sw' (own := RX3) (l0 := [(0, .ref (mo 0)), (1, .int x_)]) rfl rfl (by decide) (Nat.le_of_ble_eq_true rfl) rfl ?_
  intro p e s m below meth c hx hb hr hml hts hown hlk hP hK hN hD hS ls hl
  refine lv_aload_n hx hb dX3_standOn_0 rfl (lv_at hl 0 rfl) ?_
  refine lv_iconst (v := 0) hx hb dX3_standOn_1 (by decide) ?_
  refine va_put (ci := 3) (v := .int 0) (ty := .int) (C := RX3) (T := TX3) (N := 12) hx hb hts (fun _ h => (List.mem_cons_of_mem _ (List.mem_append_right _ h))) tyX3 tyX3_ok nmX3 hown hK hP hD hS 0 rfl rfl 0 (by decide) (hts _ (List.mem_cons_of_mem _ (List.mem_append_left _ (List.mem_of_getElem? (i := 0) rfl)))) (fun _ h9 => h9) rfl (by decide +kernel) rfl rfl (Nat.le_of_ble_eq_true rfl) dX3_standOn_2 (fun H locs hP hD hS => ?_)
  have hP : va_P Dg vwCl (z_mW cI mo 0 G D K) H := hP
  have hD : va_D _ (z_mW cI mo 0 G D K) := hD
  refine lv_iload_n hx hb dX3_standOn_5 rfl (lv_at hl 1 rfl) ?_
  refine z_rSi (v := 0) [] hx hb hml hown hts (m_X3_isShelf_f l Dg cI x_ e1) gX3_standOn_X3_isShelf rfl kdS_X3_isShelf ⟨Nat.le_of_ble_eq_true rfl, Nat.le_of_ble_eq_true rfl⟩ hK hN z_P0 rfl hl.1 rfl (Nat.le_of_ble_eq_true rfl) dX3_standOn_6 ⟨Nat.zero_le _, Nat.zero_le _⟩ ?_
  refine lv_if_eq (tgt := 20) hx hb dX3_standOn_9 (by decide) (fun c9 => ?_) (fun c9 => absurd rfl c9)
  refine lv_aload_n hx hb dX3_standOn_20 rfl (lv_at hl 0 rfl) ?_
  refine lv_iconst (v := 1) hx hb dX3_standOn_21 (by decide) ?_
  refine z_wAi (v := 0) [] hx hb hml hown hts (m_X3_no l Dg cI mo 0 G D K 1) gX3_standOn_X3_no rfl kd_X3_no ⟨Nat.le_of_ble_eq_true rfl, Nat.le_of_ble_eq_true rfl⟩ hK hN hP hD hS rfl rfl rfl rfl rfl hl.1 rfl (Nat.le_of_ble_eq_true rfl) dX3_standOn_22 ⟨Nat.zero_le _, Nat.zero_le _⟩ (fun H locs hP hD hS => ?_)
  have hP : va_P Dg vwCl (z_mW cI mo 1 G D K) H := hP
  have hD : va_D _ (z_mW cI mo 1 G D K) := hD
  exact z_ew_i rfl hP hS hx hb hr hlk dX3_standOn_25

set_option maxHeartbeats 4000000 in
set_option maxRecDepth 100000 in
theorem m_X3_standOn (l : Launch) (Dg : va_G) (cI : ClassId) (mo : Nat → Nat) (th : Int32) (G : z_GG) (D : z_DD) (K : Nat → Int32) (s_ : Nat) (hs4 : s_ < 4) (hG : z_WG G) (hW : z_WD G D) : z_Mw l yX3_standOn wsX3_standOn 2 44 [.ref (mo 0), .int (nI s_)] Dg cI (z_mW cI mo th G D K) (some (.int (nI (z_on G D s_)))) (z_mW cI mo 0 G D K) := by
  have htc : z_tc G ≤ 60 := hG.2.2.2.2.2.1
  have hbc : z_bc G ≤ 6 := hG.2.2.2.2.1
  have hsd : z_sd G ≤ 9 := hG.2.2.2.2.2.2.1
  have hod : z_od G ≤ 2 := hG.2.2.2.2.2.2.2
  refine z_sw' (own := RX3) (l0 := [(0, .ref (mo 0)), (1, .int (nI s_))]) rfl rfl (by decide) (Nat.le_of_ble_eq_true rfl) rfl ?_
  intro p e s m below meth c hx hb hr hml hts hown hlk hP hK hN hD hS ls hl
  refine lv_aload_n hx hb dX3_standOn_0 rfl (lv_at hl 0 rfl) ?_
  refine lv_iconst (v := 0) hx hb dX3_standOn_1 (by decide) ?_
  refine va_put (ci := 3) (v := .int 0) (ty := .int) (C := RX3) (T := TX3) (N := 12) hx hb hts (fun _ h => (List.mem_cons_of_mem _ (List.mem_append_right _ h))) tyX3 tyX3_ok nmX3 hown hK hP hD hS 0 rfl rfl 0 (by decide) (hts _ (List.mem_cons_of_mem _ (List.mem_append_left _ (List.mem_of_getElem? (i := 0) rfl)))) (fun _ h9 => h9) rfl (by decide +kernel) rfl rfl (Nat.le_of_ble_eq_true rfl) dX3_standOn_2 (fun H locs hP hD hS => ?_)
  have hP : va_P Dg vwCl (z_mW cI mo 0 G D K) H := hP
  have hD : va_D _ (z_mW cI mo 0 G D K) := hD
  refine lv_iload_n hx hb dX3_standOn_5 rfl (lv_at hl 1 rfl) ?_
  refine z_rSi (v := 1) [] hx hb hml hown hts (m_X3_isShelf_t l Dg cI s_ (by omega)) gX3_standOn_X3_isShelf rfl kdS_X3_isShelf ⟨Nat.le_of_ble_eq_true rfl, Nat.le_of_ble_eq_true rfl⟩ hK hN z_P0 rfl hl.1 rfl (Nat.le_of_ble_eq_true rfl) dX3_standOn_6 ⟨Nat.zero_le _, Nat.zero_le _⟩ ?_
  refine lv_if_eq (tgt := 20) hx hb dX3_standOn_9 (by decide) (fun c9 => absurd c9 (by decide)) (fun c9 => ?_)
  refine lv_aload_n hx hb dX3_standOn_12 rfl (lv_at hl 0 rfl) ?_
  refine lv_iload_n hx hb dX3_standOn_13 rfl (lv_at hl 1 rfl) ?_
  refine z_rVi (v := nI (z_on G D s_)) [] hx hb hml hown hts (m_X3_on l Dg cI mo 0 G D K s_ (by omega) hG hW) gX3_standOn_X3_on rfl kd_X3_on ⟨Nat.le_of_ble_eq_true rfl, Nat.le_of_ble_eq_true rfl⟩ hK hN hP rfl rfl rfl rfl hl.1 rfl (Nat.le_of_ble_eq_true rfl) dX3_standOn_14 ⟨Nat.zero_le _, Nat.zero_le _⟩ ?_
  refine lv_goto (tgt := 25) hx hb dX3_standOn_17 (by decide) ?_
  exact z_ew_i rfl hP hS hx hb hr hlk dX3_standOn_25

set_option maxHeartbeats 4000000 in
set_option maxRecDepth 100000 in
theorem m_X3_warmOf_x1 (l : Launch) (Dg : va_G) (cI : ClassId) (mo : Nat → Nat) (th : Int32) (G : z_GG) (D : z_DD) (K : Nat → Int32) (x_ : Int32) (e1 : ¬ (0 ≤ x_ ∧ x_ ≤ 3)) (hG : z_WG G) (hW : z_WD G D) : z_Mw l yX3_warmOf wsX3_warmOf 2 42 [.ref (mo 0), .int x_] Dg cI (z_mW cI mo th G D K) (some (.int 0)) (z_mW cI mo 1 G D K) := by
  have htc : z_tc G ≤ 60 := hG.2.2.2.2.2.1
  have hbc : z_bc G ≤ 6 := hG.2.2.2.2.1
  refine z_sw' (own := RX3) (l0 := [(0, .ref (mo 0)), (1, .int x_)]) rfl rfl (by decide) (Nat.le_of_ble_eq_true rfl) rfl ?_
  intro p e s m below meth c hx hb hr hml hts hown hlk hP hK hN hD hS ls hl
  refine lv_aload_n hx hb dX3_warmOf_0 rfl (lv_at hl 0 rfl) ?_
  refine lv_iconst (v := 0) hx hb dX3_warmOf_1 (by decide) ?_
  refine va_put (ci := 3) (v := .int 0) (ty := .int) (C := RX3) (T := TX3) (N := 12) hx hb hts (fun _ h => (List.mem_cons_of_mem _ (List.mem_append_right _ h))) tyX3 tyX3_ok nmX3 hown hK hP hD hS 0 rfl rfl 0 (by decide) (hts _ (List.mem_cons_of_mem _ (List.mem_append_left _ (List.mem_of_getElem? (i := 0) rfl)))) (fun _ h9 => h9) rfl (by decide +kernel) rfl rfl (Nat.le_of_ble_eq_true rfl) dX3_warmOf_2 (fun H locs hP hD hS => ?_)
  have hP : va_P Dg vwCl (z_mW cI mo 0 G D K) H := hP
  have hD : va_D _ (z_mW cI mo 0 G D K) := hD
  refine lv_iload_n hx hb dX3_warmOf_5 rfl (lv_at hl 1 rfl) ?_
  refine z_rSi (v := 0) [] hx hb hml hown hts (m_X3_isShelf_f l Dg cI x_ e1) gX3_warmOf_X3_isShelf rfl kdS_X3_isShelf ⟨Nat.le_of_ble_eq_true rfl, Nat.le_of_ble_eq_true rfl⟩ hK hN z_P0 rfl hl.1 rfl (Nat.le_of_ble_eq_true rfl) dX3_warmOf_6 ⟨Nat.zero_le _, Nat.zero_le _⟩ ?_
  refine lv_if_eq (tgt := 21) hx hb dX3_warmOf_9 (by decide) (fun c9 => ?_) (fun c9 => absurd rfl c9)
  refine lv_aload_n hx hb dX3_warmOf_21 rfl (lv_at hl 0 rfl) ?_
  refine lv_iconst (v := 1) hx hb dX3_warmOf_22 (by decide) ?_
  refine z_wAi (v := 0) [] hx hb hml hown hts (m_X3_no l Dg cI mo 0 G D K 1) gX3_warmOf_X3_no rfl kd_X3_no ⟨Nat.le_of_ble_eq_true rfl, Nat.le_of_ble_eq_true rfl⟩ hK hN hP hD hS rfl rfl rfl rfl rfl hl.1 rfl (Nat.le_of_ble_eq_true rfl) dX3_warmOf_23 ⟨Nat.zero_le _, Nat.zero_le _⟩ (fun H locs hP hD hS => ?_)
  have hP : va_P Dg vwCl (z_mW cI mo 1 G D K) H := hP
  have hD : va_D _ (z_mW cI mo 1 G D K) := hD
  exact z_ew_i rfl hP hS hx hb hr hlk dX3_warmOf_26

set_option maxHeartbeats 4000000 in
set_option maxRecDepth 100000 in
theorem m_X3_warmOf (l : Launch) (Dg : va_G) (cI : ClassId) (mo : Nat → Nat) (th : Int32) (G : z_GG) (D : z_DD) (K : Nat → Int32) (s_ : Nat) (hs4 : s_ < 4) (hG : z_WG G) (hW : z_WD G D) : z_Mw l yX3_warmOf wsX3_warmOf 2 42 [.ref (mo 0), .int (nI s_)] Dg cI (z_mW cI mo th G D K) (some (.int (z_wm G s_))) (z_mW cI mo 0 G D K) := by
  have htc : z_tc G ≤ 60 := hG.2.2.2.2.2.1
  have hbc : z_bc G ≤ 6 := hG.2.2.2.2.1
  have hsd : z_sd G ≤ 9 := hG.2.2.2.2.2.2.1
  have hod : z_od G ≤ 2 := hG.2.2.2.2.2.2.2
  refine z_sw' (own := RX3) (l0 := [(0, .ref (mo 0)), (1, .int (nI s_))]) rfl rfl (by decide) (Nat.le_of_ble_eq_true rfl) rfl ?_
  intro p e s m below meth c hx hb hr hml hts hown hlk hP hK hN hD hS ls hl
  refine lv_aload_n hx hb dX3_warmOf_0 rfl (lv_at hl 0 rfl) ?_
  refine lv_iconst (v := 0) hx hb dX3_warmOf_1 (by decide) ?_
  refine va_put (ci := 3) (v := .int 0) (ty := .int) (C := RX3) (T := TX3) (N := 12) hx hb hts (fun _ h => (List.mem_cons_of_mem _ (List.mem_append_right _ h))) tyX3 tyX3_ok nmX3 hown hK hP hD hS 0 rfl rfl 0 (by decide) (hts _ (List.mem_cons_of_mem _ (List.mem_append_left _ (List.mem_of_getElem? (i := 0) rfl)))) (fun _ h9 => h9) rfl (by decide +kernel) rfl rfl (Nat.le_of_ble_eq_true rfl) dX3_warmOf_2 (fun H locs hP hD hS => ?_)
  have hP : va_P Dg vwCl (z_mW cI mo 0 G D K) H := hP
  have hD : va_D _ (z_mW cI mo 0 G D K) := hD
  refine lv_iload_n hx hb dX3_warmOf_5 rfl (lv_at hl 1 rfl) ?_
  refine z_rSi (v := 1) [] hx hb hml hown hts (m_X3_isShelf_t l Dg cI s_ (by omega)) gX3_warmOf_X3_isShelf rfl kdS_X3_isShelf ⟨Nat.le_of_ble_eq_true rfl, Nat.le_of_ble_eq_true rfl⟩ hK hN z_P0 rfl hl.1 rfl (Nat.le_of_ble_eq_true rfl) dX3_warmOf_6 ⟨Nat.zero_le _, Nat.zero_le _⟩ ?_
  refine lv_if_eq (tgt := 21) hx hb dX3_warmOf_9 (by decide) (fun c9 => absurd c9 (by decide)) (fun c9 => ?_)
  refine lv_aload_n hx hb dX3_warmOf_12 rfl (lv_at hl 0 rfl) ?_
  refine va_get (ci := 3) (v := .ref (mo 3)) (C := RX3) (T := TX3) (N := 12) hx hb hts (fun _ h => (List.mem_cons_of_mem _ (List.mem_append_right _ h))) hown hK hP 0 rfl rfl 7 (by decide) (hts _ (List.mem_cons_of_mem _ (List.mem_append_left _ (List.mem_of_getElem? (i := 1) rfl)))) (fun _ h9 => h9) rfl dX3_warmOf_13 ?_
  refine lv_iload_n hx hb dX3_warmOf_16 rfl (lv_at hl 1 rfl) ?_
  refine z_iald hx hb hK hP 3 0 rfl rfl (by omega) (by decide) dX3_warmOf_17 ?_
  refine z_top (x' := z_wm G s_) rfl ?_
  refine lv_goto (tgt := 26) hx hb dX3_warmOf_18 (by decide) ?_
  exact z_ew_i rfl hP hS hx hb hr hlk dX3_warmOf_26

set_option maxHeartbeats 4000000 in
set_option maxRecDepth 100000 in
theorem m_X3_batchOf_x1 (l : Launch) (Dg : va_G) (cI : ClassId) (mo : Nat → Nat) (th : Int32) (G : z_GG) (D : z_DD) (K : Nat → Int32) (x_ : Int32) (e1 : ¬ (0 ≤ x_ ∧ x_ ≤ nI (z_tc G) - 1)) (hG : z_WG G) (hW : z_WD G D) : z_Mw l yX3_batchOf wsX3_batchOf 2 43 [.ref (mo 0), .int x_] Dg cI (z_mW cI mo th G D K) (some (.int 0)) (z_mW cI mo 1 G D K) := by
  have htc : z_tc G ≤ 60 := hG.2.2.2.2.2.1
  have hbc : z_bc G ≤ 6 := hG.2.2.2.2.1
  refine z_sw' (own := RX3) (l0 := [(0, .ref (mo 0)), (1, .int x_)]) rfl rfl (by decide) (Nat.le_of_ble_eq_true rfl) rfl ?_
  intro p e s m below meth c hx hb hr hml hts hown hlk hP hK hN hD hS ls hl
  refine lv_aload_n hx hb dX3_batchOf_0 rfl (lv_at hl 0 rfl) ?_
  refine lv_iconst (v := 0) hx hb dX3_batchOf_1 (by decide) ?_
  refine va_put (ci := 3) (v := .int 0) (ty := .int) (C := RX3) (T := TX3) (N := 12) hx hb hts (fun _ h => (List.mem_cons_of_mem _ (List.mem_append_right _ h))) tyX3 tyX3_ok nmX3 hown hK hP hD hS 0 rfl rfl 0 (by decide) (hts _ (List.mem_cons_of_mem _ (List.mem_append_left _ (List.mem_of_getElem? (i := 0) rfl)))) (fun _ h9 => h9) rfl (by decide +kernel) rfl rfl (Nat.le_of_ble_eq_true rfl) dX3_batchOf_2 (fun H locs hP hD hS => ?_)
  have hP : va_P Dg vwCl (z_mW cI mo 0 G D K) H := hP
  have hD : va_D _ (z_mW cI mo 0 G D K) := hD
  refine lv_aload_n hx hb dX3_batchOf_5 rfl (lv_at hl 0 rfl) ?_
  refine lv_iload_n hx hb dX3_batchOf_6 rfl (lv_at hl 1 rfl) ?_
  refine z_rVi (v := 0) [] hx hb hml hown hts (m_X3_isTin_f l Dg cI mo 0 G D K x_ e1) gX3_batchOf_X3_isTin rfl kd_X3_isTin ⟨Nat.le_of_ble_eq_true rfl, Nat.le_of_ble_eq_true rfl⟩ hK hN hP rfl rfl rfl rfl hl.1 rfl (Nat.le_of_ble_eq_true rfl) dX3_batchOf_7 ⟨Nat.zero_le _, Nat.zero_le _⟩ ?_
  refine lv_if_eq (tgt := 22) hx hb dX3_batchOf_10 (by decide) (fun c10 => ?_) (fun c10 => absurd rfl c10)
  refine lv_aload_n hx hb dX3_batchOf_22 rfl (lv_at hl 0 rfl) ?_
  refine lv_iconst (v := 1) hx hb dX3_batchOf_23 (by decide) ?_
  refine z_wAi (v := 0) [] hx hb hml hown hts (m_X3_no l Dg cI mo 0 G D K 1) gX3_batchOf_X3_no rfl kd_X3_no ⟨Nat.le_of_ble_eq_true rfl, Nat.le_of_ble_eq_true rfl⟩ hK hN hP hD hS rfl rfl rfl rfl rfl hl.1 rfl (Nat.le_of_ble_eq_true rfl) dX3_batchOf_24 ⟨Nat.zero_le _, Nat.zero_le _⟩ (fun H locs hP hD hS => ?_)
  have hP : va_P Dg vwCl (z_mW cI mo 1 G D K) H := hP
  have hD : va_D _ (z_mW cI mo 1 G D K) := hD
  exact z_ew_i rfl hP hS hx hb hr hlk dX3_batchOf_27

set_option maxHeartbeats 4000000 in
set_option maxRecDepth 100000 in
theorem m_X3_batchOf (l : Launch) (Dg : va_G) (cI : ClassId) (mo : Nat → Nat) (th : Int32) (G : z_GG) (D : z_DD) (K : Nat → Int32) (t : Nat) (ht : t < z_tc G) (hG : z_WG G) (hW : z_WD G D) : z_Mw l yX3_batchOf wsX3_batchOf 2 43 [.ref (mo 0), .int (nI t)] Dg cI (z_mW cI mo th G D K) (some (.int (nI (z_bt G t)))) (z_mW cI mo 0 G D K) := by
  have htc : z_tc G ≤ 60 := hG.2.2.2.2.2.1
  have hbc : z_bc G ≤ 6 := hG.2.2.2.2.1
  have hsd : z_sd G ≤ 9 := hG.2.2.2.2.2.2.1
  have hod : z_od G ≤ 2 := hG.2.2.2.2.2.2.2
  have hpl := hW t ht
  have hbt := hG.2.2.1 t
  have hsh := hG.2.2.2.1 t
  refine z_sw' (own := RX3) (l0 := [(0, .ref (mo 0)), (1, .int (nI t))]) rfl rfl (by decide) (Nat.le_of_ble_eq_true rfl) rfl ?_
  intro p e s m below meth c hx hb hr hml hts hown hlk hP hK hN hD hS ls hl
  refine lv_aload_n hx hb dX3_batchOf_0 rfl (lv_at hl 0 rfl) ?_
  refine lv_iconst (v := 0) hx hb dX3_batchOf_1 (by decide) ?_
  refine va_put (ci := 3) (v := .int 0) (ty := .int) (C := RX3) (T := TX3) (N := 12) hx hb hts (fun _ h => (List.mem_cons_of_mem _ (List.mem_append_right _ h))) tyX3 tyX3_ok nmX3 hown hK hP hD hS 0 rfl rfl 0 (by decide) (hts _ (List.mem_cons_of_mem _ (List.mem_append_left _ (List.mem_of_getElem? (i := 0) rfl)))) (fun _ h9 => h9) rfl (by decide +kernel) rfl rfl (Nat.le_of_ble_eq_true rfl) dX3_batchOf_2 (fun H locs hP hD hS => ?_)
  have hP : va_P Dg vwCl (z_mW cI mo 0 G D K) H := hP
  have hD : va_D _ (z_mW cI mo 0 G D K) := hD
  refine lv_aload_n hx hb dX3_batchOf_5 rfl (lv_at hl 0 rfl) ?_
  refine lv_iload_n hx hb dX3_batchOf_6 rfl (lv_at hl 1 rfl) ?_
  refine z_rVi (v := 1) [] hx hb hml hown hts (m_X3_isTin_t l Dg cI mo 0 G D K t (by omega) hG) gX3_batchOf_X3_isTin rfl kd_X3_isTin ⟨Nat.le_of_ble_eq_true rfl, Nat.le_of_ble_eq_true rfl⟩ hK hN hP rfl rfl rfl rfl hl.1 rfl (Nat.le_of_ble_eq_true rfl) dX3_batchOf_7 ⟨Nat.zero_le _, Nat.zero_le _⟩ ?_
  refine lv_if_eq (tgt := 22) hx hb dX3_batchOf_10 (by decide) (fun c10 => absurd c10 (by decide)) (fun c10 => ?_)
  refine lv_aload_n hx hb dX3_batchOf_13 rfl (lv_at hl 0 rfl) ?_
  refine va_get (ci := 3) (v := .ref (mo 4)) (C := RX3) (T := TX3) (N := 12) hx hb hts (fun _ h => (List.mem_cons_of_mem _ (List.mem_append_right _ h))) hown hK hP 0 rfl rfl 8 (by decide) (hts _ (List.mem_cons_of_mem _ (List.mem_append_left _ (List.mem_of_getElem? (i := 1) rfl)))) (fun _ h9 => h9) rfl dX3_batchOf_14 ?_
  refine lv_iload_n hx hb dX3_batchOf_17 rfl (lv_at hl 1 rfl) ?_
  refine z_iald hx hb hK hP 4 0 rfl rfl (by omega) (by decide) dX3_batchOf_18 ?_
  refine z_top (x' := nI (z_bt G t)) rfl ?_
  refine lv_goto (tgt := 27) hx hb dX3_batchOf_19 (by decide) ?_
  exact z_ew_i rfl hP hS hx hb hr hlk dX3_batchOf_27

set_option maxHeartbeats 4000000 in
set_option maxRecDepth 100000 in
theorem m_X3_shelfOf_x1 (l : Launch) (Dg : va_G) (cI : ClassId) (mo : Nat → Nat) (th : Int32) (G : z_GG) (D : z_DD) (K : Nat → Int32) (x_ : Int32) (e1 : ¬ (0 ≤ x_ ∧ x_ ≤ nI (z_tc G) - 1)) (hG : z_WG G) (hW : z_WD G D) : z_Mw l yX3_shelfOf wsX3_shelfOf 2 43 [.ref (mo 0), .int x_] Dg cI (z_mW cI mo th G D K) (some (.int 0)) (z_mW cI mo 1 G D K) := by
  have htc : z_tc G ≤ 60 := hG.2.2.2.2.2.1
  have hbc : z_bc G ≤ 6 := hG.2.2.2.2.1
  refine z_sw' (own := RX3) (l0 := [(0, .ref (mo 0)), (1, .int x_)]) rfl rfl (by decide) (Nat.le_of_ble_eq_true rfl) rfl ?_
  intro p e s m below meth c hx hb hr hml hts hown hlk hP hK hN hD hS ls hl
  refine lv_aload_n hx hb dX3_shelfOf_0 rfl (lv_at hl 0 rfl) ?_
  refine lv_iconst (v := 0) hx hb dX3_shelfOf_1 (by decide) ?_
  refine va_put (ci := 3) (v := .int 0) (ty := .int) (C := RX3) (T := TX3) (N := 12) hx hb hts (fun _ h => (List.mem_cons_of_mem _ (List.mem_append_right _ h))) tyX3 tyX3_ok nmX3 hown hK hP hD hS 0 rfl rfl 0 (by decide) (hts _ (List.mem_cons_of_mem _ (List.mem_append_left _ (List.mem_of_getElem? (i := 0) rfl)))) (fun _ h9 => h9) rfl (by decide +kernel) rfl rfl (Nat.le_of_ble_eq_true rfl) dX3_shelfOf_2 (fun H locs hP hD hS => ?_)
  have hP : va_P Dg vwCl (z_mW cI mo 0 G D K) H := hP
  have hD : va_D _ (z_mW cI mo 0 G D K) := hD
  refine lv_aload_n hx hb dX3_shelfOf_5 rfl (lv_at hl 0 rfl) ?_
  refine lv_iload_n hx hb dX3_shelfOf_6 rfl (lv_at hl 1 rfl) ?_
  refine z_rVi (v := 0) [] hx hb hml hown hts (m_X3_isTin_f l Dg cI mo 0 G D K x_ e1) gX3_shelfOf_X3_isTin rfl kd_X3_isTin ⟨Nat.le_of_ble_eq_true rfl, Nat.le_of_ble_eq_true rfl⟩ hK hN hP rfl rfl rfl rfl hl.1 rfl (Nat.le_of_ble_eq_true rfl) dX3_shelfOf_7 ⟨Nat.zero_le _, Nat.zero_le _⟩ ?_
  refine lv_if_eq (tgt := 21) hx hb dX3_shelfOf_10 (by decide) (fun c10 => ?_) (fun c10 => absurd rfl c10)
  refine lv_aload_n hx hb dX3_shelfOf_21 rfl (lv_at hl 0 rfl) ?_
  refine lv_iconst (v := 1) hx hb dX3_shelfOf_22 (by decide) ?_
  refine z_wAi (v := 0) [] hx hb hml hown hts (m_X3_no l Dg cI mo 0 G D K 1) gX3_shelfOf_X3_no rfl kd_X3_no ⟨Nat.le_of_ble_eq_true rfl, Nat.le_of_ble_eq_true rfl⟩ hK hN hP hD hS rfl rfl rfl rfl rfl hl.1 rfl (Nat.le_of_ble_eq_true rfl) dX3_shelfOf_23 ⟨Nat.zero_le _, Nat.zero_le _⟩ (fun H locs hP hD hS => ?_)
  have hP : va_P Dg vwCl (z_mW cI mo 1 G D K) H := hP
  have hD : va_D _ (z_mW cI mo 1 G D K) := hD
  exact z_ew_i rfl hP hS hx hb hr hlk dX3_shelfOf_26

set_option maxHeartbeats 4000000 in
set_option maxRecDepth 100000 in
theorem m_X3_shelfOf (l : Launch) (Dg : va_G) (cI : ClassId) (mo : Nat → Nat) (th : Int32) (G : z_GG) (D : z_DD) (K : Nat → Int32) (t : Nat) (ht : t < z_tc G) (hG : z_WG G) (hW : z_WD G D) : z_Mw l yX3_shelfOf wsX3_shelfOf 2 43 [.ref (mo 0), .int (nI t)] Dg cI (z_mW cI mo th G D K) (some (.int (z_shf G D t))) (z_mW cI mo 0 G D K) := by
  have htc : z_tc G ≤ 60 := hG.2.2.2.2.2.1
  have hbc : z_bc G ≤ 6 := hG.2.2.2.2.1
  have hsd : z_sd G ≤ 9 := hG.2.2.2.2.2.2.1
  have hod : z_od G ≤ 2 := hG.2.2.2.2.2.2.2
  have hpl := hW t ht
  have hbt := hG.2.2.1 t
  have hsh := hG.2.2.2.1 t
  refine z_sw' (own := RX3) (l0 := [(0, .ref (mo 0)), (1, .int (nI t))]) rfl rfl (by decide) (Nat.le_of_ble_eq_true rfl) rfl ?_
  intro p e s m below meth c hx hb hr hml hts hown hlk hP hK hN hD hS ls hl
  refine lv_aload_n hx hb dX3_shelfOf_0 rfl (lv_at hl 0 rfl) ?_
  refine lv_iconst (v := 0) hx hb dX3_shelfOf_1 (by decide) ?_
  refine va_put (ci := 3) (v := .int 0) (ty := .int) (C := RX3) (T := TX3) (N := 12) hx hb hts (fun _ h => (List.mem_cons_of_mem _ (List.mem_append_right _ h))) tyX3 tyX3_ok nmX3 hown hK hP hD hS 0 rfl rfl 0 (by decide) (hts _ (List.mem_cons_of_mem _ (List.mem_append_left _ (List.mem_of_getElem? (i := 0) rfl)))) (fun _ h9 => h9) rfl (by decide +kernel) rfl rfl (Nat.le_of_ble_eq_true rfl) dX3_shelfOf_2 (fun H locs hP hD hS => ?_)
  have hP : va_P Dg vwCl (z_mW cI mo 0 G D K) H := hP
  have hD : va_D _ (z_mW cI mo 0 G D K) := hD
  refine lv_aload_n hx hb dX3_shelfOf_5 rfl (lv_at hl 0 rfl) ?_
  refine lv_iload_n hx hb dX3_shelfOf_6 rfl (lv_at hl 1 rfl) ?_
  refine z_rVi (v := 1) [] hx hb hml hown hts (m_X3_isTin_t l Dg cI mo 0 G D K t (by omega) hG) gX3_shelfOf_X3_isTin rfl kd_X3_isTin ⟨Nat.le_of_ble_eq_true rfl, Nat.le_of_ble_eq_true rfl⟩ hK hN hP rfl rfl rfl rfl hl.1 rfl (Nat.le_of_ble_eq_true rfl) dX3_shelfOf_7 ⟨Nat.zero_le _, Nat.zero_le _⟩ ?_
  refine lv_if_eq (tgt := 21) hx hb dX3_shelfOf_10 (by decide) (fun c10 => absurd c10 (by decide)) (fun c10 => ?_)
  refine lv_aload_n hx hb dX3_shelfOf_13 rfl (lv_at hl 0 rfl) ?_
  refine lv_iload_n hx hb dX3_shelfOf_14 rfl (lv_at hl 1 rfl) ?_
  refine z_rVi (v := z_shf G D t) [] hx hb hml hown hts (m_X3_place l Dg cI mo 0 G D K t (by omega) hG hW) gX3_shelfOf_X3_place rfl kd_X3_place ⟨Nat.le_of_ble_eq_true rfl, Nat.le_of_ble_eq_true rfl⟩ hK hN hP rfl rfl rfl rfl hl.1 rfl (Nat.le_of_ble_eq_true rfl) dX3_shelfOf_15 ⟨Nat.zero_le _, Nat.zero_le _⟩ ?_
  refine lv_goto (tgt := 26) hx hb dX3_shelfOf_18 (by decide) ?_
  exact z_ew_i rfl hP hS hx hb hr hlk dX3_shelfOf_26

set_option maxHeartbeats 4000000 in
set_option maxRecDepth 100000 in
theorem m_X3_vacuumOf_x1 (l : Launch) (Dg : va_G) (cI : ClassId) (mo : Nat → Nat) (th : Int32) (G : z_GG) (D : z_DD) (K : Nat → Int32) (x_ : Int32) (e1 : ¬ (0 ≤ x_ ∧ x_ ≤ nI (z_tc G) - 1)) (hG : z_WG G) (hW : z_WD G D) : z_Mw l yX3_vacuumOf wsX3_vacuumOf 2 43 [.ref (mo 0), .int x_] Dg cI (z_mW cI mo th G D K) (some (.int 0)) (z_mW cI mo 1 G D K) := by
  have htc : z_tc G ≤ 60 := hG.2.2.2.2.2.1
  have hbc : z_bc G ≤ 6 := hG.2.2.2.2.1
  refine z_sw' (own := RX3) (l0 := [(0, .ref (mo 0)), (1, .int x_)]) rfl rfl (by decide) (Nat.le_of_ble_eq_true rfl) rfl ?_
  intro p e s m below meth c hx hb hr hml hts hown hlk hP hK hN hD hS ls hl
  refine lv_aload_n hx hb dX3_vacuumOf_0 rfl (lv_at hl 0 rfl) ?_
  refine lv_iconst (v := 0) hx hb dX3_vacuumOf_1 (by decide) ?_
  refine va_put (ci := 3) (v := .int 0) (ty := .int) (C := RX3) (T := TX3) (N := 12) hx hb hts (fun _ h => (List.mem_cons_of_mem _ (List.mem_append_right _ h))) tyX3 tyX3_ok nmX3 hown hK hP hD hS 0 rfl rfl 0 (by decide) (hts _ (List.mem_cons_of_mem _ (List.mem_append_left _ (List.mem_of_getElem? (i := 0) rfl)))) (fun _ h9 => h9) rfl (by decide +kernel) rfl rfl (Nat.le_of_ble_eq_true rfl) dX3_vacuumOf_2 (fun H locs hP hD hS => ?_)
  have hP : va_P Dg vwCl (z_mW cI mo 0 G D K) H := hP
  have hD : va_D _ (z_mW cI mo 0 G D K) := hD
  refine lv_aload_n hx hb dX3_vacuumOf_5 rfl (lv_at hl 0 rfl) ?_
  refine lv_iload_n hx hb dX3_vacuumOf_6 rfl (lv_at hl 1 rfl) ?_
  refine z_rVi (v := 0) [] hx hb hml hown hts (m_X3_isTin_f l Dg cI mo 0 G D K x_ e1) gX3_vacuumOf_X3_isTin rfl kd_X3_isTin ⟨Nat.le_of_ble_eq_true rfl, Nat.le_of_ble_eq_true rfl⟩ hK hN hP rfl rfl rfl rfl hl.1 rfl (Nat.le_of_ble_eq_true rfl) dX3_vacuumOf_7 ⟨Nat.zero_le _, Nat.zero_le _⟩ ?_
  refine lv_if_eq (tgt := 25) hx hb dX3_vacuumOf_10 (by decide) (fun c10 => ?_) (fun c10 => absurd rfl c10)
  refine lv_aload_n hx hb dX3_vacuumOf_25 rfl (lv_at hl 0 rfl) ?_
  refine lv_iconst (v := 1) hx hb dX3_vacuumOf_26 (by decide) ?_
  refine z_wAi (v := 0) [] hx hb hml hown hts (m_X3_no l Dg cI mo 0 G D K 1) gX3_vacuumOf_X3_no rfl kd_X3_no ⟨Nat.le_of_ble_eq_true rfl, Nat.le_of_ble_eq_true rfl⟩ hK hN hP hD hS rfl rfl rfl rfl rfl hl.1 rfl (Nat.le_of_ble_eq_true rfl) dX3_vacuumOf_27 ⟨Nat.zero_le _, Nat.zero_le _⟩ (fun H locs hP hD hS => ?_)
  have hP : va_P Dg vwCl (z_mW cI mo 1 G D K) H := hP
  have hD : va_D _ (z_mW cI mo 1 G D K) := hD
  exact z_ew_i rfl hP hS hx hb hr hlk dX3_vacuumOf_30

set_option maxHeartbeats 4000000 in
set_option maxRecDepth 100000 in
theorem m_X3_vacuumOf (l : Launch) (Dg : va_G) (cI : ClassId) (mo : Nat → Nat) (th : Int32) (G : z_GG) (D : z_DD) (K : Nat → Int32) (t : Nat) (ht : t < z_tc G) (hG : z_WG G) (hW : z_WD G D) : z_Mw l yX3_vacuumOf wsX3_vacuumOf 2 43 [.ref (mo 0), .int (nI t)] Dg cI (z_mW cI mo th G D K) (some (.int (z_vc D t))) (z_mW cI mo 0 G D K) := by
  have htc : z_tc G ≤ 60 := hG.2.2.2.2.2.1
  have hbc : z_bc G ≤ 6 := hG.2.2.2.2.1
  have hsd : z_sd G ≤ 9 := hG.2.2.2.2.2.2.1
  have hod : z_od G ≤ 2 := hG.2.2.2.2.2.2.2
  have hpl := hW t ht
  have hbt := hG.2.2.1 t
  have hsh := hG.2.2.2.1 t
  refine z_sw' (own := RX3) (l0 := [(0, .ref (mo 0)), (1, .int (nI t))]) rfl rfl (by decide) (Nat.le_of_ble_eq_true rfl) rfl ?_
  intro p e s m below meth c hx hb hr hml hts hown hlk hP hK hN hD hS ls hl
  refine lv_aload_n hx hb dX3_vacuumOf_0 rfl (lv_at hl 0 rfl) ?_
  refine lv_iconst (v := 0) hx hb dX3_vacuumOf_1 (by decide) ?_
  refine va_put (ci := 3) (v := .int 0) (ty := .int) (C := RX3) (T := TX3) (N := 12) hx hb hts (fun _ h => (List.mem_cons_of_mem _ (List.mem_append_right _ h))) tyX3 tyX3_ok nmX3 hown hK hP hD hS 0 rfl rfl 0 (by decide) (hts _ (List.mem_cons_of_mem _ (List.mem_append_left _ (List.mem_of_getElem? (i := 0) rfl)))) (fun _ h9 => h9) rfl (by decide +kernel) rfl rfl (Nat.le_of_ble_eq_true rfl) dX3_vacuumOf_2 (fun H locs hP hD hS => ?_)
  have hP : va_P Dg vwCl (z_mW cI mo 0 G D K) H := hP
  have hD : va_D _ (z_mW cI mo 0 G D K) := hD
  refine lv_aload_n hx hb dX3_vacuumOf_5 rfl (lv_at hl 0 rfl) ?_
  refine lv_iload_n hx hb dX3_vacuumOf_6 rfl (lv_at hl 1 rfl) ?_
  refine z_rVi (v := 1) [] hx hb hml hown hts (m_X3_isTin_t l Dg cI mo 0 G D K t (by omega) hG) gX3_vacuumOf_X3_isTin rfl kd_X3_isTin ⟨Nat.le_of_ble_eq_true rfl, Nat.le_of_ble_eq_true rfl⟩ hK hN hP rfl rfl rfl rfl hl.1 rfl (Nat.le_of_ble_eq_true rfl) dX3_vacuumOf_7 ⟨Nat.zero_le _, Nat.zero_le _⟩ ?_
  refine lv_if_eq (tgt := 25) hx hb dX3_vacuumOf_10 (by decide) (fun c10 => absurd c10 (by decide)) (fun c10 => ?_)
  refine lv_aload_n hx hb dX3_vacuumOf_13 rfl (lv_at hl 0 rfl) ?_
  refine va_get (ci := 3) (v := .ref (mo 6)) (C := RX3) (T := TX3) (N := 12) hx hb hts (fun _ h => (List.mem_cons_of_mem _ (List.mem_append_right _ h))) hown hK hP 0 rfl rfl 10 (by decide) (hts _ (List.mem_cons_of_mem _ (List.mem_append_left _ (List.mem_of_getElem? (i := 1) rfl)))) (fun _ h9 => h9) rfl dX3_vacuumOf_14 ?_
  refine lv_bipush (v := nI 73) hx hb dX3_vacuumOf_17 (by decide) ?_
  refine lv_iload_n hx hb dX3_vacuumOf_19 rfl (lv_at hl 1 rfl) ?_
  refine lv_iadd hx hb dX3_vacuumOf_20 ?_
  refine z_top (x' := nI (73 + t)) (nI_add _ _) ?_
  refine z_iald hx hb hK hP 6 0 rfl rfl (by omega) (by decide) dX3_vacuumOf_21 ?_
  refine z_top (x' := z_vc D t) (z_nw_vc _ _) ?_
  refine lv_goto (tgt := 30) hx hb dX3_vacuumOf_22 (by decide) ?_
  exact z_ew_i rfl hP hS hx hb hr hlk dX3_vacuumOf_30

set_option maxHeartbeats 4000000 in
set_option maxRecDepth 100000 in
theorem m_X3_isShipped_x1 (l : Launch) (Dg : va_G) (cI : ClassId) (mo : Nat → Nat) (th : Int32) (G : z_GG) (D : z_DD) (K : Nat → Int32) (x_ : Int32) (e1 : ¬ (0 ≤ x_ ∧ x_ ≤ nI (z_tc G) - 1)) (hG : z_WG G) (hW : z_WD G D) : z_Mw l yX3_isShipped wsX3_isShipped 3 65 [.ref (mo 0), .int x_] Dg cI (z_mW cI mo th G D K) (some (.int (z_bI false))) (z_mW cI mo 1 G D K) := by
  have htc : z_tc G ≤ 60 := hG.2.2.2.2.2.1
  have hbc : z_bc G ≤ 6 := hG.2.2.2.2.1
  refine z_sw' (own := RX3) (l0 := [(0, .ref (mo 0)), (1, .int x_)]) rfl rfl (by decide) (Nat.le_of_ble_eq_true rfl) rfl ?_
  intro p e s m below meth c hx hb hr hml hts hown hlk hP hK hN hD hS ls hl
  refine lv_aload_n hx hb dX3_isShipped_0 rfl (lv_at hl 0 rfl) ?_
  refine lv_iload_n hx hb dX3_isShipped_1 rfl (lv_at hl 1 rfl) ?_
  refine lv_iconst (v := 1) hx hb dX3_isShipped_2 (by decide) ?_
  refine z_wAi (v := z_bI false) [] hx hb hml hown hts (m_X3_is_x1 l Dg cI mo th G D K x_ 1 e1) gX3_isShipped_X3_is rfl kd_X3_is ⟨Nat.le_of_ble_eq_true rfl, Nat.le_of_ble_eq_true rfl⟩ hK hN hP hD hS rfl rfl rfl rfl rfl hl.1 rfl (Nat.le_of_ble_eq_true rfl) dX3_isShipped_3 ⟨Nat.zero_le _, Nat.zero_le _⟩ (fun H locs hP hD hS => ?_)
  have hP : va_P Dg vwCl (z_mW cI mo 1 G D K) H := hP
  have hD : va_D _ (z_mW cI mo 1 G D K) := hD
  exact z_ew_z rfl hP hS hx hb hr hlk dX3_isShipped_6

set_option maxHeartbeats 4000000 in
set_option maxRecDepth 100000 in
theorem m_X3_isShipped (l : Launch) (Dg : va_G) (cI : ClassId) (mo : Nat → Nat) (th : Int32) (G : z_GG) (D : z_DD) (K : Nat → Int32) (t : Nat) (ht : t < z_tc G) (hG : z_WG G) (hW : z_WD G D) : z_Mw l yX3_isShipped wsX3_isShipped 3 65 [.ref (mo 0), .int (nI t)] Dg cI (z_mW cI mo th G D K) (some (.int (z_bI (z_pl D t == 2)))) (z_mW cI mo 0 G D K) := by
  have htc : z_tc G ≤ 60 := hG.2.2.2.2.2.1
  have hbc : z_bc G ≤ 6 := hG.2.2.2.2.1
  have hsd : z_sd G ≤ 9 := hG.2.2.2.2.2.2.1
  have hod : z_od G ≤ 2 := hG.2.2.2.2.2.2.2
  have hpl := hW t ht
  have hbt := hG.2.2.1 t
  have hsh := hG.2.2.2.1 t
  refine z_sw' (own := RX3) (l0 := [(0, .ref (mo 0)), (1, .int (nI t))]) rfl rfl (by decide) (Nat.le_of_ble_eq_true rfl) rfl ?_
  intro p e s m below meth c hx hb hr hml hts hown hlk hP hK hN hD hS ls hl
  refine lv_aload_n hx hb dX3_isShipped_0 rfl (lv_at hl 0 rfl) ?_
  refine lv_iload_n hx hb dX3_isShipped_1 rfl (lv_at hl 1 rfl) ?_
  refine lv_iconst (v := nI 1) hx hb dX3_isShipped_2 (by decide) ?_
  refine z_wAi (v := z_bI (z_pl D t == 2)) [] hx hb hml hown hts (m_X3_is_ok l Dg cI mo th G D K t 1 (by omega) (by decide) hG hW) gX3_isShipped_X3_is rfl kd_X3_is ⟨Nat.le_of_ble_eq_true rfl, Nat.le_of_ble_eq_true rfl⟩ hK hN hP hD hS rfl rfl rfl rfl rfl hl.1 rfl (Nat.le_of_ble_eq_true rfl) dX3_isShipped_3 ⟨Nat.zero_le _, Nat.zero_le _⟩ (fun H locs hP hD hS => ?_)
  have hP : va_P Dg vwCl (z_mW cI mo 0 G D K) H := hP
  have hD : va_D _ (z_mW cI mo 0 G D K) := hD
  exact z_ew_z rfl hP hS hx hb hr hlk dX3_isShipped_6

set_option maxHeartbeats 4000000 in
set_option maxRecDepth 100000 in
theorem m_X3_isLost_x1 (l : Launch) (Dg : va_G) (cI : ClassId) (mo : Nat → Nat) (th : Int32) (G : z_GG) (D : z_DD) (K : Nat → Int32) (x_ : Int32) (e1 : ¬ (0 ≤ x_ ∧ x_ ≤ nI (z_tc G) - 1)) (hG : z_WG G) (hW : z_WD G D) : z_Mw l yX3_isLost wsX3_isLost 3 65 [.ref (mo 0), .int x_] Dg cI (z_mW cI mo th G D K) (some (.int (z_bI false))) (z_mW cI mo 1 G D K) := by
  have htc : z_tc G ≤ 60 := hG.2.2.2.2.2.1
  have hbc : z_bc G ≤ 6 := hG.2.2.2.2.1
  refine z_sw' (own := RX3) (l0 := [(0, .ref (mo 0)), (1, .int x_)]) rfl rfl (by decide) (Nat.le_of_ble_eq_true rfl) rfl ?_
  intro p e s m below meth c hx hb hr hml hts hown hlk hP hK hN hD hS ls hl
  refine lv_aload_n hx hb dX3_isLost_0 rfl (lv_at hl 0 rfl) ?_
  refine lv_iload_n hx hb dX3_isLost_1 rfl (lv_at hl 1 rfl) ?_
  refine lv_iconst (v := 2) hx hb dX3_isLost_2 (by decide) ?_
  refine z_wAi (v := z_bI false) [] hx hb hml hown hts (m_X3_is_x1 l Dg cI mo th G D K x_ 2 e1) gX3_isLost_X3_is rfl kd_X3_is ⟨Nat.le_of_ble_eq_true rfl, Nat.le_of_ble_eq_true rfl⟩ hK hN hP hD hS rfl rfl rfl rfl rfl hl.1 rfl (Nat.le_of_ble_eq_true rfl) dX3_isLost_3 ⟨Nat.zero_le _, Nat.zero_le _⟩ (fun H locs hP hD hS => ?_)
  have hP : va_P Dg vwCl (z_mW cI mo 1 G D K) H := hP
  have hD : va_D _ (z_mW cI mo 1 G D K) := hD
  exact z_ew_z rfl hP hS hx hb hr hlk dX3_isLost_6

set_option maxHeartbeats 4000000 in
set_option maxRecDepth 100000 in
theorem m_X3_isLost (l : Launch) (Dg : va_G) (cI : ClassId) (mo : Nat → Nat) (th : Int32) (G : z_GG) (D : z_DD) (K : Nat → Int32) (t : Nat) (ht : t < z_tc G) (hG : z_WG G) (hW : z_WD G D) : z_Mw l yX3_isLost wsX3_isLost 3 65 [.ref (mo 0), .int (nI t)] Dg cI (z_mW cI mo th G D K) (some (.int (z_bI (z_pl D t == 3)))) (z_mW cI mo 0 G D K) := by
  have htc : z_tc G ≤ 60 := hG.2.2.2.2.2.1
  have hbc : z_bc G ≤ 6 := hG.2.2.2.2.1
  have hsd : z_sd G ≤ 9 := hG.2.2.2.2.2.2.1
  have hod : z_od G ≤ 2 := hG.2.2.2.2.2.2.2
  have hpl := hW t ht
  have hbt := hG.2.2.1 t
  have hsh := hG.2.2.2.1 t
  refine z_sw' (own := RX3) (l0 := [(0, .ref (mo 0)), (1, .int (nI t))]) rfl rfl (by decide) (Nat.le_of_ble_eq_true rfl) rfl ?_
  intro p e s m below meth c hx hb hr hml hts hown hlk hP hK hN hD hS ls hl
  refine lv_aload_n hx hb dX3_isLost_0 rfl (lv_at hl 0 rfl) ?_
  refine lv_iload_n hx hb dX3_isLost_1 rfl (lv_at hl 1 rfl) ?_
  refine lv_iconst (v := nI 2) hx hb dX3_isLost_2 (by decide) ?_
  refine z_wAi (v := z_bI (z_pl D t == 3)) [] hx hb hml hown hts (m_X3_is_ok l Dg cI mo th G D K t 2 (by omega) (by decide) hG hW) gX3_isLost_X3_is rfl kd_X3_is ⟨Nat.le_of_ble_eq_true rfl, Nat.le_of_ble_eq_true rfl⟩ hK hN hP hD hS rfl rfl rfl rfl rfl hl.1 rfl (Nat.le_of_ble_eq_true rfl) dX3_isLost_3 ⟨Nat.zero_le _, Nat.zero_le _⟩ (fun H locs hP hD hS => ?_)
  have hP : va_P Dg vwCl (z_mW cI mo 0 G D K) H := hP
  have hD : va_D _ (z_mW cI mo 0 G D K) := hD
  exact z_ew_z rfl hP hS hx hb hr hlk dX3_isLost_6

set_option maxHeartbeats 4000000 in
set_option maxRecDepth 100000 in
theorem m_X3_daysOf_x1 (l : Launch) (Dg : va_G) (cI : ClassId) (mo : Nat → Nat) (th : Int32) (G : z_GG) (D : z_DD) (K : Nat → Int32) (x_ : Int32) (e1 : ¬ (0 ≤ x_ ∧ x_ ≤ nI (z_tc G) - 1)) (hG : z_WG G) (hW : z_WD G D) : z_Mw l yX3_daysOf wsX3_daysOf 2 45 [.ref (mo 0), .int x_] Dg cI (z_mW cI mo th G D K) (some (.int 0)) (z_mW cI mo 1 G D K) := by
  have htc : z_tc G ≤ 60 := hG.2.2.2.2.2.1
  have hbc : z_bc G ≤ 6 := hG.2.2.2.2.1
  refine z_sw' (own := RX3) (l0 := [(0, .ref (mo 0)), (1, .int x_)]) rfl rfl (by decide) (Nat.le_of_ble_eq_true rfl) rfl ?_
  intro p e s m below meth c hx hb hr hml hts hown hlk hP hK hN hD hS ls hl
  refine lv_aload_n hx hb dX3_daysOf_0 rfl (lv_at hl 0 rfl) ?_
  refine lv_iconst (v := 0) hx hb dX3_daysOf_1 (by decide) ?_
  refine va_put (ci := 3) (v := .int 0) (ty := .int) (C := RX3) (T := TX3) (N := 12) hx hb hts (fun _ h => (List.mem_cons_of_mem _ (List.mem_append_right _ h))) tyX3 tyX3_ok nmX3 hown hK hP hD hS 0 rfl rfl 0 (by decide) (hts _ (List.mem_cons_of_mem _ (List.mem_append_left _ (List.mem_append_left _ (List.mem_of_getElem? (i := 0) rfl))))) (fun _ h9 => h9) rfl (by decide +kernel) rfl rfl (Nat.le_of_ble_eq_true rfl) dX3_daysOf_2 (fun H locs hP hD hS => ?_)
  have hP : va_P Dg vwCl (z_mW cI mo 0 G D K) H := hP
  have hD : va_D _ (z_mW cI mo 0 G D K) := hD
  refine lv_aload_n hx hb dX3_daysOf_5 rfl (lv_at hl 0 rfl) ?_
  refine lv_iload_n hx hb dX3_daysOf_6 rfl (lv_at hl 1 rfl) ?_
  refine z_rVi (v := 0) [] hx hb hml hown hts (m_X3_isTin_f l Dg cI mo 0 G D K x_ e1) gX3_daysOf_X3_isTin rfl kd_X3_isTin ⟨Nat.le_of_ble_eq_true rfl, Nat.le_of_ble_eq_true rfl⟩ hK hN hP rfl rfl rfl rfl hl.1 rfl (Nat.le_of_ble_eq_true rfl) dX3_daysOf_7 ⟨Nat.zero_le _, Nat.zero_le _⟩ ?_
  refine lv_if_ne (tgt := 19) hx hb dX3_daysOf_10 (by decide) (fun c10 => absurd rfl c10) (fun c10 => ?_)
  refine lv_aload_n hx hb dX3_daysOf_13 rfl (lv_at hl 0 rfl) ?_
  refine lv_iconst (v := 1) hx hb dX3_daysOf_14 (by decide) ?_
  refine z_wAi (v := 0) [] hx hb hml hown hts (m_X3_no l Dg cI mo 0 G D K 1) gX3_daysOf_X3_no rfl kd_X3_no ⟨Nat.le_of_ble_eq_true rfl, Nat.le_of_ble_eq_true rfl⟩ hK hN hP hD hS rfl rfl rfl rfl rfl hl.1 rfl (Nat.le_of_ble_eq_true rfl) dX3_daysOf_15 ⟨Nat.zero_le _, Nat.zero_le _⟩ (fun H locs hP hD hS => ?_)
  have hP : va_P Dg vwCl (z_mW cI mo 1 G D K) H := hP
  have hD : va_D _ (z_mW cI mo 1 G D K) := hD
  exact z_ew_i rfl hP hS hx hb hr hlk dX3_daysOf_18

set_option maxHeartbeats 4000000 in
set_option maxRecDepth 100000 in
theorem m_X3_daysOf (l : Launch) (Dg : va_G) (cI : ClassId) (mo : Nat → Nat) (th : Int32) (G : z_GG) (D : z_DD) (K : Nat → Int32) (t : Nat) (ht : t < z_tc G) (hG : z_WG G) (hW : z_WD G D) : z_Mw l yX3_daysOf wsX3_daysOf 2 45 [.ref (mo 0), .int (nI t)] Dg cI (z_mW cI mo th G D K) (some (.int (z_dof G D t))) (z_mW cI mo 0 G D K) := by
  have htc : z_tc G ≤ 60 := hG.2.2.2.2.2.1
  have hbc : z_bc G ≤ 6 := hG.2.2.2.2.1
  have hsd : z_sd G ≤ 9 := hG.2.2.2.2.2.2.1
  have hod : z_od G ≤ 2 := hG.2.2.2.2.2.2.2
  have hpl := hW t ht
  have hbt := hG.2.2.1 t
  have hsh := hG.2.2.2.1 t
  refine z_sw' (own := RX3) (l0 := [(0, .ref (mo 0)), (1, .int (nI t))]) rfl rfl (by decide) (Nat.le_of_ble_eq_true rfl) rfl ?_
  intro p e s m below meth c hx hb hr hml hts hown hlk hP hK hN hD hS ls hl
  refine lv_aload_n hx hb dX3_daysOf_0 rfl (lv_at hl 0 rfl) ?_
  refine lv_iconst (v := 0) hx hb dX3_daysOf_1 (by decide) ?_
  refine va_put (ci := 3) (v := .int 0) (ty := .int) (C := RX3) (T := TX3) (N := 12) hx hb hts (fun _ h => (List.mem_cons_of_mem _ (List.mem_append_right _ h))) tyX3 tyX3_ok nmX3 hown hK hP hD hS 0 rfl rfl 0 (by decide) (hts _ (List.mem_cons_of_mem _ (List.mem_append_left _ (List.mem_append_left _ (List.mem_of_getElem? (i := 0) rfl))))) (fun _ h9 => h9) rfl (by decide +kernel) rfl rfl (Nat.le_of_ble_eq_true rfl) dX3_daysOf_2 (fun H locs hP hD hS => ?_)
  have hP : va_P Dg vwCl (z_mW cI mo 0 G D K) H := hP
  have hD : va_D _ (z_mW cI mo 0 G D K) := hD
  refine lv_aload_n hx hb dX3_daysOf_5 rfl (lv_at hl 0 rfl) ?_
  refine lv_iload_n hx hb dX3_daysOf_6 rfl (lv_at hl 1 rfl) ?_
  refine z_rVi (v := 1) [] hx hb hml hown hts (m_X3_isTin_t l Dg cI mo 0 G D K t (by omega) hG) gX3_daysOf_X3_isTin rfl kd_X3_isTin ⟨Nat.le_of_ble_eq_true rfl, Nat.le_of_ble_eq_true rfl⟩ hK hN hP rfl rfl rfl rfl hl.1 rfl (Nat.le_of_ble_eq_true rfl) dX3_daysOf_7 ⟨Nat.zero_le _, Nat.zero_le _⟩ ?_
  refine lv_if_ne (tgt := 19) hx hb dX3_daysOf_10 (by decide) (fun c10 => ?_) (fun c10 => absurd c10 (by decide))
  refine lv_aload_n hx hb dX3_daysOf_19 rfl (lv_at hl 0 rfl) ?_
  refine lv_iload_n hx hb dX3_daysOf_20 rfl (lv_at hl 1 rfl) ?_
  refine z_rVi (v := z_bI (z_pl D t == 1)) [] hx hb hml hown hts (m_X3_isHere l Dg cI mo 0 G D K t (by omega) hG hW) gX3_daysOf_X3_isHere rfl kd_X3_isHere ⟨Nat.le_of_ble_eq_true rfl, Nat.le_of_ble_eq_true rfl⟩ hK hN hP rfl rfl rfl rfl hl.1 rfl (Nat.le_of_ble_eq_true rfl) dX3_daysOf_21 ⟨Nat.zero_le _, Nat.zero_le _⟩ ?_
  refine lv_if_eq (tgt := 41) hx hb dX3_daysOf_24 (by decide) (fun c24 => ?_) (fun c24 => ?_)
  · skip
    refine lv_iconst (v := (-1)) hx hb dX3_daysOf_41 (by decide) ?_
    exact z_ew_i (by rw [z_dof, if_neg (z_bne' (z_bI0 c24))]) hP hS hx hb hr hlk dX3_daysOf_42
  · skip
    refine lv_aload_n hx hb dX3_daysOf_27 rfl (lv_at hl 0 rfl) ?_
    refine lv_iload_n hx hb dX3_daysOf_28 rfl (lv_at hl 1 rfl) ?_
    refine lv_aload_n hx hb dX3_daysOf_29 rfl (lv_at hl 0 rfl) ?_
    refine va_get (ci := 3) (v := .ref (mo 5)) (C := RX3) (T := TX3) (N := 12) hx hb hts (fun _ h => (List.mem_cons_of_mem _ (List.mem_append_right _ h))) hown hK hP 0 rfl rfl 9 (by decide) (hts _ (List.mem_cons_of_mem _ (List.mem_append_left _ (List.mem_append_left _ (List.mem_of_getElem? (i := 1) rfl))))) (fun _ h9 => h9) rfl dX3_daysOf_30 ?_
    refine lv_iload_n hx hb dX3_daysOf_33 rfl (lv_at hl 1 rfl) ?_
    refine z_iald hx hb hK hP 5 0 rfl rfl (by omega) (by decide) dX3_daysOf_34 ?_
    refine z_top (x' := nI (z_sh G t)) rfl ?_
    refine z_rVi (v := z_un G D t (z_sh G t)) [] hx hb hml hown hts (m_X3_until l Dg cI mo 0 G D K t (z_sh G t) (by omega) (by omega) hG) gX3_daysOf_X3_until rfl kd_X3_until ⟨Nat.le_of_ble_eq_true rfl, Nat.le_of_ble_eq_true rfl⟩ hK hN hP rfl rfl rfl rfl hl.1 rfl (Nat.le_of_ble_eq_true rfl) dX3_daysOf_35 ⟨Nat.zero_le _, Nat.zero_le _⟩ ?_
    refine lv_goto (tgt := 42) hx hb dX3_daysOf_38 (by decide) ?_
    exact z_ew_i (by rw [z_dof, if_pos (z_beq' (z_bI1 c24))]) hP hS hx hb hr hlk dX3_daysOf_42

set_option maxHeartbeats 4000000 in
set_option maxRecDepth 100000 in
theorem m_X3_bestShelf_x1 (l : Launch) (Dg : va_G) (cI : ClassId) (mo : Nat → Nat) (th : Int32) (G : z_GG) (D : z_DD) (K : Nat → Int32) (x_ : Int32) (e1 : ¬ (0 ≤ x_ ∧ x_ ≤ nI (z_tc G) - 1)) (hG : z_WG G) (hW : z_WD G D) : z_Mw l yX3_bestShelf wsX3_bestShelf 3 68 [.ref (mo 0), .int x_] Dg cI (z_mW cI mo th G D K) (some (.int 0)) (z_mW cI mo 1 G D K) := by
  have htc : z_tc G ≤ 60 := hG.2.2.2.2.2.1
  have hbc : z_bc G ≤ 6 := hG.2.2.2.2.1
  refine z_sw' (own := RX3) (l0 := [(0, .ref (mo 0)), (1, .int x_)]) rfl rfl (by decide) (Nat.le_of_ble_eq_true rfl) rfl ?_
  intro p e s m below meth c hx hb hr hml hts hown hlk hP hK hN hD hS ls hl
  refine lv_aload_n hx hb dX3_bestShelf_0 rfl (lv_at hl 0 rfl) ?_
  refine lv_iconst (v := 0) hx hb dX3_bestShelf_1 (by decide) ?_
  refine va_put (ci := 3) (v := .int 0) (ty := .int) (C := RX3) (T := TX3) (N := 12) hx hb hts (fun _ h => (List.mem_cons_of_mem _ (List.mem_append_right _ h))) tyX3 tyX3_ok nmX3 hown hK hP hD hS 0 rfl rfl 0 (by decide) (hts _ (List.mem_cons_of_mem _ (List.mem_append_left _ (List.mem_append_left _ (List.mem_of_getElem? (i := 0) rfl))))) (fun _ h9 => h9) rfl (by decide +kernel) rfl rfl (Nat.le_of_ble_eq_true rfl) dX3_bestShelf_2 (fun H locs hP hD hS => ?_)
  have hP : va_P Dg vwCl (z_mW cI mo 0 G D K) H := hP
  have hD : va_D _ (z_mW cI mo 0 G D K) := hD
  refine lv_aload_n hx hb dX3_bestShelf_5 rfl (lv_at hl 0 rfl) ?_
  refine lv_iload_n hx hb dX3_bestShelf_6 rfl (lv_at hl 1 rfl) ?_
  refine z_rVi (v := 0) [] hx hb hml hown hts (m_X3_isTin_f l Dg cI mo 0 G D K x_ e1) gX3_bestShelf_X3_isTin rfl kd_X3_isTin ⟨Nat.le_of_ble_eq_true rfl, Nat.le_of_ble_eq_true rfl⟩ hK hN hP rfl rfl rfl rfl hl.1 rfl (Nat.le_of_ble_eq_true rfl) dX3_bestShelf_7 ⟨Nat.zero_le _, Nat.zero_le _⟩ ?_
  refine lv_if_eq (tgt := 21) hx hb dX3_bestShelf_10 (by decide) (fun c10 => ?_) (fun c10 => absurd rfl c10)
  refine lv_aload_n hx hb dX3_bestShelf_21 rfl (lv_at hl 0 rfl) ?_
  refine lv_iconst (v := 1) hx hb dX3_bestShelf_22 (by decide) ?_
  refine z_wAi (v := 0) [] hx hb hml hown hts (m_X3_no l Dg cI mo 0 G D K 1) gX3_bestShelf_X3_no rfl kd_X3_no ⟨Nat.le_of_ble_eq_true rfl, Nat.le_of_ble_eq_true rfl⟩ hK hN hP hD hS rfl rfl rfl rfl rfl hl.1 rfl (Nat.le_of_ble_eq_true rfl) dX3_bestShelf_23 ⟨Nat.zero_le _, Nat.zero_le _⟩ (fun H locs hP hD hS => ?_)
  have hP : va_P Dg vwCl (z_mW cI mo 1 G D K) H := hP
  have hD : va_D _ (z_mW cI mo 1 G D K) := hD
  exact z_ew_i rfl hP hS hx hb hr hlk dX3_bestShelf_26

set_option maxHeartbeats 4000000 in
set_option maxRecDepth 100000 in
theorem m_X3_bestShelf (l : Launch) (Dg : va_G) (cI : ClassId) (mo : Nat → Nat) (th : Int32) (G : z_GG) (D : z_DD) (K : Nat → Int32) (t : Nat) (ht : t < z_tc G) (hG : z_WG G) (hW : z_WD G D) : z_Mw l yX3_bestShelf wsX3_bestShelf 3 68 [.ref (mo 0), .int (nI t)] Dg cI (z_mW cI mo th G D K) (some (.int (z_bsh G D t))) (z_mW cI mo 0 G D K) := by
  have htc : z_tc G ≤ 60 := hG.2.2.2.2.2.1
  have hbc : z_bc G ≤ 6 := hG.2.2.2.2.1
  have hsd : z_sd G ≤ 9 := hG.2.2.2.2.2.2.1
  have hod : z_od G ≤ 2 := hG.2.2.2.2.2.2.2
  have hpl := hW t ht
  have hbt := hG.2.2.1 t
  have hsh := hG.2.2.2.1 t
  refine z_sw' (own := RX3) (l0 := [(0, .ref (mo 0)), (1, .int (nI t))]) rfl rfl (by decide) (Nat.le_of_ble_eq_true rfl) rfl ?_
  intro p e s m below meth c hx hb hr hml hts hown hlk hP hK hN hD hS ls hl
  refine lv_aload_n hx hb dX3_bestShelf_0 rfl (lv_at hl 0 rfl) ?_
  refine lv_iconst (v := 0) hx hb dX3_bestShelf_1 (by decide) ?_
  refine va_put (ci := 3) (v := .int 0) (ty := .int) (C := RX3) (T := TX3) (N := 12) hx hb hts (fun _ h => (List.mem_cons_of_mem _ (List.mem_append_right _ h))) tyX3 tyX3_ok nmX3 hown hK hP hD hS 0 rfl rfl 0 (by decide) (hts _ (List.mem_cons_of_mem _ (List.mem_append_left _ (List.mem_append_left _ (List.mem_of_getElem? (i := 0) rfl))))) (fun _ h9 => h9) rfl (by decide +kernel) rfl rfl (Nat.le_of_ble_eq_true rfl) dX3_bestShelf_2 (fun H locs hP hD hS => ?_)
  have hP : va_P Dg vwCl (z_mW cI mo 0 G D K) H := hP
  have hD : va_D _ (z_mW cI mo 0 G D K) := hD
  refine lv_aload_n hx hb dX3_bestShelf_5 rfl (lv_at hl 0 rfl) ?_
  refine lv_iload_n hx hb dX3_bestShelf_6 rfl (lv_at hl 1 rfl) ?_
  refine z_rVi (v := 1) [] hx hb hml hown hts (m_X3_isTin_t l Dg cI mo 0 G D K t (by omega) hG) gX3_bestShelf_X3_isTin rfl kd_X3_isTin ⟨Nat.le_of_ble_eq_true rfl, Nat.le_of_ble_eq_true rfl⟩ hK hN hP rfl rfl rfl rfl hl.1 rfl (Nat.le_of_ble_eq_true rfl) dX3_bestShelf_7 ⟨Nat.zero_le _, Nat.zero_le _⟩ ?_
  refine lv_if_eq (tgt := 21) hx hb dX3_bestShelf_10 (by decide) (fun c10 => absurd c10 (by decide)) (fun c10 => ?_)
  refine lv_aload_n hx hb dX3_bestShelf_13 rfl (lv_at hl 0 rfl) ?_
  refine lv_iload_n hx hb dX3_bestShelf_14 rfl (lv_at hl 1 rfl) ?_
  refine z_rVi (v := z_bsh G D t) [] hx hb hml hown hts (m_X3_shelfFor l Dg cI mo 0 G D K t (by omega) hG hW) gX3_bestShelf_X3_shelfFor rfl kd_X3_shelfFor ⟨Nat.le_of_ble_eq_true rfl, Nat.le_of_ble_eq_true rfl⟩ hK hN hP rfl rfl rfl rfl hl.1 rfl (Nat.le_of_ble_eq_true rfl) dX3_bestShelf_15 ⟨Nat.zero_le _, Nat.zero_le _⟩ ?_
  refine lv_goto (tgt := 26) hx hb dX3_bestShelf_18 (by decide) ?_
  exact z_ew_i rfl hP hS hx hb hr hlk dX3_bestShelf_26

set_option maxHeartbeats 4000000 in
set_option maxRecDepth 100000 in
theorem m_X3_swelledOf_x1 (l : Launch) (Dg : va_G) (cI : ClassId) (mo : Nat → Nat) (th : Int32) (G : z_GG) (D : z_DD) (K : Nat → Int32) (x_ : Int32) (e1 : ¬ (0 ≤ x_ ∧ x_ ≤ nI (z_bc G) - 1)) (hG : z_WG G) (hW : z_WD G D) : z_Mw l yX3_swelledOf wsX3_swelledOf 2 43 [.ref (mo 0), .int x_] Dg cI (z_mW cI mo th G D K) (some (.int 0)) (z_mW cI mo 1 G D K) := by
  have htc : z_tc G ≤ 60 := hG.2.2.2.2.2.1
  have hbc : z_bc G ≤ 6 := hG.2.2.2.2.1
  refine z_sw' (own := RX3) (l0 := [(0, .ref (mo 0)), (1, .int x_)]) rfl rfl (by decide) (Nat.le_of_ble_eq_true rfl) rfl ?_
  intro p e s m below meth c hx hb hr hml hts hown hlk hP hK hN hD hS ls hl
  refine lv_aload_n hx hb dX3_swelledOf_0 rfl (lv_at hl 0 rfl) ?_
  refine lv_iconst (v := 0) hx hb dX3_swelledOf_1 (by decide) ?_
  refine va_put (ci := 3) (v := .int 0) (ty := .int) (C := RX3) (T := TX3) (N := 12) hx hb hts (fun _ h => (List.mem_cons_of_mem _ (List.mem_append_right _ h))) tyX3 tyX3_ok nmX3 hown hK hP hD hS 0 rfl rfl 0 (by decide) (hts _ (List.mem_cons_of_mem _ (List.mem_append_left _ (List.mem_of_getElem? (i := 0) rfl)))) (fun _ h9 => h9) rfl (by decide +kernel) rfl rfl (Nat.le_of_ble_eq_true rfl) dX3_swelledOf_2 (fun H locs hP hD hS => ?_)
  have hP : va_P Dg vwCl (z_mW cI mo 0 G D K) H := hP
  have hD : va_D _ (z_mW cI mo 0 G D K) := hD
  refine lv_aload_n hx hb dX3_swelledOf_5 rfl (lv_at hl 0 rfl) ?_
  refine lv_iload_n hx hb dX3_swelledOf_6 rfl (lv_at hl 1 rfl) ?_
  refine z_rVi (v := 0) [] hx hb hml hown hts (m_X3_isBatch_f l Dg cI mo 0 G D K x_ e1) gX3_swelledOf_X3_isBatch rfl kd_X3_isBatch ⟨Nat.le_of_ble_eq_true rfl, Nat.le_of_ble_eq_true rfl⟩ hK hN hP rfl rfl rfl rfl hl.1 rfl (Nat.le_of_ble_eq_true rfl) dX3_swelledOf_7 ⟨Nat.zero_le _, Nat.zero_le _⟩ ?_
  refine lv_if_eq (tgt := 24) hx hb dX3_swelledOf_10 (by decide) (fun c10 => ?_) (fun c10 => absurd rfl c10)
  refine lv_aload_n hx hb dX3_swelledOf_24 rfl (lv_at hl 0 rfl) ?_
  refine lv_iconst (v := 1) hx hb dX3_swelledOf_25 (by decide) ?_
  refine z_wAi (v := 0) [] hx hb hml hown hts (m_X3_no l Dg cI mo 0 G D K 1) gX3_swelledOf_X3_no rfl kd_X3_no ⟨Nat.le_of_ble_eq_true rfl, Nat.le_of_ble_eq_true rfl⟩ hK hN hP hD hS rfl rfl rfl rfl rfl hl.1 rfl (Nat.le_of_ble_eq_true rfl) dX3_swelledOf_26 ⟨Nat.zero_le _, Nat.zero_le _⟩ (fun H locs hP hD hS => ?_)
  have hP : va_P Dg vwCl (z_mW cI mo 1 G D K) H := hP
  have hD : va_D _ (z_mW cI mo 1 G D K) := hD
  exact z_ew_i rfl hP hS hx hb hr hlk dX3_swelledOf_29

set_option maxHeartbeats 4000000 in
set_option maxRecDepth 100000 in
theorem m_X3_swelledOf (l : Launch) (Dg : va_G) (cI : ClassId) (mo : Nat → Nat) (th : Int32) (G : z_GG) (D : z_DD) (K : Nat → Int32) (b_ : Nat) (hbb : b_ < z_bc G) (hG : z_WG G) (hW : z_WD G D) : z_Mw l yX3_swelledOf wsX3_swelledOf 2 43 [.ref (mo 0), .int (nI b_)] Dg cI (z_mW cI mo th G D K) (some (.int (z_sw D b_))) (z_mW cI mo 0 G D K) := by
  have htc : z_tc G ≤ 60 := hG.2.2.2.2.2.1
  have hbc : z_bc G ≤ 6 := hG.2.2.2.2.1
  have hsd : z_sd G ≤ 9 := hG.2.2.2.2.2.2.1
  have hod : z_od G ≤ 2 := hG.2.2.2.2.2.2.2
  refine z_sw' (own := RX3) (l0 := [(0, .ref (mo 0)), (1, .int (nI b_))]) rfl rfl (by decide) (Nat.le_of_ble_eq_true rfl) rfl ?_
  intro p e s m below meth c hx hb hr hml hts hown hlk hP hK hN hD hS ls hl
  refine lv_aload_n hx hb dX3_swelledOf_0 rfl (lv_at hl 0 rfl) ?_
  refine lv_iconst (v := 0) hx hb dX3_swelledOf_1 (by decide) ?_
  refine va_put (ci := 3) (v := .int 0) (ty := .int) (C := RX3) (T := TX3) (N := 12) hx hb hts (fun _ h => (List.mem_cons_of_mem _ (List.mem_append_right _ h))) tyX3 tyX3_ok nmX3 hown hK hP hD hS 0 rfl rfl 0 (by decide) (hts _ (List.mem_cons_of_mem _ (List.mem_append_left _ (List.mem_of_getElem? (i := 0) rfl)))) (fun _ h9 => h9) rfl (by decide +kernel) rfl rfl (Nat.le_of_ble_eq_true rfl) dX3_swelledOf_2 (fun H locs hP hD hS => ?_)
  have hP : va_P Dg vwCl (z_mW cI mo 0 G D K) H := hP
  have hD : va_D _ (z_mW cI mo 0 G D K) := hD
  refine lv_aload_n hx hb dX3_swelledOf_5 rfl (lv_at hl 0 rfl) ?_
  refine lv_iload_n hx hb dX3_swelledOf_6 rfl (lv_at hl 1 rfl) ?_
  refine z_rVi (v := 1) [] hx hb hml hown hts (m_X3_isBatch_t l Dg cI mo 0 G D K b_ (by omega) hG) gX3_swelledOf_X3_isBatch rfl kd_X3_isBatch ⟨Nat.le_of_ble_eq_true rfl, Nat.le_of_ble_eq_true rfl⟩ hK hN hP rfl rfl rfl rfl hl.1 rfl (Nat.le_of_ble_eq_true rfl) dX3_swelledOf_7 ⟨Nat.zero_le _, Nat.zero_le _⟩ ?_
  refine lv_if_eq (tgt := 24) hx hb dX3_swelledOf_10 (by decide) (fun c10 => absurd c10 (by decide)) (fun c10 => ?_)
  refine lv_aload_n hx hb dX3_swelledOf_13 rfl (lv_at hl 0 rfl) ?_
  refine va_get (ci := 3) (v := .ref (mo 6)) (C := RX3) (T := TX3) (N := 12) hx hb hts (fun _ h => (List.mem_cons_of_mem _ (List.mem_append_right _ h))) hown hK hP 0 rfl rfl 10 (by decide) (hts _ (List.mem_cons_of_mem _ (List.mem_append_left _ (List.mem_of_getElem? (i := 1) rfl)))) (fun _ h9 => h9) rfl dX3_swelledOf_14 ?_
  refine lv_iconst (v := nI 1) hx hb dX3_swelledOf_17 (by decide) ?_
  refine lv_iload_n hx hb dX3_swelledOf_18 rfl (lv_at hl 1 rfl) ?_
  refine lv_iadd hx hb dX3_swelledOf_19 ?_
  refine z_top (x' := nI (1 + b_)) (nI_add _ _) ?_
  refine z_iald hx hb hK hP 6 0 rfl rfl (by omega) (by decide) dX3_swelledOf_20 ?_
  refine z_top (x' := z_sw D b_) (z_nw_sw _ (by omega)) ?_
  refine lv_goto (tgt := 29) hx hb dX3_swelledOf_21 (by decide) ?_
  exact z_ew_i rfl hP hS hx hb hr hlk dX3_swelledOf_29

set_option maxHeartbeats 4000000 in
set_option maxRecDepth 100000 in
theorem m_X3_leftOf_x1 (l : Launch) (Dg : va_G) (cI : ClassId) (mo : Nat → Nat) (th : Int32) (G : z_GG) (D : z_DD) (K : Nat → Int32) (x_ : Int32) (e1 : ¬ (0 ≤ x_ ∧ x_ ≤ nI (z_bc G) - 1)) (hG : z_WG G) (hW : z_WD G D) : z_Mw l yX3_leftOf wsX3_leftOf 2 44 [.ref (mo 0), .int x_] Dg cI (z_mW cI mo th G D K) (some (.int 0)) (z_mW cI mo 1 G D K) := by
  have htc : z_tc G ≤ 60 := hG.2.2.2.2.2.1
  have hbc : z_bc G ≤ 6 := hG.2.2.2.2.1
  refine z_sw' (own := RX3) (l0 := [(0, .ref (mo 0)), (1, .int x_)]) rfl rfl (by decide) (Nat.le_of_ble_eq_true rfl) rfl ?_
  intro p e s m below meth c hx hb hr hml hts hown hlk hP hK hN hD hS ls hl
  refine lv_aload_n hx hb dX3_leftOf_0 rfl (lv_at hl 0 rfl) ?_
  refine lv_iconst (v := 0) hx hb dX3_leftOf_1 (by decide) ?_
  refine va_put (ci := 3) (v := .int 0) (ty := .int) (C := RX3) (T := TX3) (N := 12) hx hb hts (fun _ h => (List.mem_cons_of_mem _ (List.mem_append_right _ h))) tyX3 tyX3_ok nmX3 hown hK hP hD hS 0 rfl rfl 0 (by decide) (hts _ (List.mem_cons_of_mem _ (List.mem_append_left _ (List.mem_append_left _ (List.mem_of_getElem? (i := 0) rfl))))) (fun _ h9 => h9) rfl (by decide +kernel) rfl rfl (Nat.le_of_ble_eq_true rfl) dX3_leftOf_2 (fun H locs hP hD hS => ?_)
  have hP : va_P Dg vwCl (z_mW cI mo 0 G D K) H := hP
  have hD : va_D _ (z_mW cI mo 0 G D K) := hD
  refine lv_aload_n hx hb dX3_leftOf_5 rfl (lv_at hl 0 rfl) ?_
  refine lv_iload_n hx hb dX3_leftOf_6 rfl (lv_at hl 1 rfl) ?_
  refine z_rVi (v := 0) [] hx hb hml hown hts (m_X3_isBatch_f l Dg cI mo 0 G D K x_ e1) gX3_leftOf_X3_isBatch rfl kd_X3_isBatch ⟨Nat.le_of_ble_eq_true rfl, Nat.le_of_ble_eq_true rfl⟩ hK hN hP rfl rfl rfl rfl hl.1 rfl (Nat.le_of_ble_eq_true rfl) dX3_leftOf_7 ⟨Nat.zero_le _, Nat.zero_le _⟩ ?_
  refine lv_if_eq (tgt := 21) hx hb dX3_leftOf_10 (by decide) (fun c10 => ?_) (fun c10 => absurd rfl c10)
  refine lv_aload_n hx hb dX3_leftOf_21 rfl (lv_at hl 0 rfl) ?_
  refine lv_iconst (v := 1) hx hb dX3_leftOf_22 (by decide) ?_
  refine z_wAi (v := 0) [] hx hb hml hown hts (m_X3_no l Dg cI mo 0 G D K 1) gX3_leftOf_X3_no rfl kd_X3_no ⟨Nat.le_of_ble_eq_true rfl, Nat.le_of_ble_eq_true rfl⟩ hK hN hP hD hS rfl rfl rfl rfl rfl hl.1 rfl (Nat.le_of_ble_eq_true rfl) dX3_leftOf_23 ⟨Nat.zero_le _, Nat.zero_le _⟩ (fun H locs hP hD hS => ?_)
  have hP : va_P Dg vwCl (z_mW cI mo 1 G D K) H := hP
  have hD : va_D _ (z_mW cI mo 1 G D K) := hD
  exact z_ew_i rfl hP hS hx hb hr hlk dX3_leftOf_26

set_option maxHeartbeats 4000000 in
set_option maxRecDepth 100000 in
theorem m_X3_leftOf (l : Launch) (Dg : va_G) (cI : ClassId) (mo : Nat → Nat) (th : Int32) (G : z_GG) (D : z_DD) (K : Nat → Int32) (b_ : Nat) (hbb : b_ < z_bc G) (hG : z_WG G) (hW : z_WD G D) : z_Mw l yX3_leftOf wsX3_leftOf 2 44 [.ref (mo 0), .int (nI b_)] Dg cI (z_mW cI mo th G D K) (some (.int (nI (z_lf G D b_)))) (z_mW cI mo 0 G D K) := by
  have htc : z_tc G ≤ 60 := hG.2.2.2.2.2.1
  have hbc : z_bc G ≤ 6 := hG.2.2.2.2.1
  have hsd : z_sd G ≤ 9 := hG.2.2.2.2.2.2.1
  have hod : z_od G ≤ 2 := hG.2.2.2.2.2.2.2
  refine z_sw' (own := RX3) (l0 := [(0, .ref (mo 0)), (1, .int (nI b_))]) rfl rfl (by decide) (Nat.le_of_ble_eq_true rfl) rfl ?_
  intro p e s m below meth c hx hb hr hml hts hown hlk hP hK hN hD hS ls hl
  refine lv_aload_n hx hb dX3_leftOf_0 rfl (lv_at hl 0 rfl) ?_
  refine lv_iconst (v := 0) hx hb dX3_leftOf_1 (by decide) ?_
  refine va_put (ci := 3) (v := .int 0) (ty := .int) (C := RX3) (T := TX3) (N := 12) hx hb hts (fun _ h => (List.mem_cons_of_mem _ (List.mem_append_right _ h))) tyX3 tyX3_ok nmX3 hown hK hP hD hS 0 rfl rfl 0 (by decide) (hts _ (List.mem_cons_of_mem _ (List.mem_append_left _ (List.mem_append_left _ (List.mem_of_getElem? (i := 0) rfl))))) (fun _ h9 => h9) rfl (by decide +kernel) rfl rfl (Nat.le_of_ble_eq_true rfl) dX3_leftOf_2 (fun H locs hP hD hS => ?_)
  have hP : va_P Dg vwCl (z_mW cI mo 0 G D K) H := hP
  have hD : va_D _ (z_mW cI mo 0 G D K) := hD
  refine lv_aload_n hx hb dX3_leftOf_5 rfl (lv_at hl 0 rfl) ?_
  refine lv_iload_n hx hb dX3_leftOf_6 rfl (lv_at hl 1 rfl) ?_
  refine z_rVi (v := 1) [] hx hb hml hown hts (m_X3_isBatch_t l Dg cI mo 0 G D K b_ (by omega) hG) gX3_leftOf_X3_isBatch rfl kd_X3_isBatch ⟨Nat.le_of_ble_eq_true rfl, Nat.le_of_ble_eq_true rfl⟩ hK hN hP rfl rfl rfl rfl hl.1 rfl (Nat.le_of_ble_eq_true rfl) dX3_leftOf_7 ⟨Nat.zero_le _, Nat.zero_le _⟩ ?_
  refine lv_if_eq (tgt := 21) hx hb dX3_leftOf_10 (by decide) (fun c10 => absurd c10 (by decide)) (fun c10 => ?_)
  refine lv_aload_n hx hb dX3_leftOf_13 rfl (lv_at hl 0 rfl) ?_
  refine lv_iload_n hx hb dX3_leftOf_14 rfl (lv_at hl 1 rfl) ?_
  refine z_rVi (v := nI (z_lf G D b_)) [] hx hb hml hown hts (m_X3_left l Dg cI mo 0 G D K b_ (by omega) hG hW) gX3_leftOf_X3_left rfl kd_X3_left ⟨Nat.le_of_ble_eq_true rfl, Nat.le_of_ble_eq_true rfl⟩ hK hN hP rfl rfl rfl rfl hl.1 rfl (Nat.le_of_ble_eq_true rfl) dX3_leftOf_15 ⟨Nat.zero_le _, Nat.zero_le _⟩ ?_
  refine lv_goto (tgt := 26) hx hb dX3_leftOf_18 (by decide) ?_
  exact z_ew_i rfl hP hS hx hb hr hlk dX3_leftOf_26

set_option maxHeartbeats 4000000 in
set_option maxRecDepth 100000 in
theorem m_X3_isRecalled_x1 (l : Launch) (Dg : va_G) (cI : ClassId) (mo : Nat → Nat) (th : Int32) (G : z_GG) (D : z_DD) (K : Nat → Int32) (x_ : Int32) (e1 : ¬ (0 ≤ x_ ∧ x_ ≤ nI (z_bc G) - 1)) (hG : z_WG G) (hW : z_WD G D) : z_Mw l yX3_isRecalled wsX3_isRecalled 2 43 [.ref (mo 0), .int x_] Dg cI (z_mW cI mo th G D K) (some (.int (z_bI false))) (z_mW cI mo 1 G D K) := by
  have htc : z_tc G ≤ 60 := hG.2.2.2.2.2.1
  have hbc : z_bc G ≤ 6 := hG.2.2.2.2.1
  refine z_sw' (own := RX3) (l0 := [(0, .ref (mo 0)), (1, .int x_)]) rfl rfl (by decide) (Nat.le_of_ble_eq_true rfl) rfl ?_
  intro p e s m below meth c hx hb hr hml hts hown hlk hP hK hN hD hS ls hl
  refine lv_aload_n hx hb dX3_isRecalled_0 rfl (lv_at hl 0 rfl) ?_
  refine lv_iconst (v := 0) hx hb dX3_isRecalled_1 (by decide) ?_
  refine va_put (ci := 3) (v := .int 0) (ty := .int) (C := RX3) (T := TX3) (N := 12) hx hb hts (fun _ h => (List.mem_cons_of_mem _ (List.mem_append_right _ h))) tyX3 tyX3_ok nmX3 hown hK hP hD hS 0 rfl rfl 0 (by decide) (hts _ (List.mem_cons_of_mem _ (List.mem_append_left _ (List.mem_of_getElem? (i := 0) rfl)))) (fun _ h9 => h9) rfl (by decide +kernel) rfl rfl (Nat.le_of_ble_eq_true rfl) dX3_isRecalled_2 (fun H locs hP hD hS => ?_)
  have hP : va_P Dg vwCl (z_mW cI mo 0 G D K) H := hP
  have hD : va_D _ (z_mW cI mo 0 G D K) := hD
  refine lv_aload_n hx hb dX3_isRecalled_5 rfl (lv_at hl 0 rfl) ?_
  refine lv_iload_n hx hb dX3_isRecalled_6 rfl (lv_at hl 1 rfl) ?_
  refine z_rVi (v := 0) [] hx hb hml hown hts (m_X3_isBatch_f l Dg cI mo 0 G D K x_ e1) gX3_isRecalled_X3_isBatch rfl kd_X3_isBatch ⟨Nat.le_of_ble_eq_true rfl, Nat.le_of_ble_eq_true rfl⟩ hK hN hP rfl rfl rfl rfl hl.1 rfl (Nat.le_of_ble_eq_true rfl) dX3_isRecalled_7 ⟨Nat.zero_le _, Nat.zero_le _⟩ ?_
  refine lv_if_eq (tgt := 34) hx hb dX3_isRecalled_10 (by decide) (fun c10 => ?_) (fun c10 => absurd rfl c10)
  refine lv_aload_n hx hb dX3_isRecalled_34 rfl (lv_at hl 0 rfl) ?_
  refine lv_iconst (v := 1) hx hb dX3_isRecalled_35 (by decide) ?_
  refine z_wAi (v := 0) [] hx hb hml hown hts (m_X3_isNot l Dg cI mo 0 G D K 1) gX3_isRecalled_X3_isNot rfl kd_X3_isNot ⟨Nat.le_of_ble_eq_true rfl, Nat.le_of_ble_eq_true rfl⟩ hK hN hP hD hS rfl rfl rfl rfl rfl hl.1 rfl (Nat.le_of_ble_eq_true rfl) dX3_isRecalled_36 ⟨Nat.zero_le _, Nat.zero_le _⟩ (fun H locs hP hD hS => ?_)
  have hP : va_P Dg vwCl (z_mW cI mo 1 G D K) H := hP
  have hD : va_D _ (z_mW cI mo 1 G D K) := hD
  exact z_ew_z rfl hP hS hx hb hr hlk dX3_isRecalled_39

set_option maxHeartbeats 4000000 in
set_option maxRecDepth 100000 in
theorem m_X3_isRecalled (l : Launch) (Dg : va_G) (cI : ClassId) (mo : Nat → Nat) (th : Int32) (G : z_GG) (D : z_DD) (K : Nat → Int32) (b_ : Nat) (hbb : b_ < z_bc G) (hG : z_WG G) (hW : z_WD G D) : z_Mw l yX3_isRecalled wsX3_isRecalled 2 43 [.ref (mo 0), .int (nI b_)] Dg cI (z_mW cI mo th G D K) (some (.int (z_bI (z_rc D b_)))) (z_mW cI mo 0 G D K) := by
  have htc : z_tc G ≤ 60 := hG.2.2.2.2.2.1
  have hbc : z_bc G ≤ 6 := hG.2.2.2.2.1
  have hsd : z_sd G ≤ 9 := hG.2.2.2.2.2.2.1
  have hod : z_od G ≤ 2 := hG.2.2.2.2.2.2.2
  refine z_sw' (own := RX3) (l0 := [(0, .ref (mo 0)), (1, .int (nI b_))]) rfl rfl (by decide) (Nat.le_of_ble_eq_true rfl) rfl ?_
  intro p e s m below meth c hx hb hr hml hts hown hlk hP hK hN hD hS ls hl
  refine lv_aload_n hx hb dX3_isRecalled_0 rfl (lv_at hl 0 rfl) ?_
  refine lv_iconst (v := 0) hx hb dX3_isRecalled_1 (by decide) ?_
  refine va_put (ci := 3) (v := .int 0) (ty := .int) (C := RX3) (T := TX3) (N := 12) hx hb hts (fun _ h => (List.mem_cons_of_mem _ (List.mem_append_right _ h))) tyX3 tyX3_ok nmX3 hown hK hP hD hS 0 rfl rfl 0 (by decide) (hts _ (List.mem_cons_of_mem _ (List.mem_append_left _ (List.mem_of_getElem? (i := 0) rfl)))) (fun _ h9 => h9) rfl (by decide +kernel) rfl rfl (Nat.le_of_ble_eq_true rfl) dX3_isRecalled_2 (fun H locs hP hD hS => ?_)
  have hP : va_P Dg vwCl (z_mW cI mo 0 G D K) H := hP
  have hD : va_D _ (z_mW cI mo 0 G D K) := hD
  refine lv_aload_n hx hb dX3_isRecalled_5 rfl (lv_at hl 0 rfl) ?_
  refine lv_iload_n hx hb dX3_isRecalled_6 rfl (lv_at hl 1 rfl) ?_
  refine z_rVi (v := 1) [] hx hb hml hown hts (m_X3_isBatch_t l Dg cI mo 0 G D K b_ (by omega) hG) gX3_isRecalled_X3_isBatch rfl kd_X3_isBatch ⟨Nat.le_of_ble_eq_true rfl, Nat.le_of_ble_eq_true rfl⟩ hK hN hP rfl rfl rfl rfl hl.1 rfl (Nat.le_of_ble_eq_true rfl) dX3_isRecalled_7 ⟨Nat.zero_le _, Nat.zero_le _⟩ ?_
  refine lv_if_eq (tgt := 34) hx hb dX3_isRecalled_10 (by decide) (fun c10 => absurd c10 (by decide)) (fun c10 => ?_)
  refine lv_aload_n hx hb dX3_isRecalled_13 rfl (lv_at hl 0 rfl) ?_
  refine va_get (ci := 3) (v := .ref (mo 6)) (C := RX3) (T := TX3) (N := 12) hx hb hts (fun _ h => (List.mem_cons_of_mem _ (List.mem_append_right _ h))) hown hK hP 0 rfl rfl 10 (by decide) (hts _ (List.mem_cons_of_mem _ (List.mem_append_left _ (List.mem_of_getElem? (i := 1) rfl)))) (fun _ h9 => h9) rfl dX3_isRecalled_14 ?_
  refine lv_bipush (v := nI 7) hx hb dX3_isRecalled_17 (by decide) ?_
  refine lv_iload_n hx hb dX3_isRecalled_19 rfl (lv_at hl 1 rfl) ?_
  refine lv_iadd hx hb dX3_isRecalled_20 ?_
  refine z_top (x' := nI (7 + b_)) (nI_add _ _) ?_
  refine z_iald hx hb hK hP 6 0 rfl rfl (by omega) (by decide) dX3_isRecalled_21 ?_
  refine z_top (x' := z_bI (z_rc D b_)) (z_nw_rc _ (by omega)) ?_
  refine lv_iconst (v := 1) hx hb dX3_isRecalled_22 (by decide) ?_
  refine lv_icmp_ne (tgt := 30) hx hb dX3_isRecalled_23 (by decide) (fun c23 => ?_) (fun c23 => ?_)
  · skip
    refine lv_iconst (v := 0) hx hb dX3_isRecalled_30 (by decide) ?_
    refine lv_goto (tgt := 39) hx hb dX3_isRecalled_31 (by decide) ?_
    exact z_ew_z (z_b0 (z_q0 c23)) hP hS hx hb hr hlk dX3_isRecalled_39
  · skip
    refine lv_iconst (v := 1) hx hb dX3_isRecalled_26 (by decide) ?_
    refine lv_goto (tgt := 39) hx hb dX3_isRecalled_27 (by decide) ?_
    exact z_ew_z (z_b1 (z_q1 c23)) hP hS hx hb hr hlk dX3_isRecalled_39

set_option maxHeartbeats 4000000 in
set_option maxRecDepth 100000 in
theorem m_X3_daysUntilRecalled_x1 (l : Launch) (Dg : va_G) (cI : ClassId) (mo : Nat → Nat) (th : Int32) (G : z_GG) (D : z_DD) (K : Nat → Int32) (x_ : Int32) (e1 : ¬ (0 ≤ x_ ∧ x_ ≤ nI (z_bc G) - 1)) (hG : z_WG G) (hW : z_WD G D) : z_Mw l yX3_daysUntilRecalled wsX3_daysUntilRecalled 4 110 [.ref (mo 0), .int x_] Dg cI (z_mW cI mo th G D K) (some (.int 0)) (z_mW cI mo 1 G D K) := by
  have htc : z_tc G ≤ 60 := hG.2.2.2.2.2.1
  have hbc : z_bc G ≤ 6 := hG.2.2.2.2.1
  refine z_sw' (own := RX3) (l0 := [(0, .ref (mo 0)), (1, .int x_)]) rfl rfl (by decide) (Nat.le_of_ble_eq_true rfl) rfl ?_
  intro p e s m below meth c hx hb hr hml hts hown hlk hP hK hN hD hS ls hl
  refine lv_aload_n hx hb dX3_daysUntilRecalled_0 rfl (lv_at hl 0 rfl) ?_
  refine lv_iconst (v := 0) hx hb dX3_daysUntilRecalled_1 (by decide) ?_
  refine va_put (ci := 3) (v := .int 0) (ty := .int) (C := RX3) (T := TX3) (N := 12) hx hb hts (fun _ h => (List.mem_cons_of_mem _ (List.mem_append_right _ h))) tyX3 tyX3_ok nmX3 hown hK hP hD hS 0 rfl rfl 0 (by decide) (hts _ (List.mem_cons_of_mem _ (List.mem_append_left _ (List.mem_append_left _ (List.mem_of_getElem? (i := 0) rfl))))) (fun _ h9 => h9) rfl (by decide +kernel) rfl rfl (Nat.le_of_ble_eq_true rfl) dX3_daysUntilRecalled_2 (fun H locs hP hD hS => ?_)
  have hP : va_P Dg vwCl (z_mW cI mo 0 G D K) H := hP
  have hD : va_D _ (z_mW cI mo 0 G D K) := hD
  refine lv_aload_n hx hb dX3_daysUntilRecalled_5 rfl (lv_at hl 0 rfl) ?_
  refine lv_iload_n hx hb dX3_daysUntilRecalled_6 rfl (lv_at hl 1 rfl) ?_
  refine z_rVi (v := 0) [] hx hb hml hown hts (m_X3_isBatch_f l Dg cI mo 0 G D K x_ e1) gX3_daysUntilRecalled_X3_isBatch rfl kd_X3_isBatch ⟨Nat.le_of_ble_eq_true rfl, Nat.le_of_ble_eq_true rfl⟩ hK hN hP rfl rfl rfl rfl hl.1 rfl (Nat.le_of_ble_eq_true rfl) dX3_daysUntilRecalled_7 ⟨Nat.zero_le _, Nat.zero_le _⟩ ?_
  refine lv_if_eq (tgt := 21) hx hb dX3_daysUntilRecalled_10 (by decide) (fun c10 => ?_) (fun c10 => absurd rfl c10)
  refine lv_aload_n hx hb dX3_daysUntilRecalled_21 rfl (lv_at hl 0 rfl) ?_
  refine lv_iconst (v := 1) hx hb dX3_daysUntilRecalled_22 (by decide) ?_
  refine z_wAi (v := 0) [] hx hb hml hown hts (m_X3_no l Dg cI mo 0 G D K 1) gX3_daysUntilRecalled_X3_no rfl kd_X3_no ⟨Nat.le_of_ble_eq_true rfl, Nat.le_of_ble_eq_true rfl⟩ hK hN hP hD hS rfl rfl rfl rfl rfl hl.1 rfl (Nat.le_of_ble_eq_true rfl) dX3_daysUntilRecalled_23 ⟨Nat.zero_le _, Nat.zero_le _⟩ (fun H locs hP hD hS => ?_)
  have hP : va_P Dg vwCl (z_mW cI mo 1 G D K) H := hP
  have hD : va_D _ (z_mW cI mo 1 G D K) := hD
  exact z_ew_i rfl hP hS hx hb hr hlk dX3_daysUntilRecalled_26

set_option maxHeartbeats 4000000 in
set_option maxRecDepth 100000 in
theorem m_X3_daysUntilRecalled (l : Launch) (Dg : va_G) (cI : ClassId) (mo : Nat → Nat) (th : Int32) (G : z_GG) (D : z_DD) (K : Nat → Int32) (b_ : Nat) (hbb : b_ < z_bc G) (hG : z_WG G) (hW : z_WD G D) : z_Mw l yX3_daysUntilRecalled wsX3_daysUntilRecalled 4 110 [.ref (mo 0), .int (nI b_)] Dg cI (z_mW cI mo th G D K) (some (.int (z_ur G D b_))) (z_mW cI mo 0 G D (z_nw D)) := by
  have htc : z_tc G ≤ 60 := hG.2.2.2.2.2.1
  have hbc : z_bc G ≤ 6 := hG.2.2.2.2.1
  have hsd : z_sd G ≤ 9 := hG.2.2.2.2.2.2.1
  have hod : z_od G ≤ 2 := hG.2.2.2.2.2.2.2
  refine z_sw' (own := RX3) (l0 := [(0, .ref (mo 0)), (1, .int (nI b_))]) rfl rfl (by decide) (Nat.le_of_ble_eq_true rfl) rfl ?_
  intro p e s m below meth c hx hb hr hml hts hown hlk hP hK hN hD hS ls hl
  refine lv_aload_n hx hb dX3_daysUntilRecalled_0 rfl (lv_at hl 0 rfl) ?_
  refine lv_iconst (v := 0) hx hb dX3_daysUntilRecalled_1 (by decide) ?_
  refine va_put (ci := 3) (v := .int 0) (ty := .int) (C := RX3) (T := TX3) (N := 12) hx hb hts (fun _ h => (List.mem_cons_of_mem _ (List.mem_append_right _ h))) tyX3 tyX3_ok nmX3 hown hK hP hD hS 0 rfl rfl 0 (by decide) (hts _ (List.mem_cons_of_mem _ (List.mem_append_left _ (List.mem_append_left _ (List.mem_of_getElem? (i := 0) rfl))))) (fun _ h9 => h9) rfl (by decide +kernel) rfl rfl (Nat.le_of_ble_eq_true rfl) dX3_daysUntilRecalled_2 (fun H locs hP hD hS => ?_)
  have hP : va_P Dg vwCl (z_mW cI mo 0 G D K) H := hP
  have hD : va_D _ (z_mW cI mo 0 G D K) := hD
  refine lv_aload_n hx hb dX3_daysUntilRecalled_5 rfl (lv_at hl 0 rfl) ?_
  refine lv_iload_n hx hb dX3_daysUntilRecalled_6 rfl (lv_at hl 1 rfl) ?_
  refine z_rVi (v := 1) [] hx hb hml hown hts (m_X3_isBatch_t l Dg cI mo 0 G D K b_ (by omega) hG) gX3_daysUntilRecalled_X3_isBatch rfl kd_X3_isBatch ⟨Nat.le_of_ble_eq_true rfl, Nat.le_of_ble_eq_true rfl⟩ hK hN hP rfl rfl rfl rfl hl.1 rfl (Nat.le_of_ble_eq_true rfl) dX3_daysUntilRecalled_7 ⟨Nat.zero_le _, Nat.zero_le _⟩ ?_
  refine lv_if_eq (tgt := 21) hx hb dX3_daysUntilRecalled_10 (by decide) (fun c10 => absurd c10 (by decide)) (fun c10 => ?_)
  refine lv_aload_n hx hb dX3_daysUntilRecalled_13 rfl (lv_at hl 0 rfl) ?_
  refine lv_iload_n hx hb dX3_daysUntilRecalled_14 rfl (lv_at hl 1 rfl) ?_
  refine z_wAi (v := z_ur G D b_) [] hx hb hml hown hts (m_X3_untilRecalled l Dg cI mo 0 G D K b_ (by omega) hG hW) gX3_daysUntilRecalled_X3_untilRecalled rfl kd_X3_untilRecalled ⟨Nat.le_of_ble_eq_true rfl, Nat.le_of_ble_eq_true rfl⟩ hK hN hP hD hS rfl rfl rfl rfl rfl hl.1 rfl (Nat.le_of_ble_eq_true rfl) dX3_daysUntilRecalled_15 ⟨Nat.zero_le _, Nat.zero_le _⟩ (fun H locs hP hD hS => ?_)
  have hP : va_P Dg vwCl (z_mW cI mo 0 G D (z_nw D)) H := hP
  have hD : va_D _ (z_mW cI mo 0 G D (z_nw D)) := hD
  refine lv_goto (tgt := 26) hx hb dX3_daysUntilRecalled_18 (by decide) ?_
  exact z_ew_i rfl hP hS hx hb hr hlk dX3_daysUntilRecalled_26

set_option maxHeartbeats 4000000 in
set_option maxRecDepth 100000 in
theorem m_X3_first_x1 (l : Launch) (Dg : va_G) (cI : ClassId) (mo : Nat → Nat) (th : Int32) (G : z_GG) (D : z_DD) (K : Nat → Int32) (x_ : Int32) (e1 : ¬ (0 ≤ x_ ∧ x_ ≤ 2)) (hG : z_WG G) (hW : z_WD G D) : z_Mw l yX3_first wsX3_first 2 45 [.ref (mo 0), .int x_] Dg cI (z_mW cI mo th G D K) (some (.int 0)) (z_mW cI mo 1 G D K) := by
  have htc : z_tc G ≤ 60 := hG.2.2.2.2.2.1
  have hbc : z_bc G ≤ 6 := hG.2.2.2.2.1
  refine z_sw' (own := RX3) (l0 := [(0, .ref (mo 0)), (1, .int x_)]) rfl rfl (by decide) (Nat.le_of_ble_eq_true rfl) rfl ?_
  intro p e s m below meth c hx hb hr hml hts hown hlk hP hK hN hD hS ls hl
  refine lv_aload_n hx hb dX3_first_0 rfl (lv_at hl 0 rfl) ?_
  refine lv_iconst (v := 0) hx hb dX3_first_1 (by decide) ?_
  refine va_put (ci := 3) (v := .int 0) (ty := .int) (C := RX3) (T := TX3) (N := 12) hx hb hts (fun _ h => (List.mem_cons_of_mem _ (List.mem_append_right _ h))) tyX3 tyX3_ok nmX3 hown hK hP hD hS 0 rfl rfl 0 (by decide) (hts _ (List.mem_cons_of_mem _ (List.mem_append_left _ (List.mem_append_left _ (List.mem_of_getElem? (i := 0) rfl))))) (fun _ h9 => h9) rfl (by decide +kernel) rfl rfl (Nat.le_of_ble_eq_true rfl) dX3_first_2 (fun H locs hP hD hS => ?_)
  have hP : va_P Dg vwCl (z_mW cI mo 0 G D K) H := hP
  have hD : va_D _ (z_mW cI mo 0 G D K) := hD
  refine lv_iload_n hx hb dX3_first_5 rfl (lv_at hl 1 rfl) ?_
  refine z_rSi (v := 0) [] hx hb hml hown hts (m_X3_isOrder_f l Dg cI x_ e1) gX3_first_X3_isOrder rfl kdS_X3_isOrder ⟨Nat.le_of_ble_eq_true rfl, Nat.le_of_ble_eq_true rfl⟩ hK hN z_P0 rfl hl.1 rfl (Nat.le_of_ble_eq_true rfl) dX3_first_6 ⟨Nat.zero_le _, Nat.zero_le _⟩ ?_
  refine lv_if_eq (tgt := 20) hx hb dX3_first_9 (by decide) (fun c9 => ?_) (fun c9 => absurd rfl c9)
  refine lv_aload_n hx hb dX3_first_20 rfl (lv_at hl 0 rfl) ?_
  refine lv_iconst (v := 1) hx hb dX3_first_21 (by decide) ?_
  refine z_wAi (v := 0) [] hx hb hml hown hts (m_X3_no l Dg cI mo 0 G D K 1) gX3_first_X3_no rfl kd_X3_no ⟨Nat.le_of_ble_eq_true rfl, Nat.le_of_ble_eq_true rfl⟩ hK hN hP hD hS rfl rfl rfl rfl rfl hl.1 rfl (Nat.le_of_ble_eq_true rfl) dX3_first_22 ⟨Nat.zero_le _, Nat.zero_le _⟩ (fun H locs hP hD hS => ?_)
  have hP : va_P Dg vwCl (z_mW cI mo 1 G D K) H := hP
  have hD : va_D _ (z_mW cI mo 1 G D K) := hD
  exact z_ew_i rfl hP hS hx hb hr hlk dX3_first_25

set_option maxHeartbeats 4000000 in
set_option maxRecDepth 100000 in
theorem m_X3_first (l : Launch) (Dg : va_G) (cI : ClassId) (mo : Nat → Nat) (th : Int32) (G : z_GG) (D : z_DD) (K : Nat → Int32) (o : Nat) (ho : o < 3) (hG : z_WG G) (hW : z_WD G D) : z_Mw l yX3_first wsX3_first 2 45 [.ref (mo 0), .int (nI o)] Dg cI (z_mW cI mo th G D K) (some (.int (z_oi (z_fb G D o (z_tc G))))) (z_mW cI mo 0 G D K) := by
  have htc : z_tc G ≤ 60 := hG.2.2.2.2.2.1
  have hbc : z_bc G ≤ 6 := hG.2.2.2.2.1
  have hsd : z_sd G ≤ 9 := hG.2.2.2.2.2.2.1
  have hod : z_od G ≤ 2 := hG.2.2.2.2.2.2.2
  refine z_sw' (own := RX3) (l0 := [(0, .ref (mo 0)), (1, .int (nI o))]) rfl rfl (by decide) (Nat.le_of_ble_eq_true rfl) rfl ?_
  intro p e s m below meth c hx hb hr hml hts hown hlk hP hK hN hD hS ls hl
  refine lv_aload_n hx hb dX3_first_0 rfl (lv_at hl 0 rfl) ?_
  refine lv_iconst (v := 0) hx hb dX3_first_1 (by decide) ?_
  refine va_put (ci := 3) (v := .int 0) (ty := .int) (C := RX3) (T := TX3) (N := 12) hx hb hts (fun _ h => (List.mem_cons_of_mem _ (List.mem_append_right _ h))) tyX3 tyX3_ok nmX3 hown hK hP hD hS 0 rfl rfl 0 (by decide) (hts _ (List.mem_cons_of_mem _ (List.mem_append_left _ (List.mem_append_left _ (List.mem_of_getElem? (i := 0) rfl))))) (fun _ h9 => h9) rfl (by decide +kernel) rfl rfl (Nat.le_of_ble_eq_true rfl) dX3_first_2 (fun H locs hP hD hS => ?_)
  have hP : va_P Dg vwCl (z_mW cI mo 0 G D K) H := hP
  have hD : va_D _ (z_mW cI mo 0 G D K) := hD
  refine lv_iload_n hx hb dX3_first_5 rfl (lv_at hl 1 rfl) ?_
  refine z_rSi (v := 1) [] hx hb hml hown hts (m_X3_isOrder_t l Dg cI o (by omega)) gX3_first_X3_isOrder rfl kdS_X3_isOrder ⟨Nat.le_of_ble_eq_true rfl, Nat.le_of_ble_eq_true rfl⟩ hK hN z_P0 rfl hl.1 rfl (Nat.le_of_ble_eq_true rfl) dX3_first_6 ⟨Nat.zero_le _, Nat.zero_le _⟩ ?_
  refine lv_if_eq (tgt := 20) hx hb dX3_first_9 (by decide) (fun c9 => absurd c9 (by decide)) (fun c9 => ?_)
  refine lv_aload_n hx hb dX3_first_12 rfl (lv_at hl 0 rfl) ?_
  refine lv_iload_n hx hb dX3_first_13 rfl (lv_at hl 1 rfl) ?_
  refine z_rVi (v := z_oi (z_fb G D o (z_tc G))) [] hx hb hml hown hts (m_X3_firstBy l Dg cI mo 0 G D K o (by omega) hG hW) gX3_first_X3_firstBy rfl kd_X3_firstBy ⟨Nat.le_of_ble_eq_true rfl, Nat.le_of_ble_eq_true rfl⟩ hK hN hP rfl rfl rfl rfl hl.1 rfl (Nat.le_of_ble_eq_true rfl) dX3_first_14 ⟨Nat.zero_le _, Nat.zero_le _⟩ ?_
  refine lv_goto (tgt := 25) hx hb dX3_first_17 (by decide) ?_
  exact z_ew_i rfl hP hS hx hb hr hlk dX3_first_25

set_option maxHeartbeats 4000000 in
set_option maxRecDepth 100000 in
theorem m_X3_placeBy_x1 (l : Launch) (Dg : va_G) (cI : ClassId) (mo : Nat → Nat) (th : Int32) (G : z_GG) (D : z_DD) (K : Nat → Int32) (x_ : Int32) (y_ : Int32) (e1 : ¬ (0 ≤ x_ ∧ x_ ≤ nI (z_tc G) - 1)) (hG : z_WG G) (hW : z_WD G D) : z_Mw l yX3_placeBy wsX3_placeBy 2 46 [.ref (mo 0), .int x_, .int y_] Dg cI (z_mW cI mo th G D K) (some (.int 0)) (z_mW cI mo 1 G D K) := by
  have htc : z_tc G ≤ 60 := hG.2.2.2.2.2.1
  have hbc : z_bc G ≤ 6 := hG.2.2.2.2.1
  refine z_sw' (own := RX3) (l0 := [(0, .ref (mo 0)), (1, .int x_), (2, .int y_)]) rfl rfl (by decide) (Nat.le_of_ble_eq_true rfl) rfl ?_
  intro p e s m below meth c hx hb hr hml hts hown hlk hP hK hN hD hS ls hl
  refine lv_aload_n hx hb dX3_placeBy_0 rfl (lv_at hl 0 rfl) ?_
  refine lv_iconst (v := 0) hx hb dX3_placeBy_1 (by decide) ?_
  refine va_put (ci := 3) (v := .int 0) (ty := .int) (C := RX3) (T := TX3) (N := 12) hx hb hts (fun _ h => (List.mem_cons_of_mem _ (List.mem_append_right _ h))) tyX3 tyX3_ok nmX3 hown hK hP hD hS 0 rfl rfl 0 (by decide) (hts _ (List.mem_cons_of_mem _ (List.mem_append_left _ (List.mem_append_left _ (List.mem_of_getElem? (i := 0) rfl))))) (fun _ h9 => h9) rfl (by decide +kernel) rfl rfl (Nat.le_of_ble_eq_true rfl) dX3_placeBy_2 (fun H locs hP hD hS => ?_)
  have hP : va_P Dg vwCl (z_mW cI mo 0 G D K) H := hP
  have hD : va_D _ (z_mW cI mo 0 G D K) := hD
  refine lv_aload_n hx hb dX3_placeBy_5 rfl (lv_at hl 0 rfl) ?_
  refine lv_iload_n hx hb dX3_placeBy_6 rfl (lv_at hl 1 rfl) ?_
  refine z_rVi (v := 0) [] hx hb hml hown hts (m_X3_isTin_f l Dg cI mo 0 G D K x_ e1) gX3_placeBy_X3_isTin rfl kd_X3_isTin ⟨Nat.le_of_ble_eq_true rfl, Nat.le_of_ble_eq_true rfl⟩ hK hN hP rfl rfl rfl rfl hl.1 rfl (Nat.le_of_ble_eq_true rfl) dX3_placeBy_7 ⟨Nat.zero_le _, Nat.zero_le _⟩ ?_
  refine lv_if_ne (tgt := 19) hx hb dX3_placeBy_10 (by decide) (fun c10 => absurd rfl c10) (fun c10 => ?_)
  refine lv_aload_n hx hb dX3_placeBy_13 rfl (lv_at hl 0 rfl) ?_
  refine lv_iconst (v := 1) hx hb dX3_placeBy_14 (by decide) ?_
  refine z_wAi (v := 0) [] hx hb hml hown hts (m_X3_no l Dg cI mo 0 G D K 1) gX3_placeBy_X3_no rfl kd_X3_no ⟨Nat.le_of_ble_eq_true rfl, Nat.le_of_ble_eq_true rfl⟩ hK hN hP hD hS rfl rfl rfl rfl rfl hl.1 rfl (Nat.le_of_ble_eq_true rfl) dX3_placeBy_15 ⟨Nat.zero_le _, Nat.zero_le _⟩ (fun H locs hP hD hS => ?_)
  have hP : va_P Dg vwCl (z_mW cI mo 1 G D K) H := hP
  have hD : va_D _ (z_mW cI mo 1 G D K) := hD
  exact z_ew_i rfl hP hS hx hb hr hlk dX3_placeBy_18

set_option maxHeartbeats 4000000 in
set_option maxRecDepth 100000 in
theorem m_X3_placeBy_x2 (l : Launch) (Dg : va_G) (cI : ClassId) (mo : Nat → Nat) (th : Int32) (G : z_GG) (D : z_DD) (K : Nat → Int32) (t : Nat) (x_ : Int32) (ht : t < z_tc G) (e1 : ¬ (0 ≤ x_ ∧ x_ ≤ 2)) (hG : z_WG G) (hW : z_WD G D) : z_Mw l yX3_placeBy wsX3_placeBy 2 46 [.ref (mo 0), .int (nI t), .int x_] Dg cI (z_mW cI mo th G D K) (some (.int 0)) (z_mW cI mo 2 G D K) := by
  have htc : z_tc G ≤ 60 := hG.2.2.2.2.2.1
  have hbc : z_bc G ≤ 6 := hG.2.2.2.2.1
  refine z_sw' (own := RX3) (l0 := [(0, .ref (mo 0)), (1, .int (nI t)), (2, .int x_)]) rfl rfl (by decide) (Nat.le_of_ble_eq_true rfl) rfl ?_
  intro p e s m below meth c hx hb hr hml hts hown hlk hP hK hN hD hS ls hl
  refine lv_aload_n hx hb dX3_placeBy_0 rfl (lv_at hl 0 rfl) ?_
  refine lv_iconst (v := 0) hx hb dX3_placeBy_1 (by decide) ?_
  refine va_put (ci := 3) (v := .int 0) (ty := .int) (C := RX3) (T := TX3) (N := 12) hx hb hts (fun _ h => (List.mem_cons_of_mem _ (List.mem_append_right _ h))) tyX3 tyX3_ok nmX3 hown hK hP hD hS 0 rfl rfl 0 (by decide) (hts _ (List.mem_cons_of_mem _ (List.mem_append_left _ (List.mem_append_left _ (List.mem_of_getElem? (i := 0) rfl))))) (fun _ h9 => h9) rfl (by decide +kernel) rfl rfl (Nat.le_of_ble_eq_true rfl) dX3_placeBy_2 (fun H locs hP hD hS => ?_)
  have hP : va_P Dg vwCl (z_mW cI mo 0 G D K) H := hP
  have hD : va_D _ (z_mW cI mo 0 G D K) := hD
  refine lv_aload_n hx hb dX3_placeBy_5 rfl (lv_at hl 0 rfl) ?_
  refine lv_iload_n hx hb dX3_placeBy_6 rfl (lv_at hl 1 rfl) ?_
  refine z_rVi (v := 1) [] hx hb hml hown hts (m_X3_isTin_t l Dg cI mo 0 G D K t (by omega) hG) gX3_placeBy_X3_isTin rfl kd_X3_isTin ⟨Nat.le_of_ble_eq_true rfl, Nat.le_of_ble_eq_true rfl⟩ hK hN hP rfl rfl rfl rfl hl.1 rfl (Nat.le_of_ble_eq_true rfl) dX3_placeBy_7 ⟨Nat.zero_le _, Nat.zero_le _⟩ ?_
  refine lv_if_ne (tgt := 19) hx hb dX3_placeBy_10 (by decide) (fun c10 => ?_) (fun c10 => absurd c10 (by decide))
  refine lv_iload_n hx hb dX3_placeBy_19 rfl (lv_at hl 2 rfl) ?_
  refine z_rSi (v := 0) [] hx hb hml hown hts (m_X3_isOrder_f l Dg cI x_ e1) gX3_placeBy_X3_isOrder rfl kdS_X3_isOrder ⟨Nat.le_of_ble_eq_true rfl, Nat.le_of_ble_eq_true rfl⟩ hK hN z_P0 rfl hl.1 rfl (Nat.le_of_ble_eq_true rfl) dX3_placeBy_20 ⟨Nat.zero_le _, Nat.zero_le _⟩ ?_
  refine lv_if_eq (tgt := 35) hx hb dX3_placeBy_23 (by decide) (fun c23 => ?_) (fun c23 => absurd rfl c23)
  refine lv_aload_n hx hb dX3_placeBy_35 rfl (lv_at hl 0 rfl) ?_
  refine lv_iconst (v := 2) hx hb dX3_placeBy_36 (by decide) ?_
  refine z_wAi (v := 0) [] hx hb hml hown hts (m_X3_no l Dg cI mo 0 G D K 2) gX3_placeBy_X3_no rfl kd_X3_no ⟨Nat.le_of_ble_eq_true rfl, Nat.le_of_ble_eq_true rfl⟩ hK hN hP hD hS rfl rfl rfl rfl rfl hl.1 rfl (Nat.le_of_ble_eq_true rfl) dX3_placeBy_37 ⟨Nat.zero_le _, Nat.zero_le _⟩ (fun H locs hP hD hS => ?_)
  have hP : va_P Dg vwCl (z_mW cI mo 2 G D K) H := hP
  have hD : va_D _ (z_mW cI mo 2 G D K) := hD
  exact z_ew_i rfl hP hS hx hb hr hlk dX3_placeBy_40

set_option maxHeartbeats 4000000 in
set_option maxRecDepth 100000 in
theorem m_X3_placeBy (l : Launch) (Dg : va_G) (cI : ClassId) (mo : Nat → Nat) (th : Int32) (G : z_GG) (D : z_DD) (K : Nat → Int32) (t : Nat) (o : Nat) (ht : t < z_tc G) (ho : o < 3) (hG : z_WG G) (hW : z_WD G D) : z_Mw l yX3_placeBy wsX3_placeBy 2 46 [.ref (mo 0), .int (nI t), .int (nI o)] Dg cI (z_mW cI mo th G D K) (some (.int (z_plb G D o t))) (z_mW cI mo 0 G D K) := by
  have htc : z_tc G ≤ 60 := hG.2.2.2.2.2.1
  have hbc : z_bc G ≤ 6 := hG.2.2.2.2.1
  have hsd : z_sd G ≤ 9 := hG.2.2.2.2.2.2.1
  have hod : z_od G ≤ 2 := hG.2.2.2.2.2.2.2
  have hpl := hW t ht
  have hbt := hG.2.2.1 t
  have hsh := hG.2.2.2.1 t
  refine z_sw' (own := RX3) (l0 := [(0, .ref (mo 0)), (1, .int (nI t)), (2, .int (nI o))]) rfl rfl (by decide) (Nat.le_of_ble_eq_true rfl) rfl ?_
  intro p e s m below meth c hx hb hr hml hts hown hlk hP hK hN hD hS ls hl
  refine lv_aload_n hx hb dX3_placeBy_0 rfl (lv_at hl 0 rfl) ?_
  refine lv_iconst (v := 0) hx hb dX3_placeBy_1 (by decide) ?_
  refine va_put (ci := 3) (v := .int 0) (ty := .int) (C := RX3) (T := TX3) (N := 12) hx hb hts (fun _ h => (List.mem_cons_of_mem _ (List.mem_append_right _ h))) tyX3 tyX3_ok nmX3 hown hK hP hD hS 0 rfl rfl 0 (by decide) (hts _ (List.mem_cons_of_mem _ (List.mem_append_left _ (List.mem_append_left _ (List.mem_of_getElem? (i := 0) rfl))))) (fun _ h9 => h9) rfl (by decide +kernel) rfl rfl (Nat.le_of_ble_eq_true rfl) dX3_placeBy_2 (fun H locs hP hD hS => ?_)
  have hP : va_P Dg vwCl (z_mW cI mo 0 G D K) H := hP
  have hD : va_D _ (z_mW cI mo 0 G D K) := hD
  refine lv_aload_n hx hb dX3_placeBy_5 rfl (lv_at hl 0 rfl) ?_
  refine lv_iload_n hx hb dX3_placeBy_6 rfl (lv_at hl 1 rfl) ?_
  refine z_rVi (v := 1) [] hx hb hml hown hts (m_X3_isTin_t l Dg cI mo 0 G D K t (by omega) hG) gX3_placeBy_X3_isTin rfl kd_X3_isTin ⟨Nat.le_of_ble_eq_true rfl, Nat.le_of_ble_eq_true rfl⟩ hK hN hP rfl rfl rfl rfl hl.1 rfl (Nat.le_of_ble_eq_true rfl) dX3_placeBy_7 ⟨Nat.zero_le _, Nat.zero_le _⟩ ?_
  refine lv_if_ne (tgt := 19) hx hb dX3_placeBy_10 (by decide) (fun c10 => ?_) (fun c10 => absurd c10 (by decide))
  refine lv_iload_n hx hb dX3_placeBy_19 rfl (lv_at hl 2 rfl) ?_
  refine z_rSi (v := 1) [] hx hb hml hown hts (m_X3_isOrder_t l Dg cI o (by omega)) gX3_placeBy_X3_isOrder rfl kdS_X3_isOrder ⟨Nat.le_of_ble_eq_true rfl, Nat.le_of_ble_eq_true rfl⟩ hK hN z_P0 rfl hl.1 rfl (Nat.le_of_ble_eq_true rfl) dX3_placeBy_20 ⟨Nat.zero_le _, Nat.zero_le _⟩ ?_
  refine lv_if_eq (tgt := 35) hx hb dX3_placeBy_23 (by decide) (fun c23 => absurd c23 (by decide)) (fun c23 => ?_)
  refine lv_aload_n hx hb dX3_placeBy_26 rfl (lv_at hl 0 rfl) ?_
  refine lv_iload_n hx hb dX3_placeBy_27 rfl (lv_at hl 1 rfl) ?_
  refine lv_iload_n hx hb dX3_placeBy_28 rfl (lv_at hl 2 rfl) ?_
  refine z_rVi (v := z_plb G D o t) [] hx hb hml hown hts (m_X3_ahead l Dg cI mo 0 G D K t o (by omega) (by omega) hG hW) gX3_placeBy_X3_ahead rfl kd_X3_ahead ⟨Nat.le_of_ble_eq_true rfl, Nat.le_of_ble_eq_true rfl⟩ hK hN hP rfl rfl rfl rfl hl.1 rfl (Nat.le_of_ble_eq_true rfl) dX3_placeBy_29 ⟨Nat.zero_le _, Nat.zero_le _⟩ ?_
  refine lv_goto (tgt := 40) hx hb dX3_placeBy_32 (by decide) ?_
  exact z_ew_i rfl hP hS hx hb hr hlk dX3_placeBy_40

set_option maxHeartbeats 4000000 in
set_option maxRecDepth 100000 in
theorem m_X3_lostWith_x1 (l : Launch) (Dg : va_G) (cI : ClassId) (mo : Nat → Nat) (th : Int32) (G : z_GG) (D : z_DD) (K : Nat → Int32) (x_ : Int32) (y_ : Int32) (e1 : ¬ (0 ≤ x_ ∧ x_ ≤ 9)) (hG : z_WG G) (hW : z_WD G D) : z_Mw l yX3_lostWith wsX3_lostWith 5 115 [.ref (mo 0), .int x_, .int y_] Dg cI (z_mW cI mo th G D K) (some (.int 0)) (z_mW cI mo 1 G D K) := by
  have htc : z_tc G ≤ 60 := hG.2.2.2.2.2.1
  have hbc : z_bc G ≤ 6 := hG.2.2.2.2.1
  refine z_sw' (own := RX3) (l0 := [(0, .ref (mo 0)), (1, .int x_), (2, .int y_)]) rfl rfl (by decide) (Nat.le_of_ble_eq_true rfl) rfl ?_
  intro p e s m below meth c hx hb hr hml hts hown hlk hP hK hN hD hS ls hl
  refine lv_aload_n hx hb dX3_lostWith_0 rfl (lv_at hl 0 rfl) ?_
  refine lv_iconst (v := 0) hx hb dX3_lostWith_1 (by decide) ?_
  refine va_put (ci := 3) (v := .int 0) (ty := .int) (C := RX3) (T := TX3) (N := 12) hx hb hts (fun _ h => (List.mem_cons_of_mem _ (List.mem_append_right _ h))) tyX3 tyX3_ok nmX3 hown hK hP hD hS 0 rfl rfl 0 (by decide) (hts _ (List.mem_cons_of_mem _ (List.mem_append_left _ (List.mem_append_left _ (List.mem_of_getElem? (i := 0) rfl))))) (fun _ h9 => h9) rfl (by decide +kernel) rfl rfl (Nat.le_of_ble_eq_true rfl) dX3_lostWith_2 (fun H locs hP hD hS => ?_)
  have hP : va_P Dg vwCl (z_mW cI mo 0 G D K) H := hP
  have hD : va_D _ (z_mW cI mo 0 G D K) := hD
  refine lv_iload_n hx hb dX3_lostWith_5 rfl (lv_at hl 1 rfl) ?_
  refine lv_iconst (v := 0) hx hb dX3_lostWith_6 (by decide) ?_
  refine lv_bipush (v := 9) hx hb dX3_lostWith_7 (by decide) ?_
  refine z_rSi (v := 0) [] hx hb hml hown hts (m_X3_isIn_f l Dg cI x_ 0 9 e1) gX3_lostWith_X3_isIn rfl kdS_X3_isIn ⟨Nat.le_of_ble_eq_true rfl, Nat.le_of_ble_eq_true rfl⟩ hK hN z_P0 rfl hl.1 rfl (Nat.le_of_ble_eq_true rfl) dX3_lostWith_9 ⟨Nat.zero_le _, Nat.zero_le _⟩ ?_
  refine lv_if_eq (tgt := 31) hx hb dX3_lostWith_12 (by decide) (fun c12 => ?_) (fun c12 => absurd rfl c12)
  refine lv_aload_n hx hb dX3_lostWith_31 rfl (lv_at hl 0 rfl) ?_
  refine lv_iconst (v := 1) hx hb dX3_lostWith_32 (by decide) ?_
  refine z_wAi (v := 0) [] hx hb hml hown hts (m_X3_no l Dg cI mo 0 G D K 1) gX3_lostWith_X3_no rfl kd_X3_no ⟨Nat.le_of_ble_eq_true rfl, Nat.le_of_ble_eq_true rfl⟩ hK hN hP hD hS rfl rfl rfl rfl rfl hl.1 rfl (Nat.le_of_ble_eq_true rfl) dX3_lostWith_33 ⟨Nat.zero_le _, Nat.zero_le _⟩ (fun H locs hP hD hS => ?_)
  have hP : va_P Dg vwCl (z_mW cI mo 1 G D K) H := hP
  have hD : va_D _ (z_mW cI mo 1 G D K) := hD
  exact z_ew_i rfl hP hS hx hb hr hlk dX3_lostWith_36

set_option maxHeartbeats 4000000 in
set_option maxRecDepth 100000 in
theorem m_X3_lostWith_x2 (l : Launch) (Dg : va_G) (cI : ClassId) (mo : Nat → Nat) (th : Int32) (G : z_GG) (D : z_DD) (K : Nat → Int32) (m_ : Nat) (x_ : Int32) (hm9 : m_ < 10) (e1 : ¬ (0 ≤ x_ ∧ x_ ≤ 2)) (hG : z_WG G) (hW : z_WD G D) : z_Mw l yX3_lostWith wsX3_lostWith 5 115 [.ref (mo 0), .int (nI m_), .int x_] Dg cI (z_mW cI mo th G D K) (some (.int 0)) (z_mW cI mo 1 G D K) := by
  have htc : z_tc G ≤ 60 := hG.2.2.2.2.2.1
  have hbc : z_bc G ≤ 6 := hG.2.2.2.2.1
  refine z_sw' (own := RX3) (l0 := [(0, .ref (mo 0)), (1, .int (nI m_)), (2, .int x_)]) rfl rfl (by decide) (Nat.le_of_ble_eq_true rfl) rfl ?_
  intro p e s m below meth c hx hb hr hml hts hown hlk hP hK hN hD hS ls hl
  refine lv_aload_n hx hb dX3_lostWith_0 rfl (lv_at hl 0 rfl) ?_
  refine lv_iconst (v := 0) hx hb dX3_lostWith_1 (by decide) ?_
  refine va_put (ci := 3) (v := .int 0) (ty := .int) (C := RX3) (T := TX3) (N := 12) hx hb hts (fun _ h => (List.mem_cons_of_mem _ (List.mem_append_right _ h))) tyX3 tyX3_ok nmX3 hown hK hP hD hS 0 rfl rfl 0 (by decide) (hts _ (List.mem_cons_of_mem _ (List.mem_append_left _ (List.mem_append_left _ (List.mem_of_getElem? (i := 0) rfl))))) (fun _ h9 => h9) rfl (by decide +kernel) rfl rfl (Nat.le_of_ble_eq_true rfl) dX3_lostWith_2 (fun H locs hP hD hS => ?_)
  have hP : va_P Dg vwCl (z_mW cI mo 0 G D K) H := hP
  have hD : va_D _ (z_mW cI mo 0 G D K) := hD
  refine lv_iload_n hx hb dX3_lostWith_5 rfl (lv_at hl 1 rfl) ?_
  refine lv_iconst (v := nI 0) hx hb dX3_lostWith_6 (by decide) ?_
  refine lv_bipush (v := nI 9) hx hb dX3_lostWith_7 (by decide) ?_
  refine z_rSi (v := 1) [] hx hb hml hown hts (m_X3_isIn_t l Dg cI (nI m_) (nI 0) (nI 9) (nI_le (Nat.zero_le _) (by omega)) (nI_le (by omega) (by decide))) gX3_lostWith_X3_isIn rfl kdS_X3_isIn ⟨Nat.le_of_ble_eq_true rfl, Nat.le_of_ble_eq_true rfl⟩ hK hN z_P0 rfl hl.1 rfl (Nat.le_of_ble_eq_true rfl) dX3_lostWith_9 ⟨Nat.zero_le _, Nat.zero_le _⟩ ?_
  refine lv_if_eq (tgt := 31) hx hb dX3_lostWith_12 (by decide) (fun c12 => absurd c12 (by decide)) (fun c12 => ?_)
  refine lv_iload_n hx hb dX3_lostWith_15 rfl (lv_at hl 2 rfl) ?_
  refine z_rSi (v := 0) [] hx hb hml hown hts (m_X3_isOrder_f l Dg cI x_ e1) gX3_lostWith_X3_isOrder rfl kdS_X3_isOrder ⟨Nat.le_of_ble_eq_true rfl, Nat.le_of_ble_eq_true rfl⟩ hK hN z_P0 rfl hl.1 rfl (Nat.le_of_ble_eq_true rfl) dX3_lostWith_16 ⟨Nat.zero_le _, Nat.zero_le _⟩ ?_
  refine lv_if_eq (tgt := 31) hx hb dX3_lostWith_19 (by decide) (fun c19 => ?_) (fun c19 => absurd rfl c19)
  refine lv_aload_n hx hb dX3_lostWith_31 rfl (lv_at hl 0 rfl) ?_
  refine lv_iconst (v := 1) hx hb dX3_lostWith_32 (by decide) ?_
  refine z_wAi (v := 0) [] hx hb hml hown hts (m_X3_no l Dg cI mo 0 G D K 1) gX3_lostWith_X3_no rfl kd_X3_no ⟨Nat.le_of_ble_eq_true rfl, Nat.le_of_ble_eq_true rfl⟩ hK hN hP hD hS rfl rfl rfl rfl rfl hl.1 rfl (Nat.le_of_ble_eq_true rfl) dX3_lostWith_33 ⟨Nat.zero_le _, Nat.zero_le _⟩ (fun H locs hP hD hS => ?_)
  have hP : va_P Dg vwCl (z_mW cI mo 1 G D K) H := hP
  have hD : va_D _ (z_mW cI mo 1 G D K) := hD
  exact z_ew_i rfl hP hS hx hb hr hlk dX3_lostWith_36

set_option maxHeartbeats 4000000 in
set_option maxRecDepth 100000 in
theorem m_X3_lostWith (l : Launch) (Dg : va_G) (cI : ClassId) (mo : Nat → Nat) (th : Int32) (G : z_GG) (D : z_DD) (K : Nat → Int32) (m_ : Nat) (o : Nat) (hm9 : m_ < 10) (ho : o < 3) (hG : z_WG G) (hW : z_WD G D) : z_Mw l yX3_lostWith wsX3_lostWith 5 115 [.ref (mo 0), .int (nI m_), .int (nI o)] Dg cI (z_mW cI mo th G D K) (some (.int (z_ls G D m_ o))) (z_mW cI mo 0 G D (z_nw D)) := by
  have htc : z_tc G ≤ 60 := hG.2.2.2.2.2.1
  have hbc : z_bc G ≤ 6 := hG.2.2.2.2.1
  have hsd : z_sd G ≤ 9 := hG.2.2.2.2.2.2.1
  have hod : z_od G ≤ 2 := hG.2.2.2.2.2.2.2
  refine z_sw' (own := RX3) (l0 := [(0, .ref (mo 0)), (1, .int (nI m_)), (2, .int (nI o))]) rfl rfl (by decide) (Nat.le_of_ble_eq_true rfl) rfl ?_
  intro p e s m below meth c hx hb hr hml hts hown hlk hP hK hN hD hS ls hl
  refine lv_aload_n hx hb dX3_lostWith_0 rfl (lv_at hl 0 rfl) ?_
  refine lv_iconst (v := 0) hx hb dX3_lostWith_1 (by decide) ?_
  refine va_put (ci := 3) (v := .int 0) (ty := .int) (C := RX3) (T := TX3) (N := 12) hx hb hts (fun _ h => (List.mem_cons_of_mem _ (List.mem_append_right _ h))) tyX3 tyX3_ok nmX3 hown hK hP hD hS 0 rfl rfl 0 (by decide) (hts _ (List.mem_cons_of_mem _ (List.mem_append_left _ (List.mem_append_left _ (List.mem_of_getElem? (i := 0) rfl))))) (fun _ h9 => h9) rfl (by decide +kernel) rfl rfl (Nat.le_of_ble_eq_true rfl) dX3_lostWith_2 (fun H locs hP hD hS => ?_)
  have hP : va_P Dg vwCl (z_mW cI mo 0 G D K) H := hP
  have hD : va_D _ (z_mW cI mo 0 G D K) := hD
  refine lv_iload_n hx hb dX3_lostWith_5 rfl (lv_at hl 1 rfl) ?_
  refine lv_iconst (v := nI 0) hx hb dX3_lostWith_6 (by decide) ?_
  refine lv_bipush (v := nI 9) hx hb dX3_lostWith_7 (by decide) ?_
  refine z_rSi (v := 1) [] hx hb hml hown hts (m_X3_isIn_t l Dg cI (nI m_) (nI 0) (nI 9) (nI_le (Nat.zero_le _) (by omega)) (nI_le (by omega) (by decide))) gX3_lostWith_X3_isIn rfl kdS_X3_isIn ⟨Nat.le_of_ble_eq_true rfl, Nat.le_of_ble_eq_true rfl⟩ hK hN z_P0 rfl hl.1 rfl (Nat.le_of_ble_eq_true rfl) dX3_lostWith_9 ⟨Nat.zero_le _, Nat.zero_le _⟩ ?_
  refine lv_if_eq (tgt := 31) hx hb dX3_lostWith_12 (by decide) (fun c12 => absurd c12 (by decide)) (fun c12 => ?_)
  refine lv_iload_n hx hb dX3_lostWith_15 rfl (lv_at hl 2 rfl) ?_
  refine z_rSi (v := 1) [] hx hb hml hown hts (m_X3_isOrder_t l Dg cI o (by omega)) gX3_lostWith_X3_isOrder rfl kdS_X3_isOrder ⟨Nat.le_of_ble_eq_true rfl, Nat.le_of_ble_eq_true rfl⟩ hK hN z_P0 rfl hl.1 rfl (Nat.le_of_ble_eq_true rfl) dX3_lostWith_16 ⟨Nat.zero_le _, Nat.zero_le _⟩ ?_
  refine lv_if_eq (tgt := 31) hx hb dX3_lostWith_19 (by decide) (fun c19 => absurd c19 (by decide)) (fun c19 => ?_)
  refine lv_aload_n hx hb dX3_lostWith_22 rfl (lv_at hl 0 rfl) ?_
  refine lv_iload_n hx hb dX3_lostWith_23 rfl (lv_at hl 1 rfl) ?_
  refine lv_iload_n hx hb dX3_lostWith_24 rfl (lv_at hl 2 rfl) ?_
  refine z_wAi (v := z_ls G D m_ o) [] hx hb hml hown hts (m_X3_lostBehind l Dg cI mo 0 G D K m_ o (by omega) (by omega) hG hW) gX3_lostWith_X3_lostBehind rfl kd_X3_lostBehind ⟨Nat.le_of_ble_eq_true rfl, Nat.le_of_ble_eq_true rfl⟩ hK hN hP hD hS rfl rfl rfl rfl rfl hl.1 rfl (Nat.le_of_ble_eq_true rfl) dX3_lostWith_25 ⟨Nat.zero_le _, Nat.zero_le _⟩ (fun H locs hP hD hS => ?_)
  have hP : va_P Dg vwCl (z_mW cI mo 0 G D (z_nw D)) H := hP
  have hD : va_D _ (z_mW cI mo 0 G D (z_nw D)) := hD
  refine lv_goto (tgt := 36) hx hb dX3_lostWith_28 (by decide) ?_
  exact z_ew_i rfl hP hS hx hb hr hlk dX3_lostWith_36

set_option maxHeartbeats 4000000 in
set_option maxRecDepth 100000 in
theorem m_X3_setShipping_x1 (l : Launch) (Dg : va_G) (cI : ClassId) (mo : Nat → Nat) (th : Int32) (G : z_GG) (D : z_DD) (K : Nat → Int32) (x_ : Int32) (y_ : Int32) (e1 : ¬ (0 ≤ x_ ∧ x_ ≤ 9)) (hG : z_WG G) (hW : z_WD G D) : z_Mw l yX3_setShipping wsX3_setShipping 2 42 [.ref (mo 0), .int x_, .int y_] Dg cI (z_mW cI mo th G D K) (some (.int 0)) (z_mW cI mo 1 G D K) := by
  have htc : z_tc G ≤ 60 := hG.2.2.2.2.2.1
  have hbc : z_bc G ≤ 6 := hG.2.2.2.2.1
  refine z_sw' (own := RX3) (l0 := [(0, .ref (mo 0)), (1, .int x_), (2, .int y_)]) rfl rfl (by decide) (Nat.le_of_ble_eq_true rfl) rfl ?_
  intro p e s m below meth c hx hb hr hml hts hown hlk hP hK hN hD hS ls hl
  refine lv_aload_n hx hb dX3_setShipping_0 rfl (lv_at hl 0 rfl) ?_
  refine lv_iconst (v := 0) hx hb dX3_setShipping_1 (by decide) ?_
  refine va_put (ci := 3) (v := .int 0) (ty := .int) (C := RX3) (T := TX3) (N := 12) hx hb hts (fun _ h => (List.mem_cons_of_mem _ (List.mem_append_right _ h))) tyX3 tyX3_ok nmX3 hown hK hP hD hS 0 rfl rfl 0 (by decide) (hts _ (List.mem_cons_of_mem _ (List.mem_append_left _ (List.mem_of_getElem? (i := 0) rfl)))) (fun _ h9 => h9) rfl (by decide +kernel) rfl rfl (Nat.le_of_ble_eq_true rfl) dX3_setShipping_2 (fun H locs hP hD hS => ?_)
  have hP : va_P Dg vwCl (z_mW cI mo 0 G D K) H := hP
  have hD : va_D _ (z_mW cI mo 0 G D K) := hD
  refine lv_iload_n hx hb dX3_setShipping_5 rfl (lv_at hl 1 rfl) ?_
  refine lv_iconst (v := 0) hx hb dX3_setShipping_6 (by decide) ?_
  refine lv_bipush (v := 9) hx hb dX3_setShipping_7 (by decide) ?_
  refine z_rSi (v := 0) [] hx hb hml hown hts (m_X3_isIn_f l Dg cI x_ 0 9 e1) gX3_setShipping_X3_isIn rfl kdS_X3_isIn ⟨Nat.le_of_ble_eq_true rfl, Nat.le_of_ble_eq_true rfl⟩ hK hN z_P0 rfl hl.1 rfl (Nat.le_of_ble_eq_true rfl) dX3_setShipping_9 ⟨Nat.zero_le _, Nat.zero_le _⟩ ?_
  refine lv_if_eq (tgt := 22) hx hb dX3_setShipping_12 (by decide) (fun c12 => ?_) (fun c12 => absurd rfl c12)
  refine lv_aload_n hx hb dX3_setShipping_22 rfl (lv_at hl 0 rfl) ?_
  refine lv_iconst (v := 1) hx hb dX3_setShipping_23 (by decide) ?_
  refine z_wAi (v := 0) [] hx hb hml hown hts (m_X3_no l Dg cI mo 0 G D K 1) gX3_setShipping_X3_no rfl kd_X3_no ⟨Nat.le_of_ble_eq_true rfl, Nat.le_of_ble_eq_true rfl⟩ hK hN hP hD hS rfl rfl rfl rfl rfl hl.1 rfl (Nat.le_of_ble_eq_true rfl) dX3_setShipping_24 ⟨Nat.zero_le _, Nat.zero_le _⟩ (fun H locs hP hD hS => ?_)
  have hP : va_P Dg vwCl (z_mW cI mo 1 G D K) H := hP
  have hD : va_D _ (z_mW cI mo 1 G D K) := hD
  exact z_ew_i rfl hP hS hx hb hr hlk dX3_setShipping_27

set_option maxHeartbeats 4000000 in
set_option maxRecDepth 100000 in
theorem m_X3_setShipping_x2 (l : Launch) (Dg : va_G) (cI : ClassId) (mo : Nat → Nat) (th : Int32) (G : z_GG) (D : z_DD) (K : Nat → Int32) (m_ : Nat) (x_ : Int32) (hm9 : m_ < 10) (e1 : ¬ (0 ≤ x_ ∧ x_ ≤ 2)) (hG : z_WG G) (hW : z_WD G D) : z_Mw l yX3_setShipping wsX3_setShipping 2 42 [.ref (mo 0), .int (nI m_), .int x_] Dg cI (z_mW cI mo th G D K) (some (.int 0)) (z_mW cI mo 1 G D K) := by
  have htc : z_tc G ≤ 60 := hG.2.2.2.2.2.1
  have hbc : z_bc G ≤ 6 := hG.2.2.2.2.1
  refine z_sw' (own := RX3) (l0 := [(0, .ref (mo 0)), (1, .int (nI m_)), (2, .int x_)]) rfl rfl (by decide) (Nat.le_of_ble_eq_true rfl) rfl ?_
  intro p e s m below meth c hx hb hr hml hts hown hlk hP hK hN hD hS ls hl
  refine lv_aload_n hx hb dX3_setShipping_0 rfl (lv_at hl 0 rfl) ?_
  refine lv_iconst (v := 0) hx hb dX3_setShipping_1 (by decide) ?_
  refine va_put (ci := 3) (v := .int 0) (ty := .int) (C := RX3) (T := TX3) (N := 12) hx hb hts (fun _ h => (List.mem_cons_of_mem _ (List.mem_append_right _ h))) tyX3 tyX3_ok nmX3 hown hK hP hD hS 0 rfl rfl 0 (by decide) (hts _ (List.mem_cons_of_mem _ (List.mem_append_left _ (List.mem_of_getElem? (i := 0) rfl)))) (fun _ h9 => h9) rfl (by decide +kernel) rfl rfl (Nat.le_of_ble_eq_true rfl) dX3_setShipping_2 (fun H locs hP hD hS => ?_)
  have hP : va_P Dg vwCl (z_mW cI mo 0 G D K) H := hP
  have hD : va_D _ (z_mW cI mo 0 G D K) := hD
  refine lv_iload_n hx hb dX3_setShipping_5 rfl (lv_at hl 1 rfl) ?_
  refine lv_iconst (v := nI 0) hx hb dX3_setShipping_6 (by decide) ?_
  refine lv_bipush (v := nI 9) hx hb dX3_setShipping_7 (by decide) ?_
  refine z_rSi (v := 1) [] hx hb hml hown hts (m_X3_isIn_t l Dg cI (nI m_) (nI 0) (nI 9) (nI_le (Nat.zero_le _) (by omega)) (nI_le (by omega) (by decide))) gX3_setShipping_X3_isIn rfl kdS_X3_isIn ⟨Nat.le_of_ble_eq_true rfl, Nat.le_of_ble_eq_true rfl⟩ hK hN z_P0 rfl hl.1 rfl (Nat.le_of_ble_eq_true rfl) dX3_setShipping_9 ⟨Nat.zero_le _, Nat.zero_le _⟩ ?_
  refine lv_if_eq (tgt := 22) hx hb dX3_setShipping_12 (by decide) (fun c12 => absurd c12 (by decide)) (fun c12 => ?_)
  refine lv_iload_n hx hb dX3_setShipping_15 rfl (lv_at hl 2 rfl) ?_
  refine z_rSi (v := 0) [] hx hb hml hown hts (m_X3_isOrder_f l Dg cI x_ e1) gX3_setShipping_X3_isOrder rfl kdS_X3_isOrder ⟨Nat.le_of_ble_eq_true rfl, Nat.le_of_ble_eq_true rfl⟩ hK hN z_P0 rfl hl.1 rfl (Nat.le_of_ble_eq_true rfl) dX3_setShipping_16 ⟨Nat.zero_le _, Nat.zero_le _⟩ ?_
  refine lv_if_ne (tgt := 28) hx hb dX3_setShipping_19 (by decide) (fun c19 => absurd rfl c19) (fun c19 => ?_)
  refine lv_aload_n hx hb dX3_setShipping_22 rfl (lv_at hl 0 rfl) ?_
  refine lv_iconst (v := 1) hx hb dX3_setShipping_23 (by decide) ?_
  refine z_wAi (v := 0) [] hx hb hml hown hts (m_X3_no l Dg cI mo 0 G D K 1) gX3_setShipping_X3_no rfl kd_X3_no ⟨Nat.le_of_ble_eq_true rfl, Nat.le_of_ble_eq_true rfl⟩ hK hN hP hD hS rfl rfl rfl rfl rfl hl.1 rfl (Nat.le_of_ble_eq_true rfl) dX3_setShipping_24 ⟨Nat.zero_le _, Nat.zero_le _⟩ (fun H locs hP hD hS => ?_)
  have hP : va_P Dg vwCl (z_mW cI mo 1 G D K) H := hP
  have hD : va_D _ (z_mW cI mo 1 G D K) := hD
  exact z_ew_i rfl hP hS hx hb hr hlk dX3_setShipping_27

set_option maxHeartbeats 4000000 in
set_option maxRecDepth 100000 in
theorem m_X3_setShipping (l : Launch) (Dg : va_G) (cI : ClassId) (mo : Nat → Nat) (th : Int32) (G : z_GG) (D : z_DD) (K : Nat → Int32) (m_ : Nat) (o : Nat) (hm9 : m_ < 10) (ho : o < 3) (hG : z_WG G) (hW : z_WD G D) : z_Mw l yX3_setShipping wsX3_setShipping 2 42 [.ref (mo 0), .int (nI m_), .int (nI o)] Dg cI (z_mW cI mo th G D K) (some (.int (nI (z_sd G)))) (z_mW cI mo 0 (z_ship G m_ o) D K) := by
  have htc : z_tc G ≤ 60 := hG.2.2.2.2.2.1
  have hbc : z_bc G ≤ 6 := hG.2.2.2.2.1
  have hsd : z_sd G ≤ 9 := hG.2.2.2.2.2.2.1
  have hod : z_od G ≤ 2 := hG.2.2.2.2.2.2.2
  refine z_sw' (own := RX3) (l0 := [(0, .ref (mo 0)), (1, .int (nI m_)), (2, .int (nI o))]) rfl rfl (by decide) (Nat.le_of_ble_eq_true rfl) rfl ?_
  intro p e s m below meth c hx hb hr hml hts hown hlk hP hK hN hD hS ls hl
  refine lv_aload_n hx hb dX3_setShipping_0 rfl (lv_at hl 0 rfl) ?_
  refine lv_iconst (v := 0) hx hb dX3_setShipping_1 (by decide) ?_
  refine va_put (ci := 3) (v := .int 0) (ty := .int) (C := RX3) (T := TX3) (N := 12) hx hb hts (fun _ h => (List.mem_cons_of_mem _ (List.mem_append_right _ h))) tyX3 tyX3_ok nmX3 hown hK hP hD hS 0 rfl rfl 0 (by decide) (hts _ (List.mem_cons_of_mem _ (List.mem_append_left _ (List.mem_of_getElem? (i := 0) rfl)))) (fun _ h9 => h9) rfl (by decide +kernel) rfl rfl (Nat.le_of_ble_eq_true rfl) dX3_setShipping_2 (fun H locs hP hD hS => ?_)
  have hP : va_P Dg vwCl (z_mW cI mo 0 G D K) H := hP
  have hD : va_D _ (z_mW cI mo 0 G D K) := hD
  refine lv_iload_n hx hb dX3_setShipping_5 rfl (lv_at hl 1 rfl) ?_
  refine lv_iconst (v := nI 0) hx hb dX3_setShipping_6 (by decide) ?_
  refine lv_bipush (v := nI 9) hx hb dX3_setShipping_7 (by decide) ?_
  refine z_rSi (v := 1) [] hx hb hml hown hts (m_X3_isIn_t l Dg cI (nI m_) (nI 0) (nI 9) (nI_le (Nat.zero_le _) (by omega)) (nI_le (by omega) (by decide))) gX3_setShipping_X3_isIn rfl kdS_X3_isIn ⟨Nat.le_of_ble_eq_true rfl, Nat.le_of_ble_eq_true rfl⟩ hK hN z_P0 rfl hl.1 rfl (Nat.le_of_ble_eq_true rfl) dX3_setShipping_9 ⟨Nat.zero_le _, Nat.zero_le _⟩ ?_
  refine lv_if_eq (tgt := 22) hx hb dX3_setShipping_12 (by decide) (fun c12 => absurd c12 (by decide)) (fun c12 => ?_)
  refine lv_iload_n hx hb dX3_setShipping_15 rfl (lv_at hl 2 rfl) ?_
  refine z_rSi (v := 1) [] hx hb hml hown hts (m_X3_isOrder_t l Dg cI o (by omega)) gX3_setShipping_X3_isOrder rfl kdS_X3_isOrder ⟨Nat.le_of_ble_eq_true rfl, Nat.le_of_ble_eq_true rfl⟩ hK hN z_P0 rfl hl.1 rfl (Nat.le_of_ble_eq_true rfl) dX3_setShipping_16 ⟨Nat.zero_le _, Nat.zero_le _⟩ ?_
  refine lv_if_ne (tgt := 28) hx hb dX3_setShipping_19 (by decide) (fun c19 => ?_) (fun c19 => absurd c19 (by decide))
  refine lv_aload_n hx hb dX3_setShipping_28 rfl (lv_at hl 0 rfl) ?_
  refine va_get (ci := 3) (v := .int (nI (z_sd G))) (C := RX3) (T := TX3) (N := 12) hx hb hts (fun _ h => (List.mem_cons_of_mem _ (List.mem_append_right _ h))) hown hK hP 0 rfl rfl 3 (by decide) (hts _ (List.mem_cons_of_mem _ (List.mem_append_left _ (List.mem_of_getElem? (i := 1) rfl)))) (fun _ h9 => h9) rfl dX3_setShipping_29 ?_
  refine lv_istore_n (lv' := [(3, .int (nI (z_sd G))), (0, .ref (mo 0)), (1, .int (nI m_)), (2, .int (nI o))]) hx hb dX3_setShipping_32 rfl hl (by decide) rfl (fun ls hl => ?_)
  refine lv_aload_n hx hb dX3_setShipping_33 rfl (lv_at hl 1 rfl) ?_
  refine lv_iload_n hx hb dX3_setShipping_34 rfl (lv_at hl 2 rfl) ?_
  refine va_put (ci := 3) (v := .int (nI m_)) (ty := .int) (C := RX3) (T := TX3) (N := 12) hx hb hts (fun _ h => (List.mem_cons_of_mem _ (List.mem_append_right _ h))) tyX3 tyX3_ok nmX3 hown hK hP hD hS 0 rfl rfl 3 (by decide) (hts _ (List.mem_cons_of_mem _ (List.mem_append_left _ (List.mem_of_getElem? (i := 1) rfl)))) (fun _ h9 => h9) rfl (by decide +kernel) rfl rfl (Nat.le_of_ble_eq_true rfl) dX3_setShipping_35 (fun H locs hP hD hS => ?_)
  have hP : va_P Dg vwCl (z_mX cI mo 0 (nI (z_bc G)) (nI (z_tc G)) (nI m_) (nI (z_od G)) (z_v0 G) (z_lk G) (z_wm G) (fun j9 => nI (z_bt G j9)) (fun j9 => nI (z_sh G j9)) (z_nw D) K) H := hP
  have hD : va_D _ (z_mX cI mo 0 (nI (z_bc G)) (nI (z_tc G)) (nI m_) (nI (z_od G)) (z_v0 G) (z_lk G) (z_wm G) (fun j9 => nI (z_bt G j9)) (fun j9 => nI (z_sh G j9)) (z_nw D) K) := hD
  refine lv_aload_n hx hb dX3_setShipping_38 rfl (lv_at hl 1 rfl) ?_
  refine lv_iload_n hx hb dX3_setShipping_39 rfl (lv_at hl 3 rfl) ?_
  refine va_put (ci := 3) (v := .int (nI o)) (ty := .int) (C := RX3) (T := TX3) (N := 12) hx hb hts (fun _ h => (List.mem_cons_of_mem _ (List.mem_append_right _ h))) tyX3 tyX3_ok nmX3 hown hK hP hD hS 0 rfl rfl 4 (by decide) (hts _ (List.mem_cons_of_mem _ (List.mem_append_left _ (List.mem_of_getElem? (i := 2) rfl)))) (fun _ h9 => h9) rfl (by decide +kernel) rfl rfl (Nat.le_of_ble_eq_true rfl) dX3_setShipping_40 (fun H locs hP hD hS => ?_)
  have hP : va_P Dg vwCl (z_mX cI mo 0 (nI (z_bc G)) (nI (z_tc G)) (nI m_) (nI o) (z_v0 G) (z_lk G) (z_wm G) (fun j9 => nI (z_bt G j9)) (fun j9 => nI (z_sh G j9)) (z_nw D) K) H := hP
  have hD : va_D _ (z_mX cI mo 0 (nI (z_bc G)) (nI (z_tc G)) (nI m_) (nI o) (z_v0 G) (z_lk G) (z_wm G) (fun j9 => nI (z_bt G j9)) (fun j9 => nI (z_sh G j9)) (z_nw D) K) := hD
  have hP : va_P Dg vwCl (z_mW cI mo 0 (z_ship G m_ o) D K) H := hP
  have hD : va_D _ (z_mW cI mo 0 (z_ship G m_ o) D K) := hD
  refine lv_iload_n hx hb dX3_setShipping_43 rfl (lv_at hl 0 rfl) ?_
  exact z_ew_i rfl hP hS hx hb hr hlk dX3_setShipping_44

set_option maxHeartbeats 4000000 in
set_option maxRecDepth 100000 in
theorem m_X3_addBatch_x1 (l : Launch) (Dg : va_G) (cI : ClassId) (mo : Nat → Nat) (th : Int32) (G : z_GG) (D : z_DD) (K : Nat → Int32) (v_ : Int32) (k_ : Int32) (e1 : ¬ (1 ≤ v_ ∧ v_ ≤ 99)) (hG : z_WG G) (hW : z_WD G D) : z_Mw l yX3_addBatch wsX3_addBatch 1 22 [.ref (mo 0), .int v_, .int k_] Dg cI (z_mW cI mo th G D K) (some (.int 0)) (z_mW cI mo 1 G D K) := by
  have htc : z_tc G ≤ 60 := hG.2.2.2.2.2.1
  have hbc : z_bc G ≤ 6 := hG.2.2.2.2.1
  refine z_sw' (own := RX3) (l0 := [(0, .ref (mo 0)), (1, .int v_), (2, .int k_)]) rfl rfl (by decide) (Nat.le_of_ble_eq_true rfl) rfl ?_
  intro p e s m below meth c hx hb hr hml hts hown hlk hP hK hN hD hS ls hl
  refine lv_aload_n hx hb dX3_addBatch_0 rfl (lv_at hl 0 rfl) ?_
  refine lv_iconst (v := 0) hx hb dX3_addBatch_1 (by decide) ?_
  refine va_put (ci := 3) (v := .int 0) (ty := .int) (C := RX3) (T := TX3) (N := 12) hx hb hts (fun _ h => (List.mem_cons_of_mem _ (List.mem_append_right _ h))) tyX3 tyX3_ok nmX3 hown hK hP hD hS 0 rfl rfl 0 (by decide) (hts _ (List.mem_cons_of_mem _ (List.mem_append_left _ (List.mem_of_getElem? (i := 0) rfl)))) (fun _ h9 => h9) rfl (by decide +kernel) rfl rfl (Nat.le_of_ble_eq_true rfl) dX3_addBatch_2 (fun H locs hP hD hS => ?_)
  have hP : va_P Dg vwCl (z_mW cI mo 0 G D K) H := hP
  have hD : va_D _ (z_mW cI mo 0 G D K) := hD
  refine lv_iload_n hx hb dX3_addBatch_5 rfl (lv_at hl 1 rfl) ?_
  refine lv_iconst (v := 1) hx hb dX3_addBatch_6 (by decide) ?_
  refine lv_bipush (v := 99) hx hb dX3_addBatch_7 (by decide) ?_
  refine z_rSi (v := 0) [] hx hb hml hown hts (m_X3_isIn_f l Dg cI v_ 1 99 e1) gX3_addBatch_X3_isIn rfl kdS_X3_isIn ⟨Nat.le_of_ble_eq_true rfl, Nat.le_of_ble_eq_true rfl⟩ hK hN z_P0 rfl hl.1 rfl (Nat.le_of_ble_eq_true rfl) dX3_addBatch_9 ⟨Nat.zero_le _, Nat.zero_le _⟩ ?_
  refine lv_if_eq (tgt := 24) hx hb dX3_addBatch_12 (by decide) (fun c12 => ?_) (fun c12 => absurd rfl c12)
  refine lv_aload_n hx hb dX3_addBatch_24 rfl (lv_at hl 0 rfl) ?_
  refine lv_iconst (v := 1) hx hb dX3_addBatch_25 (by decide) ?_
  refine z_wAi (v := 0) [] hx hb hml hown hts (m_X3_no l Dg cI mo 0 G D K 1) gX3_addBatch_X3_no rfl kd_X3_no ⟨Nat.le_of_ble_eq_true rfl, Nat.le_of_ble_eq_true rfl⟩ hK hN hP hD hS rfl rfl rfl rfl rfl hl.1 rfl (Nat.le_of_ble_eq_true rfl) dX3_addBatch_26 ⟨Nat.zero_le _, Nat.zero_le _⟩ (fun H locs hP hD hS => ?_)
  have hP : va_P Dg vwCl (z_mW cI mo 1 G D K) H := hP
  have hD : va_D _ (z_mW cI mo 1 G D K) := hD
  exact z_ew_i rfl hP hS hx hb hr hlk dX3_addBatch_29

set_option maxHeartbeats 4000000 in
set_option maxRecDepth 100000 in
theorem m_X3_addBatch_x2 (l : Launch) (Dg : va_G) (cI : ClassId) (mo : Nat → Nat) (th : Int32) (G : z_GG) (D : z_DD) (K : Nat → Int32) (v_ : Int32) (k_ : Int32) (hv1 : 1 ≤ v_) (hv2 : v_ ≤ 99) (e1 : ¬ (0 ≤ k_ ∧ k_ ≤ 5)) (hG : z_WG G) (hW : z_WD G D) : z_Mw l yX3_addBatch wsX3_addBatch 1 22 [.ref (mo 0), .int v_, .int k_] Dg cI (z_mW cI mo th G D K) (some (.int 0)) (z_mW cI mo 1 G D K) := by
  have htc : z_tc G ≤ 60 := hG.2.2.2.2.2.1
  have hbc : z_bc G ≤ 6 := hG.2.2.2.2.1
  refine z_sw' (own := RX3) (l0 := [(0, .ref (mo 0)), (1, .int v_), (2, .int k_)]) rfl rfl (by decide) (Nat.le_of_ble_eq_true rfl) rfl ?_
  intro p e s m below meth c hx hb hr hml hts hown hlk hP hK hN hD hS ls hl
  refine lv_aload_n hx hb dX3_addBatch_0 rfl (lv_at hl 0 rfl) ?_
  refine lv_iconst (v := 0) hx hb dX3_addBatch_1 (by decide) ?_
  refine va_put (ci := 3) (v := .int 0) (ty := .int) (C := RX3) (T := TX3) (N := 12) hx hb hts (fun _ h => (List.mem_cons_of_mem _ (List.mem_append_right _ h))) tyX3 tyX3_ok nmX3 hown hK hP hD hS 0 rfl rfl 0 (by decide) (hts _ (List.mem_cons_of_mem _ (List.mem_append_left _ (List.mem_of_getElem? (i := 0) rfl)))) (fun _ h9 => h9) rfl (by decide +kernel) rfl rfl (Nat.le_of_ble_eq_true rfl) dX3_addBatch_2 (fun H locs hP hD hS => ?_)
  have hP : va_P Dg vwCl (z_mW cI mo 0 G D K) H := hP
  have hD : va_D _ (z_mW cI mo 0 G D K) := hD
  refine lv_iload_n hx hb dX3_addBatch_5 rfl (lv_at hl 1 rfl) ?_
  refine lv_iconst (v := 1) hx hb dX3_addBatch_6 (by decide) ?_
  refine lv_bipush (v := 99) hx hb dX3_addBatch_7 (by decide) ?_
  refine z_rSi (v := 1) [] hx hb hml hown hts (m_X3_isIn_t l Dg cI v_ 1 99 hv1 hv2) gX3_addBatch_X3_isIn rfl kdS_X3_isIn ⟨Nat.le_of_ble_eq_true rfl, Nat.le_of_ble_eq_true rfl⟩ hK hN z_P0 rfl hl.1 rfl (Nat.le_of_ble_eq_true rfl) dX3_addBatch_9 ⟨Nat.zero_le _, Nat.zero_le _⟩ ?_
  refine lv_if_eq (tgt := 24) hx hb dX3_addBatch_12 (by decide) (fun c12 => absurd c12 (by decide)) (fun c12 => ?_)
  refine lv_iload_n hx hb dX3_addBatch_15 rfl (lv_at hl 2 rfl) ?_
  refine lv_iconst (v := 0) hx hb dX3_addBatch_16 (by decide) ?_
  refine lv_iconst (v := 5) hx hb dX3_addBatch_17 (by decide) ?_
  refine z_rSi (v := 0) [] hx hb hml hown hts (m_X3_isIn_f l Dg cI k_ 0 5 e1) gX3_addBatch_X3_isIn rfl kdS_X3_isIn ⟨Nat.le_of_ble_eq_true rfl, Nat.le_of_ble_eq_true rfl⟩ hK hN z_P0 rfl hl.1 rfl (Nat.le_of_ble_eq_true rfl) dX3_addBatch_18 ⟨Nat.zero_le _, Nat.zero_le _⟩ ?_
  refine lv_if_ne (tgt := 30) hx hb dX3_addBatch_21 (by decide) (fun c21 => absurd rfl c21) (fun c21 => ?_)
  refine lv_aload_n hx hb dX3_addBatch_24 rfl (lv_at hl 0 rfl) ?_
  refine lv_iconst (v := 1) hx hb dX3_addBatch_25 (by decide) ?_
  refine z_wAi (v := 0) [] hx hb hml hown hts (m_X3_no l Dg cI mo 0 G D K 1) gX3_addBatch_X3_no rfl kd_X3_no ⟨Nat.le_of_ble_eq_true rfl, Nat.le_of_ble_eq_true rfl⟩ hK hN hP hD hS rfl rfl rfl rfl rfl hl.1 rfl (Nat.le_of_ble_eq_true rfl) dX3_addBatch_26 ⟨Nat.zero_le _, Nat.zero_le _⟩ (fun H locs hP hD hS => ?_)
  have hP : va_P Dg vwCl (z_mW cI mo 1 G D K) H := hP
  have hD : va_D _ (z_mW cI mo 1 G D K) := hD
  exact z_ew_i rfl hP hS hx hb hr hlk dX3_addBatch_29

set_option maxHeartbeats 4000000 in
set_option maxRecDepth 100000 in
theorem m_X3_addBatch_x3 (l : Launch) (Dg : va_G) (cI : ClassId) (mo : Nat → Nat) (th : Int32) (G : z_GG) (D : z_DD) (K : Nat → Int32) (v_ : Int32) (k_ : Int32) (hv1 : 1 ≤ v_) (hv2 : v_ ≤ 99) (hk1 : 0 ≤ k_) (hk2 : k_ ≤ 5) (hb6 : z_bc G = 6) (hG : z_WG G) (hW : z_WD G D) : z_Mw l yX3_addBatch wsX3_addBatch 1 22 [.ref (mo 0), .int v_, .int k_] Dg cI (z_mW cI mo th G D K) (some (.int 0)) (z_mW cI mo 2 G D K) := by
  have htc : z_tc G ≤ 60 := hG.2.2.2.2.2.1
  have hbc : z_bc G ≤ 6 := hG.2.2.2.2.1
  refine z_sw' (own := RX3) (l0 := [(0, .ref (mo 0)), (1, .int v_), (2, .int k_)]) rfl rfl (by decide) (Nat.le_of_ble_eq_true rfl) rfl ?_
  intro p e s m below meth c hx hb hr hml hts hown hlk hP hK hN hD hS ls hl
  refine lv_aload_n hx hb dX3_addBatch_0 rfl (lv_at hl 0 rfl) ?_
  refine lv_iconst (v := 0) hx hb dX3_addBatch_1 (by decide) ?_
  refine va_put (ci := 3) (v := .int 0) (ty := .int) (C := RX3) (T := TX3) (N := 12) hx hb hts (fun _ h => (List.mem_cons_of_mem _ (List.mem_append_right _ h))) tyX3 tyX3_ok nmX3 hown hK hP hD hS 0 rfl rfl 0 (by decide) (hts _ (List.mem_cons_of_mem _ (List.mem_append_left _ (List.mem_of_getElem? (i := 0) rfl)))) (fun _ h9 => h9) rfl (by decide +kernel) rfl rfl (Nat.le_of_ble_eq_true rfl) dX3_addBatch_2 (fun H locs hP hD hS => ?_)
  have hP : va_P Dg vwCl (z_mW cI mo 0 G D K) H := hP
  have hD : va_D _ (z_mW cI mo 0 G D K) := hD
  refine lv_iload_n hx hb dX3_addBatch_5 rfl (lv_at hl 1 rfl) ?_
  refine lv_iconst (v := 1) hx hb dX3_addBatch_6 (by decide) ?_
  refine lv_bipush (v := 99) hx hb dX3_addBatch_7 (by decide) ?_
  refine z_rSi (v := 1) [] hx hb hml hown hts (m_X3_isIn_t l Dg cI v_ 1 99 hv1 hv2) gX3_addBatch_X3_isIn rfl kdS_X3_isIn ⟨Nat.le_of_ble_eq_true rfl, Nat.le_of_ble_eq_true rfl⟩ hK hN z_P0 rfl hl.1 rfl (Nat.le_of_ble_eq_true rfl) dX3_addBatch_9 ⟨Nat.zero_le _, Nat.zero_le _⟩ ?_
  refine lv_if_eq (tgt := 24) hx hb dX3_addBatch_12 (by decide) (fun c12 => absurd c12 (by decide)) (fun c12 => ?_)
  refine lv_iload_n hx hb dX3_addBatch_15 rfl (lv_at hl 2 rfl) ?_
  refine lv_iconst (v := 0) hx hb dX3_addBatch_16 (by decide) ?_
  refine lv_iconst (v := 5) hx hb dX3_addBatch_17 (by decide) ?_
  refine z_rSi (v := 1) [] hx hb hml hown hts (m_X3_isIn_t l Dg cI k_ 0 5 hk1 hk2) gX3_addBatch_X3_isIn rfl kdS_X3_isIn ⟨Nat.le_of_ble_eq_true rfl, Nat.le_of_ble_eq_true rfl⟩ hK hN z_P0 rfl hl.1 rfl (Nat.le_of_ble_eq_true rfl) dX3_addBatch_18 ⟨Nat.zero_le _, Nat.zero_le _⟩ ?_
  refine lv_if_ne (tgt := 30) hx hb dX3_addBatch_21 (by decide) (fun c21 => ?_) (fun c21 => absurd c21 (by decide))
  refine lv_aload_n hx hb dX3_addBatch_30 rfl (lv_at hl 0 rfl) ?_
  refine va_get (ci := 3) (v := .int (nI (z_bc G))) (C := RX3) (T := TX3) (N := 12) hx hb hts (fun _ h => (List.mem_cons_of_mem _ (List.mem_append_right _ h))) hown hK hP 0 rfl rfl 1 (by decide) (hts _ (List.mem_cons_of_mem _ (List.mem_append_left _ (List.mem_of_getElem? (i := 1) rfl)))) (fun _ h9 => h9) rfl dX3_addBatch_31 ?_
  refine lv_bipush (v := nI 6) hx hb dX3_addBatch_34 (by decide) ?_
  refine lv_icmp_ne (tgt := 45) hx hb dX3_addBatch_36 (by decide) (fun c36 => absurd (by rw [hb6]) c36) (fun c36 => ?_)
  refine lv_aload_n hx hb dX3_addBatch_39 rfl (lv_at hl 0 rfl) ?_
  refine lv_iconst (v := 2) hx hb dX3_addBatch_40 (by decide) ?_
  refine z_wAi (v := 0) [] hx hb hml hown hts (m_X3_no l Dg cI mo 0 G D K 2) gX3_addBatch_X3_no rfl kd_X3_no ⟨Nat.le_of_ble_eq_true rfl, Nat.le_of_ble_eq_true rfl⟩ hK hN hP hD hS rfl rfl rfl rfl rfl hl.1 rfl (Nat.le_of_ble_eq_true rfl) dX3_addBatch_41 ⟨Nat.zero_le _, Nat.zero_le _⟩ (fun H locs hP hD hS => ?_)
  have hP : va_P Dg vwCl (z_mW cI mo 2 G D K) H := hP
  have hD : va_D _ (z_mW cI mo 2 G D K) := hD
  exact z_ew_i rfl hP hS hx hb hr hlk dX3_addBatch_44

set_option maxHeartbeats 4000000 in
set_option maxRecDepth 100000 in
theorem m_X3_addBatch (l : Launch) (Dg : va_G) (cI : ClassId) (mo : Nat → Nat) (th : Int32) (G : z_GG) (D : z_DD) (K : Nat → Int32) (v_ : Int32) (k_ : Int32) (hv1 : 1 ≤ v_) (hv2 : v_ ≤ 99) (hk1 : 0 ≤ k_) (hk2 : k_ ≤ 5) (hb6 : z_bc G < 6) (hG : z_WG G) (hW : z_WD G D) : z_Mw l yX3_addBatch wsX3_addBatch 1 22 [.ref (mo 0), .int v_, .int k_] Dg cI (z_mW cI mo th G D K) (some (.int (nI (z_bc G)))) (z_mW cI mo 0 (z_addb G v_ k_) D K) := by
  have htc : z_tc G ≤ 60 := hG.2.2.2.2.2.1
  have hbc : z_bc G ≤ 6 := hG.2.2.2.2.1
  have hsd : z_sd G ≤ 9 := hG.2.2.2.2.2.2.1
  have hod : z_od G ≤ 2 := hG.2.2.2.2.2.2.2
  refine z_sw' (own := RX3) (l0 := [(0, .ref (mo 0)), (1, .int v_), (2, .int k_)]) rfl rfl (by decide) (Nat.le_of_ble_eq_true rfl) rfl ?_
  intro p e s m below meth c hx hb hr hml hts hown hlk hP hK hN hD hS ls hl
  refine lv_aload_n hx hb dX3_addBatch_0 rfl (lv_at hl 0 rfl) ?_
  refine lv_iconst (v := 0) hx hb dX3_addBatch_1 (by decide) ?_
  refine va_put (ci := 3) (v := .int 0) (ty := .int) (C := RX3) (T := TX3) (N := 12) hx hb hts (fun _ h => (List.mem_cons_of_mem _ (List.mem_append_right _ h))) tyX3 tyX3_ok nmX3 hown hK hP hD hS 0 rfl rfl 0 (by decide) (hts _ (List.mem_cons_of_mem _ (List.mem_append_left _ (List.mem_of_getElem? (i := 0) rfl)))) (fun _ h9 => h9) rfl (by decide +kernel) rfl rfl (Nat.le_of_ble_eq_true rfl) dX3_addBatch_2 (fun H locs hP hD hS => ?_)
  have hP : va_P Dg vwCl (z_mW cI mo 0 G D K) H := hP
  have hD : va_D _ (z_mW cI mo 0 G D K) := hD
  refine lv_iload_n hx hb dX3_addBatch_5 rfl (lv_at hl 1 rfl) ?_
  refine lv_iconst (v := 1) hx hb dX3_addBatch_6 (by decide) ?_
  refine lv_bipush (v := 99) hx hb dX3_addBatch_7 (by decide) ?_
  refine z_rSi (v := 1) [] hx hb hml hown hts (m_X3_isIn_t l Dg cI v_ 1 99 hv1 hv2) gX3_addBatch_X3_isIn rfl kdS_X3_isIn ⟨Nat.le_of_ble_eq_true rfl, Nat.le_of_ble_eq_true rfl⟩ hK hN z_P0 rfl hl.1 rfl (Nat.le_of_ble_eq_true rfl) dX3_addBatch_9 ⟨Nat.zero_le _, Nat.zero_le _⟩ ?_
  refine lv_if_eq (tgt := 24) hx hb dX3_addBatch_12 (by decide) (fun c12 => absurd c12 (by decide)) (fun c12 => ?_)
  refine lv_iload_n hx hb dX3_addBatch_15 rfl (lv_at hl 2 rfl) ?_
  refine lv_iconst (v := 0) hx hb dX3_addBatch_16 (by decide) ?_
  refine lv_iconst (v := 5) hx hb dX3_addBatch_17 (by decide) ?_
  refine z_rSi (v := 1) [] hx hb hml hown hts (m_X3_isIn_t l Dg cI k_ 0 5 hk1 hk2) gX3_addBatch_X3_isIn rfl kdS_X3_isIn ⟨Nat.le_of_ble_eq_true rfl, Nat.le_of_ble_eq_true rfl⟩ hK hN z_P0 rfl hl.1 rfl (Nat.le_of_ble_eq_true rfl) dX3_addBatch_18 ⟨Nat.zero_le _, Nat.zero_le _⟩ ?_
  refine lv_if_ne (tgt := 30) hx hb dX3_addBatch_21 (by decide) (fun c21 => ?_) (fun c21 => absurd c21 (by decide))
  refine lv_aload_n hx hb dX3_addBatch_30 rfl (lv_at hl 0 rfl) ?_
  refine va_get (ci := 3) (v := .int (nI (z_bc G))) (C := RX3) (T := TX3) (N := 12) hx hb hts (fun _ h => (List.mem_cons_of_mem _ (List.mem_append_right _ h))) hown hK hP 0 rfl rfl 1 (by decide) (hts _ (List.mem_cons_of_mem _ (List.mem_append_left _ (List.mem_of_getElem? (i := 1) rfl)))) (fun _ h9 => h9) rfl dX3_addBatch_31 ?_
  refine lv_bipush (v := nI 6) hx hb dX3_addBatch_34 (by decide) ?_
  refine lv_icmp_ne (tgt := 45) hx hb dX3_addBatch_36 (by decide) (fun c36 => ?_) (fun c36 => absurd c36 (fun q => absurd (z_eq (by omega) (by decide) q) (by omega)))
  refine lv_aload_n hx hb dX3_addBatch_45 rfl (lv_at hl 0 rfl) ?_
  refine va_get (ci := 3) (v := .ref (mo 1)) (C := RX3) (T := TX3) (N := 12) hx hb hts (fun _ h => (List.mem_cons_of_mem _ (List.mem_append_right _ h))) hown hK hP 0 rfl rfl 5 (by decide) (hts _ (List.mem_cons_of_mem _ (List.mem_append_left _ (List.mem_of_getElem? (i := 2) rfl)))) (fun _ h9 => h9) rfl dX3_addBatch_46 ?_
  refine lv_aload_n hx hb dX3_addBatch_49 rfl (lv_at hl 0 rfl) ?_
  refine va_get (ci := 3) (v := .int (nI (z_bc G))) (C := RX3) (T := TX3) (N := 12) hx hb hts (fun _ h => (List.mem_cons_of_mem _ (List.mem_append_right _ h))) hown hK hP 0 rfl rfl 1 (by decide) (hts _ (List.mem_cons_of_mem _ (List.mem_append_left _ (List.mem_of_getElem? (i := 1) rfl)))) (fun _ h9 => h9) rfl dX3_addBatch_50 ?_
  refine lv_iload_n hx hb dX3_addBatch_53 rfl (lv_at hl 1 rfl) ?_
  refine z_iast hx hb hK hP hD hS 1 0 rfl rfl (by omega) (by decide) dX3_addBatch_54 (fun H locs hP hD hS => ?_)
  have hP : va_P Dg vwCl (z_mX cI mo 0 (nI (z_bc G)) (nI (z_tc G)) (nI (z_sd G)) (nI (z_od G)) (upd (z_v0 G) (z_bc G) v_) (z_lk G) (z_wm G) (fun j9 => nI (z_bt G j9)) (fun j9 => nI (z_sh G j9)) (z_nw D) K) H := hP
  have hD : va_D _ (z_mX cI mo 0 (nI (z_bc G)) (nI (z_tc G)) (nI (z_sd G)) (nI (z_od G)) (upd (z_v0 G) (z_bc G) v_) (z_lk G) (z_wm G) (fun j9 => nI (z_bt G j9)) (fun j9 => nI (z_sh G j9)) (z_nw D) K) := hD
  refine lv_aload_n hx hb dX3_addBatch_55 rfl (lv_at hl 0 rfl) ?_
  refine va_get (ci := 3) (v := .ref (mo 2)) (C := RX3) (T := TX3) (N := 12) hx hb hts (fun _ h => (List.mem_cons_of_mem _ (List.mem_append_right _ h))) hown hK hP 0 rfl rfl 6 (by decide) (hts _ (List.mem_cons_of_mem _ (List.mem_append_left _ (List.mem_of_getElem? (i := 3) rfl)))) (fun _ h9 => h9) rfl dX3_addBatch_56 ?_
  refine lv_aload_n hx hb dX3_addBatch_59 rfl (lv_at hl 0 rfl) ?_
  refine va_get (ci := 3) (v := .int (nI (z_bc G))) (C := RX3) (T := TX3) (N := 12) hx hb hts (fun _ h => (List.mem_cons_of_mem _ (List.mem_append_right _ h))) hown hK hP 0 rfl rfl 1 (by decide) (hts _ (List.mem_cons_of_mem _ (List.mem_append_left _ (List.mem_of_getElem? (i := 1) rfl)))) (fun _ h9 => h9) rfl dX3_addBatch_60 ?_
  refine lv_iload_n hx hb dX3_addBatch_63 rfl (lv_at hl 2 rfl) ?_
  refine z_iast hx hb hK hP hD hS 2 0 rfl rfl (by omega) (by decide) dX3_addBatch_64 (fun H locs hP hD hS => ?_)
  have hP : va_P Dg vwCl (z_mX cI mo 0 (nI (z_bc G)) (nI (z_tc G)) (nI (z_sd G)) (nI (z_od G)) (upd (z_v0 G) (z_bc G) v_) (upd (z_lk G) (z_bc G) k_) (z_wm G) (fun j9 => nI (z_bt G j9)) (fun j9 => nI (z_sh G j9)) (z_nw D) K) H := hP
  have hD : va_D _ (z_mX cI mo 0 (nI (z_bc G)) (nI (z_tc G)) (nI (z_sd G)) (nI (z_od G)) (upd (z_v0 G) (z_bc G) v_) (upd (z_lk G) (z_bc G) k_) (z_wm G) (fun j9 => nI (z_bt G j9)) (fun j9 => nI (z_sh G j9)) (z_nw D) K) := hD
  refine lv_aload_n hx hb dX3_addBatch_65 rfl (lv_at hl 0 rfl) ?_
  refine lv_dup hx hb dX3_addBatch_66 rfl ?_
  refine va_get (ci := 3) (v := .int (nI (z_bc G))) (C := RX3) (T := TX3) (N := 12) hx hb hts (fun _ h => (List.mem_cons_of_mem _ (List.mem_append_right _ h))) hown hK hP 0 rfl rfl 1 (by decide) (hts _ (List.mem_cons_of_mem _ (List.mem_append_left _ (List.mem_of_getElem? (i := 1) rfl)))) (fun _ h9 => h9) rfl dX3_addBatch_67 ?_
  refine lv_iconst (v := 1) hx hb dX3_addBatch_70 (by decide) ?_
  refine lv_iadd hx hb dX3_addBatch_71 ?_
  refine z_top (x' := nI (z_bc G + 1)) (nI_1 _) ?_
  refine va_put (ci := 3) (v := .int (nI (z_bc G + 1))) (ty := .int) (C := RX3) (T := TX3) (N := 12) hx hb hts (fun _ h => (List.mem_cons_of_mem _ (List.mem_append_right _ h))) tyX3 tyX3_ok nmX3 hown hK hP hD hS 0 rfl rfl 1 (by decide) (hts _ (List.mem_cons_of_mem _ (List.mem_append_left _ (List.mem_of_getElem? (i := 1) rfl)))) (fun _ h9 => h9) rfl (by decide +kernel) rfl rfl (Nat.le_of_ble_eq_true rfl) dX3_addBatch_72 (fun H locs hP hD hS => ?_)
  have hP : va_P Dg vwCl (z_mX cI mo 0 (nI (z_bc G + 1)) (nI (z_tc G)) (nI (z_sd G)) (nI (z_od G)) (upd (z_v0 G) (z_bc G) v_) (upd (z_lk G) (z_bc G) k_) (z_wm G) (fun j9 => nI (z_bt G j9)) (fun j9 => nI (z_sh G j9)) (z_nw D) K) H := hP
  have hD : va_D _ (z_mX cI mo 0 (nI (z_bc G + 1)) (nI (z_tc G)) (nI (z_sd G)) (nI (z_od G)) (upd (z_v0 G) (z_bc G) v_) (upd (z_lk G) (z_bc G) k_) (z_wm G) (fun j9 => nI (z_bt G j9)) (fun j9 => nI (z_sh G j9)) (z_nw D) K) := hD
  have hP : va_P Dg vwCl (z_mW cI mo 0 (z_addb G v_ k_) D K) H := hP
  have hD : va_D _ (z_mW cI mo 0 (z_addb G v_ k_) D K) := hD
  refine lv_aload_n hx hb dX3_addBatch_75 rfl (lv_at hl 0 rfl) ?_
  refine va_get (ci := 3) (v := .int (nI (z_bc (z_addb G v_ k_)))) (C := RX3) (T := TX3) (N := 12) hx hb hts (fun _ h => (List.mem_cons_of_mem _ (List.mem_append_right _ h))) hown hK hP 0 rfl rfl 1 (by decide) (hts _ (List.mem_cons_of_mem _ (List.mem_append_left _ (List.mem_of_getElem? (i := 1) rfl)))) (fun _ h9 => h9) rfl dX3_addBatch_76 ?_
  refine lv_iconst (v := 1) hx hb dX3_addBatch_79 (by decide) ?_
  refine lv_isub hx hb dX3_addBatch_80 ?_
  refine z_top (x' := nI (z_bc G)) (nI_pred _) ?_
  exact z_ew_i rfl hP hS hx hb hr hlk dX3_addBatch_81

set_option maxHeartbeats 4000000 in
set_option maxRecDepth 100000 in
theorem m_X3_seal_x1 (l : Launch) (Dg : va_G) (cI : ClassId) (mo : Nat → Nat) (th : Int32) (G : z_GG) (D : z_DD) (K : Nat → Int32) (x_ : Int32) (y_ : Int32) (w_ : Int32) (e1 : ¬ (0 ≤ x_ ∧ x_ ≤ nI (z_bc G) - 1)) (hG : z_WG G) (hW : z_WD G D) : z_Mw l yX3_seal wsX3_seal 2 43 [.ref (mo 0), .int x_, .int y_, .int w_] Dg cI (z_mW cI mo th G D K) (some (.int 0)) (z_mW cI mo 1 G D K) := by
  have htc : z_tc G ≤ 60 := hG.2.2.2.2.2.1
  have hbc : z_bc G ≤ 6 := hG.2.2.2.2.1
  refine z_sw' (own := RX3) (l0 := [(0, .ref (mo 0)), (1, .int x_), (2, .int y_), (3, .int w_)]) rfl rfl (by decide) (Nat.le_of_ble_eq_true rfl) rfl ?_
  intro p e s m below meth c hx hb hr hml hts hown hlk hP hK hN hD hS ls hl
  refine lv_aload_n hx hb dX3_seal_0 rfl (lv_at hl 0 rfl) ?_
  refine lv_iconst (v := 0) hx hb dX3_seal_1 (by decide) ?_
  refine va_put (ci := 3) (v := .int 0) (ty := .int) (C := RX3) (T := TX3) (N := 12) hx hb hts (fun _ h => (List.mem_cons_of_mem _ (List.mem_append_right _ h))) tyX3 tyX3_ok nmX3 hown hK hP hD hS 0 rfl rfl 0 (by decide) (hts _ (List.mem_cons_of_mem _ (List.mem_append_left _ (List.mem_of_getElem? (i := 0) rfl)))) (fun _ h9 => h9) rfl (by decide +kernel) rfl rfl (Nat.le_of_ble_eq_true rfl) dX3_seal_2 (fun H locs hP hD hS => ?_)
  have hP : va_P Dg vwCl (z_mW cI mo 0 G D K) H := hP
  have hD : va_D _ (z_mW cI mo 0 G D K) := hD
  refine lv_aload_n hx hb dX3_seal_5 rfl (lv_at hl 0 rfl) ?_
  refine lv_iload_n hx hb dX3_seal_6 rfl (lv_at hl 1 rfl) ?_
  refine z_rVi (v := 0) [] hx hb hml hown hts (m_X3_isBatch_f l Dg cI mo 0 G D K x_ e1) gX3_seal_X3_isBatch rfl kd_X3_isBatch ⟨Nat.le_of_ble_eq_true rfl, Nat.le_of_ble_eq_true rfl⟩ hK hN hP rfl rfl rfl rfl hl.1 rfl (Nat.le_of_ble_eq_true rfl) dX3_seal_7 ⟨Nat.zero_le _, Nat.zero_le _⟩ ?_
  refine lv_if_eq (tgt := 20) hx hb dX3_seal_10 (by decide) (fun c10 => ?_) (fun c10 => absurd rfl c10)
  refine lv_aload_n hx hb dX3_seal_20 rfl (lv_at hl 0 rfl) ?_
  refine lv_iconst (v := 1) hx hb dX3_seal_21 (by decide) ?_
  refine z_wAi (v := 0) [] hx hb hml hown hts (m_X3_no l Dg cI mo 0 G D K 1) gX3_seal_X3_no rfl kd_X3_no ⟨Nat.le_of_ble_eq_true rfl, Nat.le_of_ble_eq_true rfl⟩ hK hN hP hD hS rfl rfl rfl rfl rfl hl.1 rfl (Nat.le_of_ble_eq_true rfl) dX3_seal_22 ⟨Nat.zero_le _, Nat.zero_le _⟩ (fun H locs hP hD hS => ?_)
  have hP : va_P Dg vwCl (z_mW cI mo 1 G D K) H := hP
  have hD : va_D _ (z_mW cI mo 1 G D K) := hD
  exact z_ew_i rfl hP hS hx hb hr hlk dX3_seal_25

set_option maxHeartbeats 4000000 in
set_option maxRecDepth 100000 in
theorem m_X3_seal_x2 (l : Launch) (Dg : va_G) (cI : ClassId) (mo : Nat → Nat) (th : Int32) (G : z_GG) (D : z_DD) (K : Nat → Int32) (b_ : Nat) (x_ : Int32) (w_ : Int32) (hbb : b_ < z_bc G) (e1 : ¬ (0 ≤ x_ ∧ x_ ≤ 3)) (hG : z_WG G) (hW : z_WD G D) : z_Mw l yX3_seal wsX3_seal 2 43 [.ref (mo 0), .int (nI b_), .int x_, .int w_] Dg cI (z_mW cI mo th G D K) (some (.int 0)) (z_mW cI mo 1 G D K) := by
  have htc : z_tc G ≤ 60 := hG.2.2.2.2.2.1
  have hbc : z_bc G ≤ 6 := hG.2.2.2.2.1
  refine z_sw' (own := RX3) (l0 := [(0, .ref (mo 0)), (1, .int (nI b_)), (2, .int x_), (3, .int w_)]) rfl rfl (by decide) (Nat.le_of_ble_eq_true rfl) rfl ?_
  intro p e s m below meth c hx hb hr hml hts hown hlk hP hK hN hD hS ls hl
  refine lv_aload_n hx hb dX3_seal_0 rfl (lv_at hl 0 rfl) ?_
  refine lv_iconst (v := 0) hx hb dX3_seal_1 (by decide) ?_
  refine va_put (ci := 3) (v := .int 0) (ty := .int) (C := RX3) (T := TX3) (N := 12) hx hb hts (fun _ h => (List.mem_cons_of_mem _ (List.mem_append_right _ h))) tyX3 tyX3_ok nmX3 hown hK hP hD hS 0 rfl rfl 0 (by decide) (hts _ (List.mem_cons_of_mem _ (List.mem_append_left _ (List.mem_of_getElem? (i := 0) rfl)))) (fun _ h9 => h9) rfl (by decide +kernel) rfl rfl (Nat.le_of_ble_eq_true rfl) dX3_seal_2 (fun H locs hP hD hS => ?_)
  have hP : va_P Dg vwCl (z_mW cI mo 0 G D K) H := hP
  have hD : va_D _ (z_mW cI mo 0 G D K) := hD
  refine lv_aload_n hx hb dX3_seal_5 rfl (lv_at hl 0 rfl) ?_
  refine lv_iload_n hx hb dX3_seal_6 rfl (lv_at hl 1 rfl) ?_
  refine z_rVi (v := 1) [] hx hb hml hown hts (m_X3_isBatch_t l Dg cI mo 0 G D K b_ (by omega) hG) gX3_seal_X3_isBatch rfl kd_X3_isBatch ⟨Nat.le_of_ble_eq_true rfl, Nat.le_of_ble_eq_true rfl⟩ hK hN hP rfl rfl rfl rfl hl.1 rfl (Nat.le_of_ble_eq_true rfl) dX3_seal_7 ⟨Nat.zero_le _, Nat.zero_le _⟩ ?_
  refine lv_if_eq (tgt := 20) hx hb dX3_seal_10 (by decide) (fun c10 => absurd c10 (by decide)) (fun c10 => ?_)
  refine lv_iload_n hx hb dX3_seal_13 rfl (lv_at hl 2 rfl) ?_
  refine z_rSi (v := 0) [] hx hb hml hown hts (m_X3_isShelf_f l Dg cI x_ e1) gX3_seal_X3_isShelf rfl kdS_X3_isShelf ⟨Nat.le_of_ble_eq_true rfl, Nat.le_of_ble_eq_true rfl⟩ hK hN z_P0 rfl hl.1 rfl (Nat.le_of_ble_eq_true rfl) dX3_seal_14 ⟨Nat.zero_le _, Nat.zero_le _⟩ ?_
  refine lv_if_ne (tgt := 26) hx hb dX3_seal_17 (by decide) (fun c17 => absurd rfl c17) (fun c17 => ?_)
  refine lv_aload_n hx hb dX3_seal_20 rfl (lv_at hl 0 rfl) ?_
  refine lv_iconst (v := 1) hx hb dX3_seal_21 (by decide) ?_
  refine z_wAi (v := 0) [] hx hb hml hown hts (m_X3_no l Dg cI mo 0 G D K 1) gX3_seal_X3_no rfl kd_X3_no ⟨Nat.le_of_ble_eq_true rfl, Nat.le_of_ble_eq_true rfl⟩ hK hN hP hD hS rfl rfl rfl rfl rfl hl.1 rfl (Nat.le_of_ble_eq_true rfl) dX3_seal_22 ⟨Nat.zero_le _, Nat.zero_le _⟩ (fun H locs hP hD hS => ?_)
  have hP : va_P Dg vwCl (z_mW cI mo 1 G D K) H := hP
  have hD : va_D _ (z_mW cI mo 1 G D K) := hD
  exact z_ew_i rfl hP hS hx hb hr hlk dX3_seal_25

set_option maxHeartbeats 4000000 in
set_option maxRecDepth 100000 in
theorem m_X3_seal_x3 (l : Launch) (Dg : va_G) (cI : ClassId) (mo : Nat → Nat) (th : Int32) (G : z_GG) (D : z_DD) (K : Nat → Int32) (b_ : Nat) (s_ : Nat) (w_ : Int32) (hbb : b_ < z_bc G) (hs4 : s_ < 4) (e1 : ¬ (1 ≤ w_ ∧ w_ ≤ 20)) (hG : z_WG G) (hW : z_WD G D) : z_Mw l yX3_seal wsX3_seal 2 43 [.ref (mo 0), .int (nI b_), .int (nI s_), .int w_] Dg cI (z_mW cI mo th G D K) (some (.int 0)) (z_mW cI mo 2 G D K) := by
  have htc : z_tc G ≤ 60 := hG.2.2.2.2.2.1
  have hbc : z_bc G ≤ 6 := hG.2.2.2.2.1
  refine z_sw' (own := RX3) (l0 := [(0, .ref (mo 0)), (1, .int (nI b_)), (2, .int (nI s_)), (3, .int w_)]) rfl rfl (by decide) (Nat.le_of_ble_eq_true rfl) rfl ?_
  intro p e s m below meth c hx hb hr hml hts hown hlk hP hK hN hD hS ls hl
  refine lv_aload_n hx hb dX3_seal_0 rfl (lv_at hl 0 rfl) ?_
  refine lv_iconst (v := 0) hx hb dX3_seal_1 (by decide) ?_
  refine va_put (ci := 3) (v := .int 0) (ty := .int) (C := RX3) (T := TX3) (N := 12) hx hb hts (fun _ h => (List.mem_cons_of_mem _ (List.mem_append_right _ h))) tyX3 tyX3_ok nmX3 hown hK hP hD hS 0 rfl rfl 0 (by decide) (hts _ (List.mem_cons_of_mem _ (List.mem_append_left _ (List.mem_of_getElem? (i := 0) rfl)))) (fun _ h9 => h9) rfl (by decide +kernel) rfl rfl (Nat.le_of_ble_eq_true rfl) dX3_seal_2 (fun H locs hP hD hS => ?_)
  have hP : va_P Dg vwCl (z_mW cI mo 0 G D K) H := hP
  have hD : va_D _ (z_mW cI mo 0 G D K) := hD
  refine lv_aload_n hx hb dX3_seal_5 rfl (lv_at hl 0 rfl) ?_
  refine lv_iload_n hx hb dX3_seal_6 rfl (lv_at hl 1 rfl) ?_
  refine z_rVi (v := 1) [] hx hb hml hown hts (m_X3_isBatch_t l Dg cI mo 0 G D K b_ (by omega) hG) gX3_seal_X3_isBatch rfl kd_X3_isBatch ⟨Nat.le_of_ble_eq_true rfl, Nat.le_of_ble_eq_true rfl⟩ hK hN hP rfl rfl rfl rfl hl.1 rfl (Nat.le_of_ble_eq_true rfl) dX3_seal_7 ⟨Nat.zero_le _, Nat.zero_le _⟩ ?_
  refine lv_if_eq (tgt := 20) hx hb dX3_seal_10 (by decide) (fun c10 => absurd c10 (by decide)) (fun c10 => ?_)
  refine lv_iload_n hx hb dX3_seal_13 rfl (lv_at hl 2 rfl) ?_
  refine z_rSi (v := 1) [] hx hb hml hown hts (m_X3_isShelf_t l Dg cI s_ (by omega)) gX3_seal_X3_isShelf rfl kdS_X3_isShelf ⟨Nat.le_of_ble_eq_true rfl, Nat.le_of_ble_eq_true rfl⟩ hK hN z_P0 rfl hl.1 rfl (Nat.le_of_ble_eq_true rfl) dX3_seal_14 ⟨Nat.zero_le _, Nat.zero_le _⟩ ?_
  refine lv_if_ne (tgt := 26) hx hb dX3_seal_17 (by decide) (fun c17 => ?_) (fun c17 => absurd c17 (by decide))
  refine lv_iload_n hx hb dX3_seal_26 rfl (lv_at hl 3 rfl) ?_
  refine lv_iconst (v := 1) hx hb dX3_seal_27 (by decide) ?_
  refine lv_bipush (v := 20) hx hb dX3_seal_28 (by decide) ?_
  refine z_rSi (v := 0) [] hx hb hml hown hts (m_X3_isIn_f l Dg cI w_ 1 20 e1) gX3_seal_X3_isIn rfl kdS_X3_isIn ⟨Nat.le_of_ble_eq_true rfl, Nat.le_of_ble_eq_true rfl⟩ hK hN z_P0 rfl hl.1 rfl (Nat.le_of_ble_eq_true rfl) dX3_seal_30 ⟨Nat.zero_le _, Nat.zero_le _⟩ ?_
  refine lv_if_ne (tgt := 42) hx hb dX3_seal_33 (by decide) (fun c33 => absurd rfl c33) (fun c33 => ?_)
  refine lv_aload_n hx hb dX3_seal_36 rfl (lv_at hl 0 rfl) ?_
  refine lv_iconst (v := 2) hx hb dX3_seal_37 (by decide) ?_
  refine z_wAi (v := 0) [] hx hb hml hown hts (m_X3_no l Dg cI mo 0 G D K 2) gX3_seal_X3_no rfl kd_X3_no ⟨Nat.le_of_ble_eq_true rfl, Nat.le_of_ble_eq_true rfl⟩ hK hN hP hD hS rfl rfl rfl rfl rfl hl.1 rfl (Nat.le_of_ble_eq_true rfl) dX3_seal_38 ⟨Nat.zero_le _, Nat.zero_le _⟩ (fun H locs hP hD hS => ?_)
  have hP : va_P Dg vwCl (z_mW cI mo 2 G D K) H := hP
  have hD : va_D _ (z_mW cI mo 2 G D K) := hD
  exact z_ew_i rfl hP hS hx hb hr hlk dX3_seal_41

set_option maxHeartbeats 4000000 in
set_option maxRecDepth 100000 in
theorem m_X3_seal_x4 (l : Launch) (Dg : va_G) (cI : ClassId) (mo : Nat → Nat) (th : Int32) (G : z_GG) (D : z_DD) (K : Nat → Int32) (b_ : Nat) (s_ : Nat) (k_ : Nat) (hbb : b_ < z_bc G) (hs4 : s_ < 4) (hk1 : 1 ≤ k_) (hk2 : k_ ≤ 20) (hk60 : 60 < z_tc G + k_) (hG : z_WG G) (hW : z_WD G D) : z_Mw l yX3_seal wsX3_seal 2 43 [.ref (mo 0), .int (nI b_), .int (nI s_), .int (nI k_)] Dg cI (z_mW cI mo th G D K) (some (.int 0)) (z_mW cI mo 3 G D K) := by
  have htc : z_tc G ≤ 60 := hG.2.2.2.2.2.1
  have hbc : z_bc G ≤ 6 := hG.2.2.2.2.1
  refine z_sw' (own := RX3) (l0 := [(0, .ref (mo 0)), (1, .int (nI b_)), (2, .int (nI s_)), (3, .int (nI k_))]) rfl rfl (by decide) (Nat.le_of_ble_eq_true rfl) rfl ?_
  intro p e s m below meth c hx hb hr hml hts hown hlk hP hK hN hD hS ls hl
  refine lv_aload_n hx hb dX3_seal_0 rfl (lv_at hl 0 rfl) ?_
  refine lv_iconst (v := 0) hx hb dX3_seal_1 (by decide) ?_
  refine va_put (ci := 3) (v := .int 0) (ty := .int) (C := RX3) (T := TX3) (N := 12) hx hb hts (fun _ h => (List.mem_cons_of_mem _ (List.mem_append_right _ h))) tyX3 tyX3_ok nmX3 hown hK hP hD hS 0 rfl rfl 0 (by decide) (hts _ (List.mem_cons_of_mem _ (List.mem_append_left _ (List.mem_of_getElem? (i := 0) rfl)))) (fun _ h9 => h9) rfl (by decide +kernel) rfl rfl (Nat.le_of_ble_eq_true rfl) dX3_seal_2 (fun H locs hP hD hS => ?_)
  have hP : va_P Dg vwCl (z_mW cI mo 0 G D K) H := hP
  have hD : va_D _ (z_mW cI mo 0 G D K) := hD
  refine lv_aload_n hx hb dX3_seal_5 rfl (lv_at hl 0 rfl) ?_
  refine lv_iload_n hx hb dX3_seal_6 rfl (lv_at hl 1 rfl) ?_
  refine z_rVi (v := 1) [] hx hb hml hown hts (m_X3_isBatch_t l Dg cI mo 0 G D K b_ (by omega) hG) gX3_seal_X3_isBatch rfl kd_X3_isBatch ⟨Nat.le_of_ble_eq_true rfl, Nat.le_of_ble_eq_true rfl⟩ hK hN hP rfl rfl rfl rfl hl.1 rfl (Nat.le_of_ble_eq_true rfl) dX3_seal_7 ⟨Nat.zero_le _, Nat.zero_le _⟩ ?_
  refine lv_if_eq (tgt := 20) hx hb dX3_seal_10 (by decide) (fun c10 => absurd c10 (by decide)) (fun c10 => ?_)
  refine lv_iload_n hx hb dX3_seal_13 rfl (lv_at hl 2 rfl) ?_
  refine z_rSi (v := 1) [] hx hb hml hown hts (m_X3_isShelf_t l Dg cI s_ (by omega)) gX3_seal_X3_isShelf rfl kdS_X3_isShelf ⟨Nat.le_of_ble_eq_true rfl, Nat.le_of_ble_eq_true rfl⟩ hK hN z_P0 rfl hl.1 rfl (Nat.le_of_ble_eq_true rfl) dX3_seal_14 ⟨Nat.zero_le _, Nat.zero_le _⟩ ?_
  refine lv_if_ne (tgt := 26) hx hb dX3_seal_17 (by decide) (fun c17 => ?_) (fun c17 => absurd c17 (by decide))
  refine lv_iload_n hx hb dX3_seal_26 rfl (lv_at hl 3 rfl) ?_
  refine lv_iconst (v := nI 1) hx hb dX3_seal_27 (by decide) ?_
  refine lv_bipush (v := nI 20) hx hb dX3_seal_28 (by decide) ?_
  refine z_rSi (v := 1) [] hx hb hml hown hts (m_X3_isIn_t l Dg cI (nI k_) (nI 1) (nI 20) (nI_le hk1 (by omega)) (nI_le hk2 (by decide))) gX3_seal_X3_isIn rfl kdS_X3_isIn ⟨Nat.le_of_ble_eq_true rfl, Nat.le_of_ble_eq_true rfl⟩ hK hN z_P0 rfl hl.1 rfl (Nat.le_of_ble_eq_true rfl) dX3_seal_30 ⟨Nat.zero_le _, Nat.zero_le _⟩ ?_
  refine lv_if_ne (tgt := 42) hx hb dX3_seal_33 (by decide) (fun c33 => ?_) (fun c33 => absurd c33 (by decide))
  refine lv_aload_n hx hb dX3_seal_42 rfl (lv_at hl 0 rfl) ?_
  refine va_get (ci := 3) (v := .int (nI (z_tc G))) (C := RX3) (T := TX3) (N := 12) hx hb hts (fun _ h => (List.mem_cons_of_mem _ (List.mem_append_right _ h))) hown hK hP 0 rfl rfl 2 (by decide) (hts _ (List.mem_cons_of_mem _ (List.mem_append_left _ (List.mem_of_getElem? (i := 1) rfl)))) (fun _ h9 => h9) rfl dX3_seal_43 ?_
  refine lv_iload_n hx hb dX3_seal_46 rfl (lv_at hl 3 rfl) ?_
  refine lv_iadd hx hb dX3_seal_47 ?_
  refine z_top (x' := nI (z_tc G + k_)) (nI_add _ _) ?_
  refine lv_bipush (v := nI 60) hx hb dX3_seal_48 (by decide) ?_
  refine lv_icmp_gt (tgt := 66) hx hb dX3_seal_50 (by decide) (fun c50 => ?_) (fun c50 => absurd (nI_lt hk60 (by omega)) c50)
  refine lv_aload_n hx hb dX3_seal_66 rfl (lv_at hl 0 rfl) ?_
  refine lv_iconst (v := 3) hx hb dX3_seal_67 (by decide) ?_
  refine z_wAi (v := 0) [] hx hb hml hown hts (m_X3_no l Dg cI mo 0 G D K 3) gX3_seal_X3_no rfl kd_X3_no ⟨Nat.le_of_ble_eq_true rfl, Nat.le_of_ble_eq_true rfl⟩ hK hN hP hD hS rfl rfl rfl rfl rfl hl.1 rfl (Nat.le_of_ble_eq_true rfl) dX3_seal_68 ⟨Nat.zero_le _, Nat.zero_le _⟩ (fun H locs hP hD hS => ?_)
  have hP : va_P Dg vwCl (z_mW cI mo 3 G D K) H := hP
  have hD : va_D _ (z_mW cI mo 3 G D K) := hD
  exact z_ew_i rfl hP hS hx hb hr hlk dX3_seal_71

set_option maxHeartbeats 4000000 in
set_option maxRecDepth 100000 in
theorem m_X3_seal_x5 (l : Launch) (Dg : va_G) (cI : ClassId) (mo : Nat → Nat) (th : Int32) (G : z_GG) (D : z_DD) (K : Nat → Int32) (b_ : Nat) (s_ : Nat) (k_ : Nat) (hbb : b_ < z_bc G) (hs4 : s_ < 4) (hk1 : 1 ≤ k_) (hk2 : k_ ≤ 20) (hk60 : z_tc G + k_ ≤ 60) (hrc : z_rc D b_ = true) (hG : z_WG G) (hW : z_WD G D) : z_Mw l yX3_seal wsX3_seal 2 43 [.ref (mo 0), .int (nI b_), .int (nI s_), .int (nI k_)] Dg cI (z_mW cI mo th G D K) (some (.int 0)) (z_mW cI mo 3 G D K) := by
  have htc : z_tc G ≤ 60 := hG.2.2.2.2.2.1
  have hbc : z_bc G ≤ 6 := hG.2.2.2.2.1
  refine z_sw' (own := RX3) (l0 := [(0, .ref (mo 0)), (1, .int (nI b_)), (2, .int (nI s_)), (3, .int (nI k_))]) rfl rfl (by decide) (Nat.le_of_ble_eq_true rfl) rfl ?_
  intro p e s m below meth c hx hb hr hml hts hown hlk hP hK hN hD hS ls hl
  refine lv_aload_n hx hb dX3_seal_0 rfl (lv_at hl 0 rfl) ?_
  refine lv_iconst (v := 0) hx hb dX3_seal_1 (by decide) ?_
  refine va_put (ci := 3) (v := .int 0) (ty := .int) (C := RX3) (T := TX3) (N := 12) hx hb hts (fun _ h => (List.mem_cons_of_mem _ (List.mem_append_right _ h))) tyX3 tyX3_ok nmX3 hown hK hP hD hS 0 rfl rfl 0 (by decide) (hts _ (List.mem_cons_of_mem _ (List.mem_append_left _ (List.mem_of_getElem? (i := 0) rfl)))) (fun _ h9 => h9) rfl (by decide +kernel) rfl rfl (Nat.le_of_ble_eq_true rfl) dX3_seal_2 (fun H locs hP hD hS => ?_)
  have hP : va_P Dg vwCl (z_mW cI mo 0 G D K) H := hP
  have hD : va_D _ (z_mW cI mo 0 G D K) := hD
  refine lv_aload_n hx hb dX3_seal_5 rfl (lv_at hl 0 rfl) ?_
  refine lv_iload_n hx hb dX3_seal_6 rfl (lv_at hl 1 rfl) ?_
  refine z_rVi (v := 1) [] hx hb hml hown hts (m_X3_isBatch_t l Dg cI mo 0 G D K b_ (by omega) hG) gX3_seal_X3_isBatch rfl kd_X3_isBatch ⟨Nat.le_of_ble_eq_true rfl, Nat.le_of_ble_eq_true rfl⟩ hK hN hP rfl rfl rfl rfl hl.1 rfl (Nat.le_of_ble_eq_true rfl) dX3_seal_7 ⟨Nat.zero_le _, Nat.zero_le _⟩ ?_
  refine lv_if_eq (tgt := 20) hx hb dX3_seal_10 (by decide) (fun c10 => absurd c10 (by decide)) (fun c10 => ?_)
  refine lv_iload_n hx hb dX3_seal_13 rfl (lv_at hl 2 rfl) ?_
  refine z_rSi (v := 1) [] hx hb hml hown hts (m_X3_isShelf_t l Dg cI s_ (by omega)) gX3_seal_X3_isShelf rfl kdS_X3_isShelf ⟨Nat.le_of_ble_eq_true rfl, Nat.le_of_ble_eq_true rfl⟩ hK hN z_P0 rfl hl.1 rfl (Nat.le_of_ble_eq_true rfl) dX3_seal_14 ⟨Nat.zero_le _, Nat.zero_le _⟩ ?_
  refine lv_if_ne (tgt := 26) hx hb dX3_seal_17 (by decide) (fun c17 => ?_) (fun c17 => absurd c17 (by decide))
  refine lv_iload_n hx hb dX3_seal_26 rfl (lv_at hl 3 rfl) ?_
  refine lv_iconst (v := nI 1) hx hb dX3_seal_27 (by decide) ?_
  refine lv_bipush (v := nI 20) hx hb dX3_seal_28 (by decide) ?_
  refine z_rSi (v := 1) [] hx hb hml hown hts (m_X3_isIn_t l Dg cI (nI k_) (nI 1) (nI 20) (nI_le hk1 (by omega)) (nI_le hk2 (by decide))) gX3_seal_X3_isIn rfl kdS_X3_isIn ⟨Nat.le_of_ble_eq_true rfl, Nat.le_of_ble_eq_true rfl⟩ hK hN z_P0 rfl hl.1 rfl (Nat.le_of_ble_eq_true rfl) dX3_seal_30 ⟨Nat.zero_le _, Nat.zero_le _⟩ ?_
  refine lv_if_ne (tgt := 42) hx hb dX3_seal_33 (by decide) (fun c33 => ?_) (fun c33 => absurd c33 (by decide))
  refine lv_aload_n hx hb dX3_seal_42 rfl (lv_at hl 0 rfl) ?_
  refine va_get (ci := 3) (v := .int (nI (z_tc G))) (C := RX3) (T := TX3) (N := 12) hx hb hts (fun _ h => (List.mem_cons_of_mem _ (List.mem_append_right _ h))) hown hK hP 0 rfl rfl 2 (by decide) (hts _ (List.mem_cons_of_mem _ (List.mem_append_left _ (List.mem_of_getElem? (i := 1) rfl)))) (fun _ h9 => h9) rfl dX3_seal_43 ?_
  refine lv_iload_n hx hb dX3_seal_46 rfl (lv_at hl 3 rfl) ?_
  refine lv_iadd hx hb dX3_seal_47 ?_
  refine z_top (x' := nI (z_tc G + k_)) (nI_add _ _) ?_
  refine lv_bipush (v := nI 60) hx hb dX3_seal_48 (by decide) ?_
  refine lv_icmp_gt (tgt := 66) hx hb dX3_seal_50 (by decide) (fun c50 => absurd c50 (z_i32_nlt (nI_le hk60 (by decide)))) (fun c50 => ?_)
  refine lv_aload_n hx hb dX3_seal_53 rfl (lv_at hl 0 rfl) ?_
  refine va_get (ci := 3) (v := .ref (mo 6)) (C := RX3) (T := TX3) (N := 12) hx hb hts (fun _ h => (List.mem_cons_of_mem _ (List.mem_append_right _ h))) hown hK hP 0 rfl rfl 10 (by decide) (hts _ (List.mem_cons_of_mem _ (List.mem_append_left _ (List.mem_of_getElem? (i := 2) rfl)))) (fun _ h9 => h9) rfl dX3_seal_54 ?_
  refine lv_bipush (v := nI 7) hx hb dX3_seal_57 (by decide) ?_
  refine lv_iload_n hx hb dX3_seal_59 rfl (lv_at hl 1 rfl) ?_
  refine lv_iadd hx hb dX3_seal_60 ?_
  refine z_top (x' := nI (7 + b_)) (nI_add _ _) ?_
  refine z_iald hx hb hK hP 6 0 rfl rfl (by omega) (by decide) dX3_seal_61 ?_
  refine z_top (x' := z_bI (z_rc D b_)) (z_nw_rc _ (by omega)) ?_
  refine lv_iconst (v := 1) hx hb dX3_seal_62 (by decide) ?_
  refine lv_icmp_ne (tgt := 72) hx hb dX3_seal_63 (by decide) (fun c63 => absurd (by rw [hrc]; rfl) c63) (fun c63 => ?_)
  refine lv_aload_n hx hb dX3_seal_66 rfl (lv_at hl 0 rfl) ?_
  refine lv_iconst (v := 3) hx hb dX3_seal_67 (by decide) ?_
  refine z_wAi (v := 0) [] hx hb hml hown hts (m_X3_no l Dg cI mo 0 G D K 3) gX3_seal_X3_no rfl kd_X3_no ⟨Nat.le_of_ble_eq_true rfl, Nat.le_of_ble_eq_true rfl⟩ hK hN hP hD hS rfl rfl rfl rfl rfl hl.1 rfl (Nat.le_of_ble_eq_true rfl) dX3_seal_68 ⟨Nat.zero_le _, Nat.zero_le _⟩ (fun H locs hP hD hS => ?_)
  have hP : va_P Dg vwCl (z_mW cI mo 3 G D K) H := hP
  have hD : va_D _ (z_mW cI mo 3 G D K) := hD
  exact z_ew_i rfl hP hS hx hb hr hlk dX3_seal_71

set_option maxHeartbeats 4000000 in
set_option maxRecDepth 100000 in
theorem m_X3_seal (l : Launch) (Dg : va_G) (cI : ClassId) (mo : Nat → Nat) (th : Int32) (G : z_GG) (D : z_DD) (K : Nat → Int32) (b_ : Nat) (s_ : Nat) (k_ : Nat) (hbb : b_ < z_bc G) (hs4 : s_ < 4) (hk1 : 1 ≤ k_) (hk2 : k_ ≤ 20) (hk60 : z_tc G + k_ ≤ 60) (hrc : z_rc D b_ = false) (hG : z_WG G) (hW : z_WD G D) : z_Mw l yX3_seal wsX3_seal 2 43 [.ref (mo 0), .int (nI b_), .int (nI s_), .int (nI k_)] Dg cI (z_mW cI mo th G D K) (some (.int (nI (z_tc G)))) (z_mW cI mo 0 (z_gn G b_ s_ k_) (z_dn G D b_ s_ k_) K) := by
  have htc : z_tc G ≤ 60 := hG.2.2.2.2.2.1
  have hbc : z_bc G ≤ 6 := hG.2.2.2.2.1
  have hsd : z_sd G ≤ 9 := hG.2.2.2.2.2.2.1
  have hod : z_od G ≤ 2 := hG.2.2.2.2.2.2.2
  refine z_sw' (own := RX3) (l0 := [(0, .ref (mo 0)), (1, .int (nI b_)), (2, .int (nI s_)), (3, .int (nI k_))]) rfl rfl (by decide) (Nat.le_of_ble_eq_true rfl) rfl ?_
  intro p e s m below meth c hx hb hr hml hts hown hlk hP hK hN hD hS ls hl
  refine lv_aload_n hx hb dX3_seal_0 rfl (lv_at hl 0 rfl) ?_
  refine lv_iconst (v := 0) hx hb dX3_seal_1 (by decide) ?_
  refine va_put (ci := 3) (v := .int 0) (ty := .int) (C := RX3) (T := TX3) (N := 12) hx hb hts (fun _ h => (List.mem_cons_of_mem _ (List.mem_append_right _ h))) tyX3 tyX3_ok nmX3 hown hK hP hD hS 0 rfl rfl 0 (by decide) (hts _ (List.mem_cons_of_mem _ (List.mem_append_left _ (List.mem_of_getElem? (i := 0) rfl)))) (fun _ h9 => h9) rfl (by decide +kernel) rfl rfl (Nat.le_of_ble_eq_true rfl) dX3_seal_2 (fun H locs hP hD hS => ?_)
  have hP : va_P Dg vwCl (z_mW cI mo 0 G D K) H := hP
  have hD : va_D _ (z_mW cI mo 0 G D K) := hD
  refine lv_aload_n hx hb dX3_seal_5 rfl (lv_at hl 0 rfl) ?_
  refine lv_iload_n hx hb dX3_seal_6 rfl (lv_at hl 1 rfl) ?_
  refine z_rVi (v := 1) [] hx hb hml hown hts (m_X3_isBatch_t l Dg cI mo 0 G D K b_ (by omega) hG) gX3_seal_X3_isBatch rfl kd_X3_isBatch ⟨Nat.le_of_ble_eq_true rfl, Nat.le_of_ble_eq_true rfl⟩ hK hN hP rfl rfl rfl rfl hl.1 rfl (Nat.le_of_ble_eq_true rfl) dX3_seal_7 ⟨Nat.zero_le _, Nat.zero_le _⟩ ?_
  refine lv_if_eq (tgt := 20) hx hb dX3_seal_10 (by decide) (fun c10 => absurd c10 (by decide)) (fun c10 => ?_)
  refine lv_iload_n hx hb dX3_seal_13 rfl (lv_at hl 2 rfl) ?_
  refine z_rSi (v := 1) [] hx hb hml hown hts (m_X3_isShelf_t l Dg cI s_ (by omega)) gX3_seal_X3_isShelf rfl kdS_X3_isShelf ⟨Nat.le_of_ble_eq_true rfl, Nat.le_of_ble_eq_true rfl⟩ hK hN z_P0 rfl hl.1 rfl (Nat.le_of_ble_eq_true rfl) dX3_seal_14 ⟨Nat.zero_le _, Nat.zero_le _⟩ ?_
  refine lv_if_ne (tgt := 26) hx hb dX3_seal_17 (by decide) (fun c17 => ?_) (fun c17 => absurd c17 (by decide))
  refine lv_iload_n hx hb dX3_seal_26 rfl (lv_at hl 3 rfl) ?_
  refine lv_iconst (v := nI 1) hx hb dX3_seal_27 (by decide) ?_
  refine lv_bipush (v := nI 20) hx hb dX3_seal_28 (by decide) ?_
  refine z_rSi (v := 1) [] hx hb hml hown hts (m_X3_isIn_t l Dg cI (nI k_) (nI 1) (nI 20) (nI_le hk1 (by omega)) (nI_le hk2 (by decide))) gX3_seal_X3_isIn rfl kdS_X3_isIn ⟨Nat.le_of_ble_eq_true rfl, Nat.le_of_ble_eq_true rfl⟩ hK hN z_P0 rfl hl.1 rfl (Nat.le_of_ble_eq_true rfl) dX3_seal_30 ⟨Nat.zero_le _, Nat.zero_le _⟩ ?_
  refine lv_if_ne (tgt := 42) hx hb dX3_seal_33 (by decide) (fun c33 => ?_) (fun c33 => absurd c33 (by decide))
  refine lv_aload_n hx hb dX3_seal_42 rfl (lv_at hl 0 rfl) ?_
  refine va_get (ci := 3) (v := .int (nI (z_tc G))) (C := RX3) (T := TX3) (N := 12) hx hb hts (fun _ h => (List.mem_cons_of_mem _ (List.mem_append_right _ h))) hown hK hP 0 rfl rfl 2 (by decide) (hts _ (List.mem_cons_of_mem _ (List.mem_append_left _ (List.mem_of_getElem? (i := 1) rfl)))) (fun _ h9 => h9) rfl dX3_seal_43 ?_
  refine lv_iload_n hx hb dX3_seal_46 rfl (lv_at hl 3 rfl) ?_
  refine lv_iadd hx hb dX3_seal_47 ?_
  refine z_top (x' := nI (z_tc G + k_)) (nI_add _ _) ?_
  refine lv_bipush (v := nI 60) hx hb dX3_seal_48 (by decide) ?_
  refine lv_icmp_gt (tgt := 66) hx hb dX3_seal_50 (by decide) (fun c50 => absurd c50 (z_i32_nlt (nI_le hk60 (by decide)))) (fun c50 => ?_)
  refine lv_aload_n hx hb dX3_seal_53 rfl (lv_at hl 0 rfl) ?_
  refine va_get (ci := 3) (v := .ref (mo 6)) (C := RX3) (T := TX3) (N := 12) hx hb hts (fun _ h => (List.mem_cons_of_mem _ (List.mem_append_right _ h))) hown hK hP 0 rfl rfl 10 (by decide) (hts _ (List.mem_cons_of_mem _ (List.mem_append_left _ (List.mem_of_getElem? (i := 2) rfl)))) (fun _ h9 => h9) rfl dX3_seal_54 ?_
  refine lv_bipush (v := nI 7) hx hb dX3_seal_57 (by decide) ?_
  refine lv_iload_n hx hb dX3_seal_59 rfl (lv_at hl 1 rfl) ?_
  refine lv_iadd hx hb dX3_seal_60 ?_
  refine z_top (x' := nI (7 + b_)) (nI_add _ _) ?_
  refine z_iald hx hb hK hP 6 0 rfl rfl (by omega) (by decide) dX3_seal_61 ?_
  refine z_top (x' := z_bI (z_rc D b_)) (z_nw_rc _ (by omega)) ?_
  refine lv_iconst (v := 1) hx hb dX3_seal_62 (by decide) ?_
  refine lv_icmp_ne (tgt := 72) hx hb dX3_seal_63 (by decide) (fun c63 => ?_) (fun c63 => absurd c63 (by rw [hrc]; decide))
  refine lv_iconst (v := nI 0) hx hb dX3_seal_72 (by decide) ?_
  refine lv_istore (lv' := [(4, .int (nI 0)), (0, .ref (mo 0)), (1, .int (nI b_)), (2, .int (nI s_)), (3, .int (nI k_))]) hx hb dX3_seal_73 hl (by decide) rfl (fun ls hl => ?_)
  have lp75 : ∀ (zz i : Nat) , i ≤ k_ → k_ + 1 ≤ i + zz → ∀ (H : Heap) (locs : List Loc), va_P Dg vwCl (z_mW cI mo 0 (z_gn G b_ s_ i) (z_dn G D b_ s_ i) K) H → va_D (z_in (z_mW cI mo th G D K)) (z_mW cI mo 0 (z_gn G b_ s_ i) (z_dn G D b_ s_ i) K) → va_S (z_in (z_mW cI mo th G D K)) s.heap H locs → ∀ ls : Array Slot, lv_has ls 5 [(0, .ref (mo 0)), (1, .int (nI b_)), (2, .int (nI s_)), (3, .int (nI k_)), (4, .int (nI i))] → W p l e ({ frames := 2, cells := 0, slots := 0, locals := 43 } : Room) s m ([.ref (mo 0), .int (nI b_), .int (nI s_), .int (nI k_)] : List Value).toArray below meth c H locs 0 0 (MQ below (z_Qw (some (.int (nI (z_tc G)))) Dg (z_mW cI mo th G D K) (z_mW cI mo 0 (z_gn G b_ s_ k_) (z_dn G D b_ s_ k_) K)) ([.ref (mo 0), .int (nI b_), .int (nI s_), .int (nI k_)] : List Value).toArray s 0 0 (z_in (z_mW cI mo th G D K))) (F0 m 75 ls []) := by
    intro zz
    induction zz with
    | zero => intros; exfalso; omega
    | succ zz ih75 =>
      intro i hi hzz H locs hP hD hS ls hl
      refine lv_iload hx hb dX3_seal_75 (lv_at hl 4 rfl) ?_
      refine lv_iload_n hx hb dX3_seal_77 rfl (lv_at hl 3 rfl) ?_
      refine lv_icmp_ge (tgt := 148) hx hb dX3_seal_78 (by decide) (fun c78 => ?_) (fun c78 => ?_)
      · skip
        have hi2 : i = k_ := Nat.le_antisymm hi (z_le (by omega) (by omega) c78)
        subst hi2
        refine lv_aload_n hx hb dX3_seal_148 rfl (lv_at hl 0 rfl) ?_
        refine va_get (ci := 3) (v := .int (nI (z_tc (z_gn G b_ s_ i)))) (C := RX3) (T := TX3) (N := 12) hx hb hts (fun _ h => (List.mem_cons_of_mem _ (List.mem_append_right _ h))) hown hK hP 0 rfl rfl 2 (by decide) (hts _ (List.mem_cons_of_mem _ (List.mem_append_left _ (List.mem_of_getElem? (i := 1) rfl)))) (fun _ h9 => h9) rfl dX3_seal_149 ?_
        refine lv_iload_n hx hb dX3_seal_152 rfl (lv_at hl 3 rfl) ?_
        refine lv_isub hx hb dX3_seal_153 ?_
        refine z_top (x' := nI (z_tc G)) (by rw [z_tc_gn, pk_sub (by omega), Nat.add_sub_cancel]) ?_
        exact z_ew_i rfl hP hS hx hb hr hlk dX3_seal_154
      · skip
        have hi2 : i < k_ := z_nle (by omega) c78
        have htg := z_tc_gn G b_ s_ i
        refine lv_aload_n hx hb dX3_seal_81 rfl (lv_at hl 0 rfl) ?_
        refine va_get (ci := 3) (v := .ref (mo 4)) (C := RX3) (T := TX3) (N := 12) hx hb hts (fun _ h => (List.mem_cons_of_mem _ (List.mem_append_right _ h))) hown hK hP 0 rfl rfl 8 (by decide) (hts _ (List.mem_cons_of_mem _ (List.mem_append_left _ (List.mem_of_getElem? (i := 3) rfl)))) (fun _ h9 => h9) rfl dX3_seal_82 ?_
        refine lv_aload_n hx hb dX3_seal_85 rfl (lv_at hl 0 rfl) ?_
        refine va_get (ci := 3) (v := .int (nI (z_tc (z_gn G b_ s_ i)))) (C := RX3) (T := TX3) (N := 12) hx hb hts (fun _ h => (List.mem_cons_of_mem _ (List.mem_append_right _ h))) hown hK hP 0 rfl rfl 2 (by decide) (hts _ (List.mem_cons_of_mem _ (List.mem_append_left _ (List.mem_of_getElem? (i := 1) rfl)))) (fun _ h9 => h9) rfl dX3_seal_86 ?_
        refine lv_iload_n hx hb dX3_seal_89 rfl (lv_at hl 1 rfl) ?_
        refine z_iast hx hb hK hP hD hS 4 0 rfl rfl (by omega) (by decide) dX3_seal_90 (fun H locs hP hD hS => ?_)
        have hP : va_P Dg vwCl (z_mX cI mo 0 (nI (z_bc (z_gn G b_ s_ i))) (nI (z_tc (z_gn G b_ s_ i))) (nI (z_sd (z_gn G b_ s_ i))) (nI (z_od (z_gn G b_ s_ i))) (z_v0 (z_gn G b_ s_ i)) (z_lk (z_gn G b_ s_ i)) (z_wm (z_gn G b_ s_ i)) (upd (fun j9 => nI (z_bt (z_gn G b_ s_ i) j9)) (z_tc (z_gn G b_ s_ i)) (nI b_)) (fun j9 => nI (z_sh (z_gn G b_ s_ i) j9)) (z_nw (z_dn G D b_ s_ i)) K) H := hP
        have hD : va_D _ (z_mX cI mo 0 (nI (z_bc (z_gn G b_ s_ i))) (nI (z_tc (z_gn G b_ s_ i))) (nI (z_sd (z_gn G b_ s_ i))) (nI (z_od (z_gn G b_ s_ i))) (z_v0 (z_gn G b_ s_ i)) (z_lk (z_gn G b_ s_ i)) (z_wm (z_gn G b_ s_ i)) (upd (fun j9 => nI (z_bt (z_gn G b_ s_ i) j9)) (z_tc (z_gn G b_ s_ i)) (nI b_)) (fun j9 => nI (z_sh (z_gn G b_ s_ i) j9)) (z_nw (z_dn G D b_ s_ i)) K) := hD
        rw [z_upN] at hP hD
        have hP : va_P Dg vwCl (z_mX cI mo 0 (nI (z_bc (z_gn G b_ s_ i))) (nI (z_tc (z_gn G b_ s_ i))) (nI (z_sd (z_gn G b_ s_ i))) (nI (z_od (z_gn G b_ s_ i))) (z_v0 (z_gn G b_ s_ i)) (z_lk (z_gn G b_ s_ i)) (z_wm (z_gn G b_ s_ i)) (fun j9 => nI (va_up (z_bt (z_gn G b_ s_ i)) (z_tc (z_gn G b_ s_ i)) b_ j9)) (fun j9 => nI (z_sh (z_gn G b_ s_ i) j9)) (z_nw (z_dn G D b_ s_ i)) K) H := hP
        have hD : va_D _ (z_mX cI mo 0 (nI (z_bc (z_gn G b_ s_ i))) (nI (z_tc (z_gn G b_ s_ i))) (nI (z_sd (z_gn G b_ s_ i))) (nI (z_od (z_gn G b_ s_ i))) (z_v0 (z_gn G b_ s_ i)) (z_lk (z_gn G b_ s_ i)) (z_wm (z_gn G b_ s_ i)) (fun j9 => nI (va_up (z_bt (z_gn G b_ s_ i)) (z_tc (z_gn G b_ s_ i)) b_ j9)) (fun j9 => nI (z_sh (z_gn G b_ s_ i) j9)) (z_nw (z_dn G D b_ s_ i)) K) := hD
        refine lv_aload_n hx hb dX3_seal_91 rfl (lv_at hl 0 rfl) ?_
        refine va_get (ci := 3) (v := .ref (mo 5)) (C := RX3) (T := TX3) (N := 12) hx hb hts (fun _ h => (List.mem_cons_of_mem _ (List.mem_append_right _ h))) hown hK hP 0 rfl rfl 9 (by decide) (hts _ (List.mem_cons_of_mem _ (List.mem_append_left _ (List.mem_of_getElem? (i := 4) rfl)))) (fun _ h9 => h9) rfl dX3_seal_92 ?_
        refine lv_aload_n hx hb dX3_seal_95 rfl (lv_at hl 0 rfl) ?_
        refine va_get (ci := 3) (v := .int (nI (z_tc (z_gn G b_ s_ i)))) (C := RX3) (T := TX3) (N := 12) hx hb hts (fun _ h => (List.mem_cons_of_mem _ (List.mem_append_right _ h))) hown hK hP 0 rfl rfl 2 (by decide) (hts _ (List.mem_cons_of_mem _ (List.mem_append_left _ (List.mem_of_getElem? (i := 1) rfl)))) (fun _ h9 => h9) rfl dX3_seal_96 ?_
        refine lv_iload_n hx hb dX3_seal_99 rfl (lv_at hl 2 rfl) ?_
        refine z_iast hx hb hK hP hD hS 5 0 rfl rfl (by omega) (by decide) dX3_seal_100 (fun H locs hP hD hS => ?_)
        have hP : va_P Dg vwCl (z_mX cI mo 0 (nI (z_bc (z_gn G b_ s_ i))) (nI (z_tc (z_gn G b_ s_ i))) (nI (z_sd (z_gn G b_ s_ i))) (nI (z_od (z_gn G b_ s_ i))) (z_v0 (z_gn G b_ s_ i)) (z_lk (z_gn G b_ s_ i)) (z_wm (z_gn G b_ s_ i)) (fun j9 => nI (va_up (z_bt (z_gn G b_ s_ i)) (z_tc (z_gn G b_ s_ i)) b_ j9)) (upd (fun j9 => nI (z_sh (z_gn G b_ s_ i) j9)) (z_tc (z_gn G b_ s_ i)) (nI s_)) (z_nw (z_dn G D b_ s_ i)) K) H := hP
        have hD : va_D _ (z_mX cI mo 0 (nI (z_bc (z_gn G b_ s_ i))) (nI (z_tc (z_gn G b_ s_ i))) (nI (z_sd (z_gn G b_ s_ i))) (nI (z_od (z_gn G b_ s_ i))) (z_v0 (z_gn G b_ s_ i)) (z_lk (z_gn G b_ s_ i)) (z_wm (z_gn G b_ s_ i)) (fun j9 => nI (va_up (z_bt (z_gn G b_ s_ i)) (z_tc (z_gn G b_ s_ i)) b_ j9)) (upd (fun j9 => nI (z_sh (z_gn G b_ s_ i) j9)) (z_tc (z_gn G b_ s_ i)) (nI s_)) (z_nw (z_dn G D b_ s_ i)) K) := hD
        rw [z_upN] at hP hD
        have hP : va_P Dg vwCl (z_mX cI mo 0 (nI (z_bc (z_gn G b_ s_ i))) (nI (z_tc (z_gn G b_ s_ i))) (nI (z_sd (z_gn G b_ s_ i))) (nI (z_od (z_gn G b_ s_ i))) (z_v0 (z_gn G b_ s_ i)) (z_lk (z_gn G b_ s_ i)) (z_wm (z_gn G b_ s_ i)) (fun j9 => nI (va_up (z_bt (z_gn G b_ s_ i)) (z_tc (z_gn G b_ s_ i)) b_ j9)) (fun j9 => nI (va_up (z_sh (z_gn G b_ s_ i)) (z_tc (z_gn G b_ s_ i)) s_ j9)) (z_nw (z_dn G D b_ s_ i)) K) H := hP
        have hD : va_D _ (z_mX cI mo 0 (nI (z_bc (z_gn G b_ s_ i))) (nI (z_tc (z_gn G b_ s_ i))) (nI (z_sd (z_gn G b_ s_ i))) (nI (z_od (z_gn G b_ s_ i))) (z_v0 (z_gn G b_ s_ i)) (z_lk (z_gn G b_ s_ i)) (z_wm (z_gn G b_ s_ i)) (fun j9 => nI (va_up (z_bt (z_gn G b_ s_ i)) (z_tc (z_gn G b_ s_ i)) b_ j9)) (fun j9 => nI (va_up (z_sh (z_gn G b_ s_ i)) (z_tc (z_gn G b_ s_ i)) s_ j9)) (z_nw (z_dn G D b_ s_ i)) K) := hD
        refine lv_aload_n hx hb dX3_seal_101 rfl (lv_at hl 0 rfl) ?_
        refine va_get (ci := 3) (v := .ref (mo 6)) (C := RX3) (T := TX3) (N := 12) hx hb hts (fun _ h => (List.mem_cons_of_mem _ (List.mem_append_right _ h))) hown hK hP 0 rfl rfl 10 (by decide) (hts _ (List.mem_cons_of_mem _ (List.mem_append_left _ (List.mem_of_getElem? (i := 2) rfl)))) (fun _ h9 => h9) rfl dX3_seal_102 ?_
        refine lv_bipush (v := nI 13) hx hb dX3_seal_105 (by decide) ?_
        refine lv_aload_n hx hb dX3_seal_107 rfl (lv_at hl 0 rfl) ?_
        refine va_get (ci := 3) (v := .int (nI (z_tc (z_gn G b_ s_ i)))) (C := RX3) (T := TX3) (N := 12) hx hb hts (fun _ h => (List.mem_cons_of_mem _ (List.mem_append_right _ h))) hown hK hP 0 rfl rfl 2 (by decide) (hts _ (List.mem_cons_of_mem _ (List.mem_append_left _ (List.mem_of_getElem? (i := 1) rfl)))) (fun _ h9 => h9) rfl dX3_seal_108 ?_
        refine lv_iadd hx hb dX3_seal_111 ?_
        refine z_top (x' := nI (13 + (z_tc (z_gn G b_ s_ i)))) (nI_add _ _) ?_
        refine lv_iconst (v := nI 0) hx hb dX3_seal_112 (by decide) ?_
        refine z_iast hx hb hK hP hD hS 6 0 rfl rfl (by omega) (by decide) dX3_seal_113 (fun H locs hP hD hS => ?_)
        have hP : va_P Dg vwCl (z_mX cI mo 0 (nI (z_bc (z_gn G b_ s_ i))) (nI (z_tc (z_gn G b_ s_ i))) (nI (z_sd (z_gn G b_ s_ i))) (nI (z_od (z_gn G b_ s_ i))) (z_v0 (z_gn G b_ s_ i)) (z_lk (z_gn G b_ s_ i)) (z_wm (z_gn G b_ s_ i)) (fun j9 => nI (va_up (z_bt (z_gn G b_ s_ i)) (z_tc (z_gn G b_ s_ i)) b_ j9)) (fun j9 => nI (va_up (z_sh (z_gn G b_ s_ i)) (z_tc (z_gn G b_ s_ i)) s_ j9)) (upd (z_nw (z_dn G D b_ s_ i)) (13 + (z_tc (z_gn G b_ s_ i))) (nI 0)) K) H := hP
        have hD : va_D _ (z_mX cI mo 0 (nI (z_bc (z_gn G b_ s_ i))) (nI (z_tc (z_gn G b_ s_ i))) (nI (z_sd (z_gn G b_ s_ i))) (nI (z_od (z_gn G b_ s_ i))) (z_v0 (z_gn G b_ s_ i)) (z_lk (z_gn G b_ s_ i)) (z_wm (z_gn G b_ s_ i)) (fun j9 => nI (va_up (z_bt (z_gn G b_ s_ i)) (z_tc (z_gn G b_ s_ i)) b_ j9)) (fun j9 => nI (va_up (z_sh (z_gn G b_ s_ i)) (z_tc (z_gn G b_ s_ i)) s_ j9)) (upd (z_nw (z_dn G D b_ s_ i)) (13 + (z_tc (z_gn G b_ s_ i))) (nI 0)) K) := hD
        rw [z_nu_pl (z_dn G D b_ s_ i) 0 1 (by omega) rfl] at hP hD
        have hP : va_P Dg vwCl (z_mX cI mo 0 (nI (z_bc (z_gn G b_ s_ i))) (nI (z_tc (z_gn G b_ s_ i))) (nI (z_sd (z_gn G b_ s_ i))) (nI (z_od (z_gn G b_ s_ i))) (z_v0 (z_gn G b_ s_ i)) (z_lk (z_gn G b_ s_ i)) (z_wm (z_gn G b_ s_ i)) (fun j9 => nI (va_up (z_bt (z_gn G b_ s_ i)) (z_tc (z_gn G b_ s_ i)) b_ j9)) (fun j9 => nI (va_up (z_sh (z_gn G b_ s_ i)) (z_tc (z_gn G b_ s_ i)) s_ j9)) (z_nw (z_setpl (z_dn G D b_ s_ i) (z_tc (z_gn G b_ s_ i)) 1)) K) H := hP
        have hD : va_D _ (z_mX cI mo 0 (nI (z_bc (z_gn G b_ s_ i))) (nI (z_tc (z_gn G b_ s_ i))) (nI (z_sd (z_gn G b_ s_ i))) (nI (z_od (z_gn G b_ s_ i))) (z_v0 (z_gn G b_ s_ i)) (z_lk (z_gn G b_ s_ i)) (z_wm (z_gn G b_ s_ i)) (fun j9 => nI (va_up (z_bt (z_gn G b_ s_ i)) (z_tc (z_gn G b_ s_ i)) b_ j9)) (fun j9 => nI (va_up (z_sh (z_gn G b_ s_ i)) (z_tc (z_gn G b_ s_ i)) s_ j9)) (z_nw (z_setpl (z_dn G D b_ s_ i) (z_tc (z_gn G b_ s_ i)) 1)) K) := hD
        refine lv_aload_n hx hb dX3_seal_114 rfl (lv_at hl 0 rfl) ?_
        refine va_get (ci := 3) (v := .ref (mo 6)) (C := RX3) (T := TX3) (N := 12) hx hb hts (fun _ h => (List.mem_cons_of_mem _ (List.mem_append_right _ h))) hown hK hP 0 rfl rfl 10 (by decide) (hts _ (List.mem_cons_of_mem _ (List.mem_append_left _ (List.mem_of_getElem? (i := 2) rfl)))) (fun _ h9 => h9) rfl dX3_seal_115 ?_
        refine lv_bipush (v := nI 73) hx hb dX3_seal_118 (by decide) ?_
        refine lv_aload_n hx hb dX3_seal_120 rfl (lv_at hl 0 rfl) ?_
        refine va_get (ci := 3) (v := .int (nI (z_tc (z_gn G b_ s_ i)))) (C := RX3) (T := TX3) (N := 12) hx hb hts (fun _ h => (List.mem_cons_of_mem _ (List.mem_append_right _ h))) hown hK hP 0 rfl rfl 2 (by decide) (hts _ (List.mem_cons_of_mem _ (List.mem_append_left _ (List.mem_of_getElem? (i := 1) rfl)))) (fun _ h9 => h9) rfl dX3_seal_121 ?_
        refine lv_iadd hx hb dX3_seal_124 ?_
        refine z_top (x' := nI (73 + (z_tc (z_gn G b_ s_ i)))) (nI_add _ _) ?_
        refine lv_aload_n hx hb dX3_seal_125 rfl (lv_at hl 0 rfl) ?_
        refine va_get (ci := 3) (v := .ref (mo 1)) (C := RX3) (T := TX3) (N := 12) hx hb hts (fun _ h => (List.mem_cons_of_mem _ (List.mem_append_right _ h))) hown hK hP 0 rfl rfl 5 (by decide) (hts _ (List.mem_cons_of_mem _ (List.mem_append_left _ (List.mem_of_getElem? (i := 5) rfl)))) (fun _ h9 => h9) rfl dX3_seal_126 ?_
        refine lv_iload_n hx hb dX3_seal_129 rfl (lv_at hl 1 rfl) ?_
        refine z_iald hx hb hK hP 1 0 rfl rfl (by omega) (by decide) dX3_seal_130 ?_
        refine z_top (x' := z_v0 (z_gn G b_ s_ i) b_) rfl ?_
        refine z_iast hx hb hK hP hD hS 6 0 rfl rfl (by omega) (by decide) dX3_seal_131 (fun H locs hP hD hS => ?_)
        have hP : va_P Dg vwCl (z_mX cI mo 0 (nI (z_bc (z_gn G b_ s_ i))) (nI (z_tc (z_gn G b_ s_ i))) (nI (z_sd (z_gn G b_ s_ i))) (nI (z_od (z_gn G b_ s_ i))) (z_v0 (z_gn G b_ s_ i)) (z_lk (z_gn G b_ s_ i)) (z_wm (z_gn G b_ s_ i)) (fun j9 => nI (va_up (z_bt (z_gn G b_ s_ i)) (z_tc (z_gn G b_ s_ i)) b_ j9)) (fun j9 => nI (va_up (z_sh (z_gn G b_ s_ i)) (z_tc (z_gn G b_ s_ i)) s_ j9)) (upd (z_nw (z_setpl (z_dn G D b_ s_ i) (z_tc (z_gn G b_ s_ i)) 1)) (73 + (z_tc (z_gn G b_ s_ i))) (z_v0 (z_gn G b_ s_ i) b_)) K) H := hP
        have hD : va_D _ (z_mX cI mo 0 (nI (z_bc (z_gn G b_ s_ i))) (nI (z_tc (z_gn G b_ s_ i))) (nI (z_sd (z_gn G b_ s_ i))) (nI (z_od (z_gn G b_ s_ i))) (z_v0 (z_gn G b_ s_ i)) (z_lk (z_gn G b_ s_ i)) (z_wm (z_gn G b_ s_ i)) (fun j9 => nI (va_up (z_bt (z_gn G b_ s_ i)) (z_tc (z_gn G b_ s_ i)) b_ j9)) (fun j9 => nI (va_up (z_sh (z_gn G b_ s_ i)) (z_tc (z_gn G b_ s_ i)) s_ j9)) (upd (z_nw (z_setpl (z_dn G D b_ s_ i) (z_tc (z_gn G b_ s_ i)) 1)) (73 + (z_tc (z_gn G b_ s_ i))) (z_v0 (z_gn G b_ s_ i) b_)) K) := hD
        rw [z_nu_vc] at hP hD
        have hP : va_P Dg vwCl (z_mX cI mo 0 (nI (z_bc (z_gn G b_ s_ i))) (nI (z_tc (z_gn G b_ s_ i))) (nI (z_sd (z_gn G b_ s_ i))) (nI (z_od (z_gn G b_ s_ i))) (z_v0 (z_gn G b_ s_ i)) (z_lk (z_gn G b_ s_ i)) (z_wm (z_gn G b_ s_ i)) (fun j9 => nI (va_up (z_bt (z_gn G b_ s_ i)) (z_tc (z_gn G b_ s_ i)) b_ j9)) (fun j9 => nI (va_up (z_sh (z_gn G b_ s_ i)) (z_tc (z_gn G b_ s_ i)) s_ j9)) (z_nw (z_setvc (z_setpl (z_dn G D b_ s_ i) (z_tc (z_gn G b_ s_ i)) 1) (z_tc (z_gn G b_ s_ i)) (z_v0 (z_gn G b_ s_ i) b_))) K) H := hP
        have hD : va_D _ (z_mX cI mo 0 (nI (z_bc (z_gn G b_ s_ i))) (nI (z_tc (z_gn G b_ s_ i))) (nI (z_sd (z_gn G b_ s_ i))) (nI (z_od (z_gn G b_ s_ i))) (z_v0 (z_gn G b_ s_ i)) (z_lk (z_gn G b_ s_ i)) (z_wm (z_gn G b_ s_ i)) (fun j9 => nI (va_up (z_bt (z_gn G b_ s_ i)) (z_tc (z_gn G b_ s_ i)) b_ j9)) (fun j9 => nI (va_up (z_sh (z_gn G b_ s_ i)) (z_tc (z_gn G b_ s_ i)) s_ j9)) (z_nw (z_setvc (z_setpl (z_dn G D b_ s_ i) (z_tc (z_gn G b_ s_ i)) 1) (z_tc (z_gn G b_ s_ i)) (z_v0 (z_gn G b_ s_ i) b_))) K) := hD
        refine lv_aload_n hx hb dX3_seal_132 rfl (lv_at hl 0 rfl) ?_
        refine lv_dup hx hb dX3_seal_133 rfl ?_
        refine va_get (ci := 3) (v := .int (nI (z_tc (z_gn G b_ s_ i)))) (C := RX3) (T := TX3) (N := 12) hx hb hts (fun _ h => (List.mem_cons_of_mem _ (List.mem_append_right _ h))) hown hK hP 0 rfl rfl 2 (by decide) (hts _ (List.mem_cons_of_mem _ (List.mem_append_left _ (List.mem_of_getElem? (i := 1) rfl)))) (fun _ h9 => h9) rfl dX3_seal_134 ?_
        refine lv_iconst (v := 1) hx hb dX3_seal_137 (by decide) ?_
        refine lv_iadd hx hb dX3_seal_138 ?_
        refine z_top (x' := nI (z_tc (z_gn G b_ s_ i) + 1)) (nI_1 _) ?_
        refine va_put (ci := 3) (v := .int (nI (z_tc (z_gn G b_ s_ i) + 1))) (ty := .int) (C := RX3) (T := TX3) (N := 12) hx hb hts (fun _ h => (List.mem_cons_of_mem _ (List.mem_append_right _ h))) tyX3 tyX3_ok nmX3 hown hK hP hD hS 0 rfl rfl 2 (by decide) (hts _ (List.mem_cons_of_mem _ (List.mem_append_left _ (List.mem_of_getElem? (i := 1) rfl)))) (fun _ h9 => h9) rfl (by decide +kernel) rfl rfl (Nat.le_of_ble_eq_true rfl) dX3_seal_139 (fun H locs hP hD hS => ?_)
        have hP : va_P Dg vwCl (z_mX cI mo 0 (nI (z_bc (z_gn G b_ s_ i))) (nI (z_tc (z_gn G b_ s_ i) + 1)) (nI (z_sd (z_gn G b_ s_ i))) (nI (z_od (z_gn G b_ s_ i))) (z_v0 (z_gn G b_ s_ i)) (z_lk (z_gn G b_ s_ i)) (z_wm (z_gn G b_ s_ i)) (fun j9 => nI (va_up (z_bt (z_gn G b_ s_ i)) (z_tc (z_gn G b_ s_ i)) b_ j9)) (fun j9 => nI (va_up (z_sh (z_gn G b_ s_ i)) (z_tc (z_gn G b_ s_ i)) s_ j9)) (z_nw (z_setvc (z_setpl (z_dn G D b_ s_ i) (z_tc (z_gn G b_ s_ i)) 1) (z_tc (z_gn G b_ s_ i)) (z_v0 (z_gn G b_ s_ i) b_))) K) H := hP
        have hD : va_D _ (z_mX cI mo 0 (nI (z_bc (z_gn G b_ s_ i))) (nI (z_tc (z_gn G b_ s_ i) + 1)) (nI (z_sd (z_gn G b_ s_ i))) (nI (z_od (z_gn G b_ s_ i))) (z_v0 (z_gn G b_ s_ i)) (z_lk (z_gn G b_ s_ i)) (z_wm (z_gn G b_ s_ i)) (fun j9 => nI (va_up (z_bt (z_gn G b_ s_ i)) (z_tc (z_gn G b_ s_ i)) b_ j9)) (fun j9 => nI (va_up (z_sh (z_gn G b_ s_ i)) (z_tc (z_gn G b_ s_ i)) s_ j9)) (z_nw (z_setvc (z_setpl (z_dn G D b_ s_ i) (z_tc (z_gn G b_ s_ i)) 1) (z_tc (z_gn G b_ s_ i)) (z_v0 (z_gn G b_ s_ i) b_))) K) := hD
        have hP : va_P Dg vwCl (z_mW cI mo 0 (z_gn G b_ s_ (i + 1)) (z_dn G D b_ s_ (i + 1)) K) H := hP
        have hD : va_D _ (z_mW cI mo 0 (z_gn G b_ s_ (i + 1)) (z_dn G D b_ s_ (i + 1)) K) := hD
        refine lv_iinc (v := nI (i + 1)) (lv' := [(4, .int (nI (i + 1))), (0, .ref (mo 0)), (1, .int (nI b_)), (2, .int (nI s_)), (3, .int (nI k_))]) hx hb dX3_seal_142 hl (k := 4) rfl (nI_1 _) (by decide) rfl (fun ls hl => ?_)
        refine lv_goto (tgt := 75) hx hb dX3_seal_145 (by decide) ?_
        exact ih75 (i + 1) (by omega) (by omega) _ _ hP hD hS _ (lv_sub hl [1, 2, 3, 4, 0] rfl)
  exact lp75 (k_ + 1) 0 (by omega) (by omega) _ _ hP hD hS _ (lv_sub hl [1, 2, 3, 4, 0] rfl)

set_option maxHeartbeats 4000000 in
set_option maxRecDepth 100000 in
theorem m_X3_move_x1 (l : Launch) (Dg : va_G) (cI : ClassId) (mo : Nat → Nat) (th : Int32) (G : z_GG) (D : z_DD) (K : Nat → Int32) (x_ : Int32) (y_ : Int32) (e1 : ¬ (0 ≤ x_ ∧ x_ ≤ nI (z_tc G) - 1)) (hG : z_WG G) (hW : z_WD G D) : z_Mw l yX3_move wsX3_move 2 43 [.ref (mo 0), .int x_, .int y_] Dg cI (z_mW cI mo th G D K) (some (.int 0)) (z_mW cI mo 1 G D K) := by
  have htc : z_tc G ≤ 60 := hG.2.2.2.2.2.1
  have hbc : z_bc G ≤ 6 := hG.2.2.2.2.1
  refine z_sw' (own := RX3) (l0 := [(0, .ref (mo 0)), (1, .int x_), (2, .int y_)]) rfl rfl (by decide) (Nat.le_of_ble_eq_true rfl) rfl ?_
  intro p e s m below meth c hx hb hr hml hts hown hlk hP hK hN hD hS ls hl
  refine lv_aload_n hx hb dX3_move_0 rfl (lv_at hl 0 rfl) ?_
  refine lv_iconst (v := 0) hx hb dX3_move_1 (by decide) ?_
  refine va_put (ci := 3) (v := .int 0) (ty := .int) (C := RX3) (T := TX3) (N := 12) hx hb hts (fun _ h => (List.mem_cons_of_mem _ (List.mem_append_right _ h))) tyX3 tyX3_ok nmX3 hown hK hP hD hS 0 rfl rfl 0 (by decide) (hts _ (List.mem_cons_of_mem _ (List.mem_append_left _ (List.mem_of_getElem? (i := 0) rfl)))) (fun _ h9 => h9) rfl (by decide +kernel) rfl rfl (Nat.le_of_ble_eq_true rfl) dX3_move_2 (fun H locs hP hD hS => ?_)
  have hP : va_P Dg vwCl (z_mW cI mo 0 G D K) H := hP
  have hD : va_D _ (z_mW cI mo 0 G D K) := hD
  refine lv_aload_n hx hb dX3_move_5 rfl (lv_at hl 0 rfl) ?_
  refine lv_iload_n hx hb dX3_move_6 rfl (lv_at hl 1 rfl) ?_
  refine z_rVi (v := 0) [] hx hb hml hown hts (m_X3_isTin_f l Dg cI mo 0 G D K x_ e1) gX3_move_X3_isTin rfl kd_X3_isTin ⟨Nat.le_of_ble_eq_true rfl, Nat.le_of_ble_eq_true rfl⟩ hK hN hP rfl rfl rfl rfl hl.1 rfl (Nat.le_of_ble_eq_true rfl) dX3_move_7 ⟨Nat.zero_le _, Nat.zero_le _⟩ ?_
  refine lv_if_eq (tgt := 20) hx hb dX3_move_10 (by decide) (fun c10 => ?_) (fun c10 => absurd rfl c10)
  refine lv_aload_n hx hb dX3_move_20 rfl (lv_at hl 0 rfl) ?_
  refine lv_iconst (v := 1) hx hb dX3_move_21 (by decide) ?_
  refine z_wAi (v := 0) [] hx hb hml hown hts (m_X3_no l Dg cI mo 0 G D K 1) gX3_move_X3_no rfl kd_X3_no ⟨Nat.le_of_ble_eq_true rfl, Nat.le_of_ble_eq_true rfl⟩ hK hN hP hD hS rfl rfl rfl rfl rfl hl.1 rfl (Nat.le_of_ble_eq_true rfl) dX3_move_22 ⟨Nat.zero_le _, Nat.zero_le _⟩ (fun H locs hP hD hS => ?_)
  have hP : va_P Dg vwCl (z_mW cI mo 1 G D K) H := hP
  have hD : va_D _ (z_mW cI mo 1 G D K) := hD
  exact z_ew_i rfl hP hS hx hb hr hlk dX3_move_25

set_option maxHeartbeats 4000000 in
set_option maxRecDepth 100000 in
theorem m_X3_move_x2 (l : Launch) (Dg : va_G) (cI : ClassId) (mo : Nat → Nat) (th : Int32) (G : z_GG) (D : z_DD) (K : Nat → Int32) (t : Nat) (x_ : Int32) (ht : t < z_tc G) (e1 : ¬ (0 ≤ x_ ∧ x_ ≤ 3)) (hG : z_WG G) (hW : z_WD G D) : z_Mw l yX3_move wsX3_move 2 43 [.ref (mo 0), .int (nI t), .int x_] Dg cI (z_mW cI mo th G D K) (some (.int 0)) (z_mW cI mo 1 G D K) := by
  have htc : z_tc G ≤ 60 := hG.2.2.2.2.2.1
  have hbc : z_bc G ≤ 6 := hG.2.2.2.2.1
  refine z_sw' (own := RX3) (l0 := [(0, .ref (mo 0)), (1, .int (nI t)), (2, .int x_)]) rfl rfl (by decide) (Nat.le_of_ble_eq_true rfl) rfl ?_
  intro p e s m below meth c hx hb hr hml hts hown hlk hP hK hN hD hS ls hl
  refine lv_aload_n hx hb dX3_move_0 rfl (lv_at hl 0 rfl) ?_
  refine lv_iconst (v := 0) hx hb dX3_move_1 (by decide) ?_
  refine va_put (ci := 3) (v := .int 0) (ty := .int) (C := RX3) (T := TX3) (N := 12) hx hb hts (fun _ h => (List.mem_cons_of_mem _ (List.mem_append_right _ h))) tyX3 tyX3_ok nmX3 hown hK hP hD hS 0 rfl rfl 0 (by decide) (hts _ (List.mem_cons_of_mem _ (List.mem_append_left _ (List.mem_of_getElem? (i := 0) rfl)))) (fun _ h9 => h9) rfl (by decide +kernel) rfl rfl (Nat.le_of_ble_eq_true rfl) dX3_move_2 (fun H locs hP hD hS => ?_)
  have hP : va_P Dg vwCl (z_mW cI mo 0 G D K) H := hP
  have hD : va_D _ (z_mW cI mo 0 G D K) := hD
  refine lv_aload_n hx hb dX3_move_5 rfl (lv_at hl 0 rfl) ?_
  refine lv_iload_n hx hb dX3_move_6 rfl (lv_at hl 1 rfl) ?_
  refine z_rVi (v := 1) [] hx hb hml hown hts (m_X3_isTin_t l Dg cI mo 0 G D K t (by omega) hG) gX3_move_X3_isTin rfl kd_X3_isTin ⟨Nat.le_of_ble_eq_true rfl, Nat.le_of_ble_eq_true rfl⟩ hK hN hP rfl rfl rfl rfl hl.1 rfl (Nat.le_of_ble_eq_true rfl) dX3_move_7 ⟨Nat.zero_le _, Nat.zero_le _⟩ ?_
  refine lv_if_eq (tgt := 20) hx hb dX3_move_10 (by decide) (fun c10 => absurd c10 (by decide)) (fun c10 => ?_)
  refine lv_iload_n hx hb dX3_move_13 rfl (lv_at hl 2 rfl) ?_
  refine z_rSi (v := 0) [] hx hb hml hown hts (m_X3_isShelf_f l Dg cI x_ e1) gX3_move_X3_isShelf rfl kdS_X3_isShelf ⟨Nat.le_of_ble_eq_true rfl, Nat.le_of_ble_eq_true rfl⟩ hK hN z_P0 rfl hl.1 rfl (Nat.le_of_ble_eq_true rfl) dX3_move_14 ⟨Nat.zero_le _, Nat.zero_le _⟩ ?_
  refine lv_if_ne (tgt := 26) hx hb dX3_move_17 (by decide) (fun c17 => absurd rfl c17) (fun c17 => ?_)
  refine lv_aload_n hx hb dX3_move_20 rfl (lv_at hl 0 rfl) ?_
  refine lv_iconst (v := 1) hx hb dX3_move_21 (by decide) ?_
  refine z_wAi (v := 0) [] hx hb hml hown hts (m_X3_no l Dg cI mo 0 G D K 1) gX3_move_X3_no rfl kd_X3_no ⟨Nat.le_of_ble_eq_true rfl, Nat.le_of_ble_eq_true rfl⟩ hK hN hP hD hS rfl rfl rfl rfl rfl hl.1 rfl (Nat.le_of_ble_eq_true rfl) dX3_move_22 ⟨Nat.zero_le _, Nat.zero_le _⟩ (fun H locs hP hD hS => ?_)
  have hP : va_P Dg vwCl (z_mW cI mo 1 G D K) H := hP
  have hD : va_D _ (z_mW cI mo 1 G D K) := hD
  exact z_ew_i rfl hP hS hx hb hr hlk dX3_move_25

set_option maxHeartbeats 4000000 in
set_option maxRecDepth 100000 in
theorem m_X3_move_x3 (l : Launch) (Dg : va_G) (cI : ClassId) (mo : Nat → Nat) (th : Int32) (G : z_GG) (D : z_DD) (K : Nat → Int32) (t : Nat) (s_ : Nat) (ht : t < z_tc G) (hs4 : s_ < 4) (hp1 : ¬ z_pl D t = 1) (hG : z_WG G) (hW : z_WD G D) : z_Mw l yX3_move wsX3_move 2 43 [.ref (mo 0), .int (nI t), .int (nI s_)] Dg cI (z_mW cI mo th G D K) (some (.int 0)) (z_mW cI mo 2 G D K) := by
  have htc : z_tc G ≤ 60 := hG.2.2.2.2.2.1
  have hbc : z_bc G ≤ 6 := hG.2.2.2.2.1
  have hpl := hW t ht
  refine z_sw' (own := RX3) (l0 := [(0, .ref (mo 0)), (1, .int (nI t)), (2, .int (nI s_))]) rfl rfl (by decide) (Nat.le_of_ble_eq_true rfl) rfl ?_
  intro p e s m below meth c hx hb hr hml hts hown hlk hP hK hN hD hS ls hl
  refine lv_aload_n hx hb dX3_move_0 rfl (lv_at hl 0 rfl) ?_
  refine lv_iconst (v := 0) hx hb dX3_move_1 (by decide) ?_
  refine va_put (ci := 3) (v := .int 0) (ty := .int) (C := RX3) (T := TX3) (N := 12) hx hb hts (fun _ h => (List.mem_cons_of_mem _ (List.mem_append_right _ h))) tyX3 tyX3_ok nmX3 hown hK hP hD hS 0 rfl rfl 0 (by decide) (hts _ (List.mem_cons_of_mem _ (List.mem_append_left _ (List.mem_of_getElem? (i := 0) rfl)))) (fun _ h9 => h9) rfl (by decide +kernel) rfl rfl (Nat.le_of_ble_eq_true rfl) dX3_move_2 (fun H locs hP hD hS => ?_)
  have hP : va_P Dg vwCl (z_mW cI mo 0 G D K) H := hP
  have hD : va_D _ (z_mW cI mo 0 G D K) := hD
  refine lv_aload_n hx hb dX3_move_5 rfl (lv_at hl 0 rfl) ?_
  refine lv_iload_n hx hb dX3_move_6 rfl (lv_at hl 1 rfl) ?_
  refine z_rVi (v := 1) [] hx hb hml hown hts (m_X3_isTin_t l Dg cI mo 0 G D K t (by omega) hG) gX3_move_X3_isTin rfl kd_X3_isTin ⟨Nat.le_of_ble_eq_true rfl, Nat.le_of_ble_eq_true rfl⟩ hK hN hP rfl rfl rfl rfl hl.1 rfl (Nat.le_of_ble_eq_true rfl) dX3_move_7 ⟨Nat.zero_le _, Nat.zero_le _⟩ ?_
  refine lv_if_eq (tgt := 20) hx hb dX3_move_10 (by decide) (fun c10 => absurd c10 (by decide)) (fun c10 => ?_)
  refine lv_iload_n hx hb dX3_move_13 rfl (lv_at hl 2 rfl) ?_
  refine z_rSi (v := 1) [] hx hb hml hown hts (m_X3_isShelf_t l Dg cI s_ (by omega)) gX3_move_X3_isShelf rfl kdS_X3_isShelf ⟨Nat.le_of_ble_eq_true rfl, Nat.le_of_ble_eq_true rfl⟩ hK hN z_P0 rfl hl.1 rfl (Nat.le_of_ble_eq_true rfl) dX3_move_14 ⟨Nat.zero_le _, Nat.zero_le _⟩ ?_
  refine lv_if_ne (tgt := 26) hx hb dX3_move_17 (by decide) (fun c17 => ?_) (fun c17 => absurd c17 (by decide))
  refine lv_aload_n hx hb dX3_move_26 rfl (lv_at hl 0 rfl) ?_
  refine lv_iload_n hx hb dX3_move_27 rfl (lv_at hl 1 rfl) ?_
  refine z_rVi (v := z_bI (z_pl D t == 1)) [] hx hb hml hown hts (m_X3_isHere l Dg cI mo 0 G D K t (by omega) hG hW) gX3_move_X3_isHere rfl kd_X3_isHere ⟨Nat.le_of_ble_eq_true rfl, Nat.le_of_ble_eq_true rfl⟩ hK hN hP rfl rfl rfl rfl hl.1 rfl (Nat.le_of_ble_eq_true rfl) dX3_move_28 ⟨Nat.zero_le _, Nat.zero_le _⟩ ?_
  refine lv_if_ne (tgt := 40) hx hb dX3_move_31 (by decide) (fun c31 => absurd (by rw [z_bne hp1]; rfl) c31) (fun c31 => ?_)
  refine lv_aload_n hx hb dX3_move_34 rfl (lv_at hl 0 rfl) ?_
  refine lv_iconst (v := 2) hx hb dX3_move_35 (by decide) ?_
  refine z_wAi (v := 0) [] hx hb hml hown hts (m_X3_no l Dg cI mo 0 G D K 2) gX3_move_X3_no rfl kd_X3_no ⟨Nat.le_of_ble_eq_true rfl, Nat.le_of_ble_eq_true rfl⟩ hK hN hP hD hS rfl rfl rfl rfl rfl hl.1 rfl (Nat.le_of_ble_eq_true rfl) dX3_move_36 ⟨Nat.zero_le _, Nat.zero_le _⟩ (fun H locs hP hD hS => ?_)
  have hP : va_P Dg vwCl (z_mW cI mo 2 G D K) H := hP
  have hD : va_D _ (z_mW cI mo 2 G D K) := hD
  exact z_ew_i rfl hP hS hx hb hr hlk dX3_move_39

set_option maxHeartbeats 4000000 in
set_option maxRecDepth 100000 in
theorem m_X3_move (l : Launch) (Dg : va_G) (cI : ClassId) (mo : Nat → Nat) (th : Int32) (G : z_GG) (D : z_DD) (K : Nat → Int32) (t : Nat) (s_ : Nat) (ht : t < z_tc G) (hs4 : s_ < 4) (hp1 : z_pl D t = 1) (hG : z_WG G) (hW : z_WD G D) : z_Mw l yX3_move wsX3_move 2 43 [.ref (mo 0), .int (nI t), .int (nI s_)] Dg cI (z_mW cI mo th G D K) (some (.int (nI (z_sh G t)))) (z_mW cI mo 0 (z_setsh G t s_) D K) := by
  have htc : z_tc G ≤ 60 := hG.2.2.2.2.2.1
  have hbc : z_bc G ≤ 6 := hG.2.2.2.2.1
  have hsd : z_sd G ≤ 9 := hG.2.2.2.2.2.2.1
  have hod : z_od G ≤ 2 := hG.2.2.2.2.2.2.2
  have hpl := hW t ht
  have hbt := hG.2.2.1 t
  have hsh := hG.2.2.2.1 t
  refine z_sw' (own := RX3) (l0 := [(0, .ref (mo 0)), (1, .int (nI t)), (2, .int (nI s_))]) rfl rfl (by decide) (Nat.le_of_ble_eq_true rfl) rfl ?_
  intro p e s m below meth c hx hb hr hml hts hown hlk hP hK hN hD hS ls hl
  refine lv_aload_n hx hb dX3_move_0 rfl (lv_at hl 0 rfl) ?_
  refine lv_iconst (v := 0) hx hb dX3_move_1 (by decide) ?_
  refine va_put (ci := 3) (v := .int 0) (ty := .int) (C := RX3) (T := TX3) (N := 12) hx hb hts (fun _ h => (List.mem_cons_of_mem _ (List.mem_append_right _ h))) tyX3 tyX3_ok nmX3 hown hK hP hD hS 0 rfl rfl 0 (by decide) (hts _ (List.mem_cons_of_mem _ (List.mem_append_left _ (List.mem_of_getElem? (i := 0) rfl)))) (fun _ h9 => h9) rfl (by decide +kernel) rfl rfl (Nat.le_of_ble_eq_true rfl) dX3_move_2 (fun H locs hP hD hS => ?_)
  have hP : va_P Dg vwCl (z_mW cI mo 0 G D K) H := hP
  have hD : va_D _ (z_mW cI mo 0 G D K) := hD
  refine lv_aload_n hx hb dX3_move_5 rfl (lv_at hl 0 rfl) ?_
  refine lv_iload_n hx hb dX3_move_6 rfl (lv_at hl 1 rfl) ?_
  refine z_rVi (v := 1) [] hx hb hml hown hts (m_X3_isTin_t l Dg cI mo 0 G D K t (by omega) hG) gX3_move_X3_isTin rfl kd_X3_isTin ⟨Nat.le_of_ble_eq_true rfl, Nat.le_of_ble_eq_true rfl⟩ hK hN hP rfl rfl rfl rfl hl.1 rfl (Nat.le_of_ble_eq_true rfl) dX3_move_7 ⟨Nat.zero_le _, Nat.zero_le _⟩ ?_
  refine lv_if_eq (tgt := 20) hx hb dX3_move_10 (by decide) (fun c10 => absurd c10 (by decide)) (fun c10 => ?_)
  refine lv_iload_n hx hb dX3_move_13 rfl (lv_at hl 2 rfl) ?_
  refine z_rSi (v := 1) [] hx hb hml hown hts (m_X3_isShelf_t l Dg cI s_ (by omega)) gX3_move_X3_isShelf rfl kdS_X3_isShelf ⟨Nat.le_of_ble_eq_true rfl, Nat.le_of_ble_eq_true rfl⟩ hK hN z_P0 rfl hl.1 rfl (Nat.le_of_ble_eq_true rfl) dX3_move_14 ⟨Nat.zero_le _, Nat.zero_le _⟩ ?_
  refine lv_if_ne (tgt := 26) hx hb dX3_move_17 (by decide) (fun c17 => ?_) (fun c17 => absurd c17 (by decide))
  refine lv_aload_n hx hb dX3_move_26 rfl (lv_at hl 0 rfl) ?_
  refine lv_iload_n hx hb dX3_move_27 rfl (lv_at hl 1 rfl) ?_
  refine z_rVi (v := z_bI (z_pl D t == 1)) [] hx hb hml hown hts (m_X3_isHere l Dg cI mo 0 G D K t (by omega) hG hW) gX3_move_X3_isHere rfl kd_X3_isHere ⟨Nat.le_of_ble_eq_true rfl, Nat.le_of_ble_eq_true rfl⟩ hK hN hP rfl rfl rfl rfl hl.1 rfl (Nat.le_of_ble_eq_true rfl) dX3_move_28 ⟨Nat.zero_le _, Nat.zero_le _⟩ ?_
  refine lv_if_ne (tgt := 40) hx hb dX3_move_31 (by decide) (fun c31 => ?_) (fun c31 => absurd c31 (by rw [hp1]; decide))
  refine lv_aload_n hx hb dX3_move_40 rfl (lv_at hl 0 rfl) ?_
  refine va_get (ci := 3) (v := .ref (mo 5)) (C := RX3) (T := TX3) (N := 12) hx hb hts (fun _ h => (List.mem_cons_of_mem _ (List.mem_append_right _ h))) hown hK hP 0 rfl rfl 9 (by decide) (hts _ (List.mem_cons_of_mem _ (List.mem_append_left _ (List.mem_of_getElem? (i := 1) rfl)))) (fun _ h9 => h9) rfl dX3_move_41 ?_
  refine lv_iload_n hx hb dX3_move_44 rfl (lv_at hl 1 rfl) ?_
  refine z_iald hx hb hK hP 5 0 rfl rfl (by omega) (by decide) dX3_move_45 ?_
  refine z_top (x' := nI (z_sh G t)) rfl ?_
  refine lv_istore_n (lv' := [(3, .int (nI (z_sh G t))), (0, .ref (mo 0)), (1, .int (nI t)), (2, .int (nI s_))]) hx hb dX3_move_46 rfl hl (by decide) rfl (fun ls hl => ?_)
  refine lv_aload_n hx hb dX3_move_47 rfl (lv_at hl 1 rfl) ?_
  refine va_get (ci := 3) (v := .ref (mo 5)) (C := RX3) (T := TX3) (N := 12) hx hb hts (fun _ h => (List.mem_cons_of_mem _ (List.mem_append_right _ h))) hown hK hP 0 rfl rfl 9 (by decide) (hts _ (List.mem_cons_of_mem _ (List.mem_append_left _ (List.mem_of_getElem? (i := 1) rfl)))) (fun _ h9 => h9) rfl dX3_move_48 ?_
  refine lv_iload_n hx hb dX3_move_51 rfl (lv_at hl 2 rfl) ?_
  refine lv_iload_n hx hb dX3_move_52 rfl (lv_at hl 3 rfl) ?_
  refine z_iast hx hb hK hP hD hS 5 0 rfl rfl (by omega) (by decide) dX3_move_53 (fun H locs hP hD hS => ?_)
  have hP : va_P Dg vwCl (z_mX cI mo 0 (nI (z_bc G)) (nI (z_tc G)) (nI (z_sd G)) (nI (z_od G)) (z_v0 G) (z_lk G) (z_wm G) (fun j9 => nI (z_bt G j9)) (upd (fun j9 => nI (z_sh G j9)) t (nI s_)) (z_nw D) K) H := hP
  have hD : va_D _ (z_mX cI mo 0 (nI (z_bc G)) (nI (z_tc G)) (nI (z_sd G)) (nI (z_od G)) (z_v0 G) (z_lk G) (z_wm G) (fun j9 => nI (z_bt G j9)) (upd (fun j9 => nI (z_sh G j9)) t (nI s_)) (z_nw D) K) := hD
  rw [z_upN] at hP hD
  have hP : va_P Dg vwCl (z_mX cI mo 0 (nI (z_bc G)) (nI (z_tc G)) (nI (z_sd G)) (nI (z_od G)) (z_v0 G) (z_lk G) (z_wm G) (fun j9 => nI (z_bt G j9)) (fun j9 => nI (va_up (z_sh G) t s_ j9)) (z_nw D) K) H := hP
  have hD : va_D _ (z_mX cI mo 0 (nI (z_bc G)) (nI (z_tc G)) (nI (z_sd G)) (nI (z_od G)) (z_v0 G) (z_lk G) (z_wm G) (fun j9 => nI (z_bt G j9)) (fun j9 => nI (va_up (z_sh G) t s_ j9)) (z_nw D) K) := hD
  have hP : va_P Dg vwCl (z_mW cI mo 0 (z_setsh G t s_) D K) H := hP
  have hD : va_D _ (z_mW cI mo 0 (z_setsh G t s_) D K) := hD
  refine lv_iload_n hx hb dX3_move_54 rfl (lv_at hl 0 rfl) ?_
  exact z_ew_i rfl hP hS hx hb hr hlk dX3_move_55

set_option maxHeartbeats 4000000 in
set_option maxRecDepth 100000 in
theorem m_X3_setWarm_x1 (l : Launch) (Dg : va_G) (cI : ClassId) (mo : Nat → Nat) (th : Int32) (G : z_GG) (D : z_DD) (K : Nat → Int32) (x_ : Int32) (y_ : Int32) (e1 : ¬ (0 ≤ x_ ∧ x_ ≤ 3)) (hG : z_WG G) (hW : z_WD G D) : z_Mw l yX3_setWarm wsX3_setWarm 2 42 [.ref (mo 0), .int x_, .int y_] Dg cI (z_mW cI mo th G D K) (some (.int 0)) (z_mW cI mo 1 G D K) := by
  have htc : z_tc G ≤ 60 := hG.2.2.2.2.2.1
  have hbc : z_bc G ≤ 6 := hG.2.2.2.2.1
  refine z_sw' (own := RX3) (l0 := [(0, .ref (mo 0)), (1, .int x_), (2, .int y_)]) rfl rfl (by decide) (Nat.le_of_ble_eq_true rfl) rfl ?_
  intro p e s m below meth c hx hb hr hml hts hown hlk hP hK hN hD hS ls hl
  refine lv_aload_n hx hb dX3_setWarm_0 rfl (lv_at hl 0 rfl) ?_
  refine lv_iconst (v := 0) hx hb dX3_setWarm_1 (by decide) ?_
  refine va_put (ci := 3) (v := .int 0) (ty := .int) (C := RX3) (T := TX3) (N := 12) hx hb hts (fun _ h => (List.mem_cons_of_mem _ (List.mem_append_right _ h))) tyX3 tyX3_ok nmX3 hown hK hP hD hS 0 rfl rfl 0 (by decide) (hts _ (List.mem_cons_of_mem _ (List.mem_append_left _ (List.mem_of_getElem? (i := 0) rfl)))) (fun _ h9 => h9) rfl (by decide +kernel) rfl rfl (Nat.le_of_ble_eq_true rfl) dX3_setWarm_2 (fun H locs hP hD hS => ?_)
  have hP : va_P Dg vwCl (z_mW cI mo 0 G D K) H := hP
  have hD : va_D _ (z_mW cI mo 0 G D K) := hD
  refine lv_iload_n hx hb dX3_setWarm_5 rfl (lv_at hl 1 rfl) ?_
  refine z_rSi (v := 0) [] hx hb hml hown hts (m_X3_isShelf_f l Dg cI x_ e1) gX3_setWarm_X3_isShelf rfl kdS_X3_isShelf ⟨Nat.le_of_ble_eq_true rfl, Nat.le_of_ble_eq_true rfl⟩ hK hN z_P0 rfl hl.1 rfl (Nat.le_of_ble_eq_true rfl) dX3_setWarm_6 ⟨Nat.zero_le _, Nat.zero_le _⟩ ?_
  refine lv_if_ne (tgt := 18) hx hb dX3_setWarm_9 (by decide) (fun c9 => absurd rfl c9) (fun c9 => ?_)
  refine lv_aload_n hx hb dX3_setWarm_12 rfl (lv_at hl 0 rfl) ?_
  refine lv_iconst (v := 1) hx hb dX3_setWarm_13 (by decide) ?_
  refine z_wAi (v := 0) [] hx hb hml hown hts (m_X3_no l Dg cI mo 0 G D K 1) gX3_setWarm_X3_no rfl kd_X3_no ⟨Nat.le_of_ble_eq_true rfl, Nat.le_of_ble_eq_true rfl⟩ hK hN hP hD hS rfl rfl rfl rfl rfl hl.1 rfl (Nat.le_of_ble_eq_true rfl) dX3_setWarm_14 ⟨Nat.zero_le _, Nat.zero_le _⟩ (fun H locs hP hD hS => ?_)
  have hP : va_P Dg vwCl (z_mW cI mo 1 G D K) H := hP
  have hD : va_D _ (z_mW cI mo 1 G D K) := hD
  exact z_ew_i rfl hP hS hx hb hr hlk dX3_setWarm_17

set_option maxHeartbeats 4000000 in
set_option maxRecDepth 100000 in
theorem m_X3_setWarm_x2 (l : Launch) (Dg : va_G) (cI : ClassId) (mo : Nat → Nat) (th : Int32) (G : z_GG) (D : z_DD) (K : Nat → Int32) (s_ : Nat) (w_ : Int32) (hs4 : s_ < 4) (e1 : ¬ (0 ≤ w_ ∧ w_ ≤ 3)) (hG : z_WG G) (hW : z_WD G D) : z_Mw l yX3_setWarm wsX3_setWarm 2 42 [.ref (mo 0), .int (nI s_), .int w_] Dg cI (z_mW cI mo th G D K) (some (.int 0)) (z_mW cI mo 2 G D K) := by
  have htc : z_tc G ≤ 60 := hG.2.2.2.2.2.1
  have hbc : z_bc G ≤ 6 := hG.2.2.2.2.1
  refine z_sw' (own := RX3) (l0 := [(0, .ref (mo 0)), (1, .int (nI s_)), (2, .int w_)]) rfl rfl (by decide) (Nat.le_of_ble_eq_true rfl) rfl ?_
  intro p e s m below meth c hx hb hr hml hts hown hlk hP hK hN hD hS ls hl
  refine lv_aload_n hx hb dX3_setWarm_0 rfl (lv_at hl 0 rfl) ?_
  refine lv_iconst (v := 0) hx hb dX3_setWarm_1 (by decide) ?_
  refine va_put (ci := 3) (v := .int 0) (ty := .int) (C := RX3) (T := TX3) (N := 12) hx hb hts (fun _ h => (List.mem_cons_of_mem _ (List.mem_append_right _ h))) tyX3 tyX3_ok nmX3 hown hK hP hD hS 0 rfl rfl 0 (by decide) (hts _ (List.mem_cons_of_mem _ (List.mem_append_left _ (List.mem_of_getElem? (i := 0) rfl)))) (fun _ h9 => h9) rfl (by decide +kernel) rfl rfl (Nat.le_of_ble_eq_true rfl) dX3_setWarm_2 (fun H locs hP hD hS => ?_)
  have hP : va_P Dg vwCl (z_mW cI mo 0 G D K) H := hP
  have hD : va_D _ (z_mW cI mo 0 G D K) := hD
  refine lv_iload_n hx hb dX3_setWarm_5 rfl (lv_at hl 1 rfl) ?_
  refine z_rSi (v := 1) [] hx hb hml hown hts (m_X3_isShelf_t l Dg cI s_ (by omega)) gX3_setWarm_X3_isShelf rfl kdS_X3_isShelf ⟨Nat.le_of_ble_eq_true rfl, Nat.le_of_ble_eq_true rfl⟩ hK hN z_P0 rfl hl.1 rfl (Nat.le_of_ble_eq_true rfl) dX3_setWarm_6 ⟨Nat.zero_le _, Nat.zero_le _⟩ ?_
  refine lv_if_ne (tgt := 18) hx hb dX3_setWarm_9 (by decide) (fun c9 => ?_) (fun c9 => absurd c9 (by decide))
  refine lv_iload_n hx hb dX3_setWarm_18 rfl (lv_at hl 2 rfl) ?_
  refine lv_iconst (v := 0) hx hb dX3_setWarm_19 (by decide) ?_
  refine lv_iconst (v := 3) hx hb dX3_setWarm_20 (by decide) ?_
  refine z_rSi (v := 0) [] hx hb hml hown hts (m_X3_isIn_f l Dg cI w_ 0 3 e1) gX3_setWarm_X3_isIn rfl kdS_X3_isIn ⟨Nat.le_of_ble_eq_true rfl, Nat.le_of_ble_eq_true rfl⟩ hK hN z_P0 rfl hl.1 rfl (Nat.le_of_ble_eq_true rfl) dX3_setWarm_21 ⟨Nat.zero_le _, Nat.zero_le _⟩ ?_
  refine lv_if_ne (tgt := 33) hx hb dX3_setWarm_24 (by decide) (fun c24 => absurd rfl c24) (fun c24 => ?_)
  refine lv_aload_n hx hb dX3_setWarm_27 rfl (lv_at hl 0 rfl) ?_
  refine lv_iconst (v := 2) hx hb dX3_setWarm_28 (by decide) ?_
  refine z_wAi (v := 0) [] hx hb hml hown hts (m_X3_no l Dg cI mo 0 G D K 2) gX3_setWarm_X3_no rfl kd_X3_no ⟨Nat.le_of_ble_eq_true rfl, Nat.le_of_ble_eq_true rfl⟩ hK hN hP hD hS rfl rfl rfl rfl rfl hl.1 rfl (Nat.le_of_ble_eq_true rfl) dX3_setWarm_29 ⟨Nat.zero_le _, Nat.zero_le _⟩ (fun H locs hP hD hS => ?_)
  have hP : va_P Dg vwCl (z_mW cI mo 2 G D K) H := hP
  have hD : va_D _ (z_mW cI mo 2 G D K) := hD
  exact z_ew_i rfl hP hS hx hb hr hlk dX3_setWarm_32

set_option maxHeartbeats 4000000 in
set_option maxRecDepth 100000 in
theorem m_X3_setWarm (l : Launch) (Dg : va_G) (cI : ClassId) (mo : Nat → Nat) (th : Int32) (G : z_GG) (D : z_DD) (K : Nat → Int32) (s_ : Nat) (w_ : Int32) (hs4 : s_ < 4) (hw1 : 0 ≤ w_) (hw2 : w_ ≤ 3) (hG : z_WG G) (hW : z_WD G D) : z_Mw l yX3_setWarm wsX3_setWarm 2 42 [.ref (mo 0), .int (nI s_), .int w_] Dg cI (z_mW cI mo th G D K) (some (.int (z_wm G s_))) (z_mW cI mo 0 (z_setwm G s_ w_) D K) := by
  have htc : z_tc G ≤ 60 := hG.2.2.2.2.2.1
  have hbc : z_bc G ≤ 6 := hG.2.2.2.2.1
  have hsd : z_sd G ≤ 9 := hG.2.2.2.2.2.2.1
  have hod : z_od G ≤ 2 := hG.2.2.2.2.2.2.2
  refine z_sw' (own := RX3) (l0 := [(0, .ref (mo 0)), (1, .int (nI s_)), (2, .int w_)]) rfl rfl (by decide) (Nat.le_of_ble_eq_true rfl) rfl ?_
  intro p e s m below meth c hx hb hr hml hts hown hlk hP hK hN hD hS ls hl
  refine lv_aload_n hx hb dX3_setWarm_0 rfl (lv_at hl 0 rfl) ?_
  refine lv_iconst (v := 0) hx hb dX3_setWarm_1 (by decide) ?_
  refine va_put (ci := 3) (v := .int 0) (ty := .int) (C := RX3) (T := TX3) (N := 12) hx hb hts (fun _ h => (List.mem_cons_of_mem _ (List.mem_append_right _ h))) tyX3 tyX3_ok nmX3 hown hK hP hD hS 0 rfl rfl 0 (by decide) (hts _ (List.mem_cons_of_mem _ (List.mem_append_left _ (List.mem_of_getElem? (i := 0) rfl)))) (fun _ h9 => h9) rfl (by decide +kernel) rfl rfl (Nat.le_of_ble_eq_true rfl) dX3_setWarm_2 (fun H locs hP hD hS => ?_)
  have hP : va_P Dg vwCl (z_mW cI mo 0 G D K) H := hP
  have hD : va_D _ (z_mW cI mo 0 G D K) := hD
  refine lv_iload_n hx hb dX3_setWarm_5 rfl (lv_at hl 1 rfl) ?_
  refine z_rSi (v := 1) [] hx hb hml hown hts (m_X3_isShelf_t l Dg cI s_ (by omega)) gX3_setWarm_X3_isShelf rfl kdS_X3_isShelf ⟨Nat.le_of_ble_eq_true rfl, Nat.le_of_ble_eq_true rfl⟩ hK hN z_P0 rfl hl.1 rfl (Nat.le_of_ble_eq_true rfl) dX3_setWarm_6 ⟨Nat.zero_le _, Nat.zero_le _⟩ ?_
  refine lv_if_ne (tgt := 18) hx hb dX3_setWarm_9 (by decide) (fun c9 => ?_) (fun c9 => absurd c9 (by decide))
  refine lv_iload_n hx hb dX3_setWarm_18 rfl (lv_at hl 2 rfl) ?_
  refine lv_iconst (v := 0) hx hb dX3_setWarm_19 (by decide) ?_
  refine lv_iconst (v := 3) hx hb dX3_setWarm_20 (by decide) ?_
  refine z_rSi (v := 1) [] hx hb hml hown hts (m_X3_isIn_t l Dg cI w_ 0 3 hw1 hw2) gX3_setWarm_X3_isIn rfl kdS_X3_isIn ⟨Nat.le_of_ble_eq_true rfl, Nat.le_of_ble_eq_true rfl⟩ hK hN z_P0 rfl hl.1 rfl (Nat.le_of_ble_eq_true rfl) dX3_setWarm_21 ⟨Nat.zero_le _, Nat.zero_le _⟩ ?_
  refine lv_if_ne (tgt := 33) hx hb dX3_setWarm_24 (by decide) (fun c24 => ?_) (fun c24 => absurd c24 (by decide))
  refine lv_aload_n hx hb dX3_setWarm_33 rfl (lv_at hl 0 rfl) ?_
  refine va_get (ci := 3) (v := .ref (mo 3)) (C := RX3) (T := TX3) (N := 12) hx hb hts (fun _ h => (List.mem_cons_of_mem _ (List.mem_append_right _ h))) hown hK hP 0 rfl rfl 7 (by decide) (hts _ (List.mem_cons_of_mem _ (List.mem_append_left _ (List.mem_of_getElem? (i := 1) rfl)))) (fun _ h9 => h9) rfl dX3_setWarm_34 ?_
  refine lv_iload_n hx hb dX3_setWarm_37 rfl (lv_at hl 1 rfl) ?_
  refine z_iald hx hb hK hP 3 0 rfl rfl (by omega) (by decide) dX3_setWarm_38 ?_
  refine z_top (x' := z_wm G s_) rfl ?_
  refine lv_istore_n (lv' := [(3, .int (z_wm G s_)), (0, .ref (mo 0)), (1, .int (nI s_)), (2, .int w_)]) hx hb dX3_setWarm_39 rfl hl (by decide) rfl (fun ls hl => ?_)
  refine lv_aload_n hx hb dX3_setWarm_40 rfl (lv_at hl 1 rfl) ?_
  refine va_get (ci := 3) (v := .ref (mo 3)) (C := RX3) (T := TX3) (N := 12) hx hb hts (fun _ h => (List.mem_cons_of_mem _ (List.mem_append_right _ h))) hown hK hP 0 rfl rfl 7 (by decide) (hts _ (List.mem_cons_of_mem _ (List.mem_append_left _ (List.mem_of_getElem? (i := 1) rfl)))) (fun _ h9 => h9) rfl dX3_setWarm_41 ?_
  refine lv_iload_n hx hb dX3_setWarm_44 rfl (lv_at hl 2 rfl) ?_
  refine lv_iload_n hx hb dX3_setWarm_45 rfl (lv_at hl 3 rfl) ?_
  refine z_iast hx hb hK hP hD hS 3 0 rfl rfl (by omega) (by decide) dX3_setWarm_46 (fun H locs hP hD hS => ?_)
  have hP : va_P Dg vwCl (z_mX cI mo 0 (nI (z_bc G)) (nI (z_tc G)) (nI (z_sd G)) (nI (z_od G)) (z_v0 G) (z_lk G) (upd (z_wm G) s_ w_) (fun j9 => nI (z_bt G j9)) (fun j9 => nI (z_sh G j9)) (z_nw D) K) H := hP
  have hD : va_D _ (z_mX cI mo 0 (nI (z_bc G)) (nI (z_tc G)) (nI (z_sd G)) (nI (z_od G)) (z_v0 G) (z_lk G) (upd (z_wm G) s_ w_) (fun j9 => nI (z_bt G j9)) (fun j9 => nI (z_sh G j9)) (z_nw D) K) := hD
  have hP : va_P Dg vwCl (z_mW cI mo 0 (z_setwm G s_ w_) D K) H := hP
  have hD : va_D _ (z_mW cI mo 0 (z_setwm G s_ w_) D K) := hD
  refine lv_iload_n hx hb dX3_setWarm_47 rfl (lv_at hl 0 rfl) ?_
  exact z_ew_i rfl hP hS hx hb hr hlk dX3_setWarm_48

set_option maxHeartbeats 4000000 in
set_option maxRecDepth 100000 in
theorem m_X3_recall_x1 (l : Launch) (Dg : va_G) (cI : ClassId) (mo : Nat → Nat) (th : Int32) (G : z_GG) (D : z_DD) (K : Nat → Int32) (x_ : Int32) (e1 : ¬ (0 ≤ x_ ∧ x_ ≤ nI (z_bc G) - 1)) (hG : z_WG G) (hW : z_WD G D) : z_Mw l yX3_recall wsX3_recall 2 44 [.ref (mo 0), .int x_] Dg cI (z_mW cI mo th G D K) (some (.int 0)) (z_mW cI mo 1 G D K) := by
  have htc : z_tc G ≤ 60 := hG.2.2.2.2.2.1
  have hbc : z_bc G ≤ 6 := hG.2.2.2.2.1
  refine z_sw' (own := RX3) (l0 := [(0, .ref (mo 0)), (1, .int x_)]) rfl rfl (by decide) (Nat.le_of_ble_eq_true rfl) rfl ?_
  intro p e s m below meth c hx hb hr hml hts hown hlk hP hK hN hD hS ls hl
  refine lv_aload_n hx hb dX3_recall_0 rfl (lv_at hl 0 rfl) ?_
  refine lv_iconst (v := 0) hx hb dX3_recall_1 (by decide) ?_
  refine va_put (ci := 3) (v := .int 0) (ty := .int) (C := RX3) (T := TX3) (N := 12) hx hb hts (fun _ h => (List.mem_cons_of_mem _ (List.mem_append_right _ h))) tyX3 tyX3_ok nmX3 hown hK hP hD hS 0 rfl rfl 0 (by decide) (hts _ (List.mem_cons_of_mem _ (List.mem_append_left _ (List.mem_append_left _ (List.mem_of_getElem? (i := 0) rfl))))) (fun _ h9 => h9) rfl (by decide +kernel) rfl rfl (Nat.le_of_ble_eq_true rfl) dX3_recall_2 (fun H locs hP hD hS => ?_)
  have hP : va_P Dg vwCl (z_mW cI mo 0 G D K) H := hP
  have hD : va_D _ (z_mW cI mo 0 G D K) := hD
  refine lv_aload_n hx hb dX3_recall_5 rfl (lv_at hl 0 rfl) ?_
  refine lv_iload_n hx hb dX3_recall_6 rfl (lv_at hl 1 rfl) ?_
  refine z_rVi (v := 0) [] hx hb hml hown hts (m_X3_isBatch_f l Dg cI mo 0 G D K x_ e1) gX3_recall_X3_isBatch rfl kd_X3_isBatch ⟨Nat.le_of_ble_eq_true rfl, Nat.le_of_ble_eq_true rfl⟩ hK hN hP rfl rfl rfl rfl hl.1 rfl (Nat.le_of_ble_eq_true rfl) dX3_recall_7 ⟨Nat.zero_le _, Nat.zero_le _⟩ ?_
  refine lv_if_ne (tgt := 19) hx hb dX3_recall_10 (by decide) (fun c10 => absurd rfl c10) (fun c10 => ?_)
  refine lv_aload_n hx hb dX3_recall_13 rfl (lv_at hl 0 rfl) ?_
  refine lv_iconst (v := 1) hx hb dX3_recall_14 (by decide) ?_
  refine z_wAi (v := 0) [] hx hb hml hown hts (m_X3_no l Dg cI mo 0 G D K 1) gX3_recall_X3_no rfl kd_X3_no ⟨Nat.le_of_ble_eq_true rfl, Nat.le_of_ble_eq_true rfl⟩ hK hN hP hD hS rfl rfl rfl rfl rfl hl.1 rfl (Nat.le_of_ble_eq_true rfl) dX3_recall_15 ⟨Nat.zero_le _, Nat.zero_le _⟩ (fun H locs hP hD hS => ?_)
  have hP : va_P Dg vwCl (z_mW cI mo 1 G D K) H := hP
  have hD : va_D _ (z_mW cI mo 1 G D K) := hD
  exact z_ew_i rfl hP hS hx hb hr hlk dX3_recall_18

set_option maxHeartbeats 4000000 in
set_option maxRecDepth 100000 in
theorem m_X3_recall_x2 (l : Launch) (Dg : va_G) (cI : ClassId) (mo : Nat → Nat) (th : Int32) (G : z_GG) (D : z_DD) (K : Nat → Int32) (b_ : Nat) (hbb : b_ < z_bc G) (hrc : z_rc D b_ = true) (hG : z_WG G) (hW : z_WD G D) : z_Mw l yX3_recall wsX3_recall 2 44 [.ref (mo 0), .int (nI b_)] Dg cI (z_mW cI mo th G D K) (some (.int 0)) (z_mW cI mo 2 G D K) := by
  have htc : z_tc G ≤ 60 := hG.2.2.2.2.2.1
  have hbc : z_bc G ≤ 6 := hG.2.2.2.2.1
  refine z_sw' (own := RX3) (l0 := [(0, .ref (mo 0)), (1, .int (nI b_))]) rfl rfl (by decide) (Nat.le_of_ble_eq_true rfl) rfl ?_
  intro p e s m below meth c hx hb hr hml hts hown hlk hP hK hN hD hS ls hl
  refine lv_aload_n hx hb dX3_recall_0 rfl (lv_at hl 0 rfl) ?_
  refine lv_iconst (v := 0) hx hb dX3_recall_1 (by decide) ?_
  refine va_put (ci := 3) (v := .int 0) (ty := .int) (C := RX3) (T := TX3) (N := 12) hx hb hts (fun _ h => (List.mem_cons_of_mem _ (List.mem_append_right _ h))) tyX3 tyX3_ok nmX3 hown hK hP hD hS 0 rfl rfl 0 (by decide) (hts _ (List.mem_cons_of_mem _ (List.mem_append_left _ (List.mem_append_left _ (List.mem_of_getElem? (i := 0) rfl))))) (fun _ h9 => h9) rfl (by decide +kernel) rfl rfl (Nat.le_of_ble_eq_true rfl) dX3_recall_2 (fun H locs hP hD hS => ?_)
  have hP : va_P Dg vwCl (z_mW cI mo 0 G D K) H := hP
  have hD : va_D _ (z_mW cI mo 0 G D K) := hD
  refine lv_aload_n hx hb dX3_recall_5 rfl (lv_at hl 0 rfl) ?_
  refine lv_iload_n hx hb dX3_recall_6 rfl (lv_at hl 1 rfl) ?_
  refine z_rVi (v := 1) [] hx hb hml hown hts (m_X3_isBatch_t l Dg cI mo 0 G D K b_ (by omega) hG) gX3_recall_X3_isBatch rfl kd_X3_isBatch ⟨Nat.le_of_ble_eq_true rfl, Nat.le_of_ble_eq_true rfl⟩ hK hN hP rfl rfl rfl rfl hl.1 rfl (Nat.le_of_ble_eq_true rfl) dX3_recall_7 ⟨Nat.zero_le _, Nat.zero_le _⟩ ?_
  refine lv_if_ne (tgt := 19) hx hb dX3_recall_10 (by decide) (fun c10 => ?_) (fun c10 => absurd c10 (by decide))
  refine lv_aload_n hx hb dX3_recall_19 rfl (lv_at hl 0 rfl) ?_
  refine va_get (ci := 3) (v := .ref (mo 6)) (C := RX3) (T := TX3) (N := 12) hx hb hts (fun _ h => (List.mem_cons_of_mem _ (List.mem_append_right _ h))) hown hK hP 0 rfl rfl 10 (by decide) (hts _ (List.mem_cons_of_mem _ (List.mem_append_left _ (List.mem_append_left _ (List.mem_of_getElem? (i := 1) rfl))))) (fun _ h9 => h9) rfl dX3_recall_20 ?_
  refine lv_bipush (v := nI 7) hx hb dX3_recall_23 (by decide) ?_
  refine lv_iload_n hx hb dX3_recall_25 rfl (lv_at hl 1 rfl) ?_
  refine lv_iadd hx hb dX3_recall_26 ?_
  refine z_top (x' := nI (7 + b_)) (nI_add _ _) ?_
  refine z_iald hx hb hK hP 6 0 rfl rfl (by omega) (by decide) dX3_recall_27 ?_
  refine z_top (x' := z_bI (z_rc D b_)) (z_nw_rc _ (by omega)) ?_
  refine lv_iconst (v := 1) hx hb dX3_recall_28 (by decide) ?_
  refine lv_icmp_ne (tgt := 40) hx hb dX3_recall_29 (by decide) (fun c29 => absurd (by rw [hrc]; rfl) c29) (fun c29 => ?_)
  refine lv_aload_n hx hb dX3_recall_32 rfl (lv_at hl 0 rfl) ?_
  refine lv_iconst (v := 2) hx hb dX3_recall_33 (by decide) ?_
  refine z_wAi (v := 0) [] hx hb hml hown hts (m_X3_no l Dg cI mo 0 G D K 2) gX3_recall_X3_no rfl kd_X3_no ⟨Nat.le_of_ble_eq_true rfl, Nat.le_of_ble_eq_true rfl⟩ hK hN hP hD hS rfl rfl rfl rfl rfl hl.1 rfl (Nat.le_of_ble_eq_true rfl) dX3_recall_34 ⟨Nat.zero_le _, Nat.zero_le _⟩ (fun H locs hP hD hS => ?_)
  have hP : va_P Dg vwCl (z_mW cI mo 2 G D K) H := hP
  have hD : va_D _ (z_mW cI mo 2 G D K) := hD
  refine lv_goto (tgt := 45) hx hb dX3_recall_37 (by decide) ?_
  exact z_ew_i rfl hP hS hx hb hr hlk dX3_recall_45

set_option maxHeartbeats 4000000 in
set_option maxRecDepth 100000 in
theorem m_X3_recall (l : Launch) (Dg : va_G) (cI : ClassId) (mo : Nat → Nat) (th : Int32) (G : z_GG) (D : z_DD) (K : Nat → Int32) (b_ : Nat) (hbb : b_ < z_bc G) (hrc : z_rc D b_ = false) (hG : z_WG G) (hW : z_WD G D) : z_Mw l yX3_recall wsX3_recall 2 44 [.ref (mo 0), .int (nI b_)] Dg cI (z_mW cI mo th G D K) (some (.int (nI (z_rb G b_ D).1))) (z_mW cI mo 0 G ((z_rb G b_ D).2) K) := by
  have htc : z_tc G ≤ 60 := hG.2.2.2.2.2.1
  have hbc : z_bc G ≤ 6 := hG.2.2.2.2.1
  have hsd : z_sd G ≤ 9 := hG.2.2.2.2.2.2.1
  have hod : z_od G ≤ 2 := hG.2.2.2.2.2.2.2
  refine z_sw' (own := RX3) (l0 := [(0, .ref (mo 0)), (1, .int (nI b_))]) rfl rfl (by decide) (Nat.le_of_ble_eq_true rfl) rfl ?_
  intro p e s m below meth c hx hb hr hml hts hown hlk hP hK hN hD hS ls hl
  refine lv_aload_n hx hb dX3_recall_0 rfl (lv_at hl 0 rfl) ?_
  refine lv_iconst (v := 0) hx hb dX3_recall_1 (by decide) ?_
  refine va_put (ci := 3) (v := .int 0) (ty := .int) (C := RX3) (T := TX3) (N := 12) hx hb hts (fun _ h => (List.mem_cons_of_mem _ (List.mem_append_right _ h))) tyX3 tyX3_ok nmX3 hown hK hP hD hS 0 rfl rfl 0 (by decide) (hts _ (List.mem_cons_of_mem _ (List.mem_append_left _ (List.mem_append_left _ (List.mem_of_getElem? (i := 0) rfl))))) (fun _ h9 => h9) rfl (by decide +kernel) rfl rfl (Nat.le_of_ble_eq_true rfl) dX3_recall_2 (fun H locs hP hD hS => ?_)
  have hP : va_P Dg vwCl (z_mW cI mo 0 G D K) H := hP
  have hD : va_D _ (z_mW cI mo 0 G D K) := hD
  refine lv_aload_n hx hb dX3_recall_5 rfl (lv_at hl 0 rfl) ?_
  refine lv_iload_n hx hb dX3_recall_6 rfl (lv_at hl 1 rfl) ?_
  refine z_rVi (v := 1) [] hx hb hml hown hts (m_X3_isBatch_t l Dg cI mo 0 G D K b_ (by omega) hG) gX3_recall_X3_isBatch rfl kd_X3_isBatch ⟨Nat.le_of_ble_eq_true rfl, Nat.le_of_ble_eq_true rfl⟩ hK hN hP rfl rfl rfl rfl hl.1 rfl (Nat.le_of_ble_eq_true rfl) dX3_recall_7 ⟨Nat.zero_le _, Nat.zero_le _⟩ ?_
  refine lv_if_ne (tgt := 19) hx hb dX3_recall_10 (by decide) (fun c10 => ?_) (fun c10 => absurd c10 (by decide))
  refine lv_aload_n hx hb dX3_recall_19 rfl (lv_at hl 0 rfl) ?_
  refine va_get (ci := 3) (v := .ref (mo 6)) (C := RX3) (T := TX3) (N := 12) hx hb hts (fun _ h => (List.mem_cons_of_mem _ (List.mem_append_right _ h))) hown hK hP 0 rfl rfl 10 (by decide) (hts _ (List.mem_cons_of_mem _ (List.mem_append_left _ (List.mem_append_left _ (List.mem_of_getElem? (i := 1) rfl))))) (fun _ h9 => h9) rfl dX3_recall_20 ?_
  refine lv_bipush (v := nI 7) hx hb dX3_recall_23 (by decide) ?_
  refine lv_iload_n hx hb dX3_recall_25 rfl (lv_at hl 1 rfl) ?_
  refine lv_iadd hx hb dX3_recall_26 ?_
  refine z_top (x' := nI (7 + b_)) (nI_add _ _) ?_
  refine z_iald hx hb hK hP 6 0 rfl rfl (by omega) (by decide) dX3_recall_27 ?_
  refine z_top (x' := z_bI (z_rc D b_)) (z_nw_rc _ (by omega)) ?_
  refine lv_iconst (v := 1) hx hb dX3_recall_28 (by decide) ?_
  refine lv_icmp_ne (tgt := 40) hx hb dX3_recall_29 (by decide) (fun c29 => ?_) (fun c29 => absurd c29 (by rw [hrc]; decide))
  refine lv_aload_n hx hb dX3_recall_40 rfl (lv_at hl 0 rfl) ?_
  refine lv_iload_n hx hb dX3_recall_41 rfl (lv_at hl 1 rfl) ?_
  refine z_wAi (v := nI (z_rb G b_ D).1) [] hx hb hml hown hts (m_X3_takeBack l Dg cI mo 0 G D K b_ (by omega) hG hW) gX3_recall_X3_takeBack rfl kd_X3_takeBack ⟨Nat.le_of_ble_eq_true rfl, Nat.le_of_ble_eq_true rfl⟩ hK hN hP hD hS rfl rfl rfl rfl rfl hl.1 rfl (Nat.le_of_ble_eq_true rfl) dX3_recall_42 ⟨Nat.zero_le _, Nat.zero_le _⟩ (fun H locs hP hD hS => ?_)
  have hP : va_P Dg vwCl (z_mW cI mo 0 G ((z_rb G b_ D).2) K) H := hP
  have hD : va_D _ (z_mW cI mo 0 G ((z_rb G b_ D).2) K) := hD
  exact z_ew_i rfl hP hS hx hb hr hlk dX3_recall_45

set_option maxHeartbeats 4000000 in
set_option maxRecDepth 100000 in
theorem m_X3_pass_x1 (l : Launch) (Dg : va_G) (cI : ClassId) (mo : Nat → Nat) (th : Int32) (G : z_GG) (D : z_DD) (K : Nat → Int32) (x_ : Int32) (e1 : ¬ (1 ≤ x_ ∧ x_ ≤ 60)) (hG : z_WG G) (hW : z_WD G D) : z_Mw l yX3_pass wsX3_pass 4 89 [.ref (mo 0), .int x_] Dg cI (z_mW cI mo th G D K) (some (.int 0)) (z_mW cI mo 1 G D K) := by
  have htc : z_tc G ≤ 60 := hG.2.2.2.2.2.1
  have hbc : z_bc G ≤ 6 := hG.2.2.2.2.1
  refine z_sw' (own := RX3) (l0 := [(0, .ref (mo 0)), (1, .int x_)]) rfl rfl (by decide) (Nat.le_of_ble_eq_true rfl) rfl ?_
  intro p e s m below meth c hx hb hr hml hts hown hlk hP hK hN hD hS ls hl
  refine lv_aload_n hx hb dX3_pass_0 rfl (lv_at hl 0 rfl) ?_
  refine lv_iconst (v := 0) hx hb dX3_pass_1 (by decide) ?_
  refine va_put (ci := 3) (v := .int 0) (ty := .int) (C := RX3) (T := TX3) (N := 12) hx hb hts (fun _ h => (List.mem_cons_of_mem _ (List.mem_append_right _ h))) tyX3 tyX3_ok nmX3 hown hK hP hD hS 0 rfl rfl 0 (by decide) (hts _ (List.mem_cons_of_mem _ (List.mem_append_left _ (List.mem_append_left _ (List.mem_of_getElem? (i := 0) rfl))))) (fun _ h9 => h9) rfl (by decide +kernel) rfl rfl (Nat.le_of_ble_eq_true rfl) dX3_pass_2 (fun H locs hP hD hS => ?_)
  have hP : va_P Dg vwCl (z_mW cI mo 0 G D K) H := hP
  have hD : va_D _ (z_mW cI mo 0 G D K) := hD
  refine lv_iload_n hx hb dX3_pass_5 rfl (lv_at hl 1 rfl) ?_
  refine lv_iconst (v := 1) hx hb dX3_pass_6 (by decide) ?_
  refine lv_bipush (v := 60) hx hb dX3_pass_7 (by decide) ?_
  refine z_rSi (v := 0) [] hx hb hml hown hts (m_X3_isIn_f l Dg cI x_ 1 60 e1) gX3_pass_X3_isIn rfl kdS_X3_isIn ⟨Nat.le_of_ble_eq_true rfl, Nat.le_of_ble_eq_true rfl⟩ hK hN z_P0 rfl hl.1 rfl (Nat.le_of_ble_eq_true rfl) dX3_pass_9 ⟨Nat.zero_le _, Nat.zero_le _⟩ ?_
  refine lv_if_ne (tgt := 21) hx hb dX3_pass_12 (by decide) (fun c12 => absurd rfl c12) (fun c12 => ?_)
  refine lv_aload_n hx hb dX3_pass_15 rfl (lv_at hl 0 rfl) ?_
  refine lv_iconst (v := 1) hx hb dX3_pass_16 (by decide) ?_
  refine z_wAi (v := 0) [] hx hb hml hown hts (m_X3_no l Dg cI mo 0 G D K 1) gX3_pass_X3_no rfl kd_X3_no ⟨Nat.le_of_ble_eq_true rfl, Nat.le_of_ble_eq_true rfl⟩ hK hN hP hD hS rfl rfl rfl rfl rfl hl.1 rfl (Nat.le_of_ble_eq_true rfl) dX3_pass_17 ⟨Nat.zero_le _, Nat.zero_le _⟩ (fun H locs hP hD hS => ?_)
  have hP : va_P Dg vwCl (z_mW cI mo 1 G D K) H := hP
  have hD : va_D _ (z_mW cI mo 1 G D K) := hD
  exact z_ew_i rfl hP hS hx hb hr hlk dX3_pass_20

set_option maxHeartbeats 4000000 in
set_option maxRecDepth 100000 in
theorem m_X3_pass (l : Launch) (Dg : va_G) (cI : ClassId) (mo : Nat → Nat) (th : Int32) (G : z_GG) (D : z_DD) (K : Nat → Int32) (k_ : Nat) (hk1 : 1 ≤ k_) (hk2 : k_ ≤ 60) (hG : z_WG G) (hW : z_WD G D) : z_Mw l yX3_pass wsX3_pass 4 89 [.ref (mo 0), .int (nI k_)] Dg cI (z_mW cI mo th G D K) (some (.int (nI (z_cn G (z_days G D k_) 2) - nI (z_cn G D 2)))) (z_mW cI mo 0 G (z_days G D k_) K) := by
  have htc : z_tc G ≤ 60 := hG.2.2.2.2.2.1
  have hbc : z_bc G ≤ 6 := hG.2.2.2.2.1
  have hsd : z_sd G ≤ 9 := hG.2.2.2.2.2.2.1
  have hod : z_od G ≤ 2 := hG.2.2.2.2.2.2.2
  have hWi := z_WD_days hW k_
  refine z_sw' (own := RX3) (l0 := [(0, .ref (mo 0)), (1, .int (nI k_))]) rfl rfl (by decide) (Nat.le_of_ble_eq_true rfl) rfl ?_
  intro p e s m below meth c hx hb hr hml hts hown hlk hP hK hN hD hS ls hl
  refine lv_aload_n hx hb dX3_pass_0 rfl (lv_at hl 0 rfl) ?_
  refine lv_iconst (v := 0) hx hb dX3_pass_1 (by decide) ?_
  refine va_put (ci := 3) (v := .int 0) (ty := .int) (C := RX3) (T := TX3) (N := 12) hx hb hts (fun _ h => (List.mem_cons_of_mem _ (List.mem_append_right _ h))) tyX3 tyX3_ok nmX3 hown hK hP hD hS 0 rfl rfl 0 (by decide) (hts _ (List.mem_cons_of_mem _ (List.mem_append_left _ (List.mem_append_left _ (List.mem_of_getElem? (i := 0) rfl))))) (fun _ h9 => h9) rfl (by decide +kernel) rfl rfl (Nat.le_of_ble_eq_true rfl) dX3_pass_2 (fun H locs hP hD hS => ?_)
  have hP : va_P Dg vwCl (z_mW cI mo 0 G D K) H := hP
  have hD : va_D _ (z_mW cI mo 0 G D K) := hD
  refine lv_iload_n hx hb dX3_pass_5 rfl (lv_at hl 1 rfl) ?_
  refine lv_iconst (v := nI 1) hx hb dX3_pass_6 (by decide) ?_
  refine lv_bipush (v := nI 60) hx hb dX3_pass_7 (by decide) ?_
  refine z_rSi (v := 1) [] hx hb hml hown hts (m_X3_isIn_t l Dg cI (nI k_) (nI 1) (nI 60) (nI_le hk1 (by omega)) (nI_le hk2 (by decide))) gX3_pass_X3_isIn rfl kdS_X3_isIn ⟨Nat.le_of_ble_eq_true rfl, Nat.le_of_ble_eq_true rfl⟩ hK hN z_P0 rfl hl.1 rfl (Nat.le_of_ble_eq_true rfl) dX3_pass_9 ⟨Nat.zero_le _, Nat.zero_le _⟩ ?_
  refine lv_if_ne (tgt := 21) hx hb dX3_pass_12 (by decide) (fun c12 => ?_) (fun c12 => absurd c12 (by decide))
  refine lv_aload_n hx hb dX3_pass_21 rfl (lv_at hl 0 rfl) ?_
  refine lv_iconst (v := nI 1) hx hb dX3_pass_22 (by decide) ?_
  refine z_rVi (v := nI (z_cn G D 2)) [] hx hb hml hown hts (m_X3_count l Dg cI mo 0 G D K 1 (by decide) hG hW) gX3_pass_X3_count rfl kd_X3_count ⟨Nat.le_of_ble_eq_true rfl, Nat.le_of_ble_eq_true rfl⟩ hK hN hP rfl rfl rfl rfl hl.1 rfl (Nat.le_of_ble_eq_true rfl) dX3_pass_23 ⟨Nat.zero_le _, Nat.zero_le _⟩ ?_
  refine lv_istore_n (lv' := [(2, .int (nI (z_cn G D 2))), (0, .ref (mo 0)), (1, .int (nI k_))]) hx hb dX3_pass_26 rfl hl (by decide) rfl (fun ls hl => ?_)
  refine lv_aload_n hx hb dX3_pass_27 rfl (lv_at hl 1 rfl) ?_
  refine lv_iload_n hx hb dX3_pass_28 rfl (lv_at hl 2 rfl) ?_
  refine z_wAv [] hx hb hml hown hts (m_X3_daysOn l Dg cI mo 0 G D K k_ (by omega) hG hW) gX3_pass_X3_daysOn rfl kd_X3_daysOn ⟨Nat.le_of_ble_eq_true rfl, Nat.le_of_ble_eq_true rfl⟩ hK hN hP hD hS rfl rfl rfl rfl rfl hl.1 rfl (Nat.le_of_ble_eq_true rfl) dX3_pass_29 ⟨Nat.zero_le _, Nat.zero_le _⟩ (fun H locs hP hD hS => ?_)
  have hP : va_P Dg vwCl (z_mW cI mo 0 G (z_days G D k_) K) H := hP
  have hD : va_D _ (z_mW cI mo 0 G (z_days G D k_) K) := hD
  refine lv_aload_n hx hb dX3_pass_32 rfl (lv_at hl 1 rfl) ?_
  refine lv_iconst (v := nI 1) hx hb dX3_pass_33 (by decide) ?_
  refine z_rVi (v := nI (z_cn G (z_days G D k_) 2)) [] hx hb hml hown hts (m_X3_count l Dg cI mo 0 G (z_days G D k_) K 1 (by decide) hG hWi) gX3_pass_X3_count rfl kd_X3_count ⟨Nat.le_of_ble_eq_true rfl, Nat.le_of_ble_eq_true rfl⟩ hK hN hP rfl rfl rfl rfl hl.1 rfl (Nat.le_of_ble_eq_true rfl) dX3_pass_34 ⟨Nat.zero_le _, Nat.zero_le _⟩ ?_
  refine lv_iload_n hx hb dX3_pass_37 rfl (lv_at hl 0 rfl) ?_
  refine lv_isub hx hb dX3_pass_38 ?_
  exact z_ew_i rfl hP hS hx hb hr hlk dX3_pass_39

set_option maxHeartbeats 4000000 in
set_option maxRecDepth 100000 in
theorem m_X3_day (l : Launch) (Dg : va_G) (cI : ClassId) (mo : Nat → Nat) (th : Int32) (G : z_GG) (D : z_DD) (K : Nat → Int32) (hG : z_WG G) (hW : z_WD G D) : z_Mw l yX3_day wsX3_day 1 21 [.ref (mo 0)] Dg cI (z_mW cI mo th G D K) (some (.int (z_dy D))) (z_mW cI mo 0 G D K) := by
  have htc : z_tc G ≤ 60 := hG.2.2.2.2.2.1
  have hbc : z_bc G ≤ 6 := hG.2.2.2.2.1
  have hsd : z_sd G ≤ 9 := hG.2.2.2.2.2.2.1
  have hod : z_od G ≤ 2 := hG.2.2.2.2.2.2.2
  refine z_sw' (own := RX3) (l0 := [(0, .ref (mo 0))]) rfl rfl (by decide) (Nat.le_of_ble_eq_true rfl) rfl ?_
  intro p e s m below meth c hx hb hr hml hts hown hlk hP hK hN hD hS ls hl
  refine lv_aload_n hx hb dX3_day_0 rfl (lv_at hl 0 rfl) ?_
  refine lv_aload_n hx hb dX3_day_1 rfl (lv_at hl 0 rfl) ?_
  refine va_get (ci := 3) (v := .ref (mo 6)) (C := RX3) (T := TX3) (N := 12) hx hb hts (fun _ h => (List.mem_cons_of_mem _ (List.mem_append_right _ h))) hown hK hP 0 rfl rfl 10 (by decide) (hts _ (List.mem_cons_of_mem _ (List.mem_append_left _ (List.mem_of_getElem? (i := 0) rfl)))) (fun _ h9 => h9) rfl dX3_day_2 ?_
  refine lv_iconst (v := nI 0) hx hb dX3_day_5 (by decide) ?_
  refine z_iald hx hb hK hP 6 0 rfl rfl (by omega) (by decide) dX3_day_6 ?_
  refine z_top (x' := z_dy D) (z_nw_dy _) ?_
  refine z_wAi (v := z_dy D) [] hx hb hml hown hts (m_X3_ok l Dg cI mo th G D K (z_dy D)) gX3_day_X3_ok rfl kd_X3_ok ⟨Nat.le_of_ble_eq_true rfl, Nat.le_of_ble_eq_true rfl⟩ hK hN hP hD hS rfl rfl rfl rfl rfl hl.1 rfl (Nat.le_of_ble_eq_true rfl) dX3_day_7 ⟨Nat.zero_le _, Nat.zero_le _⟩ (fun H locs hP hD hS => ?_)
  have hP : va_P Dg vwCl (z_mW cI mo 0 G D K) H := hP
  have hD : va_D _ (z_mW cI mo 0 G D K) := hD
  exact z_ew_i rfl hP hS hx hb hr hlk dX3_day_10

set_option maxHeartbeats 4000000 in
set_option maxRecDepth 100000 in
theorem m_X3_batches (l : Launch) (Dg : va_G) (cI : ClassId) (mo : Nat → Nat) (th : Int32) (G : z_GG) (D : z_DD) (K : Nat → Int32) (hG : z_WG G) (hW : z_WD G D) : z_Mw l yX3_batches wsX3_batches 1 21 [.ref (mo 0)] Dg cI (z_mW cI mo th G D K) (some (.int (nI (z_bc G)))) (z_mW cI mo 0 G D K) := by
  have htc : z_tc G ≤ 60 := hG.2.2.2.2.2.1
  have hbc : z_bc G ≤ 6 := hG.2.2.2.2.1
  have hsd : z_sd G ≤ 9 := hG.2.2.2.2.2.2.1
  have hod : z_od G ≤ 2 := hG.2.2.2.2.2.2.2
  refine z_sw' (own := RX3) (l0 := [(0, .ref (mo 0))]) rfl rfl (by decide) (Nat.le_of_ble_eq_true rfl) rfl ?_
  intro p e s m below meth c hx hb hr hml hts hown hlk hP hK hN hD hS ls hl
  refine lv_aload_n hx hb dX3_batches_0 rfl (lv_at hl 0 rfl) ?_
  refine lv_aload_n hx hb dX3_batches_1 rfl (lv_at hl 0 rfl) ?_
  refine va_get (ci := 3) (v := .int (nI (z_bc G))) (C := RX3) (T := TX3) (N := 12) hx hb hts (fun _ h => (List.mem_cons_of_mem _ (List.mem_append_right _ h))) hown hK hP 0 rfl rfl 1 (by decide) (hts _ (List.mem_cons_of_mem _ (List.mem_append_left _ (List.mem_of_getElem? (i := 0) rfl)))) (fun _ h9 => h9) rfl dX3_batches_2 ?_
  refine z_wAi (v := nI (z_bc G)) [] hx hb hml hown hts (m_X3_ok l Dg cI mo th G D K (nI (z_bc G))) gX3_batches_X3_ok rfl kd_X3_ok ⟨Nat.le_of_ble_eq_true rfl, Nat.le_of_ble_eq_true rfl⟩ hK hN hP hD hS rfl rfl rfl rfl rfl hl.1 rfl (Nat.le_of_ble_eq_true rfl) dX3_batches_5 ⟨Nat.zero_le _, Nat.zero_le _⟩ (fun H locs hP hD hS => ?_)
  have hP : va_P Dg vwCl (z_mW cI mo 0 G D K) H := hP
  have hD : va_D _ (z_mW cI mo 0 G D K) := hD
  exact z_ew_i rfl hP hS hx hb hr hlk dX3_batches_8

set_option maxHeartbeats 4000000 in
set_option maxRecDepth 100000 in
theorem m_X3_tins (l : Launch) (Dg : va_G) (cI : ClassId) (mo : Nat → Nat) (th : Int32) (G : z_GG) (D : z_DD) (K : Nat → Int32) (hG : z_WG G) (hW : z_WD G D) : z_Mw l yX3_tins wsX3_tins 1 21 [.ref (mo 0)] Dg cI (z_mW cI mo th G D K) (some (.int (nI (z_tc G)))) (z_mW cI mo 0 G D K) := by
  have htc : z_tc G ≤ 60 := hG.2.2.2.2.2.1
  have hbc : z_bc G ≤ 6 := hG.2.2.2.2.1
  have hsd : z_sd G ≤ 9 := hG.2.2.2.2.2.2.1
  have hod : z_od G ≤ 2 := hG.2.2.2.2.2.2.2
  refine z_sw' (own := RX3) (l0 := [(0, .ref (mo 0))]) rfl rfl (by decide) (Nat.le_of_ble_eq_true rfl) rfl ?_
  intro p e s m below meth c hx hb hr hml hts hown hlk hP hK hN hD hS ls hl
  refine lv_aload_n hx hb dX3_tins_0 rfl (lv_at hl 0 rfl) ?_
  refine lv_aload_n hx hb dX3_tins_1 rfl (lv_at hl 0 rfl) ?_
  refine va_get (ci := 3) (v := .int (nI (z_tc G))) (C := RX3) (T := TX3) (N := 12) hx hb hts (fun _ h => (List.mem_cons_of_mem _ (List.mem_append_right _ h))) hown hK hP 0 rfl rfl 2 (by decide) (hts _ (List.mem_cons_of_mem _ (List.mem_append_left _ (List.mem_of_getElem? (i := 0) rfl)))) (fun _ h9 => h9) rfl dX3_tins_2 ?_
  refine z_wAi (v := nI (z_tc G)) [] hx hb hml hown hts (m_X3_ok l Dg cI mo th G D K (nI (z_tc G))) gX3_tins_X3_ok rfl kd_X3_ok ⟨Nat.le_of_ble_eq_true rfl, Nat.le_of_ble_eq_true rfl⟩ hK hN hP hD hS rfl rfl rfl rfl rfl hl.1 rfl (Nat.le_of_ble_eq_true rfl) dX3_tins_5 ⟨Nat.zero_le _, Nat.zero_le _⟩ (fun H locs hP hD hS => ?_)
  have hP : va_P Dg vwCl (z_mW cI mo 0 G D K) H := hP
  have hD : va_D _ (z_mW cI mo 0 G D K) := hD
  exact z_ew_i rfl hP hS hx hb hr hlk dX3_tins_8

set_option maxHeartbeats 4000000 in
set_option maxRecDepth 100000 in
theorem m_X3_inCellar (l : Launch) (Dg : va_G) (cI : ClassId) (mo : Nat → Nat) (th : Int32) (G : z_GG) (D : z_DD) (K : Nat → Int32) (hG : z_WG G) (hW : z_WD G D) : z_Mw l yX3_inCellar wsX3_inCellar 1 23 [.ref (mo 0)] Dg cI (z_mW cI mo th G D K) (some (.int (nI (z_cn G D 1)))) (z_mW cI mo 0 G D K) := by
  have htc : z_tc G ≤ 60 := hG.2.2.2.2.2.1
  have hbc : z_bc G ≤ 6 := hG.2.2.2.2.1
  have hsd : z_sd G ≤ 9 := hG.2.2.2.2.2.2.1
  have hod : z_od G ≤ 2 := hG.2.2.2.2.2.2.2
  refine z_sw' (own := RX3) (l0 := [(0, .ref (mo 0))]) rfl rfl (by decide) (Nat.le_of_ble_eq_true rfl) rfl ?_
  intro p e s m below meth c hx hb hr hml hts hown hlk hP hK hN hD hS ls hl
  refine lv_aload_n hx hb dX3_inCellar_0 rfl (lv_at hl 0 rfl) ?_
  refine lv_aload_n hx hb dX3_inCellar_1 rfl (lv_at hl 0 rfl) ?_
  refine lv_iconst (v := nI 0) hx hb dX3_inCellar_2 (by decide) ?_
  refine z_rVi (v := nI (z_cn G D 1)) [.ref (mo 0)] hx hb hml hown hts (m_X3_count l Dg cI mo th G D K 0 (by decide) hG hW) gX3_inCellar_X3_count rfl kd_X3_count ⟨Nat.le_of_ble_eq_true rfl, Nat.le_of_ble_eq_true rfl⟩ hK hN hP rfl rfl rfl rfl hl.1 rfl (Nat.le_of_ble_eq_true rfl) dX3_inCellar_3 ⟨Nat.zero_le _, Nat.zero_le _⟩ ?_
  refine z_wAi (v := nI (z_cn G D 1)) [] hx hb hml hown hts (m_X3_ok l Dg cI mo th G D K (nI (z_cn G D 1))) gX3_inCellar_X3_ok rfl kd_X3_ok ⟨Nat.le_of_ble_eq_true rfl, Nat.le_of_ble_eq_true rfl⟩ hK hN hP hD hS rfl rfl rfl rfl rfl hl.1 rfl (Nat.le_of_ble_eq_true rfl) dX3_inCellar_6 ⟨Nat.zero_le _, Nat.zero_le _⟩ (fun H locs hP hD hS => ?_)
  have hP : va_P Dg vwCl (z_mW cI mo 0 G D K) H := hP
  have hD : va_D _ (z_mW cI mo 0 G D K) := hD
  exact z_ew_i rfl hP hS hx hb hr hlk dX3_inCellar_9

set_option maxHeartbeats 4000000 in
set_option maxRecDepth 100000 in
theorem m_X3_shipped (l : Launch) (Dg : va_G) (cI : ClassId) (mo : Nat → Nat) (th : Int32) (G : z_GG) (D : z_DD) (K : Nat → Int32) (hG : z_WG G) (hW : z_WD G D) : z_Mw l yX3_shipped wsX3_shipped 1 23 [.ref (mo 0)] Dg cI (z_mW cI mo th G D K) (some (.int (nI (z_cn G D 2)))) (z_mW cI mo 0 G D K) := by
  have htc : z_tc G ≤ 60 := hG.2.2.2.2.2.1
  have hbc : z_bc G ≤ 6 := hG.2.2.2.2.1
  have hsd : z_sd G ≤ 9 := hG.2.2.2.2.2.2.1
  have hod : z_od G ≤ 2 := hG.2.2.2.2.2.2.2
  refine z_sw' (own := RX3) (l0 := [(0, .ref (mo 0))]) rfl rfl (by decide) (Nat.le_of_ble_eq_true rfl) rfl ?_
  intro p e s m below meth c hx hb hr hml hts hown hlk hP hK hN hD hS ls hl
  refine lv_aload_n hx hb dX3_shipped_0 rfl (lv_at hl 0 rfl) ?_
  refine lv_aload_n hx hb dX3_shipped_1 rfl (lv_at hl 0 rfl) ?_
  refine lv_iconst (v := nI 1) hx hb dX3_shipped_2 (by decide) ?_
  refine z_rVi (v := nI (z_cn G D 2)) [.ref (mo 0)] hx hb hml hown hts (m_X3_count l Dg cI mo th G D K 1 (by decide) hG hW) gX3_shipped_X3_count rfl kd_X3_count ⟨Nat.le_of_ble_eq_true rfl, Nat.le_of_ble_eq_true rfl⟩ hK hN hP rfl rfl rfl rfl hl.1 rfl (Nat.le_of_ble_eq_true rfl) dX3_shipped_3 ⟨Nat.zero_le _, Nat.zero_le _⟩ ?_
  refine z_wAi (v := nI (z_cn G D 2)) [] hx hb hml hown hts (m_X3_ok l Dg cI mo th G D K (nI (z_cn G D 2))) gX3_shipped_X3_ok rfl kd_X3_ok ⟨Nat.le_of_ble_eq_true rfl, Nat.le_of_ble_eq_true rfl⟩ hK hN hP hD hS rfl rfl rfl rfl rfl hl.1 rfl (Nat.le_of_ble_eq_true rfl) dX3_shipped_6 ⟨Nat.zero_le _, Nat.zero_le _⟩ (fun H locs hP hD hS => ?_)
  have hP : va_P Dg vwCl (z_mW cI mo 0 G D K) H := hP
  have hD : va_D _ (z_mW cI mo 0 G D K) := hD
  exact z_ew_i rfl hP hS hx hb hr hlk dX3_shipped_9

set_option maxHeartbeats 4000000 in
set_option maxRecDepth 100000 in
theorem m_X3_lost (l : Launch) (Dg : va_G) (cI : ClassId) (mo : Nat → Nat) (th : Int32) (G : z_GG) (D : z_DD) (K : Nat → Int32) (hG : z_WG G) (hW : z_WD G D) : z_Mw l yX3_lost wsX3_lost 1 23 [.ref (mo 0)] Dg cI (z_mW cI mo th G D K) (some (.int (nI (z_cn G D 3)))) (z_mW cI mo 0 G D K) := by
  have htc : z_tc G ≤ 60 := hG.2.2.2.2.2.1
  have hbc : z_bc G ≤ 6 := hG.2.2.2.2.1
  have hsd : z_sd G ≤ 9 := hG.2.2.2.2.2.2.1
  have hod : z_od G ≤ 2 := hG.2.2.2.2.2.2.2
  refine z_sw' (own := RX3) (l0 := [(0, .ref (mo 0))]) rfl rfl (by decide) (Nat.le_of_ble_eq_true rfl) rfl ?_
  intro p e s m below meth c hx hb hr hml hts hown hlk hP hK hN hD hS ls hl
  refine lv_aload_n hx hb dX3_lost_0 rfl (lv_at hl 0 rfl) ?_
  refine lv_aload_n hx hb dX3_lost_1 rfl (lv_at hl 0 rfl) ?_
  refine lv_iconst (v := nI 2) hx hb dX3_lost_2 (by decide) ?_
  refine z_rVi (v := nI (z_cn G D 3)) [.ref (mo 0)] hx hb hml hown hts (m_X3_count l Dg cI mo th G D K 2 (by decide) hG hW) gX3_lost_X3_count rfl kd_X3_count ⟨Nat.le_of_ble_eq_true rfl, Nat.le_of_ble_eq_true rfl⟩ hK hN hP rfl rfl rfl rfl hl.1 rfl (Nat.le_of_ble_eq_true rfl) dX3_lost_3 ⟨Nat.zero_le _, Nat.zero_le _⟩ ?_
  refine z_wAi (v := nI (z_cn G D 3)) [] hx hb hml hown hts (m_X3_ok l Dg cI mo th G D K (nI (z_cn G D 3))) gX3_lost_X3_ok rfl kd_X3_ok ⟨Nat.le_of_ble_eq_true rfl, Nat.le_of_ble_eq_true rfl⟩ hK hN hP hD hS rfl rfl rfl rfl rfl hl.1 rfl (Nat.le_of_ble_eq_true rfl) dX3_lost_6 ⟨Nat.zero_le _, Nat.zero_le _⟩ (fun H locs hP hD hS => ?_)
  have hP : va_P Dg vwCl (z_mW cI mo 0 G D K) H := hP
  have hD : va_D _ (z_mW cI mo 0 G D K) := hD
  exact z_ew_i rfl hP hS hx hb hr hlk dX3_lost_9

set_option maxHeartbeats 4000000 in
set_option maxRecDepth 100000 in
theorem m_X3_swelled (l : Launch) (Dg : va_G) (cI : ClassId) (mo : Nat → Nat) (th : Int32) (G : z_GG) (D : z_DD) (K : Nat → Int32) (hG : z_WG G) (hW : z_WD G D) : z_Mw l yX3_swelled wsX3_swelled 1 22 [.ref (mo 0)] Dg cI (z_mW cI mo th G D K) (some (.int (z_sum (z_sw D) (z_bc G)))) (z_mW cI mo 0 G D K) := by
  have htc : z_tc G ≤ 60 := hG.2.2.2.2.2.1
  have hbc : z_bc G ≤ 6 := hG.2.2.2.2.1
  have hsd : z_sd G ≤ 9 := hG.2.2.2.2.2.2.1
  have hod : z_od G ≤ 2 := hG.2.2.2.2.2.2.2
  refine z_sw' (own := RX3) (l0 := [(0, .ref (mo 0))]) rfl rfl (by decide) (Nat.le_of_ble_eq_true rfl) rfl ?_
  intro p e s m below meth c hx hb hr hml hts hown hlk hP hK hN hD hS ls hl
  refine lv_aload_n hx hb dX3_swelled_0 rfl (lv_at hl 0 rfl) ?_
  refine lv_aload_n hx hb dX3_swelled_1 rfl (lv_at hl 0 rfl) ?_
  refine z_rVi (v := z_sum (z_sw D) (z_bc G)) [.ref (mo 0)] hx hb hml hown hts (m_X3_allSwelled l Dg cI mo th G D K hG) gX3_swelled_X3_allSwelled rfl kd_X3_allSwelled ⟨Nat.le_of_ble_eq_true rfl, Nat.le_of_ble_eq_true rfl⟩ hK hN hP rfl rfl rfl rfl hl.1 rfl (Nat.le_of_ble_eq_true rfl) dX3_swelled_2 ⟨Nat.zero_le _, Nat.zero_le _⟩ ?_
  refine z_wAi (v := z_sum (z_sw D) (z_bc G)) [] hx hb hml hown hts (m_X3_ok l Dg cI mo th G D K (z_sum (z_sw D) (z_bc G))) gX3_swelled_X3_ok rfl kd_X3_ok ⟨Nat.le_of_ble_eq_true rfl, Nat.le_of_ble_eq_true rfl⟩ hK hN hP hD hS rfl rfl rfl rfl rfl hl.1 rfl (Nat.le_of_ble_eq_true rfl) dX3_swelled_5 ⟨Nat.zero_le _, Nat.zero_le _⟩ (fun H locs hP hD hS => ?_)
  have hP : va_P Dg vwCl (z_mW cI mo 0 G D K) H := hP
  have hD : va_D _ (z_mW cI mo 0 G D K) := hD
  exact z_ew_i rfl hP hS hx hb hr hlk dX3_swelled_8

set_option maxHeartbeats 4000000 in
set_option maxRecDepth 100000 in
theorem m_X3_bestOrder (l : Launch) (Dg : va_G) (cI : ClassId) (mo : Nat → Nat) (th : Int32) (G : z_GG) (D : z_DD) (K : Nat → Int32) (hG : z_WG G) (hW : z_WD G D) : z_Mw l yX3_bestOrder wsX3_bestOrder 6 139 [.ref (mo 0)] Dg cI (z_mW cI mo th G D K) (some (.int (nI (z_bo G D)))) (z_mW cI mo 0 G D (z_nw D)) := by
  have htc : z_tc G ≤ 60 := hG.2.2.2.2.2.1
  have hbc : z_bc G ≤ 6 := hG.2.2.2.2.1
  have hsd : z_sd G ≤ 9 := hG.2.2.2.2.2.2.1
  have hod : z_od G ≤ 2 := hG.2.2.2.2.2.2.2
  refine z_sw' (own := RX3) (l0 := [(0, .ref (mo 0))]) rfl rfl (by decide) (Nat.le_of_ble_eq_true rfl) rfl ?_
  intro p e s m below meth c hx hb hr hml hts hown hlk hP hK hN hD hS ls hl
  refine lv_aload_n hx hb dX3_bestOrder_0 rfl (lv_at hl 0 rfl) ?_
  refine lv_aload_n hx hb dX3_bestOrder_1 rfl (lv_at hl 0 rfl) ?_
  refine z_wAi (v := nI (z_bo G D)) [.ref (mo 0)] hx hb hml hown hts (m_X3_best l Dg cI mo th G D K hG hW) gX3_bestOrder_X3_best rfl kd_X3_best ⟨Nat.le_of_ble_eq_true rfl, Nat.le_of_ble_eq_true rfl⟩ hK hN hP hD hS rfl rfl rfl rfl rfl hl.1 rfl (Nat.le_of_ble_eq_true rfl) dX3_bestOrder_2 ⟨Nat.zero_le _, Nat.zero_le _⟩ (fun H locs hP hD hS => ?_)
  have hP : va_P Dg vwCl (z_mW cI mo th G D (z_nw D)) H := hP
  have hD : va_D _ (z_mW cI mo th G D (z_nw D)) := hD
  refine z_wAi (v := nI (z_bo G D)) [] hx hb hml hown hts (m_X3_ok l Dg cI mo th G D (z_nw D) (nI (z_bo G D))) gX3_bestOrder_X3_ok rfl kd_X3_ok ⟨Nat.le_of_ble_eq_true rfl, Nat.le_of_ble_eq_true rfl⟩ hK hN hP hD hS rfl rfl rfl rfl rfl hl.1 rfl (Nat.le_of_ble_eq_true rfl) dX3_bestOrder_5 ⟨Nat.zero_le _, Nat.zero_le _⟩ (fun H locs hP hD hS => ?_)
  have hP : va_P Dg vwCl (z_mW cI mo 0 G D (z_nw D)) H := hP
  have hD : va_D _ (z_mW cI mo 0 G D (z_nw D)) := hD
  exact z_ew_i rfl hP hS hx hb hr hlk dX3_bestOrder_8

set_option maxHeartbeats 4000000 in
set_option maxRecDepth 100000 in
theorem m_X3_shippingWanted (l : Launch) (Dg : va_G) (cI : ClassId) (mo : Nat → Nat) (th : Int32) (G : z_GG) (D : z_DD) (K : Nat → Int32) (hG : z_WG G) (hW : z_WD G D) : z_Mw l yX3_shippingWanted wsX3_shippingWanted 6 136 [.ref (mo 0)] Dg cI (z_mW cI mo th G D K) (some (.int (z_wt G D))) (z_mW cI mo 0 G D (z_nw D)) := by
  have htc : z_tc G ≤ 60 := hG.2.2.2.2.2.1
  have hbc : z_bc G ≤ 6 := hG.2.2.2.2.1
  have hsd : z_sd G ≤ 9 := hG.2.2.2.2.2.2.1
  have hod : z_od G ≤ 2 := hG.2.2.2.2.2.2.2
  refine z_sw' (own := RX3) (l0 := [(0, .ref (mo 0))]) rfl rfl (by decide) (Nat.le_of_ble_eq_true rfl) rfl ?_
  intro p e s m below meth c hx hb hr hml hts hown hlk hP hK hN hD hS ls hl
  refine lv_aload_n hx hb dX3_shippingWanted_0 rfl (lv_at hl 0 rfl) ?_
  refine lv_aload_n hx hb dX3_shippingWanted_1 rfl (lv_at hl 0 rfl) ?_
  refine z_wAi (v := z_wt G D) [.ref (mo 0)] hx hb hml hown hts (m_X3_wanted l Dg cI mo th G D K hG hW) gX3_shippingWanted_X3_wanted rfl kd_X3_wanted ⟨Nat.le_of_ble_eq_true rfl, Nat.le_of_ble_eq_true rfl⟩ hK hN hP hD hS rfl rfl rfl rfl rfl hl.1 rfl (Nat.le_of_ble_eq_true rfl) dX3_shippingWanted_2 ⟨Nat.zero_le _, Nat.zero_le _⟩ (fun H locs hP hD hS => ?_)
  have hP : va_P Dg vwCl (z_mW cI mo th G D (z_nw D)) H := hP
  have hD : va_D _ (z_mW cI mo th G D (z_nw D)) := hD
  refine z_wAi (v := z_wt G D) [] hx hb hml hown hts (m_X3_ok l Dg cI mo th G D (z_nw D) (z_wt G D)) gX3_shippingWanted_X3_ok rfl kd_X3_ok ⟨Nat.le_of_ble_eq_true rfl, Nat.le_of_ble_eq_true rfl⟩ hK hN hP hD hS rfl rfl rfl rfl rfl hl.1 rfl (Nat.le_of_ble_eq_true rfl) dX3_shippingWanted_5 ⟨Nat.zero_le _, Nat.zero_le _⟩ (fun H locs hP hD hS => ?_)
  have hP : va_P Dg vwCl (z_mW cI mo 0 G D (z_nw D)) H := hP
  have hD : va_D _ (z_mW cI mo 0 G D (z_nw D)) := hD
  exact z_ew_i rfl hP hS hx hb hr hlk dX3_shippingWanted_8
