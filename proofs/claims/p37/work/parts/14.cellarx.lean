
set_option maxHeartbeats 4000000 in
set_option maxRecDepth 100000 in
theorem m_X2_needShelf_x (l : Launch) (hst : l.stackTraces = false) (Dg : va_G) (cI : ClassId) (x_ : Int32) (e1 : ¬ (0 ≤ x_ ∧ x_ ≤ 3)) : z_Mx l yX2_needShelf wsX2_needShelf 6 90 [.int x_] Dg cI ([] : va_W) "java/lang/IndexOutOfBoundsException" := by
  refine z_sx (own := RX2) (l0 := [(0, .int x_)]) rfl rfl (by decide) (Nat.le_of_ble_eq_true rfl) rfl ?_
  intro p e s m below meth c hx hb hr hml hts hown hlk hno hP hK hN hE hT ls hl
  refine lv_iload_n hx hb dX2_needShelf_0 rfl (lv_at hl 0 rfl) ?_
  refine lv_iconst (v := 0) hx hb dX2_needShelf_1 (by decide) ?_
  refine lv_iconst (v := 3) hx hb dX2_needShelf_2 (by decide) ?_
  refine z_rSi (v := 0) [] hx hb hml hown hts (m_X2_isWithin_f l Dg cI x_ 0 3 e1) gX2_needShelf_X2_isWithin rfl kdS_X2_isWithin ⟨Nat.le_of_ble_eq_true rfl, Nat.le_of_ble_eq_true rfl⟩ hK hN z_P0 rfl hl.1 rfl (Nat.le_of_ble_eq_true rfl) dX2_needShelf_3 ⟨Nat.zero_le _, Nat.zero_le _⟩ ?_
  refine lv_if_ne (tgt := 19) hx hb dX2_needShelf_6 (by decide) (fun c6 => absurd rfl c6) (fun c6 => ?_)
  exact z_th_IOB hx hb hst hown hno hlk hE hT hE.2.2.2.2.2.2.2.2.1 (hts _ (List.mem_cons_of_mem _ (List.mem_append_left _ (List.mem_of_getElem? (i := 0) rfl)))) (hts _ (List.mem_cons_of_mem _ (List.mem_append_left _ (List.mem_of_getElem? (i := 1) rfl)))) (fun w h => hts w (List.mem_cons_of_mem _ (List.mem_append_right _ h))) (hl.1.trans hml.symm) dX2_needShelf_9 dX2_needShelf_12 dX2_needShelf_13 dX2_needShelf_15 dX2_needShelf_18 (Nat.le_of_ble_eq_true rfl) (Nat.le_of_ble_eq_true rfl) (Nat.le_of_ble_eq_true rfl) (Nat.le_of_ble_eq_true rfl)

set_option maxHeartbeats 4000000 in
set_option maxRecDepth 100000 in
theorem m_X2_needOrder_x (l : Launch) (hst : l.stackTraces = false) (Dg : va_G) (cI : ClassId) (x_ : Int32) (e1 : ¬ (0 ≤ x_ ∧ x_ ≤ 2)) : z_Mx l yX2_needOrder wsX2_needOrder 6 90 [.int x_] Dg cI ([] : va_W) "java/lang/IllegalArgumentException" := by
  refine z_sx (own := RX2) (l0 := [(0, .int x_)]) rfl rfl (by decide) (Nat.le_of_ble_eq_true rfl) rfl ?_
  intro p e s m below meth c hx hb hr hml hts hown hlk hno hP hK hN hE hT ls hl
  refine lv_iload_n hx hb dX2_needOrder_0 rfl (lv_at hl 0 rfl) ?_
  refine lv_iconst (v := 0) hx hb dX2_needOrder_1 (by decide) ?_
  refine lv_iconst (v := 2) hx hb dX2_needOrder_2 (by decide) ?_
  refine z_rSi (v := 0) [] hx hb hml hown hts (m_X2_isWithin_f l Dg cI x_ 0 2 e1) gX2_needOrder_X2_isWithin rfl kdS_X2_isWithin ⟨Nat.le_of_ble_eq_true rfl, Nat.le_of_ble_eq_true rfl⟩ hK hN z_P0 rfl hl.1 rfl (Nat.le_of_ble_eq_true rfl) dX2_needOrder_3 ⟨Nat.zero_le _, Nat.zero_le _⟩ ?_
  refine lv_if_ne (tgt := 19) hx hb dX2_needOrder_6 (by decide) (fun c6 => absurd rfl c6) (fun c6 => ?_)
  exact z_th_IAE hx hb hst hown hno hlk hE hT hE.2.2.2.2.2.2.2.2.2.2.2.1 (hts _ (List.mem_cons_of_mem _ (List.mem_append_left _ (List.mem_of_getElem? (i := 0) rfl)))) (hts _ (List.mem_cons_of_mem _ (List.mem_append_left _ (List.mem_of_getElem? (i := 1) rfl)))) (fun w h => hts w (List.mem_cons_of_mem _ (List.mem_append_right _ h))) (hl.1.trans hml.symm) dX2_needOrder_9 dX2_needOrder_12 dX2_needOrder_13 dX2_needOrder_15 dX2_needOrder_18 (Nat.le_of_ble_eq_true rfl) (Nat.le_of_ble_eq_true rfl) (Nat.le_of_ble_eq_true rfl) (Nat.le_of_ble_eq_true rfl)

set_option maxHeartbeats 4000000 in
set_option maxRecDepth 100000 in
theorem m_X2_needBatch_x (l : Launch) (hst : l.stackTraces = false) (Dg : va_G) (cI : ClassId) (h : Nat) (na ta : Nat → Nat) (G : z_GG) (D : z_DD) (G1 : z_GG) (D1 : z_DD) (x_ : Int32) (e1 : ¬ (0 ≤ x_ ∧ x_ ≤ nI (z_bc G) - 1)) : z_Mx l yX2_needBatch wsX2_needBatch 6 90 [.ref h, .int x_] Dg cI (z_cW cI h na ta G D G1 D1) "java/lang/IndexOutOfBoundsException" := by
  refine z_sx (own := RX2) (l0 := [(0, .ref h), (1, .int x_)]) rfl rfl (by decide) (Nat.le_of_ble_eq_true rfl) rfl ?_
  intro p e s m below meth c hx hb hr hml hts hown hlk hno hP hK hN hE hT ls hl
  refine lv_iload_n hx hb dX2_needBatch_0 rfl (lv_at hl 1 rfl) ?_
  refine lv_iconst (v := 0) hx hb dX2_needBatch_1 (by decide) ?_
  refine lv_aload_n hx hb dX2_needBatch_2 rfl (lv_at hl 0 rfl) ?_
  refine va_get (ci := 2) (v := .ref (na 0)) (C := RX2) (T := TX2) (N := 2) hx hb hts (fun _ h => (List.mem_cons_of_mem _ (List.mem_append_left _ (List.mem_append_left _ (List.mem_append_right _ h))))) hown hK hP 0 rfl rfl 0 (by decide) (hts _ (List.mem_cons_of_mem _ (List.mem_append_left _ (List.mem_append_left _ (List.mem_append_left _ (List.mem_of_getElem? (i := 2) rfl)))))) (fun _ h9 => h9) rfl dX2_needBatch_3 ?_
  refine va_getN (ci := 1) (v := .int (nI (z_bc G))) (C := RX1) (T := TX1) (N := 14) hx hb hts (fun _ h => (List.mem_cons_of_mem _ (List.mem_append_left _ (List.mem_append_right _ h)))) hown hK hP 1 rfl rfl 5 (by decide) (va_Nw.use rfl hN.2.1) (fun _ h9 => h9) rfl dX2_needBatch_6 ?_
  refine lv_iconst (v := 1) hx hb dX2_needBatch_9 (by decide) ?_
  refine lv_isub hx hb dX2_needBatch_10 ?_
  refine z_rSi (v := 0) [] hx hb hml hown hts (m_X2_isWithin_f l Dg cI x_ 0 ((nI (z_bc G)) - 1) e1) gX2_needBatch_X2_isWithin rfl kdS_X2_isWithin ⟨Nat.le_of_ble_eq_true rfl, Nat.le_of_ble_eq_true rfl⟩ hK hN z_P0 rfl hl.1 rfl (Nat.le_of_ble_eq_true rfl) dX2_needBatch_11 ⟨Nat.zero_le _, Nat.zero_le _⟩ ?_
  refine lv_if_ne (tgt := 27) hx hb dX2_needBatch_14 (by decide) (fun c14 => absurd rfl c14) (fun c14 => ?_)
  exact z_th_IOB hx hb hst hown hno hlk hE hT hE.2.2.2.2.2.2.2.2.2.1 (hts _ (List.mem_cons_of_mem _ (List.mem_append_left _ (List.mem_append_left _ (List.mem_append_left _ (List.mem_of_getElem? (i := 0) rfl)))))) (hts _ (List.mem_cons_of_mem _ (List.mem_append_left _ (List.mem_append_left _ (List.mem_append_left _ (List.mem_of_getElem? (i := 1) rfl)))))) (fun w h => hts w (List.mem_cons_of_mem _ (List.mem_append_right _ h))) (hl.1.trans hml.symm) dX2_needBatch_17 dX2_needBatch_20 dX2_needBatch_21 dX2_needBatch_23 dX2_needBatch_26 (Nat.le_of_ble_eq_true rfl) (Nat.le_of_ble_eq_true rfl) (Nat.le_of_ble_eq_true rfl) (Nat.le_of_ble_eq_true rfl)

set_option maxHeartbeats 4000000 in
set_option maxRecDepth 100000 in
theorem m_X2_needTin_x (l : Launch) (hst : l.stackTraces = false) (Dg : va_G) (cI : ClassId) (h : Nat) (na ta : Nat → Nat) (G : z_GG) (D : z_DD) (G1 : z_GG) (D1 : z_DD) (x_ : Int32) (e1 : ¬ (0 ≤ x_ ∧ x_ ≤ nI (z_tc G) - 1)) : z_Mx l yX2_needTin wsX2_needTin 6 90 [.ref h, .int x_] Dg cI (z_cW cI h na ta G D G1 D1) "java/lang/IndexOutOfBoundsException" := by
  refine z_sx (own := RX2) (l0 := [(0, .ref h), (1, .int x_)]) rfl rfl (by decide) (Nat.le_of_ble_eq_true rfl) rfl ?_
  intro p e s m below meth c hx hb hr hml hts hown hlk hno hP hK hN hE hT ls hl
  refine lv_iload_n hx hb dX2_needTin_0 rfl (lv_at hl 1 rfl) ?_
  refine lv_iconst (v := 0) hx hb dX2_needTin_1 (by decide) ?_
  refine lv_aload_n hx hb dX2_needTin_2 rfl (lv_at hl 0 rfl) ?_
  refine va_get (ci := 2) (v := .ref (na 0)) (C := RX2) (T := TX2) (N := 2) hx hb hts (fun _ h => (List.mem_cons_of_mem _ (List.mem_append_left _ (List.mem_append_left _ (List.mem_append_right _ h))))) hown hK hP 0 rfl rfl 0 (by decide) (hts _ (List.mem_cons_of_mem _ (List.mem_append_left _ (List.mem_append_left _ (List.mem_append_left _ (List.mem_of_getElem? (i := 2) rfl)))))) (fun _ h9 => h9) rfl dX2_needTin_3 ?_
  refine va_getN (ci := 1) (v := .int (nI (z_tc G))) (C := RX1) (T := TX1) (N := 14) hx hb hts (fun _ h => (List.mem_cons_of_mem _ (List.mem_append_left _ (List.mem_append_right _ h)))) hown hK hP 1 rfl rfl 10 (by decide) (va_Nw.use rfl hN.2.2.1) (fun _ h9 => h9) rfl dX2_needTin_6 ?_
  refine lv_iconst (v := 1) hx hb dX2_needTin_9 (by decide) ?_
  refine lv_isub hx hb dX2_needTin_10 ?_
  refine z_rSi (v := 0) [] hx hb hml hown hts (m_X2_isWithin_f l Dg cI x_ 0 ((nI (z_tc G)) - 1) e1) gX2_needTin_X2_isWithin rfl kdS_X2_isWithin ⟨Nat.le_of_ble_eq_true rfl, Nat.le_of_ble_eq_true rfl⟩ hK hN z_P0 rfl hl.1 rfl (Nat.le_of_ble_eq_true rfl) dX2_needTin_11 ⟨Nat.zero_le _, Nat.zero_le _⟩ ?_
  refine lv_if_ne (tgt := 27) hx hb dX2_needTin_14 (by decide) (fun c14 => absurd rfl c14) (fun c14 => ?_)
  exact z_th_IOB hx hb hst hown hno hlk hE hT hE.2.2.2.2.2.2.2.2.2.2.1 (hts _ (List.mem_cons_of_mem _ (List.mem_append_left _ (List.mem_append_left _ (List.mem_append_left _ (List.mem_of_getElem? (i := 0) rfl)))))) (hts _ (List.mem_cons_of_mem _ (List.mem_append_left _ (List.mem_append_left _ (List.mem_append_left _ (List.mem_of_getElem? (i := 1) rfl)))))) (fun w h => hts w (List.mem_cons_of_mem _ (List.mem_append_right _ h))) (hl.1.trans hml.symm) dX2_needTin_17 dX2_needTin_20 dX2_needTin_21 dX2_needTin_23 dX2_needTin_26 (Nat.le_of_ble_eq_true rfl) (Nat.le_of_ble_eq_true rfl) (Nat.le_of_ble_eq_true rfl) (Nat.le_of_ble_eq_true rfl)

set_option maxHeartbeats 4000000 in
set_option maxRecDepth 100000 in
theorem m_X2_needShipping_x1 (l : Launch) (hst : l.stackTraces = false) (Dg : va_G) (cI : ClassId) (x_ y_ : Int32) (e1 : ¬ (0 ≤ x_ ∧ x_ ≤ 9)) : z_Mx l yX2_needShipping wsX2_needShipping 7 110 [.int x_, .int y_] Dg cI ([] : va_W) "java/lang/IllegalArgumentException" := by
  refine z_sx (own := RX2) (l0 := [(0, .int x_), (1, .int y_)]) rfl rfl (by decide) (Nat.le_of_ble_eq_true rfl) rfl ?_
  intro p e s m below meth c hx hb hr hml hts hown hlk hno hP hK hN hE hT ls hl
  refine lv_iload_n hx hb dX2_needShipping_0 rfl (lv_at hl 0 rfl) ?_
  refine lv_iconst (v := 0) hx hb dX2_needShipping_1 (by decide) ?_
  refine lv_bipush (v := 9) hx hb dX2_needShipping_2 (by decide) ?_
  refine z_rSi (v := 0) [] hx hb hml hown hts (m_X2_isWithin_f l Dg cI x_ 0 9 e1) gX2_needShipping_X2_isWithin rfl kdS_X2_isWithin ⟨Nat.le_of_ble_eq_true rfl, Nat.le_of_ble_eq_true rfl⟩ hK hN z_P0 rfl hl.1 rfl (Nat.le_of_ble_eq_true rfl) dX2_needShipping_4 ⟨Nat.zero_le _, Nat.zero_le _⟩ ?_
  refine lv_if_ne (tgt := 20) hx hb dX2_needShipping_7 (by decide) (fun c7 => absurd rfl c7) (fun c7 => ?_)
  exact z_th_IAE hx hb hst hown hno hlk hE hT hE.2.2.2.2.2.2.2.2.2.2.2.2.1 (hts _ (List.mem_cons_of_mem _ (List.mem_append_left _ (List.mem_of_getElem? (i := 0) rfl)))) (hts _ (List.mem_cons_of_mem _ (List.mem_append_left _ (List.mem_of_getElem? (i := 1) rfl)))) (fun w h => hts w (List.mem_cons_of_mem _ (List.mem_append_right _ h))) (hl.1.trans hml.symm) dX2_needShipping_10 dX2_needShipping_13 dX2_needShipping_14 dX2_needShipping_16 dX2_needShipping_19 (Nat.le_of_ble_eq_true rfl) (Nat.le_of_ble_eq_true rfl) (Nat.le_of_ble_eq_true rfl) (Nat.le_of_ble_eq_true rfl)

set_option maxHeartbeats 4000000 in
set_option maxRecDepth 100000 in
theorem m_X2_needShipping_x2 (l : Launch) (hst : l.stackTraces = false) (Dg : va_G) (cI : ClassId) (m_ : Nat) (x_ : Int32) (hm9 : m_ < 10) (e1 : ¬ (0 ≤ x_ ∧ x_ ≤ 2)) : z_Mx l yX2_needShipping wsX2_needShipping 7 110 [.int (nI m_), .int x_] Dg cI ([] : va_W) "java/lang/IllegalArgumentException" := by
  refine z_sx (own := RX2) (l0 := [(0, .int (nI m_)), (1, .int x_)]) rfl rfl (by decide) (Nat.le_of_ble_eq_true rfl) rfl ?_
  intro p e s m below meth c hx hb hr hml hts hown hlk hno hP hK hN hE hT ls hl
  refine lv_iload_n hx hb dX2_needShipping_0 rfl (lv_at hl 0 rfl) ?_
  refine lv_iconst (v := nI 0) hx hb dX2_needShipping_1 (by decide) ?_
  refine lv_bipush (v := nI 9) hx hb dX2_needShipping_2 (by decide) ?_
  refine z_rSi (v := 1) [] hx hb hml hown hts (m_X2_isWithin_t l Dg cI (nI m_) (nI 0) (nI 9) (nI_le (Nat.zero_le _) (by omega)) (nI_le (by omega) (by decide))) gX2_needShipping_X2_isWithin rfl kdS_X2_isWithin ⟨Nat.le_of_ble_eq_true rfl, Nat.le_of_ble_eq_true rfl⟩ hK hN z_P0 rfl hl.1 rfl (Nat.le_of_ble_eq_true rfl) dX2_needShipping_4 ⟨Nat.zero_le _, Nat.zero_le _⟩ ?_
  refine lv_if_ne (tgt := 20) hx hb dX2_needShipping_7 (by decide) (fun c7 => ?_) (fun c7 => absurd c7 (by decide))
  refine lv_iload_n hx hb dX2_needShipping_20 rfl (lv_at hl 1 rfl) ?_
  exact z_pS [] hx hb hml hown hts hno hlk (m_X2_needOrder_x l hst Dg cI x_ e1) gX2_needShipping_X2_needOrder rfl kdS_X2_needOrder ⟨Nat.le_of_ble_eq_true rfl, Nat.le_of_ble_eq_true rfl⟩ hK hN hE hT z_P0 rfl hl.1 rfl (Nat.le_of_ble_eq_true rfl) dX2_needShipping_21 ⟨Nat.le_of_ble_eq_true rfl, Nat.le_of_ble_eq_true rfl⟩

set_option maxHeartbeats 4000000 in
set_option maxRecDepth 100000 in
theorem m_X2_standOn_x1 (l : Launch) (hst : l.stackTraces = false) (Dg : va_G) (cI : ClassId) (h : Nat) (na ta : Nat → Nat) (G : z_GG) (D : z_DD) (G1 : z_GG) (D1 : z_DD) (x_ : Int32) (e1 : ¬ (0 ≤ x_ ∧ x_ ≤ 3)) (hG : z_WG G) (hW : z_WD G D) : z_Mx l yX2_standOn wsX2_standOn 7 110 [.ref h, .int x_] Dg cI (z_cW cI h na ta G D G1 D1) "java/lang/IndexOutOfBoundsException" := by
  have htc : z_tc G ≤ 60 := hG.2.2.2.2.2.1
  have hbc : z_bc G ≤ 6 := hG.2.2.2.2.1
  refine z_sx (own := RX2) (l0 := [(0, .ref h), (1, .int x_)]) rfl rfl (by decide) (Nat.le_of_ble_eq_true rfl) rfl ?_
  intro p e s m below meth c hx hb hr hml hts hown hlk hno hP hK hN hE hT ls hl
  refine lv_iload_n hx hb dX2_standOn_0 rfl (lv_at hl 1 rfl) ?_
  exact z_pS [] hx hb hml hown hts hno hlk (m_X2_needShelf_x l hst Dg cI x_ e1) gX2_standOn_X2_needShelf rfl kdS_X2_needShelf ⟨Nat.le_of_ble_eq_true rfl, Nat.le_of_ble_eq_true rfl⟩ hK hN hE hT z_P0 rfl hl.1 rfl (Nat.le_of_ble_eq_true rfl) dX2_standOn_1 ⟨Nat.le_of_ble_eq_true rfl, Nat.le_of_ble_eq_true rfl⟩

set_option maxHeartbeats 4000000 in
set_option maxRecDepth 100000 in
theorem m_X2_warmOf_x1 (l : Launch) (hst : l.stackTraces = false) (Dg : va_G) (cI : ClassId) (h : Nat) (na ta : Nat → Nat) (G : z_GG) (D : z_DD) (G1 : z_GG) (D1 : z_DD) (x_ : Int32) (e1 : ¬ (0 ≤ x_ ∧ x_ ≤ 3)) (hG : z_WG G) (hW : z_WD G D) : z_Mx l yX2_warmOf wsX2_warmOf 7 110 [.ref h, .int x_] Dg cI (z_cW cI h na ta G D G1 D1) "java/lang/IndexOutOfBoundsException" := by
  have htc : z_tc G ≤ 60 := hG.2.2.2.2.2.1
  have hbc : z_bc G ≤ 6 := hG.2.2.2.2.1
  refine z_sx (own := RX2) (l0 := [(0, .ref h), (1, .int x_)]) rfl rfl (by decide) (Nat.le_of_ble_eq_true rfl) rfl ?_
  intro p e s m below meth c hx hb hr hml hts hown hlk hno hP hK hN hE hT ls hl
  refine lv_iload_n hx hb dX2_warmOf_0 rfl (lv_at hl 1 rfl) ?_
  exact z_pS [] hx hb hml hown hts hno hlk (m_X2_needShelf_x l hst Dg cI x_ e1) gX2_warmOf_X2_needShelf rfl kdS_X2_needShelf ⟨Nat.le_of_ble_eq_true rfl, Nat.le_of_ble_eq_true rfl⟩ hK hN hE hT z_P0 rfl hl.1 rfl (Nat.le_of_ble_eq_true rfl) dX2_warmOf_1 ⟨Nat.le_of_ble_eq_true rfl, Nat.le_of_ble_eq_true rfl⟩

set_option maxHeartbeats 4000000 in
set_option maxRecDepth 100000 in
theorem m_X2_batchOf_x1 (l : Launch) (hst : l.stackTraces = false) (Dg : va_G) (cI : ClassId) (h : Nat) (na ta : Nat → Nat) (G : z_GG) (D : z_DD) (G1 : z_GG) (D1 : z_DD) (x_ : Int32) (e1 : ¬ (0 ≤ x_ ∧ x_ ≤ nI (z_tc G) - 1)) (hG : z_WG G) (hW : z_WD G D) : z_Mx l yX2_batchOf wsX2_batchOf 7 111 [.ref h, .int x_] Dg cI (z_cW cI h na ta G D G1 D1) "java/lang/IndexOutOfBoundsException" := by
  have htc : z_tc G ≤ 60 := hG.2.2.2.2.2.1
  have hbc : z_bc G ≤ 6 := hG.2.2.2.2.1
  refine z_sx (own := RX2) (l0 := [(0, .ref h), (1, .int x_)]) rfl rfl (by decide) (Nat.le_of_ble_eq_true rfl) rfl ?_
  intro p e s m below meth c hx hb hr hml hts hown hlk hno hP hK hN hE hT ls hl
  refine lv_aload_n hx hb dX2_batchOf_0 rfl (lv_at hl 0 rfl) ?_
  refine lv_iload_n hx hb dX2_batchOf_1 rfl (lv_at hl 1 rfl) ?_
  exact z_pV [] hx hb hml hown hts hno hlk (m_X2_needTin_x l hst Dg cI h na ta G D G1 D1 x_ e1) gX2_batchOf_X2_needTin rfl kd_X2_needTin ⟨Nat.le_of_ble_eq_true rfl, Nat.le_of_ble_eq_true rfl⟩ hK hN hE hT hP rfl rfl rfl rfl hl.1 rfl (Nat.le_of_ble_eq_true rfl) dX2_batchOf_2 ⟨Nat.le_of_ble_eq_true rfl, Nat.le_of_ble_eq_true rfl⟩

set_option maxHeartbeats 4000000 in
set_option maxRecDepth 100000 in
theorem m_X2_shelfOf_x1 (l : Launch) (hst : l.stackTraces = false) (Dg : va_G) (cI : ClassId) (h : Nat) (na ta : Nat → Nat) (G : z_GG) (D : z_DD) (G1 : z_GG) (D1 : z_DD) (x_ : Int32) (e1 : ¬ (0 ≤ x_ ∧ x_ ≤ nI (z_tc G) - 1)) (hG : z_WG G) (hW : z_WD G D) : z_Mx l yX2_shelfOf wsX2_shelfOf 7 111 [.ref h, .int x_] Dg cI (z_cW cI h na ta G D G1 D1) "java/lang/IndexOutOfBoundsException" := by
  have htc : z_tc G ≤ 60 := hG.2.2.2.2.2.1
  have hbc : z_bc G ≤ 6 := hG.2.2.2.2.1
  refine z_sx (own := RX2) (l0 := [(0, .ref h), (1, .int x_)]) rfl rfl (by decide) (Nat.le_of_ble_eq_true rfl) rfl ?_
  intro p e s m below meth c hx hb hr hml hts hown hlk hno hP hK hN hE hT ls hl
  refine lv_aload_n hx hb dX2_shelfOf_0 rfl (lv_at hl 0 rfl) ?_
  refine lv_iload_n hx hb dX2_shelfOf_1 rfl (lv_at hl 1 rfl) ?_
  exact z_pV [] hx hb hml hown hts hno hlk (m_X2_needTin_x l hst Dg cI h na ta G D G1 D1 x_ e1) gX2_shelfOf_X2_needTin rfl kd_X2_needTin ⟨Nat.le_of_ble_eq_true rfl, Nat.le_of_ble_eq_true rfl⟩ hK hN hE hT hP rfl rfl rfl rfl hl.1 rfl (Nat.le_of_ble_eq_true rfl) dX2_shelfOf_2 ⟨Nat.le_of_ble_eq_true rfl, Nat.le_of_ble_eq_true rfl⟩

set_option maxHeartbeats 4000000 in
set_option maxRecDepth 100000 in
theorem m_X2_vacuumOf_x1 (l : Launch) (hst : l.stackTraces = false) (Dg : va_G) (cI : ClassId) (h : Nat) (na ta : Nat → Nat) (G : z_GG) (D : z_DD) (G1 : z_GG) (D1 : z_DD) (x_ : Int32) (e1 : ¬ (0 ≤ x_ ∧ x_ ≤ nI (z_tc G) - 1)) (hG : z_WG G) (hW : z_WD G D) : z_Mx l yX2_vacuumOf wsX2_vacuumOf 7 111 [.ref h, .int x_] Dg cI (z_cW cI h na ta G D G1 D1) "java/lang/IndexOutOfBoundsException" := by
  have htc : z_tc G ≤ 60 := hG.2.2.2.2.2.1
  have hbc : z_bc G ≤ 6 := hG.2.2.2.2.1
  refine z_sx (own := RX2) (l0 := [(0, .ref h), (1, .int x_)]) rfl rfl (by decide) (Nat.le_of_ble_eq_true rfl) rfl ?_
  intro p e s m below meth c hx hb hr hml hts hown hlk hno hP hK hN hE hT ls hl
  refine lv_aload_n hx hb dX2_vacuumOf_0 rfl (lv_at hl 0 rfl) ?_
  refine lv_iload_n hx hb dX2_vacuumOf_1 rfl (lv_at hl 1 rfl) ?_
  exact z_pV [] hx hb hml hown hts hno hlk (m_X2_needTin_x l hst Dg cI h na ta G D G1 D1 x_ e1) gX2_vacuumOf_X2_needTin rfl kd_X2_needTin ⟨Nat.le_of_ble_eq_true rfl, Nat.le_of_ble_eq_true rfl⟩ hK hN hE hT hP rfl rfl rfl rfl hl.1 rfl (Nat.le_of_ble_eq_true rfl) dX2_vacuumOf_2 ⟨Nat.le_of_ble_eq_true rfl, Nat.le_of_ble_eq_true rfl⟩

set_option maxHeartbeats 4000000 in
set_option maxRecDepth 100000 in
theorem m_X2_isShipped_x1 (l : Launch) (hst : l.stackTraces = false) (Dg : va_G) (cI : ClassId) (h : Nat) (na ta : Nat → Nat) (G : z_GG) (D : z_DD) (G1 : z_GG) (D1 : z_DD) (x_ : Int32) (e1 : ¬ (0 ≤ x_ ∧ x_ ≤ nI (z_tc G) - 1)) (hG : z_WG G) (hW : z_WD G D) : z_Mx l yX2_isShipped wsX2_isShipped 7 111 [.ref h, .int x_] Dg cI (z_cW cI h na ta G D G1 D1) "java/lang/IndexOutOfBoundsException" := by
  have htc : z_tc G ≤ 60 := hG.2.2.2.2.2.1
  have hbc : z_bc G ≤ 6 := hG.2.2.2.2.1
  refine z_sx (own := RX2) (l0 := [(0, .ref h), (1, .int x_)]) rfl rfl (by decide) (Nat.le_of_ble_eq_true rfl) rfl ?_
  intro p e s m below meth c hx hb hr hml hts hown hlk hno hP hK hN hE hT ls hl
  refine lv_aload_n hx hb dX2_isShipped_0 rfl (lv_at hl 0 rfl) ?_
  refine lv_iload_n hx hb dX2_isShipped_1 rfl (lv_at hl 1 rfl) ?_
  exact z_pV [] hx hb hml hown hts hno hlk (m_X2_needTin_x l hst Dg cI h na ta G D G1 D1 x_ e1) gX2_isShipped_X2_needTin rfl kd_X2_needTin ⟨Nat.le_of_ble_eq_true rfl, Nat.le_of_ble_eq_true rfl⟩ hK hN hE hT hP rfl rfl rfl rfl hl.1 rfl (Nat.le_of_ble_eq_true rfl) dX2_isShipped_2 ⟨Nat.le_of_ble_eq_true rfl, Nat.le_of_ble_eq_true rfl⟩

set_option maxHeartbeats 4000000 in
set_option maxRecDepth 100000 in
theorem m_X2_isLost_x1 (l : Launch) (hst : l.stackTraces = false) (Dg : va_G) (cI : ClassId) (h : Nat) (na ta : Nat → Nat) (G : z_GG) (D : z_DD) (G1 : z_GG) (D1 : z_DD) (x_ : Int32) (e1 : ¬ (0 ≤ x_ ∧ x_ ≤ nI (z_tc G) - 1)) (hG : z_WG G) (hW : z_WD G D) : z_Mx l yX2_isLost wsX2_isLost 7 111 [.ref h, .int x_] Dg cI (z_cW cI h na ta G D G1 D1) "java/lang/IndexOutOfBoundsException" := by
  have htc : z_tc G ≤ 60 := hG.2.2.2.2.2.1
  have hbc : z_bc G ≤ 6 := hG.2.2.2.2.1
  refine z_sx (own := RX2) (l0 := [(0, .ref h), (1, .int x_)]) rfl rfl (by decide) (Nat.le_of_ble_eq_true rfl) rfl ?_
  intro p e s m below meth c hx hb hr hml hts hown hlk hno hP hK hN hE hT ls hl
  refine lv_aload_n hx hb dX2_isLost_0 rfl (lv_at hl 0 rfl) ?_
  refine lv_iload_n hx hb dX2_isLost_1 rfl (lv_at hl 1 rfl) ?_
  exact z_pV [] hx hb hml hown hts hno hlk (m_X2_needTin_x l hst Dg cI h na ta G D G1 D1 x_ e1) gX2_isLost_X2_needTin rfl kd_X2_needTin ⟨Nat.le_of_ble_eq_true rfl, Nat.le_of_ble_eq_true rfl⟩ hK hN hE hT hP rfl rfl rfl rfl hl.1 rfl (Nat.le_of_ble_eq_true rfl) dX2_isLost_2 ⟨Nat.le_of_ble_eq_true rfl, Nat.le_of_ble_eq_true rfl⟩

set_option maxHeartbeats 4000000 in
set_option maxRecDepth 100000 in
theorem m_X2_daysOf_x1 (l : Launch) (hst : l.stackTraces = false) (Dg : va_G) (cI : ClassId) (h : Nat) (na ta : Nat → Nat) (G : z_GG) (D : z_DD) (G1 : z_GG) (D1 : z_DD) (x_ : Int32) (e1 : ¬ (0 ≤ x_ ∧ x_ ≤ nI (z_tc G) - 1)) (hG : z_WG G) (hW : z_WD G D) : z_Mx l yX2_daysOf wsX2_daysOf 7 111 [.ref h, .int x_] Dg cI (z_cW cI h na ta G D G1 D1) "java/lang/IndexOutOfBoundsException" := by
  have htc : z_tc G ≤ 60 := hG.2.2.2.2.2.1
  have hbc : z_bc G ≤ 6 := hG.2.2.2.2.1
  refine z_sx (own := RX2) (l0 := [(0, .ref h), (1, .int x_)]) rfl rfl (by decide) (Nat.le_of_ble_eq_true rfl) rfl ?_
  intro p e s m below meth c hx hb hr hml hts hown hlk hno hP hK hN hE hT ls hl
  refine lv_aload_n hx hb dX2_daysOf_0 rfl (lv_at hl 0 rfl) ?_
  refine lv_iload_n hx hb dX2_daysOf_1 rfl (lv_at hl 1 rfl) ?_
  exact z_pV [] hx hb hml hown hts hno hlk (m_X2_needTin_x l hst Dg cI h na ta G D G1 D1 x_ e1) gX2_daysOf_X2_needTin rfl kd_X2_needTin ⟨Nat.le_of_ble_eq_true rfl, Nat.le_of_ble_eq_true rfl⟩ hK hN hE hT hP rfl rfl rfl rfl hl.1 rfl (Nat.le_of_ble_eq_true rfl) dX2_daysOf_2 ⟨Nat.le_of_ble_eq_true rfl, Nat.le_of_ble_eq_true rfl⟩

set_option maxHeartbeats 4000000 in
set_option maxRecDepth 100000 in
theorem m_X2_bestShelf_x1 (l : Launch) (hst : l.stackTraces = false) (Dg : va_G) (cI : ClassId) (h : Nat) (na ta : Nat → Nat) (G : z_GG) (D : z_DD) (G1 : z_GG) (D1 : z_DD) (x_ : Int32) (e1 : ¬ (0 ≤ x_ ∧ x_ ≤ nI (z_tc G) - 1)) (hG : z_WG G) (hW : z_WD G D) : z_Mx l yX2_bestShelf wsX2_bestShelf 7 111 [.ref h, .int x_] Dg cI (z_cW cI h na ta G D G1 D1) "java/lang/IndexOutOfBoundsException" := by
  have htc : z_tc G ≤ 60 := hG.2.2.2.2.2.1
  have hbc : z_bc G ≤ 6 := hG.2.2.2.2.1
  refine z_sx (own := RX2) (l0 := [(0, .ref h), (1, .int x_)]) rfl rfl (by decide) (Nat.le_of_ble_eq_true rfl) rfl ?_
  intro p e s m below meth c hx hb hr hml hts hown hlk hno hP hK hN hE hT ls hl
  refine lv_aload_n hx hb dX2_bestShelf_0 rfl (lv_at hl 0 rfl) ?_
  refine lv_iload_n hx hb dX2_bestShelf_1 rfl (lv_at hl 1 rfl) ?_
  exact z_pV [] hx hb hml hown hts hno hlk (m_X2_needTin_x l hst Dg cI h na ta G D G1 D1 x_ e1) gX2_bestShelf_X2_needTin rfl kd_X2_needTin ⟨Nat.le_of_ble_eq_true rfl, Nat.le_of_ble_eq_true rfl⟩ hK hN hE hT hP rfl rfl rfl rfl hl.1 rfl (Nat.le_of_ble_eq_true rfl) dX2_bestShelf_2 ⟨Nat.le_of_ble_eq_true rfl, Nat.le_of_ble_eq_true rfl⟩

set_option maxHeartbeats 4000000 in
set_option maxRecDepth 100000 in
theorem m_X2_swelledOf_x1 (l : Launch) (hst : l.stackTraces = false) (Dg : va_G) (cI : ClassId) (h : Nat) (na ta : Nat → Nat) (G : z_GG) (D : z_DD) (G1 : z_GG) (D1 : z_DD) (x_ : Int32) (e1 : ¬ (0 ≤ x_ ∧ x_ ≤ nI (z_bc G) - 1)) (hG : z_WG G) (hW : z_WD G D) : z_Mx l yX2_swelledOf wsX2_swelledOf 7 111 [.ref h, .int x_] Dg cI (z_cW cI h na ta G D G1 D1) "java/lang/IndexOutOfBoundsException" := by
  have htc : z_tc G ≤ 60 := hG.2.2.2.2.2.1
  have hbc : z_bc G ≤ 6 := hG.2.2.2.2.1
  refine z_sx (own := RX2) (l0 := [(0, .ref h), (1, .int x_)]) rfl rfl (by decide) (Nat.le_of_ble_eq_true rfl) rfl ?_
  intro p e s m below meth c hx hb hr hml hts hown hlk hno hP hK hN hE hT ls hl
  refine lv_aload_n hx hb dX2_swelledOf_0 rfl (lv_at hl 0 rfl) ?_
  refine lv_iload_n hx hb dX2_swelledOf_1 rfl (lv_at hl 1 rfl) ?_
  exact z_pV [] hx hb hml hown hts hno hlk (m_X2_needBatch_x l hst Dg cI h na ta G D G1 D1 x_ e1) gX2_swelledOf_X2_needBatch rfl kd_X2_needBatch ⟨Nat.le_of_ble_eq_true rfl, Nat.le_of_ble_eq_true rfl⟩ hK hN hE hT hP rfl rfl rfl rfl hl.1 rfl (Nat.le_of_ble_eq_true rfl) dX2_swelledOf_2 ⟨Nat.le_of_ble_eq_true rfl, Nat.le_of_ble_eq_true rfl⟩

set_option maxHeartbeats 4000000 in
set_option maxRecDepth 100000 in
theorem m_X2_leftOf_x1 (l : Launch) (hst : l.stackTraces = false) (Dg : va_G) (cI : ClassId) (h : Nat) (na ta : Nat → Nat) (G : z_GG) (D : z_DD) (G1 : z_GG) (D1 : z_DD) (x_ : Int32) (e1 : ¬ (0 ≤ x_ ∧ x_ ≤ nI (z_bc G) - 1)) (hG : z_WG G) (hW : z_WD G D) : z_Mx l yX2_leftOf wsX2_leftOf 7 111 [.ref h, .int x_] Dg cI (z_cW cI h na ta G D G1 D1) "java/lang/IndexOutOfBoundsException" := by
  have htc : z_tc G ≤ 60 := hG.2.2.2.2.2.1
  have hbc : z_bc G ≤ 6 := hG.2.2.2.2.1
  refine z_sx (own := RX2) (l0 := [(0, .ref h), (1, .int x_)]) rfl rfl (by decide) (Nat.le_of_ble_eq_true rfl) rfl ?_
  intro p e s m below meth c hx hb hr hml hts hown hlk hno hP hK hN hE hT ls hl
  refine lv_aload_n hx hb dX2_leftOf_0 rfl (lv_at hl 0 rfl) ?_
  refine lv_iload_n hx hb dX2_leftOf_1 rfl (lv_at hl 1 rfl) ?_
  exact z_pV [] hx hb hml hown hts hno hlk (m_X2_needBatch_x l hst Dg cI h na ta G D G1 D1 x_ e1) gX2_leftOf_X2_needBatch rfl kd_X2_needBatch ⟨Nat.le_of_ble_eq_true rfl, Nat.le_of_ble_eq_true rfl⟩ hK hN hE hT hP rfl rfl rfl rfl hl.1 rfl (Nat.le_of_ble_eq_true rfl) dX2_leftOf_2 ⟨Nat.le_of_ble_eq_true rfl, Nat.le_of_ble_eq_true rfl⟩

set_option maxHeartbeats 4000000 in
set_option maxRecDepth 100000 in
theorem m_X2_isRecalled_x1 (l : Launch) (hst : l.stackTraces = false) (Dg : va_G) (cI : ClassId) (h : Nat) (na ta : Nat → Nat) (G : z_GG) (D : z_DD) (G1 : z_GG) (D1 : z_DD) (x_ : Int32) (e1 : ¬ (0 ≤ x_ ∧ x_ ≤ nI (z_bc G) - 1)) (hG : z_WG G) (hW : z_WD G D) : z_Mx l yX2_isRecalled wsX2_isRecalled 7 111 [.ref h, .int x_] Dg cI (z_cW cI h na ta G D G1 D1) "java/lang/IndexOutOfBoundsException" := by
  have htc : z_tc G ≤ 60 := hG.2.2.2.2.2.1
  have hbc : z_bc G ≤ 6 := hG.2.2.2.2.1
  refine z_sx (own := RX2) (l0 := [(0, .ref h), (1, .int x_)]) rfl rfl (by decide) (Nat.le_of_ble_eq_true rfl) rfl ?_
  intro p e s m below meth c hx hb hr hml hts hown hlk hno hP hK hN hE hT ls hl
  refine lv_aload_n hx hb dX2_isRecalled_0 rfl (lv_at hl 0 rfl) ?_
  refine lv_iload_n hx hb dX2_isRecalled_1 rfl (lv_at hl 1 rfl) ?_
  exact z_pV [] hx hb hml hown hts hno hlk (m_X2_needBatch_x l hst Dg cI h na ta G D G1 D1 x_ e1) gX2_isRecalled_X2_needBatch rfl kd_X2_needBatch ⟨Nat.le_of_ble_eq_true rfl, Nat.le_of_ble_eq_true rfl⟩ hK hN hE hT hP rfl rfl rfl rfl hl.1 rfl (Nat.le_of_ble_eq_true rfl) dX2_isRecalled_2 ⟨Nat.le_of_ble_eq_true rfl, Nat.le_of_ble_eq_true rfl⟩

set_option maxHeartbeats 4000000 in
set_option maxRecDepth 100000 in
theorem m_X2_daysUntilRecalled_x1 (l : Launch) (hst : l.stackTraces = false) (Dg : va_G) (cI : ClassId) (h : Nat) (na ta : Nat → Nat) (G : z_GG) (D : z_DD) (G1 : z_GG) (D1 : z_DD) (x_ : Int32) (e1 : ¬ (0 ≤ x_ ∧ x_ ≤ nI (z_bc G) - 1)) (hG : z_WG G) (hW : z_WD G D) : z_Mx l yX2_daysUntilRecalled wsX2_daysUntilRecalled 7 111 [.ref h, .int x_] Dg cI (z_cW cI h na ta G D G1 D1) "java/lang/IndexOutOfBoundsException" := by
  have htc : z_tc G ≤ 60 := hG.2.2.2.2.2.1
  have hbc : z_bc G ≤ 6 := hG.2.2.2.2.1
  refine z_sx (own := RX2) (l0 := [(0, .ref h), (1, .int x_)]) rfl rfl (by decide) (Nat.le_of_ble_eq_true rfl) rfl ?_
  intro p e s m below meth c hx hb hr hml hts hown hlk hno hP hK hN hE hT ls hl
  refine lv_aload_n hx hb dX2_daysUntilRecalled_0 rfl (lv_at hl 0 rfl) ?_
  refine lv_iload_n hx hb dX2_daysUntilRecalled_1 rfl (lv_at hl 1 rfl) ?_
  exact z_pV [] hx hb hml hown hts hno hlk (m_X2_needBatch_x l hst Dg cI h na ta G D G1 D1 x_ e1) gX2_daysUntilRecalled_X2_needBatch rfl kd_X2_needBatch ⟨Nat.le_of_ble_eq_true rfl, Nat.le_of_ble_eq_true rfl⟩ hK hN hE hT hP rfl rfl rfl rfl hl.1 rfl (Nat.le_of_ble_eq_true rfl) dX2_daysUntilRecalled_2 ⟨Nat.le_of_ble_eq_true rfl, Nat.le_of_ble_eq_true rfl⟩

set_option maxHeartbeats 4000000 in
set_option maxRecDepth 100000 in
theorem m_X2_first_x1 (l : Launch) (hst : l.stackTraces = false) (Dg : va_G) (cI : ClassId) (h : Nat) (na ta : Nat → Nat) (G : z_GG) (D : z_DD) (G1 : z_GG) (D1 : z_DD) (x_ : Int32) (e1 : ¬ (0 ≤ x_ ∧ x_ ≤ 2)) (hG : z_WG G) (hW : z_WD G D) : z_Mx l yX2_first wsX2_first 7 110 [.ref h, .int x_] Dg cI (z_cW cI h na ta G D G1 D1) "java/lang/IllegalArgumentException" := by
  have htc : z_tc G ≤ 60 := hG.2.2.2.2.2.1
  have hbc : z_bc G ≤ 6 := hG.2.2.2.2.1
  refine z_sx (own := RX2) (l0 := [(0, .ref h), (1, .int x_)]) rfl rfl (by decide) (Nat.le_of_ble_eq_true rfl) rfl ?_
  intro p e s m below meth c hx hb hr hml hts hown hlk hno hP hK hN hE hT ls hl
  refine lv_iload_n hx hb dX2_first_0 rfl (lv_at hl 1 rfl) ?_
  exact z_pS [] hx hb hml hown hts hno hlk (m_X2_needOrder_x l hst Dg cI x_ e1) gX2_first_X2_needOrder rfl kdS_X2_needOrder ⟨Nat.le_of_ble_eq_true rfl, Nat.le_of_ble_eq_true rfl⟩ hK hN hE hT z_P0 rfl hl.1 rfl (Nat.le_of_ble_eq_true rfl) dX2_first_1 ⟨Nat.le_of_ble_eq_true rfl, Nat.le_of_ble_eq_true rfl⟩

set_option maxHeartbeats 4000000 in
set_option maxRecDepth 100000 in
theorem m_X2_placeBy_x1 (l : Launch) (hst : l.stackTraces = false) (Dg : va_G) (cI : ClassId) (h : Nat) (na ta : Nat → Nat) (G : z_GG) (D : z_DD) (G1 : z_GG) (D1 : z_DD) (x_ : Int32) (y_ : Int32) (e1 : ¬ (0 ≤ x_ ∧ x_ ≤ nI (z_tc G) - 1)) (hG : z_WG G) (hW : z_WD G D) : z_Mx l yX2_placeBy wsX2_placeBy 7 111 [.ref h, .int x_, .int y_] Dg cI (z_cW cI h na ta G D G1 D1) "java/lang/IndexOutOfBoundsException" := by
  have htc : z_tc G ≤ 60 := hG.2.2.2.2.2.1
  have hbc : z_bc G ≤ 6 := hG.2.2.2.2.1
  refine z_sx (own := RX2) (l0 := [(0, .ref h), (1, .int x_), (2, .int y_)]) rfl rfl (by decide) (Nat.le_of_ble_eq_true rfl) rfl ?_
  intro p e s m below meth c hx hb hr hml hts hown hlk hno hP hK hN hE hT ls hl
  refine lv_aload_n hx hb dX2_placeBy_0 rfl (lv_at hl 0 rfl) ?_
  refine lv_iload_n hx hb dX2_placeBy_1 rfl (lv_at hl 1 rfl) ?_
  exact z_pV [] hx hb hml hown hts hno hlk (m_X2_needTin_x l hst Dg cI h na ta G D G1 D1 x_ e1) gX2_placeBy_X2_needTin rfl kd_X2_needTin ⟨Nat.le_of_ble_eq_true rfl, Nat.le_of_ble_eq_true rfl⟩ hK hN hE hT hP rfl rfl rfl rfl hl.1 rfl (Nat.le_of_ble_eq_true rfl) dX2_placeBy_2 ⟨Nat.le_of_ble_eq_true rfl, Nat.le_of_ble_eq_true rfl⟩

set_option maxHeartbeats 4000000 in
set_option maxRecDepth 100000 in
theorem m_X2_placeBy_x2 (l : Launch) (hst : l.stackTraces = false) (Dg : va_G) (cI : ClassId) (h : Nat) (na ta : Nat → Nat) (G : z_GG) (D : z_DD) (G1 : z_GG) (D1 : z_DD) (t : Nat) (x_ : Int32) (ht : t < z_tc G) (e1 : ¬ (0 ≤ x_ ∧ x_ ≤ 2)) (hG : z_WG G) (hW : z_WD G D) : z_Mx l yX2_placeBy wsX2_placeBy 7 111 [.ref h, .int (nI t), .int x_] Dg cI (z_cW cI h na ta G D G1 D1) "java/lang/IllegalArgumentException" := by
  have htc : z_tc G ≤ 60 := hG.2.2.2.2.2.1
  have hbc : z_bc G ≤ 6 := hG.2.2.2.2.1
  refine z_sx (own := RX2) (l0 := [(0, .ref h), (1, .int (nI t)), (2, .int x_)]) rfl rfl (by decide) (Nat.le_of_ble_eq_true rfl) rfl ?_
  intro p e s m below meth c hx hb hr hml hts hown hlk hno hP hK hN hE hT ls hl
  refine lv_aload_n hx hb dX2_placeBy_0 rfl (lv_at hl 0 rfl) ?_
  refine lv_iload_n hx hb dX2_placeBy_1 rfl (lv_at hl 1 rfl) ?_
  refine z_rVv [] hx hb hml hown hts (m_X2_needTin l Dg cI h na ta G D G1 D1 t (by omega) (by omega)) gX2_placeBy_X2_needTin rfl kd_X2_needTin ⟨Nat.le_of_ble_eq_true rfl, Nat.le_of_ble_eq_true rfl⟩ hK hN hP rfl rfl rfl rfl hl.1 rfl (Nat.le_of_ble_eq_true rfl) dX2_placeBy_2 ⟨Nat.zero_le _, Nat.zero_le _⟩ ?_
  refine lv_iload_n hx hb dX2_placeBy_5 rfl (lv_at hl 2 rfl) ?_
  exact z_pS [] hx hb hml hown hts hno hlk (m_X2_needOrder_x l hst Dg cI x_ e1) gX2_placeBy_X2_needOrder rfl kdS_X2_needOrder ⟨Nat.le_of_ble_eq_true rfl, Nat.le_of_ble_eq_true rfl⟩ hK hN hE hT z_P0 rfl hl.1 rfl (Nat.le_of_ble_eq_true rfl) dX2_placeBy_6 ⟨Nat.le_of_ble_eq_true rfl, Nat.le_of_ble_eq_true rfl⟩

set_option maxHeartbeats 4000000 in
set_option maxRecDepth 100000 in
theorem m_X2_lostWith_x1 (l : Launch) (hst : l.stackTraces = false) (Dg : va_G) (cI : ClassId) (h : Nat) (na ta : Nat → Nat) (G : z_GG) (D : z_DD) (G1 : z_GG) (D1 : z_DD) (x_ : Int32) (y_ : Int32) (e1 : ¬ (0 ≤ x_ ∧ x_ ≤ 9)) (hG : z_WG G) (hW : z_WD G D) : z_Mx l yX2_lostWith wsX2_lostWith 8 131 [.ref h, .int x_, .int y_] Dg cI (z_cW cI h na ta G D G1 D1) "java/lang/IllegalArgumentException" := by
  have htc : z_tc G ≤ 60 := hG.2.2.2.2.2.1
  have hbc : z_bc G ≤ 6 := hG.2.2.2.2.1
  refine z_sx (own := RX2) (l0 := [(0, .ref h), (1, .int x_), (2, .int y_)]) rfl rfl (by decide) (Nat.le_of_ble_eq_true rfl) rfl ?_
  intro p e s m below meth c hx hb hr hml hts hown hlk hno hP hK hN hE hT ls hl
  refine lv_iload_n hx hb dX2_lostWith_0 rfl (lv_at hl 1 rfl) ?_
  refine lv_iload_n hx hb dX2_lostWith_1 rfl (lv_at hl 2 rfl) ?_
  exact z_pS [] hx hb hml hown hts hno hlk (m_X2_needShipping_x1 l hst Dg cI x_ y_ e1) gX2_lostWith_X2_needShipping rfl kdS_X2_needShipping ⟨Nat.le_of_ble_eq_true rfl, Nat.le_of_ble_eq_true rfl⟩ hK hN hE hT z_P0 rfl hl.1 rfl (Nat.le_of_ble_eq_true rfl) dX2_lostWith_2 ⟨Nat.le_of_ble_eq_true rfl, Nat.le_of_ble_eq_true rfl⟩

set_option maxHeartbeats 4000000 in
set_option maxRecDepth 100000 in
theorem m_X2_lostWith_x2 (l : Launch) (hst : l.stackTraces = false) (Dg : va_G) (cI : ClassId) (h : Nat) (na ta : Nat → Nat) (G : z_GG) (D : z_DD) (G1 : z_GG) (D1 : z_DD) (m_ : Nat) (x_ : Int32) (hm9 : m_ < 10) (e1 : ¬ (0 ≤ x_ ∧ x_ ≤ 2)) (hG : z_WG G) (hW : z_WD G D) : z_Mx l yX2_lostWith wsX2_lostWith 8 131 [.ref h, .int (nI m_), .int x_] Dg cI (z_cW cI h na ta G D G1 D1) "java/lang/IllegalArgumentException" := by
  have htc : z_tc G ≤ 60 := hG.2.2.2.2.2.1
  have hbc : z_bc G ≤ 6 := hG.2.2.2.2.1
  refine z_sx (own := RX2) (l0 := [(0, .ref h), (1, .int (nI m_)), (2, .int x_)]) rfl rfl (by decide) (Nat.le_of_ble_eq_true rfl) rfl ?_
  intro p e s m below meth c hx hb hr hml hts hown hlk hno hP hK hN hE hT ls hl
  refine lv_iload_n hx hb dX2_lostWith_0 rfl (lv_at hl 1 rfl) ?_
  refine lv_iload_n hx hb dX2_lostWith_1 rfl (lv_at hl 2 rfl) ?_
  exact z_pS [] hx hb hml hown hts hno hlk (m_X2_needShipping_x2 l hst Dg cI m_ x_ (by omega) e1) gX2_lostWith_X2_needShipping rfl kdS_X2_needShipping ⟨Nat.le_of_ble_eq_true rfl, Nat.le_of_ble_eq_true rfl⟩ hK hN hE hT z_P0 rfl hl.1 rfl (Nat.le_of_ble_eq_true rfl) dX2_lostWith_2 ⟨Nat.le_of_ble_eq_true rfl, Nat.le_of_ble_eq_true rfl⟩

set_option maxHeartbeats 4000000 in
set_option maxRecDepth 100000 in
theorem m_X2_setShipping_x1 (l : Launch) (hst : l.stackTraces = false) (Dg : va_G) (cI : ClassId) (h : Nat) (na ta : Nat → Nat) (G : z_GG) (D : z_DD) (G1 : z_GG) (D1 : z_DD) (x_ : Int32) (y_ : Int32) (e1 : ¬ (0 ≤ x_ ∧ x_ ≤ 9)) (hG : z_WG G) (hW : z_WD G D) : z_Mx l yX2_setShipping wsX2_setShipping 8 131 [.ref h, .int x_, .int y_] Dg cI (z_cW cI h na ta G D G1 D1) "java/lang/IllegalArgumentException" := by
  have htc : z_tc G ≤ 60 := hG.2.2.2.2.2.1
  have hbc : z_bc G ≤ 6 := hG.2.2.2.2.1
  refine z_sx (own := RX2) (l0 := [(0, .ref h), (1, .int x_), (2, .int y_)]) rfl rfl (by decide) (Nat.le_of_ble_eq_true rfl) rfl ?_
  intro p e s m below meth c hx hb hr hml hts hown hlk hno hP hK hN hE hT ls hl
  refine lv_iload_n hx hb dX2_setShipping_0 rfl (lv_at hl 1 rfl) ?_
  refine lv_iload_n hx hb dX2_setShipping_1 rfl (lv_at hl 2 rfl) ?_
  exact z_pS [] hx hb hml hown hts hno hlk (m_X2_needShipping_x1 l hst Dg cI x_ y_ e1) gX2_setShipping_X2_needShipping rfl kdS_X2_needShipping ⟨Nat.le_of_ble_eq_true rfl, Nat.le_of_ble_eq_true rfl⟩ hK hN hE hT z_P0 rfl hl.1 rfl (Nat.le_of_ble_eq_true rfl) dX2_setShipping_2 ⟨Nat.le_of_ble_eq_true rfl, Nat.le_of_ble_eq_true rfl⟩

set_option maxHeartbeats 4000000 in
set_option maxRecDepth 100000 in
theorem m_X2_setShipping_x2 (l : Launch) (hst : l.stackTraces = false) (Dg : va_G) (cI : ClassId) (h : Nat) (na ta : Nat → Nat) (G : z_GG) (D : z_DD) (G1 : z_GG) (D1 : z_DD) (m_ : Nat) (x_ : Int32) (hm9 : m_ < 10) (e1 : ¬ (0 ≤ x_ ∧ x_ ≤ 2)) (hG : z_WG G) (hW : z_WD G D) : z_Mx l yX2_setShipping wsX2_setShipping 8 131 [.ref h, .int (nI m_), .int x_] Dg cI (z_cW cI h na ta G D G1 D1) "java/lang/IllegalArgumentException" := by
  have htc : z_tc G ≤ 60 := hG.2.2.2.2.2.1
  have hbc : z_bc G ≤ 6 := hG.2.2.2.2.1
  refine z_sx (own := RX2) (l0 := [(0, .ref h), (1, .int (nI m_)), (2, .int x_)]) rfl rfl (by decide) (Nat.le_of_ble_eq_true rfl) rfl ?_
  intro p e s m below meth c hx hb hr hml hts hown hlk hno hP hK hN hE hT ls hl
  refine lv_iload_n hx hb dX2_setShipping_0 rfl (lv_at hl 1 rfl) ?_
  refine lv_iload_n hx hb dX2_setShipping_1 rfl (lv_at hl 2 rfl) ?_
  exact z_pS [] hx hb hml hown hts hno hlk (m_X2_needShipping_x2 l hst Dg cI m_ x_ (by omega) e1) gX2_setShipping_X2_needShipping rfl kdS_X2_needShipping ⟨Nat.le_of_ble_eq_true rfl, Nat.le_of_ble_eq_true rfl⟩ hK hN hE hT z_P0 rfl hl.1 rfl (Nat.le_of_ble_eq_true rfl) dX2_setShipping_2 ⟨Nat.le_of_ble_eq_true rfl, Nat.le_of_ble_eq_true rfl⟩

set_option maxHeartbeats 4000000 in
set_option maxRecDepth 100000 in
theorem m_X2_addBatch_x1 (l : Launch) (hst : l.stackTraces = false) (Dg : va_G) (cI : ClassId) (h : Nat) (na ta : Nat → Nat) (G : z_GG) (D : z_DD) (G1 : z_GG) (D1 : z_DD) (v_ : Int32) (k_ : Int32) (e1 : ¬ (1 ≤ v_ ∧ v_ ≤ 99)) (hG : z_WG G) (hW : z_WD G D) : z_Mx l yX2_addBatch wsX2_addBatch 6 90 [.ref h, .int v_, .int k_] Dg cI (z_cW cI h na ta G D G1 D1) "java/lang/IllegalArgumentException" := by
  have htc : z_tc G ≤ 60 := hG.2.2.2.2.2.1
  have hbc : z_bc G ≤ 6 := hG.2.2.2.2.1
  refine z_sx (own := RX2) (l0 := [(0, .ref h), (1, .int v_), (2, .int k_)]) rfl rfl (by decide) (Nat.le_of_ble_eq_true rfl) rfl ?_
  intro p e s m below meth c hx hb hr hml hts hown hlk hno hP hK hN hE hT ls hl
  refine lv_iload_n hx hb dX2_addBatch_0 rfl (lv_at hl 1 rfl) ?_
  refine lv_iconst (v := 1) hx hb dX2_addBatch_1 (by decide) ?_
  refine lv_bipush (v := 99) hx hb dX2_addBatch_2 (by decide) ?_
  refine z_rSi (v := 0) [] hx hb hml hown hts (m_X2_isWithin_f l Dg cI v_ 1 99 e1) gX2_addBatch_X2_isWithin rfl kdS_X2_isWithin ⟨Nat.le_of_ble_eq_true rfl, Nat.le_of_ble_eq_true rfl⟩ hK hN z_P0 rfl hl.1 rfl (Nat.le_of_ble_eq_true rfl) dX2_addBatch_4 ⟨Nat.zero_le _, Nat.zero_le _⟩ ?_
  refine lv_if_eq (tgt := 19) hx hb dX2_addBatch_7 (by decide) (fun c7 => ?_) (fun c7 => absurd rfl c7)
  exact z_th_IAE hx hb hst hown hno hlk hE hT hE.1 (hts _ (List.mem_cons_of_mem _ (List.mem_append_left _ (List.mem_append_left _ (List.mem_append_left _ (List.mem_append_left _ (List.mem_append_left _ (List.mem_of_getElem? (i := 0) rfl)))))))) (hts _ (List.mem_cons_of_mem _ (List.mem_append_left _ (List.mem_append_left _ (List.mem_append_left _ (List.mem_append_left _ (List.mem_append_left _ (List.mem_of_getElem? (i := 1) rfl)))))))) (fun w h => hts w (List.mem_cons_of_mem _ (List.mem_append_left _ (List.mem_append_right _ h)))) (hl.1.trans hml.symm) dX2_addBatch_19 dX2_addBatch_22 dX2_addBatch_23 dX2_addBatch_25 dX2_addBatch_28 (Nat.le_of_ble_eq_true rfl) (Nat.le_of_ble_eq_true rfl) (Nat.le_of_ble_eq_true rfl) (Nat.le_of_ble_eq_true rfl)

set_option maxHeartbeats 4000000 in
set_option maxRecDepth 100000 in
theorem m_X2_addBatch_x2 (l : Launch) (hst : l.stackTraces = false) (Dg : va_G) (cI : ClassId) (h : Nat) (na ta : Nat → Nat) (G : z_GG) (D : z_DD) (G1 : z_GG) (D1 : z_DD) (v_ : Int32) (k_ : Int32) (hv1 : 1 ≤ v_) (hv2 : v_ ≤ 99) (e1 : ¬ (0 ≤ k_ ∧ k_ ≤ 5)) (hG : z_WG G) (hW : z_WD G D) : z_Mx l yX2_addBatch wsX2_addBatch 6 90 [.ref h, .int v_, .int k_] Dg cI (z_cW cI h na ta G D G1 D1) "java/lang/IllegalArgumentException" := by
  have htc : z_tc G ≤ 60 := hG.2.2.2.2.2.1
  have hbc : z_bc G ≤ 6 := hG.2.2.2.2.1
  refine z_sx (own := RX2) (l0 := [(0, .ref h), (1, .int v_), (2, .int k_)]) rfl rfl (by decide) (Nat.le_of_ble_eq_true rfl) rfl ?_
  intro p e s m below meth c hx hb hr hml hts hown hlk hno hP hK hN hE hT ls hl
  refine lv_iload_n hx hb dX2_addBatch_0 rfl (lv_at hl 1 rfl) ?_
  refine lv_iconst (v := 1) hx hb dX2_addBatch_1 (by decide) ?_
  refine lv_bipush (v := 99) hx hb dX2_addBatch_2 (by decide) ?_
  refine z_rSi (v := 1) [] hx hb hml hown hts (m_X2_isWithin_t l Dg cI v_ 1 99 hv1 hv2) gX2_addBatch_X2_isWithin rfl kdS_X2_isWithin ⟨Nat.le_of_ble_eq_true rfl, Nat.le_of_ble_eq_true rfl⟩ hK hN z_P0 rfl hl.1 rfl (Nat.le_of_ble_eq_true rfl) dX2_addBatch_4 ⟨Nat.zero_le _, Nat.zero_le _⟩ ?_
  refine lv_if_eq (tgt := 19) hx hb dX2_addBatch_7 (by decide) (fun c7 => absurd c7 (by decide)) (fun c7 => ?_)
  refine lv_iload_n hx hb dX2_addBatch_10 rfl (lv_at hl 2 rfl) ?_
  refine lv_iconst (v := 0) hx hb dX2_addBatch_11 (by decide) ?_
  refine lv_iconst (v := 5) hx hb dX2_addBatch_12 (by decide) ?_
  refine z_rSi (v := 0) [] hx hb hml hown hts (m_X2_isWithin_f l Dg cI k_ 0 5 e1) gX2_addBatch_X2_isWithin rfl kdS_X2_isWithin ⟨Nat.le_of_ble_eq_true rfl, Nat.le_of_ble_eq_true rfl⟩ hK hN z_P0 rfl hl.1 rfl (Nat.le_of_ble_eq_true rfl) dX2_addBatch_13 ⟨Nat.zero_le _, Nat.zero_le _⟩ ?_
  refine lv_if_ne (tgt := 29) hx hb dX2_addBatch_16 (by decide) (fun c16 => absurd rfl c16) (fun c16 => ?_)
  exact z_th_IAE hx hb hst hown hno hlk hE hT hE.1 (hts _ (List.mem_cons_of_mem _ (List.mem_append_left _ (List.mem_append_left _ (List.mem_append_left _ (List.mem_append_left _ (List.mem_append_left _ (List.mem_of_getElem? (i := 0) rfl)))))))) (hts _ (List.mem_cons_of_mem _ (List.mem_append_left _ (List.mem_append_left _ (List.mem_append_left _ (List.mem_append_left _ (List.mem_append_left _ (List.mem_of_getElem? (i := 1) rfl)))))))) (fun w h => hts w (List.mem_cons_of_mem _ (List.mem_append_left _ (List.mem_append_right _ h)))) (hl.1.trans hml.symm) dX2_addBatch_19 dX2_addBatch_22 dX2_addBatch_23 dX2_addBatch_25 dX2_addBatch_28 (Nat.le_of_ble_eq_true rfl) (Nat.le_of_ble_eq_true rfl) (Nat.le_of_ble_eq_true rfl) (Nat.le_of_ble_eq_true rfl)

set_option maxHeartbeats 4000000 in
set_option maxRecDepth 100000 in
theorem m_X2_addBatch_x3 (l : Launch) (hst : l.stackTraces = false) (Dg : va_G) (cI : ClassId) (h : Nat) (na ta : Nat → Nat) (G : z_GG) (D : z_DD) (G1 : z_GG) (D1 : z_DD) (v_ : Int32) (k_ : Int32) (hv1 : 1 ≤ v_) (hv2 : v_ ≤ 99) (hk1 : 0 ≤ k_) (hk2 : k_ ≤ 5) (hb6 : z_bc G = 6) (hG : z_WG G) (hW : z_WD G D) : z_Mx l yX2_addBatch wsX2_addBatch 6 90 [.ref h, .int v_, .int k_] Dg cI (z_cW cI h na ta G D G1 D1) "java/lang/IllegalStateException" := by
  have htc : z_tc G ≤ 60 := hG.2.2.2.2.2.1
  have hbc : z_bc G ≤ 6 := hG.2.2.2.2.1
  refine z_sx (own := RX2) (l0 := [(0, .ref h), (1, .int v_), (2, .int k_)]) rfl rfl (by decide) (Nat.le_of_ble_eq_true rfl) rfl ?_
  intro p e s m below meth c hx hb hr hml hts hown hlk hno hP hK hN hE hT ls hl
  refine lv_iload_n hx hb dX2_addBatch_0 rfl (lv_at hl 1 rfl) ?_
  refine lv_iconst (v := 1) hx hb dX2_addBatch_1 (by decide) ?_
  refine lv_bipush (v := 99) hx hb dX2_addBatch_2 (by decide) ?_
  refine z_rSi (v := 1) [] hx hb hml hown hts (m_X2_isWithin_t l Dg cI v_ 1 99 hv1 hv2) gX2_addBatch_X2_isWithin rfl kdS_X2_isWithin ⟨Nat.le_of_ble_eq_true rfl, Nat.le_of_ble_eq_true rfl⟩ hK hN z_P0 rfl hl.1 rfl (Nat.le_of_ble_eq_true rfl) dX2_addBatch_4 ⟨Nat.zero_le _, Nat.zero_le _⟩ ?_
  refine lv_if_eq (tgt := 19) hx hb dX2_addBatch_7 (by decide) (fun c7 => absurd c7 (by decide)) (fun c7 => ?_)
  refine lv_iload_n hx hb dX2_addBatch_10 rfl (lv_at hl 2 rfl) ?_
  refine lv_iconst (v := 0) hx hb dX2_addBatch_11 (by decide) ?_
  refine lv_iconst (v := 5) hx hb dX2_addBatch_12 (by decide) ?_
  refine z_rSi (v := 1) [] hx hb hml hown hts (m_X2_isWithin_t l Dg cI k_ 0 5 hk1 hk2) gX2_addBatch_X2_isWithin rfl kdS_X2_isWithin ⟨Nat.le_of_ble_eq_true rfl, Nat.le_of_ble_eq_true rfl⟩ hK hN z_P0 rfl hl.1 rfl (Nat.le_of_ble_eq_true rfl) dX2_addBatch_13 ⟨Nat.zero_le _, Nat.zero_le _⟩ ?_
  refine lv_if_ne (tgt := 29) hx hb dX2_addBatch_16 (by decide) (fun c16 => ?_) (fun c16 => absurd c16 (by decide))
  refine lv_aload_n hx hb dX2_addBatch_29 rfl (lv_at hl 0 rfl) ?_
  refine va_get (ci := 2) (v := .ref (na 0)) (C := RX2) (T := TX2) (N := 2) hx hb hts (fun _ h => (List.mem_cons_of_mem _ (List.mem_append_left _ (List.mem_append_left _ (List.mem_append_left _ (List.mem_append_left _ (List.mem_append_right _ h))))))) hown hK hP 0 rfl rfl 0 (by decide) (hts _ (List.mem_cons_of_mem _ (List.mem_append_left _ (List.mem_append_left _ (List.mem_append_left _ (List.mem_append_left _ (List.mem_append_left _ (List.mem_of_getElem? (i := 4) rfl)))))))) (fun _ h9 => h9) rfl dX2_addBatch_30 ?_
  refine va_getN (ci := 1) (v := .int (nI (z_bc G))) (C := RX1) (T := TX1) (N := 14) hx hb hts (fun _ h => (List.mem_cons_of_mem _ (List.mem_append_left _ (List.mem_append_left _ (List.mem_append_left _ (List.mem_append_right _ h)))))) hown hK hP 1 rfl rfl 5 (by decide) (va_Nw.use rfl hN.2.1) (fun _ h9 => h9) rfl dX2_addBatch_33 ?_
  refine lv_bipush (v := nI 6) hx hb dX2_addBatch_36 (by decide) ?_
  refine lv_icmp_lt (tgt := 51) hx hb dX2_addBatch_38 (by decide) (fun c38 => absurd c38 (nI_nlt (by omega) (by omega))) (fun c38 => ?_)
  exact z_th_ISE hx hb hst hown hno hlk hE hT hE.2.1 (hts _ (List.mem_cons_of_mem _ (List.mem_append_left _ (List.mem_append_left _ (List.mem_append_left _ (List.mem_append_left _ (List.mem_append_left _ (List.mem_of_getElem? (i := 2) rfl)))))))) (hts _ (List.mem_cons_of_mem _ (List.mem_append_left _ (List.mem_append_left _ (List.mem_append_left _ (List.mem_append_left _ (List.mem_append_left _ (List.mem_of_getElem? (i := 3) rfl)))))))) (fun w h => hts w (List.mem_cons_of_mem _ (List.mem_append_right _ h))) (hl.1.trans hml.symm) dX2_addBatch_41 dX2_addBatch_44 dX2_addBatch_45 dX2_addBatch_47 dX2_addBatch_50 (Nat.le_of_ble_eq_true rfl) (Nat.le_of_ble_eq_true rfl) (Nat.le_of_ble_eq_true rfl) (Nat.le_of_ble_eq_true rfl)

set_option maxHeartbeats 4000000 in
set_option maxRecDepth 100000 in
theorem m_X2_seal_x1 (l : Launch) (hst : l.stackTraces = false) (Dg : va_G) (cI : ClassId) (h : Nat) (na ta : Nat → Nat) (G : z_GG) (D : z_DD) (G1 : z_GG) (D1 : z_DD) (x_ : Int32) (y_ : Int32) (w_ : Int32) (e1 : ¬ (0 ≤ x_ ∧ x_ ≤ nI (z_bc G) - 1)) (hG : z_WG G) (hW : z_WD G D) : z_Mx l yX2_seal wsX2_seal 7 111 [.ref h, .int x_, .int y_, .int w_] Dg cI (z_cW cI h na ta G D G1 D1) "java/lang/IndexOutOfBoundsException" := by
  have htc : z_tc G ≤ 60 := hG.2.2.2.2.2.1
  have hbc : z_bc G ≤ 6 := hG.2.2.2.2.1
  refine z_sx (own := RX2) (l0 := [(0, .ref h), (1, .int x_), (2, .int y_), (3, .int w_)]) rfl rfl (by decide) (Nat.le_of_ble_eq_true rfl) rfl ?_
  intro p e s m below meth c hx hb hr hml hts hown hlk hno hP hK hN hE hT ls hl
  refine lv_aload_n hx hb dX2_seal_0 rfl (lv_at hl 0 rfl) ?_
  refine lv_iload_n hx hb dX2_seal_1 rfl (lv_at hl 1 rfl) ?_
  exact z_pV [] hx hb hml hown hts hno hlk (m_X2_needBatch_x l hst Dg cI h na ta G D G1 D1 x_ e1) gX2_seal_X2_needBatch rfl kd_X2_needBatch ⟨Nat.le_of_ble_eq_true rfl, Nat.le_of_ble_eq_true rfl⟩ hK hN hE hT hP rfl rfl rfl rfl hl.1 rfl (Nat.le_of_ble_eq_true rfl) dX2_seal_2 ⟨Nat.le_of_ble_eq_true rfl, Nat.le_of_ble_eq_true rfl⟩

set_option maxHeartbeats 4000000 in
set_option maxRecDepth 100000 in
theorem m_X2_seal_x2 (l : Launch) (hst : l.stackTraces = false) (Dg : va_G) (cI : ClassId) (h : Nat) (na ta : Nat → Nat) (G : z_GG) (D : z_DD) (G1 : z_GG) (D1 : z_DD) (b_ : Nat) (x_ : Int32) (w_ : Int32) (hbb : b_ < z_bc G) (e1 : ¬ (0 ≤ x_ ∧ x_ ≤ 3)) (hG : z_WG G) (hW : z_WD G D) : z_Mx l yX2_seal wsX2_seal 7 111 [.ref h, .int (nI b_), .int x_, .int w_] Dg cI (z_cW cI h na ta G D G1 D1) "java/lang/IndexOutOfBoundsException" := by
  have htc : z_tc G ≤ 60 := hG.2.2.2.2.2.1
  have hbc : z_bc G ≤ 6 := hG.2.2.2.2.1
  refine z_sx (own := RX2) (l0 := [(0, .ref h), (1, .int (nI b_)), (2, .int x_), (3, .int w_)]) rfl rfl (by decide) (Nat.le_of_ble_eq_true rfl) rfl ?_
  intro p e s m below meth c hx hb hr hml hts hown hlk hno hP hK hN hE hT ls hl
  refine lv_aload_n hx hb dX2_seal_0 rfl (lv_at hl 0 rfl) ?_
  refine lv_iload_n hx hb dX2_seal_1 rfl (lv_at hl 1 rfl) ?_
  refine z_rVv [] hx hb hml hown hts (m_X2_needBatch l Dg cI h na ta G D G1 D1 b_ (by omega) (by omega)) gX2_seal_X2_needBatch rfl kd_X2_needBatch ⟨Nat.le_of_ble_eq_true rfl, Nat.le_of_ble_eq_true rfl⟩ hK hN hP rfl rfl rfl rfl hl.1 rfl (Nat.le_of_ble_eq_true rfl) dX2_seal_2 ⟨Nat.zero_le _, Nat.zero_le _⟩ ?_
  refine lv_iload_n hx hb dX2_seal_5 rfl (lv_at hl 2 rfl) ?_
  exact z_pS [] hx hb hml hown hts hno hlk (m_X2_needShelf_x l hst Dg cI x_ e1) gX2_seal_X2_needShelf rfl kdS_X2_needShelf ⟨Nat.le_of_ble_eq_true rfl, Nat.le_of_ble_eq_true rfl⟩ hK hN hE hT z_P0 rfl hl.1 rfl (Nat.le_of_ble_eq_true rfl) dX2_seal_6 ⟨Nat.le_of_ble_eq_true rfl, Nat.le_of_ble_eq_true rfl⟩

set_option maxHeartbeats 4000000 in
set_option maxRecDepth 100000 in
theorem m_X2_seal_x3 (l : Launch) (hst : l.stackTraces = false) (Dg : va_G) (cI : ClassId) (h : Nat) (na ta : Nat → Nat) (G : z_GG) (D : z_DD) (G1 : z_GG) (D1 : z_DD) (b_ : Nat) (s_ : Nat) (w_ : Int32) (hbb : b_ < z_bc G) (hs4 : s_ < 4) (e1 : ¬ (1 ≤ w_ ∧ w_ ≤ 20)) (hG : z_WG G) (hW : z_WD G D) : z_Mx l yX2_seal wsX2_seal 7 111 [.ref h, .int (nI b_), .int (nI s_), .int w_] Dg cI (z_cW cI h na ta G D G1 D1) "java/lang/IllegalArgumentException" := by
  have htc : z_tc G ≤ 60 := hG.2.2.2.2.2.1
  have hbc : z_bc G ≤ 6 := hG.2.2.2.2.1
  refine z_sx (own := RX2) (l0 := [(0, .ref h), (1, .int (nI b_)), (2, .int (nI s_)), (3, .int w_)]) rfl rfl (by decide) (Nat.le_of_ble_eq_true rfl) rfl ?_
  intro p e s m below meth c hx hb hr hml hts hown hlk hno hP hK hN hE hT ls hl
  refine lv_aload_n hx hb dX2_seal_0 rfl (lv_at hl 0 rfl) ?_
  refine lv_iload_n hx hb dX2_seal_1 rfl (lv_at hl 1 rfl) ?_
  refine z_rVv [] hx hb hml hown hts (m_X2_needBatch l Dg cI h na ta G D G1 D1 b_ (by omega) (by omega)) gX2_seal_X2_needBatch rfl kd_X2_needBatch ⟨Nat.le_of_ble_eq_true rfl, Nat.le_of_ble_eq_true rfl⟩ hK hN hP rfl rfl rfl rfl hl.1 rfl (Nat.le_of_ble_eq_true rfl) dX2_seal_2 ⟨Nat.zero_le _, Nat.zero_le _⟩ ?_
  refine lv_iload_n hx hb dX2_seal_5 rfl (lv_at hl 2 rfl) ?_
  refine z_rSv [] hx hb hml hown hts (m_X2_needShelf l Dg cI s_ (by omega)) gX2_seal_X2_needShelf rfl kdS_X2_needShelf ⟨Nat.le_of_ble_eq_true rfl, Nat.le_of_ble_eq_true rfl⟩ hK hN z_P0 rfl hl.1 rfl (Nat.le_of_ble_eq_true rfl) dX2_seal_6 ⟨Nat.zero_le _, Nat.zero_le _⟩ ?_
  refine lv_iload_n hx hb dX2_seal_9 rfl (lv_at hl 3 rfl) ?_
  refine lv_iconst (v := 1) hx hb dX2_seal_10 (by decide) ?_
  refine lv_bipush (v := 20) hx hb dX2_seal_11 (by decide) ?_
  refine z_rSi (v := 0) [] hx hb hml hown hts (m_X2_isWithin_f l Dg cI w_ 1 20 e1) gX2_seal_X2_isWithin rfl kdS_X2_isWithin ⟨Nat.le_of_ble_eq_true rfl, Nat.le_of_ble_eq_true rfl⟩ hK hN z_P0 rfl hl.1 rfl (Nat.le_of_ble_eq_true rfl) dX2_seal_13 ⟨Nat.zero_le _, Nat.zero_le _⟩ ?_
  refine lv_if_ne (tgt := 29) hx hb dX2_seal_16 (by decide) (fun c16 => absurd rfl c16) (fun c16 => ?_)
  exact z_th_IAE hx hb hst hown hno hlk hE hT hE.2.2.1 (hts _ (List.mem_cons_of_mem _ (List.mem_append_left _ (List.mem_append_left _ (List.mem_append_left _ (List.mem_append_left _ (List.mem_append_left _ (List.mem_append_left _ (List.mem_append_left _ (List.mem_of_getElem? (i := 0) rfl)))))))))) (hts _ (List.mem_cons_of_mem _ (List.mem_append_left _ (List.mem_append_left _ (List.mem_append_left _ (List.mem_append_left _ (List.mem_append_left _ (List.mem_append_left _ (List.mem_append_left _ (List.mem_of_getElem? (i := 1) rfl)))))))))) (fun w h => hts w (List.mem_cons_of_mem _ (List.mem_append_left _ (List.mem_append_left _ (List.mem_append_right _ h))))) (hl.1.trans hml.symm) dX2_seal_19 dX2_seal_22 dX2_seal_23 dX2_seal_25 dX2_seal_28 (Nat.le_of_ble_eq_true rfl) (Nat.le_of_ble_eq_true rfl) (Nat.le_of_ble_eq_true rfl) (Nat.le_of_ble_eq_true rfl)

set_option maxHeartbeats 4000000 in
set_option maxRecDepth 100000 in
theorem m_X2_seal_x4 (l : Launch) (hst : l.stackTraces = false) (Dg : va_G) (cI : ClassId) (h : Nat) (na ta : Nat → Nat) (G : z_GG) (D : z_DD) (G1 : z_GG) (D1 : z_DD) (b_ : Nat) (s_ : Nat) (k_ : Nat) (hbb : b_ < z_bc G) (hs4 : s_ < 4) (hk1 : 1 ≤ k_) (hk2 : k_ ≤ 20) (hk60 : 60 < z_tc G + k_) (hG : z_WG G) (hW : z_WD G D) : z_Mx l yX2_seal wsX2_seal 7 111 [.ref h, .int (nI b_), .int (nI s_), .int (nI k_)] Dg cI (z_cW cI h na ta G D G1 D1) "java/lang/IllegalStateException" := by
  have htc : z_tc G ≤ 60 := hG.2.2.2.2.2.1
  have hbc : z_bc G ≤ 6 := hG.2.2.2.2.1
  refine z_sx (own := RX2) (l0 := [(0, .ref h), (1, .int (nI b_)), (2, .int (nI s_)), (3, .int (nI k_))]) rfl rfl (by decide) (Nat.le_of_ble_eq_true rfl) rfl ?_
  intro p e s m below meth c hx hb hr hml hts hown hlk hno hP hK hN hE hT ls hl
  refine lv_aload_n hx hb dX2_seal_0 rfl (lv_at hl 0 rfl) ?_
  refine lv_iload_n hx hb dX2_seal_1 rfl (lv_at hl 1 rfl) ?_
  refine z_rVv [] hx hb hml hown hts (m_X2_needBatch l Dg cI h na ta G D G1 D1 b_ (by omega) (by omega)) gX2_seal_X2_needBatch rfl kd_X2_needBatch ⟨Nat.le_of_ble_eq_true rfl, Nat.le_of_ble_eq_true rfl⟩ hK hN hP rfl rfl rfl rfl hl.1 rfl (Nat.le_of_ble_eq_true rfl) dX2_seal_2 ⟨Nat.zero_le _, Nat.zero_le _⟩ ?_
  refine lv_iload_n hx hb dX2_seal_5 rfl (lv_at hl 2 rfl) ?_
  refine z_rSv [] hx hb hml hown hts (m_X2_needShelf l Dg cI s_ (by omega)) gX2_seal_X2_needShelf rfl kdS_X2_needShelf ⟨Nat.le_of_ble_eq_true rfl, Nat.le_of_ble_eq_true rfl⟩ hK hN z_P0 rfl hl.1 rfl (Nat.le_of_ble_eq_true rfl) dX2_seal_6 ⟨Nat.zero_le _, Nat.zero_le _⟩ ?_
  refine lv_iload_n hx hb dX2_seal_9 rfl (lv_at hl 3 rfl) ?_
  refine lv_iconst (v := nI 1) hx hb dX2_seal_10 (by decide) ?_
  refine lv_bipush (v := nI 20) hx hb dX2_seal_11 (by decide) ?_
  refine z_rSi (v := 1) [] hx hb hml hown hts (m_X2_isWithin_t l Dg cI (nI k_) (nI 1) (nI 20) (nI_le hk1 (by omega)) (nI_le hk2 (by decide))) gX2_seal_X2_isWithin rfl kdS_X2_isWithin ⟨Nat.le_of_ble_eq_true rfl, Nat.le_of_ble_eq_true rfl⟩ hK hN z_P0 rfl hl.1 rfl (Nat.le_of_ble_eq_true rfl) dX2_seal_13 ⟨Nat.zero_le _, Nat.zero_le _⟩ ?_
  refine lv_if_ne (tgt := 29) hx hb dX2_seal_16 (by decide) (fun c16 => ?_) (fun c16 => absurd c16 (by decide))
  refine lv_aload_n hx hb dX2_seal_29 rfl (lv_at hl 0 rfl) ?_
  refine va_get (ci := 2) (v := .ref (na 0)) (C := RX2) (T := TX2) (N := 2) hx hb hts (fun _ h => (List.mem_cons_of_mem _ (List.mem_append_left _ (List.mem_append_left _ (List.mem_append_left _ (List.mem_append_left _ (List.mem_append_left _ (List.mem_append_right _ h)))))))) hown hK hP 0 rfl rfl 0 (by decide) (hts _ (List.mem_cons_of_mem _ (List.mem_append_left _ (List.mem_append_left _ (List.mem_append_left _ (List.mem_append_left _ (List.mem_append_left _ (List.mem_append_left _ (List.mem_append_left _ (List.mem_of_getElem? (i := 4) rfl)))))))))) (fun _ h9 => h9) rfl dX2_seal_30 ?_
  refine va_getN (ci := 1) (v := .int (nI (z_tc G))) (C := RX1) (T := TX1) (N := 14) hx hb hts (fun _ h => (List.mem_cons_of_mem _ (List.mem_append_left _ (List.mem_append_left _ (List.mem_append_left _ (List.mem_append_left _ (List.mem_append_right _ h))))))) hown hK hP 1 rfl rfl 10 (by decide) (va_Nw.use rfl hN.2.2.1) (fun _ h9 => h9) rfl dX2_seal_33 ?_
  refine lv_iload_n hx hb dX2_seal_36 rfl (lv_at hl 3 rfl) ?_
  refine lv_iadd hx hb dX2_seal_37 ?_
  refine z_top (x' := nI (z_tc G + k_)) (nI_add _ _) ?_
  refine lv_bipush (v := nI 60) hx hb dX2_seal_38 (by decide) ?_
  refine lv_icmp_gt (tgt := 54) hx hb dX2_seal_40 (by decide) (fun c40 => ?_) (fun c40 => absurd (nI_lt hk60 (by omega)) c40)
  exact z_th_ISE hx hb hst hown hno hlk hE hT hE.2.2.2.1 (hts _ (List.mem_cons_of_mem _ (List.mem_append_left _ (List.mem_append_left _ (List.mem_append_left _ (List.mem_append_left _ (List.mem_append_left _ (List.mem_append_left _ (List.mem_append_left _ (List.mem_of_getElem? (i := 2) rfl)))))))))) (hts _ (List.mem_cons_of_mem _ (List.mem_append_left _ (List.mem_append_left _ (List.mem_append_left _ (List.mem_append_left _ (List.mem_append_left _ (List.mem_append_left _ (List.mem_append_left _ (List.mem_of_getElem? (i := 3) rfl)))))))))) (fun w h => hts w (List.mem_cons_of_mem _ (List.mem_append_left _ (List.mem_append_right _ h)))) (hl.1.trans hml.symm) dX2_seal_54 dX2_seal_57 dX2_seal_58 dX2_seal_60 dX2_seal_63 (Nat.le_of_ble_eq_true rfl) (Nat.le_of_ble_eq_true rfl) (Nat.le_of_ble_eq_true rfl) (Nat.le_of_ble_eq_true rfl)

set_option maxHeartbeats 4000000 in
set_option maxRecDepth 100000 in
theorem m_X2_seal_x5 (l : Launch) (hst : l.stackTraces = false) (Dg : va_G) (cI : ClassId) (h : Nat) (na ta : Nat → Nat) (G : z_GG) (D : z_DD) (G1 : z_GG) (D1 : z_DD) (b_ : Nat) (s_ : Nat) (k_ : Nat) (hbb : b_ < z_bc G) (hs4 : s_ < 4) (hk1 : 1 ≤ k_) (hk2 : k_ ≤ 20) (hk60 : z_tc G + k_ ≤ 60) (hrc : z_rc D b_ = true) (hG : z_WG G) (hW : z_WD G D) : z_Mx l yX2_seal wsX2_seal 7 111 [.ref h, .int (nI b_), .int (nI s_), .int (nI k_)] Dg cI (z_cW cI h na ta G D G1 D1) "java/lang/IllegalStateException" := by
  have htc : z_tc G ≤ 60 := hG.2.2.2.2.2.1
  have hbc : z_bc G ≤ 6 := hG.2.2.2.2.1
  refine z_sx (own := RX2) (l0 := [(0, .ref h), (1, .int (nI b_)), (2, .int (nI s_)), (3, .int (nI k_))]) rfl rfl (by decide) (Nat.le_of_ble_eq_true rfl) rfl ?_
  intro p e s m below meth c hx hb hr hml hts hown hlk hno hP hK hN hE hT ls hl
  refine lv_aload_n hx hb dX2_seal_0 rfl (lv_at hl 0 rfl) ?_
  refine lv_iload_n hx hb dX2_seal_1 rfl (lv_at hl 1 rfl) ?_
  refine z_rVv [] hx hb hml hown hts (m_X2_needBatch l Dg cI h na ta G D G1 D1 b_ (by omega) (by omega)) gX2_seal_X2_needBatch rfl kd_X2_needBatch ⟨Nat.le_of_ble_eq_true rfl, Nat.le_of_ble_eq_true rfl⟩ hK hN hP rfl rfl rfl rfl hl.1 rfl (Nat.le_of_ble_eq_true rfl) dX2_seal_2 ⟨Nat.zero_le _, Nat.zero_le _⟩ ?_
  refine lv_iload_n hx hb dX2_seal_5 rfl (lv_at hl 2 rfl) ?_
  refine z_rSv [] hx hb hml hown hts (m_X2_needShelf l Dg cI s_ (by omega)) gX2_seal_X2_needShelf rfl kdS_X2_needShelf ⟨Nat.le_of_ble_eq_true rfl, Nat.le_of_ble_eq_true rfl⟩ hK hN z_P0 rfl hl.1 rfl (Nat.le_of_ble_eq_true rfl) dX2_seal_6 ⟨Nat.zero_le _, Nat.zero_le _⟩ ?_
  refine lv_iload_n hx hb dX2_seal_9 rfl (lv_at hl 3 rfl) ?_
  refine lv_iconst (v := nI 1) hx hb dX2_seal_10 (by decide) ?_
  refine lv_bipush (v := nI 20) hx hb dX2_seal_11 (by decide) ?_
  refine z_rSi (v := 1) [] hx hb hml hown hts (m_X2_isWithin_t l Dg cI (nI k_) (nI 1) (nI 20) (nI_le hk1 (by omega)) (nI_le hk2 (by decide))) gX2_seal_X2_isWithin rfl kdS_X2_isWithin ⟨Nat.le_of_ble_eq_true rfl, Nat.le_of_ble_eq_true rfl⟩ hK hN z_P0 rfl hl.1 rfl (Nat.le_of_ble_eq_true rfl) dX2_seal_13 ⟨Nat.zero_le _, Nat.zero_le _⟩ ?_
  refine lv_if_ne (tgt := 29) hx hb dX2_seal_16 (by decide) (fun c16 => ?_) (fun c16 => absurd c16 (by decide))
  refine lv_aload_n hx hb dX2_seal_29 rfl (lv_at hl 0 rfl) ?_
  refine va_get (ci := 2) (v := .ref (na 0)) (C := RX2) (T := TX2) (N := 2) hx hb hts (fun _ h => (List.mem_cons_of_mem _ (List.mem_append_left _ (List.mem_append_left _ (List.mem_append_left _ (List.mem_append_left _ (List.mem_append_left _ (List.mem_append_right _ h)))))))) hown hK hP 0 rfl rfl 0 (by decide) (hts _ (List.mem_cons_of_mem _ (List.mem_append_left _ (List.mem_append_left _ (List.mem_append_left _ (List.mem_append_left _ (List.mem_append_left _ (List.mem_append_left _ (List.mem_append_left _ (List.mem_of_getElem? (i := 4) rfl)))))))))) (fun _ h9 => h9) rfl dX2_seal_30 ?_
  refine va_getN (ci := 1) (v := .int (nI (z_tc G))) (C := RX1) (T := TX1) (N := 14) hx hb hts (fun _ h => (List.mem_cons_of_mem _ (List.mem_append_left _ (List.mem_append_left _ (List.mem_append_left _ (List.mem_append_left _ (List.mem_append_right _ h))))))) hown hK hP 1 rfl rfl 10 (by decide) (va_Nw.use rfl hN.2.2.1) (fun _ h9 => h9) rfl dX2_seal_33 ?_
  refine lv_iload_n hx hb dX2_seal_36 rfl (lv_at hl 3 rfl) ?_
  refine lv_iadd hx hb dX2_seal_37 ?_
  refine z_top (x' := nI (z_tc G + k_)) (nI_add _ _) ?_
  refine lv_bipush (v := nI 60) hx hb dX2_seal_38 (by decide) ?_
  refine lv_icmp_gt (tgt := 54) hx hb dX2_seal_40 (by decide) (fun c40 => absurd c40 (z_i32_nlt (nI_le hk60 (by decide)))) (fun c40 => ?_)
  refine lv_aload_n hx hb dX2_seal_43 rfl (lv_at hl 0 rfl) ?_
  refine va_get (ci := 2) (v := .ref (na 0)) (C := RX2) (T := TX2) (N := 2) hx hb hts (fun _ h => (List.mem_cons_of_mem _ (List.mem_append_left _ (List.mem_append_left _ (List.mem_append_left _ (List.mem_append_left _ (List.mem_append_left _ (List.mem_append_right _ h)))))))) hown hK hP 0 rfl rfl 0 (by decide) (hts _ (List.mem_cons_of_mem _ (List.mem_append_left _ (List.mem_append_left _ (List.mem_append_left _ (List.mem_append_left _ (List.mem_append_left _ (List.mem_append_left _ (List.mem_append_left _ (List.mem_of_getElem? (i := 4) rfl)))))))))) (fun _ h9 => h9) rfl dX2_seal_44 ?_
  refine lv_iload_n hx hb dX2_seal_47 rfl (lv_at hl 1 rfl) ?_
  refine z_rVi (v := z_bI (z_rc D b_)) [] hx hb hml hown hts (m_X1_isBatchRecalled l Dg cI na G D b_ (by omega)) gX2_seal_X1_isBatchRecalled rfl kd_X1_isBatchRecalled ⟨Nat.le_of_ble_eq_true rfl, Nat.le_of_ble_eq_true rfl⟩ hK hN (z_Pm (a := [(h, .inr (2, [.ref (na 0), .ref (ta 0)]))]) (c := (z_sW cI ta G1 D1)) hP) rfl rfl rfl rfl hl.1 rfl (Nat.le_of_ble_eq_true rfl) dX2_seal_48 ⟨Nat.zero_le _, Nat.zero_le _⟩ ?_
  refine lv_if_eq (tgt := 64) hx hb dX2_seal_51 (by decide) (fun c51 => absurd c51 (by rw [hrc]; decide)) (fun c51 => ?_)
  exact z_th_ISE hx hb hst hown hno hlk hE hT hE.2.2.2.1 (hts _ (List.mem_cons_of_mem _ (List.mem_append_left _ (List.mem_append_left _ (List.mem_append_left _ (List.mem_append_left _ (List.mem_append_left _ (List.mem_append_left _ (List.mem_append_left _ (List.mem_of_getElem? (i := 2) rfl)))))))))) (hts _ (List.mem_cons_of_mem _ (List.mem_append_left _ (List.mem_append_left _ (List.mem_append_left _ (List.mem_append_left _ (List.mem_append_left _ (List.mem_append_left _ (List.mem_append_left _ (List.mem_of_getElem? (i := 3) rfl)))))))))) (fun w h => hts w (List.mem_cons_of_mem _ (List.mem_append_left _ (List.mem_append_right _ h)))) (hl.1.trans hml.symm) dX2_seal_54 dX2_seal_57 dX2_seal_58 dX2_seal_60 dX2_seal_63 (Nat.le_of_ble_eq_true rfl) (Nat.le_of_ble_eq_true rfl) (Nat.le_of_ble_eq_true rfl) (Nat.le_of_ble_eq_true rfl)

set_option maxHeartbeats 4000000 in
set_option maxRecDepth 100000 in
theorem m_X2_move_x1 (l : Launch) (hst : l.stackTraces = false) (Dg : va_G) (cI : ClassId) (h : Nat) (na ta : Nat → Nat) (G : z_GG) (D : z_DD) (G1 : z_GG) (D1 : z_DD) (x_ : Int32) (y_ : Int32) (e1 : ¬ (0 ≤ x_ ∧ x_ ≤ nI (z_tc G) - 1)) (hG : z_WG G) (hW : z_WD G D) : z_Mx l yX2_move wsX2_move 7 111 [.ref h, .int x_, .int y_] Dg cI (z_cW cI h na ta G D G1 D1) "java/lang/IndexOutOfBoundsException" := by
  have htc : z_tc G ≤ 60 := hG.2.2.2.2.2.1
  have hbc : z_bc G ≤ 6 := hG.2.2.2.2.1
  refine z_sx (own := RX2) (l0 := [(0, .ref h), (1, .int x_), (2, .int y_)]) rfl rfl (by decide) (Nat.le_of_ble_eq_true rfl) rfl ?_
  intro p e s m below meth c hx hb hr hml hts hown hlk hno hP hK hN hE hT ls hl
  refine lv_aload_n hx hb dX2_move_0 rfl (lv_at hl 0 rfl) ?_
  refine lv_iload_n hx hb dX2_move_1 rfl (lv_at hl 1 rfl) ?_
  exact z_pV [] hx hb hml hown hts hno hlk (m_X2_needTin_x l hst Dg cI h na ta G D G1 D1 x_ e1) gX2_move_X2_needTin rfl kd_X2_needTin ⟨Nat.le_of_ble_eq_true rfl, Nat.le_of_ble_eq_true rfl⟩ hK hN hE hT hP rfl rfl rfl rfl hl.1 rfl (Nat.le_of_ble_eq_true rfl) dX2_move_2 ⟨Nat.le_of_ble_eq_true rfl, Nat.le_of_ble_eq_true rfl⟩

set_option maxHeartbeats 4000000 in
set_option maxRecDepth 100000 in
theorem m_X2_move_x2 (l : Launch) (hst : l.stackTraces = false) (Dg : va_G) (cI : ClassId) (h : Nat) (na ta : Nat → Nat) (G : z_GG) (D : z_DD) (G1 : z_GG) (D1 : z_DD) (t : Nat) (x_ : Int32) (ht : t < z_tc G) (e1 : ¬ (0 ≤ x_ ∧ x_ ≤ 3)) (hG : z_WG G) (hW : z_WD G D) : z_Mx l yX2_move wsX2_move 7 111 [.ref h, .int (nI t), .int x_] Dg cI (z_cW cI h na ta G D G1 D1) "java/lang/IndexOutOfBoundsException" := by
  have htc : z_tc G ≤ 60 := hG.2.2.2.2.2.1
  have hbc : z_bc G ≤ 6 := hG.2.2.2.2.1
  refine z_sx (own := RX2) (l0 := [(0, .ref h), (1, .int (nI t)), (2, .int x_)]) rfl rfl (by decide) (Nat.le_of_ble_eq_true rfl) rfl ?_
  intro p e s m below meth c hx hb hr hml hts hown hlk hno hP hK hN hE hT ls hl
  refine lv_aload_n hx hb dX2_move_0 rfl (lv_at hl 0 rfl) ?_
  refine lv_iload_n hx hb dX2_move_1 rfl (lv_at hl 1 rfl) ?_
  refine z_rVv [] hx hb hml hown hts (m_X2_needTin l Dg cI h na ta G D G1 D1 t (by omega) (by omega)) gX2_move_X2_needTin rfl kd_X2_needTin ⟨Nat.le_of_ble_eq_true rfl, Nat.le_of_ble_eq_true rfl⟩ hK hN hP rfl rfl rfl rfl hl.1 rfl (Nat.le_of_ble_eq_true rfl) dX2_move_2 ⟨Nat.zero_le _, Nat.zero_le _⟩ ?_
  refine lv_iload_n hx hb dX2_move_5 rfl (lv_at hl 2 rfl) ?_
  exact z_pS [] hx hb hml hown hts hno hlk (m_X2_needShelf_x l hst Dg cI x_ e1) gX2_move_X2_needShelf rfl kdS_X2_needShelf ⟨Nat.le_of_ble_eq_true rfl, Nat.le_of_ble_eq_true rfl⟩ hK hN hE hT z_P0 rfl hl.1 rfl (Nat.le_of_ble_eq_true rfl) dX2_move_6 ⟨Nat.le_of_ble_eq_true rfl, Nat.le_of_ble_eq_true rfl⟩

set_option maxHeartbeats 4000000 in
set_option maxRecDepth 100000 in
theorem m_X2_move_x3 (l : Launch) (hst : l.stackTraces = false) (Dg : va_G) (cI : ClassId) (h : Nat) (na ta : Nat → Nat) (G : z_GG) (D : z_DD) (G1 : z_GG) (D1 : z_DD) (t : Nat) (s_ : Nat) (ht : t < z_tc G) (hs4 : s_ < 4) (hp1 : ¬ z_pl D t = 1) (hG : z_WG G) (hW : z_WD G D) : z_Mx l yX2_move wsX2_move 7 111 [.ref h, .int (nI t), .int (nI s_)] Dg cI (z_cW cI h na ta G D G1 D1) "java/lang/IllegalStateException" := by
  have htc : z_tc G ≤ 60 := hG.2.2.2.2.2.1
  have hbc : z_bc G ≤ 6 := hG.2.2.2.2.1
  have hpl := hW t ht
  refine z_sx (own := RX2) (l0 := [(0, .ref h), (1, .int (nI t)), (2, .int (nI s_))]) rfl rfl (by decide) (Nat.le_of_ble_eq_true rfl) rfl ?_
  intro p e s m below meth c hx hb hr hml hts hown hlk hno hP hK hN hE hT ls hl
  refine lv_aload_n hx hb dX2_move_0 rfl (lv_at hl 0 rfl) ?_
  refine lv_iload_n hx hb dX2_move_1 rfl (lv_at hl 1 rfl) ?_
  refine z_rVv [] hx hb hml hown hts (m_X2_needTin l Dg cI h na ta G D G1 D1 t (by omega) (by omega)) gX2_move_X2_needTin rfl kd_X2_needTin ⟨Nat.le_of_ble_eq_true rfl, Nat.le_of_ble_eq_true rfl⟩ hK hN hP rfl rfl rfl rfl hl.1 rfl (Nat.le_of_ble_eq_true rfl) dX2_move_2 ⟨Nat.zero_le _, Nat.zero_le _⟩ ?_
  refine lv_iload_n hx hb dX2_move_5 rfl (lv_at hl 2 rfl) ?_
  refine z_rSv [] hx hb hml hown hts (m_X2_needShelf l Dg cI s_ (by omega)) gX2_move_X2_needShelf rfl kdS_X2_needShelf ⟨Nat.le_of_ble_eq_true rfl, Nat.le_of_ble_eq_true rfl⟩ hK hN z_P0 rfl hl.1 rfl (Nat.le_of_ble_eq_true rfl) dX2_move_6 ⟨Nat.zero_le _, Nat.zero_le _⟩ ?_
  refine lv_aload_n hx hb dX2_move_9 rfl (lv_at hl 0 rfl) ?_
  refine va_get (ci := 2) (v := .ref (na 0)) (C := RX2) (T := TX2) (N := 2) hx hb hts (fun _ h => (List.mem_cons_of_mem _ (List.mem_append_left _ (List.mem_append_left _ (List.mem_append_left _ (List.mem_append_left _ (List.mem_append_right _ h))))))) hown hK hP 0 rfl rfl 0 (by decide) (hts _ (List.mem_cons_of_mem _ (List.mem_append_left _ (List.mem_append_left _ (List.mem_append_left _ (List.mem_append_left _ (List.mem_append_left _ (List.mem_append_left _ (List.mem_of_getElem? (i := 2) rfl))))))))) (fun _ h9 => h9) rfl dX2_move_10 ?_
  refine lv_iload_n hx hb dX2_move_13 rfl (lv_at hl 1 rfl) ?_
  refine z_rVi (v := z_bI (z_pl D t == 1)) [] hx hb hml hown hts (m_X1_holds l Dg cI na G D t (by omega) hG hW) gX2_move_X1_holds rfl kd_X1_holds ⟨Nat.le_of_ble_eq_true rfl, Nat.le_of_ble_eq_true rfl⟩ hK hN (z_Pm (a := [(h, .inr (2, [.ref (na 0), .ref (ta 0)]))]) (c := (z_sW cI ta G1 D1)) hP) rfl rfl rfl rfl hl.1 rfl (Nat.le_of_ble_eq_true rfl) dX2_move_14 ⟨Nat.zero_le _, Nat.zero_le _⟩ ?_
  refine lv_if_ne (tgt := 30) hx hb dX2_move_17 (by decide) (fun c17 => absurd (by rw [z_bne hp1]; rfl) c17) (fun c17 => ?_)
  exact z_th_ISE hx hb hst hown hno hlk hE hT hE.2.2.2.2.1 (hts _ (List.mem_cons_of_mem _ (List.mem_append_left _ (List.mem_append_left _ (List.mem_append_left _ (List.mem_append_left _ (List.mem_append_left _ (List.mem_append_left _ (List.mem_of_getElem? (i := 0) rfl))))))))) (hts _ (List.mem_cons_of_mem _ (List.mem_append_left _ (List.mem_append_left _ (List.mem_append_left _ (List.mem_append_left _ (List.mem_append_left _ (List.mem_append_left _ (List.mem_of_getElem? (i := 1) rfl))))))))) (fun w h => hts w (List.mem_cons_of_mem _ (List.mem_append_left _ (List.mem_append_right _ h)))) (hl.1.trans hml.symm) dX2_move_20 dX2_move_23 dX2_move_24 dX2_move_26 dX2_move_29 (Nat.le_of_ble_eq_true rfl) (Nat.le_of_ble_eq_true rfl) (Nat.le_of_ble_eq_true rfl) (Nat.le_of_ble_eq_true rfl)

set_option maxHeartbeats 4000000 in
set_option maxRecDepth 100000 in
theorem m_X2_setWarm_x1 (l : Launch) (hst : l.stackTraces = false) (Dg : va_G) (cI : ClassId) (h : Nat) (na ta : Nat → Nat) (G : z_GG) (D : z_DD) (G1 : z_GG) (D1 : z_DD) (x_ : Int32) (y_ : Int32) (e1 : ¬ (0 ≤ x_ ∧ x_ ≤ 3)) (hG : z_WG G) (hW : z_WD G D) : z_Mx l yX2_setWarm wsX2_setWarm 7 110 [.ref h, .int x_, .int y_] Dg cI (z_cW cI h na ta G D G1 D1) "java/lang/IndexOutOfBoundsException" := by
  have htc : z_tc G ≤ 60 := hG.2.2.2.2.2.1
  have hbc : z_bc G ≤ 6 := hG.2.2.2.2.1
  refine z_sx (own := RX2) (l0 := [(0, .ref h), (1, .int x_), (2, .int y_)]) rfl rfl (by decide) (Nat.le_of_ble_eq_true rfl) rfl ?_
  intro p e s m below meth c hx hb hr hml hts hown hlk hno hP hK hN hE hT ls hl
  refine lv_iload_n hx hb dX2_setWarm_0 rfl (lv_at hl 1 rfl) ?_
  exact z_pS [] hx hb hml hown hts hno hlk (m_X2_needShelf_x l hst Dg cI x_ e1) gX2_setWarm_X2_needShelf rfl kdS_X2_needShelf ⟨Nat.le_of_ble_eq_true rfl, Nat.le_of_ble_eq_true rfl⟩ hK hN hE hT z_P0 rfl hl.1 rfl (Nat.le_of_ble_eq_true rfl) dX2_setWarm_1 ⟨Nat.le_of_ble_eq_true rfl, Nat.le_of_ble_eq_true rfl⟩

set_option maxHeartbeats 4000000 in
set_option maxRecDepth 100000 in
theorem m_X2_setWarm_x2 (l : Launch) (hst : l.stackTraces = false) (Dg : va_G) (cI : ClassId) (h : Nat) (na ta : Nat → Nat) (G : z_GG) (D : z_DD) (G1 : z_GG) (D1 : z_DD) (s_ : Nat) (w_ : Int32) (hs4 : s_ < 4) (e1 : ¬ (0 ≤ w_ ∧ w_ ≤ 3)) (hG : z_WG G) (hW : z_WD G D) : z_Mx l yX2_setWarm wsX2_setWarm 7 110 [.ref h, .int (nI s_), .int w_] Dg cI (z_cW cI h na ta G D G1 D1) "java/lang/IllegalArgumentException" := by
  have htc : z_tc G ≤ 60 := hG.2.2.2.2.2.1
  have hbc : z_bc G ≤ 6 := hG.2.2.2.2.1
  refine z_sx (own := RX2) (l0 := [(0, .ref h), (1, .int (nI s_)), (2, .int w_)]) rfl rfl (by decide) (Nat.le_of_ble_eq_true rfl) rfl ?_
  intro p e s m below meth c hx hb hr hml hts hown hlk hno hP hK hN hE hT ls hl
  refine lv_iload_n hx hb dX2_setWarm_0 rfl (lv_at hl 1 rfl) ?_
  refine z_rSv [] hx hb hml hown hts (m_X2_needShelf l Dg cI s_ (by omega)) gX2_setWarm_X2_needShelf rfl kdS_X2_needShelf ⟨Nat.le_of_ble_eq_true rfl, Nat.le_of_ble_eq_true rfl⟩ hK hN z_P0 rfl hl.1 rfl (Nat.le_of_ble_eq_true rfl) dX2_setWarm_1 ⟨Nat.zero_le _, Nat.zero_le _⟩ ?_
  refine lv_iload_n hx hb dX2_setWarm_4 rfl (lv_at hl 2 rfl) ?_
  refine lv_iconst (v := 0) hx hb dX2_setWarm_5 (by decide) ?_
  refine lv_iconst (v := 3) hx hb dX2_setWarm_6 (by decide) ?_
  refine z_rSi (v := 0) [] hx hb hml hown hts (m_X2_isWithin_f l Dg cI w_ 0 3 e1) gX2_setWarm_X2_isWithin rfl kdS_X2_isWithin ⟨Nat.le_of_ble_eq_true rfl, Nat.le_of_ble_eq_true rfl⟩ hK hN z_P0 rfl hl.1 rfl (Nat.le_of_ble_eq_true rfl) dX2_setWarm_7 ⟨Nat.zero_le _, Nat.zero_le _⟩ ?_
  refine lv_if_ne (tgt := 23) hx hb dX2_setWarm_10 (by decide) (fun c10 => absurd rfl c10) (fun c10 => ?_)
  exact z_th_IAE hx hb hst hown hno hlk hE hT hE.2.2.2.2.2.1 (hts _ (List.mem_cons_of_mem _ (List.mem_append_left _ (List.mem_append_left _ (List.mem_append_left _ (List.mem_append_left _ (List.mem_append_left _ (List.mem_of_getElem? (i := 0) rfl)))))))) (hts _ (List.mem_cons_of_mem _ (List.mem_append_left _ (List.mem_append_left _ (List.mem_append_left _ (List.mem_append_left _ (List.mem_append_left _ (List.mem_of_getElem? (i := 1) rfl)))))))) (fun w h => hts w (List.mem_cons_of_mem _ (List.mem_append_left _ (List.mem_append_right _ h)))) (hl.1.trans hml.symm) dX2_setWarm_13 dX2_setWarm_16 dX2_setWarm_17 dX2_setWarm_19 dX2_setWarm_22 (Nat.le_of_ble_eq_true rfl) (Nat.le_of_ble_eq_true rfl) (Nat.le_of_ble_eq_true rfl) (Nat.le_of_ble_eq_true rfl)

set_option maxHeartbeats 4000000 in
set_option maxRecDepth 100000 in
theorem m_X2_recall_x1 (l : Launch) (hst : l.stackTraces = false) (Dg : va_G) (cI : ClassId) (h : Nat) (na ta : Nat → Nat) (G : z_GG) (D : z_DD) (G1 : z_GG) (D1 : z_DD) (x_ : Int32) (e1 : ¬ (0 ≤ x_ ∧ x_ ≤ nI (z_bc G) - 1)) (hG : z_WG G) (hW : z_WD G D) : z_Mx l yX2_recall wsX2_recall 7 111 [.ref h, .int x_] Dg cI (z_cW cI h na ta G D G1 D1) "java/lang/IndexOutOfBoundsException" := by
  have htc : z_tc G ≤ 60 := hG.2.2.2.2.2.1
  have hbc : z_bc G ≤ 6 := hG.2.2.2.2.1
  refine z_sx (own := RX2) (l0 := [(0, .ref h), (1, .int x_)]) rfl rfl (by decide) (Nat.le_of_ble_eq_true rfl) rfl ?_
  intro p e s m below meth c hx hb hr hml hts hown hlk hno hP hK hN hE hT ls hl
  refine lv_aload_n hx hb dX2_recall_0 rfl (lv_at hl 0 rfl) ?_
  refine lv_iload_n hx hb dX2_recall_1 rfl (lv_at hl 1 rfl) ?_
  exact z_pV [] hx hb hml hown hts hno hlk (m_X2_needBatch_x l hst Dg cI h na ta G D G1 D1 x_ e1) gX2_recall_X2_needBatch rfl kd_X2_needBatch ⟨Nat.le_of_ble_eq_true rfl, Nat.le_of_ble_eq_true rfl⟩ hK hN hE hT hP rfl rfl rfl rfl hl.1 rfl (Nat.le_of_ble_eq_true rfl) dX2_recall_2 ⟨Nat.le_of_ble_eq_true rfl, Nat.le_of_ble_eq_true rfl⟩

set_option maxHeartbeats 4000000 in
set_option maxRecDepth 100000 in
theorem m_X2_recall_x2 (l : Launch) (hst : l.stackTraces = false) (Dg : va_G) (cI : ClassId) (h : Nat) (na ta : Nat → Nat) (G : z_GG) (D : z_DD) (G1 : z_GG) (D1 : z_DD) (b_ : Nat) (hbb : b_ < z_bc G) (hrc : z_rc D b_ = true) (hG : z_WG G) (hW : z_WD G D) : z_Mx l yX2_recall wsX2_recall 7 111 [.ref h, .int (nI b_)] Dg cI (z_cW cI h na ta G D G1 D1) "java/lang/IllegalStateException" := by
  have htc : z_tc G ≤ 60 := hG.2.2.2.2.2.1
  have hbc : z_bc G ≤ 6 := hG.2.2.2.2.1
  refine z_sx (own := RX2) (l0 := [(0, .ref h), (1, .int (nI b_))]) rfl rfl (by decide) (Nat.le_of_ble_eq_true rfl) rfl ?_
  intro p e s m below meth c hx hb hr hml hts hown hlk hno hP hK hN hE hT ls hl
  refine lv_aload_n hx hb dX2_recall_0 rfl (lv_at hl 0 rfl) ?_
  refine lv_iload_n hx hb dX2_recall_1 rfl (lv_at hl 1 rfl) ?_
  refine z_rVv [] hx hb hml hown hts (m_X2_needBatch l Dg cI h na ta G D G1 D1 b_ (by omega) (by omega)) gX2_recall_X2_needBatch rfl kd_X2_needBatch ⟨Nat.le_of_ble_eq_true rfl, Nat.le_of_ble_eq_true rfl⟩ hK hN hP rfl rfl rfl rfl hl.1 rfl (Nat.le_of_ble_eq_true rfl) dX2_recall_2 ⟨Nat.zero_le _, Nat.zero_le _⟩ ?_
  refine lv_aload_n hx hb dX2_recall_5 rfl (lv_at hl 0 rfl) ?_
  refine va_get (ci := 2) (v := .ref (na 0)) (C := RX2) (T := TX2) (N := 2) hx hb hts (fun _ h => (List.mem_cons_of_mem _ (List.mem_append_left _ (List.mem_append_left _ (List.mem_append_left _ (List.mem_append_left _ (List.mem_append_right _ h))))))) hown hK hP 0 rfl rfl 0 (by decide) (hts _ (List.mem_cons_of_mem _ (List.mem_append_left _ (List.mem_append_left _ (List.mem_append_left _ (List.mem_append_left _ (List.mem_append_left _ (List.mem_append_left _ (List.mem_of_getElem? (i := 2) rfl))))))))) (fun _ h9 => h9) rfl dX2_recall_6 ?_
  refine lv_iload_n hx hb dX2_recall_9 rfl (lv_at hl 1 rfl) ?_
  refine z_rVi (v := z_bI (z_rc D b_)) [] hx hb hml hown hts (m_X1_isBatchRecalled l Dg cI na G D b_ (by omega)) gX2_recall_X1_isBatchRecalled rfl kd_X1_isBatchRecalled ⟨Nat.le_of_ble_eq_true rfl, Nat.le_of_ble_eq_true rfl⟩ hK hN (z_Pm (a := [(h, .inr (2, [.ref (na 0), .ref (ta 0)]))]) (c := (z_sW cI ta G1 D1)) hP) rfl rfl rfl rfl hl.1 rfl (Nat.le_of_ble_eq_true rfl) dX2_recall_10 ⟨Nat.zero_le _, Nat.zero_le _⟩ ?_
  refine lv_if_eq (tgt := 26) hx hb dX2_recall_13 (by decide) (fun c13 => absurd c13 (by rw [hrc]; decide)) (fun c13 => ?_)
  exact z_th_ISE hx hb hst hown hno hlk hE hT hE.2.2.2.2.2.2.1 (hts _ (List.mem_cons_of_mem _ (List.mem_append_left _ (List.mem_append_left _ (List.mem_append_left _ (List.mem_append_left _ (List.mem_append_left _ (List.mem_append_left _ (List.mem_of_getElem? (i := 0) rfl))))))))) (hts _ (List.mem_cons_of_mem _ (List.mem_append_left _ (List.mem_append_left _ (List.mem_append_left _ (List.mem_append_left _ (List.mem_append_left _ (List.mem_append_left _ (List.mem_of_getElem? (i := 1) rfl))))))))) (fun w h => hts w (List.mem_cons_of_mem _ (List.mem_append_left _ (List.mem_append_right _ h)))) (hl.1.trans hml.symm) dX2_recall_16 dX2_recall_19 dX2_recall_20 dX2_recall_22 dX2_recall_25 (Nat.le_of_ble_eq_true rfl) (Nat.le_of_ble_eq_true rfl) (Nat.le_of_ble_eq_true rfl) (Nat.le_of_ble_eq_true rfl)

set_option maxHeartbeats 4000000 in
set_option maxRecDepth 100000 in
theorem m_X2_pass_x1 (l : Launch) (hst : l.stackTraces = false) (Dg : va_G) (cI : ClassId) (h : Nat) (na ta : Nat → Nat) (G : z_GG) (D : z_DD) (G1 : z_GG) (D1 : z_DD) (x_ : Int32) (e1 : ¬ (1 ≤ x_ ∧ x_ ≤ 60)) (hG : z_WG G) (hW : z_WD G D) : z_Mx l yX2_pass wsX2_pass 6 90 [.ref h, .int x_] Dg cI (z_cW cI h na ta G D G1 D1) "java/lang/IllegalArgumentException" := by
  have htc : z_tc G ≤ 60 := hG.2.2.2.2.2.1
  have hbc : z_bc G ≤ 6 := hG.2.2.2.2.1
  refine z_sx (own := RX2) (l0 := [(0, .ref h), (1, .int x_)]) rfl rfl (by decide) (Nat.le_of_ble_eq_true rfl) rfl ?_
  intro p e s m below meth c hx hb hr hml hts hown hlk hno hP hK hN hE hT ls hl
  refine lv_iload_n hx hb dX2_pass_0 rfl (lv_at hl 1 rfl) ?_
  refine lv_iconst (v := 1) hx hb dX2_pass_1 (by decide) ?_
  refine lv_bipush (v := 60) hx hb dX2_pass_2 (by decide) ?_
  refine z_rSi (v := 0) [] hx hb hml hown hts (m_X2_isWithin_f l Dg cI x_ 1 60 e1) gX2_pass_X2_isWithin rfl kdS_X2_isWithin ⟨Nat.le_of_ble_eq_true rfl, Nat.le_of_ble_eq_true rfl⟩ hK hN z_P0 rfl hl.1 rfl (Nat.le_of_ble_eq_true rfl) dX2_pass_4 ⟨Nat.zero_le _, Nat.zero_le _⟩ ?_
  refine lv_if_ne (tgt := 20) hx hb dX2_pass_7 (by decide) (fun c7 => absurd rfl c7) (fun c7 => ?_)
  exact z_th_IAE hx hb hst hown hno hlk hE hT hE.2.2.2.2.2.2.2.1 (hts _ (List.mem_cons_of_mem _ (List.mem_append_left _ (List.mem_append_left _ (List.mem_append_left _ (List.mem_append_left _ (List.mem_append_left _ (List.mem_of_getElem? (i := 0) rfl)))))))) (hts _ (List.mem_cons_of_mem _ (List.mem_append_left _ (List.mem_append_left _ (List.mem_append_left _ (List.mem_append_left _ (List.mem_append_left _ (List.mem_of_getElem? (i := 1) rfl)))))))) (fun w h => hts w (List.mem_cons_of_mem _ (List.mem_append_right _ h))) (hl.1.trans hml.symm) dX2_pass_10 dX2_pass_13 dX2_pass_14 dX2_pass_16 dX2_pass_19 (Nat.le_of_ble_eq_true rfl) (Nat.le_of_ble_eq_true rfl) (Nat.le_of_ble_eq_true rfl) (Nat.le_of_ble_eq_true rfl)
