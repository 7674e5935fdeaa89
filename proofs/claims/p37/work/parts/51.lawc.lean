set_option maxHeartbeats 4000000 in
set_option maxRecDepth 100000 in
theorem m_L_below (l : Launch) (Dg : va_G) (cI cR cZ : ClassId) (v : Int32) (k : Nat) (hk : 0 < k) (hk2 : k < 2 ^ 31) : q_Mr l yL_below wsL_below 0 0 [.int v, .int (nI k)] Dg cI cR cZ ([] : va_W) (some (.int (nI (q_bl v k)))) := by
  refine q_sr (own := RL) (l0 := [(0, .int v), (1, .int (nI k))]) rfl rfl (by decide) (Nat.le_of_ble_eq_true rfl) rfl ?_
  intro p e s m below meth c hx hb hr hml hts hown hlk hP hK hN hJ ls hl
  refine lv_iload_n hx hb dL_below_0 rfl (lv_at hl 0 rfl) ?_
  refine lv_ldc (v := 2147483647) hx hb hown (hts _ (List.mem_cons_of_mem _ (List.mem_of_getElem? (i := 0) rfl))) dL_below_1 ?_
  refine lv_iand hx hb dL_below_3 ?_
  refine lv_iload_n hx hb dL_below_4 rfl (lv_at hl 1 rfl) ?_
  refine lv_irem hx hb dL_below_5 (fun z => absurd (z_eq (b := 0) hk2 (by decide) z) (by omega)) ?_
  exact z_er_i (q_bl_e v hk hk2) hx hb hr hlk dL_below_6

set_option maxHeartbeats 4000000 in
set_option maxRecDepth 100000 in
theorem m_L_cell (l : Launch) (b Ls k : Nat) (xs : Nat → Int32) (hL : Ls ≤ 260) (hk : k < 1000) : q_Ms l yL_cell wsL_cell [.ref b, .int (nI k)] b Ls xs (some (.int (q_ce Ls xs k))) := by
  refine q_ss (own := RL) (l0 := [(0, .ref b), (1, .int (nI k))]) rfl rfl (by decide) (Nat.le_of_ble_eq_true rfl) rfl ?_
  intro p e s m below meth c hx hb hr hml hts hown hlk hX hbl ls hl
  have hS : va_S z_no s.heap s.heap [] := va_S.rf
  refine lv_iload_n hx hb dL_cell_0 rfl (lv_at hl 1 rfl) ?_
  refine lv_aload_n hx hb dL_cell_1 rfl (lv_at hl 0 rfl) ?_
  refine va_slen hx hb hX hbl (fun z => z) hS dL_cell_2 ?_
  refine z_top (x' := nI Ls) rfl ?_
  refine lv_icmp_ge (tgt := 12) hx hb dL_cell_3 (by decide) (fun c3 => ?_) (fun c3 => ?_)
  · have h9 : Ls ≤ k := z_le (by omega) (by omega) c3
    refine lv_ldc (v := 790386105) hx hb hown (hts _ (List.mem_cons_of_mem _ (List.mem_of_getElem? (i := 0) rfl))) dL_cell_12 ?_
    refine lv_iload_n hx hb dL_cell_14 rfl (lv_at hl 1 rfl) ?_
    refine lv_iconst (v := nI 3) hx hb dL_cell_15 (by decide) ?_
    refine lv_iadd hx hb dL_cell_16 ?_
    refine lv_imul hx hb dL_cell_17 ?_
    exact z_er_i (by rw [q_ce, if_neg (by omega)]) hx hb hr hlk dL_cell_18
  · have h9 : k < Ls := z_nle (by omega) c3
    refine lv_aload_n hx hb dL_cell_6 rfl (lv_at hl 0 rfl) ?_
    refine lv_iload_n hx hb dL_cell_7 rfl (lv_at hl 1 rfl) ?_
    refine va_sld hx hb hX hbl (fun z => z) hS (vp_in_nI h9 (by omega)) dL_cell_8 ?_
    rw [nI_clamp (by omega)]
    refine lv_goto (tgt := 18) hx hb dL_cell_9 (by decide) ?_
    exact z_er_i (by rw [q_ce, if_pos h9]) hx hb hr hlk dL_cell_18
