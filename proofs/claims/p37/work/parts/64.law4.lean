theorem kd_X2_lostWith : yX2_lostWith.cls = RX2 ∧ yX2_lostWith.cls ≠ "java/lang/invoke/MethodHandle" ∧ yX2_lostWith.cls ≠ "java/lang/invoke/VarHandle" ∧ (parseMethodDescriptor yX2_lostWith.desc).map (fun d => d.parameters.length) = some 2 := by decide +kernel
set_option maxHeartbeats 40000000 in
set_option maxRecDepth 100000 in
theorem m_law_T4 {p : Program} {l : Launch} {e : Env} {s : State} {m : MethodId} {below : List Frame} {meth : Method} {c : Code} {b Ls : Nat} {xs : Nat → Int32} {Dg : va_G} {cI cR cZ : ClassId} (C0 : q_CL p l s m meth c b Ls xs Dg cI cR cZ) {Q : State → Prop} {h : Nat} {na ta : Nat → Nat} {sa rb rt : Nat → Nat} {G : z_GG} {D : z_DD} (hI : q_I G D) (x : Int32) (tm : Nat) (c0 s0 : Nat) (hc : c0 ≤ 700000) (hs : s0 ≤ 6000000)  (K : q_Go p l e s m below meth c b Q Dg cI cR h na ta sa rb rt G D [] 674 c0 s0 [(0, .ref b), (1, .ref h), (2, .ref (sa 0)), (3, .int (nI tm)), (5, .long (z_dg G D)), (7, .int (nI (z_tc G)))]) : q_Go p l e s m below meth c b Q Dg cI cR h na ta sa rb rt G D [] 603 c0 s0 [(0, .ref b), (1, .ref h), (2, .ref (sa 0)), (3, .int (nI tm)), (4, .int x), (5, .long (z_dg G D)), (7, .int (nI (z_tc G)))] := by
  obtain ⟨hx, hb, hr, hml, hown, hts, hXs, hbl, hlk, hK, hN, hJ, hE, hTA, hL, hst⟩ := C0
  obtain ⟨hG, hW, hB, hV, h5, h6, h7, h8, h9, h10⟩ := id hI
  have htc : z_tc G ≤ 60 := hG.2.2.2.2.2.1
  have hbc : z_bc G ≤ 6 := hG.2.2.2.2.1
  have hsd : z_sd G ≤ 9 := hG.2.2.2.2.2.2.1
  have hod : z_od G ≤ 2 := hG.2.2.2.2.2.2.2
  have hcn1 := q_cn_le (G := G) (D := D) 1
  have hcn2 := q_cn_le (G := G) (D := D) 2
  have hcn3 := q_cn_le (G := G) (D := D) 3
  have hbA : ¬ s.heap.size ≤ b := Nat.not_le.mpr hbl
  have hA : ∀ q : Nat, s.heap.size ≤ q → (fun q => s.heap.size ≤ q) q := fun _ z => z
  have hbo := q_bo_lt (G := G) (D := D)
  intro G1 D1 H locs ls hP hD hS hl
  have hP : va_P Dg vwCl (z_cW cI h na ta G D G1 D1 ++ q_W cI cR sa rb rt G D) H := hP
  have hD : va_D _ (z_cW cI h na ta G D G1 D1 ++ q_W cI cR sa rb rt G D) := hD
  refine lv_aload_n hx hb dL_law_603 rfl (lv_at hl 1 rfl) ?_
  refine z_wCBi (v := nI (z_bo G D)) [] [] (q_W cI cR sa rb rt G D) hx hb hml hown hts (m_X2_bestOrder l Dg cI h na ta G D G1 D1 hG hW) gL_law_X2_bestOrder rfl kd_X2_bestOrder ⟨Nat.le_of_ble_eq_true rfl, Nat.le_of_ble_eq_true rfl⟩ (q_KI hK) hN hP hD hS rfl hl.1 rfl (Nat.le_of_ble_eq_true rfl) dL_law_604 ⟨by show _ ≤ 801385; omega, by show _ ≤ 6697312; omega⟩ (fun G604 D604 H locs hP hD hS => ?_)
  have hP : va_P Dg vwCl (z_cW cI h na ta G D G604 D604 ++ q_W cI cR sa rb rt G D) H := hP
  have hD : va_D _ (z_cW cI h na ta G D G604 D604 ++ q_W cI cR sa rb rt G D) := hD
  refine lv_istore (lv' := [(10, .int (nI (z_bo G D))), (0, .ref b), (1, .ref h), (2, .ref (sa 0)), (3, .int (nI tm)), (4, .int x), (5, .long (z_dg G D)), (7, .int (nI (z_tc G)))]) hx hb dL_law_607 hl (by decide) rfl (fun ls hl => ?_)
  refine lv_iload hx hb dL_law_609 (lv_at hl 5 rfl) ?_
  refine lv_iconst (v := nI 4) hx hb dL_law_611 (by decide) ?_
  refine lv_ishr hx hb dL_law_612 ?_
  refine lv_iconst (v := nI 3) hx hb dL_law_613 (by decide) ?_
  refine q_rSi (v := nI (q_bl (x >>> ((nI 4) &&& 31)) 3)) [] hx hb hml hown hts (m_L_below l Dg cI cR cZ (x >>> ((nI 4) &&& 31)) 3 (by decide) (by decide)) gL_law_L_below rfl kdS_L_below ⟨Nat.le_of_ble_eq_true rfl, Nat.le_of_ble_eq_true rfl⟩ hK hN hJ z_P0 rfl rfl hl.1 (Nat.le_of_ble_eq_true rfl) dL_law_614 ⟨by show _ ≤ 801385; omega, by show _ ≤ 6697312; omega⟩ ?_
  obtain ⟨j614, hj614, ej614⟩ := q_bl_ex (x >>> ((nI 4) &&& 31)) (k := 3) (by decide)
  refine z_top (x' := nI j614) (congrArg nI ej614) ?_
  refine lv_istore (lv' := [(11, .int (nI j614)), (10, .int (nI (z_bo G D))), (0, .ref b), (1, .ref h), (2, .ref (sa 0)), (3, .int (nI tm)), (4, .int x), (5, .long (z_dg G D)), (7, .int (nI (z_tc G)))]) hx hb dL_law_617 hl (by decide) rfl (fun ls hl => ?_)
  refine lv_aload_n hx hb dL_law_619 rfl (lv_at hl 3 rfl) ?_
  refine lv_aload_n hx hb dL_law_620 rfl (lv_at hl 4 rfl) ?_
  refine va_get (ci := 3) (v := .int (nI (z_sd G))) (C := RX3) (T := TX3) (N := 6) hx hb hts (fun _ h => (List.mem_append_left _ (List.mem_append_left _ (List.mem_append_left _ (List.mem_append_left _ (List.mem_append_left _ (List.mem_append_left _ (List.mem_append_right _ h)))))))) hown hK hP 39 rfl rfl 3 (by decide) (hts _ (List.mem_append_left _ (List.mem_append_left _ (List.mem_append_left _ (List.mem_append_left _ (List.mem_append_left _ (List.mem_append_left _ (List.mem_append_left _ (List.mem_append_left _ (List.mem_append_left _ (List.mem_of_getElem? (i := 4) rfl))))))))))) (fun _ h9 => h9) rfl dL_law_621 ?_
  refine lv_iload hx hb dL_law_624 (lv_at hl 1 rfl) ?_
  refine z_wCBi (v := z_ls G D (z_sd G) (z_bo G D)) [] [] (q_W cI cR sa rb rt G D) hx hb hml hown hts (m_X2_lostWith l Dg cI h na ta G D G604 D604 (z_sd G) (z_bo G D) (by omega) (by omega) hG hW) gL_law_X2_lostWith rfl kd_X2_lostWith ⟨Nat.le_of_ble_eq_true rfl, Nat.le_of_ble_eq_true rfl⟩ (q_KI hK) hN hP hD hS rfl hl.1 rfl (Nat.le_of_ble_eq_true rfl) dL_law_626 ⟨by show _ ≤ 801385; omega, by show _ ≤ 6697312; omega⟩ (fun G626 D626 H locs hP hD hS => ?_)
  have hP : va_P Dg vwCl (z_cW cI h na ta G D G626 D626 ++ q_W cI cR sa rb rt G D) H := hP
  have hD : va_D _ (z_cW cI h na ta G D G626 D626 ++ q_W cI cR sa rb rt G D) := hD
  refine lv_aload_n hx hb dL_law_629 rfl (lv_at hl 3 rfl) ?_
  refine lv_aload_n hx hb dL_law_630 rfl (lv_at hl 4 rfl) ?_
  refine va_get (ci := 3) (v := .int (nI (z_sd G))) (C := RX3) (T := TX3) (N := 6) hx hb hts (fun _ h => (List.mem_append_left _ (List.mem_append_left _ (List.mem_append_left _ (List.mem_append_left _ (List.mem_append_left _ (List.mem_append_left _ (List.mem_append_right _ h)))))))) hown hK hP 39 rfl rfl 3 (by decide) (hts _ (List.mem_append_left _ (List.mem_append_left _ (List.mem_append_left _ (List.mem_append_left _ (List.mem_append_left _ (List.mem_append_left _ (List.mem_append_left _ (List.mem_append_left _ (List.mem_append_left _ (List.mem_of_getElem? (i := 4) rfl))))))))))) (fun _ h9 => h9) rfl dL_law_631 ?_
  refine lv_iload hx hb dL_law_634 (lv_at hl 0 rfl) ?_
  refine z_wCBi (v := z_ls G D (z_sd G) j614) [.int (z_ls G D (z_sd G) (z_bo G D))] [] (q_W cI cR sa rb rt G D) hx hb hml hown hts (m_X2_lostWith l Dg cI h na ta G D G626 D626 (z_sd G) j614 (by omega) (by omega) hG hW) gL_law_X2_lostWith rfl kd_X2_lostWith ⟨Nat.le_of_ble_eq_true rfl, Nat.le_of_ble_eq_true rfl⟩ (q_KI hK) hN hP hD hS rfl hl.1 rfl (Nat.le_of_ble_eq_true rfl) dL_law_636 ⟨by show _ ≤ 801385; omega, by show _ ≤ 6697312; omega⟩ (fun G636 D636 H locs hP hD hS => ?_)
  have hP : va_P Dg vwCl (z_cW cI h na ta G D G636 D636 ++ q_W cI cR sa rb rt G D) H := hP
  have hD : va_D _ (z_cW cI h na ta G D G636 D636 ++ q_W cI cR sa rb rt G D) := hD
  refine lv_icmp_gt (tgt := 672) hx hb dL_law_639 (by decide) (fun c639 => absurd c639 (z_i32_nlt (q_bo (by omega)).1)) (fun c639 => ?_)
  refine lv_aload_n hx hb dL_law_642 rfl (lv_at hl 3 rfl) ?_
  refine lv_aload_n hx hb dL_law_643 rfl (lv_at hl 4 rfl) ?_
  refine va_get (ci := 3) (v := .int (nI (z_sd G))) (C := RX3) (T := TX3) (N := 6) hx hb hts (fun _ h => (List.mem_append_left _ (List.mem_append_left _ (List.mem_append_left _ (List.mem_append_left _ (List.mem_append_left _ (List.mem_append_left _ (List.mem_append_right _ h)))))))) hown hK hP 39 rfl rfl 3 (by decide) (hts _ (List.mem_append_left _ (List.mem_append_left _ (List.mem_append_left _ (List.mem_append_left _ (List.mem_append_left _ (List.mem_append_left _ (List.mem_append_left _ (List.mem_append_left _ (List.mem_append_left _ (List.mem_of_getElem? (i := 4) rfl))))))))))) (fun _ h9 => h9) rfl dL_law_644 ?_
  refine lv_iload hx hb dL_law_647 (lv_at hl 1 rfl) ?_
  refine z_wCBi (v := z_ls G D (z_sd G) (z_bo G D)) [] [] (q_W cI cR sa rb rt G D) hx hb hml hown hts (m_X2_lostWith l Dg cI h na ta G D G636 D636 (z_sd G) (z_bo G D) (by omega) (by omega) hG hW) gL_law_X2_lostWith rfl kd_X2_lostWith ⟨Nat.le_of_ble_eq_true rfl, Nat.le_of_ble_eq_true rfl⟩ (q_KI hK) hN hP hD hS rfl hl.1 rfl (Nat.le_of_ble_eq_true rfl) dL_law_649 ⟨by show _ ≤ 801385; omega, by show _ ≤ 6697312; omega⟩ (fun G649 D649 H locs hP hD hS => ?_)
  have hP : va_P Dg vwCl (z_cW cI h na ta G D G649 D649 ++ q_W cI cR sa rb rt G D) H := hP
  have hD : va_D _ (z_cW cI h na ta G D G649 D649 ++ q_W cI cR sa rb rt G D) := hD
  refine lv_aload_n hx hb dL_law_652 rfl (lv_at hl 3 rfl) ?_
  refine lv_aload_n hx hb dL_law_653 rfl (lv_at hl 4 rfl) ?_
  refine va_get (ci := 3) (v := .int (nI (z_sd G))) (C := RX3) (T := TX3) (N := 6) hx hb hts (fun _ h => (List.mem_append_left _ (List.mem_append_left _ (List.mem_append_left _ (List.mem_append_left _ (List.mem_append_left _ (List.mem_append_left _ (List.mem_append_right _ h)))))))) hown hK hP 39 rfl rfl 3 (by decide) (hts _ (List.mem_append_left _ (List.mem_append_left _ (List.mem_append_left _ (List.mem_append_left _ (List.mem_append_left _ (List.mem_append_left _ (List.mem_append_left _ (List.mem_append_left _ (List.mem_append_left _ (List.mem_of_getElem? (i := 4) rfl))))))))))) (fun _ h9 => h9) rfl dL_law_654 ?_
  refine lv_iload hx hb dL_law_657 (lv_at hl 0 rfl) ?_
  refine z_wCBi (v := z_ls G D (z_sd G) j614) [.int (z_ls G D (z_sd G) (z_bo G D))] [] (q_W cI cR sa rb rt G D) hx hb hml hown hts (m_X2_lostWith l Dg cI h na ta G D G649 D649 (z_sd G) j614 (by omega) (by omega) hG hW) gL_law_X2_lostWith rfl kd_X2_lostWith ⟨Nat.le_of_ble_eq_true rfl, Nat.le_of_ble_eq_true rfl⟩ (q_KI hK) hN hP hD hS rfl hl.1 rfl (Nat.le_of_ble_eq_true rfl) dL_law_659 ⟨by show _ ≤ 801385; omega, by show _ ≤ 6697312; omega⟩ (fun G659 D659 H locs hP hD hS => ?_)
  have hP : va_P Dg vwCl (z_cW cI h na ta G D G659 D659 ++ q_W cI cR sa rb rt G D) H := hP
  have hD : va_D _ (z_cW cI h na ta G D G659 D659 ++ q_W cI cR sa rb rt G D) := hD
  refine lv_icmp_ne (tgt := 674) hx hb dL_law_662 (by decide) (fun c662 => ?_) (fun c662 => ?_)
  · skip
    exact K G659 D659 _ _ _ hP hD hS (lv_sub hl [2, 3, 4, 5, 7, 8] rfl)
  · skip
    refine lv_iload hx hb dL_law_665 (lv_at hl 0 rfl) ?_
    refine lv_iload hx hb dL_law_667 (lv_at hl 1 rfl) ?_
    refine lv_icmp_ge (tgt := 674) hx hb dL_law_669 (by decide) (fun c669 => ?_) (fun c669 => absurd (nI_le ((q_bo (by omega)).2 c662) (by omega)) c669)
    exact K G659 D659 _ _ _ hP hD hS (lv_sub hl [2, 3, 4, 5, 7, 8] rfl)

set_option maxHeartbeats 40000000 in
set_option maxRecDepth 100000 in
theorem m_law_T4b {p : Program} {l : Launch} {e : Env} {s : State} {m : MethodId} {below : List Frame} {meth : Method} {c : Code} {b Ls : Nat} {xs : Nat → Int32} {Dg : va_G} {cI cR cZ : ClassId} (C0 : q_CL p l s m meth c b Ls xs Dg cI cR cZ) {Q : State → Prop} {h : Nat} {na ta : Nat → Nat} {sa rb rt : Nat → Nat} {G : z_GG} {D : z_DD} (hI : q_I G D) (tm : Nat) (c0 s0 : Nat) (hc : c0 ≤ 700000) (hs : s0 ≤ 6000000)  (K : q_Go p l e s m below meth c b Q Dg cI cR h na ta sa rb rt G D [] 764 c0 s0 [(0, .ref b), (1, .ref h), (2, .ref (sa 0)), (3, .int (nI tm)), (7, .int (nI (z_tc G))), (13, .int (z_ls G D (z_sd G) (z_od G)))]) : q_Go p l e s m below meth c b Q Dg cI cR h na ta sa rb rt G D [] 674 c0 s0 [(0, .ref b), (1, .ref h), (2, .ref (sa 0)), (3, .int (nI tm)), (5, .long (z_dg G D)), (7, .int (nI (z_tc G)))] := by
  obtain ⟨hx, hb, hr, hml, hown, hts, hXs, hbl, hlk, hK, hN, hJ, hE, hTA, hL, hst⟩ := C0
  obtain ⟨hG, hW, hB, hV, h5, h6, h7, h8, h9, h10⟩ := id hI
  have htc : z_tc G ≤ 60 := hG.2.2.2.2.2.1
  have hbc : z_bc G ≤ 6 := hG.2.2.2.2.1
  have hsd : z_sd G ≤ 9 := hG.2.2.2.2.2.2.1
  have hod : z_od G ≤ 2 := hG.2.2.2.2.2.2.2
  have hcn1 := q_cn_le (G := G) (D := D) 1
  have hcn2 := q_cn_le (G := G) (D := D) 2
  have hcn3 := q_cn_le (G := G) (D := D) 3
  have hbA : ¬ s.heap.size ≤ b := Nat.not_le.mpr hbl
  have hA : ∀ q : Nat, s.heap.size ≤ q → (fun q => s.heap.size ≤ q) q := fun _ z => z
  intro G1 D1 H locs ls hP hD hS hl
  have hP : va_P Dg vwCl (z_cW cI h na ta G D G1 D1 ++ q_W cI cR sa rb rt G D) H := hP
  have hD : va_D _ (z_cW cI h na ta G D G1 D1 ++ q_W cI cR sa rb rt G D) := hD
  refine lv_aload_n hx hb dL_law_674 rfl (lv_at hl 1 rfl) ?_
  refine z_wCBi (v := z_wt G D) [] [] (q_W cI cR sa rb rt G D) hx hb hml hown hts (m_X2_shippingWanted l Dg cI h na ta G D G1 D1 hG hW) gL_law_X2_shippingWanted rfl kd_X2_shippingWanted ⟨Nat.le_of_ble_eq_true rfl, Nat.le_of_ble_eq_true rfl⟩ (q_KI hK) hN hP hD hS rfl hl.1 rfl (Nat.le_of_ble_eq_true rfl) dL_law_675 ⟨by show _ ≤ 801385; omega, by show _ ≤ 6697312; omega⟩ (fun G675 D675 H locs hP hD hS => ?_)
  have hP : va_P Dg vwCl (z_cW cI h na ta G D G675 D675 ++ q_W cI cR sa rb rt G D) H := hP
  have hD : va_D _ (z_cW cI h na ta G D G675 D675 ++ q_W cI cR sa rb rt G D) := hD
  refine lv_istore (lv' := [(12, .int (z_wt G D)), (0, .ref b), (1, .ref h), (2, .ref (sa 0)), (3, .int (nI tm)), (5, .long (z_dg G D)), (7, .int (nI (z_tc G)))]) hx hb dL_law_678 hl (by decide) rfl (fun ls hl => ?_)
  rcases q_wt (G := G) (D := D) with ⟨hw, hw9⟩ | ⟨kw, hk9, hw, hwz, hwm⟩
  · skip
    have hl : lv_has ls 23 [(12, .int (-1)), (0, .ref b), (1, .ref h), (2, .ref (sa 0)), (3, .int (nI tm)), (5, .long (z_dg G D)), (7, .int (nI (z_tc G)))] := by have q : z_wt G D = -1 := hw; rw [← q]; exact hl
    refine lv_iload hx hb dL_law_680 (lv_at hl 0 rfl) ?_
    refine lv_if_lt (tgt := 698) hx hb dL_law_682 (by decide) (fun c682 => ?_) (fun c682 => absurd (by decide) c682)
    refine lv_iload hx hb dL_law_698 (lv_at hl 0 rfl) ?_
    refine lv_if_le (tgt := 718) hx hb dL_law_700 (by decide) (fun c700 => ?_) (fun c700 => absurd (by decide) c700)
    refine lv_iload hx hb dL_law_718 (lv_at hl 0 rfl) ?_
    refine lv_if_ge (tgt := 738) hx hb dL_law_720 (by decide) (fun c720 => absurd c720 (by decide)) (fun c720 => ?_)
    refine lv_aload_n hx hb dL_law_723 rfl (lv_at hl 2 rfl) ?_
    refine lv_bipush (v := nI 9) hx hb dL_law_724 (by decide) ?_
    refine lv_aload_n hx hb dL_law_726 rfl (lv_at hl 3 rfl) ?_
    refine va_get (ci := 3) (v := .int (nI (z_od G))) (C := RX3) (T := TX3) (N := 6) hx hb hts (fun _ h => (List.mem_append_left _ (List.mem_append_left _ (List.mem_append_left _ (List.mem_append_left _ (List.mem_append_left _ (List.mem_append_left _ (List.mem_append_right _ h)))))))) hown hK hP 39 rfl rfl 4 (by decide) (hts _ (List.mem_append_left _ (List.mem_append_left _ (List.mem_append_left _ (List.mem_append_left _ (List.mem_append_left _ (List.mem_append_left _ (List.mem_append_left _ (List.mem_append_left _ (List.mem_append_left _ (List.mem_of_getElem? (i := 5) rfl))))))))))) (fun _ h9 => h9) rfl dL_law_727 ?_
    refine z_wCBi (v := z_ls G D 9 (z_od G)) [] [] (q_W cI cR sa rb rt G D) hx hb hml hown hts (m_X2_lostWith l Dg cI h na ta G D G675 D675 9 (z_od G) (by omega) (by omega) hG hW) gL_law_X2_lostWith rfl kd_X2_lostWith ⟨Nat.le_of_ble_eq_true rfl, Nat.le_of_ble_eq_true rfl⟩ (q_KI hK) hN hP hD hS rfl hl.1 rfl (Nat.le_of_ble_eq_true rfl) dL_law_730 ⟨by show _ ≤ 801385; omega, by show _ ≤ 6697312; omega⟩ (fun G730 D730 H locs hP hD hS => ?_)
    have hP : va_P Dg vwCl (z_cW cI h na ta G D G730 D730 ++ q_W cI cR sa rb rt G D) H := hP
    have hD : va_D _ (z_cW cI h na ta G D G730 D730 ++ q_W cI cR sa rb rt G D) := hD
    refine lv_if_ne (tgt := 738) hx hb dL_law_733 (by decide) (fun c733 => ?_) (fun c733 => absurd c733 hw9)
    refine lv_aload_n hx hb dL_law_738 rfl (lv_at hl 2 rfl) ?_
    refine lv_aload_n hx hb dL_law_739 rfl (lv_at hl 3 rfl) ?_
    refine va_get (ci := 3) (v := .int (nI (z_sd G))) (C := RX3) (T := TX3) (N := 6) hx hb hts (fun _ h => (List.mem_append_left _ (List.mem_append_left _ (List.mem_append_left _ (List.mem_append_left _ (List.mem_append_left _ (List.mem_append_left _ (List.mem_append_right _ h)))))))) hown hK hP 39 rfl rfl 3 (by decide) (hts _ (List.mem_append_left _ (List.mem_append_left _ (List.mem_append_left _ (List.mem_append_left _ (List.mem_append_left _ (List.mem_append_left _ (List.mem_append_left _ (List.mem_append_left _ (List.mem_append_left _ (List.mem_of_getElem? (i := 4) rfl))))))))))) (fun _ h9 => h9) rfl dL_law_740 ?_
    refine lv_aload_n hx hb dL_law_743 rfl (lv_at hl 3 rfl) ?_
    refine va_get (ci := 3) (v := .int (nI (z_od G))) (C := RX3) (T := TX3) (N := 6) hx hb hts (fun _ h => (List.mem_append_left _ (List.mem_append_left _ (List.mem_append_left _ (List.mem_append_left _ (List.mem_append_left _ (List.mem_append_left _ (List.mem_append_right _ h)))))))) hown hK hP 39 rfl rfl 4 (by decide) (hts _ (List.mem_append_left _ (List.mem_append_left _ (List.mem_append_left _ (List.mem_append_left _ (List.mem_append_left _ (List.mem_append_left _ (List.mem_append_left _ (List.mem_append_left _ (List.mem_append_left _ (List.mem_of_getElem? (i := 5) rfl))))))))))) (fun _ h9 => h9) rfl dL_law_744 ?_
    refine z_wCBi (v := z_ls G D (z_sd G) (z_od G)) [] [] (q_W cI cR sa rb rt G D) hx hb hml hown hts (m_X2_lostWith l Dg cI h na ta G D G730 D730 (z_sd G) (z_od G) (by omega) (by omega) hG hW) gL_law_X2_lostWith rfl kd_X2_lostWith ⟨Nat.le_of_ble_eq_true rfl, Nat.le_of_ble_eq_true rfl⟩ (q_KI hK) hN hP hD hS rfl hl.1 rfl (Nat.le_of_ble_eq_true rfl) dL_law_747 ⟨by show _ ≤ 801385; omega, by show _ ≤ 6697312; omega⟩ (fun G747 D747 H locs hP hD hS => ?_)
    have hP : va_P Dg vwCl (z_cW cI h na ta G D G747 D747 ++ q_W cI cR sa rb rt G D) H := hP
    have hD : va_D _ (z_cW cI h na ta G D G747 D747 ++ q_W cI cR sa rb rt G D) := hD
    refine lv_istore (lv' := [(13, .int (z_ls G D (z_sd G) (z_od G))), (12, .int (-1)), (0, .ref b), (1, .ref h), (2, .ref (sa 0)), (3, .int (nI tm)), (5, .long (z_dg G D)), (7, .int (nI (z_tc G)))]) hx hb dL_law_750 hl (by decide) rfl (fun ls hl => ?_)
    refine lv_aload_n hx hb dL_law_752 rfl (lv_at hl 3 rfl) ?_
    refine z_wCBl (v := z_dg G D) [] [] (q_W cI cR sa rb rt G D) hx hb hml hown hts (m_X2_digest l Dg cI h na ta G D G747 D747 hG hW) gL_law_X2_digest rfl kd_X2_digest ⟨Nat.le_of_ble_eq_true rfl, Nat.le_of_ble_eq_true rfl⟩ (q_KI hK) hN hP hD hS rfl hl.1 rfl (Nat.le_of_ble_eq_true rfl) dL_law_753 ⟨by show _ ≤ 801385; omega, by show _ ≤ 6697312; omega⟩ (fun G753 D753 H locs hP hD hS => ?_)
    have hP : va_P Dg vwCl (z_cW cI h na ta G D G753 D753 ++ q_W cI cR sa rb rt G D) H := hP
    have hD : va_D _ (z_cW cI h na ta G D G753 D753 ++ q_W cI cR sa rb rt G D) := hD
    refine lv_lload hx hb dL_law_756 (lv_at hl 6 rfl) ?_
    refine W.lcmp hx hb dL_law_758 ?_
    refine lv_if_eq (tgt := 764) hx hb dL_law_759 (by decide) (fun c759 => ?_) (fun c759 => absurd (q_lc0 _) c759)
    exact K G753 D753 _ _ _ hP hD hS (lv_sub hl [2, 3, 4, 5, 7, 0] rfl)
  · skip
    have hl : lv_has ls 23 [(12, .int (nI kw)), (0, .ref b), (1, .ref h), (2, .ref (sa 0)), (3, .int (nI tm)), (5, .long (z_dg G D)), (7, .int (nI (z_tc G)))] := by have q : z_wt G D = nI kw := hw; rw [← q]; exact hl
    refine lv_iload hx hb dL_law_680 (lv_at hl 0 rfl) ?_
    refine lv_if_lt (tgt := 698) hx hb dL_law_682 (by decide) (fun c682 => absurd c682 (nI_pos (by omega))) (fun c682 => ?_)
    refine lv_aload_n hx hb dL_law_685 rfl (lv_at hl 2 rfl) ?_
    refine lv_iload hx hb dL_law_686 (lv_at hl 0 rfl) ?_
    refine lv_aload_n hx hb dL_law_688 rfl (lv_at hl 3 rfl) ?_
    refine va_get (ci := 3) (v := .int (nI (z_od G))) (C := RX3) (T := TX3) (N := 6) hx hb hts (fun _ h => (List.mem_append_left _ (List.mem_append_left _ (List.mem_append_left _ (List.mem_append_left _ (List.mem_append_left _ (List.mem_append_left _ (List.mem_append_right _ h)))))))) hown hK hP 39 rfl rfl 4 (by decide) (hts _ (List.mem_append_left _ (List.mem_append_left _ (List.mem_append_left _ (List.mem_append_left _ (List.mem_append_left _ (List.mem_append_left _ (List.mem_append_left _ (List.mem_append_left _ (List.mem_append_left _ (List.mem_of_getElem? (i := 5) rfl))))))))))) (fun _ h9 => h9) rfl dL_law_689 ?_
    refine z_wCBi (v := z_ls G D kw (z_od G)) [] [] (q_W cI cR sa rb rt G D) hx hb hml hown hts (m_X2_lostWith l Dg cI h na ta G D G675 D675 kw (z_od G) (by omega) (by omega) hG hW) gL_law_X2_lostWith rfl kd_X2_lostWith ⟨Nat.le_of_ble_eq_true rfl, Nat.le_of_ble_eq_true rfl⟩ (q_KI hK) hN hP hD hS rfl hl.1 rfl (Nat.le_of_ble_eq_true rfl) dL_law_692 ⟨by show _ ≤ 801385; omega, by show _ ≤ 6697312; omega⟩ (fun G692 D692 H locs hP hD hS => ?_)
    have hP : va_P Dg vwCl (z_cW cI h na ta G D G692 D692 ++ q_W cI cR sa rb rt G D) H := hP
    have hD : va_D _ (z_cW cI h na ta G D G692 D692 ++ q_W cI cR sa rb rt G D) := hD
    refine lv_if_ne (tgt := 736) hx hb dL_law_695 (by decide) (fun c695 => absurd hwz c695) (fun c695 => ?_)
    refine lv_iload hx hb dL_law_698 (lv_at hl 0 rfl) ?_
    refine lv_if_le (tgt := 718) hx hb dL_law_700 (by decide) (fun c700 => ?_) (fun c700 => ?_)
    · skip
      refine lv_iload hx hb dL_law_718 (lv_at hl 0 rfl) ?_
      refine lv_if_ge (tgt := 738) hx hb dL_law_720 (by decide) (fun c720 => ?_) (fun c720 => absurd (q_0n (by omega)) c720)
      refine lv_aload_n hx hb dL_law_738 rfl (lv_at hl 2 rfl) ?_
      refine lv_aload_n hx hb dL_law_739 rfl (lv_at hl 3 rfl) ?_
      refine va_get (ci := 3) (v := .int (nI (z_sd G))) (C := RX3) (T := TX3) (N := 6) hx hb hts (fun _ h => (List.mem_append_left _ (List.mem_append_left _ (List.mem_append_left _ (List.mem_append_left _ (List.mem_append_left _ (List.mem_append_left _ (List.mem_append_right _ h)))))))) hown hK hP 39 rfl rfl 3 (by decide) (hts _ (List.mem_append_left _ (List.mem_append_left _ (List.mem_append_left _ (List.mem_append_left _ (List.mem_append_left _ (List.mem_append_left _ (List.mem_append_left _ (List.mem_append_left _ (List.mem_append_left _ (List.mem_of_getElem? (i := 4) rfl))))))))))) (fun _ h9 => h9) rfl dL_law_740 ?_
      refine lv_aload_n hx hb dL_law_743 rfl (lv_at hl 3 rfl) ?_
      refine va_get (ci := 3) (v := .int (nI (z_od G))) (C := RX3) (T := TX3) (N := 6) hx hb hts (fun _ h => (List.mem_append_left _ (List.mem_append_left _ (List.mem_append_left _ (List.mem_append_left _ (List.mem_append_left _ (List.mem_append_left _ (List.mem_append_right _ h)))))))) hown hK hP 39 rfl rfl 4 (by decide) (hts _ (List.mem_append_left _ (List.mem_append_left _ (List.mem_append_left _ (List.mem_append_left _ (List.mem_append_left _ (List.mem_append_left _ (List.mem_append_left _ (List.mem_append_left _ (List.mem_append_left _ (List.mem_of_getElem? (i := 5) rfl))))))))))) (fun _ h9 => h9) rfl dL_law_744 ?_
      refine z_wCBi (v := z_ls G D (z_sd G) (z_od G)) [] [] (q_W cI cR sa rb rt G D) hx hb hml hown hts (m_X2_lostWith l Dg cI h na ta G D G692 D692 (z_sd G) (z_od G) (by omega) (by omega) hG hW) gL_law_X2_lostWith rfl kd_X2_lostWith ⟨Nat.le_of_ble_eq_true rfl, Nat.le_of_ble_eq_true rfl⟩ (q_KI hK) hN hP hD hS rfl hl.1 rfl (Nat.le_of_ble_eq_true rfl) dL_law_747 ⟨by show _ ≤ 801385; omega, by show _ ≤ 6697312; omega⟩ (fun G747 D747 H locs hP hD hS => ?_)
      have hP : va_P Dg vwCl (z_cW cI h na ta G D G747 D747 ++ q_W cI cR sa rb rt G D) H := hP
      have hD : va_D _ (z_cW cI h na ta G D G747 D747 ++ q_W cI cR sa rb rt G D) := hD
      refine lv_istore (lv' := [(13, .int (z_ls G D (z_sd G) (z_od G))), (12, .int (nI kw)), (0, .ref b), (1, .ref h), (2, .ref (sa 0)), (3, .int (nI tm)), (5, .long (z_dg G D)), (7, .int (nI (z_tc G)))]) hx hb dL_law_750 hl (by decide) rfl (fun ls hl => ?_)
      refine lv_aload_n hx hb dL_law_752 rfl (lv_at hl 3 rfl) ?_
      refine z_wCBl (v := z_dg G D) [] [] (q_W cI cR sa rb rt G D) hx hb hml hown hts (m_X2_digest l Dg cI h na ta G D G747 D747 hG hW) gL_law_X2_digest rfl kd_X2_digest ⟨Nat.le_of_ble_eq_true rfl, Nat.le_of_ble_eq_true rfl⟩ (q_KI hK) hN hP hD hS rfl hl.1 rfl (Nat.le_of_ble_eq_true rfl) dL_law_753 ⟨by show _ ≤ 801385; omega, by show _ ≤ 6697312; omega⟩ (fun G753 D753 H locs hP hD hS => ?_)
      have hP : va_P Dg vwCl (z_cW cI h na ta G D G753 D753 ++ q_W cI cR sa rb rt G D) H := hP
      have hD : va_D _ (z_cW cI h na ta G D G753 D753 ++ q_W cI cR sa rb rt G D) := hD
      refine lv_lload hx hb dL_law_756 (lv_at hl 6 rfl) ?_
      refine W.lcmp hx hb dL_law_758 ?_
      refine lv_if_eq (tgt := 764) hx hb dL_law_759 (by decide) (fun c759 => ?_) (fun c759 => absurd (q_lc0 _) c759)
      exact K G753 D753 _ _ _ hP hD hS (lv_sub hl [2, 3, 4, 5, 7, 0] rfl)
    · skip
      have hk1 : 0 < kw := Nat.pos_of_ne_zero (fun z => c700 (by rw [z]; decide))
      refine lv_aload_n hx hb dL_law_703 rfl (lv_at hl 2 rfl) ?_
      refine lv_iload hx hb dL_law_704 (lv_at hl 0 rfl) ?_
      refine lv_iconst (v := nI 1) hx hb dL_law_706 (by decide) ?_
      refine lv_isub hx hb dL_law_707 ?_
      refine z_top (x' := nI (kw - 1)) (pk_sub (by omega)) ?_
      refine lv_aload_n hx hb dL_law_708 rfl (lv_at hl 3 rfl) ?_
      refine va_get (ci := 3) (v := .int (nI (z_od G))) (C := RX3) (T := TX3) (N := 6) hx hb hts (fun _ h => (List.mem_append_left _ (List.mem_append_left _ (List.mem_append_left _ (List.mem_append_left _ (List.mem_append_left _ (List.mem_append_left _ (List.mem_append_right _ h)))))))) hown hK hP 39 rfl rfl 4 (by decide) (hts _ (List.mem_append_left _ (List.mem_append_left _ (List.mem_append_left _ (List.mem_append_left _ (List.mem_append_left _ (List.mem_append_left _ (List.mem_append_left _ (List.mem_append_left _ (List.mem_append_left _ (List.mem_of_getElem? (i := 5) rfl))))))))))) (fun _ h9 => h9) rfl dL_law_709 ?_
      refine z_wCBi (v := z_ls G D (kw - 1) (z_od G)) [] [] (q_W cI cR sa rb rt G D) hx hb hml hown hts (m_X2_lostWith l Dg cI h na ta G D G692 D692 (kw - 1) (z_od G) (by omega) (by omega) hG hW) gL_law_X2_lostWith rfl kd_X2_lostWith ⟨Nat.le_of_ble_eq_true rfl, Nat.le_of_ble_eq_true rfl⟩ (q_KI hK) hN hP hD hS rfl hl.1 rfl (Nat.le_of_ble_eq_true rfl) dL_law_712 ⟨by show _ ≤ 801385; omega, by show _ ≤ 6697312; omega⟩ (fun G712 D712 H locs hP hD hS => ?_)
      have hP : va_P Dg vwCl (z_cW cI h na ta G D G712 D712 ++ q_W cI cR sa rb rt G D) H := hP
      have hD : va_D _ (z_cW cI h na ta G D G712 D712 ++ q_W cI cR sa rb rt G D) := hD
      refine lv_if_eq (tgt := 736) hx hb dL_law_715 (by decide) (fun c715 => absurd c715 (hwm (kw - 1) (by omega))) (fun c715 => ?_)
      refine lv_iload hx hb dL_law_718 (lv_at hl 0 rfl) ?_
      refine lv_if_ge (tgt := 738) hx hb dL_law_720 (by decide) (fun c720 => ?_) (fun c720 => absurd (q_0n (by omega)) c720)
      refine lv_aload_n hx hb dL_law_738 rfl (lv_at hl 2 rfl) ?_
      refine lv_aload_n hx hb dL_law_739 rfl (lv_at hl 3 rfl) ?_
      refine va_get (ci := 3) (v := .int (nI (z_sd G))) (C := RX3) (T := TX3) (N := 6) hx hb hts (fun _ h => (List.mem_append_left _ (List.mem_append_left _ (List.mem_append_left _ (List.mem_append_left _ (List.mem_append_left _ (List.mem_append_left _ (List.mem_append_right _ h)))))))) hown hK hP 39 rfl rfl 3 (by decide) (hts _ (List.mem_append_left _ (List.mem_append_left _ (List.mem_append_left _ (List.mem_append_left _ (List.mem_append_left _ (List.mem_append_left _ (List.mem_append_left _ (List.mem_append_left _ (List.mem_append_left _ (List.mem_of_getElem? (i := 4) rfl))))))))))) (fun _ h9 => h9) rfl dL_law_740 ?_
      refine lv_aload_n hx hb dL_law_743 rfl (lv_at hl 3 rfl) ?_
      refine va_get (ci := 3) (v := .int (nI (z_od G))) (C := RX3) (T := TX3) (N := 6) hx hb hts (fun _ h => (List.mem_append_left _ (List.mem_append_left _ (List.mem_append_left _ (List.mem_append_left _ (List.mem_append_left _ (List.mem_append_left _ (List.mem_append_right _ h)))))))) hown hK hP 39 rfl rfl 4 (by decide) (hts _ (List.mem_append_left _ (List.mem_append_left _ (List.mem_append_left _ (List.mem_append_left _ (List.mem_append_left _ (List.mem_append_left _ (List.mem_append_left _ (List.mem_append_left _ (List.mem_append_left _ (List.mem_of_getElem? (i := 5) rfl))))))))))) (fun _ h9 => h9) rfl dL_law_744 ?_
      refine z_wCBi (v := z_ls G D (z_sd G) (z_od G)) [] [] (q_W cI cR sa rb rt G D) hx hb hml hown hts (m_X2_lostWith l Dg cI h na ta G D G712 D712 (z_sd G) (z_od G) (by omega) (by omega) hG hW) gL_law_X2_lostWith rfl kd_X2_lostWith ⟨Nat.le_of_ble_eq_true rfl, Nat.le_of_ble_eq_true rfl⟩ (q_KI hK) hN hP hD hS rfl hl.1 rfl (Nat.le_of_ble_eq_true rfl) dL_law_747 ⟨by show _ ≤ 801385; omega, by show _ ≤ 6697312; omega⟩ (fun G747 D747 H locs hP hD hS => ?_)
      have hP : va_P Dg vwCl (z_cW cI h na ta G D G747 D747 ++ q_W cI cR sa rb rt G D) H := hP
      have hD : va_D _ (z_cW cI h na ta G D G747 D747 ++ q_W cI cR sa rb rt G D) := hD
      refine lv_istore (lv' := [(13, .int (z_ls G D (z_sd G) (z_od G))), (12, .int (nI kw)), (0, .ref b), (1, .ref h), (2, .ref (sa 0)), (3, .int (nI tm)), (5, .long (z_dg G D)), (7, .int (nI (z_tc G)))]) hx hb dL_law_750 hl (by decide) rfl (fun ls hl => ?_)
      refine lv_aload_n hx hb dL_law_752 rfl (lv_at hl 3 rfl) ?_
      refine z_wCBl (v := z_dg G D) [] [] (q_W cI cR sa rb rt G D) hx hb hml hown hts (m_X2_digest l Dg cI h na ta G D G747 D747 hG hW) gL_law_X2_digest rfl kd_X2_digest ⟨Nat.le_of_ble_eq_true rfl, Nat.le_of_ble_eq_true rfl⟩ (q_KI hK) hN hP hD hS rfl hl.1 rfl (Nat.le_of_ble_eq_true rfl) dL_law_753 ⟨by show _ ≤ 801385; omega, by show _ ≤ 6697312; omega⟩ (fun G753 D753 H locs hP hD hS => ?_)
      have hP : va_P Dg vwCl (z_cW cI h na ta G D G753 D753 ++ q_W cI cR sa rb rt G D) H := hP
      have hD : va_D _ (z_cW cI h na ta G D G753 D753 ++ q_W cI cR sa rb rt G D) := hD
      refine lv_lload hx hb dL_law_756 (lv_at hl 6 rfl) ?_
      refine W.lcmp hx hb dL_law_758 ?_
      refine lv_if_eq (tgt := 764) hx hb dL_law_759 (by decide) (fun c759 => ?_) (fun c759 => absurd (q_lc0 _) c759)
      exact K G753 D753 _ _ _ hP hD hS (lv_sub hl [2, 3, 4, 5, 7, 0] rfl)
