theorem kd_X3_count : yX3_count.cls = RX3 ∧ yX3_count.cls ≠ "java/lang/invoke/MethodHandle" ∧ yX3_count.cls ≠ "java/lang/invoke/VarHandle" ∧ (parseMethodDescriptor yX3_count.desc).map (fun d => d.parameters.length) = some 1 := by decide +kernel
theorem kd_X3_first : yX3_first.cls = RX3 ∧ yX3_first.cls ≠ "java/lang/invoke/MethodHandle" ∧ yX3_first.cls ≠ "java/lang/invoke/VarHandle" ∧ (parseMethodDescriptor yX3_first.desc).map (fun d => d.parameters.length) = some 1 := by decide +kernel
theorem kd_X3_pass : yX3_pass.cls = RX3 ∧ yX3_pass.cls ≠ "java/lang/invoke/MethodHandle" ∧ yX3_pass.cls ≠ "java/lang/invoke/VarHandle" ∧ (parseMethodDescriptor yX3_pass.desc).map (fun d => d.parameters.length) = some 0 := by decide +kernel
theorem kd_X3_recall : yX3_recall.cls = RX3 ∧ yX3_recall.cls ≠ "java/lang/invoke/MethodHandle" ∧ yX3_recall.cls ≠ "java/lang/invoke/VarHandle" ∧ (parseMethodDescriptor yX3_recall.desc).map (fun d => d.parameters.length) = some 1 := by decide +kernel
set_option maxHeartbeats 4000000 in
set_option maxRecDepth 100000 in
theorem m_X3_recall (l : Launch) (Dg : va_G) (cI cR cZ : ClassId) (sa rb rt : Nat → Nat) (G : z_GG) (D : z_DD) (b : Nat) (hbb : b < z_bc G) (hG : z_WG G) (hW : z_WD G D) (hB : q_B G) : q_Mw l yX3_recall wsX3_recall 0 0 [.ref (sa 0), .int (nI b)] Dg cI cR cZ (q_W cI cR sa rb rt G D) (some (.int (nI (z_rb G b D).1))) (q_W cI cR sa rb rt G ((z_rb G b D).2)) := by
  have htc : z_tc G ≤ 60 := hG.2.2.2.2.2.1
  have hbc : z_bc G ≤ 6 := hG.2.2.2.2.1
  have hb6 : b < 6 := by omega
  refine q_sw (own := RX3) (l0 := [(0, .ref (sa 0)), (1, .int (nI b))]) rfl rfl (by decide) (Nat.le_of_ble_eq_true rfl) rfl ?_
  intro p e s m below meth c hx hb hr hml hts hown hlk hP hK hN hJ hD hS ls hl
  refine lv_iconst (v := nI 0) hx hb dX3_recall_0 (by decide) ?_
  refine lv_istore_n (lv' := [(2, .int (nI 0)), (0, .ref (sa 0)), (1, .int (nI b))]) hx hb dX3_recall_1 rfl hl (by decide) rfl (fun ls hl => ?_)
  refine lv_aload_n hx hb dX3_recall_2 rfl (lv_at hl 1 rfl) ?_
  refine va_get (ci := 3) (v := .ref (sa 2)) (C := RX3) (T := TX3) (N := 6) hx hb hts (fun _ h => (List.mem_cons_of_mem _ (List.mem_append_right _ h))) hown hK hP 0 rfl rfl 1 (by decide) (hts _ (List.mem_cons_of_mem _ (List.mem_append_left _ (List.mem_of_getElem? (i := 0) rfl)))) (fun _ h9 => h9) rfl dX3_recall_3 ?_
  refine lv_iload_n hx hb dX3_recall_6 rfl (lv_at hl 2 rfl) ?_
  refine q_aald (v := rb b) hx hb hK hP 2 rfl (by omega) (by omega) rfl dX3_recall_7 ?_
  refine lv_iconst (v := nI 3) hx hb dX3_recall_8 (by decide) ?_
  refine lv_iconst (v := 1) hx hb dX3_recall_9 (by decide) ?_
  refine q_iast (ws' := q_W cI cR sa rb rt G (z_setrc D b)) hx hb hK hP hD hS (4 + b) 0 (q_gB (cI := cI) (cR := cR) (sa := sa) (rb := rb) (rt := rt) (G := G) (D := D) (by omega)) rfl (q_sB_rc (by omega)) (by decide) (by decide) dX3_recall_10 (fun H locs hP hD hS => ?_)
  refine lv_aload_n hx hb dX3_recall_11 rfl (lv_at hl 1 rfl) ?_
  refine va_get (ci := 3) (v := .ref (sa 3)) (C := RX3) (T := TX3) (N := 6) hx hb hts (fun _ h => (List.mem_cons_of_mem _ (List.mem_append_right _ h))) hown hK hP 0 rfl rfl 2 (by decide) (hts _ (List.mem_cons_of_mem _ (List.mem_append_left _ (List.mem_of_getElem? (i := 1) rfl)))) (fun _ h9 => h9) rfl dX3_recall_12 ?_
  refine lv_astore_n (lv' := [(3, .ref (sa 3)), (2, .int (nI 0)), (0, .ref (sa 0)), (1, .int (nI b))]) hx hb dX3_recall_15 rfl hl (by decide) rfl (fun ls hl => ?_)
  refine lv_aload_n hx hb dX3_recall_16 rfl (lv_at hl 0 rfl) ?_
  refine va_alen (v := nI (z_tc G)) hx hb hK hP 3 1 rfl rfl rfl dX3_recall_17 ?_
  refine lv_istore (lv' := [(4, .int (nI (z_tc G))), (3, .ref (sa 3)), (2, .int (nI 0)), (0, .ref (sa 0)), (1, .int (nI b))]) hx hb dX3_recall_18 hl (by decide) rfl (fun ls hl => ?_)
  refine lv_iconst (v := nI 0) hx hb dX3_recall_20 (by decide) ?_
  refine lv_istore (lv' := [(5, .int (nI 0)), (4, .int (nI (z_tc G))), (3, .ref (sa 3)), (2, .int (nI 0)), (0, .ref (sa 0)), (1, .int (nI b))]) hx hb dX3_recall_21 hl (by decide) rfl (fun ls hl => ?_)
  have hl : lv_has ls 7 [(5, .int (nI 0)), (4, .int (nI (z_tc G))), (3, .ref (sa 3)), (2, .int (nI (z_tb G b (z_setrc D b) 0).1)), (0, .ref (sa 0)), (1, .int (nI b))] := by have q : nI 0 = nI (z_tb G b (z_setrc D b) 0).1 := rfl; rw [← q]; exact hl
  have lp23 : ∀ (zz i : Nat) , i ≤ z_tc G → z_tc G + 1 ≤ i + zz → ∀ (H : Heap) (locs : List Loc), va_P Dg vwCl (q_W cI cR sa rb rt G ((z_tb G b (z_setrc D b) i).2)) H → va_D (z_in (q_W cI cR sa rb rt G D)) (q_W cI cR sa rb rt G ((z_tb G b (z_setrc D b) i).2)) → va_S (z_in (q_W cI cR sa rb rt G D)) s.heap H locs → ∀ ls : Array Slot, lv_has ls 7 [(0, .ref (sa 0)), (1, .int (nI b)), (2, .int (nI (z_tb G b (z_setrc D b) i).1)), (3, .ref (sa 3)), (4, .int (nI (z_tc G))), (5, .int (nI i))] → W p l e ({ frames := 0, cells := 0, slots := 0, locals := 0 } : Room) s m ([.ref (sa 0), .int (nI b)] : List Value).toArray below meth c H locs 0 0 (MQ below (z_Qw (some (.int (nI (z_rb G b D).1))) Dg (q_W cI cR sa rb rt G D) (q_W cI cR sa rb rt G ((z_rb G b D).2))) ([.ref (sa 0), .int (nI b)] : List Value).toArray s 0 0 (z_in (q_W cI cR sa rb rt G D))) (F0 m 23 ls []) := by
    intro zz
    induction zz with
    | zero => intros; exfalso; omega
    | succ zz ih23 =>
      intro i hi hzz H locs hP hD hS ls hl
      refine lv_iload hx hb dX3_recall_23 (lv_at hl 5 rfl) ?_
      refine lv_iload hx hb dX3_recall_25 (lv_at hl 4 rfl) ?_
      refine lv_icmp_ge (tgt := 68) hx hb dX3_recall_27 (by decide) (fun c27 => ?_) (fun c27 => ?_)
      · skip
        have hi2 : i = z_tc G := Nat.le_antisymm hi (z_le (by omega) (by omega) c27)
        subst hi2
        refine lv_iload_n hx hb dX3_recall_68 rfl (lv_at hl 2 rfl) ?_
        exact z_ew_i rfl hP hS hx hb hr hlk dX3_recall_69
      · skip
        have hi2 : i < z_tc G := z_nle (by omega) c27
        have hbti := hB i hi2
        have hWi : z_WD G (z_tb G b (z_setrc D b) i).2 := z_WD_tb (D := z_setrc D b) b hW i
        refine lv_aload_n hx hb dX3_recall_30 rfl (lv_at hl 3 rfl) ?_
        refine lv_iload hx hb dX3_recall_31 (lv_at hl 5 rfl) ?_
        refine q_aald (v := rt i) hx hb hK hP 3 rfl (by omega) (by omega) rfl dX3_recall_33 ?_
        refine lv_astore (lv' := [(6, .ref (rt i)), (0, .ref (sa 0)), (1, .int (nI b)), (2, .int (nI (z_tb G b (z_setrc D b) i).1)), (3, .ref (sa 3)), (4, .int (nI (z_tc G))), (5, .int (nI i))]) hx hb dX3_recall_34 hl (by decide) rfl (fun ls hl => ?_)
        refine lv_aload hx hb dX3_recall_36 (lv_at hl 0 rfl) ?_
        refine lv_iconst (v := nI 0) hx hb dX3_recall_38 (by decide) ?_
        refine z_iald hx hb hK hP (4 + (z_bc G + i)) 0 (q_gT (cI := cI) (cR := cR) (sa := sa) (rb := rb) (rt := rt) (G := G) (D := (z_tb G b (z_setrc D b) i).2) (by omega)) rfl (by decide) (by decide) dX3_recall_39 ?_
        refine z_top (x' := nI (z_bt G i)) rfl ?_
        refine lv_iload_n hx hb dX3_recall_40 rfl (lv_at hl 2 rfl) ?_
        refine lv_icmp_ne (tgt := 62) hx hb dX3_recall_41 (by decide) (fun c41 => ?_) (fun c41 => ?_)
        · skip
          refine lv_iinc (v := nI (i + 1)) (lv' := [(5, .int (nI (i + 1))), (6, .ref (rt i)), (0, .ref (sa 0)), (1, .int (nI b)), (2, .int (nI (z_tb G b (z_setrc D b) i).1)), (3, .ref (sa 3)), (4, .int (nI (z_tc G)))]) hx hb dX3_recall_62 hl (k := 6) rfl (nI_1 _) (by decide) rfl (fun ls hl => ?_)
          refine lv_goto (tgt := 23) hx hb dX3_recall_65 (by decide) ?_
          have qD1 : (z_tb G b (z_setrc D b) (i + 1)).2 = (z_tb G b (z_setrc D b) i).2 := (by rw [(z_tb_f (fun q => c41 (by rw [q.2])))])
          rw [← qD1] at hP hD
          have hP : va_P Dg vwCl (q_W cI cR sa rb rt G ((z_tb G b (z_setrc D b) (i + 1)).2)) H := hP
          have hD : va_D _ (q_W cI cR sa rb rt G ((z_tb G b (z_setrc D b) (i + 1)).2)) := hD
          have hl : lv_has ls 7 [(5, .int (nI (i + 1))), (6, .ref (rt i)), (0, .ref (sa 0)), (1, .int (nI b)), (2, .int (nI (z_tb G b (z_setrc D b) (i + 1)).1)), (3, .ref (sa 3)), (4, .int (nI (z_tc G)))] := by have q : nI (z_tb G b (z_setrc D b) i).1 = nI (z_tb G b (z_setrc D b) (i + 1)).1 := (by rw [(z_tb_f (fun q => c41 (by rw [q.2])))]); rw [← q]; exact hl
          exact ih23 (i + 1) (by omega) (by omega) _ _ hP hD hS _ (lv_sub hl [2, 3, 4, 5, 6, 0] rfl)
        · skip
          refine lv_aload hx hb dX3_recall_44 (lv_at hl 0 rfl) ?_
          refine lv_iconst (v := nI 3) hx hb dX3_recall_46 (by decide) ?_
          refine z_iald hx hb hK hP (4 + (z_bc G + i)) 0 (q_gT (cI := cI) (cR := cR) (sa := sa) (rb := rb) (rt := rt) (G := G) (D := (z_tb G b (z_setrc D b) i).2) (by omega)) rfl (by decide) (by decide) dX3_recall_47 ?_
          refine z_top (x' := nI (z_pl ((z_tb G b (z_setrc D b) i).2) i - 1)) rfl ?_
          refine lv_if_le (tgt := 54) hx hb dX3_recall_48 (by decide) (fun c48 => ?_) (fun c48 => ?_)
          · skip
            refine lv_aload hx hb dX3_recall_54 (lv_at hl 0 rfl) ?_
            refine lv_iconst (v := nI 3) hx hb dX3_recall_56 (by decide) ?_
            refine lv_iconst (v := nI 2) hx hb dX3_recall_57 (by decide) ?_
            refine q_iast (ws' := q_W cI cR sa rb rt G (z_setpl ((z_tb G b (z_setrc D b) i).2) i 3)) hx hb hK hP hD hS (4 + (z_bc G + i)) 0 (q_gT (cI := cI) (cR := cR) (sa := sa) (rb := rb) (rt := rt) (G := G) (D := (z_tb G b (z_setrc D b) i).2) (by omega)) rfl (q_sT_pl (p := 3) (by omega) rfl) (by decide) (by decide) dX3_recall_58 (fun H locs hP hD hS => ?_)
            refine lv_iinc (v := nI ((z_tb G b (z_setrc D b) i).1 + 1)) (lv' := [(2, .int (nI ((z_tb G b (z_setrc D b) i).1 + 1))), (6, .ref (rt i)), (0, .ref (sa 0)), (1, .int (nI b)), (3, .ref (sa 3)), (4, .int (nI (z_tc G))), (5, .int (nI i))]) hx hb dX3_recall_59 hl (k := 3) rfl (nI_1 _) (by decide) rfl (fun ls hl => ?_)
            refine lv_iinc (v := nI (i + 1)) (lv' := [(5, .int (nI (i + 1))), (2, .int (nI ((z_tb G b (z_setrc D b) i).1 + 1))), (6, .ref (rt i)), (0, .ref (sa 0)), (1, .int (nI b)), (3, .ref (sa 3)), (4, .int (nI (z_tc G)))]) hx hb dX3_recall_62 hl (k := 6) rfl (nI_1 _) (by decide) rfl (fun ls hl => ?_)
            refine lv_goto (tgt := 23) hx hb dX3_recall_65 (by decide) ?_
            have qD2 : (z_tb G b (z_setrc D b) (i + 1)).2 = z_setpl ((z_tb G b (z_setrc D b) i).2) i 3 := congrArg Prod.snd (z_tb_t (q_pl_le hWi hi2 c48) (z_eq (by omega) (by omega) c41))
            rw [← qD2] at hP hD
            have hP : va_P Dg vwCl (q_W cI cR sa rb rt G ((z_tb G b (z_setrc D b) (i + 1)).2)) H := hP
            have hD : va_D _ (q_W cI cR sa rb rt G ((z_tb G b (z_setrc D b) (i + 1)).2)) := hD
            have hl : lv_has ls 7 [(5, .int (nI (i + 1))), (2, .int (nI (z_tb G b (z_setrc D b) (i + 1)).1)), (6, .ref (rt i)), (0, .ref (sa 0)), (1, .int (nI b)), (3, .ref (sa 3)), (4, .int (nI (z_tc G)))] := by have q : nI ((z_tb G b (z_setrc D b) i).1 + 1) = nI (z_tb G b (z_setrc D b) (i + 1)).1 := (congrArg (fun z => nI z.1) (z_tb_t (q_pl_le hWi hi2 c48) (z_eq (by omega) (by omega) c41))).symm; rw [← q]; exact hl
            exact ih23 (i + 1) (by omega) (by omega) _ _ hP hD hS _ (lv_sub hl [3, 4, 1, 5, 6, 0] rfl)
          · skip
            refine lv_goto (tgt := 62) hx hb dX3_recall_51 (by decide) ?_
            refine lv_iinc (v := nI (i + 1)) (lv' := [(5, .int (nI (i + 1))), (6, .ref (rt i)), (0, .ref (sa 0)), (1, .int (nI b)), (2, .int (nI (z_tb G b (z_setrc D b) i).1)), (3, .ref (sa 3)), (4, .int (nI (z_tc G)))]) hx hb dX3_recall_62 hl (k := 6) rfl (nI_1 _) (by decide) rfl (fun ls hl => ?_)
            refine lv_goto (tgt := 23) hx hb dX3_recall_65 (by decide) ?_
            have qD3 : (z_tb G b (z_setrc D b) (i + 1)).2 = (z_tb G b (z_setrc D b) i).2 := (by rw [(z_tb_f (fun q => q_pl_nle c48 q.1))])
            rw [← qD3] at hP hD
            have hP : va_P Dg vwCl (q_W cI cR sa rb rt G ((z_tb G b (z_setrc D b) (i + 1)).2)) H := hP
            have hD : va_D _ (q_W cI cR sa rb rt G ((z_tb G b (z_setrc D b) (i + 1)).2)) := hD
            have hl : lv_has ls 7 [(5, .int (nI (i + 1))), (6, .ref (rt i)), (0, .ref (sa 0)), (1, .int (nI b)), (2, .int (nI (z_tb G b (z_setrc D b) (i + 1)).1)), (3, .ref (sa 3)), (4, .int (nI (z_tc G)))] := by have q : nI (z_tb G b (z_setrc D b) i).1 = nI (z_tb G b (z_setrc D b) (i + 1)).1 := (by rw [(z_tb_f (fun q => q_pl_nle c48 q.1))]); rw [← q]; exact hl
            exact ih23 (i + 1) (by omega) (by omega) _ _ hP hD hS _ (lv_sub hl [2, 3, 4, 5, 6, 0] rfl)
  exact lp23 (z_tc G + 1) 0 (by omega) (by omega) _ _ hP hD hS _ (lv_sub hl [4, 5, 3, 2, 1, 0] rfl)

set_option maxHeartbeats 4000000 in
set_option maxRecDepth 100000 in
theorem m_X3_pass (l : Launch) (Dg : va_G) (cI cR cZ : ClassId) (sa rb rt : Nat → Nat) (G : z_GG) (D : z_DD) (hG : z_WG G) (hW : z_WD G D) (hB : q_B G) (hV : q_V G D) : q_Mw l yX3_pass wsX3_pass 2 46 [.ref (sa 0)] Dg cI cR cZ (q_W cI cR sa rb rt G D) none (q_W cI cR sa rb rt G (z_day G D)) := by
  have htc : z_tc G ≤ 60 := hG.2.2.2.2.2.1
  have hbc : z_bc G ≤ 6 := hG.2.2.2.2.1
  have hsd : z_sd G ≤ 9 := hG.2.2.2.2.2.2.1
  have hod : z_od G ≤ 2 := hG.2.2.2.2.2.2.2
  refine q_sw (own := RX3) (l0 := [(0, .ref (sa 0))]) rfl rfl (by decide) (Nat.le_of_ble_eq_true rfl) rfl ?_
  intro p e s m below meth c hx hb hr hml hts hown hlk hP hK hN hJ hD hS ls hl
  refine lv_aload_n hx hb dX3_pass_0 rfl (lv_at hl 0 rfl) ?_
  refine va_get (ci := 3) (v := .ref (sa 3)) (C := RX3) (T := TX3) (N := 6) hx hb hts (fun _ h => (List.mem_cons_of_mem _ (List.mem_append_right _ h))) hown hK hP 0 rfl rfl 2 (by decide) (hts _ (List.mem_cons_of_mem _ (List.mem_append_left _ (List.mem_of_getElem? (i := 0) rfl)))) (fun _ h9 => h9) rfl dX3_pass_1 ?_
  refine lv_astore_n (lv' := [(1, .ref (sa 3)), (0, .ref (sa 0))]) hx hb dX3_pass_4 rfl hl (by decide) rfl (fun ls hl => ?_)
  refine lv_aload_n hx hb dX3_pass_5 rfl (lv_at hl 0 rfl) ?_
  refine va_alen (v := nI (z_tc G)) hx hb hK hP 3 1 rfl rfl rfl dX3_pass_6 ?_
  refine lv_istore_n (lv' := [(2, .int (nI (z_tc G))), (1, .ref (sa 3)), (0, .ref (sa 0))]) hx hb dX3_pass_7 rfl hl (by decide) rfl (fun ls hl => ?_)
  refine lv_iconst (v := nI 0) hx hb dX3_pass_8 (by decide) ?_
  refine lv_istore_n (lv' := [(3, .int (nI 0)), (2, .int (nI (z_tc G))), (1, .ref (sa 3)), (0, .ref (sa 0))]) hx hb dX3_pass_9 rfl hl (by decide) rfl (fun ls hl => ?_)
  have lp10 : ∀ (zz i : Nat) , i ≤ z_tc G → z_tc G + 1 ≤ i + zz → ∀ (H : Heap) (locs : List Loc), va_P Dg vwCl (q_W cI cR sa rb rt G (z_wn G D i)) H → va_D (z_in (q_W cI cR sa rb rt G D)) (q_W cI cR sa rb rt G (z_wn G D i)) → va_S (z_in (q_W cI cR sa rb rt G D)) s.heap H locs → ∀ ls : Array Slot, lv_has ls 5 [(0, .ref (sa 0)), (1, .ref (sa 3)), (2, .int (nI (z_tc G))), (3, .int (nI i))] → W p l e ({ frames := 2, cells := 0, slots := 0, locals := 46 } : Room) s m ([.ref (sa 0)] : List Value).toArray below meth c H locs 0 0 (MQ below (z_Qw none Dg (q_W cI cR sa rb rt G D) (q_W cI cR sa rb rt G (z_day G D))) ([.ref (sa 0)] : List Value).toArray s 0 0 (z_in (q_W cI cR sa rb rt G D))) (F0 m 10 ls []) := by
    intro zz
    induction zz with
    | zero => intros; exfalso; omega
    | succ zz ih10 =>
      intro i hi hzz H locs hP hD hS ls hl
      refine lv_iload_n hx hb dX3_pass_10 rfl (lv_at hl 3 rfl) ?_
      refine lv_iload_n hx hb dX3_pass_11 rfl (lv_at hl 2 rfl) ?_
      refine lv_icmp_ge (tgt := 99) hx hb dX3_pass_12 (by decide) (fun c12 => ?_) (fun c12 => ?_)
      · skip
        have hi2 : i = z_tc G := Nat.le_antisymm hi (z_le (by omega) (by omega) c12)
        subst hi2
        refine lv_iconst (v := nI 0) hx hb dX3_pass_99 (by decide) ?_
        refine lv_istore_n (lv' := [(1, .int (nI 0)), (0, .ref (sa 0)), (2, .int (nI (z_tc G))), (3, .int (nI (z_tc G)))]) hx hb dX3_pass_100 rfl hl (by decide) rfl (fun ls hl => ?_)
        have lp101 : ∀ (zz i : Nat) , i ≤ z_bc G → z_bc G + 1 ≤ i + zz → ∀ (H : Heap) (locs : List Loc), va_P Dg vwCl (q_W cI cR sa rb rt G (z_rn G (z_wn G D (z_tc G)) i)) H → va_D (z_in (q_W cI cR sa rb rt G D)) (q_W cI cR sa rb rt G (z_rn G (z_wn G D (z_tc G)) i)) → va_S (z_in (q_W cI cR sa rb rt G D)) s.heap H locs → ∀ ls : Array Slot, lv_has ls 5 [(0, .ref (sa 0)), (1, .int (nI i))] → W p l e ({ frames := 2, cells := 0, slots := 0, locals := 46 } : Room) s m ([.ref (sa 0)] : List Value).toArray below meth c H locs 0 0 (MQ below (z_Qw none Dg (q_W cI cR sa rb rt G D) (q_W cI cR sa rb rt G (z_day G D))) ([.ref (sa 0)] : List Value).toArray s 0 0 (z_in (q_W cI cR sa rb rt G D))) (F0 m 101 ls []) := by
          intro zz
          induction zz with
          | zero => intros; exfalso; omega
          | succ zz ih101 =>
            intro i hi hzz H locs hP hD hS ls hl
            refine lv_iload_n hx hb dX3_pass_101 rfl (lv_at hl 1 rfl) ?_
            refine lv_aload_n hx hb dX3_pass_102 rfl (lv_at hl 0 rfl) ?_
            refine va_get (ci := 3) (v := .ref (sa 2)) (C := RX3) (T := TX3) (N := 6) hx hb hts (fun _ h => (List.mem_cons_of_mem _ (List.mem_append_right _ h))) hown hK hP 0 rfl rfl 1 (by decide) (hts _ (List.mem_cons_of_mem _ (List.mem_append_left _ (List.mem_of_getElem? (i := 1) rfl)))) (fun _ h9 => h9) rfl dX3_pass_103 ?_
            refine va_alen (v := nI (z_bc G)) hx hb hK hP 2 1 rfl rfl rfl dX3_pass_106 ?_
            refine lv_icmp_ge (tgt := 145) hx hb dX3_pass_107 (by decide) (fun c107 => ?_) (fun c107 => ?_)
            · skip
              have hi2 : i = z_bc G := Nat.le_antisymm hi (z_le (by omega) (by omega) c107)
              subst hi2
              refine lv_iconst (v := nI 0) hx hb dX3_pass_145 (by decide) ?_
              refine lv_istore_n (lv' := [(1, .int (nI 0)), (0, .ref (sa 0))]) hx hb dX3_pass_146 rfl hl (by decide) rfl (fun ls hl => ?_)
              have lp147 : ∀ (zz i : Nat) , i ≤ z_sd G → z_sd G + 1 ≤ i + zz → ∀ (H : Heap) (locs : List Loc), va_P Dg vwCl (q_W cI cR sa rb rt G (z_sn G (z_rn G (z_wn G D (z_tc G)) (z_bc G)) i)) H → va_D (z_in (q_W cI cR sa rb rt G D)) (q_W cI cR sa rb rt G (z_sn G (z_rn G (z_wn G D (z_tc G)) (z_bc G)) i)) → va_S (z_in (q_W cI cR sa rb rt G D)) s.heap H locs → ∀ ls : Array Slot, lv_has ls 5 [(0, .ref (sa 0)), (1, .int (nI i))] → W p l e ({ frames := 2, cells := 0, slots := 0, locals := 46 } : Room) s m ([.ref (sa 0)] : List Value).toArray below meth c H locs 0 0 (MQ below (z_Qw none Dg (q_W cI cR sa rb rt G D) (q_W cI cR sa rb rt G (z_day G D))) ([.ref (sa 0)] : List Value).toArray s 0 0 (z_in (q_W cI cR sa rb rt G D))) (F0 m 147 ls []) := by
                intro zz
                induction zz with
                | zero => intros; exfalso; omega
                | succ zz ih147 =>
                  intro i hi hzz H locs hP hD hS ls hl
                  refine lv_iload_n hx hb dX3_pass_147 rfl (lv_at hl 1 rfl) ?_
                  refine lv_aload_n hx hb dX3_pass_148 rfl (lv_at hl 0 rfl) ?_
                  refine va_get (ci := 3) (v := .int (nI (z_sd G))) (C := RX3) (T := TX3) (N := 6) hx hb hts (fun _ h => (List.mem_cons_of_mem _ (List.mem_append_right _ h))) hown hK hP 0 rfl rfl 3 (by decide) (hts _ (List.mem_cons_of_mem _ (List.mem_append_left _ (List.mem_of_getElem? (i := 3) rfl)))) (fun _ h9 => h9) rfl dX3_pass_149 ?_
                  refine lv_icmp_ge (tgt := 183) hx hb dX3_pass_152 (by decide) (fun c152 => ?_) (fun c152 => ?_)
                  · skip
                    have hi2 : i = z_sd G := Nat.le_antisymm hi (z_le (by omega) (by omega) c152)
                    subst hi2
                    refine lv_aload_n hx hb dX3_pass_183 rfl (lv_at hl 0 rfl) ?_
                    refine lv_dup hx hb dX3_pass_184 rfl ?_
                    refine va_get (ci := 3) (v := .int (z_dy (z_sn G (z_rn G (z_wn G D (z_tc G)) (z_bc G)) (z_sd G)))) (C := RX3) (T := TX3) (N := 6) hx hb hts (fun _ h => (List.mem_cons_of_mem _ (List.mem_append_right _ h))) hown hK hP 0 rfl rfl 5 (by decide) (hts _ (List.mem_cons_of_mem _ (List.mem_append_left _ (List.mem_of_getElem? (i := 5) rfl)))) (fun _ h9 => h9) rfl dX3_pass_185 ?_
                    refine lv_iconst (v := 1) hx hb dX3_pass_188 (by decide) ?_
                    refine lv_iadd hx hb dX3_pass_189 ?_
                    refine va_put (ci := 3) (v := .int ((z_dy (z_sn G (z_rn G (z_wn G D (z_tc G)) (z_bc G)) (z_sd G))) + 1)) (ty := .int) (C := RX3) (T := TX3) (N := 6) hx hb hts (fun _ h => (List.mem_cons_of_mem _ (List.mem_append_right _ h))) tyX3 tyX3_ok nmX3 hown hK hP hD hS 0 rfl rfl 5 (by decide) (hts _ (List.mem_cons_of_mem _ (List.mem_append_left _ (List.mem_of_getElem? (i := 5) rfl)))) (fun _ h9 => h9) rfl (by decide +kernel) rfl rfl (Nat.le_of_ble_eq_true rfl) dX3_pass_190 (fun H locs hP hD hS => ?_)
                    have hP : va_P Dg vwCl (q_W cI cR sa rb rt G (z_setdy (z_sn G (z_rn G (z_wn G D (z_tc G)) (z_bc G)) (z_sd G)) ((z_dy (z_sn G (z_rn G (z_wn G D (z_tc G)) (z_bc G)) (z_sd G))) + 1))) H := hP
                    have hD : va_D _ (q_W cI cR sa rb rt G (z_setdy (z_sn G (z_rn G (z_wn G D (z_tc G)) (z_bc G)) (z_sd G)) ((z_dy (z_sn G (z_rn G (z_wn G D (z_tc G)) (z_bc G)) (z_sd G))) + 1))) := hD
                    exact z_ew_v hP hS hx hb hr hlk dX3_pass_193
                  · skip
                    have hi2 : i < z_sd G := z_nle (by omega) c152
                    refine lv_aload_n hx hb dX3_pass_155 rfl (lv_at hl 0 rfl) ?_
                    refine lv_aload_n hx hb dX3_pass_156 rfl (lv_at hl 0 rfl) ?_
                    refine va_get (ci := 3) (v := .int (nI (z_od G))) (C := RX3) (T := TX3) (N := 6) hx hb hts (fun _ h => (List.mem_cons_of_mem _ (List.mem_append_right _ h))) hown hK hP 0 rfl rfl 4 (by decide) (hts _ (List.mem_cons_of_mem _ (List.mem_append_left _ (List.mem_of_getElem? (i := 4) rfl)))) (fun _ h9 => h9) rfl dX3_pass_157 ?_
                    refine q_rVi (v := z_oi (z_fb G (z_sn G (z_rn G (z_wn G D (z_tc G)) (z_bc G)) i) (z_od G) (z_tc G))) [] hx hb hml hown hts (m_X3_first l Dg cI cR cZ sa rb rt G (z_sn G (z_rn G (z_wn G D (z_tc G)) (z_bc G)) i) (z_od G) (by omega) hG (z_WD_sn (z_WD_rn (z_WD_wn hW _) _) _) (q_V_sn (q_V_rn (q_V_wn hG hV _ (Nat.le_refl _)) _) _)) gX3_pass_X3_first rfl kd_X3_first ⟨Nat.le_of_ble_eq_true rfl, Nat.le_of_ble_eq_true rfl⟩ hK hN hJ hP rfl rfl rfl rfl rfl hl.1 (Nat.le_of_ble_eq_true rfl) dX3_pass_160 ⟨Nat.zero_le _, Nat.zero_le _⟩ ?_
                    refine lv_istore_n (lv' := [(2, .int (z_oi (z_fb G (z_sn G (z_rn G (z_wn G D (z_tc G)) (z_bc G)) i) (z_od G) (z_tc G)))), (0, .ref (sa 0)), (1, .int (nI i))]) hx hb dX3_pass_163 rfl hl (by decide) rfl (fun ls hl => ?_)
                    have hkl := Nat.le_trans (z_fb_le G (z_sn G (z_rn G (z_wn G D (z_tc G)) (z_bc G)) i) (z_od G) (z_tc G)) htc
                    have hkl2 := z_fb_le G (z_sn G (z_rn G (z_wn G D (z_tc G)) (z_bc G)) i) (z_od G) (z_tc G)
                    refine lv_iload_n hx hb dX3_pass_164 rfl (lv_at hl 0 rfl) ?_
                    refine lv_if_lt (tgt := 177) hx hb dX3_pass_165 (by decide) (fun c165 => ?_) (fun c165 => ?_)
                    · skip
                      refine lv_iinc (v := nI (i + 1)) (lv' := [(1, .int (nI (i + 1))), (2, .int (z_oi (z_fb G (z_sn G (z_rn G (z_wn G D (z_tc G)) (z_bc G)) i) (z_od G) (z_tc G)))), (0, .ref (sa 0))]) hx hb dX3_pass_177 hl (k := 2) rfl (nI_1 _) (by decide) rfl (fun ls hl => ?_)
                      refine lv_goto (tgt := 147) hx hb dX3_pass_180 (by decide) ?_
                      have qD1 : z_sn G (z_rn G (z_wn G D (z_tc G)) (z_bc G)) (i + 1) = z_sn G (z_rn G (z_wn G D (z_tc G)) (z_bc G)) i := by show z_sp _ (z_fb G (z_sn G (z_rn G (z_wn G D (z_tc G)) (z_bc G)) i) (z_od G) (z_tc G)) = _; rw [z_oi_neg hkl c165]; rfl
                      rw [← qD1] at hP hD
                      have hP : va_P Dg vwCl (q_W cI cR sa rb rt G (z_sn G (z_rn G (z_wn G D (z_tc G)) (z_bc G)) (i + 1))) H := hP
                      have hD : va_D _ (q_W cI cR sa rb rt G (z_sn G (z_rn G (z_wn G D (z_tc G)) (z_bc G)) (i + 1))) := hD
                      exact ih147 (i + 1) (by omega) (by omega) _ _ hP hD hS _ (lv_sub hl [2, 0] rfl)
                    · skip
                      have hkp : 0 < z_fb G (z_sn G (z_rn G (z_wn G D (z_tc G)) (z_bc G)) i) (z_od G) (z_tc G) := z_oi_pos c165
                      have hl : lv_has ls 5 [(2, .int (nI (z_fb G (z_sn G (z_rn G (z_wn G D (z_tc G)) (z_bc G)) i) (z_od G) (z_tc G) - 1))), (0, .ref (sa 0)), (1, .int (nI i))] := by have q : z_oi (z_fb G (z_sn G (z_rn G (z_wn G D (z_tc G)) (z_bc G)) i) (z_od G) (z_tc G)) = nI (z_fb G (z_sn G (z_rn G (z_wn G D (z_tc G)) (z_bc G)) i) (z_od G) (z_tc G) - 1) := z_oi_s hkp; rw [← q]; exact hl
                      refine lv_aload_n hx hb dX3_pass_168 rfl (lv_at hl 1 rfl) ?_
                      refine va_get (ci := 3) (v := .ref (sa 3)) (C := RX3) (T := TX3) (N := 6) hx hb hts (fun _ h => (List.mem_cons_of_mem _ (List.mem_append_right _ h))) hown hK hP 0 rfl rfl 2 (by decide) (hts _ (List.mem_cons_of_mem _ (List.mem_append_left _ (List.mem_of_getElem? (i := 0) rfl)))) (fun _ h9 => h9) rfl dX3_pass_169 ?_
                      refine lv_iload_n hx hb dX3_pass_172 rfl (lv_at hl 0 rfl) ?_
                      refine q_aald (v := rt (z_fb G (z_sn G (z_rn G (z_wn G D (z_tc G)) (z_bc G)) i) (z_od G) (z_tc G) - 1)) hx hb hK hP 3 rfl (by omega) (by omega) rfl dX3_pass_173 ?_
                      refine lv_iconst (v := nI 3) hx hb dX3_pass_174 (by decide) ?_
                      refine lv_iconst (v := nI 1) hx hb dX3_pass_175 (by decide) ?_
                      refine q_iast (ws' := q_W cI cR sa rb rt G (z_setpl (z_sn G (z_rn G (z_wn G D (z_tc G)) (z_bc G)) i) (z_fb G (z_sn G (z_rn G (z_wn G D (z_tc G)) (z_bc G)) i) (z_od G) (z_tc G) - 1) 2)) hx hb hK hP hD hS (4 + (z_bc G + (z_fb G (z_sn G (z_rn G (z_wn G D (z_tc G)) (z_bc G)) i) (z_od G) (z_tc G) - 1))) 0 (q_gT (cI := cI) (cR := cR) (sa := sa) (rb := rb) (rt := rt) (G := G) (D := z_sn G (z_rn G (z_wn G D (z_tc G)) (z_bc G)) i) (by omega)) rfl (q_sT_pl (p := 2) (by omega) rfl) (by decide) (by decide) dX3_pass_176 (fun H locs hP hD hS => ?_)
                      refine lv_iinc (v := nI (i + 1)) (lv' := [(1, .int (nI (i + 1))), (2, .int (nI (z_fb G (z_sn G (z_rn G (z_wn G D (z_tc G)) (z_bc G)) i) (z_od G) (z_tc G) - 1))), (0, .ref (sa 0))]) hx hb dX3_pass_177 hl (k := 2) rfl (nI_1 _) (by decide) rfl (fun ls hl => ?_)
                      refine lv_goto (tgt := 147) hx hb dX3_pass_180 (by decide) ?_
                      have qD2 : z_sn G (z_rn G (z_wn G D (z_tc G)) (z_bc G)) (i + 1) = z_setpl (z_sn G (z_rn G (z_wn G D (z_tc G)) (z_bc G)) i) (z_fb G (z_sn G (z_rn G (z_wn G D (z_tc G)) (z_bc G)) i) (z_od G) (z_tc G) - 1) 2 := by show z_sp _ (z_fb G (z_sn G (z_rn G (z_wn G D (z_tc G)) (z_bc G)) i) (z_od G) (z_tc G)) = _; exact z_sp_s hkp
                      rw [← qD2] at hP hD
                      have hP : va_P Dg vwCl (q_W cI cR sa rb rt G (z_sn G (z_rn G (z_wn G D (z_tc G)) (z_bc G)) (i + 1))) H := hP
                      have hD : va_D _ (q_W cI cR sa rb rt G (z_sn G (z_rn G (z_wn G D (z_tc G)) (z_bc G)) (i + 1))) := hD
                      exact ih147 (i + 1) (by omega) (by omega) _ _ hP hD hS _ (lv_sub hl [2, 0] rfl)
              exact lp147 (z_sd G + 1) 0 (by omega) (by omega) _ _ hP hD hS _ (lv_sub hl [1, 0] rfl)
            · skip
              have hi2 : i < z_bc G := z_nle (by omega) c107
              refine lv_aload_n hx hb dX3_pass_110 rfl (lv_at hl 0 rfl) ?_
              refine va_get (ci := 3) (v := .ref (sa 2)) (C := RX3) (T := TX3) (N := 6) hx hb hts (fun _ h => (List.mem_cons_of_mem _ (List.mem_append_right _ h))) hown hK hP 0 rfl rfl 1 (by decide) (hts _ (List.mem_cons_of_mem _ (List.mem_append_left _ (List.mem_of_getElem? (i := 1) rfl)))) (fun _ h9 => h9) rfl dX3_pass_111 ?_
              refine lv_iload_n hx hb dX3_pass_114 rfl (lv_at hl 1 rfl) ?_
              refine q_aald (v := rb i) hx hb hK hP 2 rfl (by omega) (by omega) rfl dX3_pass_115 ?_
              refine lv_iconst (v := nI 2) hx hb dX3_pass_116 (by decide) ?_
              refine z_iald hx hb hK hP (4 + i) 0 (q_gB (cI := cI) (cR := cR) (sa := sa) (rb := rb) (rt := rt) (G := G) (D := z_rn G (z_wn G D (z_tc G)) i) (by omega)) rfl (by decide) (by decide) dX3_pass_117 ?_
              refine z_top (x' := z_sw (z_rn G (z_wn G D (z_tc G)) i) i) rfl ?_
              refine lv_iconst (v := nI 2) hx hb dX3_pass_118 (by decide) ?_
              refine lv_icmp_le (tgt := 139) hx hb dX3_pass_119 (by decide) (fun c119 => ?_) (fun c119 => ?_)
              · skip
                refine lv_iinc (v := nI (i + 1)) (lv' := [(1, .int (nI (i + 1))), (0, .ref (sa 0))]) hx hb dX3_pass_139 hl (k := 1) rfl (nI_1 _) (by decide) rfl (fun ls hl => ?_)
                refine lv_goto (tgt := 101) hx hb dX3_pass_142 (by decide) ?_
                have qD3 : z_rn G (z_wn G D (z_tc G)) (i + 1) = z_rn G (z_wn G D (z_tc G)) i := z_rn_f (fun q => q_n3 c119 q.2)
                rw [← qD3] at hP hD
                have hP : va_P Dg vwCl (q_W cI cR sa rb rt G (z_rn G (z_wn G D (z_tc G)) (i + 1))) H := hP
                have hD : va_D _ (q_W cI cR sa rb rt G (z_rn G (z_wn G D (z_tc G)) (i + 1))) := hD
                exact ih101 (i + 1) (by omega) (by omega) _ _ hP hD hS _ (lv_sub hl [1, 0] rfl)
              · skip
                refine lv_aload_n hx hb dX3_pass_122 rfl (lv_at hl 0 rfl) ?_
                refine va_get (ci := 3) (v := .ref (sa 2)) (C := RX3) (T := TX3) (N := 6) hx hb hts (fun _ h => (List.mem_cons_of_mem _ (List.mem_append_right _ h))) hown hK hP 0 rfl rfl 1 (by decide) (hts _ (List.mem_cons_of_mem _ (List.mem_append_left _ (List.mem_of_getElem? (i := 1) rfl)))) (fun _ h9 => h9) rfl dX3_pass_123 ?_
                refine lv_iload_n hx hb dX3_pass_126 rfl (lv_at hl 1 rfl) ?_
                refine q_aald (v := rb i) hx hb hK hP 2 rfl (by omega) (by omega) rfl dX3_pass_127 ?_
                refine lv_iconst (v := nI 3) hx hb dX3_pass_128 (by decide) ?_
                refine z_iald hx hb hK hP (4 + i) 0 (q_gB (cI := cI) (cR := cR) (sa := sa) (rb := rb) (rt := rt) (G := G) (D := z_rn G (z_wn G D (z_tc G)) i) (by omega)) rfl (by decide) (by decide) dX3_pass_129 ?_
                refine z_top (x' := z_bI (z_rc (z_rn G (z_wn G D (z_tc G)) i) i)) rfl ?_
                refine lv_if_ne (tgt := 139) hx hb dX3_pass_130 (by decide) (fun c130 => ?_) (fun c130 => ?_)
                · skip
                  refine lv_iinc (v := nI (i + 1)) (lv' := [(1, .int (nI (i + 1))), (0, .ref (sa 0))]) hx hb dX3_pass_139 hl (k := 1) rfl (nI_1 _) (by decide) rfl (fun ls hl => ?_)
                  refine lv_goto (tgt := 101) hx hb dX3_pass_142 (by decide) ?_
                  have qD4 : z_rn G (z_wn G D (z_tc G)) (i + 1) = z_rn G (z_wn G D (z_tc G)) i := z_rn_f (fun q => c130 (by rw [q.1]; rfl))
                  rw [← qD4] at hP hD
                  have hP : va_P Dg vwCl (q_W cI cR sa rb rt G (z_rn G (z_wn G D (z_tc G)) (i + 1))) H := hP
                  have hD : va_D _ (q_W cI cR sa rb rt G (z_rn G (z_wn G D (z_tc G)) (i + 1))) := hD
                  exact ih101 (i + 1) (by omega) (by omega) _ _ hP hD hS _ (lv_sub hl [1, 0] rfl)
                · skip
                  refine lv_aload_n hx hb dX3_pass_133 rfl (lv_at hl 0 rfl) ?_
                  refine lv_iload_n hx hb dX3_pass_134 rfl (lv_at hl 1 rfl) ?_
                  refine q_wVi (v := nI (z_rb G i (z_rn G (z_wn G D (z_tc G)) i)).1) (pre := []) (post := []) [] hx hb hml hown hts (m_X3_recall l Dg cI cR cZ sa rb rt G (z_rn G (z_wn G D (z_tc G)) i) i (by omega) hG (z_WD_rn (z_WD_wn hW _) i) hB) gX3_pass_X3_recall rfl kd_X3_recall ⟨Nat.le_of_ble_eq_true rfl, Nat.le_of_ble_eq_true rfl⟩ hK hN hJ (q_nilP (pre := []) hP) (q_nilD (pre := []) hD) hS (q_fst rfl rfl) rfl rfl rfl rfl rfl hl.1 (Nat.le_of_ble_eq_true rfl) dX3_pass_135 ⟨Nat.zero_le _, Nat.zero_le _⟩ (fun H locs hP hD hS => ?_)
                  rw [List.append_nil] at hP hD
                  have hP : va_P Dg vwCl (q_W cI cR sa rb rt G ((z_rb G i (z_rn G (z_wn G D (z_tc G)) i)).2)) H := hP
                  have hD : va_D _ (q_W cI cR sa rb rt G ((z_rb G i (z_rn G (z_wn G D (z_tc G)) i)).2)) := hD
                  refine lv_pop hx hb dX3_pass_138 rfl ?_
                  refine lv_iinc (v := nI (i + 1)) (lv' := [(1, .int (nI (i + 1))), (0, .ref (sa 0))]) hx hb dX3_pass_139 hl (k := 1) rfl (nI_1 _) (by decide) rfl (fun ls hl => ?_)
                  refine lv_goto (tgt := 101) hx hb dX3_pass_142 (by decide) ?_
                  have qD5 : z_rn G (z_wn G D (z_tc G)) (i + 1) = (z_rb G i (z_rn G (z_wn G D (z_tc G)) i)).2 := z_rn_t (z_bI0 c130) (q_3 c119)
                  rw [← qD5] at hP hD
                  have hP : va_P Dg vwCl (q_W cI cR sa rb rt G (z_rn G (z_wn G D (z_tc G)) (i + 1))) H := hP
                  have hD : va_D _ (q_W cI cR sa rb rt G (z_rn G (z_wn G D (z_tc G)) (i + 1))) := hD
                  exact ih101 (i + 1) (by omega) (by omega) _ _ hP hD hS _ (lv_sub hl [1, 0] rfl)
        exact lp101 (z_bc G + 1) 0 (by omega) (by omega) _ _ hP hD hS _ (lv_sub hl [1, 0] rfl)
      · skip
        have hi2 : i < z_tc G := z_nle (by omega) c12
        have hWi : z_WD G (z_wn G D i) := z_WD_wn hW i
        refine lv_aload_n hx hb dX3_pass_15 rfl (lv_at hl 1 rfl) ?_
        refine lv_iload_n hx hb dX3_pass_16 rfl (lv_at hl 3 rfl) ?_
        refine q_aald (v := rt i) hx hb hK hP 3 rfl (by omega) (by omega) rfl dX3_pass_17 ?_
        refine lv_astore (lv' := [(4, .ref (rt i)), (0, .ref (sa 0)), (1, .ref (sa 3)), (2, .int (nI (z_tc G))), (3, .int (nI i))]) hx hb dX3_pass_18 hl (by decide) rfl (fun ls hl => ?_)
        refine lv_aload hx hb dX3_pass_20 (lv_at hl 0 rfl) ?_
        refine lv_iconst (v := nI 3) hx hb dX3_pass_22 (by decide) ?_
        refine z_iald hx hb hK hP (4 + (z_bc G + i)) 0 (q_gT (cI := cI) (cR := cR) (sa := sa) (rb := rb) (rt := rt) (G := G) (D := z_wn G D i) (by omega)) rfl (by decide) (by decide) dX3_pass_23 ?_
        refine z_top (x' := nI (z_pl (z_wn G D i) i - 1)) rfl ?_
        refine lv_if_le (tgt := 30) hx hb dX3_pass_24 (by decide) (fun c24 => ?_) (fun c24 => ?_)
        · skip
          refine lv_aload hx hb dX3_pass_30 (lv_at hl 0 rfl) ?_
          refine lv_iconst (v := nI 2) hx hb dX3_pass_32 (by decide) ?_
          refine lv_dup2_11 hx hb dX3_pass_33 rfl rfl ?_
          refine z_iald hx hb hK hP (4 + (z_bc G + i)) 0 (q_gT (cI := cI) (cR := cR) (sa := sa) (rb := rb) (rt := rt) (G := G) (D := z_wn G D i) (by omega)) rfl (by decide) (by decide) dX3_pass_34 ?_
          refine z_top (x' := z_vc (z_wn G D i) i) rfl ?_
          refine lv_aload_n hx hb dX3_pass_35 rfl (lv_at hl 1 rfl) ?_
          refine va_get (ci := 3) (v := .ref (sa 2)) (C := RX3) (T := TX3) (N := 6) hx hb hts (fun _ h => (List.mem_cons_of_mem _ (List.mem_append_right _ h))) hown hK hP 0 rfl rfl 1 (by decide) (hts _ (List.mem_cons_of_mem _ (List.mem_append_left _ (List.mem_of_getElem? (i := 1) rfl)))) (fun _ h9 => h9) rfl dX3_pass_36 ?_
          refine lv_aload hx hb dX3_pass_39 (lv_at hl 0 rfl) ?_
          refine lv_iconst (v := nI 0) hx hb dX3_pass_41 (by decide) ?_
          refine z_iald hx hb hK hP (4 + (z_bc G + i)) 0 (q_gT (cI := cI) (cR := cR) (sa := sa) (rb := rb) (rt := rt) (G := G) (D := z_wn G D i) (by omega)) rfl (by decide) (by decide) dX3_pass_42 ?_
          refine z_top (x' := nI (z_bt G i)) rfl ?_
          have hbt6 := hB i (by omega)
          refine q_aald (v := rb (z_bt G i)) hx hb hK hP 2 rfl (by omega) (by omega) rfl dX3_pass_43 ?_
          refine lv_iconst (v := nI 1) hx hb dX3_pass_44 (by decide) ?_
          refine z_iald hx hb hK hP (4 + (z_bt G i)) 0 (q_gB (cI := cI) (cR := cR) (sa := sa) (rb := rb) (rt := rt) (G := G) (D := z_wn G D i) (by omega)) rfl (by decide) (by decide) dX3_pass_45 ?_
          refine z_top (x' := z_lk G (z_bt G i)) rfl ?_
          refine lv_aload_n hx hb dX3_pass_46 rfl (lv_at hl 1 rfl) ?_
          refine va_get (ci := 3) (v := .ref (sa 1)) (C := RX3) (T := TX3) (N := 6) hx hb hts (fun _ h => (List.mem_cons_of_mem _ (List.mem_append_right _ h))) hown hK hP 0 rfl rfl 0 (by decide) (hts _ (List.mem_cons_of_mem _ (List.mem_append_left _ (List.mem_of_getElem? (i := 2) rfl)))) (fun _ h9 => h9) rfl dX3_pass_47 ?_
          refine lv_aload hx hb dX3_pass_50 (lv_at hl 0 rfl) ?_
          refine lv_iconst (v := nI 1) hx hb dX3_pass_52 (by decide) ?_
          refine z_iald hx hb hK hP (4 + (z_bc G + i)) 0 (q_gT (cI := cI) (cR := cR) (sa := sa) (rb := rb) (rt := rt) (G := G) (D := z_wn G D i) (by omega)) rfl (by decide) (by decide) dX3_pass_53 ?_
          refine z_top (x' := nI (z_sh G i)) rfl ?_
          have hsh7 := hG.2.2.2.1 i
          refine z_iald hx hb hK hP 1 0 rfl rfl (by omega) (by decide) dX3_pass_54 ?_
          refine z_top (x' := z_wm G (z_sh G i)) rfl ?_
          refine lv_iadd hx hb dX3_pass_55 ?_
          refine lv_isub hx hb dX3_pass_56 ?_
          refine z_top (x' := z_vc (z_wn G D i) i - z_rt G i (z_sh G i)) rfl ?_
          refine q_iast (ws' := q_W cI cR sa rb rt G (z_setvc (z_wn G D i) i (z_vc (z_wn G D i) i - z_rt G i (z_sh G i)))) hx hb hK hP hD hS (4 + (z_bc G + i)) 0 (q_gT (cI := cI) (cR := cR) (sa := sa) (rb := rb) (rt := rt) (G := G) (D := z_wn G D i) (by omega)) rfl (q_sT_vc (by omega)) (by decide) (by decide) dX3_pass_57 (fun H locs hP hD hS => ?_)
          refine lv_aload hx hb dX3_pass_58 (lv_at hl 0 rfl) ?_
          refine lv_iconst (v := nI 2) hx hb dX3_pass_60 (by decide) ?_
          refine z_iald hx hb hK hP (4 + (z_bc G + i)) 0 (q_gT (cI := cI) (cR := cR) (sa := sa) (rb := rb) (rt := rt) (G := G) (D := z_setvc (z_wn G D i) i (z_vc (z_wn G D i) i - z_rt G i (z_sh G i))) (by omega)) rfl (by decide) (by decide) dX3_pass_61 ?_
          refine z_top (x' := z_vc (z_setvc (z_wn G D i) i (z_vc (z_wn G D i) i - z_rt G i (z_sh G i))) i) rfl ?_
          refine lv_if_le (tgt := 68) hx hb dX3_pass_62 (by decide) (fun c62 => ?_) (fun c62 => ?_)
          · skip
            refine lv_aload hx hb dX3_pass_68 (lv_at hl 0 rfl) ?_
            refine lv_iconst (v := nI 2) hx hb dX3_pass_70 (by decide) ?_
            refine lv_iconst (v := 0) hx hb dX3_pass_71 (by decide) ?_
            refine q_iast (ws' := q_W cI cR sa rb rt G (z_setvc (z_setvc (z_wn G D i) i (z_vc (z_wn G D i) i - z_rt G i (z_sh G i))) i 0)) hx hb hK hP hD hS (4 + (z_bc G + i)) 0 (q_gT (cI := cI) (cR := cR) (sa := sa) (rb := rb) (rt := rt) (G := G) (D := z_setvc (z_wn G D i) i (z_vc (z_wn G D i) i - z_rt G i (z_sh G i))) (by omega)) rfl (q_sT_vc (by omega)) (by decide) (by decide) dX3_pass_72 (fun H locs hP hD hS => ?_)
            refine lv_aload hx hb dX3_pass_73 (lv_at hl 0 rfl) ?_
            refine lv_iconst (v := nI 3) hx hb dX3_pass_75 (by decide) ?_
            refine lv_iconst (v := nI 2) hx hb dX3_pass_76 (by decide) ?_
            refine q_iast (ws' := q_W cI cR sa rb rt G (z_setpl (z_setvc (z_setvc (z_wn G D i) i (z_vc (z_wn G D i) i - z_rt G i (z_sh G i))) i 0) i 3)) hx hb hK hP hD hS (4 + (z_bc G + i)) 0 (q_gT (cI := cI) (cR := cR) (sa := sa) (rb := rb) (rt := rt) (G := G) (D := z_setvc (z_setvc (z_wn G D i) i (z_vc (z_wn G D i) i - z_rt G i (z_sh G i))) i 0) (by omega)) rfl (q_sT_pl (p := 3) (by omega) rfl) (by decide) (by decide) dX3_pass_77 (fun H locs hP hD hS => ?_)
            refine lv_aload_n hx hb dX3_pass_78 rfl (lv_at hl 1 rfl) ?_
            refine va_get (ci := 3) (v := .ref (sa 2)) (C := RX3) (T := TX3) (N := 6) hx hb hts (fun _ h => (List.mem_cons_of_mem _ (List.mem_append_right _ h))) hown hK hP 0 rfl rfl 1 (by decide) (hts _ (List.mem_cons_of_mem _ (List.mem_append_left _ (List.mem_of_getElem? (i := 1) rfl)))) (fun _ h9 => h9) rfl dX3_pass_79 ?_
            refine lv_aload hx hb dX3_pass_82 (lv_at hl 0 rfl) ?_
            refine lv_iconst (v := nI 0) hx hb dX3_pass_84 (by decide) ?_
            refine z_iald hx hb hK hP (4 + (z_bc G + i)) 0 (q_gT (cI := cI) (cR := cR) (sa := sa) (rb := rb) (rt := rt) (G := G) (D := z_setpl (z_setvc (z_setvc (z_wn G D i) i (z_vc (z_wn G D i) i - z_rt G i (z_sh G i))) i 0) i 3) (by omega)) rfl (by decide) (by decide) dX3_pass_85 ?_
            refine z_top (x' := nI (z_bt G i)) rfl ?_
            have hbt8 := hB i (by omega)
            refine q_aald (v := rb (z_bt G i)) hx hb hK hP 2 rfl (by omega) (by omega) rfl dX3_pass_86 ?_
            refine lv_iconst (v := nI 2) hx hb dX3_pass_87 (by decide) ?_
            refine lv_dup2_11 hx hb dX3_pass_88 rfl rfl ?_
            refine z_iald hx hb hK hP (4 + (z_bt G i)) 0 (q_gB (cI := cI) (cR := cR) (sa := sa) (rb := rb) (rt := rt) (G := G) (D := z_setpl (z_setvc (z_setvc (z_wn G D i) i (z_vc (z_wn G D i) i - z_rt G i (z_sh G i))) i 0) i 3) (by omega)) rfl (by decide) (by decide) dX3_pass_89 ?_
            refine z_top (x' := z_sw (z_setpl (z_setvc (z_setvc (z_wn G D i) i (z_vc (z_wn G D i) i - z_rt G i (z_sh G i))) i 0) i 3) (z_bt G i)) rfl ?_
            refine lv_iconst (v := 1) hx hb dX3_pass_90 (by decide) ?_
            refine lv_iadd hx hb dX3_pass_91 ?_
            refine q_iast (ws' := q_W cI cR sa rb rt G (z_addsw (z_setpl (z_setvc (z_setvc (z_wn G D i) i (z_vc (z_wn G D i) i - z_rt G i (z_sh G i))) i 0) i 3) (z_bt G i))) hx hb hK hP hD hS (4 + (z_bt G i)) 0 (q_gB (cI := cI) (cR := cR) (sa := sa) (rb := rb) (rt := rt) (G := G) (D := z_setpl (z_setvc (z_setvc (z_wn G D i) i (z_vc (z_wn G D i) i - z_rt G i (z_sh G i))) i 0) i 3) (by omega)) rfl (q_sB_sw (by omega) rfl) (by decide) (by decide) dX3_pass_92 (fun H locs hP hD hS => ?_)
            refine lv_iinc (v := nI (i + 1)) (lv' := [(3, .int (nI (i + 1))), (4, .ref (rt i)), (0, .ref (sa 0)), (1, .ref (sa 3)), (2, .int (nI (z_tc G)))]) hx hb dX3_pass_93 hl (k := 4) rfl (nI_1 _) (by decide) rfl (fun ls hl => ?_)
            refine lv_goto (tgt := 10) hx hb dX3_pass_96 (by decide) ?_
            have qD9 : z_wn G D (i + 1) = z_addsw (z_setpl (z_setvc (z_setvc (z_wn G D i) i (z_vc (z_wn G D i) i - z_rt G i (z_sh G i))) i 0) i 3) (z_bt G i) := q_wn_2 (q_pl_le hWi hi2 c24) c62
            rw [← qD9] at hP hD
            have hP : va_P Dg vwCl (q_W cI cR sa rb rt G (z_wn G D (i + 1))) H := hP
            have hD : va_D _ (q_W cI cR sa rb rt G (z_wn G D (i + 1))) := hD
            exact ih10 (i + 1) (by omega) (by omega) _ _ hP hD hS _ (lv_sub hl [2, 3, 4, 0] rfl)
          · skip
            refine lv_goto (tgt := 93) hx hb dX3_pass_65 (by decide) ?_
            refine lv_iinc (v := nI (i + 1)) (lv' := [(3, .int (nI (i + 1))), (4, .ref (rt i)), (0, .ref (sa 0)), (1, .ref (sa 3)), (2, .int (nI (z_tc G)))]) hx hb dX3_pass_93 hl (k := 4) rfl (nI_1 _) (by decide) rfl (fun ls hl => ?_)
            refine lv_goto (tgt := 10) hx hb dX3_pass_96 (by decide) ?_
            have qD10 : z_wn G D (i + 1) = z_setvc (z_wn G D i) i (z_vc (z_wn G D i) i - z_rt G i (z_sh G i)) := q_wn_1 (q_pl_le hWi hi2 c24) c62
            rw [← qD10] at hP hD
            have hP : va_P Dg vwCl (q_W cI cR sa rb rt G (z_wn G D (i + 1))) H := hP
            have hD : va_D _ (q_W cI cR sa rb rt G (z_wn G D (i + 1))) := hD
            exact ih10 (i + 1) (by omega) (by omega) _ _ hP hD hS _ (lv_sub hl [2, 3, 4, 0] rfl)
        · skip
          refine lv_goto (tgt := 93) hx hb dX3_pass_27 (by decide) ?_
          refine lv_iinc (v := nI (i + 1)) (lv' := [(3, .int (nI (i + 1))), (4, .ref (rt i)), (0, .ref (sa 0)), (1, .ref (sa 3)), (2, .int (nI (z_tc G)))]) hx hb dX3_pass_93 hl (k := 4) rfl (nI_1 _) (by decide) rfl (fun ls hl => ?_)
          refine lv_goto (tgt := 10) hx hb dX3_pass_96 (by decide) ?_
          have qD11 : z_wn G D (i + 1) = z_wn G D i := z_wn_0 (q_pl_nle c24)
          rw [← qD11] at hP hD
          have hP : va_P Dg vwCl (q_W cI cR sa rb rt G (z_wn G D (i + 1))) H := hP
          have hD : va_D _ (q_W cI cR sa rb rt G (z_wn G D (i + 1))) := hD
          exact ih10 (i + 1) (by omega) (by omega) _ _ hP hD hS _ (lv_sub hl [2, 3, 4, 0] rfl)
  exact lp10 (z_tc G + 1) 0 (by omega) (by omega) _ _ hP hD hS _ (lv_sub hl [3, 2, 1, 0] rfl)

set_option maxHeartbeats 4000000 in
set_option maxRecDepth 100000 in
theorem m_X3_pass_ (l : Launch) (Dg : va_G) (cI cR cZ : ClassId) (sa rb rt : Nat → Nat) (G : z_GG) (D : z_DD) (k : Nat) (hk : k ≤ 60) (hG : z_WG G) (hW : z_WD G D) (hB : q_B G) (hV : q_V G D) : q_Mw l yX3_pass_ wsX3_pass_ 3 70 [.ref (sa 0), .int (nI k)] Dg cI cR cZ (q_W cI cR sa rb rt G D) (some (.int (nI (z_cn G (z_days G D k) 2) - nI (z_cn G D 2)))) (q_W cI cR sa rb rt G (z_days G D k)) := by
  have htc : z_tc G ≤ 60 := hG.2.2.2.2.2.1
  have hbc : z_bc G ≤ 6 := hG.2.2.2.2.1
  refine q_sw (own := RX3) (l0 := [(0, .ref (sa 0)), (1, .int (nI k))]) rfl rfl (by decide) (Nat.le_of_ble_eq_true rfl) rfl ?_
  intro p e s m below meth c hx hb hr hml hts hown hlk hP hK hN hJ hD hS ls hl
  refine lv_aload_n hx hb dX3_pass__0 rfl (lv_at hl 0 rfl) ?_
  refine lv_iconst (v := nI 1) hx hb dX3_pass__1 (by decide) ?_
  refine q_rVi (v := nI (z_cn G D (1 + 1))) [] hx hb hml hown hts (m_X3_count l Dg cI cR cZ sa rb rt G D 1 (by decide) hG hW) gX3_pass__X3_count rfl kd_X3_count ⟨Nat.le_of_ble_eq_true rfl, Nat.le_of_ble_eq_true rfl⟩ hK hN hJ hP rfl rfl rfl rfl rfl hl.1 (Nat.le_of_ble_eq_true rfl) dX3_pass__2 ⟨Nat.zero_le _, Nat.zero_le _⟩ ?_
  refine lv_istore_n (lv' := [(2, .int (nI (z_cn G D (1 + 1)))), (0, .ref (sa 0)), (1, .int (nI k))]) hx hb dX3_pass__5 rfl hl (by decide) rfl (fun ls hl => ?_)
  refine lv_iconst (v := nI 0) hx hb dX3_pass__6 (by decide) ?_
  refine lv_istore_n (lv' := [(3, .int (nI 0)), (2, .int (nI (z_cn G D (1 + 1)))), (0, .ref (sa 0)), (1, .int (nI k))]) hx hb dX3_pass__7 rfl hl (by decide) rfl (fun ls hl => ?_)
  have lp8 : ∀ (zz i : Nat) , i ≤ k → k + 1 ≤ i + zz → ∀ (H : Heap) (locs : List Loc), va_P Dg vwCl (q_W cI cR sa rb rt G (z_days G D i)) H → va_D (z_in (q_W cI cR sa rb rt G D)) (q_W cI cR sa rb rt G (z_days G D i)) → va_S (z_in (q_W cI cR sa rb rt G D)) s.heap H locs → ∀ ls : Array Slot, lv_has ls 4 [(0, .ref (sa 0)), (1, .int (nI k)), (2, .int (nI (z_cn G D 2))), (3, .int (nI i))] → W p l e ({ frames := 3, cells := 0, slots := 0, locals := 70 } : Room) s m ([.ref (sa 0), .int (nI k)] : List Value).toArray below meth c H locs 0 0 (MQ below (z_Qw (some (.int (nI (z_cn G (z_days G D k) 2) - nI (z_cn G D 2)))) Dg (q_W cI cR sa rb rt G D) (q_W cI cR sa rb rt G (z_days G D k))) ([.ref (sa 0), .int (nI k)] : List Value).toArray s 0 0 (z_in (q_W cI cR sa rb rt G D))) (F0 m 8 ls []) := by
    intro zz
    induction zz with
    | zero => intros; exfalso; omega
    | succ zz ih8 =>
      intro i hi hzz H locs hP hD hS ls hl
      refine lv_iload_n hx hb dX3_pass__8 rfl (lv_at hl 3 rfl) ?_
      refine lv_iload_n hx hb dX3_pass__9 rfl (lv_at hl 1 rfl) ?_
      refine lv_icmp_ge (tgt := 23) hx hb dX3_pass__10 (by decide) (fun c10 => ?_) (fun c10 => ?_)
      · skip
        have hi2 : k = i := (Nat.le_antisymm hi (z_le (by omega) (by omega) c10)).symm
        subst hi2
        refine lv_aload_n hx hb dX3_pass__23 rfl (lv_at hl 0 rfl) ?_
        refine lv_iconst (v := nI 1) hx hb dX3_pass__24 (by decide) ?_
        refine q_rVi (v := nI (z_cn G (z_days G D k) (1 + 1))) [] hx hb hml hown hts (m_X3_count l Dg cI cR cZ sa rb rt G (z_days G D k) 1 (by decide) hG (z_WD_days hW k)) gX3_pass__X3_count rfl kd_X3_count ⟨Nat.le_of_ble_eq_true rfl, Nat.le_of_ble_eq_true rfl⟩ hK hN hJ hP rfl rfl rfl rfl rfl hl.1 (Nat.le_of_ble_eq_true rfl) dX3_pass__25 ⟨Nat.zero_le _, Nat.zero_le _⟩ ?_
        refine lv_iload_n hx hb dX3_pass__28 rfl (lv_at hl 2 rfl) ?_
        refine lv_isub hx hb dX3_pass__29 ?_
        exact z_ew_i rfl hP hS hx hb hr hlk dX3_pass__30
      · skip
        have hi2 : i < k := z_nle (by omega) c10
        refine lv_aload_n hx hb dX3_pass__13 rfl (lv_at hl 0 rfl) ?_
        refine q_wVv (pre := []) (post := []) [] hx hb hml hown hts (m_X3_pass l Dg cI cR cZ sa rb rt G (z_days G D i) hG (z_WD_days hW i) hB (q_V_days hG hV i)) gX3_pass__X3_pass rfl kd_X3_pass ⟨Nat.le_of_ble_eq_true rfl, Nat.le_of_ble_eq_true rfl⟩ hK hN hJ (q_nilP (pre := []) hP) (q_nilD (pre := []) hD) hS (q_fst rfl rfl) rfl rfl rfl rfl rfl hl.1 (Nat.le_of_ble_eq_true rfl) dX3_pass__14 ⟨Nat.zero_le _, Nat.zero_le _⟩ (fun H locs hP hD hS => ?_)
        rw [List.append_nil] at hP hD
        have hP : va_P Dg vwCl (q_W cI cR sa rb rt G (z_day G (z_days G D i))) H := hP
        have hD : va_D _ (q_W cI cR sa rb rt G (z_day G (z_days G D i))) := hD
        refine lv_iinc (v := nI (i + 1)) (lv' := [(3, .int (nI (i + 1))), (0, .ref (sa 0)), (1, .int (nI k)), (2, .int (nI (z_cn G D 2)))]) hx hb dX3_pass__17 hl (k := 3) rfl (nI_1 _) (by decide) rfl (fun ls hl => ?_)
        refine lv_goto (tgt := 8) hx hb dX3_pass__20 (by decide) ?_
        have qD1 : z_days G D (i + 1) = z_day G (z_days G D i) := rfl
        rw [← qD1] at hP hD
        have hP : va_P Dg vwCl (q_W cI cR sa rb rt G (z_days G D (i + 1))) H := hP
        have hD : va_D _ (q_W cI cR sa rb rt G (z_days G D (i + 1))) := hD
        exact ih8 (i + 1) (by omega) (by omega) _ _ hP hD hS _ (lv_sub hl [1, 2, 3, 0] rfl)
  exact lp8 (k + 1) 0 (by omega) (by omega) _ _ hP hD hS _ (lv_sub hl [2, 3, 1, 0] rfl)
