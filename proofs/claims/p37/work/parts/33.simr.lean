theorem kd_X3_isAhead : yX3_isAhead.cls = RX3 ∧ yX3_isAhead.cls ≠ "java/lang/invoke/MethodHandle" ∧ yX3_isAhead.cls ≠ "java/lang/invoke/VarHandle" ∧ (parseMethodDescriptor yX3_isAhead.desc).map (fun d => d.parameters.length) = some 3 := by decide +kernel
set_option maxHeartbeats 4000000 in
set_option maxRecDepth 100000 in
theorem m_X3_isAhead (l : Launch) (Dg : va_G) (cI cR cZ : ClassId) (sa rb rt : Nat → Nat) (G : z_GG) (D : z_DD) (t u o : Nat) (ht : t < z_tc G) (hu : u < z_tc G) (ho : o < 3) (hG : z_WG G) : q_Mr l yX3_isAhead wsX3_isAhead 0 0 [.ref (sa 0), .ref (rt t), .ref (rt u), .int (nI o)] Dg cI cR cZ (q_W cI cR sa rb rt G D) (some (.int (z_bI (q_ahd G D o t u)))) := by
  have htc : z_tc G ≤ 60 := hG.2.2.2.2.2.1
  refine q_sr (own := RX3) (l0 := [(0, .ref (sa 0)), (1, .ref (rt t)), (2, .ref (rt u)), (3, .int (nI o))]) rfl rfl (by decide) (Nat.le_of_ble_eq_true rfl) rfl ?_
  intro p e s m below meth c hx hb hr hml hts hown hlk hP hK hN hJ ls hl
  refine lv_iload_n hx hb dX3_isAhead_0 rfl (lv_at hl 3 rfl) ?_
  refine lv_if_eq (tgt := 40) hx hb dX3_isAhead_1 (by decide) (fun c1 => ?_) (fun c1 => ?_)
  · skip
    refine lv_iconst (v := 1) hx hb dX3_isAhead_40 (by decide) ?_
    refine lv_goto (tgt := 45) hx hb dX3_isAhead_41 (by decide) ?_
    exact z_er_z (q_ah0 ho c1) hx hb hr hlk dX3_isAhead_45
  · skip
    refine lv_iload_n hx hb dX3_isAhead_4 rfl (lv_at hl 3 rfl) ?_
    refine lv_iconst (v := nI 1) hx hb dX3_isAhead_5 (by decide) ?_
    refine lv_icmp_ne (tgt := 21) hx hb dX3_isAhead_6 (by decide) (fun c6 => ?_) (fun c6 => ?_)
    · skip
      refine lv_aload_n hx hb dX3_isAhead_21 rfl (lv_at hl 0 rfl) ?_
      refine va_get (ci := 3) (v := .ref (sa 1)) (C := RX3) (T := TX3) (N := 6) hx hb hts (fun _ h => (List.mem_cons_of_mem _ (List.mem_append_right _ h))) hown hK hP 0 rfl rfl 0 (by decide) (hts _ (List.mem_cons_of_mem _ (List.mem_append_left _ (List.mem_of_getElem? (i := 0) rfl)))) (fun _ h9 => h9) rfl dX3_isAhead_22 ?_
      refine lv_aload_n hx hb dX3_isAhead_25 rfl (lv_at hl 1 rfl) ?_
      refine lv_iconst (v := nI 1) hx hb dX3_isAhead_26 (by decide) ?_
      refine z_iald hx hb hK hP (4 + (z_bc G + t)) 0 (q_gT (cI := cI) (cR := cR) (sa := sa) (rb := rb) (rt := rt) (G := G) (D := D) (by omega)) rfl (by decide) (by decide) dX3_isAhead_27 ?_
      refine z_top (x' := nI (z_sh G t)) rfl ?_
      have hsh1 := hG.2.2.2.1 t
      refine z_iald hx hb hK hP 1 0 rfl rfl (by omega) (by decide) dX3_isAhead_28 ?_
      refine z_top (x' := z_wm G (z_sh G t)) rfl ?_
      refine lv_aload_n hx hb dX3_isAhead_29 rfl (lv_at hl 0 rfl) ?_
      refine va_get (ci := 3) (v := .ref (sa 1)) (C := RX3) (T := TX3) (N := 6) hx hb hts (fun _ h => (List.mem_cons_of_mem _ (List.mem_append_right _ h))) hown hK hP 0 rfl rfl 0 (by decide) (hts _ (List.mem_cons_of_mem _ (List.mem_append_left _ (List.mem_of_getElem? (i := 0) rfl)))) (fun _ h9 => h9) rfl dX3_isAhead_30 ?_
      refine lv_aload_n hx hb dX3_isAhead_33 rfl (lv_at hl 2 rfl) ?_
      refine lv_iconst (v := nI 1) hx hb dX3_isAhead_34 (by decide) ?_
      refine z_iald hx hb hK hP (4 + (z_bc G + u)) 0 (q_gT (cI := cI) (cR := cR) (sa := sa) (rb := rb) (rt := rt) (G := G) (D := D) (by omega)) rfl (by decide) (by decide) dX3_isAhead_35 ?_
      refine z_top (x' := nI (z_sh G u)) rfl ?_
      have hsh2 := hG.2.2.2.1 u
      refine z_iald hx hb hK hP 1 0 rfl rfl (by omega) (by decide) dX3_isAhead_36 ?_
      refine z_top (x' := z_wm G (z_sh G u)) rfl ?_
      refine lv_icmp_lt (tgt := 44) hx hb dX3_isAhead_37 (by decide) (fun c37 => ?_) (fun c37 => ?_)
      · skip
        refine lv_iconst (v := 0) hx hb dX3_isAhead_44 (by decide) ?_
        exact z_er_z (q_ah2t ho c1 c6 c37) hx hb hr hlk dX3_isAhead_45
      · skip
        refine lv_iconst (v := 1) hx hb dX3_isAhead_40 (by decide) ?_
        refine lv_goto (tgt := 45) hx hb dX3_isAhead_41 (by decide) ?_
        exact z_er_z (q_ah2f ho c1 c6 c37) hx hb hr hlk dX3_isAhead_45
    · skip
      refine lv_aload_n hx hb dX3_isAhead_9 rfl (lv_at hl 1 rfl) ?_
      refine lv_iconst (v := nI 2) hx hb dX3_isAhead_10 (by decide) ?_
      refine z_iald hx hb hK hP (4 + (z_bc G + t)) 0 (q_gT (cI := cI) (cR := cR) (sa := sa) (rb := rb) (rt := rt) (G := G) (D := D) (by omega)) rfl (by decide) (by decide) dX3_isAhead_11 ?_
      refine z_top (x' := z_vc D t) rfl ?_
      refine lv_aload_n hx hb dX3_isAhead_12 rfl (lv_at hl 2 rfl) ?_
      refine lv_iconst (v := nI 2) hx hb dX3_isAhead_13 (by decide) ?_
      refine z_iald hx hb hK hP (4 + (z_bc G + u)) 0 (q_gT (cI := cI) (cR := cR) (sa := sa) (rb := rb) (rt := rt) (G := G) (D := D) (by omega)) rfl (by decide) (by decide) dX3_isAhead_14 ?_
      refine z_top (x' := z_vc D u) rfl ?_
      refine lv_icmp_gt (tgt := 44) hx hb dX3_isAhead_15 (by decide) (fun c15 => ?_) (fun c15 => ?_)
      · skip
        refine lv_iconst (v := 0) hx hb dX3_isAhead_44 (by decide) ?_
        exact z_er_z (q_ah1t ho c1 c6 c15) hx hb hr hlk dX3_isAhead_45
      · skip
        refine lv_goto (tgt := 40) hx hb dX3_isAhead_18 (by decide) ?_
        refine lv_iconst (v := 1) hx hb dX3_isAhead_40 (by decide) ?_
        refine lv_goto (tgt := 45) hx hb dX3_isAhead_41 (by decide) ?_
        exact z_er_z (q_ah1f ho c1 c6 c15) hx hb hr hlk dX3_isAhead_45

set_option maxHeartbeats 4000000 in
set_option maxRecDepth 100000 in
theorem m_X3_first (l : Launch) (Dg : va_G) (cI cR cZ : ClassId) (sa rb rt : Nat → Nat) (G : z_GG) (D : z_DD) (o : Nat) (ho : o < 3) (hG : z_WG G) (hW : z_WD G D) (hV : q_V G D) : q_Mr l yX3_first wsX3_first 1 23 [.ref (sa 0), .int (nI o)] Dg cI cR cZ (q_W cI cR sa rb rt G D) (some (.int (z_oi (z_fb G D o (z_tc G))))) := by
  have htc : z_tc G ≤ 60 := hG.2.2.2.2.2.1
  refine q_sr (own := RX3) (l0 := [(0, .ref (sa 0)), (1, .int (nI o))]) rfl rfl (by decide) (Nat.le_of_ble_eq_true rfl) rfl ?_
  intro p e s m below meth c hx hb hr hml hts hown hlk hP hK hN hJ ls hl
  refine lv_iconst (v := z_oi 0) hx hb dX3_first_0 (by decide) ?_
  refine lv_istore_n (lv' := [(2, .int (z_oi 0)), (0, .ref (sa 0)), (1, .int (nI o))]) hx hb dX3_first_1 rfl hl (by decide) rfl (fun ls hl => ?_)
  refine lv_iconst (v := nI 0) hx hb dX3_first_2 (by decide) ?_
  refine lv_istore_n (lv' := [(3, .int (nI 0)), (2, .int (z_oi 0)), (0, .ref (sa 0)), (1, .int (nI o))]) hx hb dX3_first_3 rfl hl (by decide) rfl (fun ls hl => ?_)
  have lp4 : ∀ (zz i : Nat) , i ≤ z_tc G → z_tc G + 1 ≤ i + zz → ∀ ls : Array Slot, lv_has ls 4 [(0, .ref (sa 0)), (1, .int (nI o)), (2, .int (z_oi (z_fb G D o i))), (3, .int (nI i))] → W p l e ({ frames := 1, cells := 0, slots := 0, locals := 23 } : Room) s m ([.ref (sa 0), .int (nI o)] : List Value).toArray below meth c s.heap [] 0 0 (MQ below (z_Qr (some (.int (z_oi (z_fb G D o (z_tc G)))))) ([.ref (sa 0), .int (nI o)] : List Value).toArray s 0 0 z_no) (F0 m 4 ls []) := by
    intro zz
    induction zz with
    | zero => intros; exfalso; omega
    | succ zz ih4 =>
      intro i hi hzz ls hl
      refine lv_iload_n hx hb dX3_first_4 rfl (lv_at hl 3 rfl) ?_
      refine lv_aload_n hx hb dX3_first_5 rfl (lv_at hl 0 rfl) ?_
      refine va_get (ci := 3) (v := .ref (sa 3)) (C := RX3) (T := TX3) (N := 6) hx hb hts (fun _ h => (List.mem_cons_of_mem _ (List.mem_append_right _ h))) hown hK hP 0 rfl rfl 2 (by decide) (hts _ (List.mem_cons_of_mem _ (List.mem_append_left _ (List.mem_of_getElem? (i := 0) rfl)))) (fun _ h9 => h9) rfl dX3_first_6 ?_
      refine va_alen (v := nI (z_tc G)) hx hb hK hP 3 1 rfl rfl rfl dX3_first_9 ?_
      refine lv_icmp_ge (tgt := 56) hx hb dX3_first_10 (by decide) (fun c10 => ?_) (fun c10 => ?_)
      · skip
        have hi2 : i = z_tc G := Nat.le_antisymm hi (z_le (by omega) (by omega) c10)
        subst hi2
        refine lv_iload_n hx hb dX3_first_56 rfl (lv_at hl 2 rfl) ?_
        exact z_er_i rfl hx hb hr hlk dX3_first_57
      · skip
        have hi2 : i < z_tc G := z_nle (by omega) c10
        refine lv_aload_n hx hb dX3_first_13 rfl (lv_at hl 0 rfl) ?_
        refine va_get (ci := 3) (v := .ref (sa 3)) (C := RX3) (T := TX3) (N := 6) hx hb hts (fun _ h => (List.mem_cons_of_mem _ (List.mem_append_right _ h))) hown hK hP 0 rfl rfl 2 (by decide) (hts _ (List.mem_cons_of_mem _ (List.mem_append_left _ (List.mem_of_getElem? (i := 0) rfl)))) (fun _ h9 => h9) rfl dX3_first_14 ?_
        refine lv_iload_n hx hb dX3_first_17 rfl (lv_at hl 3 rfl) ?_
        refine q_aald (v := rt i) hx hb hK hP 3 rfl (by omega) (by omega) rfl dX3_first_18 ?_
        refine lv_iconst (v := nI 3) hx hb dX3_first_19 (by decide) ?_
        refine z_iald hx hb hK hP (4 + (z_bc G + i)) 0 (q_gT (cI := cI) (cR := cR) (sa := sa) (rb := rb) (rt := rt) (G := G) (D := D) (by omega)) rfl (by decide) (by decide) dX3_first_20 ?_
        refine z_top (x' := nI (z_pl D i - 1)) rfl ?_
        refine lv_if_ne (tgt := 50) hx hb dX3_first_21 (by decide) (fun c21 => ?_) (fun c21 => ?_)
        · skip
          refine lv_iinc (v := nI (i + 1)) (lv' := [(3, .int (nI (i + 1))), (0, .ref (sa 0)), (1, .int (nI o)), (2, .int (z_oi (z_fb G D o i)))]) hx hb dX3_first_50 hl (k := 3) rfl (nI_1 _) (by decide) rfl (fun ls hl => ?_)
          refine lv_goto (tgt := 4) hx hb dX3_first_53 (by decide) ?_
          have efb : z_fb G D o (i + 1) = _ := (z_fb_f (fun q => absurd q.1 (q_pl_ne hW hi2 c21)))
          have hl : lv_has ls 4 [(3, .int (nI (i + 1))), (0, .ref (sa 0)), (1, .int (nI o)), (2, .int (z_oi (z_fb G D o (i + 1))))] := by have q : z_oi (z_fb G D o i) = z_oi (z_fb G D o (i + 1)) := (by rw [efb]); rw [← q]; exact hl
          exact ih4 (i + 1) (by omega) (by omega) _ (lv_sub hl [1, 2, 3, 0] rfl)
        · skip
          refine lv_iload_n hx hb dX3_first_24 rfl (lv_at hl 2 rfl) ?_
          refine lv_if_lt (tgt := 48) hx hb dX3_first_25 (by decide) (fun c25 => ?_) (fun c25 => ?_)
          · skip
            refine lv_iload_n hx hb dX3_first_48 rfl (lv_at hl 3 rfl) ?_
            refine lv_istore_n (lv' := [(2, .int (nI i)), (0, .ref (sa 0)), (1, .int (nI o)), (3, .int (nI i))]) hx hb dX3_first_49 rfl hl (by decide) rfl (fun ls hl => ?_)
            refine lv_iinc (v := nI (i + 1)) (lv' := [(3, .int (nI (i + 1))), (2, .int (nI i)), (0, .ref (sa 0)), (1, .int (nI o))]) hx hb dX3_first_50 hl (k := 3) rfl (nI_1 _) (by decide) rfl (fun ls hl => ?_)
            refine lv_goto (tgt := 4) hx hb dX3_first_53 (by decide) ?_
            have efb : z_fb G D o (i + 1) = _ := (z_fb_t (q_pl_eq hW hi2 c21) (Or.inl (z_oi_neg (by have := z_fb_le G D o i; omega) c25)))
            have hl : lv_has ls 4 [(3, .int (nI (i + 1))), (2, .int (z_oi (z_fb G D o (i + 1)))), (0, .ref (sa 0)), (1, .int (nI o))] := by have q : nI i = z_oi (z_fb G D o (i + 1)) := (by rw [efb]; rfl); rw [← q]; exact hl
            exact ih4 (i + 1) (by omega) (by omega) _ (lv_sub hl [2, 3, 1, 0] rfl)
          · skip
            have hkp : 0 < z_fb G D o i := z_oi_pos c25
            have hkl := z_fb_le G D o i
            have hl : lv_has ls 4 [(0, .ref (sa 0)), (1, .int (nI o)), (2, .int (nI (z_fb G D o i - 1))), (3, .int (nI i))] := by have q : z_oi (z_fb G D o i) = nI (z_fb G D o i - 1) := z_oi_s hkp; rw [← q]; exact hl
            refine lv_aload_n hx hb dX3_first_28 rfl (lv_at hl 0 rfl) ?_
            refine lv_aload_n hx hb dX3_first_29 rfl (lv_at hl 0 rfl) ?_
            refine va_get (ci := 3) (v := .ref (sa 3)) (C := RX3) (T := TX3) (N := 6) hx hb hts (fun _ h => (List.mem_cons_of_mem _ (List.mem_append_right _ h))) hown hK hP 0 rfl rfl 2 (by decide) (hts _ (List.mem_cons_of_mem _ (List.mem_append_left _ (List.mem_of_getElem? (i := 0) rfl)))) (fun _ h9 => h9) rfl dX3_first_30 ?_
            refine lv_iload_n hx hb dX3_first_33 rfl (lv_at hl 2 rfl) ?_
            refine q_aald (v := rt (z_fb G D o i - 1)) hx hb hK hP 3 rfl (by omega) (by omega) rfl dX3_first_34 ?_
            refine lv_aload_n hx hb dX3_first_35 rfl (lv_at hl 0 rfl) ?_
            refine va_get (ci := 3) (v := .ref (sa 3)) (C := RX3) (T := TX3) (N := 6) hx hb hts (fun _ h => (List.mem_cons_of_mem _ (List.mem_append_right _ h))) hown hK hP 0 rfl rfl 2 (by decide) (hts _ (List.mem_cons_of_mem _ (List.mem_append_left _ (List.mem_of_getElem? (i := 0) rfl)))) (fun _ h9 => h9) rfl dX3_first_36 ?_
            refine lv_iload_n hx hb dX3_first_39 rfl (lv_at hl 3 rfl) ?_
            refine q_aald (v := rt i) hx hb hK hP 3 rfl (by omega) (by omega) rfl dX3_first_40 ?_
            refine lv_iload_n hx hb dX3_first_41 rfl (lv_at hl 1 rfl) ?_
            refine q_rVi (v := z_bI (q_ahd G D o (z_fb G D o i - 1) i)) [] hx hb hml hown hts (m_X3_isAhead l Dg cI cR cZ sa rb rt G D (z_fb G D o i - 1) i o (by omega) (by omega) (by omega) hG) gX3_first_X3_isAhead rfl kd_X3_isAhead ⟨Nat.le_of_ble_eq_true rfl, Nat.le_of_ble_eq_true rfl⟩ hK hN hJ hP rfl rfl rfl rfl rfl hl.1 (Nat.le_of_ble_eq_true rfl) dX3_first_42 ⟨Nat.zero_le _, Nat.zero_le _⟩ ?_
            refine lv_if_ne (tgt := 50) hx hb dX3_first_45 (by decide) (fun c45 => ?_) (fun c45 => ?_)
            · skip
              refine lv_iinc (v := nI (i + 1)) (lv' := [(3, .int (nI (i + 1))), (0, .ref (sa 0)), (1, .int (nI o)), (2, .int (nI (z_fb G D o i - 1)))]) hx hb dX3_first_50 hl (k := 3) rfl (nI_1 _) (by decide) rfl (fun ls hl => ?_)
              refine lv_goto (tgt := 4) hx hb dX3_first_53 (by decide) ?_
              have efb : z_fb G D o (i + 1) = _ := (z_fb_f (fun q => q.2.elim (fun z => absurd hkp (by omega)) (fun z => absurd z ((q_ahd_iff hG hV ho (by omega) hi2).mp (z_bI1 c45)))))
              have hl : lv_has ls 4 [(3, .int (nI (i + 1))), (0, .ref (sa 0)), (1, .int (nI o)), (2, .int (z_oi (z_fb G D o (i + 1))))] := by have q : nI (z_fb G D o i - 1) = z_oi (z_fb G D o (i + 1)) := (by rw [efb, z_oi_s hkp]); rw [← q]; exact hl
              exact ih4 (i + 1) (by omega) (by omega) _ (lv_sub hl [1, 2, 3, 0] rfl)
            · skip
              refine lv_iload_n hx hb dX3_first_48 rfl (lv_at hl 3 rfl) ?_
              refine lv_istore_n (lv' := [(2, .int (nI i)), (0, .ref (sa 0)), (1, .int (nI o)), (3, .int (nI i))]) hx hb dX3_first_49 rfl hl (by decide) rfl (fun ls hl => ?_)
              refine lv_iinc (v := nI (i + 1)) (lv' := [(3, .int (nI (i + 1))), (2, .int (nI i)), (0, .ref (sa 0)), (1, .int (nI o))]) hx hb dX3_first_50 hl (k := 3) rfl (nI_1 _) (by decide) rfl (fun ls hl => ?_)
              refine lv_goto (tgt := 4) hx hb dX3_first_53 (by decide) ?_
              have efb : z_fb G D o (i + 1) = _ := (z_fb_t (q_pl_eq hW hi2 c21) (Or.inr (q_nahd hG hV ho (by omega) hi2 (z_bI0 c45))))
              have hl : lv_has ls 4 [(3, .int (nI (i + 1))), (2, .int (z_oi (z_fb G D o (i + 1)))), (0, .ref (sa 0)), (1, .int (nI o))] := by have q : nI i = z_oi (z_fb G D o (i + 1)) := (by rw [efb]; rfl); rw [← q]; exact hl
              exact ih4 (i + 1) (by omega) (by omega) _ (lv_sub hl [2, 3, 1, 0] rfl)
  exact lp4 (z_tc G + 1) 0 (by omega) (by omega) _ (lv_sub hl [2, 3, 1, 0] rfl)

set_option maxHeartbeats 4000000 in
set_option maxRecDepth 100000 in
theorem m_X3_count (l : Launch) (Dg : va_G) (cI cR cZ : ClassId) (sa rb rt : Nat → Nat) (G : z_GG) (D : z_DD) (y : Nat) (hy : y < 3) (hG : z_WG G) (hW : z_WD G D) : q_Mr l yX3_count wsX3_count 0 0 [.ref (sa 0), .int (nI y)] Dg cI cR cZ (q_W cI cR sa rb rt G D) (some (.int (nI (z_cn G D (y + 1))))) := by
  have htc : z_tc G ≤ 60 := hG.2.2.2.2.2.1
  refine q_sr (own := RX3) (l0 := [(0, .ref (sa 0)), (1, .int (nI y))]) rfl rfl (by decide) (Nat.le_of_ble_eq_true rfl) rfl ?_
  intro p e s m below meth c hx hb hr hml hts hown hlk hP hK hN hJ ls hl
  refine lv_iconst (v := nI 0) hx hb dX3_count_0 (by decide) ?_
  refine lv_istore_n (lv' := [(2, .int (nI 0)), (0, .ref (sa 0)), (1, .int (nI y))]) hx hb dX3_count_1 rfl hl (by decide) rfl (fun ls hl => ?_)
  refine lv_aload_n hx hb dX3_count_2 rfl (lv_at hl 1 rfl) ?_
  refine va_get (ci := 3) (v := .ref (sa 3)) (C := RX3) (T := TX3) (N := 6) hx hb hts (fun _ h => (List.mem_cons_of_mem _ (List.mem_append_right _ h))) hown hK hP 0 rfl rfl 2 (by decide) (hts _ (List.mem_cons_of_mem _ (List.mem_append_left _ (List.mem_of_getElem? (i := 0) rfl)))) (fun _ h9 => h9) rfl dX3_count_3 ?_
  refine lv_astore_n (lv' := [(3, .ref (sa 3)), (2, .int (nI 0)), (0, .ref (sa 0)), (1, .int (nI y))]) hx hb dX3_count_6 rfl hl (by decide) rfl (fun ls hl => ?_)
  refine lv_aload_n hx hb dX3_count_7 rfl (lv_at hl 0 rfl) ?_
  refine va_alen (v := nI (z_tc G)) hx hb hK hP 3 1 rfl rfl rfl dX3_count_8 ?_
  refine lv_istore (lv' := [(4, .int (nI (z_tc G))), (3, .ref (sa 3)), (2, .int (nI 0)), (0, .ref (sa 0)), (1, .int (nI y))]) hx hb dX3_count_9 hl (by decide) rfl (fun ls hl => ?_)
  refine lv_iconst (v := nI 0) hx hb dX3_count_11 (by decide) ?_
  refine lv_istore (lv' := [(5, .int (nI 0)), (4, .int (nI (z_tc G))), (3, .ref (sa 3)), (2, .int (nI 0)), (0, .ref (sa 0)), (1, .int (nI y))]) hx hb dX3_count_12 hl (by decide) rfl (fun ls hl => ?_)
  have hl : lv_has ls 7 [(5, .int (nI 0)), (4, .int (nI (z_tc G))), (3, .ref (sa 3)), (2, .int (nI (z_ct (fun u => z_pl D u == y + 1) 0))), (0, .ref (sa 0)), (1, .int (nI y))] := by have q : nI 0 = nI (z_ct (fun u => z_pl D u == y + 1) 0) := rfl; rw [← q]; exact hl
  have lp14 : ∀ (zz i : Nat) , i ≤ z_tc G → z_tc G + 1 ≤ i + zz → ∀ ls : Array Slot, lv_has ls 7 [(0, .ref (sa 0)), (1, .int (nI y)), (2, .int (nI (z_ct (fun u => z_pl D u == y + 1) i))), (3, .ref (sa 3)), (4, .int (nI (z_tc G))), (5, .int (nI i))] → W p l e ({ frames := 0, cells := 0, slots := 0, locals := 0 } : Room) s m ([.ref (sa 0), .int (nI y)] : List Value).toArray below meth c s.heap [] 0 0 (MQ below (z_Qr (some (.int (nI (z_cn G D (y + 1)))))) ([.ref (sa 0), .int (nI y)] : List Value).toArray s 0 0 z_no) (F0 m 14 ls []) := by
    intro zz
    induction zz with
    | zero => intros; exfalso; omega
    | succ zz ih14 =>
      intro i hi hzz ls hl
      refine lv_iload hx hb dX3_count_14 (lv_at hl 5 rfl) ?_
      refine lv_iload hx hb dX3_count_16 (lv_at hl 4 rfl) ?_
      refine lv_icmp_ge (tgt := 49) hx hb dX3_count_18 (by decide) (fun c18 => ?_) (fun c18 => ?_)
      · skip
        have hi2 : i = z_tc G := Nat.le_antisymm hi (z_le (by omega) (by omega) c18)
        subst hi2
        refine lv_iload_n hx hb dX3_count_49 rfl (lv_at hl 2 rfl) ?_
        exact z_er_i rfl hx hb hr hlk dX3_count_50
      · skip
        have hi2 : i < z_tc G := z_nle (by omega) c18
        refine lv_aload_n hx hb dX3_count_21 rfl (lv_at hl 3 rfl) ?_
        refine lv_iload hx hb dX3_count_22 (lv_at hl 5 rfl) ?_
        refine q_aald (v := rt i) hx hb hK hP 3 rfl (by omega) (by omega) rfl dX3_count_24 ?_
        refine lv_astore (lv' := [(6, .ref (rt i)), (0, .ref (sa 0)), (1, .int (nI y)), (2, .int (nI (z_ct (fun u => z_pl D u == y + 1) i))), (3, .ref (sa 3)), (4, .int (nI (z_tc G))), (5, .int (nI i))]) hx hb dX3_count_25 hl (by decide) rfl (fun ls hl => ?_)
        refine lv_iload_n hx hb dX3_count_27 rfl (lv_at hl 3 rfl) ?_
        refine lv_aload hx hb dX3_count_28 (lv_at hl 0 rfl) ?_
        refine lv_iconst (v := nI 3) hx hb dX3_count_30 (by decide) ?_
        refine z_iald hx hb hK hP (4 + (z_bc G + i)) 0 (q_gT (cI := cI) (cR := cR) (sa := sa) (rb := rb) (rt := rt) (G := G) (D := D) (by omega)) rfl (by decide) (by decide) dX3_count_31 ?_
        refine z_top (x' := nI (z_pl D i - 1)) rfl ?_
        refine lv_iload_n hx hb dX3_count_32 rfl (lv_at hl 2 rfl) ?_
        refine lv_icmp_ne (tgt := 40) hx hb dX3_count_33 (by decide) (fun c33 => ?_) (fun c33 => ?_)
        · skip
          refine lv_iconst (v := nI 0) hx hb dX3_count_40 (by decide) ?_
          refine lv_iadd hx hb dX3_count_41 ?_
          refine lv_istore_n (lv' := [(2, .int ((nI (z_ct (fun u => z_pl D u == y + 1) i)) + (nI 0))), (6, .ref (rt i)), (0, .ref (sa 0)), (1, .int (nI y)), (3, .ref (sa 3)), (4, .int (nI (z_tc G))), (5, .int (nI i))]) hx hb dX3_count_42 rfl hl (by decide) rfl (fun ls hl => ?_)
          refine lv_iinc (v := nI (i + 1)) (lv' := [(5, .int (nI (i + 1))), (2, .int ((nI (z_ct (fun u => z_pl D u == y + 1) i)) + (nI 0))), (6, .ref (rt i)), (0, .ref (sa 0)), (1, .int (nI y)), (3, .ref (sa 3)), (4, .int (nI (z_tc G)))]) hx hb dX3_count_43 hl (k := 6) rfl (nI_1 _) (by decide) rfl (fun ls hl => ?_)
          refine lv_goto (tgt := 14) hx hb dX3_count_46 (by decide) ?_
          have hl : lv_has ls 7 [(5, .int (nI (i + 1))), (2, .int (nI (z_ct (fun u => z_pl D u == y + 1) (i + 1)))), (6, .ref (rt i)), (0, .ref (sa 0)), (1, .int (nI y)), (3, .ref (sa 3)), (4, .int (nI (z_tc G)))] := by have q : (nI (z_ct (fun u => z_pl D u == y + 1) i)) + (nI 0) = nI (z_ct (fun u => z_pl D u == y + 1) (i + 1)) := (by rw [z_ct_f (p := fun u => z_pl D u == y + 1) (n := i) (z_bne (q_pl_ny hW hi2 c33))]; exact nI_add _ 0); rw [← q]; exact hl
          exact ih14 (i + 1) (by omega) (by omega) _ (lv_sub hl [3, 4, 1, 5, 6, 0] rfl)
        · skip
          refine lv_iconst (v := nI 1) hx hb dX3_count_36 (by decide) ?_
          refine lv_goto (tgt := 41) hx hb dX3_count_37 (by decide) ?_
          refine lv_iadd hx hb dX3_count_41 ?_
          refine lv_istore_n (lv' := [(2, .int ((nI (z_ct (fun u => z_pl D u == y + 1) i)) + (nI 1))), (6, .ref (rt i)), (0, .ref (sa 0)), (1, .int (nI y)), (3, .ref (sa 3)), (4, .int (nI (z_tc G))), (5, .int (nI i))]) hx hb dX3_count_42 rfl hl (by decide) rfl (fun ls hl => ?_)
          refine lv_iinc (v := nI (i + 1)) (lv' := [(5, .int (nI (i + 1))), (2, .int ((nI (z_ct (fun u => z_pl D u == y + 1) i)) + (nI 1))), (6, .ref (rt i)), (0, .ref (sa 0)), (1, .int (nI y)), (3, .ref (sa 3)), (4, .int (nI (z_tc G)))]) hx hb dX3_count_43 hl (k := 6) rfl (nI_1 _) (by decide) rfl (fun ls hl => ?_)
          refine lv_goto (tgt := 14) hx hb dX3_count_46 (by decide) ?_
          have hl : lv_has ls 7 [(5, .int (nI (i + 1))), (2, .int (nI (z_ct (fun u => z_pl D u == y + 1) (i + 1)))), (6, .ref (rt i)), (0, .ref (sa 0)), (1, .int (nI y)), (3, .ref (sa 3)), (4, .int (nI (z_tc G)))] := by have q : (nI (z_ct (fun u => z_pl D u == y + 1) i)) + (nI 1) = nI (z_ct (fun u => z_pl D u == y + 1) (i + 1)) := (by rw [z_ct_t (p := fun u => z_pl D u == y + 1) (n := i) (z_beq (q_pl_y hW hi2 (z_eq (by have := (hW i hi2).2; omega) (by omega) c33)))]; exact nI_add _ _); rw [← q]; exact hl
          exact ih14 (i + 1) (by omega) (by omega) _ (lv_sub hl [3, 4, 1, 5, 6, 0] rfl)
  exact lp14 (z_tc G + 1) 0 (by omega) (by omega) _ (lv_sub hl [4, 5, 3, 2, 1, 0] rfl)

set_option maxHeartbeats 4000000 in
set_option maxRecDepth 100000 in
theorem m_X3_days (l : Launch) (Dg : va_G) (cI cR cZ : ClassId) (sa rb rt : Nat → Nat) (G : z_GG) (D : z_DD) (t u : Nat) (ht : t < z_tc G) (hu : u < 4) (hG : z_WG G) (hB : q_B G) (hV : q_V G D) : q_Mr l yX3_days wsX3_days 0 0 [.ref (sa 0), .int (nI t), .int (nI u)] Dg cI cR cZ (q_W cI cR sa rb rt G D) (some (.int (nI (q_dm (z_vc D t) (z_rt G t u))))) := by
  have htc : z_tc G ≤ 60 := hG.2.2.2.2.2.1
  have hbc : z_bc G ≤ 6 := hG.2.2.2.2.1
  have hv1 := (hV t ht).1
  have hv2 := (hV t ht).2
  have hr0 := q_rt_b hG t u
  have hdm := q_dm_le hr0 hv1 hv2
  refine q_sr (own := RX3) (l0 := [(0, .ref (sa 0)), (1, .int (nI t)), (2, .int (nI u))]) rfl rfl (by decide) (Nat.le_of_ble_eq_true rfl) rfl ?_
  intro p e s m below meth c hx hb hr hml hts hown hlk hP hK hN hJ ls hl
  refine lv_aload_n hx hb dX3_days_0 rfl (lv_at hl 0 rfl) ?_
  refine va_get (ci := 3) (v := .ref (sa 2)) (C := RX3) (T := TX3) (N := 6) hx hb hts (fun _ h => (List.mem_cons_of_mem _ (List.mem_append_right _ h))) hown hK hP 0 rfl rfl 1 (by decide) (hts _ (List.mem_cons_of_mem _ (List.mem_append_left _ (List.mem_of_getElem? (i := 0) rfl)))) (fun _ h9 => h9) rfl dX3_days_1 ?_
  refine lv_aload_n hx hb dX3_days_4 rfl (lv_at hl 0 rfl) ?_
  refine va_get (ci := 3) (v := .ref (sa 3)) (C := RX3) (T := TX3) (N := 6) hx hb hts (fun _ h => (List.mem_cons_of_mem _ (List.mem_append_right _ h))) hown hK hP 0 rfl rfl 2 (by decide) (hts _ (List.mem_cons_of_mem _ (List.mem_append_left _ (List.mem_of_getElem? (i := 1) rfl)))) (fun _ h9 => h9) rfl dX3_days_5 ?_
  refine lv_iload_n hx hb dX3_days_8 rfl (lv_at hl 1 rfl) ?_
  refine q_aald (v := rt t) hx hb hK hP 3 rfl (by omega) (by omega) rfl dX3_days_9 ?_
  refine lv_iconst (v := nI 0) hx hb dX3_days_10 (by decide) ?_
  refine z_iald hx hb hK hP (4 + (z_bc G + t)) 0 (q_gT (cI := cI) (cR := cR) (sa := sa) (rb := rb) (rt := rt) (G := G) (D := D) (by omega)) rfl (by decide) (by decide) dX3_days_11 ?_
  refine z_top (x' := nI (z_bt G t)) rfl ?_
  have hbt1 := hB t (by omega)
  refine q_aald (v := rb (z_bt G t)) hx hb hK hP 2 rfl (by omega) (by omega) rfl dX3_days_12 ?_
  refine lv_iconst (v := nI 1) hx hb dX3_days_13 (by decide) ?_
  refine z_iald hx hb hK hP (4 + (z_bt G t)) 0 (q_gB (cI := cI) (cR := cR) (sa := sa) (rb := rb) (rt := rt) (G := G) (D := D) (by omega)) rfl (by decide) (by decide) dX3_days_14 ?_
  refine z_top (x' := z_lk G (z_bt G t)) rfl ?_
  refine lv_aload_n hx hb dX3_days_15 rfl (lv_at hl 0 rfl) ?_
  refine va_get (ci := 3) (v := .ref (sa 1)) (C := RX3) (T := TX3) (N := 6) hx hb hts (fun _ h => (List.mem_cons_of_mem _ (List.mem_append_right _ h))) hown hK hP 0 rfl rfl 0 (by decide) (hts _ (List.mem_cons_of_mem _ (List.mem_append_left _ (List.mem_of_getElem? (i := 2) rfl)))) (fun _ h9 => h9) rfl dX3_days_16 ?_
  refine lv_iload_n hx hb dX3_days_19 rfl (lv_at hl 2 rfl) ?_
  refine z_iald hx hb hK hP 1 0 rfl rfl (by omega) (by decide) dX3_days_20 ?_
  refine z_top (x' := z_wm G u) rfl ?_
  refine lv_iadd hx hb dX3_days_21 ?_
  refine lv_istore_n (lv' := [(3, .int ((z_lk G (z_bt G t)) + (z_wm G u))), (0, .ref (sa 0)), (1, .int (nI t)), (2, .int (nI u))]) hx hb dX3_days_22 rfl hl (by decide) rfl (fun ls hl => ?_)
  refine lv_iconst (v := nI 0) hx hb dX3_days_23 (by decide) ?_
  refine lv_istore (lv' := [(4, .int (nI 0)), (3, .int ((z_lk G (z_bt G t)) + (z_wm G u))), (0, .ref (sa 0)), (1, .int (nI t)), (2, .int (nI u))]) hx hb dX3_days_24 hl (by decide) rfl (fun ls hl => ?_)
  refine lv_aload_n hx hb dX3_days_26 rfl (lv_at hl 2 rfl) ?_
  refine va_get (ci := 3) (v := .ref (sa 3)) (C := RX3) (T := TX3) (N := 6) hx hb hts (fun _ h => (List.mem_cons_of_mem _ (List.mem_append_right _ h))) hown hK hP 0 rfl rfl 2 (by decide) (hts _ (List.mem_cons_of_mem _ (List.mem_append_left _ (List.mem_of_getElem? (i := 1) rfl)))) (fun _ h9 => h9) rfl dX3_days_27 ?_
  refine lv_iload_n hx hb dX3_days_30 rfl (lv_at hl 3 rfl) ?_
  refine q_aald (v := rt t) hx hb hK hP 3 rfl (by omega) (by omega) rfl dX3_days_31 ?_
  refine lv_iconst (v := nI 2) hx hb dX3_days_32 (by decide) ?_
  refine z_iald hx hb hK hP (4 + (z_bc G + t)) 0 (q_gT (cI := cI) (cR := cR) (sa := sa) (rb := rb) (rt := rt) (G := G) (D := D) (by omega)) rfl (by decide) (by decide) dX3_days_33 ?_
  refine z_top (x' := z_vc D t) rfl ?_
  refine lv_istore (lv' := [(5, .int (z_vc D t)), (4, .int (nI 0)), (3, .int ((z_lk G (z_bt G t)) + (z_wm G u))), (0, .ref (sa 0)), (1, .int (nI t)), (2, .int (nI u))]) hx hb dX3_days_34 hl (by decide) rfl (fun ls hl => ?_)
  have hl : lv_has ls 6 [(5, .int (q_lf (z_vc D t) (z_rt G t u) 0)), (4, .int (nI 0)), (3, .int ((z_lk G (z_bt G t)) + (z_wm G u))), (0, .ref (sa 0)), (1, .int (nI t)), (2, .int (nI u))] := by have q : z_vc D t = q_lf (z_vc D t) (z_rt G t u) 0 := (q_lf_0 _ _).symm; rw [← q]; exact hl
  have lp36 : ∀ (zz i : Nat) , i ≤ q_dm (z_vc D t) (z_rt G t u) → q_dm (z_vc D t) (z_rt G t u) + 1 ≤ i + zz → ∀ ls : Array Slot, lv_has ls 6 [(0, .ref (sa 0)), (1, .int (nI t)), (2, .int (nI u)), (3, .int (z_rt G t u)), (4, .int (nI i)), (5, .int (q_lf (z_vc D t) (z_rt G t u) i))] → W p l e ({ frames := 0, cells := 0, slots := 0, locals := 0 } : Room) s m ([.ref (sa 0), .int (nI t), .int (nI u)] : List Value).toArray below meth c s.heap [] 0 0 (MQ below (z_Qr (some (.int (nI (q_dm (z_vc D t) (z_rt G t u)))))) ([.ref (sa 0), .int (nI t), .int (nI u)] : List Value).toArray s 0 0 z_no) (F0 m 36 ls []) := by
    intro zz
    induction zz with
    | zero => intros; exfalso; omega
    | succ zz ih36 =>
      intro i hi hzz ls hl
      refine lv_iload hx hb dX3_days_36 (lv_at hl 5 rfl) ?_
      refine lv_if_le (tgt := 61) hx hb dX3_days_38 (by decide) (fun c38 => ?_) (fun c38 => ?_)
      · skip
        have hi2 : i = q_dm (z_vc D t) (z_rt G t u) := q_dm_e hr0 hv1 hv2 hi c38
        subst hi2
        refine lv_iload hx hb dX3_days_61 (lv_at hl 4 rfl) ?_
        exact z_er_i rfl hx hb hr hlk dX3_days_63
      · skip
        refine lv_iload hx hb dX3_days_41 (lv_at hl 4 rfl) ?_
        refine lv_sipush (v := nI 999) hx hb dX3_days_43 (by decide) ?_
        refine lv_icmp_ge (tgt := 61) hx hb dX3_days_46 (by decide) (fun c46 => ?_) (fun c46 => ?_)
        · skip
          have hi2 : i = q_dm (z_vc D t) (z_rt G t u) := q_dm_m hr0 hv1 hv2 hi c46
          subst hi2
          refine lv_iload hx hb dX3_days_61 (lv_at hl 4 rfl) ?_
          exact z_er_i rfl hx hb hr hlk dX3_days_63
        · skip
          have hi2 : i < q_dm (z_vc D t) (z_rt G t u) := q_dm_lt hr0 hv1 hv2 hi (by omega) c38 c46
          refine lv_iinc (v := nI (i + 1)) (lv' := [(4, .int (nI (i + 1))), (0, .ref (sa 0)), (1, .int (nI t)), (2, .int (nI u)), (3, .int (z_rt G t u)), (5, .int (q_lf (z_vc D t) (z_rt G t u) i))]) hx hb dX3_days_49 hl (k := 4) rfl (nI_1 _) (by decide) rfl (fun ls hl => ?_)
          refine lv_iload hx hb dX3_days_52 (lv_at hl 5 rfl) ?_
          refine lv_iload_n hx hb dX3_days_54 rfl (lv_at hl 4 rfl) ?_
          refine lv_isub hx hb dX3_days_55 ?_
          refine lv_istore (lv' := [(5, .int ((q_lf (z_vc D t) (z_rt G t u) i) - (z_rt G t u))), (4, .int (nI (i + 1))), (0, .ref (sa 0)), (1, .int (nI t)), (2, .int (nI u)), (3, .int (z_rt G t u))]) hx hb dX3_days_56 hl (by decide) rfl (fun ls hl => ?_)
          refine lv_goto (tgt := 36) hx hb dX3_days_58 (by decide) ?_
          have hl : lv_has ls 6 [(5, .int (q_lf (z_vc D t) (z_rt G t u) (i + 1))), (4, .int (nI (i + 1))), (0, .ref (sa 0)), (1, .int (nI t)), (2, .int (nI u)), (3, .int (z_rt G t u))] := by have q : (q_lf (z_vc D t) (z_rt G t u) i) - (z_rt G t u) = q_lf (z_vc D t) (z_rt G t u) (i + 1) := q_lf_s _ _ _; rw [← q]; exact hl
          exact ih36 (i + 1) (by omega) (by omega) _ (lv_sub hl [2, 3, 4, 5, 1, 0] rfl)
  exact lp36 (q_dm (z_vc D t) (z_rt G t u) + 1) 0 (by omega) (by omega) _ (lv_sub hl [3, 4, 5, 2, 1, 0] rfl)
