theorem kd_X2_batchOf : yX2_batchOf.cls = RX2 ∧ yX2_batchOf.cls ≠ "java/lang/invoke/MethodHandle" ∧ yX2_batchOf.cls ≠ "java/lang/invoke/VarHandle" ∧ (parseMethodDescriptor yX2_batchOf.desc).map (fun d => d.parameters.length) = some 1 := by decide +kernel
theorem kd_X2_isLost : yX2_isLost.cls = RX2 ∧ yX2_isLost.cls ≠ "java/lang/invoke/MethodHandle" ∧ yX2_isLost.cls ≠ "java/lang/invoke/VarHandle" ∧ (parseMethodDescriptor yX2_isLost.desc).map (fun d => d.parameters.length) = some 1 := by decide +kernel
theorem kd_X2_meanVacuum : yX2_meanVacuum.cls = RX2 ∧ yX2_meanVacuum.cls ≠ "java/lang/invoke/MethodHandle" ∧ yX2_meanVacuum.cls ≠ "java/lang/invoke/VarHandle" ∧ (parseMethodDescriptor yX2_meanVacuum.desc).map (fun d => d.parameters.length) = some 0 := by decide +kernel
theorem z_topd {p : Program} {l : Launch} {e : Env} {R : Room} {s : State} {m : MethodId} {args : Array Value} {below : List Frame} {meth : Method} {c : Code} {H : Heap} {locs : List Loc} {cells slots : Nat} {Q : State → Prop} {pc : Nat} {ls : Array Slot} {rest : List Value} {y y' : UInt64} (h : y = y') (k : W p l e R s m args below meth c H locs cells slots Q (F0 m pc ls (.double y' :: rest))) : W p l e R s m args below meth c H locs cells slots Q (F0 m pc ls (.double y :: rest)) := by rw [h]; exact k
set_option maxHeartbeats 40000000 in
set_option maxRecDepth 100000 in
theorem m_X3_isSame (l : Launch) (Dg : va_G) (cI cR cZ : ClassId) (h : Nat) (na ta : Nat → Nat) (G : z_GG) (D : z_DD) (G1 : z_GG) (D1 : z_DD) (sa rb rt : Nat → Nat) (sz : Nat) (hI : q_I G D) : q_Md l yX3_isSame wsX3_isSame 8 2 10 132 [.ref (sa 0), .ref h] Dg cI cR cZ (z_cW cI h na ta G D G1 D1 ++ q_W cI cR sa rb rt G D) sz (fun o w9 => o = some (.int (z_bI true))) := by
  obtain ⟨hG, hW, hB, hV, -⟩ := id hI
  have htc : z_tc G ≤ 60 := hG.2.2.2.2.2.1
  have hbc : z_bc G ≤ 6 := hG.2.2.2.2.1
  refine q_sd (own := RX3) (l0 := [(0, .ref (sa 0)), (1, .ref h)]) rfl rfl (by decide) (Nat.le_of_ble_eq_true rfl) rfl ?_
  intro p e s m below meth c hx hb hr hml hts hown hlk hP hK hN hJ hD hS hA ls hl
  refine lv_iconst (v := 0) hx hb dX3_isSame_0 (by decide) ?_
  refine lv_istore_n (lv' := [(2, .int 0), (0, .ref (sa 0)), (1, .ref h)]) hx hb dX3_isSame_1 rfl hl (by decide) rfl (fun ls hl => ?_)
  refine lv_iconst (v := 0) hx hb dX3_isSame_2 (by decide) ?_
  refine lv_istore_n (lv' := [(3, .int 0), (2, .int 0), (0, .ref (sa 0)), (1, .ref h)]) hx hb dX3_isSame_3 rfl hl (by decide) rfl (fun ls hl => ?_)
  refine lv_iconst (v := nI 4) hx hb dX3_isSame_4 (by decide) ?_
  refine q_newi hx hb (hts _ (List.mem_cons_of_mem _ (List.mem_append_left _ (List.mem_append_left _ (List.mem_append_left _ (List.mem_append_left _ (List.mem_append_left _ (List.mem_append_left _ (List.mem_append_left _ (List.mem_of_getElem? (i := 0) rfl)))))))))) hK hP hD hS hA rfl (by decide) (by show _ ≤ 2; omega) (by show _ ≤ 10; omega) dX3_isSame_5 (fun q1 H hP hD hS => ?_)
  have hP := q_mvP (c := z_cW cI h na ta G D G1 D1) (e := []) (s := q_W cI cR sa rb rt G D) hP
  have hD := q_mvD (c := z_cW cI h na ta G D G1 D1) (e := []) (s := q_W cI cR sa rb rt G D) hD
  have hP : va_P Dg vwCl (z_cW cI h na ta G D G1 D1 ++ ([(q1, .inl (cI, 4, .inl (fun _ => 0)))] ++ q_W cI cR sa rb rt G D)) H := hP
  have hD : va_D _ (z_cW cI h na ta G D G1 D1 ++ ([(q1, .inl (cI, 4, .inl (fun _ => 0)))] ++ q_W cI cR sa rb rt G D)) := hD
  refine lv_astore (lv' := [(4, .ref q1), (3, .int 0), (2, .int 0), (0, .ref (sa 0)), (1, .ref h)]) hx hb dX3_isSame_7 hl (by decide) rfl (fun ls hl => ?_)
  refine lv_aload_n hx hb dX3_isSame_9 rfl (lv_at hl 3 rfl) ?_
  refine va_get (ci := 3) (v := .ref (sa 2)) (C := RX3) (T := TX3) (N := 6) hx hb hts (fun _ h => (List.mem_cons_of_mem _ (List.mem_append_left _ (List.mem_append_left _ (List.mem_append_left _ (List.mem_append_left _ (List.mem_append_left _ (List.mem_append_right _ h)))))))) hown hK hP 40 rfl rfl 1 (by decide) (hts _ (List.mem_cons_of_mem _ (List.mem_append_left _ (List.mem_append_left _ (List.mem_append_left _ (List.mem_append_left _ (List.mem_append_left _ (List.mem_append_left _ (List.mem_append_left _ (List.mem_of_getElem? (i := 1) rfl)))))))))) (fun _ h9 => h9) rfl dX3_isSame_10 ?_
  refine va_alen (v := nI (z_bc G)) hx hb hK hP 42 1 rfl rfl rfl dX3_isSame_13 ?_
  refine q_newi hx hb (hts _ (List.mem_cons_of_mem _ (List.mem_append_left _ (List.mem_append_left _ (List.mem_append_left _ (List.mem_append_left _ (List.mem_append_left _ (List.mem_append_left _ (List.mem_append_left _ (List.mem_of_getElem? (i := 0) rfl)))))))))) hK hP hD hS hA rfl (by omega) (by show _ ≤ 2; omega) (by show _ ≤ 10; omega) dX3_isSame_14 (fun q2 H hP hD hS => ?_)
  have hP := q_mvP (c := z_cW cI h na ta G D G1 D1) (e := [(q1, .inl (cI, 4, .inl (fun _ => 0)))]) (s := q_W cI cR sa rb rt G D) hP
  have hD := q_mvD (c := z_cW cI h na ta G D G1 D1) (e := [(q1, .inl (cI, 4, .inl (fun _ => 0)))]) (s := q_W cI cR sa rb rt G D) hD
  have hP : va_P Dg vwCl (z_cW cI h na ta G D G1 D1 ++ ([(q1, .inl (cI, 4, .inl (fun _ => 0))), (q2, .inl (cI, (z_bc G), .inl (fun _ => 0)))] ++ q_W cI cR sa rb rt G D)) H := hP
  have hD : va_D _ (z_cW cI h na ta G D G1 D1 ++ ([(q1, .inl (cI, 4, .inl (fun _ => 0))), (q2, .inl (cI, (z_bc G), .inl (fun _ => 0)))] ++ q_W cI cR sa rb rt G D)) := hD
  refine lv_astore (lv' := [(5, .ref q2), (4, .ref q1), (3, .int 0), (2, .int 0), (0, .ref (sa 0)), (1, .ref h)]) hx hb dX3_isSame_16 hl (by decide) rfl (fun ls hl => ?_)
  refine lv_iconst (v := nI 0) hx hb dX3_isSame_18 (by decide) ?_
  refine lv_istore (lv' := [(6, .int (nI 0)), (5, .ref q2), (4, .ref q1), (3, .int 0), (2, .int 0), (0, .ref (sa 0)), (1, .ref h)]) hx hb dX3_isSame_19 hl (by decide) rfl (fun ls hl => ?_)
  rw [q_on_0 G D] at hP hD
  have hP : va_P Dg vwCl (z_cW cI h na ta G D G1 D1 ++ ([(q1, .inl (cI, 4, .inl (q_on G D 0))), (q2, .inl (cI, (z_bc G), .inl (q_le G D 0)))] ++ q_W cI cR sa rb rt G D)) H := hP
  have hD : va_D _ (z_cW cI h na ta G D G1 D1 ++ ([(q1, .inl (cI, 4, .inl (q_on G D 0))), (q2, .inl (cI, (z_bc G), .inl (q_le G D 0)))] ++ q_W cI cR sa rb rt G D)) := hD
  have hl : lv_has ls 9 [(6, .int (nI 0)), (5, .ref q2), (4, .ref q1), (3, .int (q_vs D 0)), (2, .int 0), (0, .ref (sa 0)), (1, .ref h)] := by have q : 0 = q_vs D 0 := rfl; rw [← q]; exact hl
  have lp21 : ∀ (zz i : Nat) , i ≤ z_tc G → z_tc G + 1 ≤ i + zz → ∀ (H : Heap) (locs : List Loc), va_P Dg vwCl (z_cW cI h na ta G D G1 D1 ++ ([(q1, .inl (cI, 4, .inl (q_on G D i))), (q2, .inl (cI, (z_bc G), .inl (q_le G D i)))] ++ q_W cI cR sa rb rt G D)) H → va_D (va_A (z_cW cI h na ta G D G1 D1 ++ q_W cI cR sa rb rt G D) sz) (z_cW cI h na ta G D G1 D1 ++ ([(q1, .inl (cI, 4, .inl (q_on G D i))), (q2, .inl (cI, (z_bc G), .inl (q_le G D i)))] ++ q_W cI cR sa rb rt G D)) → va_S (va_A (z_cW cI h na ta G D G1 D1 ++ q_W cI cR sa rb rt G D) sz) s.heap H locs → ∀ ls : Array Slot, lv_has ls 9 [(0, .ref (sa 0)), (1, .ref h), (2, .int 0), (3, .int (q_vs D i)), (4, .ref q1), (5, .ref q2), (6, .int (nI i))] → W p l e ({ frames := 8, cells := 2, slots := 10, locals := 132 } : Room) s m ([.ref (sa 0), .ref h] : List Value).toArray below meth c H locs (0 + 1 + 1) (0 + 4 + z_bc G) (MQ below (z_Qd (fun o w9 => o = some (.int (z_bI true))) Dg (z_cW cI h na ta G D G1 D1 ++ q_W cI cR sa rb rt G D) sz) ([.ref (sa 0), .ref h] : List Value).toArray s 2 10 (va_A (z_cW cI h na ta G D G1 D1 ++ q_W cI cR sa rb rt G D) sz)) (F0 m 21 ls []) := by
    intro zz
    induction zz with
    | zero => intros; exfalso; omega
    | succ zz ih21 =>
      intro i hi hzz H locs hP hD hS ls hl
      refine lv_iload hx hb dX3_isSame_21 (lv_at hl 6 rfl) ?_
      refine lv_aload_n hx hb dX3_isSame_23 rfl (lv_at hl 0 rfl) ?_
      refine va_get (ci := 3) (v := .ref (sa 3)) (C := RX3) (T := TX3) (N := 6) hx hb hts (fun _ h => (List.mem_cons_of_mem _ (List.mem_append_left _ (List.mem_append_left _ (List.mem_append_left _ (List.mem_append_left _ (List.mem_append_left _ (List.mem_append_right _ h)))))))) hown hK hP 41 rfl rfl 2 (by decide) (hts _ (List.mem_cons_of_mem _ (List.mem_append_left _ (List.mem_append_left _ (List.mem_append_left _ (List.mem_append_left _ (List.mem_append_left _ (List.mem_append_left _ (List.mem_append_left _ (List.mem_of_getElem? (i := 2) rfl)))))))))) (fun _ h9 => h9) rfl dX3_isSame_24 ?_
      refine va_alen (v := nI (z_tc G)) hx hb hK hP 44 1 rfl rfl rfl dX3_isSame_27 ?_
      refine lv_icmp_ge (tgt := 188) hx hb dX3_isSame_28 (by decide) (fun c28 => ?_) (fun c28 => ?_)
      · skip
        have hi2 : i = z_tc G := Nat.le_antisymm hi (z_le (by omega) (by omega) c28)
        subst hi2
        refine lv_iconst (v := nI 0) hx hb dX3_isSame_188 (by decide) ?_
        refine lv_istore (lv' := [(6, .int (nI 0)), (0, .ref (sa 0)), (1, .ref h), (2, .int 0), (3, .int (q_vs D (z_tc G))), (4, .ref q1), (5, .ref q2)]) hx hb dX3_isSame_189 hl (by decide) rfl (fun ls hl => ?_)
        have lp191 : ∀ (zz i : Nat) , i ≤ 4 → 4 + 1 ≤ i + zz → ∀ ls : Array Slot, lv_has ls 9 [(0, .ref (sa 0)), (1, .ref h), (2, .int 0), (3, .int (q_vs D (z_tc G))), (4, .ref q1), (5, .ref q2), (6, .int (nI i))] → W p l e ({ frames := 8, cells := 2, slots := 10, locals := 132 } : Room) s m ([.ref (sa 0), .ref h] : List Value).toArray below meth c H locs (0 + 1 + 1) (0 + 4 + z_bc G) (MQ below (z_Qd (fun o w9 => o = some (.int (z_bI true))) Dg (z_cW cI h na ta G D G1 D1 ++ q_W cI cR sa rb rt G D) sz) ([.ref (sa 0), .ref h] : List Value).toArray s 2 10 (va_A (z_cW cI h na ta G D G1 D1 ++ q_W cI cR sa rb rt G D) sz)) (F0 m 191 ls []) := by
          intro zz
          induction zz with
          | zero => intros; exfalso; omega
          | succ zz ih191 =>
            intro i hi hzz ls hl
            refine lv_iload hx hb dX3_isSame_191 (lv_at hl 6 rfl) ?_
            refine lv_iconst (v := nI 4) hx hb dX3_isSame_193 (by decide) ?_
            refine lv_icmp_ge (tgt := 235) hx hb dX3_isSame_194 (by decide) (fun c194 => ?_) (fun c194 => ?_)
            · skip
              have hi2 : i = 4 := Nat.le_antisymm hi (z_le (by omega) (by omega) c194)
              subst hi2
              refine lv_iconst (v := nI 0) hx hb dX3_isSame_235 (by decide) ?_
              refine lv_istore (lv' := [(6, .int (nI 0)), (0, .ref (sa 0)), (1, .ref h), (2, .int 0), (3, .int (q_vs D (z_tc G))), (4, .ref q1), (5, .ref q2)]) hx hb dX3_isSame_236 hl (by decide) rfl (fun ls hl => ?_)
              have hl : lv_has ls 9 [(6, .int (nI 0)), (0, .ref (sa 0)), (1, .ref h), (2, .int (z_sum (z_sw D) 0)), (3, .int (q_vs D (z_tc G))), (4, .ref q1), (5, .ref q2)] := by have q : 0 = z_sum (z_sw D) 0 := rfl; rw [← q]; exact hl
              have lp238 : ∀ (zz i : Nat) , i ≤ z_bc G → z_bc G + 1 ≤ i + zz → ∀ ls : Array Slot, lv_has ls 9 [(0, .ref (sa 0)), (1, .ref h), (2, .int (z_sum (z_sw D) i)), (3, .int (q_vs D (z_tc G))), (4, .ref q1), (5, .ref q2), (6, .int (nI i))] → W p l e ({ frames := 8, cells := 2, slots := 10, locals := 132 } : Room) s m ([.ref (sa 0), .ref h] : List Value).toArray below meth c H locs (0 + 1 + 1) (0 + 4 + z_bc G) (MQ below (z_Qd (fun o w9 => o = some (.int (z_bI true))) Dg (z_cW cI h na ta G D G1 D1 ++ q_W cI cR sa rb rt G D) sz) ([.ref (sa 0), .ref h] : List Value).toArray s 2 10 (va_A (z_cW cI h na ta G D G1 D1 ++ q_W cI cR sa rb rt G D) sz)) (F0 m 238 ls []) := by
                intro zz
                induction zz with
                | zero => intros; exfalso; omega
                | succ zz ih238 =>
                  intro i hi hzz ls hl
                  refine lv_iload hx hb dX3_isSame_238 (lv_at hl 6 rfl) ?_
                  refine lv_aload_n hx hb dX3_isSame_240 rfl (lv_at hl 0 rfl) ?_
                  refine va_get (ci := 3) (v := .ref (sa 2)) (C := RX3) (T := TX3) (N := 6) hx hb hts (fun _ h => (List.mem_cons_of_mem _ (List.mem_append_left _ (List.mem_append_left _ (List.mem_append_left _ (List.mem_append_left _ (List.mem_append_left _ (List.mem_append_right _ h)))))))) hown hK hP 41 rfl rfl 1 (by decide) (hts _ (List.mem_cons_of_mem _ (List.mem_append_left _ (List.mem_append_left _ (List.mem_append_left _ (List.mem_append_left _ (List.mem_append_left _ (List.mem_append_left _ (List.mem_append_left _ (List.mem_of_getElem? (i := 1) rfl)))))))))) (fun _ h9 => h9) rfl dX3_isSame_241 ?_
                  refine va_alen (v := nI (z_bc G)) hx hb hK hP 43 1 rfl rfl rfl dX3_isSame_244 ?_
                  refine lv_icmp_ge (tgt := 327) hx hb dX3_isSame_245 (by decide) (fun c245 => ?_) (fun c245 => ?_)
                  · skip
                    have hi2 : i = z_bc G := Nat.le_antisymm hi (z_le (by omega) (by omega) c245)
                    subst hi2
                    refine lv_iconst (v := nI 0) hx hb dX3_isSame_327 (by decide) ?_
                    refine lv_istore (lv' := [(6, .int (nI 0)), (0, .ref (sa 0)), (1, .ref h), (2, .int (z_sum (z_sw D) (z_bc G))), (3, .int (q_vs D (z_tc G))), (4, .ref q1), (5, .ref q2)]) hx hb dX3_isSame_328 hl (by decide) rfl (fun ls hl => ?_)
                    have lp330 : ∀ (zz i : Nat) , i ≤ 3 → 3 + 1 ≤ i + zz → ∀ ls : Array Slot, lv_has ls 9 [(0, .ref (sa 0)), (1, .ref h), (2, .int (z_sum (z_sw D) (z_bc G))), (3, .int (q_vs D (z_tc G))), (4, .ref q1), (5, .ref q2), (6, .int (nI i))] → W p l e ({ frames := 8, cells := 2, slots := 10, locals := 132 } : Room) s m ([.ref (sa 0), .ref h] : List Value).toArray below meth c H locs (0 + 1 + 1) (0 + 4 + z_bc G) (MQ below (z_Qd (fun o w9 => o = some (.int (z_bI true))) Dg (z_cW cI h na ta G D G1 D1 ++ q_W cI cR sa rb rt G D) sz) ([.ref (sa 0), .ref h] : List Value).toArray s 2 10 (va_A (z_cW cI h na ta G D G1 D1 ++ q_W cI cR sa rb rt G D) sz)) (F0 m 330 ls []) := by
                      intro zz
                      induction zz with
                      | zero => intros; exfalso; omega
                      | succ zz ih330 =>
                        intro i hi hzz ls hl
                        refine lv_iload hx hb dX3_isSame_330 (lv_at hl 6 rfl) ?_
                        refine lv_iconst (v := nI 3) hx hb dX3_isSame_332 (by decide) ?_
                        refine lv_icmp_ge (tgt := 359) hx hb dX3_isSame_333 (by decide) (fun c333 => ?_) (fun c333 => ?_)
                        · skip
                          have hi2 : i = 3 := Nat.le_antisymm hi (z_le (by omega) (by omega) c333)
                          subst hi2
                          refine lv_aload_n hx hb dX3_isSame_359 rfl (lv_at hl 0 rfl) ?_
                          refine lv_iconst (v := nI 0) hx hb dX3_isSame_360 (by decide) ?_
                          refine q_rVi (v := nI (z_cn G D (0 + 1))) [] hx hb hml hown hts (m_X3_count l Dg cI cR cZ sa rb rt G D 0 (by decide) hG hW) gX3_isSame_X3_count rfl kd_X3_count ⟨Nat.le_of_ble_eq_true rfl, Nat.le_of_ble_eq_true rfl⟩ hK hN hJ (z_Prr (z_Prr hP)) rfl rfl rfl rfl rfl hl.1 (Nat.le_of_ble_eq_true rfl) dX3_isSame_361 ⟨by show _ ≤ 2; omega, by show _ ≤ 10; omega⟩ ?_
                          refine lv_istore (lv' := [(6, .int (nI (z_cn G D (0 + 1)))), (0, .ref (sa 0)), (1, .ref h), (2, .int (z_sum (z_sw D) (z_bc G))), (3, .int (q_vs D (z_tc G))), (4, .ref q1), (5, .ref q2)]) hx hb dX3_isSame_364 hl (by decide) rfl (fun ls hl => ?_)
                          refine lv_aload_n hx hb dX3_isSame_366 rfl (lv_at hl 2 rfl) ?_
                          refine z_rVi (v := z_dy D) [] hx hb hml hown hts (m_X2_day l Dg cI h na ta G D G1 D1 hG hW) gX3_isSame_X2_day rfl kd_X2_day ⟨Nat.le_of_ble_eq_true rfl, Nat.le_of_ble_eq_true rfl⟩ (q_KI hK) hN (z_Pl hP) rfl rfl rfl rfl hl.1 rfl (Nat.le_of_ble_eq_true rfl) dX3_isSame_367 ⟨by show _ ≤ 2; omega, by show _ ≤ 10; omega⟩ ?_
                          refine lv_aload_n hx hb dX3_isSame_370 rfl (lv_at hl 1 rfl) ?_
                          refine va_get (ci := 3) (v := .int (z_dy D)) (C := RX3) (T := TX3) (N := 6) hx hb hts (fun _ h => (List.mem_cons_of_mem _ (List.mem_append_left _ (List.mem_append_left _ (List.mem_append_left _ (List.mem_append_left _ (List.mem_append_left _ (List.mem_append_right _ h)))))))) hown hK hP 41 rfl rfl 5 (by decide) (hts _ (List.mem_cons_of_mem _ (List.mem_append_left _ (List.mem_append_left _ (List.mem_append_left _ (List.mem_append_left _ (List.mem_append_left _ (List.mem_append_left _ (List.mem_append_left _ (List.mem_of_getElem? (i := 4) rfl)))))))))) (fun _ h9 => h9) rfl dX3_isSame_371 ?_
                          refine lv_icmp_ne (tgt := 469) hx hb dX3_isSame_374 (by decide) (fun c374 => absurd rfl c374) (fun c374 => ?_)
                          refine lv_aload_n hx hb dX3_isSame_377 rfl (lv_at hl 2 rfl) ?_
                          refine z_rVi (v := nI (z_bc G)) [] hx hb hml hown hts (m_X2_batches l Dg cI h na ta G D G1 D1 hG hW) gX3_isSame_X2_batches rfl kd_X2_batches ⟨Nat.le_of_ble_eq_true rfl, Nat.le_of_ble_eq_true rfl⟩ (q_KI hK) hN (z_Pl hP) rfl rfl rfl rfl hl.1 rfl (Nat.le_of_ble_eq_true rfl) dX3_isSame_378 ⟨by show _ ≤ 2; omega, by show _ ≤ 10; omega⟩ ?_
                          refine lv_aload_n hx hb dX3_isSame_381 rfl (lv_at hl 1 rfl) ?_
                          refine va_get (ci := 3) (v := .ref (sa 2)) (C := RX3) (T := TX3) (N := 6) hx hb hts (fun _ h => (List.mem_cons_of_mem _ (List.mem_append_left _ (List.mem_append_left _ (List.mem_append_left _ (List.mem_append_left _ (List.mem_append_left _ (List.mem_append_right _ h)))))))) hown hK hP 41 rfl rfl 1 (by decide) (hts _ (List.mem_cons_of_mem _ (List.mem_append_left _ (List.mem_append_left _ (List.mem_append_left _ (List.mem_append_left _ (List.mem_append_left _ (List.mem_append_left _ (List.mem_append_left _ (List.mem_of_getElem? (i := 1) rfl)))))))))) (fun _ h9 => h9) rfl dX3_isSame_382 ?_
                          refine va_alen (v := nI (z_bc G)) hx hb hK hP 43 1 rfl rfl rfl dX3_isSame_385 ?_
                          refine lv_icmp_ne (tgt := 469) hx hb dX3_isSame_386 (by decide) (fun c386 => absurd rfl c386) (fun c386 => ?_)
                          refine lv_aload_n hx hb dX3_isSame_389 rfl (lv_at hl 2 rfl) ?_
                          refine z_rVi (v := nI (z_tc G)) [] hx hb hml hown hts (m_X2_tins l Dg cI h na ta G D G1 D1 hG hW) gX3_isSame_X2_tins rfl kd_X2_tins ⟨Nat.le_of_ble_eq_true rfl, Nat.le_of_ble_eq_true rfl⟩ (q_KI hK) hN (z_Pl hP) rfl rfl rfl rfl hl.1 rfl (Nat.le_of_ble_eq_true rfl) dX3_isSame_390 ⟨by show _ ≤ 2; omega, by show _ ≤ 10; omega⟩ ?_
                          refine lv_aload_n hx hb dX3_isSame_393 rfl (lv_at hl 1 rfl) ?_
                          refine va_get (ci := 3) (v := .ref (sa 3)) (C := RX3) (T := TX3) (N := 6) hx hb hts (fun _ h => (List.mem_cons_of_mem _ (List.mem_append_left _ (List.mem_append_left _ (List.mem_append_left _ (List.mem_append_left _ (List.mem_append_left _ (List.mem_append_right _ h)))))))) hown hK hP 41 rfl rfl 2 (by decide) (hts _ (List.mem_cons_of_mem _ (List.mem_append_left _ (List.mem_append_left _ (List.mem_append_left _ (List.mem_append_left _ (List.mem_append_left _ (List.mem_append_left _ (List.mem_append_left _ (List.mem_of_getElem? (i := 2) rfl)))))))))) (fun _ h9 => h9) rfl dX3_isSame_394 ?_
                          refine va_alen (v := nI (z_tc G)) hx hb hK hP 44 1 rfl rfl rfl dX3_isSame_397 ?_
                          refine lv_icmp_ne (tgt := 469) hx hb dX3_isSame_398 (by decide) (fun c398 => absurd rfl c398) (fun c398 => ?_)
                          refine lv_aload_n hx hb dX3_isSame_401 rfl (lv_at hl 2 rfl) ?_
                          refine z_rVi (v := nI (z_cn G D 1)) [] hx hb hml hown hts (m_X2_inCellar l Dg cI h na ta G D G1 D1 hG hW) gX3_isSame_X2_inCellar rfl kd_X2_inCellar ⟨Nat.le_of_ble_eq_true rfl, Nat.le_of_ble_eq_true rfl⟩ (q_KI hK) hN (z_Pl hP) rfl rfl rfl rfl hl.1 rfl (Nat.le_of_ble_eq_true rfl) dX3_isSame_402 ⟨by show _ ≤ 2; omega, by show _ ≤ 10; omega⟩ ?_
                          refine lv_iload hx hb dX3_isSame_405 (lv_at hl 0 rfl) ?_
                          refine lv_icmp_ne (tgt := 469) hx hb dX3_isSame_407 (by decide) (fun c407 => absurd rfl c407) (fun c407 => ?_)
                          refine lv_aload_n hx hb dX3_isSame_410 rfl (lv_at hl 2 rfl) ?_
                          refine z_rVi (v := nI (z_cn G D 2)) [] hx hb hml hown hts (m_X2_shipped l Dg cI h na ta G D G1 D1 hG hW) gX3_isSame_X2_shipped rfl kd_X2_shipped ⟨Nat.le_of_ble_eq_true rfl, Nat.le_of_ble_eq_true rfl⟩ (q_KI hK) hN (z_Pl hP) rfl rfl rfl rfl hl.1 rfl (Nat.le_of_ble_eq_true rfl) dX3_isSame_411 ⟨by show _ ≤ 2; omega, by show _ ≤ 10; omega⟩ ?_
                          refine lv_aload_n hx hb dX3_isSame_414 rfl (lv_at hl 1 rfl) ?_
                          refine lv_iconst (v := nI 1) hx hb dX3_isSame_415 (by decide) ?_
                          refine q_rVi (v := nI (z_cn G D (1 + 1))) [.int (nI (z_cn G D 2))] hx hb hml hown hts (m_X3_count l Dg cI cR cZ sa rb rt G D 1 (by decide) hG hW) gX3_isSame_X3_count rfl kd_X3_count ⟨Nat.le_of_ble_eq_true rfl, Nat.le_of_ble_eq_true rfl⟩ hK hN hJ (z_Prr (z_Prr hP)) rfl rfl rfl rfl rfl hl.1 (Nat.le_of_ble_eq_true rfl) dX3_isSame_416 ⟨by show _ ≤ 2; omega, by show _ ≤ 10; omega⟩ ?_
                          refine lv_icmp_ne (tgt := 469) hx hb dX3_isSame_419 (by decide) (fun c419 => absurd rfl c419) (fun c419 => ?_)
                          refine lv_aload_n hx hb dX3_isSame_422 rfl (lv_at hl 2 rfl) ?_
                          refine z_rVi (v := nI (z_cn G D 3)) [] hx hb hml hown hts (m_X2_lost l Dg cI h na ta G D G1 D1 hG hW) gX3_isSame_X2_lost rfl kd_X2_lost ⟨Nat.le_of_ble_eq_true rfl, Nat.le_of_ble_eq_true rfl⟩ (q_KI hK) hN (z_Pl hP) rfl rfl rfl rfl hl.1 rfl (Nat.le_of_ble_eq_true rfl) dX3_isSame_423 ⟨by show _ ≤ 2; omega, by show _ ≤ 10; omega⟩ ?_
                          refine lv_aload_n hx hb dX3_isSame_426 rfl (lv_at hl 1 rfl) ?_
                          refine lv_iconst (v := nI 2) hx hb dX3_isSame_427 (by decide) ?_
                          refine q_rVi (v := nI (z_cn G D (2 + 1))) [.int (nI (z_cn G D 3))] hx hb hml hown hts (m_X3_count l Dg cI cR cZ sa rb rt G D 2 (by decide) hG hW) gX3_isSame_X3_count rfl kd_X3_count ⟨Nat.le_of_ble_eq_true rfl, Nat.le_of_ble_eq_true rfl⟩ hK hN hJ (z_Prr (z_Prr hP)) rfl rfl rfl rfl rfl hl.1 (Nat.le_of_ble_eq_true rfl) dX3_isSame_428 ⟨by show _ ≤ 2; omega, by show _ ≤ 10; omega⟩ ?_
                          refine lv_icmp_ne (tgt := 469) hx hb dX3_isSame_431 (by decide) (fun c431 => absurd rfl c431) (fun c431 => ?_)
                          refine lv_aload_n hx hb dX3_isSame_434 rfl (lv_at hl 2 rfl) ?_
                          refine z_rVi (v := z_sum (z_sw D) (z_bc G)) [] hx hb hml hown hts (m_X2_swelled l Dg cI h na ta G D G1 D1 hG hW) gX3_isSame_X2_swelled rfl kd_X2_swelled ⟨Nat.le_of_ble_eq_true rfl, Nat.le_of_ble_eq_true rfl⟩ (q_KI hK) hN (z_Pl hP) rfl rfl rfl rfl hl.1 rfl (Nat.le_of_ble_eq_true rfl) dX3_isSame_435 ⟨by show _ ≤ 2; omega, by show _ ≤ 10; omega⟩ ?_
                          refine lv_iload_n hx hb dX3_isSame_438 rfl (lv_at hl 3 rfl) ?_
                          refine lv_icmp_ne (tgt := 469) hx hb dX3_isSame_439 (by decide) (fun c439 => absurd rfl c439) (fun c439 => ?_)
                          refine lv_aload_n hx hb dX3_isSame_442 rfl (lv_at hl 2 rfl) ?_
                          refine q_rVd (v := z_mv G D) [] hx hb hml hown hts (m_X2_meanP l Dg cI h na ta G D G1 D1 hG hW) gX3_isSame_X2_meanVacuum rfl kd_X2_meanVacuum ⟨Nat.le_of_ble_eq_true rfl, Nat.le_of_ble_eq_true rfl⟩ (q_KI hK) hN (z_Pl hP) rfl rfl rfl rfl hl.1 rfl (Nat.le_of_ble_eq_true rfl) dX3_isSame_443 ⟨by show _ ≤ 2; omega, by show _ ≤ 10; omega⟩ ?_
                          refine lv_iload hx hb dX3_isSame_446 (lv_at hl 0 rfl) ?_
                          refine lv_if_ne (tgt := 455) hx hb dX3_isSame_448 (by decide) (fun c448 => ?_) (fun c448 => ?_)
                          · skip
                            refine lv_iload_n hx hb dX3_isSame_455 rfl (lv_at hl 4 rfl) ?_
                            refine lv_i2d hx hb dX3_isSame_456 ?_
                            refine lv_iload hx hb dX3_isSame_457 (lv_at hl 0 rfl) ?_
                            refine lv_i2d hx hb dX3_isSame_459 ?_
                            refine lv_ddiv hx hb dX3_isSame_460 (q_n64 _ _ c448) ?_
                            refine z_topd (y := FP.ddiv (FP.i2d (q_vs D (z_tc G))) (FP.i2d (nI (z_cn G D (0 + 1))))) (y' := z_mv G D) (z_mv1 (fun z => c448 (by rw [z]; rfl))).symm ?_
                            refine lv_dcmp hx hb dX3_isSame_461 ?_
                            refine lv_if_ne (tgt := 469) hx hb dX3_isSame_462 (by decide) (fun c462 => absurd (z_dc_e (q_mvn hG)) c462) (fun c462 => ?_)
                            refine lv_iconst (v := 1) hx hb dX3_isSame_465 (by decide) ?_
                            refine lv_goto (tgt := 470) hx hb dX3_isSame_466 (by decide) ?_
                            exact q_ed_z (b := true) rfl hP hD hS ⟨by omega, by omega⟩ hx hb hr hlk dX3_isSame_470
                          · skip
                            have hz : z_cn G D 1 = 0 := z_eq (b := 0) (by have := q_cn_le (G := G) (D := D) 1; omega) (by decide) c448
                            refine lv_dconst0 hx hb dX3_isSame_451 ?_
                            refine lv_goto (tgt := 461) hx hb dX3_isSame_452 (by decide) ?_
                            refine z_topd (y := FP.dconst0) (y' := z_mv G D) (z_mv0 hz).symm ?_
                            refine lv_dcmp hx hb dX3_isSame_461 ?_
                            refine lv_if_ne (tgt := 469) hx hb dX3_isSame_462 (by decide) (fun c462 => absurd (z_dc_e (q_mvn hG)) c462) (fun c462 => ?_)
                            refine lv_iconst (v := 1) hx hb dX3_isSame_465 (by decide) ?_
                            refine lv_goto (tgt := 470) hx hb dX3_isSame_466 (by decide) ?_
                            exact q_ed_z (b := true) rfl hP hD hS ⟨by omega, by omega⟩ hx hb hr hlk dX3_isSame_470
                        · skip
                          have hi2 : i < 3 := z_nle (by omega) c333
                          refine lv_aload_n hx hb dX3_isSame_336 rfl (lv_at hl 1 rfl) ?_
                          refine lv_iload hx hb dX3_isSame_337 (lv_at hl 6 rfl) ?_
                          refine z_rVi (v := z_oi (z_fb G D i (z_tc G))) [] hx hb hml hown hts (m_X2_first l Dg cI h na ta G D G1 D1 i (by omega) hG hW) gX3_isSame_X2_first rfl kd_X2_first ⟨Nat.le_of_ble_eq_true rfl, Nat.le_of_ble_eq_true rfl⟩ (q_KI hK) hN (z_Pl hP) rfl rfl rfl rfl hl.1 rfl (Nat.le_of_ble_eq_true rfl) dX3_isSame_339 ⟨by show _ ≤ 2; omega, by show _ ≤ 10; omega⟩ ?_
                          refine lv_aload_n hx hb dX3_isSame_342 rfl (lv_at hl 0 rfl) ?_
                          refine lv_iload hx hb dX3_isSame_343 (lv_at hl 6 rfl) ?_
                          refine q_rVi (v := z_oi (z_fb G D i (z_tc G))) [.int (z_oi (z_fb G D i (z_tc G)))] hx hb hml hown hts (m_X3_first l Dg cI cR cZ sa rb rt G D i (by omega) hG hW hV) gX3_isSame_X3_first rfl kd_X3_first ⟨Nat.le_of_ble_eq_true rfl, Nat.le_of_ble_eq_true rfl⟩ hK hN hJ (z_Prr (z_Prr hP)) rfl rfl rfl rfl rfl hl.1 (Nat.le_of_ble_eq_true rfl) dX3_isSame_345 ⟨by show _ ≤ 2; omega, by show _ ≤ 10; omega⟩ ?_
                          refine lv_icmp_eq (tgt := 353) hx hb dX3_isSame_348 (by decide) (fun c348 => ?_) (fun c348 => absurd rfl c348)
                          refine lv_iinc (v := nI (i + 1)) (lv' := [(6, .int (nI (i + 1))), (0, .ref (sa 0)), (1, .ref h), (2, .int (z_sum (z_sw D) (z_bc G))), (3, .int (q_vs D (z_tc G))), (4, .ref q1), (5, .ref q2)]) hx hb dX3_isSame_353 hl (k := 6) rfl (nI_1 _) (by decide) rfl (fun ls hl => ?_)
                          refine lv_goto (tgt := 330) hx hb dX3_isSame_356 (by decide) ?_
                          exact ih330 (i + 1) (by omega) (by omega) _ (lv_sub hl [1, 2, 3, 4, 5, 6, 0] rfl)
                    exact lp330 (3 + 1) 0 (by omega) (by omega) _ (lv_sub hl [1, 2, 3, 4, 5, 6, 0] rfl)
                  · skip
                    have hi2 : i < z_bc G := z_nle (by omega) c245
                    refine lv_iload_n hx hb dX3_isSame_248 rfl (lv_at hl 2 rfl) ?_
                    refine lv_aload_n hx hb dX3_isSame_249 rfl (lv_at hl 0 rfl) ?_
                    refine va_get (ci := 3) (v := .ref (sa 2)) (C := RX3) (T := TX3) (N := 6) hx hb hts (fun _ h => (List.mem_cons_of_mem _ (List.mem_append_left _ (List.mem_append_left _ (List.mem_append_left _ (List.mem_append_left _ (List.mem_append_left _ (List.mem_append_right _ h)))))))) hown hK hP 41 rfl rfl 1 (by decide) (hts _ (List.mem_cons_of_mem _ (List.mem_append_left _ (List.mem_append_left _ (List.mem_append_left _ (List.mem_append_left _ (List.mem_append_left _ (List.mem_append_left _ (List.mem_append_left _ (List.mem_of_getElem? (i := 1) rfl)))))))))) (fun _ h9 => h9) rfl dX3_isSame_250 ?_
                    refine lv_iload hx hb dX3_isSame_253 (lv_at hl 6 rfl) ?_
                    refine q_aald (v := rb i) hx hb hK hP 43 rfl (by omega) (by omega) rfl dX3_isSame_255 ?_
                    refine lv_iconst (v := nI 2) hx hb dX3_isSame_256 (by decide) ?_
                    refine z_iald hx hb hK hP (39 + (2 + (4 + i))) 0 (q_pre (n := 39) rfl (q_pre (n := 2) rfl (q_gB (cI := cI) (cR := cR) (sa := sa) (rb := rb) (rt := rt) (G := G) (D := D) (by omega)))) rfl (by decide) (by decide) dX3_isSame_257 ?_
                    refine z_top (x' := z_sw D i) rfl ?_
                    refine lv_iadd hx hb dX3_isSame_258 ?_
                    refine lv_istore_n (lv' := [(2, .int ((z_sum (z_sw D) i) + (z_sw D i))), (0, .ref (sa 0)), (1, .ref h), (3, .int (q_vs D (z_tc G))), (4, .ref q1), (5, .ref q2), (6, .int (nI i))]) hx hb dX3_isSame_259 rfl hl (by decide) rfl (fun ls hl => ?_)
                    refine lv_aload_n hx hb dX3_isSame_260 rfl (lv_at hl 2 rfl) ?_
                    refine lv_iload hx hb dX3_isSame_261 (lv_at hl 6 rfl) ?_
                    refine z_rVi (v := z_sw D i) [] hx hb hml hown hts (m_X2_swelledOf l Dg cI h na ta G D G1 D1 i (by omega) hG hW) gX3_isSame_X2_swelledOf rfl kd_X2_swelledOf ⟨Nat.le_of_ble_eq_true rfl, Nat.le_of_ble_eq_true rfl⟩ (q_KI hK) hN (z_Pl hP) rfl rfl rfl rfl hl.1 rfl (Nat.le_of_ble_eq_true rfl) dX3_isSame_263 ⟨by show _ ≤ 2; omega, by show _ ≤ 10; omega⟩ ?_
                    refine lv_aload_n hx hb dX3_isSame_266 rfl (lv_at hl 1 rfl) ?_
                    refine va_get (ci := 3) (v := .ref (sa 2)) (C := RX3) (T := TX3) (N := 6) hx hb hts (fun _ h => (List.mem_cons_of_mem _ (List.mem_append_left _ (List.mem_append_left _ (List.mem_append_left _ (List.mem_append_left _ (List.mem_append_left _ (List.mem_append_right _ h)))))))) hown hK hP 41 rfl rfl 1 (by decide) (hts _ (List.mem_cons_of_mem _ (List.mem_append_left _ (List.mem_append_left _ (List.mem_append_left _ (List.mem_append_left _ (List.mem_append_left _ (List.mem_append_left _ (List.mem_append_left _ (List.mem_of_getElem? (i := 1) rfl)))))))))) (fun _ h9 => h9) rfl dX3_isSame_267 ?_
                    refine lv_iload hx hb dX3_isSame_270 (lv_at hl 6 rfl) ?_
                    refine q_aald (v := rb i) hx hb hK hP 43 rfl (by omega) (by omega) rfl dX3_isSame_272 ?_
                    refine lv_iconst (v := nI 2) hx hb dX3_isSame_273 (by decide) ?_
                    refine z_iald hx hb hK hP (39 + (2 + (4 + i))) 0 (q_pre (n := 39) rfl (q_pre (n := 2) rfl (q_gB (cI := cI) (cR := cR) (sa := sa) (rb := rb) (rt := rt) (G := G) (D := D) (by omega)))) rfl (by decide) (by decide) dX3_isSame_274 ?_
                    refine z_top (x' := z_sw D i) rfl ?_
                    refine lv_icmp_ne (tgt := 319) hx hb dX3_isSame_275 (by decide) (fun c275 => absurd rfl c275) (fun c275 => ?_)
                    refine lv_aload_n hx hb dX3_isSame_278 rfl (lv_at hl 2 rfl) ?_
                    refine lv_iload hx hb dX3_isSame_279 (lv_at hl 6 rfl) ?_
                    refine z_rVi (v := nI (z_lf G D i)) [] hx hb hml hown hts (m_X2_leftOf l Dg cI h na ta G D G1 D1 i (by omega) hG hW) gX3_isSame_X2_leftOf rfl kd_X2_leftOf ⟨Nat.le_of_ble_eq_true rfl, Nat.le_of_ble_eq_true rfl⟩ (q_KI hK) hN (z_Pl hP) rfl rfl rfl rfl hl.1 rfl (Nat.le_of_ble_eq_true rfl) dX3_isSame_281 ⟨by show _ ≤ 2; omega, by show _ ≤ 10; omega⟩ ?_
                    refine lv_aload hx hb dX3_isSame_284 (lv_at hl 5 rfl) ?_
                    refine lv_iload hx hb dX3_isSame_286 (lv_at hl 6 rfl) ?_
                    refine z_iald hx hb hK hP 40 0 rfl rfl (by omega) (by omega) dX3_isSame_288 ?_
                    refine z_top (x' := (q_le G D (z_tc G)) i) rfl ?_
                    refine lv_icmp_ne (tgt := 319) hx hb dX3_isSame_289 (by decide) (fun c289 => absurd rfl c289) (fun c289 => ?_)
                    refine lv_aload_n hx hb dX3_isSame_292 rfl (lv_at hl 2 rfl) ?_
                    refine lv_iload hx hb dX3_isSame_293 (lv_at hl 6 rfl) ?_
                    refine z_rVi (v := z_bI (z_rc D i)) [] hx hb hml hown hts (m_X2_isRecalled l Dg cI h na ta G D G1 D1 i (by omega) hG hW) gX3_isSame_X2_isRecalled rfl kd_X2_isRecalled ⟨Nat.le_of_ble_eq_true rfl, Nat.le_of_ble_eq_true rfl⟩ (q_KI hK) hN (z_Pl hP) rfl rfl rfl rfl hl.1 rfl (Nat.le_of_ble_eq_true rfl) dX3_isSame_295 ⟨by show _ ≤ 2; omega, by show _ ≤ 10; omega⟩ ?_
                    refine lv_aload_n hx hb dX3_isSame_298 rfl (lv_at hl 1 rfl) ?_
                    refine va_get (ci := 3) (v := .ref (sa 2)) (C := RX3) (T := TX3) (N := 6) hx hb hts (fun _ h => (List.mem_cons_of_mem _ (List.mem_append_left _ (List.mem_append_left _ (List.mem_append_left _ (List.mem_append_left _ (List.mem_append_left _ (List.mem_append_right _ h)))))))) hown hK hP 41 rfl rfl 1 (by decide) (hts _ (List.mem_cons_of_mem _ (List.mem_append_left _ (List.mem_append_left _ (List.mem_append_left _ (List.mem_append_left _ (List.mem_append_left _ (List.mem_append_left _ (List.mem_append_left _ (List.mem_of_getElem? (i := 1) rfl)))))))))) (fun _ h9 => h9) rfl dX3_isSame_299 ?_
                    refine lv_iload hx hb dX3_isSame_302 (lv_at hl 6 rfl) ?_
                    refine q_aald (v := rb i) hx hb hK hP 43 rfl (by omega) (by omega) rfl dX3_isSame_304 ?_
                    refine lv_iconst (v := nI 3) hx hb dX3_isSame_305 (by decide) ?_
                    refine z_iald hx hb hK hP (39 + (2 + (4 + i))) 0 (q_pre (n := 39) rfl (q_pre (n := 2) rfl (q_gB (cI := cI) (cR := cR) (sa := sa) (rb := rb) (rt := rt) (G := G) (D := D) (by omega)))) rfl (by decide) (by decide) dX3_isSame_306 ?_
                    refine z_top (x' := z_bI (z_rc D i)) rfl ?_
                    refine lv_iconst (v := nI 1) hx hb dX3_isSame_307 (by decide) ?_
                    refine lv_icmp_ne (tgt := 315) hx hb dX3_isSame_308 (by decide) (fun c308 => ?_) (fun c308 => ?_)
                    · skip
                      refine lv_iconst (v := 0) hx hb dX3_isSame_315 (by decide) ?_
                      refine lv_icmp_eq (tgt := 321) hx hb dX3_isSame_316 (by decide) (fun c316 => ?_) (fun c316 => absurd (q_rc0 c308) c316)
                      refine lv_iinc (v := nI (i + 1)) (lv' := [(6, .int (nI (i + 1))), (2, .int ((z_sum (z_sw D) i) + (z_sw D i))), (0, .ref (sa 0)), (1, .ref h), (3, .int (q_vs D (z_tc G))), (4, .ref q1), (5, .ref q2)]) hx hb dX3_isSame_321 hl (k := 6) rfl (nI_1 _) (by decide) rfl (fun ls hl => ?_)
                      refine lv_goto (tgt := 238) hx hb dX3_isSame_324 (by decide) ?_
                      have hl : lv_has ls 9 [(6, .int (nI (i + 1))), (2, .int (z_sum (z_sw D) (i + 1))), (0, .ref (sa 0)), (1, .ref h), (3, .int (q_vs D (z_tc G))), (4, .ref q1), (5, .ref q2)] := by have q : (z_sum (z_sw D) i) + (z_sw D i) = z_sum (z_sw D) (i + 1) := rfl; rw [← q]; exact hl
                      exact ih238 (i + 1) (by omega) (by omega) _ (lv_sub hl [2, 3, 1, 4, 5, 6, 0] rfl)
                    · skip
                      refine lv_iconst (v := 1) hx hb dX3_isSame_311 (by decide) ?_
                      refine lv_goto (tgt := 316) hx hb dX3_isSame_312 (by decide) ?_
                      refine lv_icmp_eq (tgt := 321) hx hb dX3_isSame_316 (by decide) (fun c316 => ?_) (fun c316 => absurd (q_rc1 c308) c316)
                      refine lv_iinc (v := nI (i + 1)) (lv' := [(6, .int (nI (i + 1))), (2, .int ((z_sum (z_sw D) i) + (z_sw D i))), (0, .ref (sa 0)), (1, .ref h), (3, .int (q_vs D (z_tc G))), (4, .ref q1), (5, .ref q2)]) hx hb dX3_isSame_321 hl (k := 6) rfl (nI_1 _) (by decide) rfl (fun ls hl => ?_)
                      refine lv_goto (tgt := 238) hx hb dX3_isSame_324 (by decide) ?_
                      have hl : lv_has ls 9 [(6, .int (nI (i + 1))), (2, .int (z_sum (z_sw D) (i + 1))), (0, .ref (sa 0)), (1, .ref h), (3, .int (q_vs D (z_tc G))), (4, .ref q1), (5, .ref q2)] := by have q : (z_sum (z_sw D) i) + (z_sw D i) = z_sum (z_sw D) (i + 1) := rfl; rw [← q]; exact hl
                      exact ih238 (i + 1) (by omega) (by omega) _ (lv_sub hl [2, 3, 1, 4, 5, 6, 0] rfl)
              exact lp238 (z_bc G + 1) 0 (by omega) (by omega) _ (lv_sub hl [1, 2, 3, 4, 5, 6, 0] rfl)
            · skip
              have hi2 : i < 4 := z_nle (by omega) c194
              refine lv_aload_n hx hb dX3_isSame_197 rfl (lv_at hl 1 rfl) ?_
              refine lv_iload hx hb dX3_isSame_198 (lv_at hl 6 rfl) ?_
              refine z_rVi (v := nI (z_on G D i)) [] hx hb hml hown hts (m_X2_standOn l Dg cI h na ta G D G1 D1 i (by omega) hG hW) gX3_isSame_X2_standOn rfl kd_X2_standOn ⟨Nat.le_of_ble_eq_true rfl, Nat.le_of_ble_eq_true rfl⟩ (q_KI hK) hN (z_Pl hP) rfl rfl rfl rfl hl.1 rfl (Nat.le_of_ble_eq_true rfl) dX3_isSame_200 ⟨by show _ ≤ 2; omega, by show _ ≤ 10; omega⟩ ?_
              refine lv_aload hx hb dX3_isSame_203 (lv_at hl 4 rfl) ?_
              refine lv_iload hx hb dX3_isSame_205 (lv_at hl 6 rfl) ?_
              refine z_iald hx hb hK hP 39 0 rfl rfl (by omega) (by decide) dX3_isSame_207 ?_
              refine z_top (x' := (q_on G D (z_tc G)) i) rfl ?_
              refine lv_icmp_ne (tgt := 227) hx hb dX3_isSame_208 (by decide) (fun c208 => absurd rfl c208) (fun c208 => ?_)
              refine lv_aload_n hx hb dX3_isSame_211 rfl (lv_at hl 1 rfl) ?_
              refine lv_iload hx hb dX3_isSame_212 (lv_at hl 6 rfl) ?_
              refine z_rVi (v := z_wm G i) [] hx hb hml hown hts (m_X2_warmOf l Dg cI h na ta G D G1 D1 i (by omega) hG hW) gX3_isSame_X2_warmOf rfl kd_X2_warmOf ⟨Nat.le_of_ble_eq_true rfl, Nat.le_of_ble_eq_true rfl⟩ (q_KI hK) hN (z_Pl hP) rfl rfl rfl rfl hl.1 rfl (Nat.le_of_ble_eq_true rfl) dX3_isSame_214 ⟨by show _ ≤ 2; omega, by show _ ≤ 10; omega⟩ ?_
              refine lv_aload_n hx hb dX3_isSame_217 rfl (lv_at hl 0 rfl) ?_
              refine va_get (ci := 3) (v := .ref (sa 1)) (C := RX3) (T := TX3) (N := 6) hx hb hts (fun _ h => (List.mem_cons_of_mem _ (List.mem_append_left _ (List.mem_append_left _ (List.mem_append_left _ (List.mem_append_left _ (List.mem_append_left _ (List.mem_append_right _ h)))))))) hown hK hP 41 rfl rfl 0 (by decide) (hts _ (List.mem_cons_of_mem _ (List.mem_append_left _ (List.mem_append_left _ (List.mem_append_left _ (List.mem_append_left _ (List.mem_append_left _ (List.mem_append_left _ (List.mem_append_left _ (List.mem_of_getElem? (i := 3) rfl)))))))))) (fun _ h9 => h9) rfl dX3_isSame_218 ?_
              refine lv_iload hx hb dX3_isSame_221 (lv_at hl 6 rfl) ?_
              refine z_iald hx hb hK hP 42 0 rfl rfl (by omega) (by decide) dX3_isSame_223 ?_
              refine z_top (x' := z_wm G i) rfl ?_
              refine lv_icmp_eq (tgt := 229) hx hb dX3_isSame_224 (by decide) (fun c224 => ?_) (fun c224 => absurd rfl c224)
              refine lv_iinc (v := nI (i + 1)) (lv' := [(6, .int (nI (i + 1))), (0, .ref (sa 0)), (1, .ref h), (2, .int 0), (3, .int (q_vs D (z_tc G))), (4, .ref q1), (5, .ref q2)]) hx hb dX3_isSame_229 hl (k := 6) rfl (nI_1 _) (by decide) rfl (fun ls hl => ?_)
              refine lv_goto (tgt := 191) hx hb dX3_isSame_232 (by decide) ?_
              exact ih191 (i + 1) (by omega) (by omega) _ (lv_sub hl [1, 2, 3, 4, 5, 6, 0] rfl)
        exact lp191 (4 + 1) 0 (by omega) (by omega) _ (lv_sub hl [1, 2, 3, 4, 5, 6, 0] rfl)
      · skip
        have hi2 : i < z_tc G := z_nle (by omega) c28
        have hbi := hB i hi2
        have hsi := hG.2.2.2.1 i
        have hwi := hW i hi2
        refine lv_aload_n hx hb dX3_isSame_31 rfl (lv_at hl 0 rfl) ?_
        refine va_get (ci := 3) (v := .ref (sa 3)) (C := RX3) (T := TX3) (N := 6) hx hb hts (fun _ h => (List.mem_cons_of_mem _ (List.mem_append_left _ (List.mem_append_left _ (List.mem_append_left _ (List.mem_append_left _ (List.mem_append_left _ (List.mem_append_right _ h)))))))) hown hK hP 41 rfl rfl 2 (by decide) (hts _ (List.mem_cons_of_mem _ (List.mem_append_left _ (List.mem_append_left _ (List.mem_append_left _ (List.mem_append_left _ (List.mem_append_left _ (List.mem_append_left _ (List.mem_append_left _ (List.mem_of_getElem? (i := 2) rfl)))))))))) (fun _ h9 => h9) rfl dX3_isSame_32 ?_
        refine lv_iload hx hb dX3_isSame_35 (lv_at hl 6 rfl) ?_
        refine q_aald (v := rt i) hx hb hK hP 44 rfl (by omega) (by omega) rfl dX3_isSame_37 ?_
        refine lv_astore (lv' := [(7, .ref (rt i)), (0, .ref (sa 0)), (1, .ref h), (2, .int 0), (3, .int (q_vs D i)), (4, .ref q1), (5, .ref q2), (6, .int (nI i))]) hx hb dX3_isSame_38 hl (by decide) rfl (fun ls hl => ?_)
        refine lv_aload hx hb dX3_isSame_40 (lv_at hl 0 rfl) ?_
        refine lv_iconst (v := nI 3) hx hb dX3_isSame_42 (by decide) ?_
        refine z_iald hx hb hK hP (39 + (2 + (4 + (z_bc G + i)))) 0 (q_pre (n := 39) rfl (q_pre (n := 2) rfl (q_gT (cI := cI) (cR := cR) (sa := sa) (rb := rb) (rt := rt) (G := G) (D := D) (by omega)))) rfl (by decide) (by decide) dX3_isSame_43 ?_
        refine z_top (x' := nI (z_pl D i - 1)) rfl ?_
        refine lv_if_ne (tgt := 51) hx hb dX3_isSame_44 (by decide) (fun c44 => ?_) (fun c44 => ?_)
        · skip
          have hp1 := q_pl_ne hW hi2 c44
          refine lv_iconst (v := 0) hx hb dX3_isSame_51 (by decide) ?_
          refine lv_istore (lv' := [(8, .int 0), (7, .ref (rt i)), (0, .ref (sa 0)), (1, .ref h), (2, .int 0), (3, .int (q_vs D i)), (4, .ref q1), (5, .ref q2), (6, .int (nI i))]) hx hb dX3_isSame_52 hl (by decide) rfl (fun ls hl => ?_)
          refine lv_iload hx hb dX3_isSame_54 (lv_at hl 0 rfl) ?_
          refine lv_if_eq (tgt := 88) hx hb dX3_isSame_56 (by decide) (fun c56 => ?_) (fun c56 => absurd rfl c56)
          refine lv_aload_n hx hb dX3_isSame_88 rfl (lv_at hl 3 rfl) ?_
          refine lv_iload hx hb dX3_isSame_89 (lv_at hl 8 rfl) ?_
          refine z_rVi (v := nI (z_bt G i)) [] hx hb hml hown hts (m_X2_batchOf l Dg cI h na ta G D G1 D1 i (by omega) hG hW) gX3_isSame_X2_batchOf rfl kd_X2_batchOf ⟨Nat.le_of_ble_eq_true rfl, Nat.le_of_ble_eq_true rfl⟩ (q_KI hK) hN (z_Pl hP) rfl rfl rfl rfl hl.1 rfl (Nat.le_of_ble_eq_true rfl) dX3_isSame_91 ⟨by show _ ≤ 2; omega, by show _ ≤ 10; omega⟩ ?_
          refine lv_aload hx hb dX3_isSame_94 (lv_at hl 1 rfl) ?_
          refine lv_iconst (v := nI 0) hx hb dX3_isSame_96 (by decide) ?_
          refine z_iald hx hb hK hP (39 + (2 + (4 + (z_bc G + i)))) 0 (q_pre (n := 39) rfl (q_pre (n := 2) rfl (q_gT (cI := cI) (cR := cR) (sa := sa) (rb := rb) (rt := rt) (G := G) (D := D) (by omega)))) rfl (by decide) (by decide) dX3_isSame_97 ?_
          refine z_top (x' := nI (z_bt G i)) rfl ?_
          refine lv_icmp_ne (tgt := 180) hx hb dX3_isSame_98 (by decide) (fun c98 => absurd rfl c98) (fun c98 => ?_)
          refine lv_aload_n hx hb dX3_isSame_101 rfl (lv_at hl 3 rfl) ?_
          refine lv_iload hx hb dX3_isSame_102 (lv_at hl 8 rfl) ?_
          refine z_rVi (v := z_shf G D i) [] hx hb hml hown hts (m_X2_shelfOf l Dg cI h na ta G D G1 D1 i (by omega) hG hW) gX3_isSame_X2_shelfOf rfl kd_X2_shelfOf ⟨Nat.le_of_ble_eq_true rfl, Nat.le_of_ble_eq_true rfl⟩ (q_KI hK) hN (z_Pl hP) rfl rfl rfl rfl hl.1 rfl (Nat.le_of_ble_eq_true rfl) dX3_isSame_104 ⟨by show _ ≤ 2; omega, by show _ ≤ 10; omega⟩ ?_
          refine z_top (x' := -1) (q_shf0 hp1) ?_
          refine lv_iload hx hb dX3_isSame_107 (lv_at hl 0 rfl) ?_
          refine lv_if_eq (tgt := 119) hx hb dX3_isSame_109 (by decide) (fun c109 => ?_) (fun c109 => absurd rfl c109)
          refine lv_iconst (v := -1) hx hb dX3_isSame_119 (by decide) ?_
          refine lv_icmp_ne (tgt := 180) hx hb dX3_isSame_120 (by decide) (fun c120 => absurd rfl c120) (fun c120 => ?_)
          refine lv_aload_n hx hb dX3_isSame_123 rfl (lv_at hl 3 rfl) ?_
          refine lv_iload hx hb dX3_isSame_124 (lv_at hl 8 rfl) ?_
          refine z_rVi (v := z_vc D i) [] hx hb hml hown hts (m_X2_vacuumOf l Dg cI h na ta G D G1 D1 i (by omega) hG hW) gX3_isSame_X2_vacuumOf rfl kd_X2_vacuumOf ⟨Nat.le_of_ble_eq_true rfl, Nat.le_of_ble_eq_true rfl⟩ (q_KI hK) hN (z_Pl hP) rfl rfl rfl rfl hl.1 rfl (Nat.le_of_ble_eq_true rfl) dX3_isSame_126 ⟨by show _ ≤ 2; omega, by show _ ≤ 10; omega⟩ ?_
          refine lv_aload hx hb dX3_isSame_129 (lv_at hl 1 rfl) ?_
          refine lv_iconst (v := nI 2) hx hb dX3_isSame_131 (by decide) ?_
          refine z_iald hx hb hK hP (39 + (2 + (4 + (z_bc G + i)))) 0 (q_pre (n := 39) rfl (q_pre (n := 2) rfl (q_gT (cI := cI) (cR := cR) (sa := sa) (rb := rb) (rt := rt) (G := G) (D := D) (by omega)))) rfl (by decide) (by decide) dX3_isSame_132 ?_
          refine z_top (x' := z_vc D i) rfl ?_
          refine lv_icmp_ne (tgt := 180) hx hb dX3_isSame_133 (by decide) (fun c133 => absurd rfl c133) (fun c133 => ?_)
          refine lv_aload_n hx hb dX3_isSame_136 rfl (lv_at hl 3 rfl) ?_
          refine lv_iload hx hb dX3_isSame_137 (lv_at hl 8 rfl) ?_
          refine z_rVi (v := z_bI (z_pl D i == 2)) [] hx hb hml hown hts (m_X2_isShipped l Dg cI h na ta G D G1 D1 i (by omega) hG hW) gX3_isSame_X2_isShipped rfl kd_X2_isShipped ⟨Nat.le_of_ble_eq_true rfl, Nat.le_of_ble_eq_true rfl⟩ (q_KI hK) hN (z_Pl hP) rfl rfl rfl rfl hl.1 rfl (Nat.le_of_ble_eq_true rfl) dX3_isSame_139 ⟨by show _ ≤ 2; omega, by show _ ≤ 10; omega⟩ ?_
          refine lv_aload hx hb dX3_isSame_142 (lv_at hl 1 rfl) ?_
          refine lv_iconst (v := nI 3) hx hb dX3_isSame_144 (by decide) ?_
          refine z_iald hx hb hK hP (39 + (2 + (4 + (z_bc G + i)))) 0 (q_pre (n := 39) rfl (q_pre (n := 2) rfl (q_gT (cI := cI) (cR := cR) (sa := sa) (rb := rb) (rt := rt) (G := G) (D := D) (by omega)))) rfl (by decide) (by decide) dX3_isSame_145 ?_
          refine z_top (x' := nI (z_pl D i - 1)) rfl ?_
          refine lv_iconst (v := nI 1) hx hb dX3_isSame_146 (by decide) ?_
          refine lv_icmp_ne (tgt := 154) hx hb dX3_isSame_147 (by decide) (fun c147 => ?_) (fun c147 => ?_)
          · skip
            refine lv_iconst (v := 0) hx hb dX3_isSame_154 (by decide) ?_
            refine lv_icmp_ne (tgt := 180) hx hb dX3_isSame_155 (by decide) (fun c155 => absurd (q_fl_f c147) c155) (fun c155 => ?_)
            refine lv_aload_n hx hb dX3_isSame_158 rfl (lv_at hl 3 rfl) ?_
            refine lv_iload hx hb dX3_isSame_159 (lv_at hl 8 rfl) ?_
            refine z_rVi (v := z_bI (z_pl D i == 3)) [] hx hb hml hown hts (m_X2_isLost l Dg cI h na ta G D G1 D1 i (by omega) hG hW) gX3_isSame_X2_isLost rfl kd_X2_isLost ⟨Nat.le_of_ble_eq_true rfl, Nat.le_of_ble_eq_true rfl⟩ (q_KI hK) hN (z_Pl hP) rfl rfl rfl rfl hl.1 rfl (Nat.le_of_ble_eq_true rfl) dX3_isSame_161 ⟨by show _ ≤ 2; omega, by show _ ≤ 10; omega⟩ ?_
            refine lv_aload hx hb dX3_isSame_164 (lv_at hl 1 rfl) ?_
            refine lv_iconst (v := nI 3) hx hb dX3_isSame_166 (by decide) ?_
            refine z_iald hx hb hK hP (39 + (2 + (4 + (z_bc G + i)))) 0 (q_pre (n := 39) rfl (q_pre (n := 2) rfl (q_gT (cI := cI) (cR := cR) (sa := sa) (rb := rb) (rt := rt) (G := G) (D := D) (by omega)))) rfl (by decide) (by decide) dX3_isSame_167 ?_
            refine z_top (x' := nI (z_pl D i - 1)) rfl ?_
            refine lv_iconst (v := nI 2) hx hb dX3_isSame_168 (by decide) ?_
            refine lv_icmp_ne (tgt := 176) hx hb dX3_isSame_169 (by decide) (fun c169 => ?_) (fun c169 => ?_)
            · skip
              refine lv_iconst (v := 0) hx hb dX3_isSame_176 (by decide) ?_
              refine lv_icmp_eq (tgt := 182) hx hb dX3_isSame_177 (by decide) (fun c177 => ?_) (fun c177 => absurd (q_fl_f c169) c177)
              refine lv_iinc (v := nI (i + 1)) (lv' := [(6, .int (nI (i + 1))), (8, .int 0), (7, .ref (rt i)), (0, .ref (sa 0)), (1, .ref h), (2, .int 0), (3, .int (q_vs D i)), (4, .ref q1), (5, .ref q2)]) hx hb dX3_isSame_182 hl (k := 8) rfl (nI_1 _) (by decide) rfl (fun ls hl => ?_)
              refine lv_goto (tgt := 21) hx hb dX3_isSame_185 (by decide) ?_
              rw [q_on_n hp1, q_le_n hp1] at hP hD
              have hl : lv_has ls 9 [(6, .int (nI (i + 1))), (8, .int 0), (7, .ref (rt i)), (0, .ref (sa 0)), (1, .ref h), (2, .int 0), (3, .int (q_vs D (i + 1))), (4, .ref q1), (5, .ref q2)] := by have q : q_vs D i = q_vs D (i + 1) := (q_vs_n hp1); rw [← q]; exact hl
              have hP : va_P Dg vwCl (z_cW cI h na ta G D G1 D1 ++ ([(q1, .inl (cI, 4, .inl (q_on G D (i + 1)))), (q2, .inl (cI, (z_bc G), .inl (q_le G D (i + 1))))] ++ q_W cI cR sa rb rt G D)) H := hP
              have hD : va_D _ (z_cW cI h na ta G D G1 D1 ++ ([(q1, .inl (cI, 4, .inl (q_on G D (i + 1)))), (q2, .inl (cI, (z_bc G), .inl (q_le G D (i + 1))))] ++ q_W cI cR sa rb rt G D)) := hD
              exact ih21 (i + 1) (by omega) (by omega) _ _ hP hD hS _ (lv_sub hl [3, 4, 5, 6, 7, 8, 0] rfl)
            · skip
              refine lv_iconst (v := 1) hx hb dX3_isSame_172 (by decide) ?_
              refine lv_goto (tgt := 177) hx hb dX3_isSame_173 (by decide) ?_
              refine lv_icmp_eq (tgt := 182) hx hb dX3_isSame_177 (by decide) (fun c177 => ?_) (fun c177 => absurd (q_fl_t (z_eq (by omega) (by omega) c169) (by omega)) c177)
              refine lv_iinc (v := nI (i + 1)) (lv' := [(6, .int (nI (i + 1))), (8, .int 0), (7, .ref (rt i)), (0, .ref (sa 0)), (1, .ref h), (2, .int 0), (3, .int (q_vs D i)), (4, .ref q1), (5, .ref q2)]) hx hb dX3_isSame_182 hl (k := 8) rfl (nI_1 _) (by decide) rfl (fun ls hl => ?_)
              refine lv_goto (tgt := 21) hx hb dX3_isSame_185 (by decide) ?_
              rw [q_on_n hp1, q_le_n hp1] at hP hD
              have hl : lv_has ls 9 [(6, .int (nI (i + 1))), (8, .int 0), (7, .ref (rt i)), (0, .ref (sa 0)), (1, .ref h), (2, .int 0), (3, .int (q_vs D (i + 1))), (4, .ref q1), (5, .ref q2)] := by have q : q_vs D i = q_vs D (i + 1) := (q_vs_n hp1); rw [← q]; exact hl
              have hP : va_P Dg vwCl (z_cW cI h na ta G D G1 D1 ++ ([(q1, .inl (cI, 4, .inl (q_on G D (i + 1)))), (q2, .inl (cI, (z_bc G), .inl (q_le G D (i + 1))))] ++ q_W cI cR sa rb rt G D)) H := hP
              have hD : va_D _ (z_cW cI h na ta G D G1 D1 ++ ([(q1, .inl (cI, 4, .inl (q_on G D (i + 1)))), (q2, .inl (cI, (z_bc G), .inl (q_le G D (i + 1))))] ++ q_W cI cR sa rb rt G D)) := hD
              exact ih21 (i + 1) (by omega) (by omega) _ _ hP hD hS _ (lv_sub hl [3, 4, 5, 6, 7, 8, 0] rfl)
          · skip
            refine lv_iconst (v := 1) hx hb dX3_isSame_150 (by decide) ?_
            refine lv_goto (tgt := 155) hx hb dX3_isSame_151 (by decide) ?_
            refine lv_icmp_ne (tgt := 180) hx hb dX3_isSame_155 (by decide) (fun c155 => absurd (q_fl_t (z_eq (by omega) (by omega) c147) (by omega)) c155) (fun c155 => ?_)
            refine lv_aload_n hx hb dX3_isSame_158 rfl (lv_at hl 3 rfl) ?_
            refine lv_iload hx hb dX3_isSame_159 (lv_at hl 8 rfl) ?_
            refine z_rVi (v := z_bI (z_pl D i == 3)) [] hx hb hml hown hts (m_X2_isLost l Dg cI h na ta G D G1 D1 i (by omega) hG hW) gX3_isSame_X2_isLost rfl kd_X2_isLost ⟨Nat.le_of_ble_eq_true rfl, Nat.le_of_ble_eq_true rfl⟩ (q_KI hK) hN (z_Pl hP) rfl rfl rfl rfl hl.1 rfl (Nat.le_of_ble_eq_true rfl) dX3_isSame_161 ⟨by show _ ≤ 2; omega, by show _ ≤ 10; omega⟩ ?_
            refine lv_aload hx hb dX3_isSame_164 (lv_at hl 1 rfl) ?_
            refine lv_iconst (v := nI 3) hx hb dX3_isSame_166 (by decide) ?_
            refine z_iald hx hb hK hP (39 + (2 + (4 + (z_bc G + i)))) 0 (q_pre (n := 39) rfl (q_pre (n := 2) rfl (q_gT (cI := cI) (cR := cR) (sa := sa) (rb := rb) (rt := rt) (G := G) (D := D) (by omega)))) rfl (by decide) (by decide) dX3_isSame_167 ?_
            refine z_top (x' := nI (z_pl D i - 1)) rfl ?_
            refine lv_iconst (v := nI 2) hx hb dX3_isSame_168 (by decide) ?_
            refine lv_icmp_ne (tgt := 176) hx hb dX3_isSame_169 (by decide) (fun c169 => ?_) (fun c169 => ?_)
            · skip
              refine lv_iconst (v := 0) hx hb dX3_isSame_176 (by decide) ?_
              refine lv_icmp_eq (tgt := 182) hx hb dX3_isSame_177 (by decide) (fun c177 => ?_) (fun c177 => absurd (q_fl_f c169) c177)
              refine lv_iinc (v := nI (i + 1)) (lv' := [(6, .int (nI (i + 1))), (8, .int 0), (7, .ref (rt i)), (0, .ref (sa 0)), (1, .ref h), (2, .int 0), (3, .int (q_vs D i)), (4, .ref q1), (5, .ref q2)]) hx hb dX3_isSame_182 hl (k := 8) rfl (nI_1 _) (by decide) rfl (fun ls hl => ?_)
              refine lv_goto (tgt := 21) hx hb dX3_isSame_185 (by decide) ?_
              rw [q_on_n hp1, q_le_n hp1] at hP hD
              have hl : lv_has ls 9 [(6, .int (nI (i + 1))), (8, .int 0), (7, .ref (rt i)), (0, .ref (sa 0)), (1, .ref h), (2, .int 0), (3, .int (q_vs D (i + 1))), (4, .ref q1), (5, .ref q2)] := by have q : q_vs D i = q_vs D (i + 1) := (q_vs_n hp1); rw [← q]; exact hl
              have hP : va_P Dg vwCl (z_cW cI h na ta G D G1 D1 ++ ([(q1, .inl (cI, 4, .inl (q_on G D (i + 1)))), (q2, .inl (cI, (z_bc G), .inl (q_le G D (i + 1))))] ++ q_W cI cR sa rb rt G D)) H := hP
              have hD : va_D _ (z_cW cI h na ta G D G1 D1 ++ ([(q1, .inl (cI, 4, .inl (q_on G D (i + 1)))), (q2, .inl (cI, (z_bc G), .inl (q_le G D (i + 1))))] ++ q_W cI cR sa rb rt G D)) := hD
              exact ih21 (i + 1) (by omega) (by omega) _ _ hP hD hS _ (lv_sub hl [3, 4, 5, 6, 7, 8, 0] rfl)
            · skip
              refine lv_iconst (v := 1) hx hb dX3_isSame_172 (by decide) ?_
              refine lv_goto (tgt := 177) hx hb dX3_isSame_173 (by decide) ?_
              refine lv_icmp_eq (tgt := 182) hx hb dX3_isSame_177 (by decide) (fun c177 => ?_) (fun c177 => absurd (q_fl_t (z_eq (by omega) (by omega) c169) (by omega)) c177)
              refine lv_iinc (v := nI (i + 1)) (lv' := [(6, .int (nI (i + 1))), (8, .int 0), (7, .ref (rt i)), (0, .ref (sa 0)), (1, .ref h), (2, .int 0), (3, .int (q_vs D i)), (4, .ref q1), (5, .ref q2)]) hx hb dX3_isSame_182 hl (k := 8) rfl (nI_1 _) (by decide) rfl (fun ls hl => ?_)
              refine lv_goto (tgt := 21) hx hb dX3_isSame_185 (by decide) ?_
              rw [q_on_n hp1, q_le_n hp1] at hP hD
              have hl : lv_has ls 9 [(6, .int (nI (i + 1))), (8, .int 0), (7, .ref (rt i)), (0, .ref (sa 0)), (1, .ref h), (2, .int 0), (3, .int (q_vs D (i + 1))), (4, .ref q1), (5, .ref q2)] := by have q : q_vs D i = q_vs D (i + 1) := (q_vs_n hp1); rw [← q]; exact hl
              have hP : va_P Dg vwCl (z_cW cI h na ta G D G1 D1 ++ ([(q1, .inl (cI, 4, .inl (q_on G D (i + 1)))), (q2, .inl (cI, (z_bc G), .inl (q_le G D (i + 1))))] ++ q_W cI cR sa rb rt G D)) H := hP
              have hD : va_D _ (z_cW cI h na ta G D G1 D1 ++ ([(q1, .inl (cI, 4, .inl (q_on G D (i + 1)))), (q2, .inl (cI, (z_bc G), .inl (q_le G D (i + 1))))] ++ q_W cI cR sa rb rt G D)) := hD
              exact ih21 (i + 1) (by omega) (by omega) _ _ hP hD hS _ (lv_sub hl [3, 4, 5, 6, 7, 8, 0] rfl)
        · skip
          have hp1 := q_pl_eq hW hi2 c44
          refine lv_iconst (v := 1) hx hb dX3_isSame_47 (by decide) ?_
          refine lv_goto (tgt := 52) hx hb dX3_isSame_48 (by decide) ?_
          refine lv_istore (lv' := [(8, .int 1), (7, .ref (rt i)), (0, .ref (sa 0)), (1, .ref h), (2, .int 0), (3, .int (q_vs D i)), (4, .ref q1), (5, .ref q2), (6, .int (nI i))]) hx hb dX3_isSame_52 hl (by decide) rfl (fun ls hl => ?_)
          refine lv_iload hx hb dX3_isSame_54 (lv_at hl 0 rfl) ?_
          refine lv_if_eq (tgt := 88) hx hb dX3_isSame_56 (by decide) (fun c56 => absurd c56 (by decide)) (fun c56 => ?_)
          refine lv_aload hx hb dX3_isSame_59 (lv_at hl 6 rfl) ?_
          refine lv_aload hx hb dX3_isSame_61 (lv_at hl 1 rfl) ?_
          refine lv_iconst (v := nI 1) hx hb dX3_isSame_63 (by decide) ?_
          refine z_iald hx hb hK hP (39 + (2 + (4 + (z_bc G + i)))) 0 (q_pre (n := 39) rfl (q_pre (n := 2) rfl (q_gT (cI := cI) (cR := cR) (sa := sa) (rb := rb) (rt := rt) (G := G) (D := D) (by omega)))) rfl (by decide) (by decide) dX3_isSame_64 ?_
          refine z_top (x' := nI (z_sh G i)) rfl ?_
          refine lv_dup2_11 hx hb dX3_isSame_65 rfl rfl ?_
          have hsh1 := hG.2.2.2.1 i
          refine z_iald hx hb hK hP 39 0 rfl rfl (by omega) (by decide) dX3_isSame_66 ?_
          refine z_top (x' := (q_on G D i) (z_sh G i)) rfl ?_
          refine lv_iconst (v := nI 1) hx hb dX3_isSame_67 (by decide) ?_
          refine lv_iadd hx hb dX3_isSame_68 ?_
          have hsh2 := hG.2.2.2.1 i
          refine q_iast (ws' := z_cW cI h na ta G D G1 D1 ++ ([(q1, .inl (cI, 4, .inl (upd (q_on G D i) (z_sh G i) (((q_on G D i) (z_sh G i)) + (nI 1))))), (q2, .inl (cI, (z_bc G), .inl (q_le G D i)))] ++ q_W cI cR sa rb rt G D)) hx hb hK hP hD hS 39 0 rfl rfl rfl (by omega) (by decide) dX3_isSame_69 (fun H locs hP hD hS => ?_)
          refine lv_aload hx hb dX3_isSame_70 (lv_at hl 7 rfl) ?_
          refine lv_aload hx hb dX3_isSame_72 (lv_at hl 1 rfl) ?_
          refine lv_iconst (v := nI 0) hx hb dX3_isSame_74 (by decide) ?_
          refine z_iald hx hb hK hP (39 + (2 + (4 + (z_bc G + i)))) 0 (q_pre (n := 39) rfl (q_pre (n := 2) rfl (q_gT (cI := cI) (cR := cR) (sa := sa) (rb := rb) (rt := rt) (G := G) (D := D) (by omega)))) rfl (by decide) (by decide) dX3_isSame_75 ?_
          refine z_top (x' := nI (z_bt G i)) rfl ?_
          refine lv_dup2_11 hx hb dX3_isSame_76 rfl rfl ?_
          have hbt3 := hB i (by omega)
          refine z_iald hx hb hK hP 40 0 rfl rfl (by omega) (by omega) dX3_isSame_77 ?_
          refine z_top (x' := (q_le G D i) (z_bt G i)) rfl ?_
          refine lv_iconst (v := nI 1) hx hb dX3_isSame_78 (by decide) ?_
          refine lv_iadd hx hb dX3_isSame_79 ?_
          have hbt4 := hB i (by omega)
          refine q_iast (ws' := z_cW cI h na ta G D G1 D1 ++ ([(q1, .inl (cI, 4, .inl (upd (q_on G D i) (z_sh G i) (((q_on G D i) (z_sh G i)) + (nI 1))))), (q2, .inl (cI, (z_bc G), .inl (upd (q_le G D i) (z_bt G i) (((q_le G D i) (z_bt G i)) + (nI 1)))))] ++ q_W cI cR sa rb rt G D)) hx hb hK hP hD hS 40 0 rfl rfl rfl (by omega) (by omega) dX3_isSame_80 (fun H locs hP hD hS => ?_)
          refine lv_iload_n hx hb dX3_isSame_81 rfl (lv_at hl 5 rfl) ?_
          refine lv_aload hx hb dX3_isSame_82 (lv_at hl 1 rfl) ?_
          refine lv_iconst (v := nI 2) hx hb dX3_isSame_84 (by decide) ?_
          refine z_iald hx hb hK hP (39 + (2 + (4 + (z_bc G + i)))) 0 (q_pre (n := 39) rfl (q_pre (n := 2) rfl (q_gT (cI := cI) (cR := cR) (sa := sa) (rb := rb) (rt := rt) (G := G) (D := D) (by omega)))) rfl (by decide) (by decide) dX3_isSame_85 ?_
          refine z_top (x' := z_vc D i) rfl ?_
          refine lv_iadd hx hb dX3_isSame_86 ?_
          refine lv_istore_n (lv' := [(3, .int ((q_vs D i) + (z_vc D i))), (8, .int 1), (7, .ref (rt i)), (0, .ref (sa 0)), (1, .ref h), (2, .int 0), (4, .ref q1), (5, .ref q2), (6, .int (nI i))]) hx hb dX3_isSame_87 rfl hl (by decide) rfl (fun ls hl => ?_)
          refine lv_aload_n hx hb dX3_isSame_88 rfl (lv_at hl 4 rfl) ?_
          refine lv_iload hx hb dX3_isSame_89 (lv_at hl 8 rfl) ?_
          refine z_rVi (v := nI (z_bt G i)) [] hx hb hml hown hts (m_X2_batchOf l Dg cI h na ta G D G1 D1 i (by omega) hG hW) gX3_isSame_X2_batchOf rfl kd_X2_batchOf ⟨Nat.le_of_ble_eq_true rfl, Nat.le_of_ble_eq_true rfl⟩ (q_KI hK) hN (z_Pl hP) rfl rfl rfl rfl hl.1 rfl (Nat.le_of_ble_eq_true rfl) dX3_isSame_91 ⟨by show _ ≤ 2; omega, by show _ ≤ 10; omega⟩ ?_
          refine lv_aload hx hb dX3_isSame_94 (lv_at hl 2 rfl) ?_
          refine lv_iconst (v := nI 0) hx hb dX3_isSame_96 (by decide) ?_
          refine z_iald hx hb hK hP (39 + (2 + (4 + (z_bc G + i)))) 0 (q_pre (n := 39) rfl (q_pre (n := 2) rfl (q_gT (cI := cI) (cR := cR) (sa := sa) (rb := rb) (rt := rt) (G := G) (D := D) (by omega)))) rfl (by decide) (by decide) dX3_isSame_97 ?_
          refine z_top (x' := nI (z_bt G i)) rfl ?_
          refine lv_icmp_ne (tgt := 180) hx hb dX3_isSame_98 (by decide) (fun c98 => absurd rfl c98) (fun c98 => ?_)
          refine lv_aload_n hx hb dX3_isSame_101 rfl (lv_at hl 4 rfl) ?_
          refine lv_iload hx hb dX3_isSame_102 (lv_at hl 8 rfl) ?_
          refine z_rVi (v := z_shf G D i) [] hx hb hml hown hts (m_X2_shelfOf l Dg cI h na ta G D G1 D1 i (by omega) hG hW) gX3_isSame_X2_shelfOf rfl kd_X2_shelfOf ⟨Nat.le_of_ble_eq_true rfl, Nat.le_of_ble_eq_true rfl⟩ (q_KI hK) hN (z_Pl hP) rfl rfl rfl rfl hl.1 rfl (Nat.le_of_ble_eq_true rfl) dX3_isSame_104 ⟨by show _ ≤ 2; omega, by show _ ≤ 10; omega⟩ ?_
          refine z_top (x' := nI (z_sh G i)) (q_shf1 hp1) ?_
          refine lv_iload hx hb dX3_isSame_107 (lv_at hl 1 rfl) ?_
          refine lv_if_eq (tgt := 119) hx hb dX3_isSame_109 (by decide) (fun c109 => absurd c109 (by decide)) (fun c109 => ?_)
          refine lv_aload hx hb dX3_isSame_112 (lv_at hl 2 rfl) ?_
          refine lv_iconst (v := nI 1) hx hb dX3_isSame_114 (by decide) ?_
          refine z_iald hx hb hK hP (39 + (2 + (4 + (z_bc G + i)))) 0 (q_pre (n := 39) rfl (q_pre (n := 2) rfl (q_gT (cI := cI) (cR := cR) (sa := sa) (rb := rb) (rt := rt) (G := G) (D := D) (by omega)))) rfl (by decide) (by decide) dX3_isSame_115 ?_
          refine z_top (x' := nI (z_sh G i)) rfl ?_
          refine lv_goto (tgt := 120) hx hb dX3_isSame_116 (by decide) ?_
          refine lv_icmp_ne (tgt := 180) hx hb dX3_isSame_120 (by decide) (fun c120 => absurd rfl c120) (fun c120 => ?_)
          refine lv_aload_n hx hb dX3_isSame_123 rfl (lv_at hl 4 rfl) ?_
          refine lv_iload hx hb dX3_isSame_124 (lv_at hl 8 rfl) ?_
          refine z_rVi (v := z_vc D i) [] hx hb hml hown hts (m_X2_vacuumOf l Dg cI h na ta G D G1 D1 i (by omega) hG hW) gX3_isSame_X2_vacuumOf rfl kd_X2_vacuumOf ⟨Nat.le_of_ble_eq_true rfl, Nat.le_of_ble_eq_true rfl⟩ (q_KI hK) hN (z_Pl hP) rfl rfl rfl rfl hl.1 rfl (Nat.le_of_ble_eq_true rfl) dX3_isSame_126 ⟨by show _ ≤ 2; omega, by show _ ≤ 10; omega⟩ ?_
          refine lv_aload hx hb dX3_isSame_129 (lv_at hl 2 rfl) ?_
          refine lv_iconst (v := nI 2) hx hb dX3_isSame_131 (by decide) ?_
          refine z_iald hx hb hK hP (39 + (2 + (4 + (z_bc G + i)))) 0 (q_pre (n := 39) rfl (q_pre (n := 2) rfl (q_gT (cI := cI) (cR := cR) (sa := sa) (rb := rb) (rt := rt) (G := G) (D := D) (by omega)))) rfl (by decide) (by decide) dX3_isSame_132 ?_
          refine z_top (x' := z_vc D i) rfl ?_
          refine lv_icmp_ne (tgt := 180) hx hb dX3_isSame_133 (by decide) (fun c133 => absurd rfl c133) (fun c133 => ?_)
          refine lv_aload_n hx hb dX3_isSame_136 rfl (lv_at hl 4 rfl) ?_
          refine lv_iload hx hb dX3_isSame_137 (lv_at hl 8 rfl) ?_
          refine z_rVi (v := z_bI (z_pl D i == 2)) [] hx hb hml hown hts (m_X2_isShipped l Dg cI h na ta G D G1 D1 i (by omega) hG hW) gX3_isSame_X2_isShipped rfl kd_X2_isShipped ⟨Nat.le_of_ble_eq_true rfl, Nat.le_of_ble_eq_true rfl⟩ (q_KI hK) hN (z_Pl hP) rfl rfl rfl rfl hl.1 rfl (Nat.le_of_ble_eq_true rfl) dX3_isSame_139 ⟨by show _ ≤ 2; omega, by show _ ≤ 10; omega⟩ ?_
          refine lv_aload hx hb dX3_isSame_142 (lv_at hl 2 rfl) ?_
          refine lv_iconst (v := nI 3) hx hb dX3_isSame_144 (by decide) ?_
          refine z_iald hx hb hK hP (39 + (2 + (4 + (z_bc G + i)))) 0 (q_pre (n := 39) rfl (q_pre (n := 2) rfl (q_gT (cI := cI) (cR := cR) (sa := sa) (rb := rb) (rt := rt) (G := G) (D := D) (by omega)))) rfl (by decide) (by decide) dX3_isSame_145 ?_
          refine z_top (x' := nI (z_pl D i - 1)) rfl ?_
          refine lv_iconst (v := nI 1) hx hb dX3_isSame_146 (by decide) ?_
          refine lv_icmp_ne (tgt := 154) hx hb dX3_isSame_147 (by decide) (fun c147 => ?_) (fun c147 => ?_)
          · skip
            refine lv_iconst (v := 0) hx hb dX3_isSame_154 (by decide) ?_
            refine lv_icmp_ne (tgt := 180) hx hb dX3_isSame_155 (by decide) (fun c155 => absurd (q_fl_f c147) c155) (fun c155 => ?_)
            refine lv_aload_n hx hb dX3_isSame_158 rfl (lv_at hl 4 rfl) ?_
            refine lv_iload hx hb dX3_isSame_159 (lv_at hl 8 rfl) ?_
            refine z_rVi (v := z_bI (z_pl D i == 3)) [] hx hb hml hown hts (m_X2_isLost l Dg cI h na ta G D G1 D1 i (by omega) hG hW) gX3_isSame_X2_isLost rfl kd_X2_isLost ⟨Nat.le_of_ble_eq_true rfl, Nat.le_of_ble_eq_true rfl⟩ (q_KI hK) hN (z_Pl hP) rfl rfl rfl rfl hl.1 rfl (Nat.le_of_ble_eq_true rfl) dX3_isSame_161 ⟨by show _ ≤ 2; omega, by show _ ≤ 10; omega⟩ ?_
            refine lv_aload hx hb dX3_isSame_164 (lv_at hl 2 rfl) ?_
            refine lv_iconst (v := nI 3) hx hb dX3_isSame_166 (by decide) ?_
            refine z_iald hx hb hK hP (39 + (2 + (4 + (z_bc G + i)))) 0 (q_pre (n := 39) rfl (q_pre (n := 2) rfl (q_gT (cI := cI) (cR := cR) (sa := sa) (rb := rb) (rt := rt) (G := G) (D := D) (by omega)))) rfl (by decide) (by decide) dX3_isSame_167 ?_
            refine z_top (x' := nI (z_pl D i - 1)) rfl ?_
            refine lv_iconst (v := nI 2) hx hb dX3_isSame_168 (by decide) ?_
            refine lv_icmp_ne (tgt := 176) hx hb dX3_isSame_169 (by decide) (fun c169 => ?_) (fun c169 => ?_)
            · skip
              refine lv_iconst (v := 0) hx hb dX3_isSame_176 (by decide) ?_
              refine lv_icmp_eq (tgt := 182) hx hb dX3_isSame_177 (by decide) (fun c177 => ?_) (fun c177 => absurd (q_fl_f c169) c177)
              refine lv_iinc (v := nI (i + 1)) (lv' := [(6, .int (nI (i + 1))), (3, .int ((q_vs D i) + (z_vc D i))), (8, .int 1), (7, .ref (rt i)), (0, .ref (sa 0)), (1, .ref h), (2, .int 0), (4, .ref q1), (5, .ref q2)]) hx hb dX3_isSame_182 hl (k := 8) rfl (nI_1 _) (by decide) rfl (fun ls hl => ?_)
              refine lv_goto (tgt := 21) hx hb dX3_isSame_185 (by decide) ?_
              rw [q_on_s hp1, q_le_s hp1] at hP hD
              have hl : lv_has ls 9 [(6, .int (nI (i + 1))), (3, .int (q_vs D (i + 1))), (8, .int 1), (7, .ref (rt i)), (0, .ref (sa 0)), (1, .ref h), (2, .int 0), (4, .ref q1), (5, .ref q2)] := by have q : (q_vs D i) + (z_vc D i) = q_vs D (i + 1) := (q_vs_s hp1); rw [← q]; exact hl
              have hP : va_P Dg vwCl (z_cW cI h na ta G D G1 D1 ++ ([(q1, .inl (cI, 4, .inl (q_on G D (i + 1)))), (q2, .inl (cI, (z_bc G), .inl (q_le G D (i + 1))))] ++ q_W cI cR sa rb rt G D)) H := hP
              have hD : va_D _ (z_cW cI h na ta G D G1 D1 ++ ([(q1, .inl (cI, 4, .inl (q_on G D (i + 1)))), (q2, .inl (cI, (z_bc G), .inl (q_le G D (i + 1))))] ++ q_W cI cR sa rb rt G D)) := hD
              exact ih21 (i + 1) (by omega) (by omega) _ _ hP hD hS _ (lv_sub hl [4, 5, 6, 1, 7, 8, 0] rfl)
            · skip
              refine lv_iconst (v := 1) hx hb dX3_isSame_172 (by decide) ?_
              refine lv_goto (tgt := 177) hx hb dX3_isSame_173 (by decide) ?_
              refine lv_icmp_eq (tgt := 182) hx hb dX3_isSame_177 (by decide) (fun c177 => ?_) (fun c177 => absurd (q_fl_t (z_eq (by omega) (by omega) c169) (by omega)) c177)
              refine lv_iinc (v := nI (i + 1)) (lv' := [(6, .int (nI (i + 1))), (3, .int ((q_vs D i) + (z_vc D i))), (8, .int 1), (7, .ref (rt i)), (0, .ref (sa 0)), (1, .ref h), (2, .int 0), (4, .ref q1), (5, .ref q2)]) hx hb dX3_isSame_182 hl (k := 8) rfl (nI_1 _) (by decide) rfl (fun ls hl => ?_)
              refine lv_goto (tgt := 21) hx hb dX3_isSame_185 (by decide) ?_
              rw [q_on_s hp1, q_le_s hp1] at hP hD
              have hl : lv_has ls 9 [(6, .int (nI (i + 1))), (3, .int (q_vs D (i + 1))), (8, .int 1), (7, .ref (rt i)), (0, .ref (sa 0)), (1, .ref h), (2, .int 0), (4, .ref q1), (5, .ref q2)] := by have q : (q_vs D i) + (z_vc D i) = q_vs D (i + 1) := (q_vs_s hp1); rw [← q]; exact hl
              have hP : va_P Dg vwCl (z_cW cI h na ta G D G1 D1 ++ ([(q1, .inl (cI, 4, .inl (q_on G D (i + 1)))), (q2, .inl (cI, (z_bc G), .inl (q_le G D (i + 1))))] ++ q_W cI cR sa rb rt G D)) H := hP
              have hD : va_D _ (z_cW cI h na ta G D G1 D1 ++ ([(q1, .inl (cI, 4, .inl (q_on G D (i + 1)))), (q2, .inl (cI, (z_bc G), .inl (q_le G D (i + 1))))] ++ q_W cI cR sa rb rt G D)) := hD
              exact ih21 (i + 1) (by omega) (by omega) _ _ hP hD hS _ (lv_sub hl [4, 5, 6, 1, 7, 8, 0] rfl)
          · skip
            refine lv_iconst (v := 1) hx hb dX3_isSame_150 (by decide) ?_
            refine lv_goto (tgt := 155) hx hb dX3_isSame_151 (by decide) ?_
            refine lv_icmp_ne (tgt := 180) hx hb dX3_isSame_155 (by decide) (fun c155 => absurd (q_fl_t (z_eq (by omega) (by omega) c147) (by omega)) c155) (fun c155 => ?_)
            refine lv_aload_n hx hb dX3_isSame_158 rfl (lv_at hl 4 rfl) ?_
            refine lv_iload hx hb dX3_isSame_159 (lv_at hl 8 rfl) ?_
            refine z_rVi (v := z_bI (z_pl D i == 3)) [] hx hb hml hown hts (m_X2_isLost l Dg cI h na ta G D G1 D1 i (by omega) hG hW) gX3_isSame_X2_isLost rfl kd_X2_isLost ⟨Nat.le_of_ble_eq_true rfl, Nat.le_of_ble_eq_true rfl⟩ (q_KI hK) hN (z_Pl hP) rfl rfl rfl rfl hl.1 rfl (Nat.le_of_ble_eq_true rfl) dX3_isSame_161 ⟨by show _ ≤ 2; omega, by show _ ≤ 10; omega⟩ ?_
            refine lv_aload hx hb dX3_isSame_164 (lv_at hl 2 rfl) ?_
            refine lv_iconst (v := nI 3) hx hb dX3_isSame_166 (by decide) ?_
            refine z_iald hx hb hK hP (39 + (2 + (4 + (z_bc G + i)))) 0 (q_pre (n := 39) rfl (q_pre (n := 2) rfl (q_gT (cI := cI) (cR := cR) (sa := sa) (rb := rb) (rt := rt) (G := G) (D := D) (by omega)))) rfl (by decide) (by decide) dX3_isSame_167 ?_
            refine z_top (x' := nI (z_pl D i - 1)) rfl ?_
            refine lv_iconst (v := nI 2) hx hb dX3_isSame_168 (by decide) ?_
            refine lv_icmp_ne (tgt := 176) hx hb dX3_isSame_169 (by decide) (fun c169 => ?_) (fun c169 => ?_)
            · skip
              refine lv_iconst (v := 0) hx hb dX3_isSame_176 (by decide) ?_
              refine lv_icmp_eq (tgt := 182) hx hb dX3_isSame_177 (by decide) (fun c177 => ?_) (fun c177 => absurd (q_fl_f c169) c177)
              refine lv_iinc (v := nI (i + 1)) (lv' := [(6, .int (nI (i + 1))), (3, .int ((q_vs D i) + (z_vc D i))), (8, .int 1), (7, .ref (rt i)), (0, .ref (sa 0)), (1, .ref h), (2, .int 0), (4, .ref q1), (5, .ref q2)]) hx hb dX3_isSame_182 hl (k := 8) rfl (nI_1 _) (by decide) rfl (fun ls hl => ?_)
              refine lv_goto (tgt := 21) hx hb dX3_isSame_185 (by decide) ?_
              rw [q_on_s hp1, q_le_s hp1] at hP hD
              have hl : lv_has ls 9 [(6, .int (nI (i + 1))), (3, .int (q_vs D (i + 1))), (8, .int 1), (7, .ref (rt i)), (0, .ref (sa 0)), (1, .ref h), (2, .int 0), (4, .ref q1), (5, .ref q2)] := by have q : (q_vs D i) + (z_vc D i) = q_vs D (i + 1) := (q_vs_s hp1); rw [← q]; exact hl
              have hP : va_P Dg vwCl (z_cW cI h na ta G D G1 D1 ++ ([(q1, .inl (cI, 4, .inl (q_on G D (i + 1)))), (q2, .inl (cI, (z_bc G), .inl (q_le G D (i + 1))))] ++ q_W cI cR sa rb rt G D)) H := hP
              have hD : va_D _ (z_cW cI h na ta G D G1 D1 ++ ([(q1, .inl (cI, 4, .inl (q_on G D (i + 1)))), (q2, .inl (cI, (z_bc G), .inl (q_le G D (i + 1))))] ++ q_W cI cR sa rb rt G D)) := hD
              exact ih21 (i + 1) (by omega) (by omega) _ _ hP hD hS _ (lv_sub hl [4, 5, 6, 1, 7, 8, 0] rfl)
            · skip
              refine lv_iconst (v := 1) hx hb dX3_isSame_172 (by decide) ?_
              refine lv_goto (tgt := 177) hx hb dX3_isSame_173 (by decide) ?_
              refine lv_icmp_eq (tgt := 182) hx hb dX3_isSame_177 (by decide) (fun c177 => ?_) (fun c177 => absurd (q_fl_t (z_eq (by omega) (by omega) c169) (by omega)) c177)
              refine lv_iinc (v := nI (i + 1)) (lv' := [(6, .int (nI (i + 1))), (3, .int ((q_vs D i) + (z_vc D i))), (8, .int 1), (7, .ref (rt i)), (0, .ref (sa 0)), (1, .ref h), (2, .int 0), (4, .ref q1), (5, .ref q2)]) hx hb dX3_isSame_182 hl (k := 8) rfl (nI_1 _) (by decide) rfl (fun ls hl => ?_)
              refine lv_goto (tgt := 21) hx hb dX3_isSame_185 (by decide) ?_
              rw [q_on_s hp1, q_le_s hp1] at hP hD
              have hl : lv_has ls 9 [(6, .int (nI (i + 1))), (3, .int (q_vs D (i + 1))), (8, .int 1), (7, .ref (rt i)), (0, .ref (sa 0)), (1, .ref h), (2, .int 0), (4, .ref q1), (5, .ref q2)] := by have q : (q_vs D i) + (z_vc D i) = q_vs D (i + 1) := (q_vs_s hp1); rw [← q]; exact hl
              have hP : va_P Dg vwCl (z_cW cI h na ta G D G1 D1 ++ ([(q1, .inl (cI, 4, .inl (q_on G D (i + 1)))), (q2, .inl (cI, (z_bc G), .inl (q_le G D (i + 1))))] ++ q_W cI cR sa rb rt G D)) H := hP
              have hD : va_D _ (z_cW cI h na ta G D G1 D1 ++ ([(q1, .inl (cI, 4, .inl (q_on G D (i + 1)))), (q2, .inl (cI, (z_bc G), .inl (q_le G D (i + 1))))] ++ q_W cI cR sa rb rt G D)) := hD
              exact ih21 (i + 1) (by omega) (by omega) _ _ hP hD hS _ (lv_sub hl [4, 5, 6, 1, 7, 8, 0] rfl)
  exact lp21 (z_tc G + 1) 0 (by omega) (by omega) _ _ hP hD hS _ (lv_sub hl [5, 6, 4, 3, 2, 1, 0] rfl)
