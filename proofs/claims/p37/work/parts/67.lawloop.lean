theorem kdS_L_build : yL_build.cls ≠ "java/lang/invoke/MethodHandle" ∧ yL_build.cls ≠ "java/lang/invoke/VarHandle" ∧ (parseMethodDescriptor yL_build.desc).map (fun d => d.parameters.length) = some 2 := by decide +kernel
theorem kdS_X2_init : yX2_init.cls ≠ "java/lang/invoke/MethodHandle" ∧ yX2_init.cls ≠ "java/lang/invoke/VarHandle" ∧ (parseMethodDescriptor yX2_init.desc).map (fun d => d.parameters.length) = some 0 := by decide +kernel
theorem kd_X3_isSame : yX3_isSame.cls = RX3 ∧ yX3_isSame.cls ≠ "java/lang/invoke/MethodHandle" ∧ yX3_isSame.cls ≠ "java/lang/invoke/VarHandle" ∧ (parseMethodDescriptor yX3_isSame.desc).map (fun d => d.parameters.length) = some 1 := by decide +kernel
set_option maxHeartbeats 40000000 in
set_option maxRecDepth 100000 in
theorem m_law_loop {p : Program} {l : Launch} {e : Env} {s : State} {m : MethodId} {below : List Frame} {meth : Method} {c : Code} {b Ls : Nat} {xs : Nat → Int32} {Dg : va_G} {cI cR cZ : ClassId} (C0 : q_CL p l s m meth c b Ls xs Dg cI cR cZ) {Q : State → Prop} {h : Nat} {na ta : Nat → Nat} (sim : Nat) (KE : ∀ (H : Heap) (locs : List Loc) (ls : Array Slot), va_S (fun q => s.heap.size ≤ q) s.heap H locs → W p l e room_1 s m #[Value.ref b] below meth c H locs 801385 6697312 Q (F0 m 1218 ls [.int (z_bI true)])) : ∀ (w0 : va_W), q_ST cI cR h na ta sim w0 → ∀ (H : Heap) (locs : List Loc) (ls : Array Slot), va_P Dg vwCl w0 H → va_D (fun q => s.heap.size ≤ q) w0 → va_S (fun q => s.heap.size ≤ q) s.heap H locs → lv_has ls 23 [(0, .ref b), (1, .ref h), (2, .ref sim), (3, .int (nI 0))] → W p l e room_1 s m #[Value.ref b] below meth c H locs 1000 40000 Q (F0 m 22 ls []) := by
  obtain ⟨hx, hb, hr, hml, hown, hts, hXs, hbl, hlk, hK, hN, hJ, hE, hTA, hL, hst⟩ := id C0
  have hbA : ¬ s.heap.size ≤ b := Nat.not_le.mpr hbl
  have hA : ∀ q : Nat, s.heap.size ≤ q → (fun q => s.heap.size ≤ q) q := fun _ z => z
  intro w0 hST0 H locs ls hP hD hS hl
  have lp22 : ∀ (zz i : Nat) (w : va_W), i ≤ 5 → 5 + 1 ≤ i + zz → q_ST cI cR h na ta sim w → ∀ (H : Heap) (locs : List Loc), va_P Dg vwCl w H → va_D (fun q => s.heap.size ≤ q) w → va_S (fun q => s.heap.size ≤ q) s.heap H locs → ∀ ls : Array Slot, lv_has ls 23 [(0, .ref b), (1, .ref h), (2, .ref sim), (3, .int (nI i))] → W p l e room_1 s m ([Value.ref b] : List Value).toArray below meth c H locs (1000 + 200 * i) (40000 + 6000 * i) Q (F0 m 22 ls []) := by
    intro zz
    induction zz with
    | zero => intros; exfalso; omega
    | succ zz ih22 =>
      intro i w hi hzz hf22_0 H locs hP hD hS ls hl
      refine lv_iload_n hx hb dL_law_22 rfl (lv_at hl 3 rfl) ?_
      refine lv_iconst (v := nI 5) hx hb dL_law_23 (by decide) ?_
      refine lv_icmp_ge (tgt := 1213) hx hb dL_law_24 (by decide) (fun c24 => ?_) (fun c24 => ?_)
      · skip
        have h9x : i = 5 := Nat.le_antisymm hi (z_le (by omega) (by omega) c24)
        obtain ⟨G, D, G1, D1, sa, rb, rt, hs9, hI, rfl⟩ := hf22_0
        rw [← hs9] at hl
        refine lv_aload_n hx hb dL_law_1213 rfl (lv_at hl 2 rfl) ?_
        refine lv_aload_n hx hb dL_law_1214 rfl (lv_at hl 1 rfl) ?_
        refine q_vd (q0 := 39) (ci := 3) [] [] [] hx hb hml hown hts (m_X3_isSame l Dg cI cR cZ h na ta G D G1 D1 sa rb rt H.size hI) gL_law_X3_isSame rfl kd_X3_isSame ⟨(Nat.le_of_ble_eq_true rfl), (Nat.le_of_ble_eq_true rfl)⟩ hK hN hJ (q_nilP (pre := []) hP) (q_nilD (pre := []) hD) hS hA rfl rfl rfl rfl hl.1 rfl (Nat.le_of_ble_eq_true rfl) dL_law_1215 ⟨by show _ ≤ 801385; omega, by show _ ≤ 6697312; omega⟩ (fun o w9 H locs hPo hP hD hS => ?_)
        subst hPo
        exact W.widen (by omega) (by omega) (KE H locs ls hS)
      · skip
        have hi22 : i < 5 := z_nle (by omega) c24
        refine lv_aload_n hx hb dL_law_27 rfl (lv_at hl 0 rfl) ?_
        refine lv_iload_n hx hb dL_law_28 rfl (lv_at hl 3 rfl) ?_
        refine lv_iconst (v := nI 1) hx hb dL_law_29 (by decide) ?_
        refine lv_iadd hx hb dL_law_30 ?_
        refine z_top (x' := nI (i + 1)) (nI_add _ _) ?_
        refine q_cellS (v := q_ce Ls xs (i + 1)) [] hx hb hml hown hts (m_L_cell l b Ls (i + 1) xs hL (by omega)) gL_law_L_cell rfl kdS_L_cell ⟨Nat.le_of_ble_eq_true rfl, Nat.le_of_ble_eq_true rfl⟩ hXs hbl hbA hS rfl rfl hl.1 (Nat.le_of_ble_eq_true rfl) dL_law_31 ⟨by show _ ≤ 801385; omega, by show _ ≤ 6697312; omega⟩ ?_
        refine lv_iconst (v := nI 2) hx hb dL_law_34 (by decide) ?_
        refine lv_ishr hx hb dL_law_35 ?_
        refine lv_bipush (v := nI 53) hx hb dL_law_36 (by decide) ?_
        refine lv_iload_n hx hb dL_law_38 rfl (lv_at hl 3 rfl) ?_
        refine lv_imul hx hb dL_law_39 ?_
        refine lv_iadd hx hb dL_law_40 ?_
        refine lv_istore (lv' := [(4, .int (((q_ce Ls xs (i + 1)) >>> ((nI 2) &&& 31)) + ((nI 53) * (nI i)))), (0, .ref b), (1, .ref h), (2, .ref sim), (3, .int (nI i))]) hx hb dL_law_41 hl (by decide) rfl (fun ls hl => ?_)
        refine lv_iconst (v := nI 0) hx hb dL_law_43 (by decide) ?_
        refine lv_istore (lv' := [(5, .int (nI 0)), (4, .int (((q_ce Ls xs (i + 1)) >>> ((nI 2) &&& 31)) + ((nI 53) * (nI i)))), (0, .ref b), (1, .ref h), (2, .ref sim), (3, .int (nI i))]) hx hb dL_law_44 hl (by decide) rfl (fun ls hl => ?_)
        have lp46 : ∀ (zz k : Nat) (w2 : va_W), k ≤ 3 → 3 + 1 ≤ k + zz → q_ST cI cR h na ta sim w2 → ∀ (H : Heap) (locs : List Loc), va_P Dg vwCl w2 H → va_D (fun q => s.heap.size ≤ q) w2 → va_S (fun q => s.heap.size ≤ q) s.heap H locs → ∀ ls : Array Slot, lv_has ls 23 [(0, .ref b), (1, .ref h), (2, .ref sim), (3, .int (nI i)), (4, .int (((q_ce Ls xs (i + 1)) >>> ((nI 2) &&& 31)) + ((nI 53) * (nI i)))), (5, .int (nI k))] → W p l e room_1 s m ([Value.ref b] : List Value).toArray below meth c H locs (1000 + 200 * i + 41 * k) (40000 + 6000 * i + 1300 * k) Q (F0 m 46 ls []) := by
          intro zz
          induction zz with
          | zero => intros; exfalso; omega
          | succ zz ih46 =>
            intro k w2 hi hzz hf46_0 H locs hP hD hS ls hl
            refine lv_iload hx hb dL_law_46 (lv_at hl 5 rfl) ?_
            refine lv_iconst (v := nI 3) hx hb dL_law_48 (by decide) ?_
            refine lv_icmp_ge (tgt := 81) hx hb dL_law_49 (by decide) (fun c49 => ?_) (fun c49 => ?_)
            · skip
              have h9k : k = 3 := Nat.le_antisymm hi (z_le (by omega) (by omega) c49)
              obtain ⟨G, D, G1, D1, sa, rb, rt, hs9, hI, rfl⟩ := hf46_0
              rw [← hs9] at hl
              refine W.widen (k := 1000 + 200 * i + 123) (n := 40000 + 6000 * i + 3900) (by omega) (by omega) ?_
              refine m_law_T1 C0 hI (((q_ce Ls xs (i + 1)) >>> ((nI 2) &&& 31)) + ((nI 53) * (nI i))) i (1000 + 200 * i + 123) (40000 + 6000 * i + 3900) (by omega) (by omega) ?_ G1 D1 _ _ _ hP hD hS (lv_sub hl [0, 1, 2, 3, 4] rfl)
              refine m_law_T2 C0 hI (((q_ce Ls xs (i + 1)) >>> ((nI 2) &&& 31)) + ((nI 53) * (nI i))) i (1000 + 200 * i + 123 + 3) (40000 + 6000 * i + 3900 + 180) (by omega) (by omega) ?_
              refine m_law_T3 C0 hI (((q_ce Ls xs (i + 1)) >>> ((nI 2) &&& 31)) + ((nI 53) * (nI i))) i (1000 + 200 * i + 123 + 3) (40000 + 6000 * i + 3900 + 180) (by omega) (by omega) ?_
              refine m_law_T4 C0 hI (((q_ce Ls xs (i + 1)) >>> ((nI 2) &&& 31)) + ((nI 53) * (nI i))) i (1000 + 200 * i + 123 + 3) (40000 + 6000 * i + 3900 + 180) (by omega) (by omega) ?_
              refine m_law_T4b C0 hI i (1000 + 200 * i + 123 + 3) (40000 + 6000 * i + 3900 + 180) (by omega) (by omega) ?_
              refine m_law_T5 C0 hI i (1000 + 200 * i + 123 + 3) (40000 + 6000 * i + 3900 + 180) (by omega) (by omega) (fun qa qb qc qd => ?_)
              refine m_law_T6 C0 hI i qa qb qc qd (1000 + 200 * i + 123 + 3 + 4) (40000 + 6000 * i + 3900 + 180 + 240) (by omega) (by omega) ?_
              intro G1 D1 H locs ls hP hD hS hl
              have hST9 : q_ST cI cR h na ta sim (z_cW cI h na ta G (z_day G D) G1 D1 ++ q_W cI cR sa rb rt G (z_day G D)) := ⟨G, z_day G D, G1, D1, sa, rb, rt, hs9, q_I_day hI, rfl⟩
              have hP : va_P Dg vwCl (z_cW cI h na ta G (z_day G D) G1 D1 ++ q_W cI cR sa rb rt G (z_day G D)) H := hP
              have hD : va_D _ (z_cW cI h na ta G (z_day G D) G1 D1 ++ q_W cI cR sa rb rt G (z_day G D)) := hD
              rw [hs9] at hl
              refine W.widen (k := 1000 + 200 * (i + 1)) (n := 40000 + 6000 * (i + 1)) (by omega) (by omega) ?_
              refine lv_iinc (v := nI (i + 1)) (lv' := [(3, .int (nI (i + 1))), (0, .ref b), (1, .ref h), (2, .ref sim)]) hx hb dL_law_1207 hl (k := 3) rfl (nI_1 _) (by decide) rfl (fun ls hl => ?_)
              refine lv_goto (tgt := 22) hx hb dL_law_1210 (by decide) ?_
              exact ih22 (i + 1) (z_cW cI h na ta G (z_day G D) G1 D1 ++ q_W cI cR sa rb rt G (z_day G D)) (by omega) (by omega) hST9 _ _ hP hD hS _ (lv_sub hl [1, 2, 3, 0] rfl)
            · skip
              have hk48 : k < 3 := z_nle (by omega) c49
              refine lv_aload_n hx hb dL_law_52 rfl (lv_at hl 1 rfl) ?_
              refine lv_aload_n hx hb dL_law_53 rfl (lv_at hl 2 rfl) ?_
              refine lv_iload hx hb dL_law_54 (lv_at hl 4 rfl) ?_
              refine lv_iconst (v := nI 3) hx hb dL_law_56 (by decide) ?_
              refine lv_iload hx hb dL_law_57 (lv_at hl 5 rfl) ?_
              refine lv_imul hx hb dL_law_59 ?_
              refine lv_ishr hx hb dL_law_60 ?_
              refine lv_bipush (v := nI 29) hx hb dL_law_61 (by decide) ?_
              refine lv_iload hx hb dL_law_63 (lv_at hl 5 rfl) ?_
              refine lv_imul hx hb dL_law_65 ?_
              refine lv_iadd hx hb dL_law_66 ?_
              obtain ⟨Ga1, Da1, Gb1, Db1, sa1, rb1, rt1, hs1, hI1, rfl⟩ := hf46_0
              refine q_aS [] hx hb hml hown hts (m_L_act l hst Dg cI cR cZ h na ta Ga1 Da1 Gb1 Db1 sa1 rb1 rt1 (((((q_ce Ls xs (i + 1)) >>> ((nI 2) &&& 31)) + ((nI 53) * (nI i))) >>> (((nI 3) * (nI k)) &&& 31)) + ((nI 29) * (nI k))) H.size hI1) gL_law_L_act rfl kdS_L_act ⟨Nat.le_of_ble_eq_true rfl, Nat.le_of_ble_eq_true rfl⟩ hK hN hJ hE hTA hP hD hS hA (by rw [hs1]; rfl) rfl hl.1 (Nat.le_of_ble_eq_true rfl) dL_law_67 ⟨by show _ ≤ 801385; omega, by show _ ≤ 6697312; omega⟩ (fun o w1 H locs hPo hP hD hS => ?_)
              obtain ⟨rfl, hST1⟩ := hPo
              rw [hs1] at hST1
              refine lv_if_ne (tgt := 75) hx hb dL_law_70 (by decide) (fun c70 => ?_) (fun c70 => absurd c70 (by decide))
              refine W.widen (k := 1000 + 200 * i + 41 * (k + 1)) (n := 40000 + 6000 * i + 1300 * (k + 1)) (by omega) (by omega) ?_
              refine lv_iinc (v := nI (k + 1)) (lv' := [(5, .int (nI (k + 1))), (0, .ref b), (1, .ref h), (2, .ref sim), (3, .int (nI i)), (4, .int (((q_ce Ls xs (i + 1)) >>> ((nI 2) &&& 31)) + ((nI 53) * (nI i))))]) hx hb dL_law_75 hl (k := 5) rfl (nI_1 _) (by decide) rfl (fun ls hl => ?_)
              refine lv_goto (tgt := 46) hx hb dL_law_78 (by decide) ?_
              exact ih46 (k + 1) w1 (by omega) (by omega) hST1 _ _ hP hD hS _ (lv_sub hl [1, 2, 3, 4, 5, 0] rfl)
        exact lp46 (3 + 1) 0 w (by omega) (by omega) hf22_0 _ _ hP hD hS _ (lv_sub hl [2, 3, 4, 5, 1, 0] rfl)
  exact lp22 (5 + 1) 0 w0 (by omega) (by omega) hST0 _ _ hP hD hS _ (lv_sub hl [0, 1, 2, 3] rfl)

set_option maxHeartbeats 40000000 in
set_option maxRecDepth 100000 in
theorem m_law_entry {p : Program} {l : Launch} {e : Env} {s : State} {m : MethodId} {below : List Frame} {meth : Method} {c : Code} {b Ls : Nat} {xs : Nat → Int32} {Dg : va_G} {cI cR cZ : ClassId} (C0 : q_CL p l s m meth c b Ls xs Dg cI cR cZ) {Q : State → Prop} (KE : ∀ (H : Heap) (locs : List Loc) (ls : Array Slot), va_S (fun q => s.heap.size ≤ q) s.heap H locs → W p l e room_1 s m #[Value.ref b] below meth c H locs 801385 6697312 Q (F0 m 1218 ls [.int (z_bI true)])) {ls : Array Slot} (hl : lv_has ls 23 [(0, .ref b)]) : W p l e room_1 s m #[Value.ref b] below meth c s.heap [] 0 0 Q (F0 m 0 ls []) := by
  obtain ⟨hx, hb, hr, hml, hown, hts, hXs, hbl, hlk, hK, hN, hJ, hE, hTA, hL, hst⟩ := id C0
  have hbA : ¬ s.heap.size ≤ b := Nat.not_le.mpr hbl
  have hA : ∀ q : Nat, s.heap.size ≤ q → (fun q => s.heap.size ≤ q) q := fun _ z => z
  have hS : va_S (fun q : Nat => s.heap.size ≤ q) s.heap s.heap [] := va_S.rf
  have hP : va_P Dg vwCl ([] : va_W) s.heap := z_P0
  have hD : va_D (fun q : Nat => s.heap.size ≤ q) ([] : va_W) := ⟨fun i j p q h => by simp at h, fun k q h => by simp at h⟩
  refine va_new (ci := 2) (fs := [.null, .null]) (C := RX2) (T := TX2) (N := 2) hx hb hts inlX2 tyX2 tyX2_ok hown (hts _ (List.mem_append_left _ (List.mem_append_left _ (List.mem_append_left _ (List.mem_append_left _ (List.mem_append_left _ (List.mem_append_left _ (List.mem_append_left _ (List.mem_append_left _ (List.mem_append_left _ (List.mem_of_getElem? (i := 0) rfl))))))))))) (hts _ (List.mem_append_left _ (List.mem_append_left _ (List.mem_append_left _ (List.mem_append_left _ (List.mem_append_left _ (List.mem_append_left _ (List.mem_append_left _ (List.mem_append_left _ (List.mem_append_left _ (List.mem_of_getElem? (i := 1) rfl))))))))))) (hts _ (List.mem_append_left _ (List.mem_append_left _ (List.mem_append_left _ (List.mem_append_left _ (List.mem_append_left _ (List.mem_append_left _ (List.mem_append_left _ (List.mem_append_left _ (List.mem_append_left _ (List.mem_of_getElem? (i := 2) rfl))))))))))) hK hP hD hS hA rfl (fun j hj => by rcases (show j = 0 ∨ j = 1 by omega) with rfl | rfl <;> rfl) (Nat.le_of_ble_eq_true rfl) (Nat.le_of_ble_eq_true rfl) dL_law_0 (fun h H hP hD hS => ?_)
  refine lv_dup hx hb dL_law_3 rfl ?_
  have hP : va_P Dg vwCl ([] ++ ([(h, .inr (2, [.null, .null]))] ++ [])) H := hP
  have hD : va_D _ (([] : va_W) ++ ([(h, .inr (2, [.null, .null]))] ++ [])) := hD
  refine z_ni [.ref h] [] [] hx hb hml hown hts (m_X2_init l Dg cI h H.size) gL_law_X2_init rfl (hts _ (List.mem_append_left _ (List.mem_append_left _ (List.mem_append_left _ (List.mem_append_left _ (List.mem_append_left _ (List.mem_append_left _ (List.mem_append_left _ (List.mem_append_left _ (List.mem_append_left _ (List.mem_of_getElem? (i := 2) rfl))))))))))) (hts _ (List.mem_append_left _ (List.mem_append_left _ (List.mem_append_left _ (List.mem_append_left _ (List.mem_append_left _ (List.mem_append_left _ (List.mem_append_left _ (List.mem_append_left _ (List.mem_append_left _ (List.mem_of_getElem? (i := 14) rfl))))))))))) (hts _ (List.mem_append_left _ (List.mem_append_left _ (List.mem_append_left _ (List.mem_append_left _ (List.mem_append_left _ (List.mem_append_left _ (List.mem_append_left _ (List.mem_append_left _ (List.mem_append_left _ (List.mem_of_getElem? (i := 15) rfl))))))))))) rfl kdS_X2_init ⟨(Nat.le_of_ble_eq_true rfl), (Nat.le_of_ble_eq_true rfl)⟩ (q_KI hK) hN hP hD hS hA rfl hl.1 rfl (Nat.le_of_ble_eq_true rfl) dL_law_4 ⟨(Nat.le_of_ble_eq_true rfl), (Nat.le_of_ble_eq_true rfl)⟩ (fun o w9 H locs hPo hP hD hS => ?_)
  obtain ⟨rfl, na, ta, rfl⟩ := hPo
  refine lv_astore_n (lv' := [(1, .ref h), (0, .ref b)]) hx hb dL_law_7 rfl hl (by decide) rfl (fun ls hl => ?_)
  have hP : va_P Dg vwCl (z_cW cI h na ta z_G0 z_D0 z_G0 z_D0) H := hP
  have hD : va_D (fun q : Nat => s.heap.size ≤ q) (z_cW cI h na ta z_G0 z_D0 z_G0 z_D0) := hD
  refine lv_aload_n hx hb dL_law_8 rfl (lv_at hl 0 rfl) ?_
  refine lv_aload_n hx hb dL_law_9 rfl (lv_at hl 1 rfl) ?_
  refine q_bS [] hx hb hml hown hts (m_L_build l hst Dg cI cR cZ h na ta z_G0 z_D0 H.size b Ls xs hL) gL_law_L_build rfl kdS_L_build ⟨(Nat.le_of_ble_eq_true rfl), (Nat.le_of_ble_eq_true rfl)⟩ hK hN hJ hE hTA hXs hbl hbA hP hD hS hA rfl rfl hl.1 (Nat.le_of_ble_eq_true rfl) dL_law_10 ⟨(Nat.le_of_ble_eq_true rfl), (Nat.le_of_ble_eq_true rfl)⟩ (fun o w9 H locs hPo hP hD hS => ?_)
  obtain ⟨sim, rfl, hST⟩ := hPo
  refine lv_astore_n (lv' := [(2, .ref sim), (1, .ref h), (0, .ref b)]) hx hb dL_law_13 rfl hl (by decide) rfl (fun ls hl => ?_)
  refine lv_aload_n hx hb dL_law_14 rfl (lv_at hl 0 rfl) ?_
  refine lv_ifnonnull (tgt := 20) hx hb dL_law_15 (by decide) ?_
  refine lv_iconst (v := nI 0) hx hb dL_law_20 (by decide) ?_
  refine lv_istore_n (lv' := [(3, .int (nI 0)), (2, .ref sim), (1, .ref h), (0, .ref b)]) hx hb dL_law_21 rfl hl (by decide) rfl (fun ls hl => ?_)
  refine W.widen (k := 1000) (n := 40000) (Nat.le_of_ble_eq_true rfl) (Nat.le_of_ble_eq_true rfl) ?_
  exact m_law_loop C0 sim KE w9 hST H locs ls hP hD hS (lv_sub hl [3, 2, 1, 0] rfl)
