def z_fo (f : Nat → Int32) : Nat → Int64
  | 0 => 2351
  | n + 1 => z_mi (z_fo f n) (f n).toInt64
def z_told (G : z_GG) (D : z_DD) : Nat → Int32 := upd (upd (upd (upd (upd (upd (upd (upd (upd (upd (upd (upd (fun _ => 0) 0 (z_dy D)) 1 (nI (z_bc G))) 2 (nI (z_tc G))) 3 (nI (z_cn G D 1))) 4 (nI (z_cn G D 2))) 5 (nI (z_cn G D 3))) 6 (z_sum (z_sw D) (z_bc G))) 7 (z_oi (z_fb G D 0 (z_tc G)))) 8 (z_oi (z_fb G D 1 (z_tc G)))) 9 (z_oi (z_fb G D 2 (z_tc G)))) 10 (nI (z_bo G D))) 11 (z_wt G D)
theorem z_fo12g (f : Nat → Int32) : z_fo f 12 = z_mi (z_mi (z_mi (z_mi (z_mi (z_mi (z_mi (z_mi (z_mi (z_mi (z_mi (z_mi (2351) (f 0).toInt64) (f 1).toInt64) (f 2).toInt64) (f 3).toInt64) (f 4).toInt64) (f 5).toInt64) (f 6).toInt64) (f 7).toInt64) (f 8).toInt64) (f 9).toInt64) (f 10).toInt64) (f 11).toInt64 := rfl
theorem z_td0 (G : z_GG) (D : z_DD) : z_told G D 0 = z_dy D := by simp [z_told, upd]
theorem z_td1 (G : z_GG) (D : z_DD) : z_told G D 1 = nI (z_bc G) := by simp [z_told, upd]
theorem z_td2 (G : z_GG) (D : z_DD) : z_told G D 2 = nI (z_tc G) := by simp [z_told, upd]
theorem z_td3 (G : z_GG) (D : z_DD) : z_told G D 3 = nI (z_cn G D 1) := by simp [z_told, upd]
theorem z_td4 (G : z_GG) (D : z_DD) : z_told G D 4 = nI (z_cn G D 2) := by simp [z_told, upd]
theorem z_td5 (G : z_GG) (D : z_DD) : z_told G D 5 = nI (z_cn G D 3) := by simp [z_told, upd]
theorem z_td6 (G : z_GG) (D : z_DD) : z_told G D 6 = z_sum (z_sw D) (z_bc G) := by simp [z_told, upd]
theorem z_td7 (G : z_GG) (D : z_DD) : z_told G D 7 = z_oi (z_fb G D 0 (z_tc G)) := by simp [z_told, upd]
theorem z_td8 (G : z_GG) (D : z_DD) : z_told G D 8 = z_oi (z_fb G D 1 (z_tc G)) := by simp [z_told, upd]
theorem z_td9 (G : z_GG) (D : z_DD) : z_told G D 9 = z_oi (z_fb G D 2 (z_tc G)) := by simp [z_told, upd]
theorem z_td10 (G : z_GG) (D : z_DD) : z_told G D 10 = nI (z_bo G D) := by simp [z_told, upd]
theorem z_td11 (G : z_GG) (D : z_DD) : z_told G D 11 = z_wt G D := by simp [z_told, upd]
theorem z_dgo3 (G : z_GG) (D : z_DD) (d : Int64) : z_dgo G D d 3 = z_mi (z_mi (z_mi d (z_oi (z_fb G D 0 (z_tc G))).toInt64) (z_oi (z_fb G D 1 (z_tc G))).toInt64) (z_oi (z_fb G D 2 (z_tc G))).toInt64 := rfl
theorem z_fo12 (G : z_GG) (D : z_DD) : z_fo (z_told G D) 12 = z_dg12 G D := by
  rw [z_fo12g, z_td0, z_td1, z_td2, z_td3, z_td4, z_td5, z_td6, z_td7, z_td8, z_td9, z_td10, z_td11, z_dg12, z_dgo3, z_dg7]

set_option maxHeartbeats 4000000 in
set_option maxRecDepth 100000 in
theorem m_X3_digest (l : Launch) (Dg : va_G) (cI : ClassId) (mo : Nat → Nat) (th : Int32) (G : z_GG) (D : z_DD) (K : Nat → Int32) (sz : Nat) (hG : z_WG G) (hW : z_WD G D) : z_Md l yX3_digest wsX3_digest 6 1 12 139 [.ref (mo 0)] Dg cI (z_mW cI mo th G D K) sz (fun o w9 => o = some (.long (z_dg G D)) ∧ w9 = z_mW cI mo 0 G D (z_nw D)) := by
  have htc : z_tc G ≤ 60 := hG.2.2.2.2.2.1
  have hbc : z_bc G ≤ 6 := hG.2.2.2.2.1
  have hsd : z_sd G ≤ 9 := hG.2.2.2.2.2.2.1
  have hod : z_od G ≤ 2 := hG.2.2.2.2.2.2.2
  refine z_sd' (own := RX3) (l0 := [(0, .ref (mo 0))]) rfl rfl (by decide) (Nat.le_of_ble_eq_true rfl) rfl ?_
  intro p e s m below meth c hx hb hr hml hts hown hlk hin hP hK hN hD hS hA ls hl
  refine lv_aload_n hx hb dX3_digest_0 rfl (lv_at hl 0 rfl) ?_
  refine lv_iconst (v := 0) hx hb dX3_digest_1 (by decide) ?_
  refine va_put (ci := 3) (v := .int 0) (ty := .int) (C := RX3) (T := TX3) (N := 12) hx hb hts (fun _ h => (List.mem_cons_of_mem _ (List.mem_append_right _ h))) tyX3 tyX3_ok nmX3 hown hK hP hD hS 0 rfl rfl 0 (by decide) (hts _ (List.mem_cons_of_mem _ (List.mem_append_left _ (List.mem_append_left _ (List.mem_of_getElem? (i := 0) rfl))))) (fun _ h9 => h9) rfl (by decide +kernel) rfl rfl (Nat.le_of_ble_eq_true rfl) dX3_digest_2 (fun H locs hP hD hS => ?_)
  have hP : va_P Dg vwCl (z_mW cI mo 0 G D K) H := hP
  have hD : va_D _ (z_mW cI mo 0 G D K) := hD
  refine lv_bipush (v := 12) hx hb dX3_digest_5 (by decide) ?_
  refine va_newa (atype := .int) (ty := .int) (N' := 12) (a0 := (12, .inl (fun _ => 0))) hx hb (hts _ (List.mem_cons_of_mem _ (List.mem_append_left _ (List.mem_append_left _ (List.mem_of_getElem? (i := 1) rfl))))) rfl hK hP hD hS hA (fun _ => rfl) (by decide) (by decide) (Nat.le_of_ble_eq_true rfl) (Nat.le_of_ble_eq_true rfl) (Nat.le_of_ble_eq_true rfl) dX3_digest_7 (fun q1 cA H hK2 hP hD hS => ?_)
  rw [z_cAeq hK2] at hP hD
  have hP : va_P Dg vwCl (z_mW cI mo 0 G D K ++ [(q1, .inl (cI, 12, .inl (fun _ => 0)))]) H := hP
  have hD : va_D _ (z_mW cI mo 0 G D K ++ [(q1, .inl (cI, 12, .inl (fun _ => 0)))]) := hD
  refine lv_dup hx hb dX3_digest_9 rfl ?_
  refine lv_iconst (v := nI 0) hx hb dX3_digest_10 (by decide) ?_
  refine lv_aload_n hx hb dX3_digest_11 rfl (lv_at hl 0 rfl) ?_
  refine va_get (ci := 3) (v := .ref (mo 6)) (C := RX3) (T := TX3) (N := 12) hx hb hts (fun _ h => (List.mem_cons_of_mem _ (List.mem_append_right _ h))) hown hK hP 0 rfl rfl 10 (by decide) (hts _ (List.mem_cons_of_mem _ (List.mem_append_left _ (List.mem_append_left _ (List.mem_of_getElem? (i := 2) rfl))))) (fun _ h9 => h9) rfl dX3_digest_12 ?_
  refine lv_iconst (v := nI 0) hx hb dX3_digest_15 (by decide) ?_
  refine z_iald hx hb hK hP 6 0 rfl rfl (by omega) (by decide) dX3_digest_16 ?_
  refine z_top (x' := z_dy D) (z_nw_dy _) ?_
  refine z_iast hx hb hK hP hD hS 8 0 rfl rfl (by omega) (by decide) dX3_digest_17 (fun H locs hP hD hS => ?_)
  have hP : va_P Dg vwCl (z_mW cI mo 0 G D K ++ [(q1, .inl (cI, 12, .inl (upd (fun _ => 0) 0 (z_dy D))))]) H := hP
  have hD : va_D _ (z_mW cI mo 0 G D K ++ [(q1, .inl (cI, 12, .inl (upd (fun _ => 0) 0 (z_dy D))))]) := hD
  refine lv_dup hx hb dX3_digest_18 rfl ?_
  refine lv_iconst (v := nI 1) hx hb dX3_digest_19 (by decide) ?_
  refine lv_aload_n hx hb dX3_digest_20 rfl (lv_at hl 0 rfl) ?_
  refine va_get (ci := 3) (v := .int (nI (z_bc G))) (C := RX3) (T := TX3) (N := 12) hx hb hts (fun _ h => (List.mem_cons_of_mem _ (List.mem_append_right _ h))) hown hK hP 0 rfl rfl 1 (by decide) (hts _ (List.mem_cons_of_mem _ (List.mem_append_left _ (List.mem_append_left _ (List.mem_of_getElem? (i := 3) rfl))))) (fun _ h9 => h9) rfl dX3_digest_21 ?_
  refine z_iast hx hb hK hP hD hS 8 0 rfl rfl (by omega) (by decide) dX3_digest_24 (fun H locs hP hD hS => ?_)
  have hP : va_P Dg vwCl (z_mW cI mo 0 G D K ++ [(q1, .inl (cI, 12, .inl (upd (upd (fun _ => 0) 0 (z_dy D)) 1 (nI (z_bc G)))))]) H := hP
  have hD : va_D _ (z_mW cI mo 0 G D K ++ [(q1, .inl (cI, 12, .inl (upd (upd (fun _ => 0) 0 (z_dy D)) 1 (nI (z_bc G)))))]) := hD
  refine lv_dup hx hb dX3_digest_25 rfl ?_
  refine lv_iconst (v := nI 2) hx hb dX3_digest_26 (by decide) ?_
  refine lv_aload_n hx hb dX3_digest_27 rfl (lv_at hl 0 rfl) ?_
  refine va_get (ci := 3) (v := .int (nI (z_tc G))) (C := RX3) (T := TX3) (N := 12) hx hb hts (fun _ h => (List.mem_cons_of_mem _ (List.mem_append_right _ h))) hown hK hP 0 rfl rfl 2 (by decide) (hts _ (List.mem_cons_of_mem _ (List.mem_append_left _ (List.mem_append_left _ (List.mem_of_getElem? (i := 4) rfl))))) (fun _ h9 => h9) rfl dX3_digest_28 ?_
  refine z_iast hx hb hK hP hD hS 8 0 rfl rfl (by omega) (by decide) dX3_digest_31 (fun H locs hP hD hS => ?_)
  have hP : va_P Dg vwCl (z_mW cI mo 0 G D K ++ [(q1, .inl (cI, 12, .inl (upd (upd (upd (fun _ => 0) 0 (z_dy D)) 1 (nI (z_bc G))) 2 (nI (z_tc G)))))]) H := hP
  have hD : va_D _ (z_mW cI mo 0 G D K ++ [(q1, .inl (cI, 12, .inl (upd (upd (upd (fun _ => 0) 0 (z_dy D)) 1 (nI (z_bc G))) 2 (nI (z_tc G)))))]) := hD
  refine lv_dup hx hb dX3_digest_32 rfl ?_
  refine lv_iconst (v := nI 3) hx hb dX3_digest_33 (by decide) ?_
  refine lv_aload_n hx hb dX3_digest_34 rfl (lv_at hl 0 rfl) ?_
  refine lv_iconst (v := nI 0) hx hb dX3_digest_35 (by decide) ?_
  refine z_rVi (v := nI (z_cn G D 1)) [.int (nI 3), .ref q1, .ref q1] hx hb hml hown hts (m_X3_count l Dg cI mo 0 G D K 0 (by decide) hG hW) gX3_digest_X3_count rfl kd_X3_count ⟨Nat.le_of_ble_eq_true rfl, Nat.le_of_ble_eq_true rfl⟩ hK hN (z_Pm (a := []) (c := ([(q1, .inl (cI, 12, .inl (upd (upd (upd (fun _ => 0) 0 (z_dy D)) 1 (nI (z_bc G))) 2 (nI (z_tc G)))))])) hP) rfl rfl rfl rfl hl.1 rfl (Nat.le_of_ble_eq_true rfl) dX3_digest_36 ⟨Nat.le_of_ble_eq_true rfl, Nat.le_of_ble_eq_true rfl⟩ ?_
  refine z_iast hx hb hK hP hD hS 8 0 rfl rfl (by omega) (by decide) dX3_digest_39 (fun H locs hP hD hS => ?_)
  have hP : va_P Dg vwCl (z_mW cI mo 0 G D K ++ [(q1, .inl (cI, 12, .inl (upd (upd (upd (upd (fun _ => 0) 0 (z_dy D)) 1 (nI (z_bc G))) 2 (nI (z_tc G))) 3 (nI (z_cn G D 1)))))]) H := hP
  have hD : va_D _ (z_mW cI mo 0 G D K ++ [(q1, .inl (cI, 12, .inl (upd (upd (upd (upd (fun _ => 0) 0 (z_dy D)) 1 (nI (z_bc G))) 2 (nI (z_tc G))) 3 (nI (z_cn G D 1)))))]) := hD
  refine lv_dup hx hb dX3_digest_40 rfl ?_
  refine lv_iconst (v := nI 4) hx hb dX3_digest_41 (by decide) ?_
  refine lv_aload_n hx hb dX3_digest_42 rfl (lv_at hl 0 rfl) ?_
  refine lv_iconst (v := nI 1) hx hb dX3_digest_43 (by decide) ?_
  refine z_rVi (v := nI (z_cn G D 2)) [.int (nI 4), .ref q1, .ref q1] hx hb hml hown hts (m_X3_count l Dg cI mo 0 G D K 1 (by decide) hG hW) gX3_digest_X3_count rfl kd_X3_count ⟨Nat.le_of_ble_eq_true rfl, Nat.le_of_ble_eq_true rfl⟩ hK hN (z_Pm (a := []) (c := ([(q1, .inl (cI, 12, .inl (upd (upd (upd (upd (fun _ => 0) 0 (z_dy D)) 1 (nI (z_bc G))) 2 (nI (z_tc G))) 3 (nI (z_cn G D 1)))))])) hP) rfl rfl rfl rfl hl.1 rfl (Nat.le_of_ble_eq_true rfl) dX3_digest_44 ⟨Nat.le_of_ble_eq_true rfl, Nat.le_of_ble_eq_true rfl⟩ ?_
  refine z_iast hx hb hK hP hD hS 8 0 rfl rfl (by omega) (by decide) dX3_digest_47 (fun H locs hP hD hS => ?_)
  have hP : va_P Dg vwCl (z_mW cI mo 0 G D K ++ [(q1, .inl (cI, 12, .inl (upd (upd (upd (upd (upd (fun _ => 0) 0 (z_dy D)) 1 (nI (z_bc G))) 2 (nI (z_tc G))) 3 (nI (z_cn G D 1))) 4 (nI (z_cn G D 2)))))]) H := hP
  have hD : va_D _ (z_mW cI mo 0 G D K ++ [(q1, .inl (cI, 12, .inl (upd (upd (upd (upd (upd (fun _ => 0) 0 (z_dy D)) 1 (nI (z_bc G))) 2 (nI (z_tc G))) 3 (nI (z_cn G D 1))) 4 (nI (z_cn G D 2)))))]) := hD
  refine lv_dup hx hb dX3_digest_48 rfl ?_
  refine lv_iconst (v := nI 5) hx hb dX3_digest_49 (by decide) ?_
  refine lv_aload_n hx hb dX3_digest_50 rfl (lv_at hl 0 rfl) ?_
  refine lv_iconst (v := nI 2) hx hb dX3_digest_51 (by decide) ?_
  refine z_rVi (v := nI (z_cn G D 3)) [.int (nI 5), .ref q1, .ref q1] hx hb hml hown hts (m_X3_count l Dg cI mo 0 G D K 2 (by decide) hG hW) gX3_digest_X3_count rfl kd_X3_count ⟨Nat.le_of_ble_eq_true rfl, Nat.le_of_ble_eq_true rfl⟩ hK hN (z_Pm (a := []) (c := ([(q1, .inl (cI, 12, .inl (upd (upd (upd (upd (upd (fun _ => 0) 0 (z_dy D)) 1 (nI (z_bc G))) 2 (nI (z_tc G))) 3 (nI (z_cn G D 1))) 4 (nI (z_cn G D 2)))))])) hP) rfl rfl rfl rfl hl.1 rfl (Nat.le_of_ble_eq_true rfl) dX3_digest_52 ⟨Nat.le_of_ble_eq_true rfl, Nat.le_of_ble_eq_true rfl⟩ ?_
  refine z_iast hx hb hK hP hD hS 8 0 rfl rfl (by omega) (by decide) dX3_digest_55 (fun H locs hP hD hS => ?_)
  have hP : va_P Dg vwCl (z_mW cI mo 0 G D K ++ [(q1, .inl (cI, 12, .inl (upd (upd (upd (upd (upd (upd (fun _ => 0) 0 (z_dy D)) 1 (nI (z_bc G))) 2 (nI (z_tc G))) 3 (nI (z_cn G D 1))) 4 (nI (z_cn G D 2))) 5 (nI (z_cn G D 3)))))]) H := hP
  have hD : va_D _ (z_mW cI mo 0 G D K ++ [(q1, .inl (cI, 12, .inl (upd (upd (upd (upd (upd (upd (fun _ => 0) 0 (z_dy D)) 1 (nI (z_bc G))) 2 (nI (z_tc G))) 3 (nI (z_cn G D 1))) 4 (nI (z_cn G D 2))) 5 (nI (z_cn G D 3)))))]) := hD
  refine lv_dup hx hb dX3_digest_56 rfl ?_
  refine lv_bipush (v := nI 6) hx hb dX3_digest_57 (by decide) ?_
  refine lv_aload_n hx hb dX3_digest_59 rfl (lv_at hl 0 rfl) ?_
  refine z_rVi (v := z_sum (z_sw D) (z_bc G)) [.int (nI 6), .ref q1, .ref q1] hx hb hml hown hts (m_X3_allSwelled l Dg cI mo 0 G D K hG) gX3_digest_X3_allSwelled rfl kd_X3_allSwelled ⟨Nat.le_of_ble_eq_true rfl, Nat.le_of_ble_eq_true rfl⟩ hK hN (z_Pm (a := []) (c := ([(q1, .inl (cI, 12, .inl (upd (upd (upd (upd (upd (upd (fun _ => 0) 0 (z_dy D)) 1 (nI (z_bc G))) 2 (nI (z_tc G))) 3 (nI (z_cn G D 1))) 4 (nI (z_cn G D 2))) 5 (nI (z_cn G D 3)))))])) hP) rfl rfl rfl rfl hl.1 rfl (Nat.le_of_ble_eq_true rfl) dX3_digest_60 ⟨Nat.le_of_ble_eq_true rfl, Nat.le_of_ble_eq_true rfl⟩ ?_
  refine z_iast hx hb hK hP hD hS 8 0 rfl rfl (by omega) (by decide) dX3_digest_63 (fun H locs hP hD hS => ?_)
  have hP : va_P Dg vwCl (z_mW cI mo 0 G D K ++ [(q1, .inl (cI, 12, .inl (upd (upd (upd (upd (upd (upd (upd (fun _ => 0) 0 (z_dy D)) 1 (nI (z_bc G))) 2 (nI (z_tc G))) 3 (nI (z_cn G D 1))) 4 (nI (z_cn G D 2))) 5 (nI (z_cn G D 3))) 6 (z_sum (z_sw D) (z_bc G)))))]) H := hP
  have hD : va_D _ (z_mW cI mo 0 G D K ++ [(q1, .inl (cI, 12, .inl (upd (upd (upd (upd (upd (upd (upd (fun _ => 0) 0 (z_dy D)) 1 (nI (z_bc G))) 2 (nI (z_tc G))) 3 (nI (z_cn G D 1))) 4 (nI (z_cn G D 2))) 5 (nI (z_cn G D 3))) 6 (z_sum (z_sw D) (z_bc G)))))]) := hD
  refine lv_dup hx hb dX3_digest_64 rfl ?_
  refine lv_bipush (v := nI 7) hx hb dX3_digest_65 (by decide) ?_
  refine lv_aload_n hx hb dX3_digest_67 rfl (lv_at hl 0 rfl) ?_
  refine lv_iconst (v := nI 0) hx hb dX3_digest_68 (by decide) ?_
  refine z_rVi (v := z_oi (z_fb G D 0 (z_tc G))) [.int (nI 7), .ref q1, .ref q1] hx hb hml hown hts (m_X3_firstBy l Dg cI mo 0 G D K 0 (by omega) hG hW) gX3_digest_X3_firstBy rfl kd_X3_firstBy ⟨Nat.le_of_ble_eq_true rfl, Nat.le_of_ble_eq_true rfl⟩ hK hN (z_Pm (a := []) (c := ([(q1, .inl (cI, 12, .inl (upd (upd (upd (upd (upd (upd (upd (fun _ => 0) 0 (z_dy D)) 1 (nI (z_bc G))) 2 (nI (z_tc G))) 3 (nI (z_cn G D 1))) 4 (nI (z_cn G D 2))) 5 (nI (z_cn G D 3))) 6 (z_sum (z_sw D) (z_bc G)))))])) hP) rfl rfl rfl rfl hl.1 rfl (Nat.le_of_ble_eq_true rfl) dX3_digest_69 ⟨Nat.le_of_ble_eq_true rfl, Nat.le_of_ble_eq_true rfl⟩ ?_
  refine z_iast hx hb hK hP hD hS 8 0 rfl rfl (by omega) (by decide) dX3_digest_72 (fun H locs hP hD hS => ?_)
  have hP : va_P Dg vwCl (z_mW cI mo 0 G D K ++ [(q1, .inl (cI, 12, .inl (upd (upd (upd (upd (upd (upd (upd (upd (fun _ => 0) 0 (z_dy D)) 1 (nI (z_bc G))) 2 (nI (z_tc G))) 3 (nI (z_cn G D 1))) 4 (nI (z_cn G D 2))) 5 (nI (z_cn G D 3))) 6 (z_sum (z_sw D) (z_bc G))) 7 (z_oi (z_fb G D 0 (z_tc G))))))]) H := hP
  have hD : va_D _ (z_mW cI mo 0 G D K ++ [(q1, .inl (cI, 12, .inl (upd (upd (upd (upd (upd (upd (upd (upd (fun _ => 0) 0 (z_dy D)) 1 (nI (z_bc G))) 2 (nI (z_tc G))) 3 (nI (z_cn G D 1))) 4 (nI (z_cn G D 2))) 5 (nI (z_cn G D 3))) 6 (z_sum (z_sw D) (z_bc G))) 7 (z_oi (z_fb G D 0 (z_tc G))))))]) := hD
  refine lv_dup hx hb dX3_digest_73 rfl ?_
  refine lv_bipush (v := nI 8) hx hb dX3_digest_74 (by decide) ?_
  refine lv_aload_n hx hb dX3_digest_76 rfl (lv_at hl 0 rfl) ?_
  refine lv_iconst (v := nI 1) hx hb dX3_digest_77 (by decide) ?_
  refine z_rVi (v := z_oi (z_fb G D 1 (z_tc G))) [.int (nI 8), .ref q1, .ref q1] hx hb hml hown hts (m_X3_firstBy l Dg cI mo 0 G D K 1 (by omega) hG hW) gX3_digest_X3_firstBy rfl kd_X3_firstBy ⟨Nat.le_of_ble_eq_true rfl, Nat.le_of_ble_eq_true rfl⟩ hK hN (z_Pm (a := []) (c := ([(q1, .inl (cI, 12, .inl (upd (upd (upd (upd (upd (upd (upd (upd (fun _ => 0) 0 (z_dy D)) 1 (nI (z_bc G))) 2 (nI (z_tc G))) 3 (nI (z_cn G D 1))) 4 (nI (z_cn G D 2))) 5 (nI (z_cn G D 3))) 6 (z_sum (z_sw D) (z_bc G))) 7 (z_oi (z_fb G D 0 (z_tc G))))))])) hP) rfl rfl rfl rfl hl.1 rfl (Nat.le_of_ble_eq_true rfl) dX3_digest_78 ⟨Nat.le_of_ble_eq_true rfl, Nat.le_of_ble_eq_true rfl⟩ ?_
  refine z_iast hx hb hK hP hD hS 8 0 rfl rfl (by omega) (by decide) dX3_digest_81 (fun H locs hP hD hS => ?_)
  have hP : va_P Dg vwCl (z_mW cI mo 0 G D K ++ [(q1, .inl (cI, 12, .inl (upd (upd (upd (upd (upd (upd (upd (upd (upd (fun _ => 0) 0 (z_dy D)) 1 (nI (z_bc G))) 2 (nI (z_tc G))) 3 (nI (z_cn G D 1))) 4 (nI (z_cn G D 2))) 5 (nI (z_cn G D 3))) 6 (z_sum (z_sw D) (z_bc G))) 7 (z_oi (z_fb G D 0 (z_tc G)))) 8 (z_oi (z_fb G D 1 (z_tc G))))))]) H := hP
  have hD : va_D _ (z_mW cI mo 0 G D K ++ [(q1, .inl (cI, 12, .inl (upd (upd (upd (upd (upd (upd (upd (upd (upd (fun _ => 0) 0 (z_dy D)) 1 (nI (z_bc G))) 2 (nI (z_tc G))) 3 (nI (z_cn G D 1))) 4 (nI (z_cn G D 2))) 5 (nI (z_cn G D 3))) 6 (z_sum (z_sw D) (z_bc G))) 7 (z_oi (z_fb G D 0 (z_tc G)))) 8 (z_oi (z_fb G D 1 (z_tc G))))))]) := hD
  refine lv_dup hx hb dX3_digest_82 rfl ?_
  refine lv_bipush (v := nI 9) hx hb dX3_digest_83 (by decide) ?_
  refine lv_aload_n hx hb dX3_digest_85 rfl (lv_at hl 0 rfl) ?_
  refine lv_iconst (v := nI 2) hx hb dX3_digest_86 (by decide) ?_
  refine z_rVi (v := z_oi (z_fb G D 2 (z_tc G))) [.int (nI 9), .ref q1, .ref q1] hx hb hml hown hts (m_X3_firstBy l Dg cI mo 0 G D K 2 (by omega) hG hW) gX3_digest_X3_firstBy rfl kd_X3_firstBy ⟨Nat.le_of_ble_eq_true rfl, Nat.le_of_ble_eq_true rfl⟩ hK hN (z_Pm (a := []) (c := ([(q1, .inl (cI, 12, .inl (upd (upd (upd (upd (upd (upd (upd (upd (upd (fun _ => 0) 0 (z_dy D)) 1 (nI (z_bc G))) 2 (nI (z_tc G))) 3 (nI (z_cn G D 1))) 4 (nI (z_cn G D 2))) 5 (nI (z_cn G D 3))) 6 (z_sum (z_sw D) (z_bc G))) 7 (z_oi (z_fb G D 0 (z_tc G)))) 8 (z_oi (z_fb G D 1 (z_tc G))))))])) hP) rfl rfl rfl rfl hl.1 rfl (Nat.le_of_ble_eq_true rfl) dX3_digest_87 ⟨Nat.le_of_ble_eq_true rfl, Nat.le_of_ble_eq_true rfl⟩ ?_
  refine z_iast hx hb hK hP hD hS 8 0 rfl rfl (by omega) (by decide) dX3_digest_90 (fun H locs hP hD hS => ?_)
  have hP : va_P Dg vwCl (z_mW cI mo 0 G D K ++ [(q1, .inl (cI, 12, .inl (upd (upd (upd (upd (upd (upd (upd (upd (upd (upd (fun _ => 0) 0 (z_dy D)) 1 (nI (z_bc G))) 2 (nI (z_tc G))) 3 (nI (z_cn G D 1))) 4 (nI (z_cn G D 2))) 5 (nI (z_cn G D 3))) 6 (z_sum (z_sw D) (z_bc G))) 7 (z_oi (z_fb G D 0 (z_tc G)))) 8 (z_oi (z_fb G D 1 (z_tc G)))) 9 (z_oi (z_fb G D 2 (z_tc G))))))]) H := hP
  have hD : va_D _ (z_mW cI mo 0 G D K ++ [(q1, .inl (cI, 12, .inl (upd (upd (upd (upd (upd (upd (upd (upd (upd (upd (fun _ => 0) 0 (z_dy D)) 1 (nI (z_bc G))) 2 (nI (z_tc G))) 3 (nI (z_cn G D 1))) 4 (nI (z_cn G D 2))) 5 (nI (z_cn G D 3))) 6 (z_sum (z_sw D) (z_bc G))) 7 (z_oi (z_fb G D 0 (z_tc G)))) 8 (z_oi (z_fb G D 1 (z_tc G)))) 9 (z_oi (z_fb G D 2 (z_tc G))))))]) := hD
  refine lv_dup hx hb dX3_digest_91 rfl ?_
  refine lv_bipush (v := nI 10) hx hb dX3_digest_92 (by decide) ?_
  refine lv_aload_n hx hb dX3_digest_94 rfl (lv_at hl 0 rfl) ?_
  refine z_wBi (v := nI (z_bo G D)) [.int (nI 10), .ref q1, .ref q1] [] ([(q1, .inl (cI, 12, .inl (upd (upd (upd (upd (upd (upd (upd (upd (upd (upd (fun _ => 0) 0 (z_dy D)) 1 (nI (z_bc G))) 2 (nI (z_tc G))) 3 (nI (z_cn G D 1))) 4 (nI (z_cn G D 2))) 5 (nI (z_cn G D 3))) 6 (z_sum (z_sw D) (z_bc G))) 7 (z_oi (z_fb G D 0 (z_tc G)))) 8 (z_oi (z_fb G D 1 (z_tc G)))) 9 (z_oi (z_fb G D 2 (z_tc G))))))]) 0 hx hb hml hown hts (m_X3_best l Dg cI mo 0 G D K hG hW) gX3_digest_X3_best rfl kd_X3_best ⟨Nat.le_of_ble_eq_true rfl, Nat.le_of_ble_eq_true rfl⟩ hK hN hP hD hS rfl rfl rfl rfl rfl hl.1 rfl (Nat.le_of_ble_eq_true rfl) dX3_digest_95 ⟨Nat.le_of_ble_eq_true rfl, Nat.le_of_ble_eq_true rfl⟩ (fun H locs hP hD hS => ?_)
  have hP : va_P Dg vwCl (z_mW cI mo 0 G D (z_nw D) ++ [(q1, .inl (cI, 12, .inl (upd (upd (upd (upd (upd (upd (upd (upd (upd (upd (fun _ => 0) 0 (z_dy D)) 1 (nI (z_bc G))) 2 (nI (z_tc G))) 3 (nI (z_cn G D 1))) 4 (nI (z_cn G D 2))) 5 (nI (z_cn G D 3))) 6 (z_sum (z_sw D) (z_bc G))) 7 (z_oi (z_fb G D 0 (z_tc G)))) 8 (z_oi (z_fb G D 1 (z_tc G)))) 9 (z_oi (z_fb G D 2 (z_tc G))))))]) H := hP
  have hD : va_D _ (z_mW cI mo 0 G D (z_nw D) ++ [(q1, .inl (cI, 12, .inl (upd (upd (upd (upd (upd (upd (upd (upd (upd (upd (fun _ => 0) 0 (z_dy D)) 1 (nI (z_bc G))) 2 (nI (z_tc G))) 3 (nI (z_cn G D 1))) 4 (nI (z_cn G D 2))) 5 (nI (z_cn G D 3))) 6 (z_sum (z_sw D) (z_bc G))) 7 (z_oi (z_fb G D 0 (z_tc G)))) 8 (z_oi (z_fb G D 1 (z_tc G)))) 9 (z_oi (z_fb G D 2 (z_tc G))))))]) := hD
  refine z_iast hx hb hK hP hD hS 8 0 rfl rfl (by omega) (by decide) dX3_digest_98 (fun H locs hP hD hS => ?_)
  have hP : va_P Dg vwCl (z_mW cI mo 0 G D (z_nw D) ++ [(q1, .inl (cI, 12, .inl (upd (upd (upd (upd (upd (upd (upd (upd (upd (upd (upd (fun _ => 0) 0 (z_dy D)) 1 (nI (z_bc G))) 2 (nI (z_tc G))) 3 (nI (z_cn G D 1))) 4 (nI (z_cn G D 2))) 5 (nI (z_cn G D 3))) 6 (z_sum (z_sw D) (z_bc G))) 7 (z_oi (z_fb G D 0 (z_tc G)))) 8 (z_oi (z_fb G D 1 (z_tc G)))) 9 (z_oi (z_fb G D 2 (z_tc G)))) 10 (nI (z_bo G D)))))]) H := hP
  have hD : va_D _ (z_mW cI mo 0 G D (z_nw D) ++ [(q1, .inl (cI, 12, .inl (upd (upd (upd (upd (upd (upd (upd (upd (upd (upd (upd (fun _ => 0) 0 (z_dy D)) 1 (nI (z_bc G))) 2 (nI (z_tc G))) 3 (nI (z_cn G D 1))) 4 (nI (z_cn G D 2))) 5 (nI (z_cn G D 3))) 6 (z_sum (z_sw D) (z_bc G))) 7 (z_oi (z_fb G D 0 (z_tc G)))) 8 (z_oi (z_fb G D 1 (z_tc G)))) 9 (z_oi (z_fb G D 2 (z_tc G)))) 10 (nI (z_bo G D)))))]) := hD
  refine lv_dup hx hb dX3_digest_99 rfl ?_
  refine lv_bipush (v := nI 11) hx hb dX3_digest_100 (by decide) ?_
  refine lv_aload_n hx hb dX3_digest_102 rfl (lv_at hl 0 rfl) ?_
  refine z_wBi (v := z_wt G D) [.int (nI 11), .ref q1, .ref q1] [] ([(q1, .inl (cI, 12, .inl (upd (upd (upd (upd (upd (upd (upd (upd (upd (upd (upd (fun _ => 0) 0 (z_dy D)) 1 (nI (z_bc G))) 2 (nI (z_tc G))) 3 (nI (z_cn G D 1))) 4 (nI (z_cn G D 2))) 5 (nI (z_cn G D 3))) 6 (z_sum (z_sw D) (z_bc G))) 7 (z_oi (z_fb G D 0 (z_tc G)))) 8 (z_oi (z_fb G D 1 (z_tc G)))) 9 (z_oi (z_fb G D 2 (z_tc G)))) 10 (nI (z_bo G D)))))]) 0 hx hb hml hown hts (m_X3_wanted l Dg cI mo 0 G D (z_nw D) hG hW) gX3_digest_X3_wanted rfl kd_X3_wanted ⟨Nat.le_of_ble_eq_true rfl, Nat.le_of_ble_eq_true rfl⟩ hK hN hP hD hS rfl rfl rfl rfl rfl hl.1 rfl (Nat.le_of_ble_eq_true rfl) dX3_digest_103 ⟨Nat.le_of_ble_eq_true rfl, Nat.le_of_ble_eq_true rfl⟩ (fun H locs hP hD hS => ?_)
  have hP : va_P Dg vwCl (z_mW cI mo 0 G D (z_nw D) ++ [(q1, .inl (cI, 12, .inl (upd (upd (upd (upd (upd (upd (upd (upd (upd (upd (upd (fun _ => 0) 0 (z_dy D)) 1 (nI (z_bc G))) 2 (nI (z_tc G))) 3 (nI (z_cn G D 1))) 4 (nI (z_cn G D 2))) 5 (nI (z_cn G D 3))) 6 (z_sum (z_sw D) (z_bc G))) 7 (z_oi (z_fb G D 0 (z_tc G)))) 8 (z_oi (z_fb G D 1 (z_tc G)))) 9 (z_oi (z_fb G D 2 (z_tc G)))) 10 (nI (z_bo G D)))))]) H := hP
  have hD : va_D _ (z_mW cI mo 0 G D (z_nw D) ++ [(q1, .inl (cI, 12, .inl (upd (upd (upd (upd (upd (upd (upd (upd (upd (upd (upd (fun _ => 0) 0 (z_dy D)) 1 (nI (z_bc G))) 2 (nI (z_tc G))) 3 (nI (z_cn G D 1))) 4 (nI (z_cn G D 2))) 5 (nI (z_cn G D 3))) 6 (z_sum (z_sw D) (z_bc G))) 7 (z_oi (z_fb G D 0 (z_tc G)))) 8 (z_oi (z_fb G D 1 (z_tc G)))) 9 (z_oi (z_fb G D 2 (z_tc G)))) 10 (nI (z_bo G D)))))]) := hD
  refine z_iast hx hb hK hP hD hS 8 0 rfl rfl (by omega) (by decide) dX3_digest_106 (fun H locs hP hD hS => ?_)
  have hP : va_P Dg vwCl (z_mW cI mo 0 G D (z_nw D) ++ [(q1, .inl (cI, 12, .inl (upd (upd (upd (upd (upd (upd (upd (upd (upd (upd (upd (upd (fun _ => 0) 0 (z_dy D)) 1 (nI (z_bc G))) 2 (nI (z_tc G))) 3 (nI (z_cn G D 1))) 4 (nI (z_cn G D 2))) 5 (nI (z_cn G D 3))) 6 (z_sum (z_sw D) (z_bc G))) 7 (z_oi (z_fb G D 0 (z_tc G)))) 8 (z_oi (z_fb G D 1 (z_tc G)))) 9 (z_oi (z_fb G D 2 (z_tc G)))) 10 (nI (z_bo G D))) 11 (z_wt G D))))]) H := hP
  have hD : va_D _ (z_mW cI mo 0 G D (z_nw D) ++ [(q1, .inl (cI, 12, .inl (upd (upd (upd (upd (upd (upd (upd (upd (upd (upd (upd (upd (fun _ => 0) 0 (z_dy D)) 1 (nI (z_bc G))) 2 (nI (z_tc G))) 3 (nI (z_cn G D 1))) 4 (nI (z_cn G D 2))) 5 (nI (z_cn G D 3))) 6 (z_sum (z_sw D) (z_bc G))) 7 (z_oi (z_fb G D 0 (z_tc G)))) 8 (z_oi (z_fb G D 1 (z_tc G)))) 9 (z_oi (z_fb G D 2 (z_tc G)))) 10 (nI (z_bo G D))) 11 (z_wt G D))))]) := hD
  have hP : va_P Dg vwCl (z_mW cI mo 0 G D (z_nw D) ++ [(q1, .inl (cI, 12, .inl (z_told G D)))]) H := hP
  have hD : va_D _ (z_mW cI mo 0 G D (z_nw D) ++ [(q1, .inl (cI, 12, .inl (z_told G D)))]) := hD
  refine lv_astore_n (lv' := [(1, .ref q1), (0, .ref (mo 0))]) hx hb dX3_digest_107 rfl hl (by decide) rfl (fun ls hl => ?_)
  refine lv_ldc2 (v := 2351) hx hb hown (hts _ (List.mem_cons_of_mem _ (List.mem_append_left _ (List.mem_append_left _ (List.mem_of_getElem? (i := 5) rfl))))) dX3_digest_108 ?_
  refine lv_lstore_n (lv' := [(2, .long 2351), (1, .ref q1), (0, .ref (mo 0))]) hx hb dX3_digest_111 rfl hl (by decide) rfl (fun ls hl => ?_)
  refine lv_aload_n hx hb dX3_digest_112 rfl (lv_at hl 1 rfl) ?_
  refine lv_astore (lv' := [(4, .ref q1), (2, .long 2351), (1, .ref q1), (0, .ref (mo 0))]) hx hb dX3_digest_113 hl (by decide) rfl (fun ls hl => ?_)
  refine lv_aload hx hb dX3_digest_115 (lv_at hl 0 rfl) ?_
  refine va_alen (v := nI 12) hx hb hK hP 8 0 rfl rfl rfl dX3_digest_117 ?_
  refine lv_istore (lv' := [(5, .int (nI 12)), (4, .ref q1), (2, .long 2351), (1, .ref q1), (0, .ref (mo 0))]) hx hb dX3_digest_118 hl (by decide) rfl (fun ls hl => ?_)
  refine lv_iconst (v := nI 0) hx hb dX3_digest_120 (by decide) ?_
  refine lv_istore (lv' := [(6, .int (nI 0)), (5, .int (nI 12)), (4, .ref q1), (2, .long 2351), (1, .ref q1), (0, .ref (mo 0))]) hx hb dX3_digest_121 hl (by decide) rfl (fun ls hl => ?_)
  have hl : lv_has ls 8 [(6, .int (nI 0)), (5, .int (nI 12)), (4, .ref q1), (2, .long (z_fo (z_told G D) 0)), (1, .ref q1), (0, .ref (mo 0))] := by have q : 2351 = z_fo (z_told G D) 0 := rfl; rw [← q]; exact hl
  have lp123 : ∀ (zz i : Nat) , i ≤ 12 → 12 + 1 ≤ i + zz → ∀ (H : Heap) (locs : List Loc), va_P Dg vwCl (z_mW cI mo 0 G D (z_nw D) ++ [(q1, .inl (cI, 12, .inl (z_told G D)))]) H → va_D (va_A (z_mW cI mo th G D K) sz) (z_mW cI mo 0 G D (z_nw D) ++ [(q1, .inl (cI, 12, .inl (z_told G D)))]) → va_S (va_A (z_mW cI mo th G D K) sz) s.heap H locs → ∀ ls : Array Slot, lv_has ls 8 [(0, .ref (mo 0)), (2, .long (z_fo (z_told G D) i)), (4, .ref q1), (5, .int (nI 12)), (6, .int (nI i))] → W p l e ({ frames := 6, cells := 1, slots := 12, locals := 139 } : Room) s m ([.ref (mo 0)] : List Value).toArray below meth c H locs (0 + 1) (0 + 12) (MQ below (z_Qd (fun o w9 => o = some (.long (z_dg G D)) ∧ w9 = z_mW cI mo 0 G D (z_nw D)) Dg (z_mW cI mo th G D K) sz) ([.ref (mo 0)] : List Value).toArray s 1 12 (va_A (z_mW cI mo th G D K) sz)) (F0 m 123 ls []) := by
    intro zz
    induction zz with
    | zero => intros; exfalso; omega
    | succ zz ih123 =>
      intro i hi hzz H locs hP hD hS ls hl
      refine lv_iload hx hb dX3_digest_123 (lv_at hl 4 rfl) ?_
      refine lv_iload hx hb dX3_digest_125 (lv_at hl 3 rfl) ?_
      refine lv_icmp_ge (tgt := 153) hx hb dX3_digest_127 (by decide) (fun c127 => ?_) (fun c127 => ?_)
      · skip
        have hi2 : i = 12 := by have := z_le (by omega) (by omega) c127; omega
        refine lv_iconst (v := nI 0) hx hb dX3_digest_153 (by decide) ?_
        refine lv_istore (lv' := [(4, .int (nI 0)), (0, .ref (mo 0)), (2, .long (z_fo (z_told G D) i)), (5, .int (nI 12)), (6, .int (nI i))]) hx hb dX3_digest_154 hl (by decide) rfl (fun ls hl => ?_)
        have hl : lv_has ls 8 [(4, .int (nI 0)), (0, .ref (mo 0)), (2, .long (z_dgs G D (z_dg12 G D) 0)), (5, .int (nI 12)), (6, .int (nI i))] := by have q : z_fo (z_told G D) i = z_dgs G D (z_dg12 G D) 0 := (by rw [hi2]; exact (z_fo12 G D).symm); rw [← q]; exact hl
        have lp156 : ∀ (zz i : Nat) , i ≤ 4 → 4 + 1 ≤ i + zz → ∀ (H : Heap) (locs : List Loc), va_P Dg vwCl (z_mW cI mo 0 G D (z_nw D) ++ [(q1, .inl (cI, 12, .inl (z_told G D)))]) H → va_D (va_A (z_mW cI mo th G D K) sz) (z_mW cI mo 0 G D (z_nw D) ++ [(q1, .inl (cI, 12, .inl (z_told G D)))]) → va_S (va_A (z_mW cI mo th G D K) sz) s.heap H locs → ∀ ls : Array Slot, lv_has ls 8 [(0, .ref (mo 0)), (2, .long (z_dgs G D (z_dg12 G D) i)), (4, .int (nI i))] → W p l e ({ frames := 6, cells := 1, slots := 12, locals := 139 } : Room) s m ([.ref (mo 0)] : List Value).toArray below meth c H locs (0 + 1) (0 + 12) (MQ below (z_Qd (fun o w9 => o = some (.long (z_dg G D)) ∧ w9 = z_mW cI mo 0 G D (z_nw D)) Dg (z_mW cI mo th G D K) sz) ([.ref (mo 0)] : List Value).toArray s 1 12 (va_A (z_mW cI mo th G D K) sz)) (F0 m 156 ls []) := by
          intro zz
          induction zz with
          | zero => intros; exfalso; omega
          | succ zz ih156 =>
            intro i hi hzz H locs hP hD hS ls hl
            refine lv_iload hx hb dX3_digest_156 (lv_at hl 2 rfl) ?_
            refine lv_iconst (v := nI 4) hx hb dX3_digest_158 (by decide) ?_
            refine lv_icmp_ge (tgt := 195) hx hb dX3_digest_159 (by decide) (fun c159 => ?_) (fun c159 => ?_)
            · skip
              have hi2 : i = 4 := by have := z_le (by omega) (by omega) c159; omega
              refine lv_iconst (v := nI 0) hx hb dX3_digest_195 (by decide) ?_
              refine lv_istore (lv' := [(4, .int (nI 0)), (0, .ref (mo 0)), (2, .long (z_dgs G D (z_dg12 G D) i))]) hx hb dX3_digest_196 hl (by decide) rfl (fun ls hl => ?_)
              have hl : lv_has ls 8 [(4, .int (nI 0)), (0, .ref (mo 0)), (2, .long (z_dgb G D (z_dgs G D (z_dg12 G D) 4) 0))] := by have q : z_dgs G D (z_dg12 G D) i = z_dgb G D (z_dgs G D (z_dg12 G D) 4) 0 := (by rw [hi2]; rfl); rw [← q]; exact hl
              have lp198 : ∀ (zz i : Nat) , i ≤ z_bc G → z_bc G + 1 ≤ i + zz → ∀ (H : Heap) (locs : List Loc), va_P Dg vwCl (z_mW cI mo 0 G D (z_nw D) ++ [(q1, .inl (cI, 12, .inl (z_told G D)))]) H → va_D (va_A (z_mW cI mo th G D K) sz) (z_mW cI mo 0 G D (z_nw D) ++ [(q1, .inl (cI, 12, .inl (z_told G D)))]) → va_S (va_A (z_mW cI mo th G D K) sz) s.heap H locs → ∀ ls : Array Slot, lv_has ls 8 [(0, .ref (mo 0)), (2, .long (z_dgb G D (z_dgs G D (z_dg12 G D) 4) i)), (4, .int (nI i))] → W p l e ({ frames := 6, cells := 1, slots := 12, locals := 139 } : Room) s m ([.ref (mo 0)] : List Value).toArray below meth c H locs (0 + 1) (0 + 12) (MQ below (z_Qd (fun o w9 => o = some (.long (z_dg G D)) ∧ w9 = z_mW cI mo 0 G D (z_nw D)) Dg (z_mW cI mo th G D K) sz) ([.ref (mo 0)] : List Value).toArray s 1 12 (va_A (z_mW cI mo th G D K) sz)) (F0 m 198 ls []) := by
                intro zz
                induction zz with
                | zero => intros; exfalso; omega
                | succ zz ih198 =>
                  intro i hi hzz H locs hP hD hS ls hl
                  refine lv_iload hx hb dX3_digest_198 (lv_at hl 2 rfl) ?_
                  refine lv_aload_n hx hb dX3_digest_200 rfl (lv_at hl 0 rfl) ?_
                  refine va_get (ci := 3) (v := .int (nI (z_bc G))) (C := RX3) (T := TX3) (N := 12) hx hb hts (fun _ h => (List.mem_cons_of_mem _ (List.mem_append_right _ h))) hown hK hP 0 rfl rfl 1 (by decide) (hts _ (List.mem_cons_of_mem _ (List.mem_append_left _ (List.mem_append_left _ (List.mem_of_getElem? (i := 3) rfl))))) (fun _ h9 => h9) rfl dX3_digest_201 ?_
                  refine lv_icmp_ge (tgt := 270) hx hb dX3_digest_204 (by decide) (fun c204 => ?_) (fun c204 => ?_)
                  · skip
                    have hi2 : i = z_bc G := Nat.le_antisymm hi (z_le (by omega) (by omega) c204)
                    refine lv_iconst (v := nI 0) hx hb dX3_digest_270 (by decide) ?_
                    refine lv_istore (lv' := [(4, .int (nI 0)), (0, .ref (mo 0)), (2, .long (z_dgb G D (z_dgs G D (z_dg12 G D) 4) i))]) hx hb dX3_digest_271 hl (by decide) rfl (fun ls hl => ?_)
                    have hl : lv_has ls 8 [(4, .int (nI 0)), (0, .ref (mo 0)), (2, .long (z_dgt G D (z_dgb G D (z_dgs G D (z_dg12 G D) 4) (z_bc G)) 0))] := by have q : z_dgb G D (z_dgs G D (z_dg12 G D) 4) i = z_dgt G D (z_dgb G D (z_dgs G D (z_dg12 G D) 4) (z_bc G)) 0 := (by rw [hi2]; rfl); rw [← q]; exact hl
                    have lp273 : ∀ (zz i : Nat) , i ≤ z_tc G → z_tc G + 1 ≤ i + zz → ∀ (H : Heap) (locs : List Loc), va_P Dg vwCl (z_mW cI mo 0 G D (z_nw D) ++ [(q1, .inl (cI, 12, .inl (z_told G D)))]) H → va_D (va_A (z_mW cI mo th G D K) sz) (z_mW cI mo 0 G D (z_nw D) ++ [(q1, .inl (cI, 12, .inl (z_told G D)))]) → va_S (va_A (z_mW cI mo th G D K) sz) s.heap H locs → ∀ ls : Array Slot, lv_has ls 8 [(0, .ref (mo 0)), (2, .long (z_dgt G D (z_dgb G D (z_dgs G D (z_dg12 G D) 4) (z_bc G)) i)), (4, .int (nI i))] → W p l e ({ frames := 6, cells := 1, slots := 12, locals := 139 } : Room) s m ([.ref (mo 0)] : List Value).toArray below meth c H locs (0 + 1) (0 + 12) (MQ below (z_Qd (fun o w9 => o = some (.long (z_dg G D)) ∧ w9 = z_mW cI mo 0 G D (z_nw D)) Dg (z_mW cI mo th G D K) sz) ([.ref (mo 0)] : List Value).toArray s 1 12 (va_A (z_mW cI mo th G D K) sz)) (F0 m 273 ls []) := by
                      intro zz
                      induction zz with
                      | zero => intros; exfalso; omega
                      | succ zz ih273 =>
                        intro i hi hzz H locs hP hD hS ls hl
                        refine lv_iload hx hb dX3_digest_273 (lv_at hl 2 rfl) ?_
                        refine lv_aload_n hx hb dX3_digest_275 rfl (lv_at hl 0 rfl) ?_
                        refine va_get (ci := 3) (v := .int (nI (z_tc G))) (C := RX3) (T := TX3) (N := 12) hx hb hts (fun _ h => (List.mem_cons_of_mem _ (List.mem_append_right _ h))) hown hK hP 0 rfl rfl 2 (by decide) (hts _ (List.mem_cons_of_mem _ (List.mem_append_left _ (List.mem_append_left _ (List.mem_of_getElem? (i := 4) rfl))))) (fun _ h9 => h9) rfl dX3_digest_276 ?_
                        refine lv_icmp_ge (tgt := 402) hx hb dX3_digest_279 (by decide) (fun c279 => ?_) (fun c279 => ?_)
                        · skip
                          have hi2 : i = z_tc G := Nat.le_antisymm hi (z_le (by omega) (by omega) c279)
                          refine lv_lload_n hx hb dX3_digest_402 rfl (lv_at hl 1 rfl) ?_
                          refine z_topl (x' := z_dg G D) (by rw [hi2]; rfl) ?_
                          exact z_ed_l (w' := z_mW cI mo 0 G D (z_nw D)) ⟨rfl, rfl⟩ (z_Pl hP) (z_Dl hD) hS ⟨Nat.le_of_ble_eq_true rfl, Nat.le_of_ble_eq_true rfl⟩ hx hb hr hlk dX3_digest_403
                        · skip
                          have hi2 : i < z_tc G := z_nle (by omega) c279
                          have hpl := hW i hi2
                          have hbt := hG.2.2.1 i
                          have hsh := hG.2.2.2.1 i
                          refine lv_lload_n hx hb dX3_digest_282 rfl (lv_at hl 1 rfl) ?_
                          refine lv_ldc2 (v := 31) hx hb hown (hts _ (List.mem_cons_of_mem _ (List.mem_append_left _ (List.mem_append_left _ (List.mem_of_getElem? (i := 6) rfl))))) dX3_digest_283 ?_
                          refine lv_lmul hx hb dX3_digest_286 ?_
                          refine lv_aload_n hx hb dX3_digest_287 rfl (lv_at hl 0 rfl) ?_
                          refine lv_iload hx hb dX3_digest_288 (lv_at hl 2 rfl) ?_
                          refine z_rVi (v := z_shf G D i) [.long ((z_dgt G D (z_dgb G D (z_dgs G D (z_dg12 G D) 4) (z_bc G)) i) * 31)] hx hb hml hown hts (m_X3_place l Dg cI mo 0 G D (z_nw D) i (by omega) hG hW) gX3_digest_X3_place rfl kd_X3_place ⟨Nat.le_of_ble_eq_true rfl, Nat.le_of_ble_eq_true rfl⟩ hK hN (z_Pm (a := []) (c := ([(q1, .inl (cI, 12, .inl (z_told G D)))])) hP) rfl rfl rfl rfl hl.1 rfl (Nat.le_of_ble_eq_true rfl) dX3_digest_290 ⟨Nat.le_of_ble_eq_true rfl, Nat.le_of_ble_eq_true rfl⟩ ?_
                          refine lv_i2l (v := Int32.toInt64 (z_shf G D i)) hx hb dX3_digest_293 rfl ?_
                          refine lv_ladd hx hb dX3_digest_294 ?_
                          refine lv_ldc2 (v := 31) hx hb hown (hts _ (List.mem_cons_of_mem _ (List.mem_append_left _ (List.mem_append_left _ (List.mem_of_getElem? (i := 6) rfl))))) dX3_digest_295 ?_
                          refine lv_lmul hx hb dX3_digest_298 ?_
                          refine lv_aload_n hx hb dX3_digest_299 rfl (lv_at hl 0 rfl) ?_
                          refine va_get (ci := 3) (v := .ref (mo 6)) (C := RX3) (T := TX3) (N := 12) hx hb hts (fun _ h => (List.mem_cons_of_mem _ (List.mem_append_right _ h))) hown hK hP 0 rfl rfl 10 (by decide) (hts _ (List.mem_cons_of_mem _ (List.mem_append_left _ (List.mem_append_left _ (List.mem_of_getElem? (i := 2) rfl))))) (fun _ h9 => h9) rfl dX3_digest_300 ?_
                          refine lv_bipush (v := nI 73) hx hb dX3_digest_303 (by decide) ?_
                          refine lv_iload hx hb dX3_digest_305 (lv_at hl 2 rfl) ?_
                          refine lv_iadd hx hb dX3_digest_307 ?_
                          refine z_top (x' := nI (73 + i)) (nI_add _ _) ?_
                          refine z_iald hx hb hK hP 6 0 rfl rfl (by omega) (by decide) dX3_digest_308 ?_
                          refine z_top (x' := z_vc D i) (z_nw_vc _ _) ?_
                          refine lv_i2l (v := Int32.toInt64 (z_vc D i)) hx hb dX3_digest_309 rfl ?_
                          refine lv_ladd hx hb dX3_digest_310 ?_
                          refine lv_ldc2 (v := 31) hx hb hown (hts _ (List.mem_cons_of_mem _ (List.mem_append_left _ (List.mem_append_left _ (List.mem_of_getElem? (i := 6) rfl))))) dX3_digest_311 ?_
                          refine lv_lmul hx hb dX3_digest_314 ?_
                          refine lv_aload_n hx hb dX3_digest_315 rfl (lv_at hl 0 rfl) ?_
                          refine va_get (ci := 3) (v := .ref (mo 6)) (C := RX3) (T := TX3) (N := 12) hx hb hts (fun _ h => (List.mem_cons_of_mem _ (List.mem_append_right _ h))) hown hK hP 0 rfl rfl 10 (by decide) (hts _ (List.mem_cons_of_mem _ (List.mem_append_left _ (List.mem_append_left _ (List.mem_of_getElem? (i := 2) rfl))))) (fun _ h9 => h9) rfl dX3_digest_316 ?_
                          refine lv_bipush (v := nI 13) hx hb dX3_digest_319 (by decide) ?_
                          refine lv_iload hx hb dX3_digest_321 (lv_at hl 2 rfl) ?_
                          refine lv_iadd hx hb dX3_digest_323 ?_
                          refine z_top (x' := nI (13 + i)) (nI_add _ _) ?_
                          refine z_iald hx hb hK hP 6 0 rfl rfl (by omega) (by decide) dX3_digest_324 ?_
                          refine z_top (x' := nI (z_pl D i - 1)) (z_nw_st _ (by omega)) ?_
                          refine lv_iconst (v := nI 1) hx hb dX3_digest_325 (by decide) ?_
                          refine lv_icmp_ne (tgt := 333) hx hb dX3_digest_326 (by decide) (fun c326 => ?_) (fun c326 => ?_)
                          · skip
                            refine lv_iconst (v := 0) hx hb dX3_digest_333 (by decide) ?_
                            refine z_top (x' := z_bI (z_pl D i == 2)) (z_b0 (z_bne (fun q => z_ne (by omega) (by omega) c326 (by omega)))) ?_
                            refine lv_i2l (v := Int32.toInt64 (z_bI (z_pl D i == 2))) hx hb dX3_digest_334 rfl ?_
                            refine lv_ladd hx hb dX3_digest_335 ?_
                            refine lv_lstore_n (lv' := [(2, .long (((((((z_dgt G D (z_dgb G D (z_dgs G D (z_dg12 G D) 4) (z_bc G)) i) * 31) + (Int32.toInt64 (z_shf G D i))) * 31) + (Int32.toInt64 (z_vc D i))) * 31) + (Int32.toInt64 (z_bI (z_pl D i == 2))))), (0, .ref (mo 0)), (4, .int (nI i))]) hx hb dX3_digest_336 rfl hl (by decide) rfl (fun ls hl => ?_)
                            refine lv_lload_n hx hb dX3_digest_337 rfl (lv_at hl 0 rfl) ?_
                            refine lv_ldc2 (v := 31) hx hb hown (hts _ (List.mem_cons_of_mem _ (List.mem_append_left _ (List.mem_append_left _ (List.mem_of_getElem? (i := 6) rfl))))) dX3_digest_338 ?_
                            refine lv_lmul hx hb dX3_digest_341 ?_
                            refine lv_aload_n hx hb dX3_digest_342 rfl (lv_at hl 1 rfl) ?_
                            refine lv_iload hx hb dX3_digest_343 (lv_at hl 2 rfl) ?_
                            refine lv_iconst (v := nI 1) hx hb dX3_digest_345 (by decide) ?_
                            refine z_rVi (v := z_plb G D 1 i) [.long ((((((((z_dgt G D (z_dgb G D (z_dgs G D (z_dg12 G D) 4) (z_bc G)) i) * 31) + (Int32.toInt64 (z_shf G D i))) * 31) + (Int32.toInt64 (z_vc D i))) * 31) + (Int32.toInt64 (z_bI (z_pl D i == 2)))) * 31)] hx hb hml hown hts (m_X3_ahead l Dg cI mo 0 G D (z_nw D) i 1 (by omega) (by omega) hG hW) gX3_digest_X3_ahead rfl kd_X3_ahead ⟨Nat.le_of_ble_eq_true rfl, Nat.le_of_ble_eq_true rfl⟩ hK hN (z_Pm (a := []) (c := ([(q1, .inl (cI, 12, .inl (z_told G D)))])) hP) rfl rfl rfl rfl hl.1 rfl (Nat.le_of_ble_eq_true rfl) dX3_digest_346 ⟨Nat.le_of_ble_eq_true rfl, Nat.le_of_ble_eq_true rfl⟩ ?_
                            refine lv_i2l (v := Int32.toInt64 (z_plb G D 1 i)) hx hb dX3_digest_349 rfl ?_
                            refine lv_ladd hx hb dX3_digest_350 ?_
                            refine lv_ldc2 (v := 31) hx hb hown (hts _ (List.mem_cons_of_mem _ (List.mem_append_left _ (List.mem_append_left _ (List.mem_of_getElem? (i := 6) rfl))))) dX3_digest_351 ?_
                            refine lv_lmul hx hb dX3_digest_354 ?_
                            refine lv_aload_n hx hb dX3_digest_355 rfl (lv_at hl 1 rfl) ?_
                            refine lv_iload hx hb dX3_digest_356 (lv_at hl 2 rfl) ?_
                            refine z_rVi (v := z_bI (z_pl D i == 1)) [.long ((((((((((z_dgt G D (z_dgb G D (z_dgs G D (z_dg12 G D) 4) (z_bc G)) i) * 31) + (Int32.toInt64 (z_shf G D i))) * 31) + (Int32.toInt64 (z_vc D i))) * 31) + (Int32.toInt64 (z_bI (z_pl D i == 2)))) * 31) + (Int32.toInt64 (z_plb G D 1 i))) * 31)] hx hb hml hown hts (m_X3_isHere l Dg cI mo 0 G D (z_nw D) i (by omega) hG hW) gX3_digest_X3_isHere rfl kd_X3_isHere ⟨Nat.le_of_ble_eq_true rfl, Nat.le_of_ble_eq_true rfl⟩ hK hN (z_Pm (a := []) (c := ([(q1, .inl (cI, 12, .inl (z_told G D)))])) hP) rfl rfl rfl rfl hl.1 rfl (Nat.le_of_ble_eq_true rfl) dX3_digest_358 ⟨Nat.le_of_ble_eq_true rfl, Nat.le_of_ble_eq_true rfl⟩ ?_
                            refine lv_if_eq (tgt := 380) hx hb dX3_digest_361 (by decide) (fun c361 => ?_) (fun c361 => ?_)
                            · skip
                              refine lv_iconst (v := (-1)) hx hb dX3_digest_380 (by decide) ?_
                              refine z_top (x' := z_dof G D i) (by rw [z_dof, if_neg (z_bne' (z_bI0 c361))]) ?_
                              refine lv_i2l (v := Int32.toInt64 (z_dof G D i)) hx hb dX3_digest_381 rfl ?_
                              refine lv_ladd hx hb dX3_digest_382 ?_
                              refine lv_ldc2 (v := 31) hx hb hown (hts _ (List.mem_cons_of_mem _ (List.mem_append_left _ (List.mem_append_left _ (List.mem_of_getElem? (i := 6) rfl))))) dX3_digest_383 ?_
                              refine lv_lmul hx hb dX3_digest_386 ?_
                              refine lv_aload_n hx hb dX3_digest_387 rfl (lv_at hl 1 rfl) ?_
                              refine lv_iload hx hb dX3_digest_388 (lv_at hl 2 rfl) ?_
                              refine z_rVi (v := z_bsh G D i) [.long ((((((((((((z_dgt G D (z_dgb G D (z_dgs G D (z_dg12 G D) 4) (z_bc G)) i) * 31) + (Int32.toInt64 (z_shf G D i))) * 31) + (Int32.toInt64 (z_vc D i))) * 31) + (Int32.toInt64 (z_bI (z_pl D i == 2)))) * 31) + (Int32.toInt64 (z_plb G D 1 i))) * 31) + (Int32.toInt64 (z_dof G D i))) * 31)] hx hb hml hown hts (m_X3_shelfFor l Dg cI mo 0 G D (z_nw D) i (by omega) hG hW) gX3_digest_X3_shelfFor rfl kd_X3_shelfFor ⟨Nat.le_of_ble_eq_true rfl, Nat.le_of_ble_eq_true rfl⟩ hK hN (z_Pm (a := []) (c := ([(q1, .inl (cI, 12, .inl (z_told G D)))])) hP) rfl rfl rfl rfl hl.1 rfl (Nat.le_of_ble_eq_true rfl) dX3_digest_390 ⟨Nat.le_of_ble_eq_true rfl, Nat.le_of_ble_eq_true rfl⟩ ?_
                              refine lv_i2l (v := Int32.toInt64 (z_bsh G D i)) hx hb dX3_digest_393 rfl ?_
                              refine lv_ladd hx hb dX3_digest_394 ?_
                              refine lv_lstore_n (lv' := [(2, .long (((((((((((((z_dgt G D (z_dgb G D (z_dgs G D (z_dg12 G D) 4) (z_bc G)) i) * 31) + (Int32.toInt64 (z_shf G D i))) * 31) + (Int32.toInt64 (z_vc D i))) * 31) + (Int32.toInt64 (z_bI (z_pl D i == 2)))) * 31) + (Int32.toInt64 (z_plb G D 1 i))) * 31) + (Int32.toInt64 (z_dof G D i))) * 31) + (Int32.toInt64 (z_bsh G D i)))), (0, .ref (mo 0)), (4, .int (nI i))]) hx hb dX3_digest_395 rfl hl (by decide) rfl (fun ls hl => ?_)
                              have hl : lv_has ls 8 [(2, .long (z_dgt G D (z_dgb G D (z_dgs G D (z_dg12 G D) 4) (z_bc G)) (i + 1))), (0, .ref (mo 0)), (4, .int (nI i))] := by have q : ((((((((((((z_dgt G D (z_dgb G D (z_dgs G D (z_dg12 G D) 4) (z_bc G)) i) * 31) + (Int32.toInt64 (z_shf G D i))) * 31) + (Int32.toInt64 (z_vc D i))) * 31) + (Int32.toInt64 (z_bI (z_pl D i == 2)))) * 31) + (Int32.toInt64 (z_plb G D 1 i))) * 31) + (Int32.toInt64 (z_dof G D i))) * 31) + (Int32.toInt64 (z_bsh G D i)) = z_dgt G D (z_dgb G D (z_dgs G D (z_dg12 G D) 4) (z_bc G)) (i + 1) := rfl; rw [← q]; exact hl
                              refine lv_iinc (v := nI (i + 1)) (lv' := [(4, .int (nI (i + 1))), (2, .long (z_dgt G D (z_dgb G D (z_dgs G D (z_dg12 G D) 4) (z_bc G)) (i + 1))), (0, .ref (mo 0))]) hx hb dX3_digest_396 hl (k := 2) rfl (nI_1 _) (by decide) rfl (fun ls hl => ?_)
                              refine lv_goto (tgt := 273) hx hb dX3_digest_399 (by decide) ?_
                              exact ih273 (i + 1) (by omega) (by omega) _ _ hP hD hS _ (lv_sub hl [2, 1, 0] rfl)
                            · skip
                              refine lv_aload_n hx hb dX3_digest_364 rfl (lv_at hl 1 rfl) ?_
                              refine lv_iload hx hb dX3_digest_365 (lv_at hl 2 rfl) ?_
                              refine lv_aload_n hx hb dX3_digest_367 rfl (lv_at hl 1 rfl) ?_
                              refine va_get (ci := 3) (v := .ref (mo 5)) (C := RX3) (T := TX3) (N := 12) hx hb hts (fun _ h => (List.mem_cons_of_mem _ (List.mem_append_right _ h))) hown hK hP 0 rfl rfl 9 (by decide) (hts _ (List.mem_cons_of_mem _ (List.mem_append_left _ (List.mem_append_left _ (List.mem_of_getElem? (i := 8) rfl))))) (fun _ h9 => h9) rfl dX3_digest_368 ?_
                              refine lv_iload hx hb dX3_digest_371 (lv_at hl 2 rfl) ?_
                              refine z_iald hx hb hK hP 5 0 rfl rfl (by omega) (by decide) dX3_digest_373 ?_
                              refine z_top (x' := nI (z_sh G i)) rfl ?_
                              refine z_rVi (v := z_un G D i (z_sh G i)) [.long ((((((((((z_dgt G D (z_dgb G D (z_dgs G D (z_dg12 G D) 4) (z_bc G)) i) * 31) + (Int32.toInt64 (z_shf G D i))) * 31) + (Int32.toInt64 (z_vc D i))) * 31) + (Int32.toInt64 (z_bI (z_pl D i == 2)))) * 31) + (Int32.toInt64 (z_plb G D 1 i))) * 31)] hx hb hml hown hts (m_X3_until l Dg cI mo 0 G D (z_nw D) i (z_sh G i) (by omega) (by omega) hG) gX3_digest_X3_until rfl kd_X3_until ⟨Nat.le_of_ble_eq_true rfl, Nat.le_of_ble_eq_true rfl⟩ hK hN (z_Pm (a := []) (c := ([(q1, .inl (cI, 12, .inl (z_told G D)))])) hP) rfl rfl rfl rfl hl.1 rfl (Nat.le_of_ble_eq_true rfl) dX3_digest_374 ⟨Nat.le_of_ble_eq_true rfl, Nat.le_of_ble_eq_true rfl⟩ ?_
                              refine lv_goto (tgt := 381) hx hb dX3_digest_377 (by decide) ?_
                              refine z_top (x' := z_dof G D i) (by rw [z_dof, if_pos (z_beq' (z_bI1 c361))]) ?_
                              refine lv_i2l (v := Int32.toInt64 (z_dof G D i)) hx hb dX3_digest_381 rfl ?_
                              refine lv_ladd hx hb dX3_digest_382 ?_
                              refine lv_ldc2 (v := 31) hx hb hown (hts _ (List.mem_cons_of_mem _ (List.mem_append_left _ (List.mem_append_left _ (List.mem_of_getElem? (i := 6) rfl))))) dX3_digest_383 ?_
                              refine lv_lmul hx hb dX3_digest_386 ?_
                              refine lv_aload_n hx hb dX3_digest_387 rfl (lv_at hl 1 rfl) ?_
                              refine lv_iload hx hb dX3_digest_388 (lv_at hl 2 rfl) ?_
                              refine z_rVi (v := z_bsh G D i) [.long ((((((((((((z_dgt G D (z_dgb G D (z_dgs G D (z_dg12 G D) 4) (z_bc G)) i) * 31) + (Int32.toInt64 (z_shf G D i))) * 31) + (Int32.toInt64 (z_vc D i))) * 31) + (Int32.toInt64 (z_bI (z_pl D i == 2)))) * 31) + (Int32.toInt64 (z_plb G D 1 i))) * 31) + (Int32.toInt64 (z_dof G D i))) * 31)] hx hb hml hown hts (m_X3_shelfFor l Dg cI mo 0 G D (z_nw D) i (by omega) hG hW) gX3_digest_X3_shelfFor rfl kd_X3_shelfFor ⟨Nat.le_of_ble_eq_true rfl, Nat.le_of_ble_eq_true rfl⟩ hK hN (z_Pm (a := []) (c := ([(q1, .inl (cI, 12, .inl (z_told G D)))])) hP) rfl rfl rfl rfl hl.1 rfl (Nat.le_of_ble_eq_true rfl) dX3_digest_390 ⟨Nat.le_of_ble_eq_true rfl, Nat.le_of_ble_eq_true rfl⟩ ?_
                              refine lv_i2l (v := Int32.toInt64 (z_bsh G D i)) hx hb dX3_digest_393 rfl ?_
                              refine lv_ladd hx hb dX3_digest_394 ?_
                              refine lv_lstore_n (lv' := [(2, .long (((((((((((((z_dgt G D (z_dgb G D (z_dgs G D (z_dg12 G D) 4) (z_bc G)) i) * 31) + (Int32.toInt64 (z_shf G D i))) * 31) + (Int32.toInt64 (z_vc D i))) * 31) + (Int32.toInt64 (z_bI (z_pl D i == 2)))) * 31) + (Int32.toInt64 (z_plb G D 1 i))) * 31) + (Int32.toInt64 (z_dof G D i))) * 31) + (Int32.toInt64 (z_bsh G D i)))), (0, .ref (mo 0)), (4, .int (nI i))]) hx hb dX3_digest_395 rfl hl (by decide) rfl (fun ls hl => ?_)
                              have hl : lv_has ls 8 [(2, .long (z_dgt G D (z_dgb G D (z_dgs G D (z_dg12 G D) 4) (z_bc G)) (i + 1))), (0, .ref (mo 0)), (4, .int (nI i))] := by have q : ((((((((((((z_dgt G D (z_dgb G D (z_dgs G D (z_dg12 G D) 4) (z_bc G)) i) * 31) + (Int32.toInt64 (z_shf G D i))) * 31) + (Int32.toInt64 (z_vc D i))) * 31) + (Int32.toInt64 (z_bI (z_pl D i == 2)))) * 31) + (Int32.toInt64 (z_plb G D 1 i))) * 31) + (Int32.toInt64 (z_dof G D i))) * 31) + (Int32.toInt64 (z_bsh G D i)) = z_dgt G D (z_dgb G D (z_dgs G D (z_dg12 G D) 4) (z_bc G)) (i + 1) := rfl; rw [← q]; exact hl
                              refine lv_iinc (v := nI (i + 1)) (lv' := [(4, .int (nI (i + 1))), (2, .long (z_dgt G D (z_dgb G D (z_dgs G D (z_dg12 G D) 4) (z_bc G)) (i + 1))), (0, .ref (mo 0))]) hx hb dX3_digest_396 hl (k := 2) rfl (nI_1 _) (by decide) rfl (fun ls hl => ?_)
                              refine lv_goto (tgt := 273) hx hb dX3_digest_399 (by decide) ?_
                              exact ih273 (i + 1) (by omega) (by omega) _ _ hP hD hS _ (lv_sub hl [2, 1, 0] rfl)
                          · skip
                            refine lv_iconst (v := 1) hx hb dX3_digest_329 (by decide) ?_
                            refine lv_goto (tgt := 334) hx hb dX3_digest_330 (by decide) ?_
                            refine z_top (x' := z_bI (z_pl D i == 2)) (z_b1 (z_beq (by have := z_eq (by omega) (by omega) c326; omega))) ?_
                            refine lv_i2l (v := Int32.toInt64 (z_bI (z_pl D i == 2))) hx hb dX3_digest_334 rfl ?_
                            refine lv_ladd hx hb dX3_digest_335 ?_
                            refine lv_lstore_n (lv' := [(2, .long (((((((z_dgt G D (z_dgb G D (z_dgs G D (z_dg12 G D) 4) (z_bc G)) i) * 31) + (Int32.toInt64 (z_shf G D i))) * 31) + (Int32.toInt64 (z_vc D i))) * 31) + (Int32.toInt64 (z_bI (z_pl D i == 2))))), (0, .ref (mo 0)), (4, .int (nI i))]) hx hb dX3_digest_336 rfl hl (by decide) rfl (fun ls hl => ?_)
                            refine lv_lload_n hx hb dX3_digest_337 rfl (lv_at hl 0 rfl) ?_
                            refine lv_ldc2 (v := 31) hx hb hown (hts _ (List.mem_cons_of_mem _ (List.mem_append_left _ (List.mem_append_left _ (List.mem_of_getElem? (i := 6) rfl))))) dX3_digest_338 ?_
                            refine lv_lmul hx hb dX3_digest_341 ?_
                            refine lv_aload_n hx hb dX3_digest_342 rfl (lv_at hl 1 rfl) ?_
                            refine lv_iload hx hb dX3_digest_343 (lv_at hl 2 rfl) ?_
                            refine lv_iconst (v := nI 1) hx hb dX3_digest_345 (by decide) ?_
                            refine z_rVi (v := z_plb G D 1 i) [.long ((((((((z_dgt G D (z_dgb G D (z_dgs G D (z_dg12 G D) 4) (z_bc G)) i) * 31) + (Int32.toInt64 (z_shf G D i))) * 31) + (Int32.toInt64 (z_vc D i))) * 31) + (Int32.toInt64 (z_bI (z_pl D i == 2)))) * 31)] hx hb hml hown hts (m_X3_ahead l Dg cI mo 0 G D (z_nw D) i 1 (by omega) (by omega) hG hW) gX3_digest_X3_ahead rfl kd_X3_ahead ⟨Nat.le_of_ble_eq_true rfl, Nat.le_of_ble_eq_true rfl⟩ hK hN (z_Pm (a := []) (c := ([(q1, .inl (cI, 12, .inl (z_told G D)))])) hP) rfl rfl rfl rfl hl.1 rfl (Nat.le_of_ble_eq_true rfl) dX3_digest_346 ⟨Nat.le_of_ble_eq_true rfl, Nat.le_of_ble_eq_true rfl⟩ ?_
                            refine lv_i2l (v := Int32.toInt64 (z_plb G D 1 i)) hx hb dX3_digest_349 rfl ?_
                            refine lv_ladd hx hb dX3_digest_350 ?_
                            refine lv_ldc2 (v := 31) hx hb hown (hts _ (List.mem_cons_of_mem _ (List.mem_append_left _ (List.mem_append_left _ (List.mem_of_getElem? (i := 6) rfl))))) dX3_digest_351 ?_
                            refine lv_lmul hx hb dX3_digest_354 ?_
                            refine lv_aload_n hx hb dX3_digest_355 rfl (lv_at hl 1 rfl) ?_
                            refine lv_iload hx hb dX3_digest_356 (lv_at hl 2 rfl) ?_
                            refine z_rVi (v := z_bI (z_pl D i == 1)) [.long ((((((((((z_dgt G D (z_dgb G D (z_dgs G D (z_dg12 G D) 4) (z_bc G)) i) * 31) + (Int32.toInt64 (z_shf G D i))) * 31) + (Int32.toInt64 (z_vc D i))) * 31) + (Int32.toInt64 (z_bI (z_pl D i == 2)))) * 31) + (Int32.toInt64 (z_plb G D 1 i))) * 31)] hx hb hml hown hts (m_X3_isHere l Dg cI mo 0 G D (z_nw D) i (by omega) hG hW) gX3_digest_X3_isHere rfl kd_X3_isHere ⟨Nat.le_of_ble_eq_true rfl, Nat.le_of_ble_eq_true rfl⟩ hK hN (z_Pm (a := []) (c := ([(q1, .inl (cI, 12, .inl (z_told G D)))])) hP) rfl rfl rfl rfl hl.1 rfl (Nat.le_of_ble_eq_true rfl) dX3_digest_358 ⟨Nat.le_of_ble_eq_true rfl, Nat.le_of_ble_eq_true rfl⟩ ?_
                            refine lv_if_eq (tgt := 380) hx hb dX3_digest_361 (by decide) (fun c361 => ?_) (fun c361 => ?_)
                            · skip
                              refine lv_iconst (v := (-1)) hx hb dX3_digest_380 (by decide) ?_
                              refine z_top (x' := z_dof G D i) (by rw [z_dof, if_neg (z_bne' (z_bI0 c361))]) ?_
                              refine lv_i2l (v := Int32.toInt64 (z_dof G D i)) hx hb dX3_digest_381 rfl ?_
                              refine lv_ladd hx hb dX3_digest_382 ?_
                              refine lv_ldc2 (v := 31) hx hb hown (hts _ (List.mem_cons_of_mem _ (List.mem_append_left _ (List.mem_append_left _ (List.mem_of_getElem? (i := 6) rfl))))) dX3_digest_383 ?_
                              refine lv_lmul hx hb dX3_digest_386 ?_
                              refine lv_aload_n hx hb dX3_digest_387 rfl (lv_at hl 1 rfl) ?_
                              refine lv_iload hx hb dX3_digest_388 (lv_at hl 2 rfl) ?_
                              refine z_rVi (v := z_bsh G D i) [.long ((((((((((((z_dgt G D (z_dgb G D (z_dgs G D (z_dg12 G D) 4) (z_bc G)) i) * 31) + (Int32.toInt64 (z_shf G D i))) * 31) + (Int32.toInt64 (z_vc D i))) * 31) + (Int32.toInt64 (z_bI (z_pl D i == 2)))) * 31) + (Int32.toInt64 (z_plb G D 1 i))) * 31) + (Int32.toInt64 (z_dof G D i))) * 31)] hx hb hml hown hts (m_X3_shelfFor l Dg cI mo 0 G D (z_nw D) i (by omega) hG hW) gX3_digest_X3_shelfFor rfl kd_X3_shelfFor ⟨Nat.le_of_ble_eq_true rfl, Nat.le_of_ble_eq_true rfl⟩ hK hN (z_Pm (a := []) (c := ([(q1, .inl (cI, 12, .inl (z_told G D)))])) hP) rfl rfl rfl rfl hl.1 rfl (Nat.le_of_ble_eq_true rfl) dX3_digest_390 ⟨Nat.le_of_ble_eq_true rfl, Nat.le_of_ble_eq_true rfl⟩ ?_
                              refine lv_i2l (v := Int32.toInt64 (z_bsh G D i)) hx hb dX3_digest_393 rfl ?_
                              refine lv_ladd hx hb dX3_digest_394 ?_
                              refine lv_lstore_n (lv' := [(2, .long (((((((((((((z_dgt G D (z_dgb G D (z_dgs G D (z_dg12 G D) 4) (z_bc G)) i) * 31) + (Int32.toInt64 (z_shf G D i))) * 31) + (Int32.toInt64 (z_vc D i))) * 31) + (Int32.toInt64 (z_bI (z_pl D i == 2)))) * 31) + (Int32.toInt64 (z_plb G D 1 i))) * 31) + (Int32.toInt64 (z_dof G D i))) * 31) + (Int32.toInt64 (z_bsh G D i)))), (0, .ref (mo 0)), (4, .int (nI i))]) hx hb dX3_digest_395 rfl hl (by decide) rfl (fun ls hl => ?_)
                              have hl : lv_has ls 8 [(2, .long (z_dgt G D (z_dgb G D (z_dgs G D (z_dg12 G D) 4) (z_bc G)) (i + 1))), (0, .ref (mo 0)), (4, .int (nI i))] := by have q : ((((((((((((z_dgt G D (z_dgb G D (z_dgs G D (z_dg12 G D) 4) (z_bc G)) i) * 31) + (Int32.toInt64 (z_shf G D i))) * 31) + (Int32.toInt64 (z_vc D i))) * 31) + (Int32.toInt64 (z_bI (z_pl D i == 2)))) * 31) + (Int32.toInt64 (z_plb G D 1 i))) * 31) + (Int32.toInt64 (z_dof G D i))) * 31) + (Int32.toInt64 (z_bsh G D i)) = z_dgt G D (z_dgb G D (z_dgs G D (z_dg12 G D) 4) (z_bc G)) (i + 1) := rfl; rw [← q]; exact hl
                              refine lv_iinc (v := nI (i + 1)) (lv' := [(4, .int (nI (i + 1))), (2, .long (z_dgt G D (z_dgb G D (z_dgs G D (z_dg12 G D) 4) (z_bc G)) (i + 1))), (0, .ref (mo 0))]) hx hb dX3_digest_396 hl (k := 2) rfl (nI_1 _) (by decide) rfl (fun ls hl => ?_)
                              refine lv_goto (tgt := 273) hx hb dX3_digest_399 (by decide) ?_
                              exact ih273 (i + 1) (by omega) (by omega) _ _ hP hD hS _ (lv_sub hl [2, 1, 0] rfl)
                            · skip
                              refine lv_aload_n hx hb dX3_digest_364 rfl (lv_at hl 1 rfl) ?_
                              refine lv_iload hx hb dX3_digest_365 (lv_at hl 2 rfl) ?_
                              refine lv_aload_n hx hb dX3_digest_367 rfl (lv_at hl 1 rfl) ?_
                              refine va_get (ci := 3) (v := .ref (mo 5)) (C := RX3) (T := TX3) (N := 12) hx hb hts (fun _ h => (List.mem_cons_of_mem _ (List.mem_append_right _ h))) hown hK hP 0 rfl rfl 9 (by decide) (hts _ (List.mem_cons_of_mem _ (List.mem_append_left _ (List.mem_append_left _ (List.mem_of_getElem? (i := 8) rfl))))) (fun _ h9 => h9) rfl dX3_digest_368 ?_
                              refine lv_iload hx hb dX3_digest_371 (lv_at hl 2 rfl) ?_
                              refine z_iald hx hb hK hP 5 0 rfl rfl (by omega) (by decide) dX3_digest_373 ?_
                              refine z_top (x' := nI (z_sh G i)) rfl ?_
                              refine z_rVi (v := z_un G D i (z_sh G i)) [.long ((((((((((z_dgt G D (z_dgb G D (z_dgs G D (z_dg12 G D) 4) (z_bc G)) i) * 31) + (Int32.toInt64 (z_shf G D i))) * 31) + (Int32.toInt64 (z_vc D i))) * 31) + (Int32.toInt64 (z_bI (z_pl D i == 2)))) * 31) + (Int32.toInt64 (z_plb G D 1 i))) * 31)] hx hb hml hown hts (m_X3_until l Dg cI mo 0 G D (z_nw D) i (z_sh G i) (by omega) (by omega) hG) gX3_digest_X3_until rfl kd_X3_until ⟨Nat.le_of_ble_eq_true rfl, Nat.le_of_ble_eq_true rfl⟩ hK hN (z_Pm (a := []) (c := ([(q1, .inl (cI, 12, .inl (z_told G D)))])) hP) rfl rfl rfl rfl hl.1 rfl (Nat.le_of_ble_eq_true rfl) dX3_digest_374 ⟨Nat.le_of_ble_eq_true rfl, Nat.le_of_ble_eq_true rfl⟩ ?_
                              refine lv_goto (tgt := 381) hx hb dX3_digest_377 (by decide) ?_
                              refine z_top (x' := z_dof G D i) (by rw [z_dof, if_pos (z_beq' (z_bI1 c361))]) ?_
                              refine lv_i2l (v := Int32.toInt64 (z_dof G D i)) hx hb dX3_digest_381 rfl ?_
                              refine lv_ladd hx hb dX3_digest_382 ?_
                              refine lv_ldc2 (v := 31) hx hb hown (hts _ (List.mem_cons_of_mem _ (List.mem_append_left _ (List.mem_append_left _ (List.mem_of_getElem? (i := 6) rfl))))) dX3_digest_383 ?_
                              refine lv_lmul hx hb dX3_digest_386 ?_
                              refine lv_aload_n hx hb dX3_digest_387 rfl (lv_at hl 1 rfl) ?_
                              refine lv_iload hx hb dX3_digest_388 (lv_at hl 2 rfl) ?_
                              refine z_rVi (v := z_bsh G D i) [.long ((((((((((((z_dgt G D (z_dgb G D (z_dgs G D (z_dg12 G D) 4) (z_bc G)) i) * 31) + (Int32.toInt64 (z_shf G D i))) * 31) + (Int32.toInt64 (z_vc D i))) * 31) + (Int32.toInt64 (z_bI (z_pl D i == 2)))) * 31) + (Int32.toInt64 (z_plb G D 1 i))) * 31) + (Int32.toInt64 (z_dof G D i))) * 31)] hx hb hml hown hts (m_X3_shelfFor l Dg cI mo 0 G D (z_nw D) i (by omega) hG hW) gX3_digest_X3_shelfFor rfl kd_X3_shelfFor ⟨Nat.le_of_ble_eq_true rfl, Nat.le_of_ble_eq_true rfl⟩ hK hN (z_Pm (a := []) (c := ([(q1, .inl (cI, 12, .inl (z_told G D)))])) hP) rfl rfl rfl rfl hl.1 rfl (Nat.le_of_ble_eq_true rfl) dX3_digest_390 ⟨Nat.le_of_ble_eq_true rfl, Nat.le_of_ble_eq_true rfl⟩ ?_
                              refine lv_i2l (v := Int32.toInt64 (z_bsh G D i)) hx hb dX3_digest_393 rfl ?_
                              refine lv_ladd hx hb dX3_digest_394 ?_
                              refine lv_lstore_n (lv' := [(2, .long (((((((((((((z_dgt G D (z_dgb G D (z_dgs G D (z_dg12 G D) 4) (z_bc G)) i) * 31) + (Int32.toInt64 (z_shf G D i))) * 31) + (Int32.toInt64 (z_vc D i))) * 31) + (Int32.toInt64 (z_bI (z_pl D i == 2)))) * 31) + (Int32.toInt64 (z_plb G D 1 i))) * 31) + (Int32.toInt64 (z_dof G D i))) * 31) + (Int32.toInt64 (z_bsh G D i)))), (0, .ref (mo 0)), (4, .int (nI i))]) hx hb dX3_digest_395 rfl hl (by decide) rfl (fun ls hl => ?_)
                              have hl : lv_has ls 8 [(2, .long (z_dgt G D (z_dgb G D (z_dgs G D (z_dg12 G D) 4) (z_bc G)) (i + 1))), (0, .ref (mo 0)), (4, .int (nI i))] := by have q : ((((((((((((z_dgt G D (z_dgb G D (z_dgs G D (z_dg12 G D) 4) (z_bc G)) i) * 31) + (Int32.toInt64 (z_shf G D i))) * 31) + (Int32.toInt64 (z_vc D i))) * 31) + (Int32.toInt64 (z_bI (z_pl D i == 2)))) * 31) + (Int32.toInt64 (z_plb G D 1 i))) * 31) + (Int32.toInt64 (z_dof G D i))) * 31) + (Int32.toInt64 (z_bsh G D i)) = z_dgt G D (z_dgb G D (z_dgs G D (z_dg12 G D) 4) (z_bc G)) (i + 1) := rfl; rw [← q]; exact hl
                              refine lv_iinc (v := nI (i + 1)) (lv' := [(4, .int (nI (i + 1))), (2, .long (z_dgt G D (z_dgb G D (z_dgs G D (z_dg12 G D) 4) (z_bc G)) (i + 1))), (0, .ref (mo 0))]) hx hb dX3_digest_396 hl (k := 2) rfl (nI_1 _) (by decide) rfl (fun ls hl => ?_)
                              refine lv_goto (tgt := 273) hx hb dX3_digest_399 (by decide) ?_
                              exact ih273 (i + 1) (by omega) (by omega) _ _ hP hD hS _ (lv_sub hl [2, 1, 0] rfl)
                    exact lp273 (z_tc G + 1) 0 (by omega) (by omega) _ _ hP hD hS _ (lv_sub hl [1, 2, 0] rfl)
                  · skip
                    have hi2 : i < z_bc G := z_nle (by omega) c204
                    refine lv_lload_n hx hb dX3_digest_207 rfl (lv_at hl 1 rfl) ?_
                    refine lv_ldc2 (v := 31) hx hb hown (hts _ (List.mem_cons_of_mem _ (List.mem_append_left _ (List.mem_append_left _ (List.mem_of_getElem? (i := 6) rfl))))) dX3_digest_208 ?_
                    refine lv_lmul hx hb dX3_digest_211 ?_
                    refine lv_aload_n hx hb dX3_digest_212 rfl (lv_at hl 0 rfl) ?_
                    refine va_get (ci := 3) (v := .ref (mo 6)) (C := RX3) (T := TX3) (N := 12) hx hb hts (fun _ h => (List.mem_cons_of_mem _ (List.mem_append_right _ h))) hown hK hP 0 rfl rfl 10 (by decide) (hts _ (List.mem_cons_of_mem _ (List.mem_append_left _ (List.mem_append_left _ (List.mem_of_getElem? (i := 2) rfl))))) (fun _ h9 => h9) rfl dX3_digest_213 ?_
                    refine lv_iconst (v := nI 1) hx hb dX3_digest_216 (by decide) ?_
                    refine lv_iload hx hb dX3_digest_217 (lv_at hl 2 rfl) ?_
                    refine lv_iadd hx hb dX3_digest_219 ?_
                    refine z_top (x' := nI (1 + i)) (nI_add _ _) ?_
                    refine z_iald hx hb hK hP 6 0 rfl rfl (by omega) (by decide) dX3_digest_220 ?_
                    refine z_top (x' := z_sw D i) (z_nw_sw _ (by omega)) ?_
                    refine lv_i2l (v := Int32.toInt64 (z_sw D i)) hx hb dX3_digest_221 rfl ?_
                    refine lv_ladd hx hb dX3_digest_222 ?_
                    refine lv_ldc2 (v := 31) hx hb hown (hts _ (List.mem_cons_of_mem _ (List.mem_append_left _ (List.mem_append_left _ (List.mem_of_getElem? (i := 6) rfl))))) dX3_digest_223 ?_
                    refine lv_lmul hx hb dX3_digest_226 ?_
                    refine lv_aload_n hx hb dX3_digest_227 rfl (lv_at hl 0 rfl) ?_
                    refine lv_iload hx hb dX3_digest_228 (lv_at hl 2 rfl) ?_
                    refine z_rVi (v := nI (z_lf G D i)) [.long ((((z_dgb G D (z_dgs G D (z_dg12 G D) 4) i) * 31) + (Int32.toInt64 (z_sw D i))) * 31)] hx hb hml hown hts (m_X3_left l Dg cI mo 0 G D (z_nw D) i (by omega) hG hW) gX3_digest_X3_left rfl kd_X3_left ⟨Nat.le_of_ble_eq_true rfl, Nat.le_of_ble_eq_true rfl⟩ hK hN (z_Pm (a := []) (c := ([(q1, .inl (cI, 12, .inl (z_told G D)))])) hP) rfl rfl rfl rfl hl.1 rfl (Nat.le_of_ble_eq_true rfl) dX3_digest_230 ⟨Nat.le_of_ble_eq_true rfl, Nat.le_of_ble_eq_true rfl⟩ ?_
                    refine lv_i2l (v := Int32.toInt64 (nI (z_lf G D i))) hx hb dX3_digest_233 rfl ?_
                    refine lv_ladd hx hb dX3_digest_234 ?_
                    refine lv_ldc2 (v := 31) hx hb hown (hts _ (List.mem_cons_of_mem _ (List.mem_append_left _ (List.mem_append_left _ (List.mem_of_getElem? (i := 6) rfl))))) dX3_digest_235 ?_
                    refine lv_lmul hx hb dX3_digest_238 ?_
                    refine lv_aload_n hx hb dX3_digest_239 rfl (lv_at hl 0 rfl) ?_
                    refine va_get (ci := 3) (v := .ref (mo 6)) (C := RX3) (T := TX3) (N := 12) hx hb hts (fun _ h => (List.mem_cons_of_mem _ (List.mem_append_right _ h))) hown hK hP 0 rfl rfl 10 (by decide) (hts _ (List.mem_cons_of_mem _ (List.mem_append_left _ (List.mem_append_left _ (List.mem_of_getElem? (i := 2) rfl))))) (fun _ h9 => h9) rfl dX3_digest_240 ?_
                    refine lv_bipush (v := nI 7) hx hb dX3_digest_243 (by decide) ?_
                    refine lv_iload hx hb dX3_digest_245 (lv_at hl 2 rfl) ?_
                    refine lv_iadd hx hb dX3_digest_247 ?_
                    refine z_top (x' := nI (7 + i)) (nI_add _ _) ?_
                    refine z_iald hx hb hK hP 6 0 rfl rfl (by omega) (by decide) dX3_digest_248 ?_
                    refine z_top (x' := z_bI (z_rc D i)) (z_nw_rc _ (by omega)) ?_
                    refine lv_i2l (v := Int32.toInt64 (z_bI (z_rc D i))) hx hb dX3_digest_249 rfl ?_
                    refine lv_ladd hx hb dX3_digest_250 ?_
                    refine lv_ldc2 (v := 31) hx hb hown (hts _ (List.mem_cons_of_mem _ (List.mem_append_left _ (List.mem_append_left _ (List.mem_of_getElem? (i := 6) rfl))))) dX3_digest_251 ?_
                    refine lv_lmul hx hb dX3_digest_254 ?_
                    refine lv_aload_n hx hb dX3_digest_255 rfl (lv_at hl 0 rfl) ?_
                    refine lv_iload hx hb dX3_digest_256 (lv_at hl 2 rfl) ?_
                    refine z_wBi (v := z_ur G D i) [.long ((((((((z_dgb G D (z_dgs G D (z_dg12 G D) 4) i) * 31) + (Int32.toInt64 (z_sw D i))) * 31) + (Int32.toInt64 (nI (z_lf G D i)))) * 31) + (Int32.toInt64 (z_bI (z_rc D i)))) * 31)] [] ([(q1, .inl (cI, 12, .inl (z_told G D)))]) 0 hx hb hml hown hts (m_X3_untilRecalled l Dg cI mo 0 G D (z_nw D) i (by omega) hG hW) gX3_digest_X3_untilRecalled rfl kd_X3_untilRecalled ⟨Nat.le_of_ble_eq_true rfl, Nat.le_of_ble_eq_true rfl⟩ hK hN hP hD hS rfl rfl rfl rfl rfl hl.1 rfl (Nat.le_of_ble_eq_true rfl) dX3_digest_258 ⟨Nat.le_of_ble_eq_true rfl, Nat.le_of_ble_eq_true rfl⟩ (fun H locs hP hD hS => ?_)
                    have hP : va_P Dg vwCl (z_mW cI mo 0 G D (z_nw D) ++ [(q1, .inl (cI, 12, .inl (z_told G D)))]) H := hP
                    have hD : va_D _ (z_mW cI mo 0 G D (z_nw D) ++ [(q1, .inl (cI, 12, .inl (z_told G D)))]) := hD
                    refine lv_i2l (v := Int32.toInt64 (z_ur G D i)) hx hb dX3_digest_261 rfl ?_
                    refine lv_ladd hx hb dX3_digest_262 ?_
                    refine lv_lstore_n (lv' := [(2, .long (((((((((z_dgb G D (z_dgs G D (z_dg12 G D) 4) i) * 31) + (Int32.toInt64 (z_sw D i))) * 31) + (Int32.toInt64 (nI (z_lf G D i)))) * 31) + (Int32.toInt64 (z_bI (z_rc D i)))) * 31) + (Int32.toInt64 (z_ur G D i)))), (0, .ref (mo 0)), (4, .int (nI i))]) hx hb dX3_digest_263 rfl hl (by decide) rfl (fun ls hl => ?_)
                    have hl : lv_has ls 8 [(2, .long (z_dgb G D (z_dgs G D (z_dg12 G D) 4) (i + 1))), (0, .ref (mo 0)), (4, .int (nI i))] := by have q : ((((((((z_dgb G D (z_dgs G D (z_dg12 G D) 4) i) * 31) + (Int32.toInt64 (z_sw D i))) * 31) + (Int32.toInt64 (nI (z_lf G D i)))) * 31) + (Int32.toInt64 (z_bI (z_rc D i)))) * 31) + (Int32.toInt64 (z_ur G D i)) = z_dgb G D (z_dgs G D (z_dg12 G D) 4) (i + 1) := rfl; rw [← q]; exact hl
                    refine lv_iinc (v := nI (i + 1)) (lv' := [(4, .int (nI (i + 1))), (2, .long (z_dgb G D (z_dgs G D (z_dg12 G D) 4) (i + 1))), (0, .ref (mo 0))]) hx hb dX3_digest_264 hl (k := 2) rfl (nI_1 _) (by decide) rfl (fun ls hl => ?_)
                    refine lv_goto (tgt := 198) hx hb dX3_digest_267 (by decide) ?_
                    exact ih198 (i + 1) (by omega) (by omega) _ _ hP hD hS _ (lv_sub hl [2, 1, 0] rfl)
              exact lp198 (z_bc G + 1) 0 (by omega) (by omega) _ _ hP hD hS _ (lv_sub hl [1, 2, 0] rfl)
            · skip
              have hi2 : i < 4 := by have := z_nle (by omega) c159; omega
              refine lv_lload_n hx hb dX3_digest_162 rfl (lv_at hl 1 rfl) ?_
              refine lv_ldc2 (v := 31) hx hb hown (hts _ (List.mem_cons_of_mem _ (List.mem_append_left _ (List.mem_append_left _ (List.mem_of_getElem? (i := 6) rfl))))) dX3_digest_163 ?_
              refine lv_lmul hx hb dX3_digest_166 ?_
              refine lv_aload_n hx hb dX3_digest_167 rfl (lv_at hl 0 rfl) ?_
              refine lv_iload hx hb dX3_digest_168 (lv_at hl 2 rfl) ?_
              refine z_rVi (v := nI (z_on G D i)) [.long ((z_dgs G D (z_dg12 G D) i) * 31)] hx hb hml hown hts (m_X3_on l Dg cI mo 0 G D (z_nw D) i (by omega) hG hW) gX3_digest_X3_on rfl kd_X3_on ⟨Nat.le_of_ble_eq_true rfl, Nat.le_of_ble_eq_true rfl⟩ hK hN (z_Pm (a := []) (c := ([(q1, .inl (cI, 12, .inl (z_told G D)))])) hP) rfl rfl rfl rfl hl.1 rfl (Nat.le_of_ble_eq_true rfl) dX3_digest_170 ⟨Nat.le_of_ble_eq_true rfl, Nat.le_of_ble_eq_true rfl⟩ ?_
              refine lv_i2l (v := Int32.toInt64 (nI (z_on G D i))) hx hb dX3_digest_173 rfl ?_
              refine lv_ladd hx hb dX3_digest_174 ?_
              refine lv_ldc2 (v := 31) hx hb hown (hts _ (List.mem_cons_of_mem _ (List.mem_append_left _ (List.mem_append_left _ (List.mem_of_getElem? (i := 6) rfl))))) dX3_digest_175 ?_
              refine lv_lmul hx hb dX3_digest_178 ?_
              refine lv_aload_n hx hb dX3_digest_179 rfl (lv_at hl 0 rfl) ?_
              refine va_get (ci := 3) (v := .ref (mo 3)) (C := RX3) (T := TX3) (N := 12) hx hb hts (fun _ h => (List.mem_cons_of_mem _ (List.mem_append_right _ h))) hown hK hP 0 rfl rfl 7 (by decide) (hts _ (List.mem_cons_of_mem _ (List.mem_append_left _ (List.mem_append_left _ (List.mem_of_getElem? (i := 7) rfl))))) (fun _ h9 => h9) rfl dX3_digest_180 ?_
              refine lv_iload hx hb dX3_digest_183 (lv_at hl 2 rfl) ?_
              refine z_iald hx hb hK hP 3 0 rfl rfl (by omega) (by decide) dX3_digest_185 ?_
              refine z_top (x' := z_wm G i) rfl ?_
              refine lv_i2l (v := Int32.toInt64 (z_wm G i)) hx hb dX3_digest_186 rfl ?_
              refine lv_ladd hx hb dX3_digest_187 ?_
              refine lv_lstore_n (lv' := [(2, .long (((((z_dgs G D (z_dg12 G D) i) * 31) + (Int32.toInt64 (nI (z_on G D i)))) * 31) + (Int32.toInt64 (z_wm G i)))), (0, .ref (mo 0)), (4, .int (nI i))]) hx hb dX3_digest_188 rfl hl (by decide) rfl (fun ls hl => ?_)
              have hl : lv_has ls 8 [(2, .long (z_dgs G D (z_dg12 G D) (i + 1))), (0, .ref (mo 0)), (4, .int (nI i))] := by have q : ((((z_dgs G D (z_dg12 G D) i) * 31) + (Int32.toInt64 (nI (z_on G D i)))) * 31) + (Int32.toInt64 (z_wm G i)) = z_dgs G D (z_dg12 G D) (i + 1) := rfl; rw [← q]; exact hl
              refine lv_iinc (v := nI (i + 1)) (lv' := [(4, .int (nI (i + 1))), (2, .long (z_dgs G D (z_dg12 G D) (i + 1))), (0, .ref (mo 0))]) hx hb dX3_digest_189 hl (k := 2) rfl (nI_1 _) (by decide) rfl (fun ls hl => ?_)
              refine lv_goto (tgt := 156) hx hb dX3_digest_192 (by decide) ?_
              exact ih156 (i + 1) (by omega) (by omega) _ _ hP hD hS _ (lv_sub hl [2, 1, 0] rfl)
        exact lp156 (4 + 1) 0 (by omega) (by omega) _ _ hP hD hS _ (lv_sub hl [1, 2, 0] rfl)
      · skip
        have hi2 : i < 12 := by have := z_nle (by omega) c127; omega
        refine lv_aload hx hb dX3_digest_130 (lv_at hl 2 rfl) ?_
        refine lv_iload hx hb dX3_digest_132 (lv_at hl 4 rfl) ?_
        refine z_iald hx hb hK hP 8 0 rfl rfl (by omega) (by decide) dX3_digest_134 ?_
        refine z_top (x' := z_told G D i) rfl ?_
        refine lv_istore (lv' := [(7, .int (z_told G D i)), (0, .ref (mo 0)), (2, .long (z_fo (z_told G D) i)), (4, .ref q1), (5, .int (nI 12)), (6, .int (nI i))]) hx hb dX3_digest_135 hl (by decide) rfl (fun ls hl => ?_)
        refine lv_lload_n hx hb dX3_digest_137 rfl (lv_at hl 2 rfl) ?_
        refine lv_ldc2 (v := 31) hx hb hown (hts _ (List.mem_cons_of_mem _ (List.mem_append_left _ (List.mem_append_left _ (List.mem_of_getElem? (i := 6) rfl))))) dX3_digest_138 ?_
        refine lv_lmul hx hb dX3_digest_141 ?_
        refine lv_iload hx hb dX3_digest_142 (lv_at hl 0 rfl) ?_
        refine lv_i2l (v := Int32.toInt64 (z_told G D i)) hx hb dX3_digest_144 rfl ?_
        refine lv_ladd hx hb dX3_digest_145 ?_
        refine lv_lstore_n (lv' := [(2, .long (((z_fo (z_told G D) i) * 31) + (Int32.toInt64 (z_told G D i)))), (7, .int (z_told G D i)), (0, .ref (mo 0)), (4, .ref q1), (5, .int (nI 12)), (6, .int (nI i))]) hx hb dX3_digest_146 rfl hl (by decide) rfl (fun ls hl => ?_)
        have hl : lv_has ls 8 [(2, .long (z_fo (z_told G D) (i + 1))), (7, .int (z_told G D i)), (0, .ref (mo 0)), (4, .ref q1), (5, .int (nI 12)), (6, .int (nI i))] := by have q : ((z_fo (z_told G D) i) * 31) + (Int32.toInt64 (z_told G D i)) = z_fo (z_told G D) (i + 1) := rfl; rw [← q]; exact hl
        refine lv_iinc (v := nI (i + 1)) (lv' := [(6, .int (nI (i + 1))), (2, .long (z_fo (z_told G D) (i + 1))), (7, .int (z_told G D i)), (0, .ref (mo 0)), (4, .ref q1), (5, .int (nI 12))]) hx hb dX3_digest_147 hl (k := 5) rfl (nI_1 _) (by decide) rfl (fun ls hl => ?_)
        refine lv_goto (tgt := 123) hx hb dX3_digest_150 (by decide) ?_
        exact ih123 (i + 1) (by omega) (by omega) _ _ hP hD hS _ (lv_sub hl [3, 1, 4, 5, 0] rfl)
  exact lp123 (12 + 1) 0 (by omega) (by omega) _ _ hP hD hS _ (lv_sub hl [5, 3, 2, 1, 0] rfl)
