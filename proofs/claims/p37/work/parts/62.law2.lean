theorem kd_X3_days : yX3_days.cls = RX3 ∧ yX3_days.cls ≠ "java/lang/invoke/MethodHandle" ∧ yX3_days.cls ≠ "java/lang/invoke/VarHandle" ∧ (parseMethodDescriptor yX3_days.desc).map (fun d => d.parameters.length) = some 2 := by decide +kernel
set_option maxHeartbeats 40000000 in
set_option maxRecDepth 100000 in
theorem m_law_T2 {p : Program} {l : Launch} {e : Env} {s : State} {m : MethodId} {below : List Frame} {meth : Method} {c : Code} {b Ls : Nat} {xs : Nat → Int32} {Dg : va_G} {cI cR cZ : ClassId} (C0 : q_CL p l s m meth c b Ls xs Dg cI cR cZ) {Q : State → Prop} {h : Nat} {na ta : Nat → Nat} {sa rb rt : Nat → Nat} {G : z_GG} {D : z_DD} (hI : q_I G D) (x : Int32) (tm : Nat) (c0 s0 : Nat) (hc : c0 ≤ 700000) (hs : s0 ≤ 6000000)  (K : q_Go p l e s m below meth c b Q Dg cI cR h na ta sa rb rt G D [] 475 c0 s0 [(0, .ref b), (1, .ref h), (2, .ref (sa 0)), (3, .int (nI tm)), (4, .int x), (5, .long (z_dg G D)), (7, .int (nI (z_tc G))), (8, .int (nI (z_cn G D 1))), (9, .int 0)]) : q_Go p l e s m below meth c b Q Dg cI cR h na ta sa rb rt G D [] 247 c0 s0 [(0, .ref b), (1, .ref h), (2, .ref (sa 0)), (3, .int (nI tm)), (4, .int x), (5, .long (z_dg G D)), (7, .int (nI (z_tc G))), (8, .int (nI (z_cn G D 1))), (9, .int 0)] := by
  obtain ⟨hx, hb, hr, hml, hown, hts, hXs, hbl, hlk, hK, hN, hJ, hE, hTA, hL, hst⟩ := C0
  obtain ⟨hG, hW, hB, hV, h5, h6, h7, h8, h9, h10⟩ := id hI
  have htc : z_tc G ≤ 60 := hG.2.2.2.2.2.1
  have hbc : z_bc G ≤ 6 := hG.2.2.2.2.1
  have hsd : z_sd G ≤ 9 := hG.2.2.2.2.2.2.1
  have hod : z_od G ≤ 2 := hG.2.2.2.2.2.2.2
  have hcn1 := q_cn_le (G := G) (D := D) 1
  have hcn2 := q_cn_le (G := G) (D := D) 2
  have hcn3 := q_cn_le (G := G) (D := D) 3
  have hbA : ¬ s.heap.size ≤ b := Nat.not_le.mpr hbl
  have hA : ∀ q : Nat, s.heap.size ≤ q → (fun q => s.heap.size ≤ q) q := fun _ z => z
  intro G1 D1 H locs ls hP hD hS hl
  have hP : va_P Dg vwCl (z_cW cI h na ta G D G1 D1 ++ q_W cI cR sa rb rt G D) H := hP
  have hD : va_D _ (z_cW cI h na ta G D G1 D1 ++ q_W cI cR sa rb rt G D) := hD
  refine lv_iconst (v := nI 0) hx hb dL_law_247 (by decide) ?_
  refine lv_istore (lv' := [(10, .int (nI 0)), (0, .ref b), (1, .ref h), (2, .ref (sa 0)), (3, .int (nI tm)), (4, .int x), (5, .long (z_dg G D)), (7, .int (nI (z_tc G))), (8, .int (nI (z_cn G D 1))), (9, .int 0)]) hx hb dL_law_248 hl (by decide) rfl (fun ls hl => ?_)
  have lp250 : ∀ (zz i : Nat) , i ≤ z_tc G → z_tc G + 1 ≤ i + zz → ∀ ls : Array Slot, lv_has ls 23 [(0, .ref b), (1, .ref h), (2, .ref (sa 0)), (3, .int (nI tm)), (4, .int x), (5, .long (z_dg G D)), (7, .int (nI (z_tc G))), (8, .int (nI (z_cn G D 1))), (9, .int 0), (10, .int (nI i))] → W p l e room_1 s m ([Value.ref b] : List Value).toArray below meth c H locs c0 s0 Q (F0 m 250 ls []) := by
    intro zz
    induction zz with
    | zero => intros; exfalso; omega
    | succ zz ih250 =>
      intro i hi hzz ls hl
      refine lv_iload hx hb dL_law_250 (lv_at hl 9 rfl) ?_
      refine lv_iload hx hb dL_law_252 (lv_at hl 6 rfl) ?_
      refine lv_icmp_ge (tgt := 475) hx hb dL_law_254 (by decide) (fun c254 => ?_) (fun c254 => ?_)
      · skip
        have h9x : i = z_tc G := Nat.le_antisymm hi (z_le (by omega) (by omega) c254)
        subst h9x
        exact K G1 D1 _ _ _ hP hD hS (lv_sub hl [0, 1, 2, 3, 4, 5, 6, 7, 8] rfl)
      · skip
        have hi2 : i < z_tc G := z_nle (by omega) c254
        have hbi := hB i hi2
        have hsh := hG.2.2.2.1 i
        have hvi := (hV i hi2).1
        have hvi9 := (hV i hi2).2
        have hrb := fun u => q_rt_b hG i u
        by_cases hp : z_pl D i = 1
        · skip
          have h7i := h7 i hi2 (by rw [hp]; decide)
          have h8i := h8 i hi2 hp
          have hbs := z_bsn_le G D i 3
          refine lv_aload_n hx hb dL_law_257 rfl (lv_at hl 1 rfl) ?_
          refine lv_iload hx hb dL_law_258 (lv_at hl 9 rfl) ?_
          refine z_rVi (v := z_shf G D i) [] hx hb hml hown hts (m_X2_shelfOf l Dg cI h na ta G D G1 D1 i (by omega) hG hW) gL_law_X2_shelfOf rfl kd_X2_shelfOf ⟨Nat.le_of_ble_eq_true rfl, Nat.le_of_ble_eq_true rfl⟩ (q_KI hK) hN (z_Pl hP) rfl rfl rfl rfl hl.1 rfl (Nat.le_of_ble_eq_true rfl) dL_law_260 ⟨by show _ ≤ 801385; omega, by show _ ≤ 6697312; omega⟩ ?_
          refine z_top (x' := nI (z_sh G i)) (q_shf1 hp) ?_
          refine lv_if_lt (tgt := 270) hx hb dL_law_263 (by decide) (fun c263 => absurd c263 (nI_pos (by omega))) (fun c263 => ?_)
          refine lv_iconst (v := 1) hx hb dL_law_266 (by decide) ?_
          refine lv_goto (tgt := 271) hx hb dL_law_267 (by decide) ?_
          refine lv_istore (lv' := [(11, .int 1), (0, .ref b), (1, .ref h), (2, .ref (sa 0)), (3, .int (nI tm)), (4, .int x), (5, .long (z_dg G D)), (7, .int (nI (z_tc G))), (8, .int (nI (z_cn G D 1))), (9, .int 0), (10, .int (nI i))]) hx hb dL_law_271 hl (by decide) rfl (fun ls hl => ?_)
          refine lv_aload_n hx hb dL_law_273 rfl (lv_at hl 2 rfl) ?_
          refine lv_iload hx hb dL_law_274 (lv_at hl 10 rfl) ?_
          refine z_rVi (v := z_bsh G D i) [] hx hb hml hown hts (m_X2_bestShelf l Dg cI h na ta G D G1 D1 i (by omega) hG hW) gL_law_X2_bestShelf rfl kd_X2_bestShelf ⟨Nat.le_of_ble_eq_true rfl, Nat.le_of_ble_eq_true rfl⟩ (q_KI hK) hN (z_Pl hP) rfl rfl rfl rfl hl.1 rfl (Nat.le_of_ble_eq_true rfl) dL_law_276 ⟨by show _ ≤ 801385; omega, by show _ ≤ 6697312; omega⟩ ?_
          refine z_top (x' := nI (z_bsn G D i 3)) (q_bsh1 hp) ?_
          refine lv_istore (lv' := [(12, .int (nI (z_bsn G D i 3))), (11, .int 1), (0, .ref b), (1, .ref h), (2, .ref (sa 0)), (3, .int (nI tm)), (4, .int x), (5, .long (z_dg G D)), (7, .int (nI (z_tc G))), (8, .int (nI (z_cn G D 1))), (9, .int 0), (10, .int (nI i))]) hx hb dL_law_279 hl (by decide) rfl (fun ls hl => ?_)
          refine lv_iload hx hb dL_law_281 (lv_at hl 6 rfl) ?_
          refine lv_iconst (v := nI 3) hx hb dL_law_283 (by decide) ?_
          refine lv_ishr hx hb dL_law_284 ?_
          refine lv_iload hx hb dL_law_285 (lv_at hl 11 rfl) ?_
          refine lv_iadd hx hb dL_law_287 ?_
          refine lv_iconst (v := nI 4) hx hb dL_law_288 (by decide) ?_
          refine q_rSi (v := nI (q_bl ((x >>> ((nI 3) &&& 31)) + (nI i)) 4)) [] hx hb hml hown hts (m_L_below l Dg cI cR cZ ((x >>> ((nI 3) &&& 31)) + (nI i)) 4 (by decide) (by decide)) gL_law_L_below rfl kdS_L_below ⟨Nat.le_of_ble_eq_true rfl, Nat.le_of_ble_eq_true rfl⟩ hK hN hJ z_P0 rfl rfl hl.1 (Nat.le_of_ble_eq_true rfl) dL_law_289 ⟨by show _ ≤ 801385; omega, by show _ ≤ 6697312; omega⟩ ?_
          obtain ⟨j289, hj289, ej289⟩ := q_bl_ex ((x >>> ((nI 3) &&& 31)) + (nI i)) (k := 4) (by decide)
          refine z_top (x' := nI j289) (congrArg nI ej289) ?_
          refine lv_istore (lv' := [(13, .int (nI j289)), (12, .int (nI (z_bsn G D i 3))), (11, .int 1), (0, .ref b), (1, .ref h), (2, .ref (sa 0)), (3, .int (nI tm)), (4, .int x), (5, .long (z_dg G D)), (7, .int (nI (z_tc G))), (8, .int (nI (z_cn G D 1))), (9, .int 0), (10, .int (nI i))]) hx hb dL_law_292 hl (by decide) rfl (fun ls hl => ?_)
          refine lv_iload hx hb dL_law_294 (lv_at hl 2 rfl) ?_
          refine lv_if_eq (tgt := 303) hx hb dL_law_296 (by decide) (fun c296 => absurd c296 (by decide)) (fun c296 => ?_)
          refine lv_iconst (v := 1) hx hb dL_law_299 (by decide) ?_
          refine lv_goto (tgt := 304) hx hb dL_law_300 (by decide) ?_
          refine lv_aload_n hx hb dL_law_304 rfl (lv_at hl 4 rfl) ?_
          refine lv_iload hx hb dL_law_305 (lv_at hl 12 rfl) ?_
          refine z_rVi (v := z_bI (z_pl D i == 2)) [.int 1] hx hb hml hown hts (m_X2_isShipped l Dg cI h na ta G D G1 D1 i (by omega) hG hW) gL_law_X2_isShipped rfl kd_X2_isShipped ⟨Nat.le_of_ble_eq_true rfl, Nat.le_of_ble_eq_true rfl⟩ (q_KI hK) hN (z_Pl hP) rfl rfl rfl rfl hl.1 rfl (Nat.le_of_ble_eq_true rfl) dL_law_307 ⟨by show _ ≤ 801385; omega, by show _ ≤ 6697312; omega⟩ ?_
          refine z_top (x' := 0) (q_isn _ _ (by omega)) ?_
          refine lv_if_eq (tgt := 317) hx hb dL_law_310 (by decide) (fun c310 => ?_) (fun c310 => absurd rfl c310)
          refine lv_iconst (v := 0) hx hb dL_law_317 (by decide) ?_
          refine lv_iadd hx hb dL_law_318 ?_
          refine z_top (x' := 1) (by decide) ?_
          refine lv_aload_n hx hb dL_law_319 rfl (lv_at hl 4 rfl) ?_
          refine lv_iload hx hb dL_law_320 (lv_at hl 12 rfl) ?_
          refine z_rVi (v := z_bI (z_pl D i == 3)) [.int 1] hx hb hml hown hts (m_X2_isLost l Dg cI h na ta G D G1 D1 i (by omega) hG hW) gL_law_X2_isLost rfl kd_X2_isLost ⟨Nat.le_of_ble_eq_true rfl, Nat.le_of_ble_eq_true rfl⟩ (q_KI hK) hN (z_Pl hP) rfl rfl rfl rfl hl.1 rfl (Nat.le_of_ble_eq_true rfl) dL_law_322 ⟨by show _ ≤ 801385; omega, by show _ ≤ 6697312; omega⟩ ?_
          refine z_top (x' := 0) (q_isn _ _ (by omega)) ?_
          refine lv_if_eq (tgt := 332) hx hb dL_law_325 (by decide) (fun c325 => ?_) (fun c325 => absurd rfl c325)
          refine lv_iconst (v := 0) hx hb dL_law_332 (by decide) ?_
          refine lv_iadd hx hb dL_law_333 ?_
          refine z_top (x' := 1) (by decide) ?_
          refine lv_iconst (v := 1) hx hb dL_law_334 (by decide) ?_
          refine lv_icmp_ne (tgt := 415) hx hb dL_law_335 (by decide) (fun c335 => absurd rfl c335) (fun c335 => ?_)
          refine lv_iload hx hb dL_law_338 (lv_at hl 2 rfl) ?_
          refine lv_if_eq (tgt := 376) hx hb dL_law_340 (by decide) (fun c340 => absurd c340 (by decide)) (fun c340 => ?_)
          refine lv_aload_n hx hb dL_law_343 rfl (lv_at hl 4 rfl) ?_
          refine lv_iload hx hb dL_law_344 (lv_at hl 12 rfl) ?_
          refine z_rVi (v := z_vc D i) [] hx hb hml hown hts (m_X2_vacuumOf l Dg cI h na ta G D G1 D1 i (by omega) hG hW) gL_law_X2_vacuumOf rfl kd_X2_vacuumOf ⟨Nat.le_of_ble_eq_true rfl, Nat.le_of_ble_eq_true rfl⟩ (q_KI hK) hN (z_Pl hP) rfl rfl rfl rfl hl.1 rfl (Nat.le_of_ble_eq_true rfl) dL_law_346 ⟨by show _ ≤ 801385; omega, by show _ ≤ 6697312; omega⟩ ?_
          refine lv_iconst (v := 1) hx hb dL_law_349 (by decide) ?_
          refine lv_icmp_lt (tgt := 415) hx hb dL_law_350 (by decide) (fun c350 => absurd c350 (z_i32_nlt h7i)) (fun c350 => ?_)
          refine lv_aload_n hx hb dL_law_353 rfl (lv_at hl 4 rfl) ?_
          refine lv_aload_n hx hb dL_law_354 rfl (lv_at hl 4 rfl) ?_
          refine lv_iload hx hb dL_law_355 (lv_at hl 12 rfl) ?_
          refine z_rVi (v := nI (z_bt G i)) [.ref h] hx hb hml hown hts (m_X2_batchOf l Dg cI h na ta G D G1 D1 i (by omega) hG hW) gL_law_X2_batchOf rfl kd_X2_batchOf ⟨Nat.le_of_ble_eq_true rfl, Nat.le_of_ble_eq_true rfl⟩ (q_KI hK) hN (z_Pl hP) rfl rfl rfl rfl hl.1 rfl (Nat.le_of_ble_eq_true rfl) dL_law_357 ⟨by show _ ≤ 801385; omega, by show _ ≤ 6697312; omega⟩ ?_
          refine z_rVi (v := z_bI (z_rc D (z_bt G i))) [] hx hb hml hown hts (m_X2_isRecalled l Dg cI h na ta G D G1 D1 (z_bt G i) (by omega) hG hW) gL_law_X2_isRecalled rfl kd_X2_isRecalled ⟨Nat.le_of_ble_eq_true rfl, Nat.le_of_ble_eq_true rfl⟩ (q_KI hK) hN (z_Pl hP) rfl rfl rfl rfl hl.1 rfl (Nat.le_of_ble_eq_true rfl) dL_law_360 ⟨by show _ ≤ 801385; omega, by show _ ≤ 6697312; omega⟩ ?_
          refine z_top (x' := 0) (by rw [h8i]; rfl) ?_
          refine lv_if_ne (tgt := 415) hx hb dL_law_363 (by decide) (fun c363 => absurd rfl c363) (fun c363 => ?_)
          refine lv_aload_n hx hb dL_law_366 rfl (lv_at hl 4 rfl) ?_
          refine lv_iload hx hb dL_law_367 (lv_at hl 12 rfl) ?_
          refine z_rVi (v := z_shf G D i) [] hx hb hml hown hts (m_X2_shelfOf l Dg cI h na ta G D G1 D1 i (by omega) hG hW) gL_law_X2_shelfOf rfl kd_X2_shelfOf ⟨Nat.le_of_ble_eq_true rfl, Nat.le_of_ble_eq_true rfl⟩ (q_KI hK) hN (z_Pl hP) rfl rfl rfl rfl hl.1 rfl (Nat.le_of_ble_eq_true rfl) dL_law_369 ⟨by show _ ≤ 801385; omega, by show _ ≤ 6697312; omega⟩ ?_
          refine z_top (x' := nI (z_sh G i)) (q_shf1 hp) ?_
          refine lv_iconst (v := nI 3) hx hb dL_law_372 (by decide) ?_
          refine lv_icmp_gt (tgt := 415) hx hb dL_law_373 (by decide) (fun c373 => absurd c373 (z_i32_nlt (nI_le (by omega) (by decide)))) (fun c373 => ?_)
          refine lv_aload_n hx hb dL_law_376 rfl (lv_at hl 4 rfl) ?_
          refine lv_iload hx hb dL_law_377 (lv_at hl 12 rfl) ?_
          refine z_rVi (v := z_vc D i) [] hx hb hml hown hts (m_X2_vacuumOf l Dg cI h na ta G D G1 D1 i (by omega) hG hW) gL_law_X2_vacuumOf rfl kd_X2_vacuumOf ⟨Nat.le_of_ble_eq_true rfl, Nat.le_of_ble_eq_true rfl⟩ (q_KI hK) hN (z_Pl hP) rfl rfl rfl rfl hl.1 rfl (Nat.le_of_ble_eq_true rfl) dL_law_379 ⟨by show _ ≤ 801385; omega, by show _ ≤ 6697312; omega⟩ ?_
          refine lv_if_lt (tgt := 415) hx hb dL_law_382 (by decide) (fun c382 => absurd c382 (z_i32_nlt hvi)) (fun c382 => ?_)
          refine lv_iload hx hb dL_law_385 (lv_at hl 2 rfl) ?_
          refine lv_iload hx hb dL_law_387 (lv_at hl 1 rfl) ?_
          refine lv_if_lt (tgt := 396) hx hb dL_law_389 (by decide) (fun c389 => absurd c389 (nI_pos (by omega))) (fun c389 => ?_)
          refine lv_iconst (v := 1) hx hb dL_law_392 (by decide) ?_
          refine lv_goto (tgt := 397) hx hb dL_law_393 (by decide) ?_
          refine lv_icmp_ne (tgt := 415) hx hb dL_law_397 (by decide) (fun c397 => absurd rfl c397) (fun c397 => ?_)
          refine lv_iload hx hb dL_law_400 (lv_at hl 2 rfl) ?_
          refine lv_if_ne (tgt := 417) hx hb dL_law_402 (by decide) (fun c402 => ?_) (fun c402 => absurd c402 (by decide))
          refine lv_iload hx hb dL_law_417 (lv_at hl 2 rfl) ?_
          refine lv_if_eq (tgt := 469) hx hb dL_law_419 (by decide) (fun c419 => absurd c419 (by decide)) (fun c419 => ?_)
          have hbq := (q_bsn hI hi2 hp 3 j289 (by omega))
          have hd1 := q_dm_le (hrb j289) hvi hvi9
          have hd2 := q_dm_le (hrb (z_bsn G D i 3)) hvi hvi9
          refine lv_aload_n hx hb dL_law_422 rfl (lv_at hl 5 rfl) ?_
          refine lv_iload hx hb dL_law_423 (lv_at hl 12 rfl) ?_
          refine lv_iload hx hb dL_law_425 (lv_at hl 0 rfl) ?_
          refine q_rVi (v := nI (q_dm (z_vc D i) (z_rt G i j289))) [] hx hb hml hown hts (m_X3_days l Dg cI cR cZ sa rb rt G D i j289 (by omega) (by omega) hG hB hV) gL_law_X3_days rfl kd_X3_days ⟨Nat.le_of_ble_eq_true rfl, Nat.le_of_ble_eq_true rfl⟩ hK hN hJ (z_Prr hP) rfl rfl rfl rfl rfl hl.1 (Nat.le_of_ble_eq_true rfl) dL_law_427 ⟨by show _ ≤ 801385; omega, by show _ ≤ 6697312; omega⟩ ?_
          refine lv_aload_n hx hb dL_law_430 rfl (lv_at hl 5 rfl) ?_
          refine lv_iload hx hb dL_law_431 (lv_at hl 12 rfl) ?_
          refine lv_iload hx hb dL_law_433 (lv_at hl 1 rfl) ?_
          refine q_rVi (v := nI (q_dm (z_vc D i) (z_rt G i (z_bsn G D i 3)))) [.int (nI (q_dm (z_vc D i) (z_rt G i j289)))] hx hb hml hown hts (m_X3_days l Dg cI cR cZ sa rb rt G D i (z_bsn G D i 3) (by omega) (by omega) hG hB hV) gL_law_X3_days rfl kd_X3_days ⟨Nat.le_of_ble_eq_true rfl, Nat.le_of_ble_eq_true rfl⟩ hK hN hJ (z_Prr hP) rfl rfl rfl rfl rfl hl.1 (Nat.le_of_ble_eq_true rfl) dL_law_435 ⟨by show _ ≤ 801385; omega, by show _ ≤ 6697312; omega⟩ ?_
          refine lv_icmp_gt (tgt := 467) hx hb dL_law_438 (by decide) (fun c438 => absurd c438 (z_i32_nlt (nI_le hbq.1 (by omega)))) (fun c438 => ?_)
          refine lv_aload_n hx hb dL_law_441 rfl (lv_at hl 5 rfl) ?_
          refine lv_iload hx hb dL_law_442 (lv_at hl 12 rfl) ?_
          refine lv_iload hx hb dL_law_444 (lv_at hl 0 rfl) ?_
          refine q_rVi (v := nI (q_dm (z_vc D i) (z_rt G i j289))) [] hx hb hml hown hts (m_X3_days l Dg cI cR cZ sa rb rt G D i j289 (by omega) (by omega) hG hB hV) gL_law_X3_days rfl kd_X3_days ⟨Nat.le_of_ble_eq_true rfl, Nat.le_of_ble_eq_true rfl⟩ hK hN hJ (z_Prr hP) rfl rfl rfl rfl rfl hl.1 (Nat.le_of_ble_eq_true rfl) dL_law_446 ⟨by show _ ≤ 801385; omega, by show _ ≤ 6697312; omega⟩ ?_
          refine lv_aload_n hx hb dL_law_449 rfl (lv_at hl 5 rfl) ?_
          refine lv_iload hx hb dL_law_450 (lv_at hl 12 rfl) ?_
          refine lv_iload hx hb dL_law_452 (lv_at hl 1 rfl) ?_
          refine q_rVi (v := nI (q_dm (z_vc D i) (z_rt G i (z_bsn G D i 3)))) [.int (nI (q_dm (z_vc D i) (z_rt G i j289)))] hx hb hml hown hts (m_X3_days l Dg cI cR cZ sa rb rt G D i (z_bsn G D i 3) (by omega) (by omega) hG hB hV) gL_law_X3_days rfl kd_X3_days ⟨Nat.le_of_ble_eq_true rfl, Nat.le_of_ble_eq_true rfl⟩ hK hN hJ (z_Prr hP) rfl rfl rfl rfl rfl hl.1 (Nat.le_of_ble_eq_true rfl) dL_law_454 ⟨by show _ ≤ 801385; omega, by show _ ≤ 6697312; omega⟩ ?_
          refine lv_icmp_ne (tgt := 469) hx hb dL_law_457 (by decide) (fun c457 => ?_) (fun c457 => ?_)
          · skip
            refine lv_iinc (v := nI (i + 1)) (lv' := [(10, .int (nI (i + 1))), (13, .int (nI j289)), (12, .int (nI (z_bsn G D i 3))), (11, .int 1), (0, .ref b), (1, .ref h), (2, .ref (sa 0)), (3, .int (nI tm)), (4, .int x), (5, .long (z_dg G D)), (7, .int (nI (z_tc G))), (8, .int (nI (z_cn G D 1))), (9, .int 0)]) hx hb dL_law_469 hl (k := 12) rfl (nI_1 _) (by decide) rfl (fun ls hl => ?_)
            refine lv_goto (tgt := 250) hx hb dL_law_472 (by decide) ?_
            exact ih250 (i + 1) (by omega) (by omega) _ (lv_sub hl [4, 5, 6, 7, 8, 9, 10, 11, 12, 0] rfl)
          · skip
            refine lv_iload hx hb dL_law_460 (lv_at hl 0 rfl) ?_
            refine lv_iload hx hb dL_law_462 (lv_at hl 1 rfl) ?_
            refine lv_icmp_ge (tgt := 469) hx hb dL_law_464 (by decide) (fun c464 => ?_) (fun c464 => absurd (nI_le (hbq.2 (z_eq (by omega) (by omega) c457)) (by omega)) c464)
            refine lv_iinc (v := nI (i + 1)) (lv' := [(10, .int (nI (i + 1))), (13, .int (nI j289)), (12, .int (nI (z_bsn G D i 3))), (11, .int 1), (0, .ref b), (1, .ref h), (2, .ref (sa 0)), (3, .int (nI tm)), (4, .int x), (5, .long (z_dg G D)), (7, .int (nI (z_tc G))), (8, .int (nI (z_cn G D 1))), (9, .int 0)]) hx hb dL_law_469 hl (k := 12) rfl (nI_1 _) (by decide) rfl (fun ls hl => ?_)
            refine lv_goto (tgt := 250) hx hb dL_law_472 (by decide) ?_
            exact ih250 (i + 1) (by omega) (by omega) _ (lv_sub hl [4, 5, 6, 7, 8, 9, 10, 11, 12, 0] rfl)
        · skip
          by_cases hq : z_pl D i = 2
          · skip
            have hq3 : z_pl D i ≠ 3 := by omega
            refine lv_aload_n hx hb dL_law_257 rfl (lv_at hl 1 rfl) ?_
            refine lv_iload hx hb dL_law_258 (lv_at hl 9 rfl) ?_
            refine z_rVi (v := z_shf G D i) [] hx hb hml hown hts (m_X2_shelfOf l Dg cI h na ta G D G1 D1 i (by omega) hG hW) gL_law_X2_shelfOf rfl kd_X2_shelfOf ⟨Nat.le_of_ble_eq_true rfl, Nat.le_of_ble_eq_true rfl⟩ (q_KI hK) hN (z_Pl hP) rfl rfl rfl rfl hl.1 rfl (Nat.le_of_ble_eq_true rfl) dL_law_260 ⟨by show _ ≤ 801385; omega, by show _ ≤ 6697312; omega⟩ ?_
            refine z_top (x' := -1) (q_shf0 hp) ?_
            refine lv_if_lt (tgt := 270) hx hb dL_law_263 (by decide) (fun c263 => ?_) (fun c263 => absurd (by decide) c263)
            refine lv_iconst (v := 0) hx hb dL_law_270 (by decide) ?_
            refine lv_istore (lv' := [(11, .int 0), (0, .ref b), (1, .ref h), (2, .ref (sa 0)), (3, .int (nI tm)), (4, .int x), (5, .long (z_dg G D)), (7, .int (nI (z_tc G))), (8, .int (nI (z_cn G D 1))), (9, .int 0), (10, .int (nI i))]) hx hb dL_law_271 hl (by decide) rfl (fun ls hl => ?_)
            refine lv_aload_n hx hb dL_law_273 rfl (lv_at hl 2 rfl) ?_
            refine lv_iload hx hb dL_law_274 (lv_at hl 10 rfl) ?_
            refine z_rVi (v := z_bsh G D i) [] hx hb hml hown hts (m_X2_bestShelf l Dg cI h na ta G D G1 D1 i (by omega) hG hW) gL_law_X2_bestShelf rfl kd_X2_bestShelf ⟨Nat.le_of_ble_eq_true rfl, Nat.le_of_ble_eq_true rfl⟩ (q_KI hK) hN (z_Pl hP) rfl rfl rfl rfl hl.1 rfl (Nat.le_of_ble_eq_true rfl) dL_law_276 ⟨by show _ ≤ 801385; omega, by show _ ≤ 6697312; omega⟩ ?_
            refine z_top (x' := -1) (q_bsh0 hp) ?_
            refine lv_istore (lv' := [(12, .int (-1)), (11, .int 0), (0, .ref b), (1, .ref h), (2, .ref (sa 0)), (3, .int (nI tm)), (4, .int x), (5, .long (z_dg G D)), (7, .int (nI (z_tc G))), (8, .int (nI (z_cn G D 1))), (9, .int 0), (10, .int (nI i))]) hx hb dL_law_279 hl (by decide) rfl (fun ls hl => ?_)
            refine lv_iload hx hb dL_law_281 (lv_at hl 6 rfl) ?_
            refine lv_iconst (v := nI 3) hx hb dL_law_283 (by decide) ?_
            refine lv_ishr hx hb dL_law_284 ?_
            refine lv_iload hx hb dL_law_285 (lv_at hl 11 rfl) ?_
            refine lv_iadd hx hb dL_law_287 ?_
            refine lv_iconst (v := nI 4) hx hb dL_law_288 (by decide) ?_
            refine q_rSi (v := nI (q_bl ((x >>> ((nI 3) &&& 31)) + (nI i)) 4)) [] hx hb hml hown hts (m_L_below l Dg cI cR cZ ((x >>> ((nI 3) &&& 31)) + (nI i)) 4 (by decide) (by decide)) gL_law_L_below rfl kdS_L_below ⟨Nat.le_of_ble_eq_true rfl, Nat.le_of_ble_eq_true rfl⟩ hK hN hJ z_P0 rfl rfl hl.1 (Nat.le_of_ble_eq_true rfl) dL_law_289 ⟨by show _ ≤ 801385; omega, by show _ ≤ 6697312; omega⟩ ?_
            obtain ⟨j289, hj289, ej289⟩ := q_bl_ex ((x >>> ((nI 3) &&& 31)) + (nI i)) (k := 4) (by decide)
            refine z_top (x' := nI j289) (congrArg nI ej289) ?_
            refine lv_istore (lv' := [(13, .int (nI j289)), (12, .int (-1)), (11, .int 0), (0, .ref b), (1, .ref h), (2, .ref (sa 0)), (3, .int (nI tm)), (4, .int x), (5, .long (z_dg G D)), (7, .int (nI (z_tc G))), (8, .int (nI (z_cn G D 1))), (9, .int 0), (10, .int (nI i))]) hx hb dL_law_292 hl (by decide) rfl (fun ls hl => ?_)
            refine lv_iload hx hb dL_law_294 (lv_at hl 2 rfl) ?_
            refine lv_if_eq (tgt := 303) hx hb dL_law_296 (by decide) (fun c296 => ?_) (fun c296 => absurd rfl c296)
            refine lv_iconst (v := 0) hx hb dL_law_303 (by decide) ?_
            refine lv_aload_n hx hb dL_law_304 rfl (lv_at hl 4 rfl) ?_
            refine lv_iload hx hb dL_law_305 (lv_at hl 12 rfl) ?_
            refine z_rVi (v := z_bI (z_pl D i == 2)) [.int 0] hx hb hml hown hts (m_X2_isShipped l Dg cI h na ta G D G1 D1 i (by omega) hG hW) gL_law_X2_isShipped rfl kd_X2_isShipped ⟨Nat.le_of_ble_eq_true rfl, Nat.le_of_ble_eq_true rfl⟩ (q_KI hK) hN (z_Pl hP) rfl rfl rfl rfl hl.1 rfl (Nat.le_of_ble_eq_true rfl) dL_law_307 ⟨by show _ ≤ 801385; omega, by show _ ≤ 6697312; omega⟩ ?_
            refine z_top (x' := 1) (q_is _ _ hq) ?_
            refine lv_if_eq (tgt := 317) hx hb dL_law_310 (by decide) (fun c310 => absurd c310 (by decide)) (fun c310 => ?_)
            refine lv_iconst (v := 1) hx hb dL_law_313 (by decide) ?_
            refine lv_goto (tgt := 318) hx hb dL_law_314 (by decide) ?_
            refine lv_iadd hx hb dL_law_318 ?_
            refine z_top (x' := 1) (by decide) ?_
            refine lv_aload_n hx hb dL_law_319 rfl (lv_at hl 4 rfl) ?_
            refine lv_iload hx hb dL_law_320 (lv_at hl 12 rfl) ?_
            refine z_rVi (v := z_bI (z_pl D i == 3)) [.int 1] hx hb hml hown hts (m_X2_isLost l Dg cI h na ta G D G1 D1 i (by omega) hG hW) gL_law_X2_isLost rfl kd_X2_isLost ⟨Nat.le_of_ble_eq_true rfl, Nat.le_of_ble_eq_true rfl⟩ (q_KI hK) hN (z_Pl hP) rfl rfl rfl rfl hl.1 rfl (Nat.le_of_ble_eq_true rfl) dL_law_322 ⟨by show _ ≤ 801385; omega, by show _ ≤ 6697312; omega⟩ ?_
            refine z_top (x' := 0) (q_isn _ _ hq3) ?_
            refine lv_if_eq (tgt := 332) hx hb dL_law_325 (by decide) (fun c325 => ?_) (fun c325 => absurd rfl c325)
            refine lv_iconst (v := 0) hx hb dL_law_332 (by decide) ?_
            refine lv_iadd hx hb dL_law_333 ?_
            refine z_top (x' := 1) (by decide) ?_
            refine lv_iconst (v := 1) hx hb dL_law_334 (by decide) ?_
            refine lv_icmp_ne (tgt := 415) hx hb dL_law_335 (by decide) (fun c335 => absurd rfl c335) (fun c335 => ?_)
            refine lv_iload hx hb dL_law_338 (lv_at hl 2 rfl) ?_
            refine lv_if_eq (tgt := 376) hx hb dL_law_340 (by decide) (fun c340 => ?_) (fun c340 => absurd rfl c340)
            refine lv_aload_n hx hb dL_law_376 rfl (lv_at hl 4 rfl) ?_
            refine lv_iload hx hb dL_law_377 (lv_at hl 12 rfl) ?_
            refine z_rVi (v := z_vc D i) [] hx hb hml hown hts (m_X2_vacuumOf l Dg cI h na ta G D G1 D1 i (by omega) hG hW) gL_law_X2_vacuumOf rfl kd_X2_vacuumOf ⟨Nat.le_of_ble_eq_true rfl, Nat.le_of_ble_eq_true rfl⟩ (q_KI hK) hN (z_Pl hP) rfl rfl rfl rfl hl.1 rfl (Nat.le_of_ble_eq_true rfl) dL_law_379 ⟨by show _ ≤ 801385; omega, by show _ ≤ 6697312; omega⟩ ?_
            refine lv_if_lt (tgt := 415) hx hb dL_law_382 (by decide) (fun c382 => absurd c382 (z_i32_nlt hvi)) (fun c382 => ?_)
            refine lv_iload hx hb dL_law_385 (lv_at hl 2 rfl) ?_
            refine lv_iload hx hb dL_law_387 (lv_at hl 1 rfl) ?_
            refine lv_if_lt (tgt := 396) hx hb dL_law_389 (by decide) (fun c389 => ?_) (fun c389 => absurd (by decide) c389)
            refine lv_iconst (v := 0) hx hb dL_law_396 (by decide) ?_
            refine lv_icmp_ne (tgt := 415) hx hb dL_law_397 (by decide) (fun c397 => absurd rfl c397) (fun c397 => ?_)
            refine lv_iload hx hb dL_law_400 (lv_at hl 2 rfl) ?_
            refine lv_if_ne (tgt := 417) hx hb dL_law_402 (by decide) (fun c402 => absurd rfl c402) (fun c402 => ?_)
            refine lv_aload_n hx hb dL_law_405 rfl (lv_at hl 4 rfl) ?_
            refine lv_iload hx hb dL_law_406 (lv_at hl 12 rfl) ?_
            refine z_rVi (v := z_dof G D i) [] hx hb hml hown hts (m_X2_daysOf l Dg cI h na ta G D G1 D1 i (by omega) hG hW) gL_law_X2_daysOf rfl kd_X2_daysOf ⟨Nat.le_of_ble_eq_true rfl, Nat.le_of_ble_eq_true rfl⟩ (q_KI hK) hN (z_Pl hP) rfl rfl rfl rfl hl.1 rfl (Nat.le_of_ble_eq_true rfl) dL_law_408 ⟨by show _ ≤ 801385; omega, by show _ ≤ 6697312; omega⟩ ?_
            refine z_top (x' := -1) (q_dof0 hp) ?_
            refine lv_iconst (v := -1) hx hb dL_law_411 (by decide) ?_
            refine lv_icmp_eq (tgt := 417) hx hb dL_law_412 (by decide) (fun c412 => ?_) (fun c412 => absurd rfl c412)
            refine lv_iload hx hb dL_law_417 (lv_at hl 2 rfl) ?_
            refine lv_if_eq (tgt := 469) hx hb dL_law_419 (by decide) (fun c419 => ?_) (fun c419 => absurd rfl c419)
            refine lv_iinc (v := nI (i + 1)) (lv' := [(10, .int (nI (i + 1))), (13, .int (nI j289)), (12, .int (-1)), (11, .int 0), (0, .ref b), (1, .ref h), (2, .ref (sa 0)), (3, .int (nI tm)), (4, .int x), (5, .long (z_dg G D)), (7, .int (nI (z_tc G))), (8, .int (nI (z_cn G D 1))), (9, .int 0)]) hx hb dL_law_469 hl (k := 12) rfl (nI_1 _) (by decide) rfl (fun ls hl => ?_)
            refine lv_goto (tgt := 250) hx hb dL_law_472 (by decide) ?_
            exact ih250 (i + 1) (by omega) (by omega) _ (lv_sub hl [4, 5, 6, 7, 8, 9, 10, 11, 12, 0] rfl)
          · skip
            have hq3 : z_pl D i = 3 := by have := hW i hi2; omega
            refine lv_aload_n hx hb dL_law_257 rfl (lv_at hl 1 rfl) ?_
            refine lv_iload hx hb dL_law_258 (lv_at hl 9 rfl) ?_
            refine z_rVi (v := z_shf G D i) [] hx hb hml hown hts (m_X2_shelfOf l Dg cI h na ta G D G1 D1 i (by omega) hG hW) gL_law_X2_shelfOf rfl kd_X2_shelfOf ⟨Nat.le_of_ble_eq_true rfl, Nat.le_of_ble_eq_true rfl⟩ (q_KI hK) hN (z_Pl hP) rfl rfl rfl rfl hl.1 rfl (Nat.le_of_ble_eq_true rfl) dL_law_260 ⟨by show _ ≤ 801385; omega, by show _ ≤ 6697312; omega⟩ ?_
            refine z_top (x' := -1) (q_shf0 hp) ?_
            refine lv_if_lt (tgt := 270) hx hb dL_law_263 (by decide) (fun c263 => ?_) (fun c263 => absurd (by decide) c263)
            refine lv_iconst (v := 0) hx hb dL_law_270 (by decide) ?_
            refine lv_istore (lv' := [(11, .int 0), (0, .ref b), (1, .ref h), (2, .ref (sa 0)), (3, .int (nI tm)), (4, .int x), (5, .long (z_dg G D)), (7, .int (nI (z_tc G))), (8, .int (nI (z_cn G D 1))), (9, .int 0), (10, .int (nI i))]) hx hb dL_law_271 hl (by decide) rfl (fun ls hl => ?_)
            refine lv_aload_n hx hb dL_law_273 rfl (lv_at hl 2 rfl) ?_
            refine lv_iload hx hb dL_law_274 (lv_at hl 10 rfl) ?_
            refine z_rVi (v := z_bsh G D i) [] hx hb hml hown hts (m_X2_bestShelf l Dg cI h na ta G D G1 D1 i (by omega) hG hW) gL_law_X2_bestShelf rfl kd_X2_bestShelf ⟨Nat.le_of_ble_eq_true rfl, Nat.le_of_ble_eq_true rfl⟩ (q_KI hK) hN (z_Pl hP) rfl rfl rfl rfl hl.1 rfl (Nat.le_of_ble_eq_true rfl) dL_law_276 ⟨by show _ ≤ 801385; omega, by show _ ≤ 6697312; omega⟩ ?_
            refine z_top (x' := -1) (q_bsh0 hp) ?_
            refine lv_istore (lv' := [(12, .int (-1)), (11, .int 0), (0, .ref b), (1, .ref h), (2, .ref (sa 0)), (3, .int (nI tm)), (4, .int x), (5, .long (z_dg G D)), (7, .int (nI (z_tc G))), (8, .int (nI (z_cn G D 1))), (9, .int 0), (10, .int (nI i))]) hx hb dL_law_279 hl (by decide) rfl (fun ls hl => ?_)
            refine lv_iload hx hb dL_law_281 (lv_at hl 6 rfl) ?_
            refine lv_iconst (v := nI 3) hx hb dL_law_283 (by decide) ?_
            refine lv_ishr hx hb dL_law_284 ?_
            refine lv_iload hx hb dL_law_285 (lv_at hl 11 rfl) ?_
            refine lv_iadd hx hb dL_law_287 ?_
            refine lv_iconst (v := nI 4) hx hb dL_law_288 (by decide) ?_
            refine q_rSi (v := nI (q_bl ((x >>> ((nI 3) &&& 31)) + (nI i)) 4)) [] hx hb hml hown hts (m_L_below l Dg cI cR cZ ((x >>> ((nI 3) &&& 31)) + (nI i)) 4 (by decide) (by decide)) gL_law_L_below rfl kdS_L_below ⟨Nat.le_of_ble_eq_true rfl, Nat.le_of_ble_eq_true rfl⟩ hK hN hJ z_P0 rfl rfl hl.1 (Nat.le_of_ble_eq_true rfl) dL_law_289 ⟨by show _ ≤ 801385; omega, by show _ ≤ 6697312; omega⟩ ?_
            obtain ⟨j289, hj289, ej289⟩ := q_bl_ex ((x >>> ((nI 3) &&& 31)) + (nI i)) (k := 4) (by decide)
            refine z_top (x' := nI j289) (congrArg nI ej289) ?_
            refine lv_istore (lv' := [(13, .int (nI j289)), (12, .int (-1)), (11, .int 0), (0, .ref b), (1, .ref h), (2, .ref (sa 0)), (3, .int (nI tm)), (4, .int x), (5, .long (z_dg G D)), (7, .int (nI (z_tc G))), (8, .int (nI (z_cn G D 1))), (9, .int 0), (10, .int (nI i))]) hx hb dL_law_292 hl (by decide) rfl (fun ls hl => ?_)
            refine lv_iload hx hb dL_law_294 (lv_at hl 2 rfl) ?_
            refine lv_if_eq (tgt := 303) hx hb dL_law_296 (by decide) (fun c296 => ?_) (fun c296 => absurd rfl c296)
            refine lv_iconst (v := 0) hx hb dL_law_303 (by decide) ?_
            refine lv_aload_n hx hb dL_law_304 rfl (lv_at hl 4 rfl) ?_
            refine lv_iload hx hb dL_law_305 (lv_at hl 12 rfl) ?_
            refine z_rVi (v := z_bI (z_pl D i == 2)) [.int 0] hx hb hml hown hts (m_X2_isShipped l Dg cI h na ta G D G1 D1 i (by omega) hG hW) gL_law_X2_isShipped rfl kd_X2_isShipped ⟨Nat.le_of_ble_eq_true rfl, Nat.le_of_ble_eq_true rfl⟩ (q_KI hK) hN (z_Pl hP) rfl rfl rfl rfl hl.1 rfl (Nat.le_of_ble_eq_true rfl) dL_law_307 ⟨by show _ ≤ 801385; omega, by show _ ≤ 6697312; omega⟩ ?_
            refine z_top (x' := 0) (q_isn _ _ hq) ?_
            refine lv_if_eq (tgt := 317) hx hb dL_law_310 (by decide) (fun c310 => ?_) (fun c310 => absurd rfl c310)
            refine lv_iconst (v := 0) hx hb dL_law_317 (by decide) ?_
            refine lv_iadd hx hb dL_law_318 ?_
            refine z_top (x' := 0) (by decide) ?_
            refine lv_aload_n hx hb dL_law_319 rfl (lv_at hl 4 rfl) ?_
            refine lv_iload hx hb dL_law_320 (lv_at hl 12 rfl) ?_
            refine z_rVi (v := z_bI (z_pl D i == 3)) [.int 0] hx hb hml hown hts (m_X2_isLost l Dg cI h na ta G D G1 D1 i (by omega) hG hW) gL_law_X2_isLost rfl kd_X2_isLost ⟨Nat.le_of_ble_eq_true rfl, Nat.le_of_ble_eq_true rfl⟩ (q_KI hK) hN (z_Pl hP) rfl rfl rfl rfl hl.1 rfl (Nat.le_of_ble_eq_true rfl) dL_law_322 ⟨by show _ ≤ 801385; omega, by show _ ≤ 6697312; omega⟩ ?_
            refine z_top (x' := 1) (q_is _ _ hq3) ?_
            refine lv_if_eq (tgt := 332) hx hb dL_law_325 (by decide) (fun c325 => absurd c325 (by decide)) (fun c325 => ?_)
            refine lv_iconst (v := 1) hx hb dL_law_328 (by decide) ?_
            refine lv_goto (tgt := 333) hx hb dL_law_329 (by decide) ?_
            refine lv_iadd hx hb dL_law_333 ?_
            refine z_top (x' := 1) (by decide) ?_
            refine lv_iconst (v := 1) hx hb dL_law_334 (by decide) ?_
            refine lv_icmp_ne (tgt := 415) hx hb dL_law_335 (by decide) (fun c335 => absurd rfl c335) (fun c335 => ?_)
            refine lv_iload hx hb dL_law_338 (lv_at hl 2 rfl) ?_
            refine lv_if_eq (tgt := 376) hx hb dL_law_340 (by decide) (fun c340 => ?_) (fun c340 => absurd rfl c340)
            refine lv_aload_n hx hb dL_law_376 rfl (lv_at hl 4 rfl) ?_
            refine lv_iload hx hb dL_law_377 (lv_at hl 12 rfl) ?_
            refine z_rVi (v := z_vc D i) [] hx hb hml hown hts (m_X2_vacuumOf l Dg cI h na ta G D G1 D1 i (by omega) hG hW) gL_law_X2_vacuumOf rfl kd_X2_vacuumOf ⟨Nat.le_of_ble_eq_true rfl, Nat.le_of_ble_eq_true rfl⟩ (q_KI hK) hN (z_Pl hP) rfl rfl rfl rfl hl.1 rfl (Nat.le_of_ble_eq_true rfl) dL_law_379 ⟨by show _ ≤ 801385; omega, by show _ ≤ 6697312; omega⟩ ?_
            refine lv_if_lt (tgt := 415) hx hb dL_law_382 (by decide) (fun c382 => absurd c382 (z_i32_nlt hvi)) (fun c382 => ?_)
            refine lv_iload hx hb dL_law_385 (lv_at hl 2 rfl) ?_
            refine lv_iload hx hb dL_law_387 (lv_at hl 1 rfl) ?_
            refine lv_if_lt (tgt := 396) hx hb dL_law_389 (by decide) (fun c389 => ?_) (fun c389 => absurd (by decide) c389)
            refine lv_iconst (v := 0) hx hb dL_law_396 (by decide) ?_
            refine lv_icmp_ne (tgt := 415) hx hb dL_law_397 (by decide) (fun c397 => absurd rfl c397) (fun c397 => ?_)
            refine lv_iload hx hb dL_law_400 (lv_at hl 2 rfl) ?_
            refine lv_if_ne (tgt := 417) hx hb dL_law_402 (by decide) (fun c402 => absurd rfl c402) (fun c402 => ?_)
            refine lv_aload_n hx hb dL_law_405 rfl (lv_at hl 4 rfl) ?_
            refine lv_iload hx hb dL_law_406 (lv_at hl 12 rfl) ?_
            refine z_rVi (v := z_dof G D i) [] hx hb hml hown hts (m_X2_daysOf l Dg cI h na ta G D G1 D1 i (by omega) hG hW) gL_law_X2_daysOf rfl kd_X2_daysOf ⟨Nat.le_of_ble_eq_true rfl, Nat.le_of_ble_eq_true rfl⟩ (q_KI hK) hN (z_Pl hP) rfl rfl rfl rfl hl.1 rfl (Nat.le_of_ble_eq_true rfl) dL_law_408 ⟨by show _ ≤ 801385; omega, by show _ ≤ 6697312; omega⟩ ?_
            refine z_top (x' := -1) (q_dof0 hp) ?_
            refine lv_iconst (v := -1) hx hb dL_law_411 (by decide) ?_
            refine lv_icmp_eq (tgt := 417) hx hb dL_law_412 (by decide) (fun c412 => ?_) (fun c412 => absurd rfl c412)
            refine lv_iload hx hb dL_law_417 (lv_at hl 2 rfl) ?_
            refine lv_if_eq (tgt := 469) hx hb dL_law_419 (by decide) (fun c419 => ?_) (fun c419 => absurd rfl c419)
            refine lv_iinc (v := nI (i + 1)) (lv' := [(10, .int (nI (i + 1))), (13, .int (nI j289)), (12, .int (-1)), (11, .int 0), (0, .ref b), (1, .ref h), (2, .ref (sa 0)), (3, .int (nI tm)), (4, .int x), (5, .long (z_dg G D)), (7, .int (nI (z_tc G))), (8, .int (nI (z_cn G D 1))), (9, .int 0)]) hx hb dL_law_469 hl (k := 12) rfl (nI_1 _) (by decide) rfl (fun ls hl => ?_)
            refine lv_goto (tgt := 250) hx hb dL_law_472 (by decide) ?_
            exact ih250 (i + 1) (by omega) (by omega) _ (lv_sub hl [4, 5, 6, 7, 8, 9, 10, 11, 12, 0] rfl)
  exact lp250 (z_tc G + 1) 0 (by omega) (by omega) _ (lv_sub hl [1, 2, 3, 4, 5, 6, 7, 8, 9, 0] rfl)
