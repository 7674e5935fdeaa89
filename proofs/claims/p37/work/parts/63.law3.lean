
set_option maxHeartbeats 40000000 in
set_option maxRecDepth 100000 in
theorem m_law_T3 {p : Program} {l : Launch} {e : Env} {s : State} {m : MethodId} {below : List Frame} {meth : Method} {c : Code} {b Ls : Nat} {xs : Nat → Int32} {Dg : va_G} {cI cR cZ : ClassId} (C0 : q_CL p l s m meth c b Ls xs Dg cI cR cZ) {Q : State → Prop} {h : Nat} {na ta : Nat → Nat} {sa rb rt : Nat → Nat} {G : z_GG} {D : z_DD} (hI : q_I G D) (x : Int32) (tm : Nat) (c0 s0 : Nat) (hc : c0 ≤ 700000) (hs : s0 ≤ 6000000)  (K : q_Go p l e s m below meth c b Q Dg cI cR h na ta sa rb rt G D [] 603 c0 s0 [(0, .ref b), (1, .ref h), (2, .ref (sa 0)), (3, .int (nI tm)), (4, .int x), (5, .long (z_dg G D)), (7, .int (nI (z_tc G)))]) : q_Go p l e s m below meth c b Q Dg cI cR h na ta sa rb rt G D [] 475 c0 s0 [(0, .ref b), (1, .ref h), (2, .ref (sa 0)), (3, .int (nI tm)), (4, .int x), (5, .long (z_dg G D)), (7, .int (nI (z_tc G))), (8, .int (nI (z_cn G D 1))), (9, .int 0)] := by
  obtain ⟨hx, hb, hr, hml, hown, hts, hXs, hbl, hlk, hK, hN, hJ, hE, hTA, hL, hst⟩ := C0
  obtain ⟨hG, hW, hB, hV, h5, h6, h7, h8, h9, h10⟩ := id hI
  have htc : z_tc G ≤ 60 := hG.2.2.2.2.2.1
  have hbc : z_bc G ≤ 6 := hG.2.2.2.2.1
  have hsd : z_sd G ≤ 9 := hG.2.2.2.2.2.2.1
  have hod : z_od G ≤ 2 := hG.2.2.2.2.2.2.2
  have hcn1 := q_cn_le (G := G) (D := D) 1
  have hcn2 := q_cn_le (G := G) (D := D) 2
  have hcn3 := q_cn_le (G := G) (D := D) 3
  have hbA : ¬ s.heap.size ≤ b := Nat.not_le.mpr hbl
  have hA : ∀ q : Nat, s.heap.size ≤ q → (fun q => s.heap.size ≤ q) q := fun _ z => z
  intro G1 D1 H locs ls hP hD hS hl
  have hP : va_P Dg vwCl (z_cW cI h na ta G D G1 D1 ++ q_W cI cR sa rb rt G D) H := hP
  have hD : va_D _ (z_cW cI h na ta G D G1 D1 ++ q_W cI cR sa rb rt G D) := hD
  refine lv_iconst (v := nI 0) hx hb dL_law_475 (by decide) ?_
  refine lv_istore (lv' := [(10, .int (nI 0)), (0, .ref b), (1, .ref h), (2, .ref (sa 0)), (3, .int (nI tm)), (4, .int x), (5, .long (z_dg G D)), (7, .int (nI (z_tc G))), (8, .int (nI (z_cn G D 1))), (9, .int 0)]) hx hb dL_law_476 hl (by decide) rfl (fun ls hl => ?_)
  have hl : lv_has ls 23 [(10, .int (nI 0)), (0, .ref b), (1, .ref h), (2, .ref (sa 0)), (3, .int (nI tm)), (4, .int x), (5, .long (z_dg G D)), (7, .int (nI (z_tc G))), (8, .int (nI (z_cn G D 1))), (9, .int (z_sum (z_sw D) 0))] := by have q : 0 = z_sum (z_sw D) 0 := rfl; rw [← q]; exact hl
  have lp478 : ∀ (zz i : Nat) (Ga : z_GG) (Da : z_DD), i ≤ z_bc G → z_bc G + 1 ≤ i + zz → ∀ (H : Heap) (locs : List Loc), va_P Dg vwCl (z_cW cI h na ta G D Ga Da ++ q_W cI cR sa rb rt G D) H → va_D (fun q => s.heap.size ≤ q) (z_cW cI h na ta G D Ga Da ++ q_W cI cR sa rb rt G D) → va_S (fun q => s.heap.size ≤ q) s.heap H locs → ∀ ls : Array Slot, lv_has ls 23 [(0, .ref b), (1, .ref h), (2, .ref (sa 0)), (3, .int (nI tm)), (4, .int x), (5, .long (z_dg G D)), (7, .int (nI (z_tc G))), (8, .int (nI (z_cn G D 1))), (9, .int (z_sum (z_sw D) i)), (10, .int (nI i))] → W p l e room_1 s m ([Value.ref b] : List Value).toArray below meth c H locs c0 s0 Q (F0 m 478 ls []) := by
    intro zz
    induction zz with
    | zero => intros; exfalso; omega
    | succ zz ih478 =>
      intro i Ga Da hi hzz H locs hP hD hS ls hl
      refine lv_iload hx hb dL_law_478 (lv_at hl 9 rfl) ?_
      refine lv_aload_n hx hb dL_law_480 rfl (lv_at hl 1 rfl) ?_
      refine z_rVi (v := nI (z_bc G)) [.int (nI i)] hx hb hml hown hts (m_X2_batches l Dg cI h na ta G D Ga Da hG hW) gL_law_X2_batches rfl kd_X2_batches ⟨Nat.le_of_ble_eq_true rfl, Nat.le_of_ble_eq_true rfl⟩ (q_KI hK) hN (z_Pl hP) rfl rfl rfl rfl hl.1 rfl (Nat.le_of_ble_eq_true rfl) dL_law_481 ⟨by show _ ≤ 801385; omega, by show _ ≤ 6697312; omega⟩ ?_
      refine lv_icmp_ge (tgt := 566) hx hb dL_law_484 (by decide) (fun c484 => ?_) (fun c484 => ?_)
      · skip
        have h9x : i = z_bc G := Nat.le_antisymm hi (z_le (by omega) (by omega) c484)
        subst h9x
        refine lv_iload hx hb dL_law_566 (lv_at hl 8 rfl) ?_
        refine lv_aload_n hx hb dL_law_568 rfl (lv_at hl 1 rfl) ?_
        refine z_rVi (v := z_sum (z_sw D) (z_bc G)) [.int (z_sum (z_sw D) (z_bc G))] hx hb hml hown hts (m_X2_swelled l Dg cI h na ta G D Ga Da hG hW) gL_law_X2_swelled rfl kd_X2_swelled ⟨Nat.le_of_ble_eq_true rfl, Nat.le_of_ble_eq_true rfl⟩ (q_KI hK) hN (z_Pl hP) rfl rfl rfl rfl hl.1 rfl (Nat.le_of_ble_eq_true rfl) dL_law_569 ⟨by show _ ≤ 801385; omega, by show _ ≤ 6697312; omega⟩ ?_
        refine lv_icmp_ne (tgt := 601) hx hb dL_law_572 (by decide) (fun c572 => absurd rfl c572) (fun c572 => ?_)
        refine lv_iload hx hb dL_law_575 (lv_at hl 8 rfl) ?_
        refine lv_aload_n hx hb dL_law_577 rfl (lv_at hl 1 rfl) ?_
        refine z_rVi (v := nI (z_cn G D 3)) [.int (z_sum (z_sw D) (z_bc G))] hx hb hml hown hts (m_X2_lost l Dg cI h na ta G D Ga Da hG hW) gL_law_X2_lost rfl kd_X2_lost ⟨Nat.le_of_ble_eq_true rfl, Nat.le_of_ble_eq_true rfl⟩ (q_KI hK) hN (z_Pl hP) rfl rfl rfl rfl hl.1 rfl (Nat.le_of_ble_eq_true rfl) dL_law_578 ⟨by show _ ≤ 801385; omega, by show _ ≤ 6697312; omega⟩ ?_
        refine lv_icmp_gt (tgt := 601) hx hb dL_law_581 (by decide) (fun c581 => absurd c581 (z_i32_nlt (by rw [q_sum hI]; exact nI_le (q_ns_le _) (by omega)))) (fun c581 => ?_)
        refine lv_iload hx hb dL_law_584 (lv_at hl 7 rfl) ?_
        refine lv_aload_n hx hb dL_law_586 rfl (lv_at hl 1 rfl) ?_
        refine z_rVi (v := nI (z_cn G D 2)) [.int (nI (z_cn G D 1))] hx hb hml hown hts (m_X2_shipped l Dg cI h na ta G D Ga Da hG hW) gL_law_X2_shipped rfl kd_X2_shipped ⟨Nat.le_of_ble_eq_true rfl, Nat.le_of_ble_eq_true rfl⟩ (q_KI hK) hN (z_Pl hP) rfl rfl rfl rfl hl.1 rfl (Nat.le_of_ble_eq_true rfl) dL_law_587 ⟨by show _ ≤ 801385; omega, by show _ ≤ 6697312; omega⟩ ?_
        refine lv_iadd hx hb dL_law_590 ?_
        refine z_top (x' := nI ((z_cn G D 1) + (z_cn G D 2))) (nI_add _ _) ?_
        refine lv_aload_n hx hb dL_law_591 rfl (lv_at hl 1 rfl) ?_
        refine z_rVi (v := nI (z_cn G D 3)) [.int (nI ((z_cn G D 1) + (z_cn G D 2)))] hx hb hml hown hts (m_X2_lost l Dg cI h na ta G D Ga Da hG hW) gL_law_X2_lost rfl kd_X2_lost ⟨Nat.le_of_ble_eq_true rfl, Nat.le_of_ble_eq_true rfl⟩ (q_KI hK) hN (z_Pl hP) rfl rfl rfl rfl hl.1 rfl (Nat.le_of_ble_eq_true rfl) dL_law_592 ⟨by show _ ≤ 801385; omega, by show _ ≤ 6697312; omega⟩ ?_
        refine lv_iadd hx hb dL_law_595 ?_
        refine z_top (x' := nI (((z_cn G D 1) + (z_cn G D 2)) + (z_cn G D 3))) (nI_add _ _) ?_
        refine lv_iload hx hb dL_law_596 (lv_at hl 6 rfl) ?_
        refine lv_icmp_eq (tgt := 603) hx hb dL_law_598 (by decide) (fun c598 => ?_) (fun c598 => absurd (congrArg nI (q_cn3 hW)) c598)
        exact K Ga Da _ _ _ hP hD hS (lv_sub hl [0, 1, 2, 3, 4, 5, 6] rfl)
      · skip
        have hi2 : i < z_bc G := z_nle (by omega) c484
        by_cases hr : z_rc D i = true
        · skip
          refine lv_iload hx hb dL_law_487 (lv_at hl 8 rfl) ?_
          refine lv_aload_n hx hb dL_law_489 rfl (lv_at hl 1 rfl) ?_
          refine lv_iload hx hb dL_law_490 (lv_at hl 9 rfl) ?_
          refine z_rVi (v := z_sw D i) [.int (z_sum (z_sw D) i)] hx hb hml hown hts (m_X2_swelledOf l Dg cI h na ta G D Ga Da i (by omega) hG hW) gL_law_X2_swelledOf rfl kd_X2_swelledOf ⟨Nat.le_of_ble_eq_true rfl, Nat.le_of_ble_eq_true rfl⟩ (q_KI hK) hN (z_Pl hP) rfl rfl rfl rfl hl.1 rfl (Nat.le_of_ble_eq_true rfl) dL_law_492 ⟨by show _ ≤ 801385; omega, by show _ ≤ 6697312; omega⟩ ?_
          refine lv_iadd hx hb dL_law_495 ?_
          refine lv_istore (lv' := [(9, .int ((z_sum (z_sw D) i) + (z_sw D i))), (0, .ref b), (1, .ref h), (2, .ref (sa 0)), (3, .int (nI tm)), (4, .int x), (5, .long (z_dg G D)), (7, .int (nI (z_tc G))), (8, .int (nI (z_cn G D 1))), (10, .int (nI i))]) hx hb dL_law_496 hl (by decide) rfl (fun ls hl => ?_)
          refine lv_aload_n hx hb dL_law_498 rfl (lv_at hl 2 rfl) ?_
          refine lv_iload hx hb dL_law_499 (lv_at hl 9 rfl) ?_
          refine z_rVi (v := z_sw D i) [] hx hb hml hown hts (m_X2_swelledOf l Dg cI h na ta G D Ga Da i (by omega) hG hW) gL_law_X2_swelledOf rfl kd_X2_swelledOf ⟨Nat.le_of_ble_eq_true rfl, Nat.le_of_ble_eq_true rfl⟩ (q_KI hK) hN (z_Pl hP) rfl rfl rfl rfl hl.1 rfl (Nat.le_of_ble_eq_true rfl) dL_law_501 ⟨by show _ ≤ 801385; omega, by show _ ≤ 6697312; omega⟩ ?_
          refine lv_iconst (v := nI 2) hx hb dL_law_504 (by decide) ?_
          refine lv_icmp_le (tgt := 517) hx hb dL_law_505 (by decide) (fun c505 => ?_) (fun c505 => ?_)
          · skip
            refine lv_aload_n hx hb dL_law_517 rfl (lv_at hl 2 rfl) ?_
            refine lv_iload hx hb dL_law_518 (lv_at hl 9 rfl) ?_
            refine z_rVi (v := z_bI (z_rc D i)) [] hx hb hml hown hts (m_X2_isRecalled l Dg cI h na ta G D Ga Da i (by omega) hG hW) gL_law_X2_isRecalled rfl kd_X2_isRecalled ⟨Nat.le_of_ble_eq_true rfl, Nat.le_of_ble_eq_true rfl⟩ (q_KI hK) hN (z_Pl hP) rfl rfl rfl rfl hl.1 rfl (Nat.le_of_ble_eq_true rfl) dL_law_520 ⟨by show _ ≤ 801385; omega, by show _ ≤ 6697312; omega⟩ ?_
            refine z_top (x' := 1) (by rw [hr]; rfl) ?_
            refine lv_if_eq (tgt := 535) hx hb dL_law_523 (by decide) (fun c523 => absurd c523 (by decide)) (fun c523 => ?_)
            refine lv_aload_n hx hb dL_law_526 rfl (lv_at hl 2 rfl) ?_
            refine lv_iload hx hb dL_law_527 (lv_at hl 9 rfl) ?_
            refine z_rVi (v := nI (z_lf G D i)) [] hx hb hml hown hts (m_X2_leftOf l Dg cI h na ta G D Ga Da i (by omega) hG hW) gL_law_X2_leftOf rfl kd_X2_leftOf ⟨Nat.le_of_ble_eq_true rfl, Nat.le_of_ble_eq_true rfl⟩ (q_KI hK) hN (z_Pl hP) rfl rfl rfl rfl hl.1 rfl (Nat.le_of_ble_eq_true rfl) dL_law_529 ⟨by show _ ≤ 801385; omega, by show _ ≤ 6697312; omega⟩ ?_
            refine z_top (x' := 0) (by rw [q_lf0 hI hr]; rfl) ?_
            refine lv_if_ne (tgt := 558) hx hb dL_law_532 (by decide) (fun c532 => absurd rfl c532) (fun c532 => ?_)
            refine lv_aload_n hx hb dL_law_535 rfl (lv_at hl 2 rfl) ?_
            refine lv_iload hx hb dL_law_536 (lv_at hl 9 rfl) ?_
            refine z_wCBi (v := z_ur G D i) [] [] (q_W cI cR sa rb rt G D) hx hb hml hown hts (m_X2_daysUntilRecalled l Dg cI h na ta G D Ga Da i (by omega) hG hW) gL_law_X2_daysUntilRecalled rfl kd_X2_daysUntilRecalled ⟨Nat.le_of_ble_eq_true rfl, Nat.le_of_ble_eq_true rfl⟩ (q_KI hK) hN hP hD hS rfl hl.1 rfl (Nat.le_of_ble_eq_true rfl) dL_law_538 ⟨by show _ ≤ 801385; omega, by show _ ≤ 6697312; omega⟩ (fun G538 D538 H locs hP hD hS => ?_)
            have hP : va_P Dg vwCl (z_cW cI h na ta G D G538 D538 ++ q_W cI cR sa rb rt G D) H := hP
            have hD : va_D _ (z_cW cI h na ta G D G538 D538 ++ q_W cI cR sa rb rt G D) := hD
            refine z_top (x' := 0) (if_pos hr) ?_
            refine lv_if_ne (tgt := 548) hx hb dL_law_541 (by decide) (fun c541 => absurd rfl c541) (fun c541 => ?_)
            refine lv_iconst (v := 1) hx hb dL_law_544 (by decide) ?_
            refine lv_goto (tgt := 549) hx hb dL_law_545 (by decide) ?_
            refine lv_aload_n hx hb dL_law_549 rfl (lv_at hl 2 rfl) ?_
            refine lv_iload hx hb dL_law_550 (lv_at hl 9 rfl) ?_
            refine z_rVi (v := z_bI (z_rc D i)) [.int 1] hx hb hml hown hts (m_X2_isRecalled l Dg cI h na ta G D G538 D538 i (by omega) hG hW) gL_law_X2_isRecalled rfl kd_X2_isRecalled ⟨Nat.le_of_ble_eq_true rfl, Nat.le_of_ble_eq_true rfl⟩ (q_KI hK) hN (z_Pl hP) rfl rfl rfl rfl hl.1 rfl (Nat.le_of_ble_eq_true rfl) dL_law_552 ⟨by show _ ≤ 801385; omega, by show _ ≤ 6697312; omega⟩ ?_
            refine z_top (x' := 1) (by rw [hr]; rfl) ?_
            refine lv_icmp_eq (tgt := 560) hx hb dL_law_555 (by decide) (fun c555 => ?_) (fun c555 => absurd rfl c555)
            refine lv_iinc (v := nI (i + 1)) (lv' := [(10, .int (nI (i + 1))), (9, .int ((z_sum (z_sw D) i) + (z_sw D i))), (0, .ref b), (1, .ref h), (2, .ref (sa 0)), (3, .int (nI tm)), (4, .int x), (5, .long (z_dg G D)), (7, .int (nI (z_tc G))), (8, .int (nI (z_cn G D 1)))]) hx hb dL_law_560 hl (k := 9) rfl (nI_1 _) (by decide) rfl (fun ls hl => ?_)
            refine lv_goto (tgt := 478) hx hb dL_law_563 (by decide) ?_
            have hl : lv_has ls 23 [(10, .int (nI (i + 1))), (9, .int (z_sum (z_sw D) (i + 1))), (0, .ref b), (1, .ref h), (2, .ref (sa 0)), (3, .int (nI tm)), (4, .int x), (5, .long (z_dg G D)), (7, .int (nI (z_tc G))), (8, .int (nI (z_cn G D 1)))] := by have q : (z_sum (z_sw D) i) + (z_sw D i) = z_sum (z_sw D) (i + 1) := rfl; rw [← q]; exact hl
            exact ih478 (i + 1) G538 D538 (by omega) (by omega) _ _ hP hD hS _ (lv_sub hl [2, 3, 4, 5, 6, 7, 8, 9, 1, 0] rfl)
          · skip
            refine lv_aload_n hx hb dL_law_508 rfl (lv_at hl 2 rfl) ?_
            refine lv_iload hx hb dL_law_509 (lv_at hl 9 rfl) ?_
            refine z_rVi (v := z_bI (z_rc D i)) [] hx hb hml hown hts (m_X2_isRecalled l Dg cI h na ta G D Ga Da i (by omega) hG hW) gL_law_X2_isRecalled rfl kd_X2_isRecalled ⟨Nat.le_of_ble_eq_true rfl, Nat.le_of_ble_eq_true rfl⟩ (q_KI hK) hN (z_Pl hP) rfl rfl rfl rfl hl.1 rfl (Nat.le_of_ble_eq_true rfl) dL_law_511 ⟨by show _ ≤ 801385; omega, by show _ ≤ 6697312; omega⟩ ?_
            refine z_top (x' := 1) (by rw [hr]; rfl) ?_
            refine lv_if_eq (tgt := 558) hx hb dL_law_514 (by decide) (fun c514 => absurd c514 (by decide)) (fun c514 => ?_)
            refine lv_aload_n hx hb dL_law_517 rfl (lv_at hl 2 rfl) ?_
            refine lv_iload hx hb dL_law_518 (lv_at hl 9 rfl) ?_
            refine z_rVi (v := z_bI (z_rc D i)) [] hx hb hml hown hts (m_X2_isRecalled l Dg cI h na ta G D Ga Da i (by omega) hG hW) gL_law_X2_isRecalled rfl kd_X2_isRecalled ⟨Nat.le_of_ble_eq_true rfl, Nat.le_of_ble_eq_true rfl⟩ (q_KI hK) hN (z_Pl hP) rfl rfl rfl rfl hl.1 rfl (Nat.le_of_ble_eq_true rfl) dL_law_520 ⟨by show _ ≤ 801385; omega, by show _ ≤ 6697312; omega⟩ ?_
            refine z_top (x' := 1) (by rw [hr]; rfl) ?_
            refine lv_if_eq (tgt := 535) hx hb dL_law_523 (by decide) (fun c523 => absurd c523 (by decide)) (fun c523 => ?_)
            refine lv_aload_n hx hb dL_law_526 rfl (lv_at hl 2 rfl) ?_
            refine lv_iload hx hb dL_law_527 (lv_at hl 9 rfl) ?_
            refine z_rVi (v := nI (z_lf G D i)) [] hx hb hml hown hts (m_X2_leftOf l Dg cI h na ta G D Ga Da i (by omega) hG hW) gL_law_X2_leftOf rfl kd_X2_leftOf ⟨Nat.le_of_ble_eq_true rfl, Nat.le_of_ble_eq_true rfl⟩ (q_KI hK) hN (z_Pl hP) rfl rfl rfl rfl hl.1 rfl (Nat.le_of_ble_eq_true rfl) dL_law_529 ⟨by show _ ≤ 801385; omega, by show _ ≤ 6697312; omega⟩ ?_
            refine z_top (x' := 0) (by rw [q_lf0 hI hr]; rfl) ?_
            refine lv_if_ne (tgt := 558) hx hb dL_law_532 (by decide) (fun c532 => absurd rfl c532) (fun c532 => ?_)
            refine lv_aload_n hx hb dL_law_535 rfl (lv_at hl 2 rfl) ?_
            refine lv_iload hx hb dL_law_536 (lv_at hl 9 rfl) ?_
            refine z_wCBi (v := z_ur G D i) [] [] (q_W cI cR sa rb rt G D) hx hb hml hown hts (m_X2_daysUntilRecalled l Dg cI h na ta G D Ga Da i (by omega) hG hW) gL_law_X2_daysUntilRecalled rfl kd_X2_daysUntilRecalled ⟨Nat.le_of_ble_eq_true rfl, Nat.le_of_ble_eq_true rfl⟩ (q_KI hK) hN hP hD hS rfl hl.1 rfl (Nat.le_of_ble_eq_true rfl) dL_law_538 ⟨by show _ ≤ 801385; omega, by show _ ≤ 6697312; omega⟩ (fun G538 D538 H locs hP hD hS => ?_)
            have hP : va_P Dg vwCl (z_cW cI h na ta G D G538 D538 ++ q_W cI cR sa rb rt G D) H := hP
            have hD : va_D _ (z_cW cI h na ta G D G538 D538 ++ q_W cI cR sa rb rt G D) := hD
            refine z_top (x' := 0) (if_pos hr) ?_
            refine lv_if_ne (tgt := 548) hx hb dL_law_541 (by decide) (fun c541 => absurd rfl c541) (fun c541 => ?_)
            refine lv_iconst (v := 1) hx hb dL_law_544 (by decide) ?_
            refine lv_goto (tgt := 549) hx hb dL_law_545 (by decide) ?_
            refine lv_aload_n hx hb dL_law_549 rfl (lv_at hl 2 rfl) ?_
            refine lv_iload hx hb dL_law_550 (lv_at hl 9 rfl) ?_
            refine z_rVi (v := z_bI (z_rc D i)) [.int 1] hx hb hml hown hts (m_X2_isRecalled l Dg cI h na ta G D G538 D538 i (by omega) hG hW) gL_law_X2_isRecalled rfl kd_X2_isRecalled ⟨Nat.le_of_ble_eq_true rfl, Nat.le_of_ble_eq_true rfl⟩ (q_KI hK) hN (z_Pl hP) rfl rfl rfl rfl hl.1 rfl (Nat.le_of_ble_eq_true rfl) dL_law_552 ⟨by show _ ≤ 801385; omega, by show _ ≤ 6697312; omega⟩ ?_
            refine z_top (x' := 1) (by rw [hr]; rfl) ?_
            refine lv_icmp_eq (tgt := 560) hx hb dL_law_555 (by decide) (fun c555 => ?_) (fun c555 => absurd rfl c555)
            refine lv_iinc (v := nI (i + 1)) (lv' := [(10, .int (nI (i + 1))), (9, .int ((z_sum (z_sw D) i) + (z_sw D i))), (0, .ref b), (1, .ref h), (2, .ref (sa 0)), (3, .int (nI tm)), (4, .int x), (5, .long (z_dg G D)), (7, .int (nI (z_tc G))), (8, .int (nI (z_cn G D 1)))]) hx hb dL_law_560 hl (k := 9) rfl (nI_1 _) (by decide) rfl (fun ls hl => ?_)
            refine lv_goto (tgt := 478) hx hb dL_law_563 (by decide) ?_
            have hl : lv_has ls 23 [(10, .int (nI (i + 1))), (9, .int (z_sum (z_sw D) (i + 1))), (0, .ref b), (1, .ref h), (2, .ref (sa 0)), (3, .int (nI tm)), (4, .int x), (5, .long (z_dg G D)), (7, .int (nI (z_tc G))), (8, .int (nI (z_cn G D 1)))] := by have q : (z_sum (z_sw D) i) + (z_sw D i) = z_sum (z_sw D) (i + 1) := rfl; rw [← q]; exact hl
            exact ih478 (i + 1) G538 D538 (by omega) (by omega) _ _ hP hD hS _ (lv_sub hl [2, 3, 4, 5, 6, 7, 8, 9, 1, 0] rfl)
        · skip
          have hr0 : z_rc D i = false := by cases hq : z_rc D i with | false => rfl | true => exact absurd hq hr
          refine lv_iload hx hb dL_law_487 (lv_at hl 8 rfl) ?_
          refine lv_aload_n hx hb dL_law_489 rfl (lv_at hl 1 rfl) ?_
          refine lv_iload hx hb dL_law_490 (lv_at hl 9 rfl) ?_
          refine z_rVi (v := z_sw D i) [.int (z_sum (z_sw D) i)] hx hb hml hown hts (m_X2_swelledOf l Dg cI h na ta G D Ga Da i (by omega) hG hW) gL_law_X2_swelledOf rfl kd_X2_swelledOf ⟨Nat.le_of_ble_eq_true rfl, Nat.le_of_ble_eq_true rfl⟩ (q_KI hK) hN (z_Pl hP) rfl rfl rfl rfl hl.1 rfl (Nat.le_of_ble_eq_true rfl) dL_law_492 ⟨by show _ ≤ 801385; omega, by show _ ≤ 6697312; omega⟩ ?_
          refine lv_iadd hx hb dL_law_495 ?_
          refine lv_istore (lv' := [(9, .int ((z_sum (z_sw D) i) + (z_sw D i))), (0, .ref b), (1, .ref h), (2, .ref (sa 0)), (3, .int (nI tm)), (4, .int x), (5, .long (z_dg G D)), (7, .int (nI (z_tc G))), (8, .int (nI (z_cn G D 1))), (10, .int (nI i))]) hx hb dL_law_496 hl (by decide) rfl (fun ls hl => ?_)
          refine lv_aload_n hx hb dL_law_498 rfl (lv_at hl 2 rfl) ?_
          refine lv_iload hx hb dL_law_499 (lv_at hl 9 rfl) ?_
          refine z_rVi (v := z_sw D i) [] hx hb hml hown hts (m_X2_swelledOf l Dg cI h na ta G D Ga Da i (by omega) hG hW) gL_law_X2_swelledOf rfl kd_X2_swelledOf ⟨Nat.le_of_ble_eq_true rfl, Nat.le_of_ble_eq_true rfl⟩ (q_KI hK) hN (z_Pl hP) rfl rfl rfl rfl hl.1 rfl (Nat.le_of_ble_eq_true rfl) dL_law_501 ⟨by show _ ≤ 801385; omega, by show _ ≤ 6697312; omega⟩ ?_
          refine lv_iconst (v := nI 2) hx hb dL_law_504 (by decide) ?_
          refine lv_icmp_le (tgt := 517) hx hb dL_law_505 (by decide) (fun c505 => ?_) (fun c505 => ?_)
          · skip
            refine lv_aload_n hx hb dL_law_517 rfl (lv_at hl 2 rfl) ?_
            refine lv_iload hx hb dL_law_518 (lv_at hl 9 rfl) ?_
            refine z_rVi (v := z_bI (z_rc D i)) [] hx hb hml hown hts (m_X2_isRecalled l Dg cI h na ta G D Ga Da i (by omega) hG hW) gL_law_X2_isRecalled rfl kd_X2_isRecalled ⟨Nat.le_of_ble_eq_true rfl, Nat.le_of_ble_eq_true rfl⟩ (q_KI hK) hN (z_Pl hP) rfl rfl rfl rfl hl.1 rfl (Nat.le_of_ble_eq_true rfl) dL_law_520 ⟨by show _ ≤ 801385; omega, by show _ ≤ 6697312; omega⟩ ?_
            refine z_top (x' := 0) (by rw [hr0]; rfl) ?_
            refine lv_if_eq (tgt := 535) hx hb dL_law_523 (by decide) (fun c523 => ?_) (fun c523 => absurd rfl c523)
            refine lv_aload_n hx hb dL_law_535 rfl (lv_at hl 2 rfl) ?_
            refine lv_iload hx hb dL_law_536 (lv_at hl 9 rfl) ?_
            refine z_wCBi (v := z_ur G D i) [] [] (q_W cI cR sa rb rt G D) hx hb hml hown hts (m_X2_daysUntilRecalled l Dg cI h na ta G D Ga Da i (by omega) hG hW) gL_law_X2_daysUntilRecalled rfl kd_X2_daysUntilRecalled ⟨Nat.le_of_ble_eq_true rfl, Nat.le_of_ble_eq_true rfl⟩ (q_KI hK) hN hP hD hS rfl hl.1 rfl (Nat.le_of_ble_eq_true rfl) dL_law_538 ⟨by show _ ≤ 801385; omega, by show _ ≤ 6697312; omega⟩ (fun G538 D538 H locs hP hD hS => ?_)
            have hP : va_P Dg vwCl (z_cW cI h na ta G D G538 D538 ++ q_W cI cR sa rb rt G D) H := hP
            have hD : va_D _ (z_cW cI h na ta G D G538 D538 ++ q_W cI cR sa rb rt G D) := hD
            refine z_top (x' := z_urn G D i 60) (if_neg hr) ?_
            refine lv_if_ne (tgt := 548) hx hb dL_law_541 (by decide) (fun c541 => ?_) (fun c541 => absurd c541 (q_urn 60 (by decide)))
            refine lv_iconst (v := 0) hx hb dL_law_548 (by decide) ?_
            refine lv_aload_n hx hb dL_law_549 rfl (lv_at hl 2 rfl) ?_
            refine lv_iload hx hb dL_law_550 (lv_at hl 9 rfl) ?_
            refine z_rVi (v := z_bI (z_rc D i)) [.int 0] hx hb hml hown hts (m_X2_isRecalled l Dg cI h na ta G D G538 D538 i (by omega) hG hW) gL_law_X2_isRecalled rfl kd_X2_isRecalled ⟨Nat.le_of_ble_eq_true rfl, Nat.le_of_ble_eq_true rfl⟩ (q_KI hK) hN (z_Pl hP) rfl rfl rfl rfl hl.1 rfl (Nat.le_of_ble_eq_true rfl) dL_law_552 ⟨by show _ ≤ 801385; omega, by show _ ≤ 6697312; omega⟩ ?_
            refine z_top (x' := 0) (by rw [hr0]; rfl) ?_
            refine lv_icmp_eq (tgt := 560) hx hb dL_law_555 (by decide) (fun c555 => ?_) (fun c555 => absurd rfl c555)
            refine lv_iinc (v := nI (i + 1)) (lv' := [(10, .int (nI (i + 1))), (9, .int ((z_sum (z_sw D) i) + (z_sw D i))), (0, .ref b), (1, .ref h), (2, .ref (sa 0)), (3, .int (nI tm)), (4, .int x), (5, .long (z_dg G D)), (7, .int (nI (z_tc G))), (8, .int (nI (z_cn G D 1)))]) hx hb dL_law_560 hl (k := 9) rfl (nI_1 _) (by decide) rfl (fun ls hl => ?_)
            refine lv_goto (tgt := 478) hx hb dL_law_563 (by decide) ?_
            have hl : lv_has ls 23 [(10, .int (nI (i + 1))), (9, .int (z_sum (z_sw D) (i + 1))), (0, .ref b), (1, .ref h), (2, .ref (sa 0)), (3, .int (nI tm)), (4, .int x), (5, .long (z_dg G D)), (7, .int (nI (z_tc G))), (8, .int (nI (z_cn G D 1)))] := by have q : (z_sum (z_sw D) i) + (z_sw D i) = z_sum (z_sw D) (i + 1) := rfl; rw [← q]; exact hl
            exact ih478 (i + 1) G538 D538 (by omega) (by omega) _ _ hP hD hS _ (lv_sub hl [2, 3, 4, 5, 6, 7, 8, 9, 1, 0] rfl)
          · skip
            exact absurd (h9 i (q_3 c505)) (by rw [hr0]; decide)
  exact lp478 (z_bc G + 1) 0 G1 D1 (by omega) (by omega) _ _ hP hD hS _ (lv_sub hl [1, 2, 3, 4, 5, 6, 7, 8, 9, 0] rfl)
