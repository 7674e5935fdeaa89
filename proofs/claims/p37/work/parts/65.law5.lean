
set_option maxHeartbeats 40000000 in
set_option maxRecDepth 100000 in
theorem m_law_T5 {p : Program} {l : Launch} {e : Env} {s : State} {m : MethodId} {below : List Frame} {meth : Method} {c : Code} {b Ls : Nat} {xs : Nat → Int32} {Dg : va_G} {cI cR cZ : ClassId} (C0 : q_CL p l s m meth c b Ls xs Dg cI cR cZ) {Q : State → Prop} {h : Nat} {na ta : Nat → Nat} {sa rb rt : Nat → Nat} {G : z_GG} {D : z_DD} (hI : q_I G D) (tm : Nat) (c0 s0 : Nat) (hc : c0 ≤ 700000) (hs : s0 ≤ 6000000)  (K : ∀ qa qb qc qd : Nat, q_Go p l e s m below meth c b Q Dg cI cR h na ta sa rb rt G (z_day G D) [(qa, .inl (cI, (z_tc G), .inl (z_fi (fun _ => 0) (z_vc D) (z_tc G)))), (qb, .inl (cI, (z_tc G), .inl (z_fi (fun _ => 0) (z_dof G D) (z_tc G)))), (qc, .inl (cZ, (z_tc G), .inl (z_fi (fun _ => 0) (q_gn D) (z_tc G)))), (qd, .inl (cI, (z_tc G), .inl (z_fi (fun _ => 0) (q_fr G D) (z_tc G))))] 955 (c0 + 4) (s0 + 240) [(0, .ref b), (1, .ref h), (2, .ref (sa 0)), (3, .int (nI tm)), (7, .int (nI (z_tc G))), (14, .ref qa), (15, .ref qb), (16, .ref qc), (17, .ref qd)]) : q_Go p l e s m below meth c b Q Dg cI cR h na ta sa rb rt G D [] 764 c0 s0 [(0, .ref b), (1, .ref h), (2, .ref (sa 0)), (3, .int (nI tm)), (7, .int (nI (z_tc G))), (13, .int (z_ls G D (z_sd G) (z_od G)))] := by
  obtain ⟨hx, hb, hr, hml, hown, hts, hXs, hbl, hlk, hK, hN, hJ, hE, hTA, hL, hst⟩ := C0
  obtain ⟨hG, hW, hB, hV, h5, h6, h7, h8, h9, h10⟩ := id hI
  have htc : z_tc G ≤ 60 := hG.2.2.2.2.2.1
  have hbc : z_bc G ≤ 6 := hG.2.2.2.2.1
  have hsd : z_sd G ≤ 9 := hG.2.2.2.2.2.2.1
  have hod : z_od G ≤ 2 := hG.2.2.2.2.2.2.2
  have hcn1 := q_cn_le (G := G) (D := D) 1
  have hcn2 := q_cn_le (G := G) (D := D) 2
  have hcn3 := q_cn_le (G := G) (D := D) 3
  have hbA : ¬ s.heap.size ≤ b := Nat.not_le.mpr hbl
  have hA : ∀ q : Nat, s.heap.size ≤ q → (fun q => s.heap.size ≤ q) q := fun _ z => z
  have hwt := q_went hI
  have hcn2d := q_cn_le (G := G) (D := z_day G D) 2
  have hcn1d := q_cn_le (G := G) (D := z_day G D) 1
  have hcn3d := q_cn_le (G := G) (D := z_day G D) 3
  intro G1 D1 H locs ls hP hD hS hl
  have hP : va_P Dg vwCl (z_cW cI h na ta G D G1 D1 ++ q_W cI cR sa rb rt G D) H := hP
  have hD : va_D _ (z_cW cI h na ta G D G1 D1 ++ q_W cI cR sa rb rt G D) := hD
  refine lv_iload hx hb dL_law_764 (lv_at hl 4 rfl) ?_
  refine q_newi hx hb (hts _ (List.mem_append_left _ (List.mem_append_left _ (List.mem_append_left _ (List.mem_append_left _ (List.mem_append_left _ (List.mem_append_left _ (List.mem_append_left _ (List.mem_append_left _ (List.mem_append_left _ (List.mem_of_getElem? (i := 6) rfl))))))))))) hK hP hD hS hA rfl (by omega) (by show _ ≤ 801385; omega) (by show _ ≤ 6697312; omega) dL_law_766 (fun q1 H hP hD hS => ?_)
  have hP := q_mvP (c := z_cW cI h na ta G D G1 D1) (e := []) (s := q_W cI cR sa rb rt G D) hP
  have hD := q_mvD (c := z_cW cI h na ta G D G1 D1) (e := []) (s := q_W cI cR sa rb rt G D) hD
  have hP : va_P Dg vwCl (z_cW cI h na ta G D G1 D1 ++ ([(q1, .inl (cI, (z_tc G), .inl (fun _ => 0)))] ++ q_W cI cR sa rb rt G D)) H := hP
  have hD : va_D _ (z_cW cI h na ta G D G1 D1 ++ ([(q1, .inl (cI, (z_tc G), .inl (fun _ => 0)))] ++ q_W cI cR sa rb rt G D)) := hD
  refine lv_astore (lv' := [(14, .ref q1), (0, .ref b), (1, .ref h), (2, .ref (sa 0)), (3, .int (nI tm)), (7, .int (nI (z_tc G))), (13, .int (z_ls G D (z_sd G) (z_od G)))]) hx hb dL_law_768 hl (by decide) rfl (fun ls hl => ?_)
  refine lv_iload hx hb dL_law_770 (lv_at hl 5 rfl) ?_
  refine q_newi hx hb (hts _ (List.mem_append_left _ (List.mem_append_left _ (List.mem_append_left _ (List.mem_append_left _ (List.mem_append_left _ (List.mem_append_left _ (List.mem_append_left _ (List.mem_append_left _ (List.mem_append_left _ (List.mem_of_getElem? (i := 6) rfl))))))))))) hK hP hD hS hA rfl (by omega) (by show _ ≤ 801385; omega) (by show _ ≤ 6697312; omega) dL_law_772 (fun q2 H hP hD hS => ?_)
  have hP := q_mvP (c := z_cW cI h na ta G D G1 D1) (e := [(q1, .inl (cI, (z_tc G), .inl (fun _ => 0)))]) (s := q_W cI cR sa rb rt G D) hP
  have hD := q_mvD (c := z_cW cI h na ta G D G1 D1) (e := [(q1, .inl (cI, (z_tc G), .inl (fun _ => 0)))]) (s := q_W cI cR sa rb rt G D) hD
  have hP : va_P Dg vwCl (z_cW cI h na ta G D G1 D1 ++ ([(q1, .inl (cI, (z_tc G), .inl (fun _ => 0))), (q2, .inl (cI, (z_tc G), .inl (fun _ => 0)))] ++ q_W cI cR sa rb rt G D)) H := hP
  have hD : va_D _ (z_cW cI h na ta G D G1 D1 ++ ([(q1, .inl (cI, (z_tc G), .inl (fun _ => 0))), (q2, .inl (cI, (z_tc G), .inl (fun _ => 0)))] ++ q_W cI cR sa rb rt G D)) := hD
  refine lv_astore (lv' := [(15, .ref q2), (14, .ref q1), (0, .ref b), (1, .ref h), (2, .ref (sa 0)), (3, .int (nI tm)), (7, .int (nI (z_tc G))), (13, .int (z_ls G D (z_sd G) (z_od G)))]) hx hb dL_law_774 hl (by decide) rfl (fun ls hl => ?_)
  refine lv_iload hx hb dL_law_776 (lv_at hl 6 rfl) ?_
  refine q_newz hx hb (hts _ (List.mem_append_left _ (List.mem_append_left _ (List.mem_append_left _ (List.mem_append_left _ (List.mem_append_left _ (List.mem_append_left _ (List.mem_append_left _ (List.mem_append_left _ (List.mem_append_left _ (List.mem_of_getElem? (i := 3) rfl))))))))))) hK hP hD hS hA rfl (by omega) (by show _ ≤ 801385; omega) (by show _ ≤ 6697312; omega) dL_law_778 (fun q3 H hP hD hS => ?_)
  have hP := q_mvP (c := z_cW cI h na ta G D G1 D1) (e := [(q1, .inl (cI, (z_tc G), .inl (fun _ => 0))), (q2, .inl (cI, (z_tc G), .inl (fun _ => 0)))]) (s := q_W cI cR sa rb rt G D) hP
  have hD := q_mvD (c := z_cW cI h na ta G D G1 D1) (e := [(q1, .inl (cI, (z_tc G), .inl (fun _ => 0))), (q2, .inl (cI, (z_tc G), .inl (fun _ => 0)))]) (s := q_W cI cR sa rb rt G D) hD
  have hP : va_P Dg vwCl (z_cW cI h na ta G D G1 D1 ++ ([(q1, .inl (cI, (z_tc G), .inl (fun _ => 0))), (q2, .inl (cI, (z_tc G), .inl (fun _ => 0))), (q3, .inl (cZ, (z_tc G), .inl (fun _ => 0)))] ++ q_W cI cR sa rb rt G D)) H := hP
  have hD : va_D _ (z_cW cI h na ta G D G1 D1 ++ ([(q1, .inl (cI, (z_tc G), .inl (fun _ => 0))), (q2, .inl (cI, (z_tc G), .inl (fun _ => 0))), (q3, .inl (cZ, (z_tc G), .inl (fun _ => 0)))] ++ q_W cI cR sa rb rt G D)) := hD
  refine lv_astore (lv' := [(16, .ref q3), (15, .ref q2), (14, .ref q1), (0, .ref b), (1, .ref h), (2, .ref (sa 0)), (3, .int (nI tm)), (7, .int (nI (z_tc G))), (13, .int (z_ls G D (z_sd G) (z_od G)))]) hx hb dL_law_780 hl (by decide) rfl (fun ls hl => ?_)
  refine lv_iload hx hb dL_law_782 (lv_at hl 7 rfl) ?_
  refine q_newi hx hb (hts _ (List.mem_append_left _ (List.mem_append_left _ (List.mem_append_left _ (List.mem_append_left _ (List.mem_append_left _ (List.mem_append_left _ (List.mem_append_left _ (List.mem_append_left _ (List.mem_append_left _ (List.mem_of_getElem? (i := 6) rfl))))))))))) hK hP hD hS hA rfl (by omega) (by show _ ≤ 801385; omega) (by show _ ≤ 6697312; omega) dL_law_784 (fun q4 H hP hD hS => ?_)
  have hP := q_mvP (c := z_cW cI h na ta G D G1 D1) (e := [(q1, .inl (cI, (z_tc G), .inl (fun _ => 0))), (q2, .inl (cI, (z_tc G), .inl (fun _ => 0))), (q3, .inl (cZ, (z_tc G), .inl (fun _ => 0)))]) (s := q_W cI cR sa rb rt G D) hP
  have hD := q_mvD (c := z_cW cI h na ta G D G1 D1) (e := [(q1, .inl (cI, (z_tc G), .inl (fun _ => 0))), (q2, .inl (cI, (z_tc G), .inl (fun _ => 0))), (q3, .inl (cZ, (z_tc G), .inl (fun _ => 0)))]) (s := q_W cI cR sa rb rt G D) hD
  have hP : va_P Dg vwCl (z_cW cI h na ta G D G1 D1 ++ ([(q1, .inl (cI, (z_tc G), .inl (fun _ => 0))), (q2, .inl (cI, (z_tc G), .inl (fun _ => 0))), (q3, .inl (cZ, (z_tc G), .inl (fun _ => 0))), (q4, .inl (cI, (z_tc G), .inl (fun _ => 0)))] ++ q_W cI cR sa rb rt G D)) H := hP
  have hD : va_D _ (z_cW cI h na ta G D G1 D1 ++ ([(q1, .inl (cI, (z_tc G), .inl (fun _ => 0))), (q2, .inl (cI, (z_tc G), .inl (fun _ => 0))), (q3, .inl (cZ, (z_tc G), .inl (fun _ => 0))), (q4, .inl (cI, (z_tc G), .inl (fun _ => 0)))] ++ q_W cI cR sa rb rt G D)) := hD
  refine lv_astore (lv' := [(17, .ref q4), (16, .ref q3), (15, .ref q2), (14, .ref q1), (0, .ref b), (1, .ref h), (2, .ref (sa 0)), (3, .int (nI tm)), (7, .int (nI (z_tc G))), (13, .int (z_ls G D (z_sd G) (z_od G)))]) hx hb dL_law_786 hl (by decide) rfl (fun ls hl => ?_)
  refine lv_iconst (v := nI 0) hx hb dL_law_788 (by decide) ?_
  refine lv_istore (lv' := [(18, .int (nI 0)), (17, .ref q4), (16, .ref q3), (15, .ref q2), (14, .ref q1), (0, .ref b), (1, .ref h), (2, .ref (sa 0)), (3, .int (nI tm)), (7, .int (nI (z_tc G))), (13, .int (z_ls G D (z_sd G) (z_od G)))]) hx hb dL_law_789 hl (by decide) rfl (fun ls hl => ?_)
  have hP : va_P Dg vwCl (z_cW cI h na ta G D G1 D1 ++ ([(q1, .inl (cI, (z_tc G), .inl (z_fi (fun _ => 0) (z_vc D) 0))), (q2, .inl (cI, (z_tc G), .inl (z_fi (fun _ => 0) (z_dof G D) 0))), (q3, .inl (cZ, (z_tc G), .inl (z_fi (fun _ => 0) (q_gn D) 0))), (q4, .inl (cI, (z_tc G), .inl (z_fi (fun _ => 0) (q_fr G D) 0)))] ++ q_W cI cR sa rb rt G D)) H := by rw [z_fi_0, z_fi_0, z_fi_0, z_fi_0]; exact hP
  have hD : va_D (fun q => s.heap.size ≤ q) (z_cW cI h na ta G D G1 D1 ++ ([(q1, .inl (cI, (z_tc G), .inl (z_fi (fun _ => 0) (z_vc D) 0))), (q2, .inl (cI, (z_tc G), .inl (z_fi (fun _ => 0) (z_dof G D) 0))), (q3, .inl (cZ, (z_tc G), .inl (z_fi (fun _ => 0) (q_gn D) 0))), (q4, .inl (cI, (z_tc G), .inl (z_fi (fun _ => 0) (q_fr G D) 0)))] ++ q_W cI cR sa rb rt G D)) := by rw [z_fi_0, z_fi_0, z_fi_0, z_fi_0]; exact hD
  have lp791 : ∀ (zz i : Nat) , i ≤ z_tc G → z_tc G + 1 ≤ i + zz → ∀ (H : Heap) (locs : List Loc), va_P Dg vwCl (z_cW cI h na ta G D G1 D1 ++ ([(q1, .inl (cI, (z_tc G), .inl (z_fi (fun _ => 0) (z_vc D) i))), (q2, .inl (cI, (z_tc G), .inl (z_fi (fun _ => 0) (z_dof G D) i))), (q3, .inl (cZ, (z_tc G), .inl (z_fi (fun _ => 0) (q_gn D) i))), (q4, .inl (cI, (z_tc G), .inl (z_fi (fun _ => 0) (q_fr G D) i)))] ++ q_W cI cR sa rb rt G D)) H → va_D (fun q => s.heap.size ≤ q) (z_cW cI h na ta G D G1 D1 ++ ([(q1, .inl (cI, (z_tc G), .inl (z_fi (fun _ => 0) (z_vc D) i))), (q2, .inl (cI, (z_tc G), .inl (z_fi (fun _ => 0) (z_dof G D) i))), (q3, .inl (cZ, (z_tc G), .inl (z_fi (fun _ => 0) (q_gn D) i))), (q4, .inl (cI, (z_tc G), .inl (z_fi (fun _ => 0) (q_fr G D) i)))] ++ q_W cI cR sa rb rt G D)) → va_S (fun q => s.heap.size ≤ q) s.heap H locs → ∀ ls : Array Slot, lv_has ls 23 [(0, .ref b), (1, .ref h), (2, .ref (sa 0)), (3, .int (nI tm)), (7, .int (nI (z_tc G))), (13, .int (z_ls G D (z_sd G) (z_od G))), (14, .ref q1), (15, .ref q2), (16, .ref q3), (17, .ref q4), (18, .int (nI i))] → W p l e room_1 s m ([Value.ref b] : List Value).toArray below meth c H locs (c0 + 1 + 1 + 1 + 1) (s0 + z_tc G + z_tc G + z_tc G + z_tc G) Q (F0 m 791 ls []) := by
    intro zz
    induction zz with
    | zero => intros; exfalso; omega
    | succ zz ih791 =>
      intro i hi hzz H locs hP hD hS ls hl
      refine lv_iload hx hb dL_law_791 (lv_at hl 10 rfl) ?_
      refine lv_iload hx hb dL_law_793 (lv_at hl 4 rfl) ?_
      refine lv_icmp_ge (tgt := 893) hx hb dL_law_795 (by decide) (fun c795 => ?_) (fun c795 => ?_)
      · skip
        have h9x : i = z_tc G := Nat.le_antisymm hi (z_le (by omega) (by omega) c795)
        subst h9x
        refine lv_aload_n hx hb dL_law_893 rfl (lv_at hl 1 rfl) ?_
        refine z_rVi (v := nI (z_cn G D 3)) [] hx hb hml hown hts (m_X2_lost l Dg cI h na ta G D G1 D1 hG hW) gL_law_X2_lost rfl kd_X2_lost ⟨Nat.le_of_ble_eq_true rfl, Nat.le_of_ble_eq_true rfl⟩ (q_KI hK) hN (z_Pl hP) rfl rfl rfl rfl hl.1 rfl (Nat.le_of_ble_eq_true rfl) dL_law_894 ⟨by show _ ≤ 801385; omega, by show _ ≤ 6697312; omega⟩ ?_
        refine lv_istore (lv' := [(18, .int (nI (z_cn G D 3))), (0, .ref b), (1, .ref h), (2, .ref (sa 0)), (3, .int (nI tm)), (7, .int (nI (z_tc G))), (13, .int (z_ls G D (z_sd G) (z_od G))), (14, .ref q1), (15, .ref q2), (16, .ref q3), (17, .ref q4)]) hx hb dL_law_897 hl (by decide) rfl (fun ls hl => ?_)
        refine lv_aload_n hx hb dL_law_899 rfl (lv_at hl 2 rfl) ?_
        refine lv_iconst (v := nI 1) hx hb dL_law_900 (by decide) ?_
        refine z_wBi (v := nI (z_cn G (z_days G D 1) 2) - nI (z_cn G D 2)) [] [] ([(q1, .inl (cI, (z_tc G), .inl (z_fi (fun _ => 0) (z_vc D) (z_tc G)))), (q2, .inl (cI, (z_tc G), .inl (z_fi (fun _ => 0) (z_dof G D) (z_tc G)))), (q3, .inl (cZ, (z_tc G), .inl (z_fi (fun _ => 0) (q_gn D) (z_tc G)))), (q4, .inl (cI, (z_tc G), .inl (z_fi (fun _ => 0) (q_fr G D) (z_tc G))))] ++ q_W cI cR sa rb rt G D) 0 hx hb hml hown hts (m_X2_pass l Dg cI h na ta G D G1 D1 1 (by omega) (by omega) hG hW) gL_law_X2_pass rfl kd_X2_pass ⟨Nat.le_of_ble_eq_true rfl, Nat.le_of_ble_eq_true rfl⟩ (q_KI hK) hN hP hD hS rfl rfl rfl rfl rfl hl.1 rfl (Nat.le_of_ble_eq_true rfl) dL_law_901 ⟨by show _ ≤ 801385; omega, by show _ ≤ 6697312; omega⟩ (fun H locs hP hD hS => ?_)
        have hP : va_P Dg vwCl (z_cW cI h na ta G (z_day G D) G1 D1 ++ ([(q1, .inl (cI, (z_tc G), .inl (z_fi (fun _ => 0) (z_vc D) (z_tc G)))), (q2, .inl (cI, (z_tc G), .inl (z_fi (fun _ => 0) (z_dof G D) (z_tc G)))), (q3, .inl (cZ, (z_tc G), .inl (z_fi (fun _ => 0) (q_gn D) (z_tc G)))), (q4, .inl (cI, (z_tc G), .inl (z_fi (fun _ => 0) (q_fr G D) (z_tc G))))] ++ q_W cI cR sa rb rt G D)) H := hP
        have hD : va_D _ (z_cW cI h na ta G (z_day G D) G1 D1 ++ ([(q1, .inl (cI, (z_tc G), .inl (z_fi (fun _ => 0) (z_vc D) (z_tc G)))), (q2, .inl (cI, (z_tc G), .inl (z_fi (fun _ => 0) (z_dof G D) (z_tc G)))), (q3, .inl (cZ, (z_tc G), .inl (z_fi (fun _ => 0) (q_gn D) (z_tc G)))), (q4, .inl (cI, (z_tc G), .inl (z_fi (fun _ => 0) (q_fr G D) (z_tc G))))] ++ q_W cI cR sa rb rt G D)) := hD
        refine z_top (x' := nI (z_cn G (z_day G D) 2 - z_cn G D 2)) (q_wentI hI) ?_
        refine lv_istore (lv' := [(19, .int (nI (z_cn G (z_day G D) 2 - z_cn G D 2))), (18, .int (nI (z_cn G D 3))), (0, .ref b), (1, .ref h), (2, .ref (sa 0)), (3, .int (nI tm)), (7, .int (nI (z_tc G))), (13, .int (z_ls G D (z_sd G) (z_od G))), (14, .ref q1), (15, .ref q2), (16, .ref q3), (17, .ref q4)]) hx hb dL_law_904 hl (by decide) rfl (fun ls hl => ?_)
        refine lv_iload hx hb dL_law_906 (lv_at hl 0 rfl) ?_
        refine lv_aload_n hx hb dL_law_908 rfl (lv_at hl 4 rfl) ?_
        refine lv_iconst (v := nI 1) hx hb dL_law_909 (by decide) ?_
        have hP : va_P Dg vwCl ((z_cW cI h na ta G (z_day G D) G1 D1 ++ [(q1, .inl (cI, (z_tc G), .inl (z_fi (fun _ => 0) (z_vc D) (z_tc G)))), (q2, .inl (cI, (z_tc G), .inl (z_fi (fun _ => 0) (z_dof G D) (z_tc G)))), (q3, .inl (cZ, (z_tc G), .inl (z_fi (fun _ => 0) (q_gn D) (z_tc G)))), (q4, .inl (cI, (z_tc G), .inl (z_fi (fun _ => 0) (q_fr G D) (z_tc G))))]) ++ q_W cI cR sa rb rt G D) H := by rw [List.append_assoc]; exact hP
        have hD : va_D (fun q => s.heap.size ≤ q) ((z_cW cI h na ta G (z_day G D) G1 D1 ++ [(q1, .inl (cI, (z_tc G), .inl (z_fi (fun _ => 0) (z_vc D) (z_tc G)))), (q2, .inl (cI, (z_tc G), .inl (z_fi (fun _ => 0) (z_dof G D) (z_tc G)))), (q3, .inl (cZ, (z_tc G), .inl (z_fi (fun _ => 0) (q_gn D) (z_tc G)))), (q4, .inl (cI, (z_tc G), .inl (z_fi (fun _ => 0) (q_fr G D) (z_tc G))))]) ++ q_W cI cR sa rb rt G D) := by rw [List.append_assoc]; exact hD
        refine q_wVi (v := nI (z_cn G (z_days G D 1) 2) - nI (z_cn G D 2)) (pre := z_cW cI h na ta G (z_day G D) G1 D1 ++ [(q1, .inl (cI, (z_tc G), .inl (z_fi (fun _ => 0) (z_vc D) (z_tc G)))), (q2, .inl (cI, (z_tc G), .inl (z_fi (fun _ => 0) (z_dof G D) (z_tc G)))), (q3, .inl (cZ, (z_tc G), .inl (z_fi (fun _ => 0) (q_gn D) (z_tc G)))), (q4, .inl (cI, (z_tc G), .inl (z_fi (fun _ => 0) (q_fr G D) (z_tc G))))]) (post := []) [.int (nI (z_cn G (z_day G D) 2 - z_cn G D 2))] hx hb hml hown hts (m_X3_pass_ l Dg cI cR cZ sa rb rt G D 1 (by decide) hG hW hB hV) gL_law_X3_pass_ rfl kd_X3_pass_ ⟨Nat.le_of_ble_eq_true rfl, Nat.le_of_ble_eq_true rfl⟩ hK hN hJ (q_nilP (pre := z_cW cI h na ta G (z_day G D) G1 D1 ++ [(q1, .inl (cI, (z_tc G), .inl (z_fi (fun _ => 0) (z_vc D) (z_tc G)))), (q2, .inl (cI, (z_tc G), .inl (z_fi (fun _ => 0) (z_dof G D) (z_tc G)))), (q3, .inl (cZ, (z_tc G), .inl (z_fi (fun _ => 0) (q_gn D) (z_tc G)))), (q4, .inl (cI, (z_tc G), .inl (z_fi (fun _ => 0) (q_fr G D) (z_tc G))))]) hP) (q_nilD (pre := z_cW cI h na ta G (z_day G D) G1 D1 ++ [(q1, .inl (cI, (z_tc G), .inl (z_fi (fun _ => 0) (z_vc D) (z_tc G)))), (q2, .inl (cI, (z_tc G), .inl (z_fi (fun _ => 0) (z_dof G D) (z_tc G)))), (q3, .inl (cZ, (z_tc G), .inl (z_fi (fun _ => 0) (q_gn D) (z_tc G)))), (q4, .inl (cI, (z_tc G), .inl (z_fi (fun _ => 0) (q_fr G D) (z_tc G))))]) hD) hS (q_fst rfl rfl) rfl rfl rfl rfl rfl hl.1 (Nat.le_of_ble_eq_true rfl) dL_law_910 ⟨by show _ ≤ 801385; omega, by show _ ≤ 6697312; omega⟩ (fun H locs hP hD hS => ?_)
        rw [List.append_nil, List.append_assoc] at hP hD
        have hP : va_P Dg vwCl (z_cW cI h na ta G (z_day G D) G1 D1 ++ ([(q1, .inl (cI, (z_tc G), .inl (z_fi (fun _ => 0) (z_vc D) (z_tc G)))), (q2, .inl (cI, (z_tc G), .inl (z_fi (fun _ => 0) (z_dof G D) (z_tc G)))), (q3, .inl (cZ, (z_tc G), .inl (z_fi (fun _ => 0) (q_gn D) (z_tc G)))), (q4, .inl (cI, (z_tc G), .inl (z_fi (fun _ => 0) (q_fr G D) (z_tc G))))] ++ q_W cI cR sa rb rt G (z_day G D))) H := hP
        have hD : va_D _ (z_cW cI h na ta G (z_day G D) G1 D1 ++ ([(q1, .inl (cI, (z_tc G), .inl (z_fi (fun _ => 0) (z_vc D) (z_tc G)))), (q2, .inl (cI, (z_tc G), .inl (z_fi (fun _ => 0) (z_dof G D) (z_tc G)))), (q3, .inl (cZ, (z_tc G), .inl (z_fi (fun _ => 0) (q_gn D) (z_tc G)))), (q4, .inl (cI, (z_tc G), .inl (z_fi (fun _ => 0) (q_fr G D) (z_tc G))))] ++ q_W cI cR sa rb rt G (z_day G D))) := hD
        refine z_top (x' := nI (z_cn G (z_day G D) 2 - z_cn G D 2)) (q_wentI hI) ?_
        refine lv_icmp_ne (tgt := 953) hx hb dL_law_913 (by decide) (fun c913 => absurd rfl c913) (fun c913 => ?_)
        refine lv_iload hx hb dL_law_916 (lv_at hl 0 rfl) ?_
        refine lv_aload_n hx hb dL_law_918 rfl (lv_at hl 4 rfl) ?_
        refine va_get (ci := 3) (v := .int (nI (z_sd G))) (C := RX3) (T := TX3) (N := 6) hx hb hts (fun _ h => (List.mem_append_left _ (List.mem_append_left _ (List.mem_append_left _ (List.mem_append_left _ (List.mem_append_left _ (List.mem_append_left _ (List.mem_append_right _ h)))))))) hown hK hP 43 rfl rfl 3 (by decide) (hts _ (List.mem_append_left _ (List.mem_append_left _ (List.mem_append_left _ (List.mem_append_left _ (List.mem_append_left _ (List.mem_append_left _ (List.mem_append_left _ (List.mem_append_left _ (List.mem_append_left _ (List.mem_of_getElem? (i := 4) rfl))))))))))) (fun _ h9 => h9) rfl dL_law_919 ?_
        refine lv_icmp_gt (tgt := 953) hx hb dL_law_922 (by decide) (fun c922 => absurd c922 (z_i32_nlt (nI_le (by omega) (by omega)))) (fun c922 => ?_)
        refine lv_iload hx hb dL_law_925 (lv_at hl 0 rfl) ?_
        refine lv_aload_n hx hb dL_law_927 rfl (lv_at hl 4 rfl) ?_
        refine va_get (ci := 3) (v := .int (nI (z_sd G))) (C := RX3) (T := TX3) (N := 6) hx hb hts (fun _ h => (List.mem_append_left _ (List.mem_append_left _ (List.mem_append_left _ (List.mem_append_left _ (List.mem_append_left _ (List.mem_append_left _ (List.mem_append_right _ h)))))))) hown hK hP 43 rfl rfl 3 (by decide) (hts _ (List.mem_append_left _ (List.mem_append_left _ (List.mem_append_left _ (List.mem_append_left _ (List.mem_append_left _ (List.mem_append_left _ (List.mem_append_left _ (List.mem_append_left _ (List.mem_append_left _ (List.mem_of_getElem? (i := 4) rfl))))))))))) (fun _ h9 => h9) rfl dL_law_928 ?_
        refine lv_icmp_ge (tgt := 941) hx hb dL_law_931 (by decide) (fun c931 => ?_) (fun c931 => ?_)
        · skip
          refine lv_aload_n hx hb dL_law_941 rfl (lv_at hl 3 rfl) ?_
          refine z_rVi (v := nI (z_cn G (z_day G D) 3)) [] hx hb hml hown hts (m_X2_lost l Dg cI h na ta G (z_day G D) G1 D1 hG (z_WD_day hW)) gL_law_X2_lost rfl kd_X2_lost ⟨Nat.le_of_ble_eq_true rfl, Nat.le_of_ble_eq_true rfl⟩ (q_KI hK) hN (z_Pl hP) rfl rfl rfl rfl hl.1 rfl (Nat.le_of_ble_eq_true rfl) dL_law_942 ⟨by show _ ≤ 801385; omega, by show _ ≤ 6697312; omega⟩ ?_
          refine lv_iload hx hb dL_law_945 (lv_at hl 1 rfl) ?_
          refine lv_isub hx hb dL_law_947 ?_
          refine lv_iload hx hb dL_law_948 (lv_at hl 7 rfl) ?_
          refine lv_icmp_le (tgt := 955) hx hb dL_law_950 (by decide) (fun c950 => ?_) (fun c950 => absurd (q_soon hI) c950)
          refine W.widen (k := c0 + 4) (n := s0 + 240) (by omega) (by omega) ?_
          exact K q1 q2 q3 q4 G1 D1 _ _ _ hP hD hS (lv_sub hl [2, 3, 4, 5, 6, 8, 9, 10, 11] rfl)
        · skip
          have hz1 : z_cn G (z_day G D) 1 = 0 := hwt.2.2 (by have := z_nle (by omega) c931; omega)
          refine lv_aload_n hx hb dL_law_934 rfl (lv_at hl 3 rfl) ?_
          refine z_rVi (v := nI (z_cn G (z_day G D) 1)) [] hx hb hml hown hts (m_X2_inCellar l Dg cI h na ta G (z_day G D) G1 D1 hG (z_WD_day hW)) gL_law_X2_inCellar rfl kd_X2_inCellar ⟨Nat.le_of_ble_eq_true rfl, Nat.le_of_ble_eq_true rfl⟩ (q_KI hK) hN (z_Pl hP) rfl rfl rfl rfl hl.1 rfl (Nat.le_of_ble_eq_true rfl) dL_law_935 ⟨by show _ ≤ 801385; omega, by show _ ≤ 6697312; omega⟩ ?_
          refine z_top (x' := 0) (by rw [hz1]; exact z_nI0) ?_
          refine lv_if_gt (tgt := 953) hx hb dL_law_938 (by decide) (fun c938 => absurd c938 (by decide)) (fun c938 => ?_)
          refine lv_aload_n hx hb dL_law_941 rfl (lv_at hl 3 rfl) ?_
          refine z_rVi (v := nI (z_cn G (z_day G D) 3)) [] hx hb hml hown hts (m_X2_lost l Dg cI h na ta G (z_day G D) G1 D1 hG (z_WD_day hW)) gL_law_X2_lost rfl kd_X2_lost ⟨Nat.le_of_ble_eq_true rfl, Nat.le_of_ble_eq_true rfl⟩ (q_KI hK) hN (z_Pl hP) rfl rfl rfl rfl hl.1 rfl (Nat.le_of_ble_eq_true rfl) dL_law_942 ⟨by show _ ≤ 801385; omega, by show _ ≤ 6697312; omega⟩ ?_
          refine lv_iload hx hb dL_law_945 (lv_at hl 1 rfl) ?_
          refine lv_isub hx hb dL_law_947 ?_
          refine lv_iload hx hb dL_law_948 (lv_at hl 7 rfl) ?_
          refine lv_icmp_le (tgt := 955) hx hb dL_law_950 (by decide) (fun c950 => ?_) (fun c950 => absurd (q_soon hI) c950)
          refine W.widen (k := c0 + 4) (n := s0 + 240) (by omega) (by omega) ?_
          exact K q1 q2 q3 q4 G1 D1 _ _ _ hP hD hS (lv_sub hl [2, 3, 4, 5, 6, 8, 9, 10, 11] rfl)
      · skip
        have hi2 : i < z_tc G := z_nle (by omega) c795
        by_cases hp : z_pl D i = 1
        · skip
          have hbi := hB i hi2
          have hsh := hG.2.2.2.1 i
          refine lv_aload hx hb dL_law_798 (lv_at hl 6 rfl) ?_
          refine lv_iload hx hb dL_law_800 (lv_at hl 10 rfl) ?_
          refine lv_aload_n hx hb dL_law_802 rfl (lv_at hl 1 rfl) ?_
          refine lv_iload hx hb dL_law_803 (lv_at hl 10 rfl) ?_
          refine z_rVi (v := z_vc D i) [.int (nI i), .ref q1] hx hb hml hown hts (m_X2_vacuumOf l Dg cI h na ta G D G1 D1 i (by omega) hG hW) gL_law_X2_vacuumOf rfl kd_X2_vacuumOf ⟨Nat.le_of_ble_eq_true rfl, Nat.le_of_ble_eq_true rfl⟩ (q_KI hK) hN (z_Pl hP) rfl rfl rfl rfl hl.1 rfl (Nat.le_of_ble_eq_true rfl) dL_law_805 ⟨by show _ ≤ 801385; omega, by show _ ≤ 6697312; omega⟩ ?_
          refine q_iast (ws' := z_cW cI h na ta G D G1 D1 ++ ([(q1, .inl (cI, (z_tc G), .inl (upd (z_fi (fun _ => 0) (z_vc D) i) i (z_vc D i)))), (q2, .inl (cI, (z_tc G), .inl (z_fi (fun _ => 0) (z_dof G D) i))), (q3, .inl (cZ, (z_tc G), .inl (z_fi (fun _ => 0) (q_gn D) i))), (q4, .inl (cI, (z_tc G), .inl (z_fi (fun _ => 0) (q_fr G D) i)))] ++ q_W cI cR sa rb rt G D)) hx hb hK hP hD hS 39 0 rfl rfl rfl (by omega) (by omega) dL_law_808 (fun H locs hP hD hS => ?_)
          rw [z_fi_s] at hP hD
          have hP : va_P Dg vwCl (z_cW cI h na ta G D G1 D1 ++ ([(q1, .inl (cI, (z_tc G), .inl (z_fi (fun _ => 0) (z_vc D) (i + 1)))), (q2, .inl (cI, (z_tc G), .inl (z_fi (fun _ => 0) (z_dof G D) i))), (q3, .inl (cZ, (z_tc G), .inl (z_fi (fun _ => 0) (q_gn D) i))), (q4, .inl (cI, (z_tc G), .inl (z_fi (fun _ => 0) (q_fr G D) i)))] ++ q_W cI cR sa rb rt G D)) H := hP
          have hD : va_D _ (z_cW cI h na ta G D G1 D1 ++ ([(q1, .inl (cI, (z_tc G), .inl (z_fi (fun _ => 0) (z_vc D) (i + 1)))), (q2, .inl (cI, (z_tc G), .inl (z_fi (fun _ => 0) (z_dof G D) i))), (q3, .inl (cZ, (z_tc G), .inl (z_fi (fun _ => 0) (q_gn D) i))), (q4, .inl (cI, (z_tc G), .inl (z_fi (fun _ => 0) (q_fr G D) i)))] ++ q_W cI cR sa rb rt G D)) := hD
          refine lv_aload hx hb dL_law_809 (lv_at hl 7 rfl) ?_
          refine lv_iload hx hb dL_law_811 (lv_at hl 10 rfl) ?_
          refine lv_aload_n hx hb dL_law_813 rfl (lv_at hl 1 rfl) ?_
          refine lv_iload hx hb dL_law_814 (lv_at hl 10 rfl) ?_
          refine z_rVi (v := z_dof G D i) [.int (nI i), .ref q2] hx hb hml hown hts (m_X2_daysOf l Dg cI h na ta G D G1 D1 i (by omega) hG hW) gL_law_X2_daysOf rfl kd_X2_daysOf ⟨Nat.le_of_ble_eq_true rfl, Nat.le_of_ble_eq_true rfl⟩ (q_KI hK) hN (z_Pl hP) rfl rfl rfl rfl hl.1 rfl (Nat.le_of_ble_eq_true rfl) dL_law_816 ⟨by show _ ≤ 801385; omega, by show _ ≤ 6697312; omega⟩ ?_
          refine q_iast (ws' := z_cW cI h na ta G D G1 D1 ++ ([(q1, .inl (cI, (z_tc G), .inl (z_fi (fun _ => 0) (z_vc D) (i + 1)))), (q2, .inl (cI, (z_tc G), .inl (upd (z_fi (fun _ => 0) (z_dof G D) i) i (z_dof G D i)))), (q3, .inl (cZ, (z_tc G), .inl (z_fi (fun _ => 0) (q_gn D) i))), (q4, .inl (cI, (z_tc G), .inl (z_fi (fun _ => 0) (q_fr G D) i)))] ++ q_W cI cR sa rb rt G D)) hx hb hK hP hD hS 40 0 rfl rfl rfl (by omega) (by omega) dL_law_819 (fun H locs hP hD hS => ?_)
          rw [z_fi_s] at hP hD
          have hP : va_P Dg vwCl (z_cW cI h na ta G D G1 D1 ++ ([(q1, .inl (cI, (z_tc G), .inl (z_fi (fun _ => 0) (z_vc D) (i + 1)))), (q2, .inl (cI, (z_tc G), .inl (z_fi (fun _ => 0) (z_dof G D) (i + 1)))), (q3, .inl (cZ, (z_tc G), .inl (z_fi (fun _ => 0) (q_gn D) i))), (q4, .inl (cI, (z_tc G), .inl (z_fi (fun _ => 0) (q_fr G D) i)))] ++ q_W cI cR sa rb rt G D)) H := hP
          have hD : va_D _ (z_cW cI h na ta G D G1 D1 ++ ([(q1, .inl (cI, (z_tc G), .inl (z_fi (fun _ => 0) (z_vc D) (i + 1)))), (q2, .inl (cI, (z_tc G), .inl (z_fi (fun _ => 0) (z_dof G D) (i + 1)))), (q3, .inl (cZ, (z_tc G), .inl (z_fi (fun _ => 0) (q_gn D) i))), (q4, .inl (cI, (z_tc G), .inl (z_fi (fun _ => 0) (q_fr G D) i)))] ++ q_W cI cR sa rb rt G D)) := hD
          refine lv_aload hx hb dL_law_820 (lv_at hl 8 rfl) ?_
          refine lv_iload hx hb dL_law_822 (lv_at hl 10 rfl) ?_
          refine lv_aload_n hx hb dL_law_824 rfl (lv_at hl 1 rfl) ?_
          refine lv_iload hx hb dL_law_825 (lv_at hl 10 rfl) ?_
          refine z_rVi (v := z_shf G D i) [.int (nI i), .ref q3] hx hb hml hown hts (m_X2_shelfOf l Dg cI h na ta G D G1 D1 i (by omega) hG hW) gL_law_X2_shelfOf rfl kd_X2_shelfOf ⟨Nat.le_of_ble_eq_true rfl, Nat.le_of_ble_eq_true rfl⟩ (q_KI hK) hN (z_Pl hP) rfl rfl rfl rfl hl.1 rfl (Nat.le_of_ble_eq_true rfl) dL_law_827 ⟨by show _ ≤ 801385; omega, by show _ ≤ 6697312; omega⟩ ?_
          refine z_top (x' := nI (z_sh G i)) (q_shf1 hp) ?_
          refine lv_if_ge (tgt := 837) hx hb dL_law_830 (by decide) (fun c830 => ?_) (fun c830 => absurd (q_0n (by omega)) c830)
          refine lv_iconst (v := z_bI false) hx hb dL_law_837 (by decide) ?_
          refine q_zast (x := false) hx hb hK hP hD hS 41 rfl (by omega) (by omega) dL_law_838 (fun H locs hP hD hS => ?_)
          have hP : va_P Dg vwCl (z_cW cI h na ta G D G1 D1 ++ ([(q1, .inl (cI, (z_tc G), .inl (z_fi (fun _ => 0) (z_vc D) (i + 1)))), (q2, .inl (cI, (z_tc G), .inl (z_fi (fun _ => 0) (z_dof G D) (i + 1)))), (q3, .inl (cZ, (z_tc G), .inl (upd (z_fi (fun _ => 0) (q_gn D) i) i (z_bI false)))), (q4, .inl (cI, (z_tc G), .inl (z_fi (fun _ => 0) (q_fr G D) i)))] ++ q_W cI cR sa rb rt G D)) H := hP
          have hD : va_D _ (z_cW cI h na ta G D G1 D1 ++ ([(q1, .inl (cI, (z_tc G), .inl (z_fi (fun _ => 0) (z_vc D) (i + 1)))), (q2, .inl (cI, (z_tc G), .inl (z_fi (fun _ => 0) (z_dof G D) (i + 1)))), (q3, .inl (cZ, (z_tc G), .inl (upd (z_fi (fun _ => 0) (q_gn D) i) i (z_bI false)))), (q4, .inl (cI, (z_tc G), .inl (z_fi (fun _ => 0) (q_fr G D) i)))] ++ q_W cI cR sa rb rt G D)) := hD
          rw [show z_bI false = q_gn D i from (q_gn1 hp).symm] at hP hD
          rw [z_fi_s] at hP hD
          have hP : va_P Dg vwCl (z_cW cI h na ta G D G1 D1 ++ ([(q1, .inl (cI, (z_tc G), .inl (z_fi (fun _ => 0) (z_vc D) (i + 1)))), (q2, .inl (cI, (z_tc G), .inl (z_fi (fun _ => 0) (z_dof G D) (i + 1)))), (q3, .inl (cZ, (z_tc G), .inl (z_fi (fun _ => 0) (q_gn D) (i + 1)))), (q4, .inl (cI, (z_tc G), .inl (z_fi (fun _ => 0) (q_fr G D) i)))] ++ q_W cI cR sa rb rt G D)) H := hP
          have hD : va_D _ (z_cW cI h na ta G D G1 D1 ++ ([(q1, .inl (cI, (z_tc G), .inl (z_fi (fun _ => 0) (z_vc D) (i + 1)))), (q2, .inl (cI, (z_tc G), .inl (z_fi (fun _ => 0) (z_dof G D) (i + 1)))), (q3, .inl (cZ, (z_tc G), .inl (z_fi (fun _ => 0) (q_gn D) (i + 1)))), (q4, .inl (cI, (z_tc G), .inl (z_fi (fun _ => 0) (q_fr G D) i)))] ++ q_W cI cR sa rb rt G D)) := hD
          refine lv_aload hx hb dL_law_839 (lv_at hl 9 rfl) ?_
          refine lv_iload hx hb dL_law_841 (lv_at hl 10 rfl) ?_
          refine lv_aload hx hb dL_law_843 (lv_at hl 8 rfl) ?_
          refine lv_iload hx hb dL_law_845 (lv_at hl 10 rfl) ?_
          refine q_zald hx hb hK hP 41 rfl (by omega) (by omega) dL_law_847 ?_
          refine z_top (x' := z_fi (fun _ => 0) (q_gn D) (i + 1) i) rfl ?_
          refine z_top (x' := 0) ((q_fi_at (by omega)).trans (q_gn1 hp)) ?_
          refine lv_if_eq (tgt := 855) hx hb dL_law_848 (by decide) (fun c848 => ?_) (fun c848 => absurd rfl c848)
          refine lv_aload_n hx hb dL_law_855 rfl (lv_at hl 2 rfl) ?_
          refine va_get (ci := 3) (v := .ref (sa 2)) (C := RX3) (T := TX3) (N := 6) hx hb hts (fun _ h => (List.mem_append_left _ (List.mem_append_left _ (List.mem_append_left _ (List.mem_append_left _ (List.mem_append_left _ (List.mem_append_left _ (List.mem_append_right _ h)))))))) hown hK hP 43 rfl rfl 1 (by decide) (hts _ (List.mem_append_left _ (List.mem_append_left _ (List.mem_append_left _ (List.mem_append_left _ (List.mem_append_left _ (List.mem_append_left _ (List.mem_append_left _ (List.mem_append_left _ (List.mem_append_left _ (List.mem_of_getElem? (i := 7) rfl))))))))))) (fun _ h9 => h9) rfl dL_law_856 ?_
          refine lv_aload_n hx hb dL_law_859 rfl (lv_at hl 2 rfl) ?_
          refine va_get (ci := 3) (v := .ref (sa 3)) (C := RX3) (T := TX3) (N := 6) hx hb hts (fun _ h => (List.mem_append_left _ (List.mem_append_left _ (List.mem_append_left _ (List.mem_append_left _ (List.mem_append_left _ (List.mem_append_left _ (List.mem_append_right _ h)))))))) hown hK hP 43 rfl rfl 2 (by decide) (hts _ (List.mem_append_left _ (List.mem_append_left _ (List.mem_append_left _ (List.mem_append_left _ (List.mem_append_left _ (List.mem_append_left _ (List.mem_append_left _ (List.mem_append_left _ (List.mem_append_left _ (List.mem_of_getElem? (i := 8) rfl))))))))))) (fun _ h9 => h9) rfl dL_law_860 ?_
          refine lv_iload hx hb dL_law_863 (lv_at hl 10 rfl) ?_
          refine q_aald (v := rt i) hx hb hK hP 46 rfl (by omega) (by omega) rfl dL_law_865 ?_
          refine lv_iconst (v := nI 0) hx hb dL_law_866 (by decide) ?_
          refine z_iald hx hb hK hP (39 + (4 + (4 + (z_bc G + i)))) 0 (q_pre (n := 39) rfl (q_pre (n := 4) rfl (q_gT (cI := cI) (cR := cR) (sa := sa) (rb := rb) (rt := rt) (G := G) (D := D) (by omega)))) rfl (by decide) (by decide) dL_law_867 ?_
          refine z_top (x' := nI (z_bt G i)) rfl ?_
          have hbt1 := hB i (by omega)
          refine q_aald (v := rb (z_bt G i)) hx hb hK hP 45 rfl (by omega) (by omega) rfl dL_law_868 ?_
          refine lv_iconst (v := nI 1) hx hb dL_law_869 (by decide) ?_
          refine z_iald hx hb hK hP (39 + (4 + (4 + (z_bt G i)))) 0 (q_pre (n := 39) rfl (q_pre (n := 4) rfl (q_gB (cI := cI) (cR := cR) (sa := sa) (rb := rb) (rt := rt) (G := G) (D := D) (by omega)))) rfl (by decide) (by decide) dL_law_870 ?_
          refine z_top (x' := z_lk G (z_bt G i)) rfl ?_
          refine lv_aload_n hx hb dL_law_871 rfl (lv_at hl 2 rfl) ?_
          refine va_get (ci := 3) (v := .ref (sa 1)) (C := RX3) (T := TX3) (N := 6) hx hb hts (fun _ h => (List.mem_append_left _ (List.mem_append_left _ (List.mem_append_left _ (List.mem_append_left _ (List.mem_append_left _ (List.mem_append_left _ (List.mem_append_right _ h)))))))) hown hK hP 43 rfl rfl 0 (by decide) (hts _ (List.mem_append_left _ (List.mem_append_left _ (List.mem_append_left _ (List.mem_append_left _ (List.mem_append_left _ (List.mem_append_left _ (List.mem_append_left _ (List.mem_append_left _ (List.mem_append_left _ (List.mem_of_getElem? (i := 9) rfl))))))))))) (fun _ h9 => h9) rfl dL_law_872 ?_
          refine lv_aload_n hx hb dL_law_875 rfl (lv_at hl 2 rfl) ?_
          refine va_get (ci := 3) (v := .ref (sa 3)) (C := RX3) (T := TX3) (N := 6) hx hb hts (fun _ h => (List.mem_append_left _ (List.mem_append_left _ (List.mem_append_left _ (List.mem_append_left _ (List.mem_append_left _ (List.mem_append_left _ (List.mem_append_right _ h)))))))) hown hK hP 43 rfl rfl 2 (by decide) (hts _ (List.mem_append_left _ (List.mem_append_left _ (List.mem_append_left _ (List.mem_append_left _ (List.mem_append_left _ (List.mem_append_left _ (List.mem_append_left _ (List.mem_append_left _ (List.mem_append_left _ (List.mem_of_getElem? (i := 8) rfl))))))))))) (fun _ h9 => h9) rfl dL_law_876 ?_
          refine lv_iload hx hb dL_law_879 (lv_at hl 10 rfl) ?_
          refine q_aald (v := rt i) hx hb hK hP 46 rfl (by omega) (by omega) rfl dL_law_881 ?_
          refine lv_iconst (v := nI 1) hx hb dL_law_882 (by decide) ?_
          refine z_iald hx hb hK hP (39 + (4 + (4 + (z_bc G + i)))) 0 (q_pre (n := 39) rfl (q_pre (n := 4) rfl (q_gT (cI := cI) (cR := cR) (sa := sa) (rb := rb) (rt := rt) (G := G) (D := D) (by omega)))) rfl (by decide) (by decide) dL_law_883 ?_
          refine z_top (x' := nI (z_sh G i)) rfl ?_
          have hsh2 := hG.2.2.2.1 i
          refine z_iald hx hb hK hP 44 0 rfl rfl (by omega) (by decide) dL_law_884 ?_
          refine z_top (x' := z_wm G (z_sh G i)) rfl ?_
          refine lv_iadd hx hb dL_law_885 ?_
          refine z_top (x' := q_fr G D i) (q_fr1 hp).symm ?_
          refine q_iast (ws' := z_cW cI h na ta G D G1 D1 ++ ([(q1, .inl (cI, (z_tc G), .inl (z_fi (fun _ => 0) (z_vc D) (i + 1)))), (q2, .inl (cI, (z_tc G), .inl (z_fi (fun _ => 0) (z_dof G D) (i + 1)))), (q3, .inl (cZ, (z_tc G), .inl (z_fi (fun _ => 0) (q_gn D) (i + 1)))), (q4, .inl (cI, (z_tc G), .inl (upd (z_fi (fun _ => 0) (q_fr G D) i) i (q_fr G D i))))] ++ q_W cI cR sa rb rt G D)) hx hb hK hP hD hS 42 0 rfl rfl rfl (by omega) (by omega) dL_law_886 (fun H locs hP hD hS => ?_)
          rw [z_fi_s] at hP hD
          have hP : va_P Dg vwCl (z_cW cI h na ta G D G1 D1 ++ ([(q1, .inl (cI, (z_tc G), .inl (z_fi (fun _ => 0) (z_vc D) (i + 1)))), (q2, .inl (cI, (z_tc G), .inl (z_fi (fun _ => 0) (z_dof G D) (i + 1)))), (q3, .inl (cZ, (z_tc G), .inl (z_fi (fun _ => 0) (q_gn D) (i + 1)))), (q4, .inl (cI, (z_tc G), .inl (z_fi (fun _ => 0) (q_fr G D) (i + 1))))] ++ q_W cI cR sa rb rt G D)) H := hP
          have hD : va_D _ (z_cW cI h na ta G D G1 D1 ++ ([(q1, .inl (cI, (z_tc G), .inl (z_fi (fun _ => 0) (z_vc D) (i + 1)))), (q2, .inl (cI, (z_tc G), .inl (z_fi (fun _ => 0) (z_dof G D) (i + 1)))), (q3, .inl (cZ, (z_tc G), .inl (z_fi (fun _ => 0) (q_gn D) (i + 1)))), (q4, .inl (cI, (z_tc G), .inl (z_fi (fun _ => 0) (q_fr G D) (i + 1))))] ++ q_W cI cR sa rb rt G D)) := hD
          refine lv_iinc (v := nI (i + 1)) (lv' := [(18, .int (nI (i + 1))), (0, .ref b), (1, .ref h), (2, .ref (sa 0)), (3, .int (nI tm)), (7, .int (nI (z_tc G))), (13, .int (z_ls G D (z_sd G) (z_od G))), (14, .ref q1), (15, .ref q2), (16, .ref q3), (17, .ref q4)]) hx hb dL_law_887 hl (k := 10) rfl (nI_1 _) (by decide) rfl (fun ls hl => ?_)
          refine lv_goto (tgt := 791) hx hb dL_law_890 (by decide) ?_
          exact ih791 (i + 1) (by omega) (by omega) _ _ hP hD hS _ (lv_sub hl [1, 2, 3, 4, 5, 6, 7, 8, 9, 10, 0] rfl)
        · skip
          refine lv_aload hx hb dL_law_798 (lv_at hl 6 rfl) ?_
          refine lv_iload hx hb dL_law_800 (lv_at hl 10 rfl) ?_
          refine lv_aload_n hx hb dL_law_802 rfl (lv_at hl 1 rfl) ?_
          refine lv_iload hx hb dL_law_803 (lv_at hl 10 rfl) ?_
          refine z_rVi (v := z_vc D i) [.int (nI i), .ref q1] hx hb hml hown hts (m_X2_vacuumOf l Dg cI h na ta G D G1 D1 i (by omega) hG hW) gL_law_X2_vacuumOf rfl kd_X2_vacuumOf ⟨Nat.le_of_ble_eq_true rfl, Nat.le_of_ble_eq_true rfl⟩ (q_KI hK) hN (z_Pl hP) rfl rfl rfl rfl hl.1 rfl (Nat.le_of_ble_eq_true rfl) dL_law_805 ⟨by show _ ≤ 801385; omega, by show _ ≤ 6697312; omega⟩ ?_
          refine q_iast (ws' := z_cW cI h na ta G D G1 D1 ++ ([(q1, .inl (cI, (z_tc G), .inl (upd (z_fi (fun _ => 0) (z_vc D) i) i (z_vc D i)))), (q2, .inl (cI, (z_tc G), .inl (z_fi (fun _ => 0) (z_dof G D) i))), (q3, .inl (cZ, (z_tc G), .inl (z_fi (fun _ => 0) (q_gn D) i))), (q4, .inl (cI, (z_tc G), .inl (z_fi (fun _ => 0) (q_fr G D) i)))] ++ q_W cI cR sa rb rt G D)) hx hb hK hP hD hS 39 0 rfl rfl rfl (by omega) (by omega) dL_law_808 (fun H locs hP hD hS => ?_)
          rw [z_fi_s] at hP hD
          have hP : va_P Dg vwCl (z_cW cI h na ta G D G1 D1 ++ ([(q1, .inl (cI, (z_tc G), .inl (z_fi (fun _ => 0) (z_vc D) (i + 1)))), (q2, .inl (cI, (z_tc G), .inl (z_fi (fun _ => 0) (z_dof G D) i))), (q3, .inl (cZ, (z_tc G), .inl (z_fi (fun _ => 0) (q_gn D) i))), (q4, .inl (cI, (z_tc G), .inl (z_fi (fun _ => 0) (q_fr G D) i)))] ++ q_W cI cR sa rb rt G D)) H := hP
          have hD : va_D _ (z_cW cI h na ta G D G1 D1 ++ ([(q1, .inl (cI, (z_tc G), .inl (z_fi (fun _ => 0) (z_vc D) (i + 1)))), (q2, .inl (cI, (z_tc G), .inl (z_fi (fun _ => 0) (z_dof G D) i))), (q3, .inl (cZ, (z_tc G), .inl (z_fi (fun _ => 0) (q_gn D) i))), (q4, .inl (cI, (z_tc G), .inl (z_fi (fun _ => 0) (q_fr G D) i)))] ++ q_W cI cR sa rb rt G D)) := hD
          refine lv_aload hx hb dL_law_809 (lv_at hl 7 rfl) ?_
          refine lv_iload hx hb dL_law_811 (lv_at hl 10 rfl) ?_
          refine lv_aload_n hx hb dL_law_813 rfl (lv_at hl 1 rfl) ?_
          refine lv_iload hx hb dL_law_814 (lv_at hl 10 rfl) ?_
          refine z_rVi (v := z_dof G D i) [.int (nI i), .ref q2] hx hb hml hown hts (m_X2_daysOf l Dg cI h na ta G D G1 D1 i (by omega) hG hW) gL_law_X2_daysOf rfl kd_X2_daysOf ⟨Nat.le_of_ble_eq_true rfl, Nat.le_of_ble_eq_true rfl⟩ (q_KI hK) hN (z_Pl hP) rfl rfl rfl rfl hl.1 rfl (Nat.le_of_ble_eq_true rfl) dL_law_816 ⟨by show _ ≤ 801385; omega, by show _ ≤ 6697312; omega⟩ ?_
          refine q_iast (ws' := z_cW cI h na ta G D G1 D1 ++ ([(q1, .inl (cI, (z_tc G), .inl (z_fi (fun _ => 0) (z_vc D) (i + 1)))), (q2, .inl (cI, (z_tc G), .inl (upd (z_fi (fun _ => 0) (z_dof G D) i) i (z_dof G D i)))), (q3, .inl (cZ, (z_tc G), .inl (z_fi (fun _ => 0) (q_gn D) i))), (q4, .inl (cI, (z_tc G), .inl (z_fi (fun _ => 0) (q_fr G D) i)))] ++ q_W cI cR sa rb rt G D)) hx hb hK hP hD hS 40 0 rfl rfl rfl (by omega) (by omega) dL_law_819 (fun H locs hP hD hS => ?_)
          rw [z_fi_s] at hP hD
          have hP : va_P Dg vwCl (z_cW cI h na ta G D G1 D1 ++ ([(q1, .inl (cI, (z_tc G), .inl (z_fi (fun _ => 0) (z_vc D) (i + 1)))), (q2, .inl (cI, (z_tc G), .inl (z_fi (fun _ => 0) (z_dof G D) (i + 1)))), (q3, .inl (cZ, (z_tc G), .inl (z_fi (fun _ => 0) (q_gn D) i))), (q4, .inl (cI, (z_tc G), .inl (z_fi (fun _ => 0) (q_fr G D) i)))] ++ q_W cI cR sa rb rt G D)) H := hP
          have hD : va_D _ (z_cW cI h na ta G D G1 D1 ++ ([(q1, .inl (cI, (z_tc G), .inl (z_fi (fun _ => 0) (z_vc D) (i + 1)))), (q2, .inl (cI, (z_tc G), .inl (z_fi (fun _ => 0) (z_dof G D) (i + 1)))), (q3, .inl (cZ, (z_tc G), .inl (z_fi (fun _ => 0) (q_gn D) i))), (q4, .inl (cI, (z_tc G), .inl (z_fi (fun _ => 0) (q_fr G D) i)))] ++ q_W cI cR sa rb rt G D)) := hD
          refine lv_aload hx hb dL_law_820 (lv_at hl 8 rfl) ?_
          refine lv_iload hx hb dL_law_822 (lv_at hl 10 rfl) ?_
          refine lv_aload_n hx hb dL_law_824 rfl (lv_at hl 1 rfl) ?_
          refine lv_iload hx hb dL_law_825 (lv_at hl 10 rfl) ?_
          refine z_rVi (v := z_shf G D i) [.int (nI i), .ref q3] hx hb hml hown hts (m_X2_shelfOf l Dg cI h na ta G D G1 D1 i (by omega) hG hW) gL_law_X2_shelfOf rfl kd_X2_shelfOf ⟨Nat.le_of_ble_eq_true rfl, Nat.le_of_ble_eq_true rfl⟩ (q_KI hK) hN (z_Pl hP) rfl rfl rfl rfl hl.1 rfl (Nat.le_of_ble_eq_true rfl) dL_law_827 ⟨by show _ ≤ 801385; omega, by show _ ≤ 6697312; omega⟩ ?_
          refine z_top (x' := -1) (q_shf0 hp) ?_
          refine lv_if_ge (tgt := 837) hx hb dL_law_830 (by decide) (fun c830 => absurd c830 (by decide)) (fun c830 => ?_)
          refine lv_iconst (v := z_bI true) hx hb dL_law_833 (by decide) ?_
          refine lv_goto (tgt := 838) hx hb dL_law_834 (by decide) ?_
          refine q_zast (x := true) hx hb hK hP hD hS 41 rfl (by omega) (by omega) dL_law_838 (fun H locs hP hD hS => ?_)
          have hP : va_P Dg vwCl (z_cW cI h na ta G D G1 D1 ++ ([(q1, .inl (cI, (z_tc G), .inl (z_fi (fun _ => 0) (z_vc D) (i + 1)))), (q2, .inl (cI, (z_tc G), .inl (z_fi (fun _ => 0) (z_dof G D) (i + 1)))), (q3, .inl (cZ, (z_tc G), .inl (upd (z_fi (fun _ => 0) (q_gn D) i) i (z_bI true)))), (q4, .inl (cI, (z_tc G), .inl (z_fi (fun _ => 0) (q_fr G D) i)))] ++ q_W cI cR sa rb rt G D)) H := hP
          have hD : va_D _ (z_cW cI h na ta G D G1 D1 ++ ([(q1, .inl (cI, (z_tc G), .inl (z_fi (fun _ => 0) (z_vc D) (i + 1)))), (q2, .inl (cI, (z_tc G), .inl (z_fi (fun _ => 0) (z_dof G D) (i + 1)))), (q3, .inl (cZ, (z_tc G), .inl (upd (z_fi (fun _ => 0) (q_gn D) i) i (z_bI true)))), (q4, .inl (cI, (z_tc G), .inl (z_fi (fun _ => 0) (q_fr G D) i)))] ++ q_W cI cR sa rb rt G D)) := hD
          rw [show z_bI true = q_gn D i from (q_gn0 hp).symm] at hP hD
          rw [z_fi_s] at hP hD
          have hP : va_P Dg vwCl (z_cW cI h na ta G D G1 D1 ++ ([(q1, .inl (cI, (z_tc G), .inl (z_fi (fun _ => 0) (z_vc D) (i + 1)))), (q2, .inl (cI, (z_tc G), .inl (z_fi (fun _ => 0) (z_dof G D) (i + 1)))), (q3, .inl (cZ, (z_tc G), .inl (z_fi (fun _ => 0) (q_gn D) (i + 1)))), (q4, .inl (cI, (z_tc G), .inl (z_fi (fun _ => 0) (q_fr G D) i)))] ++ q_W cI cR sa rb rt G D)) H := hP
          have hD : va_D _ (z_cW cI h na ta G D G1 D1 ++ ([(q1, .inl (cI, (z_tc G), .inl (z_fi (fun _ => 0) (z_vc D) (i + 1)))), (q2, .inl (cI, (z_tc G), .inl (z_fi (fun _ => 0) (z_dof G D) (i + 1)))), (q3, .inl (cZ, (z_tc G), .inl (z_fi (fun _ => 0) (q_gn D) (i + 1)))), (q4, .inl (cI, (z_tc G), .inl (z_fi (fun _ => 0) (q_fr G D) i)))] ++ q_W cI cR sa rb rt G D)) := hD
          refine lv_aload hx hb dL_law_839 (lv_at hl 9 rfl) ?_
          refine lv_iload hx hb dL_law_841 (lv_at hl 10 rfl) ?_
          refine lv_aload hx hb dL_law_843 (lv_at hl 8 rfl) ?_
          refine lv_iload hx hb dL_law_845 (lv_at hl 10 rfl) ?_
          refine q_zald hx hb hK hP 41 rfl (by omega) (by omega) dL_law_847 ?_
          refine z_top (x' := z_fi (fun _ => 0) (q_gn D) (i + 1) i) rfl ?_
          refine z_top (x' := 1) ((q_fi_at (by omega)).trans (q_gn0 hp)) ?_
          refine lv_if_eq (tgt := 855) hx hb dL_law_848 (by decide) (fun c848 => absurd c848 (by decide)) (fun c848 => ?_)
          refine lv_iconst (v := 0) hx hb dL_law_851 (by decide) ?_
          refine z_top (x' := q_fr G D i) (q_fr0 hp).symm ?_
          refine lv_goto (tgt := 886) hx hb dL_law_852 (by decide) ?_
          refine q_iast (ws' := z_cW cI h na ta G D G1 D1 ++ ([(q1, .inl (cI, (z_tc G), .inl (z_fi (fun _ => 0) (z_vc D) (i + 1)))), (q2, .inl (cI, (z_tc G), .inl (z_fi (fun _ => 0) (z_dof G D) (i + 1)))), (q3, .inl (cZ, (z_tc G), .inl (z_fi (fun _ => 0) (q_gn D) (i + 1)))), (q4, .inl (cI, (z_tc G), .inl (upd (z_fi (fun _ => 0) (q_fr G D) i) i (q_fr G D i))))] ++ q_W cI cR sa rb rt G D)) hx hb hK hP hD hS 42 0 rfl rfl rfl (by omega) (by omega) dL_law_886 (fun H locs hP hD hS => ?_)
          rw [z_fi_s] at hP hD
          have hP : va_P Dg vwCl (z_cW cI h na ta G D G1 D1 ++ ([(q1, .inl (cI, (z_tc G), .inl (z_fi (fun _ => 0) (z_vc D) (i + 1)))), (q2, .inl (cI, (z_tc G), .inl (z_fi (fun _ => 0) (z_dof G D) (i + 1)))), (q3, .inl (cZ, (z_tc G), .inl (z_fi (fun _ => 0) (q_gn D) (i + 1)))), (q4, .inl (cI, (z_tc G), .inl (z_fi (fun _ => 0) (q_fr G D) (i + 1))))] ++ q_W cI cR sa rb rt G D)) H := hP
          have hD : va_D _ (z_cW cI h na ta G D G1 D1 ++ ([(q1, .inl (cI, (z_tc G), .inl (z_fi (fun _ => 0) (z_vc D) (i + 1)))), (q2, .inl (cI, (z_tc G), .inl (z_fi (fun _ => 0) (z_dof G D) (i + 1)))), (q3, .inl (cZ, (z_tc G), .inl (z_fi (fun _ => 0) (q_gn D) (i + 1)))), (q4, .inl (cI, (z_tc G), .inl (z_fi (fun _ => 0) (q_fr G D) (i + 1))))] ++ q_W cI cR sa rb rt G D)) := hD
          refine lv_iinc (v := nI (i + 1)) (lv' := [(18, .int (nI (i + 1))), (0, .ref b), (1, .ref h), (2, .ref (sa 0)), (3, .int (nI tm)), (7, .int (nI (z_tc G))), (13, .int (z_ls G D (z_sd G) (z_od G))), (14, .ref q1), (15, .ref q2), (16, .ref q3), (17, .ref q4)]) hx hb dL_law_887 hl (k := 10) rfl (nI_1 _) (by decide) rfl (fun ls hl => ?_)
          refine lv_goto (tgt := 791) hx hb dL_law_890 (by decide) ?_
          exact ih791 (i + 1) (by omega) (by omega) _ _ hP hD hS _ (lv_sub hl [1, 2, 3, 4, 5, 6, 7, 8, 9, 10, 0] rfl)
  exact lp791 (z_tc G + 1) 0 (by omega) (by omega) _ _ hP hD hS _ (lv_sub hl [5, 6, 7, 8, 9, 10, 4, 3, 2, 1, 0] rfl)
