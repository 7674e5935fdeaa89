
set_option maxHeartbeats 40000000 in
set_option maxRecDepth 100000 in
theorem m_law_T6 {p : Program} {l : Launch} {e : Env} {s : State} {m : MethodId} {below : List Frame} {meth : Method} {c : Code} {b Ls : Nat} {xs : Nat → Int32} {Dg : va_G} {cI cR cZ : ClassId} (C0 : q_CL p l s m meth c b Ls xs Dg cI cR cZ) {Q : State → Prop} {h : Nat} {na ta : Nat → Nat} {sa rb rt : Nat → Nat} {G : z_GG} {D : z_DD} (hI : q_I G D) (tm : Nat) (qa qb qc qd : Nat) (c0 s0 : Nat) (hc : c0 ≤ 700000) (hs : s0 ≤ 6000000)  (K : q_Go p l e s m below meth c b Q Dg cI cR h na ta sa rb rt G (z_day G D) [] 1207 c0 s0 [(0, .ref b), (1, .ref h), (2, .ref (sa 0)), (3, .int (nI tm))]) : q_Go p l e s m below meth c b Q Dg cI cR h na ta sa rb rt G (z_day G D) [(qa, .inl (cI, (z_tc G), .inl (z_fi (fun _ => 0) (z_vc D) (z_tc G)))), (qb, .inl (cI, (z_tc G), .inl (z_fi (fun _ => 0) (z_dof G D) (z_tc G)))), (qc, .inl (cZ, (z_tc G), .inl (z_fi (fun _ => 0) (q_gn D) (z_tc G)))), (qd, .inl (cI, (z_tc G), .inl (z_fi (fun _ => 0) (q_fr G D) (z_tc G))))] 955 c0 s0 [(0, .ref b), (1, .ref h), (2, .ref (sa 0)), (3, .int (nI tm)), (7, .int (nI (z_tc G))), (14, .ref qa), (15, .ref qb), (16, .ref qc), (17, .ref qd)] := by
  obtain ⟨hx, hb, hr, hml, hown, hts, hXs, hbl, hlk, hK, hN, hJ, hE, hTA, hL, hst⟩ := C0
  obtain ⟨hG, hW, hB, hV, h5, h6, h7, h8, h9, h10⟩ := id hI
  have htc : z_tc G ≤ 60 := hG.2.2.2.2.2.1
  have hbc : z_bc G ≤ 6 := hG.2.2.2.2.1
  have hsd : z_sd G ≤ 9 := hG.2.2.2.2.2.2.1
  have hod : z_od G ≤ 2 := hG.2.2.2.2.2.2.2
  have hcn1 := q_cn_le (G := G) (D := D) 1
  have hcn2 := q_cn_le (G := G) (D := D) 2
  have hcn3 := q_cn_le (G := G) (D := D) 3
  have hbA : ¬ s.heap.size ≤ b := Nat.not_le.mpr hbl
  have hA : ∀ q : Nat, s.heap.size ≤ q → (fun q => s.heap.size ≤ q) q := fun _ z => z
  have hId := q_I_day hI
  have hWd : z_WD G (z_day G D) := z_WD_day hW
  have hVd : q_V G (z_day G D) := q_V_day hG hV
  intro G1 D1 H locs ls hP hD hS hl
  have hP : va_P Dg vwCl (z_cW cI h na ta G (z_day G D) G1 D1 ++ ([(qa, .inl (cI, (z_tc G), .inl (z_fi (fun _ => 0) (z_vc D) (z_tc G)))), (qb, .inl (cI, (z_tc G), .inl (z_fi (fun _ => 0) (z_dof G D) (z_tc G)))), (qc, .inl (cZ, (z_tc G), .inl (z_fi (fun _ => 0) (q_gn D) (z_tc G)))), (qd, .inl (cI, (z_tc G), .inl (z_fi (fun _ => 0) (q_fr G D) (z_tc G))))] ++ q_W cI cR sa rb rt G (z_day G D))) H := hP
  have hD : va_D _ (z_cW cI h na ta G (z_day G D) G1 D1 ++ ([(qa, .inl (cI, (z_tc G), .inl (z_fi (fun _ => 0) (z_vc D) (z_tc G)))), (qb, .inl (cI, (z_tc G), .inl (z_fi (fun _ => 0) (z_dof G D) (z_tc G)))), (qc, .inl (cZ, (z_tc G), .inl (z_fi (fun _ => 0) (q_gn D) (z_tc G)))), (qd, .inl (cI, (z_tc G), .inl (z_fi (fun _ => 0) (q_fr G D) (z_tc G))))] ++ q_W cI cR sa rb rt G (z_day G D))) := hD
  refine lv_iconst (v := nI 0) hx hb dL_law_955 (by decide) ?_
  refine lv_istore (lv' := [(20, .int (nI 0)), (0, .ref b), (1, .ref h), (2, .ref (sa 0)), (3, .int (nI tm)), (7, .int (nI (z_tc G))), (14, .ref qa), (15, .ref qb), (16, .ref qc), (17, .ref qd)]) hx hb dL_law_956 hl (by decide) rfl (fun ls hl => ?_)
  have lp958 : ∀ (zz i : Nat) , i ≤ z_tc G → z_tc G + 1 ≤ i + zz → ∀ ls : Array Slot, lv_has ls 23 [(0, .ref b), (1, .ref h), (2, .ref (sa 0)), (3, .int (nI tm)), (7, .int (nI (z_tc G))), (14, .ref qa), (15, .ref qb), (16, .ref qc), (17, .ref qd), (20, .int (nI i))] → W p l e room_1 s m ([Value.ref b] : List Value).toArray below meth c H locs c0 s0 Q (F0 m 958 ls []) := by
    intro zz
    induction zz with
    | zero => intros; exfalso; omega
    | succ zz ih958 =>
      intro i hi hzz ls hl
      refine lv_iload hx hb dL_law_958 (lv_at hl 9 rfl) ?_
      refine lv_iload hx hb dL_law_960 (lv_at hl 4 rfl) ?_
      refine lv_icmp_ge (tgt := 1207) hx hb dL_law_962 (by decide) (fun c962 => ?_) (fun c962 => ?_)
      · skip
        have h9x : i = z_tc G := Nat.le_antisymm hi (z_le (by omega) (by omega) c962)
        subst h9x
        have hP := q_drP (c := z_cW cI h na ta G (z_day G D) G1 D1) (e := [(qa, .inl (cI, (z_tc G), .inl (z_fi (fun _ => 0) (z_vc D) (z_tc G)))), (qb, .inl (cI, (z_tc G), .inl (z_fi (fun _ => 0) (z_dof G D) (z_tc G)))), (qc, .inl (cZ, (z_tc G), .inl (z_fi (fun _ => 0) (q_gn D) (z_tc G)))), (qd, .inl (cI, (z_tc G), .inl (z_fi (fun _ => 0) (q_fr G D) (z_tc G))))]) (s := q_W cI cR sa rb rt G (z_day G D)) hP
        have hD := q_drD (c := z_cW cI h na ta G (z_day G D) G1 D1) (e := [(qa, .inl (cI, (z_tc G), .inl (z_fi (fun _ => 0) (z_vc D) (z_tc G)))), (qb, .inl (cI, (z_tc G), .inl (z_fi (fun _ => 0) (z_dof G D) (z_tc G)))), (qc, .inl (cZ, (z_tc G), .inl (z_fi (fun _ => 0) (q_gn D) (z_tc G)))), (qd, .inl (cI, (z_tc G), .inl (z_fi (fun _ => 0) (q_fr G D) (z_tc G))))]) (s := q_W cI cR sa rb rt G (z_day G D)) hD
        exact K G1 D1 _ _ _ hP hD hS (lv_sub hl [0, 1, 2, 3] rfl)
      · skip
        have hi2 : i < z_tc G := z_nle (by omega) c962
        have hi958 : i < z_tc G := hi2
        have hsh := hG.2.2.2.1 i
        have hwdi := hWd i hi2
        have hvi := (hV i hi2).1
        by_cases hp : z_pl D i = 1
        · skip
          have hvc : z_vc (z_day G D) i = z_wv G D i := by rw [q_day_vc hi2, if_pos hp]
          rcases (show z_pl (z_day G D) i = 1 ∨ z_pl (z_day G D) i = 2 ∨ z_pl (z_day G D) i = 3 by omega) with hd | hd | hd
          · skip
            refine lv_aload hx hb dL_law_965 (lv_at hl 7 rfl) ?_
            refine lv_iload hx hb dL_law_967 (lv_at hl 9 rfl) ?_
            refine q_zald hx hb hK hP 41 rfl (by omega) (by omega) dL_law_969 ?_
            refine z_top (x' := z_fi (fun _ => 0) (q_gn D) (z_tc G) i) rfl ?_
            refine z_top (x' := 0) ((q_fi_at hi2).trans (q_gn1 hp)) ?_
            refine lv_if_ne (tgt := 986) hx hb dL_law_970 (by decide) (fun c970 => absurd rfl c970) (fun c970 => ?_)
            refine lv_aload_n hx hb dL_law_973 rfl (lv_at hl 1 rfl) ?_
            refine lv_iload hx hb dL_law_974 (lv_at hl 9 rfl) ?_
            refine z_rVi (v := z_shf G (z_day G D) i) [] hx hb hml hown hts (m_X2_shelfOf l Dg cI h na ta G (z_day G D) G1 D1 i (by omega) hG hWd) gL_law_X2_shelfOf rfl kd_X2_shelfOf ⟨Nat.le_of_ble_eq_true rfl, Nat.le_of_ble_eq_true rfl⟩ (q_KI hK) hN (z_Pl hP) rfl rfl rfl rfl hl.1 rfl (Nat.le_of_ble_eq_true rfl) dL_law_976 ⟨by show _ ≤ 801385; omega, by show _ ≤ 6697312; omega⟩ ?_
            refine z_top (x' := nI (z_sh G i)) (q_shf1 hd) ?_
            refine lv_if_ge (tgt := 986) hx hb dL_law_979 (by decide) (fun c979 => ?_) (fun c979 => absurd (q_0n (by omega)) c979)
            refine lv_iconst (v := 0) hx hb dL_law_986 (by decide) ?_
            refine lv_istore (lv' := [(21, .int 0), (0, .ref b), (1, .ref h), (2, .ref (sa 0)), (3, .int (nI tm)), (7, .int (nI (z_tc G))), (14, .ref qa), (15, .ref qb), (16, .ref qc), (17, .ref qd), (20, .int (nI i))]) hx hb dL_law_987 hl (by decide) rfl (fun ls hl => ?_)
            refine lv_aload_n hx hb dL_law_989 rfl (lv_at hl 2 rfl) ?_
            refine lv_iload hx hb dL_law_990 (lv_at hl 10 rfl) ?_
            refine z_rVi (v := z_vc (z_day G D) i) [] hx hb hml hown hts (m_X2_vacuumOf l Dg cI h na ta G (z_day G D) G1 D1 i (by omega) hG hWd) gL_law_X2_vacuumOf rfl kd_X2_vacuumOf ⟨Nat.le_of_ble_eq_true rfl, Nat.le_of_ble_eq_true rfl⟩ (q_KI hK) hN (z_Pl hP) rfl rfl rfl rfl hl.1 rfl (Nat.le_of_ble_eq_true rfl) dL_law_992 ⟨by show _ ≤ 801385; omega, by show _ ≤ 6697312; omega⟩ ?_
            refine lv_iconst (v := 0) hx hb dL_law_995 (by decide) ?_
            refine lv_aload hx hb dL_law_996 (lv_at hl 6 rfl) ?_
            refine lv_iload hx hb dL_law_998 (lv_at hl 10 rfl) ?_
            refine z_iald hx hb hK hP 39 0 rfl rfl (by omega) (by omega) dL_law_1000 ?_
            refine z_top (x' := z_fi (fun _ => 0) (z_vc D) (z_tc G) i) rfl ?_
            refine z_top (x' := z_vc D i) (q_fi_at hi2) ?_
            refine lv_aload hx hb dL_law_1001 (lv_at hl 9 rfl) ?_
            refine lv_iload hx hb dL_law_1003 (lv_at hl 10 rfl) ?_
            refine z_iald hx hb hK hP 42 0 rfl rfl (by omega) (by omega) dL_law_1005 ?_
            refine z_top (x' := z_fi (fun _ => 0) (q_fr G D) (z_tc G) i) rfl ?_
            refine z_top (x' := z_rt G i (z_sh G i)) ((q_fi_at hi2).trans (q_fr1 hp)) ?_
            refine lv_isub hx hb dL_law_1006 ?_
            refine va_mmax (rest := [.int (z_vc (z_day G D) i)]) hx hb (hml.trans hl.1.symm) hown (hts _ (List.mem_append_left _ (List.mem_append_left _ (List.mem_append_left _ (List.mem_append_left _ (List.mem_append_left _ (List.mem_append_left _ (List.mem_append_left _ (List.mem_append_left _ (List.mem_append_left _ (List.mem_of_getElem? (i := 10) rfl))))))))))) (hts _ (List.mem_append_left _ (List.mem_append_left _ (List.mem_append_left _ (List.mem_append_left _ (List.mem_append_left _ (List.mem_append_left _ (List.mem_append_left _ (List.mem_append_left _ (List.mem_append_left _ (List.mem_of_getElem? (i := 11) rfl))))))))))) (hts _ (List.mem_append_left _ (List.mem_append_left _ (List.mem_append_left _ (List.mem_append_left _ (List.mem_append_left _ (List.mem_append_left _ (List.mem_append_left _ (List.mem_append_left _ (List.mem_append_left _ (List.mem_of_getElem? (i := 12) rfl))))))))))) (hts _ (List.mem_append_left _ (List.mem_append_left _ (List.mem_append_left _ (List.mem_append_left _ (List.mem_append_left _ (List.mem_append_left _ (List.mem_append_left _ (List.mem_append_left _ (List.mem_append_left _ (List.mem_of_getElem? (i := 13) rfl))))))))))) (by exact Nat.le_of_ble_eq_true rfl) (by exact Nat.le_of_ble_eq_true rfl) (by show _ ≤ 801385; omega) (by show _ ≤ 6697312; omega) dL_law_1007 ?_
            refine z_top (x' := z_vc (z_day G D) i) (by rw [hvc]; rfl) ?_
            refine lv_icmp_ne (tgt := 1095) hx hb dL_law_1010 (by decide) (fun c1010 => absurd rfl c1010) (fun c1010 => ?_)
            refine lv_aload hx hb dL_law_1013 (lv_at hl 8 rfl) ?_
            refine lv_iload hx hb dL_law_1015 (lv_at hl 10 rfl) ?_
            refine q_zald hx hb hK hP 41 rfl (by omega) (by omega) dL_law_1017 ?_
            refine z_top (x' := z_fi (fun _ => 0) (q_gn D) (z_tc G) i) rfl ?_
            refine z_top (x' := 0) ((q_fi_at hi2).trans (q_gn1 hp)) ?_
            refine lv_if_eq (tgt := 1030) hx hb dL_law_1018 (by decide) (fun c1018 => ?_) (fun c1018 => absurd rfl c1018)
            refine lv_aload hx hb dL_law_1030 (lv_at hl 8 rfl) ?_
            refine lv_iload hx hb dL_law_1032 (lv_at hl 10 rfl) ?_
            refine q_zald hx hb hK hP 41 rfl (by omega) (by omega) dL_law_1034 ?_
            refine z_top (x' := z_fi (fun _ => 0) (q_gn D) (z_tc G) i) rfl ?_
            refine z_top (x' := 0) ((q_fi_at hi2).trans (q_gn1 hp)) ?_
            refine lv_if_ne (tgt := 1069) hx hb dL_law_1035 (by decide) (fun c1035 => absurd rfl c1035) (fun c1035 => ?_)
            refine lv_aload hx hb dL_law_1038 (lv_at hl 7 rfl) ?_
            refine lv_iload hx hb dL_law_1040 (lv_at hl 10 rfl) ?_
            refine z_iald hx hb hK hP 40 0 rfl rfl (by omega) (by omega) dL_law_1042 ?_
            refine z_top (x' := z_fi (fun _ => 0) (z_dof G D) (z_tc G) i) rfl ?_
            refine z_top (x' := z_un G D i (z_sh G i)) ((q_fi_at hi2).trans (q_dof1 hp)) ?_
            refine lv_iconst (v := 1) hx hb dL_law_1043 (by decide) ?_
            refine lv_icmp_ne (tgt := 1051) hx hb dL_law_1044 (by decide) (fun c1044 => ?_) (fun c1044 => ?_)
            · skip
              refine lv_iconst (v := 0) hx hb dL_law_1051 (by decide) ?_
              refine lv_aload_n hx hb dL_law_1052 rfl (lv_at hl 2 rfl) ?_
              refine lv_iload hx hb dL_law_1053 (lv_at hl 10 rfl) ?_
              refine z_rVi (v := z_vc (z_day G D) i) [.int 0] hx hb hml hown hts (m_X2_vacuumOf l Dg cI h na ta G (z_day G D) G1 D1 i (by omega) hG hWd) gL_law_X2_vacuumOf rfl kd_X2_vacuumOf ⟨Nat.le_of_ble_eq_true rfl, Nat.le_of_ble_eq_true rfl⟩ (q_KI hK) hN (z_Pl hP) rfl rfl rfl rfl hl.1 rfl (Nat.le_of_ble_eq_true rfl) dL_law_1055 ⟨by show _ ≤ 801385; omega, by show _ ≤ 6697312; omega⟩ ?_
              refine lv_if_ne (tgt := 1065) hx hb dL_law_1058 (by decide) (fun c1058 => ?_) (fun c1058 => absurd c1058 (fun z => c1044 ((q_un1 hI hi2 hp).mpr (by rw [← hvc]; exact z))))
              refine lv_iconst (v := 0) hx hb dL_law_1065 (by decide) ?_
              refine lv_icmp_ne (tgt := 1095) hx hb dL_law_1066 (by decide) (fun c1066 => absurd rfl c1066) (fun c1066 => ?_)
              refine lv_aload hx hb dL_law_1069 (lv_at hl 8 rfl) ?_
              refine lv_iload hx hb dL_law_1071 (lv_at hl 10 rfl) ?_
              refine q_zald hx hb hK hP 41 rfl (by omega) (by omega) dL_law_1073 ?_
              refine z_top (x' := z_fi (fun _ => 0) (q_gn D) (z_tc G) i) rfl ?_
              refine z_top (x' := 0) ((q_fi_at hi2).trans (q_gn1 hp)) ?_
              refine lv_if_ne (tgt := 1097) hx hb dL_law_1074 (by decide) (fun c1074 => absurd rfl c1074) (fun c1074 => ?_)
              refine lv_aload_n hx hb dL_law_1077 rfl (lv_at hl 2 rfl) ?_
              refine lv_iload hx hb dL_law_1078 (lv_at hl 10 rfl) ?_
              refine z_rVi (v := z_vc (z_day G D) i) [] hx hb hml hown hts (m_X2_vacuumOf l Dg cI h na ta G (z_day G D) G1 D1 i (by omega) hG hWd) gL_law_X2_vacuumOf rfl kd_X2_vacuumOf ⟨Nat.le_of_ble_eq_true rfl, Nat.le_of_ble_eq_true rfl⟩ (q_KI hK) hN (z_Pl hP) rfl rfl rfl rfl hl.1 rfl (Nat.le_of_ble_eq_true rfl) dL_law_1080 ⟨by show _ ≤ 801385; omega, by show _ ≤ 6697312; omega⟩ ?_
              refine lv_if_ne (tgt := 1097) hx hb dL_law_1083 (by decide) (fun c1083 => ?_) (fun c1083 => ?_)
              · skip
                refine lv_iload hx hb dL_law_1097 (lv_at hl 0 rfl) ?_
                refine lv_if_eq (tgt := 1201) hx hb dL_law_1099 (by decide) (fun c1099 => ?_) (fun c1099 => absurd rfl c1099)
                refine lv_iinc (v := nI (i + 1)) (lv' := [(20, .int (nI (i + 1))), (21, .int 0), (0, .ref b), (1, .ref h), (2, .ref (sa 0)), (3, .int (nI tm)), (7, .int (nI (z_tc G))), (14, .ref qa), (15, .ref qb), (16, .ref qc), (17, .ref qd)]) hx hb dL_law_1201 hl (k := 10) rfl (nI_1 _) (by decide) rfl (fun ls hl => ?_)
                refine lv_goto (tgt := 958) hx hb dL_law_1204 (by decide) ?_
                exact ih958 (i + 1) (by omega) (by omega) _ (lv_sub hl [2, 3, 4, 5, 6, 7, 8, 9, 10, 0] rfl)
              · skip
                refine lv_aload_n hx hb dL_law_1086 rfl (lv_at hl 2 rfl) ?_
                refine lv_iload hx hb dL_law_1087 (lv_at hl 10 rfl) ?_
                refine z_rVi (v := z_bI (z_pl (z_day G D) i == 3)) [] hx hb hml hown hts (m_X2_isLost l Dg cI h na ta G (z_day G D) G1 D1 i (by omega) hG hWd) gL_law_X2_isLost rfl kd_X2_isLost ⟨Nat.le_of_ble_eq_true rfl, Nat.le_of_ble_eq_true rfl⟩ (q_KI hK) hN (z_Pl hP) rfl rfl rfl rfl hl.1 rfl (Nat.le_of_ble_eq_true rfl) dL_law_1089 ⟨by show _ ≤ 801385; omega, by show _ ≤ 6697312; omega⟩ ?_
                refine z_top (x' := 1) (q_is _ _ (q_gone hI hi2 hp c1083)) ?_
                refine lv_if_ne (tgt := 1097) hx hb dL_law_1092 (by decide) (fun c1092 => ?_) (fun c1092 => absurd c1092 (by decide))
                refine lv_iload hx hb dL_law_1097 (lv_at hl 0 rfl) ?_
                refine lv_if_eq (tgt := 1201) hx hb dL_law_1099 (by decide) (fun c1099 => ?_) (fun c1099 => absurd rfl c1099)
                refine lv_iinc (v := nI (i + 1)) (lv' := [(20, .int (nI (i + 1))), (21, .int 0), (0, .ref b), (1, .ref h), (2, .ref (sa 0)), (3, .int (nI tm)), (7, .int (nI (z_tc G))), (14, .ref qa), (15, .ref qb), (16, .ref qc), (17, .ref qd)]) hx hb dL_law_1201 hl (k := 10) rfl (nI_1 _) (by decide) rfl (fun ls hl => ?_)
                refine lv_goto (tgt := 958) hx hb dL_law_1204 (by decide) ?_
                exact ih958 (i + 1) (by omega) (by omega) _ (lv_sub hl [2, 3, 4, 5, 6, 7, 8, 9, 10, 0] rfl)
            · skip
              refine lv_iconst (v := 1) hx hb dL_law_1047 (by decide) ?_
              refine lv_goto (tgt := 1052) hx hb dL_law_1048 (by decide) ?_
              refine lv_aload_n hx hb dL_law_1052 rfl (lv_at hl 2 rfl) ?_
              refine lv_iload hx hb dL_law_1053 (lv_at hl 10 rfl) ?_
              refine z_rVi (v := z_vc (z_day G D) i) [.int 1] hx hb hml hown hts (m_X2_vacuumOf l Dg cI h na ta G (z_day G D) G1 D1 i (by omega) hG hWd) gL_law_X2_vacuumOf rfl kd_X2_vacuumOf ⟨Nat.le_of_ble_eq_true rfl, Nat.le_of_ble_eq_true rfl⟩ (q_KI hK) hN (z_Pl hP) rfl rfl rfl rfl hl.1 rfl (Nat.le_of_ble_eq_true rfl) dL_law_1055 ⟨by show _ ≤ 801385; omega, by show _ ≤ 6697312; omega⟩ ?_
              refine lv_if_ne (tgt := 1065) hx hb dL_law_1058 (by decide) (fun c1058 => absurd (by rw [hvc]; exact (q_un1 hI hi2 hp).mp c1044) c1058) (fun c1058 => ?_)
              refine lv_iconst (v := 1) hx hb dL_law_1061 (by decide) ?_
              refine lv_goto (tgt := 1066) hx hb dL_law_1062 (by decide) ?_
              refine lv_icmp_ne (tgt := 1095) hx hb dL_law_1066 (by decide) (fun c1066 => absurd rfl c1066) (fun c1066 => ?_)
              refine lv_aload hx hb dL_law_1069 (lv_at hl 8 rfl) ?_
              refine lv_iload hx hb dL_law_1071 (lv_at hl 10 rfl) ?_
              refine q_zald hx hb hK hP 41 rfl (by omega) (by omega) dL_law_1073 ?_
              refine z_top (x' := z_fi (fun _ => 0) (q_gn D) (z_tc G) i) rfl ?_
              refine z_top (x' := 0) ((q_fi_at hi2).trans (q_gn1 hp)) ?_
              refine lv_if_ne (tgt := 1097) hx hb dL_law_1074 (by decide) (fun c1074 => absurd rfl c1074) (fun c1074 => ?_)
              refine lv_aload_n hx hb dL_law_1077 rfl (lv_at hl 2 rfl) ?_
              refine lv_iload hx hb dL_law_1078 (lv_at hl 10 rfl) ?_
              refine z_rVi (v := z_vc (z_day G D) i) [] hx hb hml hown hts (m_X2_vacuumOf l Dg cI h na ta G (z_day G D) G1 D1 i (by omega) hG hWd) gL_law_X2_vacuumOf rfl kd_X2_vacuumOf ⟨Nat.le_of_ble_eq_true rfl, Nat.le_of_ble_eq_true rfl⟩ (q_KI hK) hN (z_Pl hP) rfl rfl rfl rfl hl.1 rfl (Nat.le_of_ble_eq_true rfl) dL_law_1080 ⟨by show _ ≤ 801385; omega, by show _ ≤ 6697312; omega⟩ ?_
              refine lv_if_ne (tgt := 1097) hx hb dL_law_1083 (by decide) (fun c1083 => ?_) (fun c1083 => ?_)
              · skip
                refine lv_iload hx hb dL_law_1097 (lv_at hl 0 rfl) ?_
                refine lv_if_eq (tgt := 1201) hx hb dL_law_1099 (by decide) (fun c1099 => ?_) (fun c1099 => absurd rfl c1099)
                refine lv_iinc (v := nI (i + 1)) (lv' := [(20, .int (nI (i + 1))), (21, .int 0), (0, .ref b), (1, .ref h), (2, .ref (sa 0)), (3, .int (nI tm)), (7, .int (nI (z_tc G))), (14, .ref qa), (15, .ref qb), (16, .ref qc), (17, .ref qd)]) hx hb dL_law_1201 hl (k := 10) rfl (nI_1 _) (by decide) rfl (fun ls hl => ?_)
                refine lv_goto (tgt := 958) hx hb dL_law_1204 (by decide) ?_
                exact ih958 (i + 1) (by omega) (by omega) _ (lv_sub hl [2, 3, 4, 5, 6, 7, 8, 9, 10, 0] rfl)
              · skip
                refine lv_aload_n hx hb dL_law_1086 rfl (lv_at hl 2 rfl) ?_
                refine lv_iload hx hb dL_law_1087 (lv_at hl 10 rfl) ?_
                refine z_rVi (v := z_bI (z_pl (z_day G D) i == 3)) [] hx hb hml hown hts (m_X2_isLost l Dg cI h na ta G (z_day G D) G1 D1 i (by omega) hG hWd) gL_law_X2_isLost rfl kd_X2_isLost ⟨Nat.le_of_ble_eq_true rfl, Nat.le_of_ble_eq_true rfl⟩ (q_KI hK) hN (z_Pl hP) rfl rfl rfl rfl hl.1 rfl (Nat.le_of_ble_eq_true rfl) dL_law_1089 ⟨by show _ ≤ 801385; omega, by show _ ≤ 6697312; omega⟩ ?_
                refine z_top (x' := 1) (q_is _ _ (q_gone hI hi2 hp c1083)) ?_
                refine lv_if_ne (tgt := 1097) hx hb dL_law_1092 (by decide) (fun c1092 => ?_) (fun c1092 => absurd c1092 (by decide))
                refine lv_iload hx hb dL_law_1097 (lv_at hl 0 rfl) ?_
                refine lv_if_eq (tgt := 1201) hx hb dL_law_1099 (by decide) (fun c1099 => ?_) (fun c1099 => absurd rfl c1099)
                refine lv_iinc (v := nI (i + 1)) (lv' := [(20, .int (nI (i + 1))), (21, .int 0), (0, .ref b), (1, .ref h), (2, .ref (sa 0)), (3, .int (nI tm)), (7, .int (nI (z_tc G))), (14, .ref qa), (15, .ref qb), (16, .ref qc), (17, .ref qd)]) hx hb dL_law_1201 hl (k := 10) rfl (nI_1 _) (by decide) rfl (fun ls hl => ?_)
                refine lv_goto (tgt := 958) hx hb dL_law_1204 (by decide) ?_
                exact ih958 (i + 1) (by omega) (by omega) _ (lv_sub hl [2, 3, 4, 5, 6, 7, 8, 9, 10, 0] rfl)
          · skip
            refine lv_aload hx hb dL_law_965 (lv_at hl 7 rfl) ?_
            refine lv_iload hx hb dL_law_967 (lv_at hl 9 rfl) ?_
            refine q_zald hx hb hK hP 41 rfl (by omega) (by omega) dL_law_969 ?_
            refine z_top (x' := z_fi (fun _ => 0) (q_gn D) (z_tc G) i) rfl ?_
            refine z_top (x' := 0) ((q_fi_at hi2).trans (q_gn1 hp)) ?_
            refine lv_if_ne (tgt := 986) hx hb dL_law_970 (by decide) (fun c970 => absurd rfl c970) (fun c970 => ?_)
            refine lv_aload_n hx hb dL_law_973 rfl (lv_at hl 1 rfl) ?_
            refine lv_iload hx hb dL_law_974 (lv_at hl 9 rfl) ?_
            refine z_rVi (v := z_shf G (z_day G D) i) [] hx hb hml hown hts (m_X2_shelfOf l Dg cI h na ta G (z_day G D) G1 D1 i (by omega) hG hWd) gL_law_X2_shelfOf rfl kd_X2_shelfOf ⟨Nat.le_of_ble_eq_true rfl, Nat.le_of_ble_eq_true rfl⟩ (q_KI hK) hN (z_Pl hP) rfl rfl rfl rfl hl.1 rfl (Nat.le_of_ble_eq_true rfl) dL_law_976 ⟨by show _ ≤ 801385; omega, by show _ ≤ 6697312; omega⟩ ?_
            refine z_top (x' := -1) (q_shf0 (by omega)) ?_
            refine lv_if_ge (tgt := 986) hx hb dL_law_979 (by decide) (fun c979 => absurd c979 (by decide)) (fun c979 => ?_)
            refine lv_iconst (v := 1) hx hb dL_law_982 (by decide) ?_
            refine lv_goto (tgt := 987) hx hb dL_law_983 (by decide) ?_
            refine lv_istore (lv' := [(21, .int 1), (0, .ref b), (1, .ref h), (2, .ref (sa 0)), (3, .int (nI tm)), (7, .int (nI (z_tc G))), (14, .ref qa), (15, .ref qb), (16, .ref qc), (17, .ref qd), (20, .int (nI i))]) hx hb dL_law_987 hl (by decide) rfl (fun ls hl => ?_)
            refine lv_aload_n hx hb dL_law_989 rfl (lv_at hl 2 rfl) ?_
            refine lv_iload hx hb dL_law_990 (lv_at hl 10 rfl) ?_
            refine z_rVi (v := z_vc (z_day G D) i) [] hx hb hml hown hts (m_X2_vacuumOf l Dg cI h na ta G (z_day G D) G1 D1 i (by omega) hG hWd) gL_law_X2_vacuumOf rfl kd_X2_vacuumOf ⟨Nat.le_of_ble_eq_true rfl, Nat.le_of_ble_eq_true rfl⟩ (q_KI hK) hN (z_Pl hP) rfl rfl rfl rfl hl.1 rfl (Nat.le_of_ble_eq_true rfl) dL_law_992 ⟨by show _ ≤ 801385; omega, by show _ ≤ 6697312; omega⟩ ?_
            refine lv_iconst (v := 0) hx hb dL_law_995 (by decide) ?_
            refine lv_aload hx hb dL_law_996 (lv_at hl 6 rfl) ?_
            refine lv_iload hx hb dL_law_998 (lv_at hl 10 rfl) ?_
            refine z_iald hx hb hK hP 39 0 rfl rfl (by omega) (by omega) dL_law_1000 ?_
            refine z_top (x' := z_fi (fun _ => 0) (z_vc D) (z_tc G) i) rfl ?_
            refine z_top (x' := z_vc D i) (q_fi_at hi2) ?_
            refine lv_aload hx hb dL_law_1001 (lv_at hl 9 rfl) ?_
            refine lv_iload hx hb dL_law_1003 (lv_at hl 10 rfl) ?_
            refine z_iald hx hb hK hP 42 0 rfl rfl (by omega) (by omega) dL_law_1005 ?_
            refine z_top (x' := z_fi (fun _ => 0) (q_fr G D) (z_tc G) i) rfl ?_
            refine z_top (x' := z_rt G i (z_sh G i)) ((q_fi_at hi2).trans (q_fr1 hp)) ?_
            refine lv_isub hx hb dL_law_1006 ?_
            refine va_mmax (rest := [.int (z_vc (z_day G D) i)]) hx hb (hml.trans hl.1.symm) hown (hts _ (List.mem_append_left _ (List.mem_append_left _ (List.mem_append_left _ (List.mem_append_left _ (List.mem_append_left _ (List.mem_append_left _ (List.mem_append_left _ (List.mem_append_left _ (List.mem_append_left _ (List.mem_of_getElem? (i := 10) rfl))))))))))) (hts _ (List.mem_append_left _ (List.mem_append_left _ (List.mem_append_left _ (List.mem_append_left _ (List.mem_append_left _ (List.mem_append_left _ (List.mem_append_left _ (List.mem_append_left _ (List.mem_append_left _ (List.mem_of_getElem? (i := 11) rfl))))))))))) (hts _ (List.mem_append_left _ (List.mem_append_left _ (List.mem_append_left _ (List.mem_append_left _ (List.mem_append_left _ (List.mem_append_left _ (List.mem_append_left _ (List.mem_append_left _ (List.mem_append_left _ (List.mem_of_getElem? (i := 12) rfl))))))))))) (hts _ (List.mem_append_left _ (List.mem_append_left _ (List.mem_append_left _ (List.mem_append_left _ (List.mem_append_left _ (List.mem_append_left _ (List.mem_append_left _ (List.mem_append_left _ (List.mem_append_left _ (List.mem_of_getElem? (i := 13) rfl))))))))))) (by exact Nat.le_of_ble_eq_true rfl) (by exact Nat.le_of_ble_eq_true rfl) (by show _ ≤ 801385; omega) (by show _ ≤ 6697312; omega) dL_law_1007 ?_
            refine z_top (x' := z_vc (z_day G D) i) (by rw [hvc]; rfl) ?_
            refine lv_icmp_ne (tgt := 1095) hx hb dL_law_1010 (by decide) (fun c1010 => absurd rfl c1010) (fun c1010 => ?_)
            refine lv_aload hx hb dL_law_1013 (lv_at hl 8 rfl) ?_
            refine lv_iload hx hb dL_law_1015 (lv_at hl 10 rfl) ?_
            refine q_zald hx hb hK hP 41 rfl (by omega) (by omega) dL_law_1017 ?_
            refine z_top (x' := z_fi (fun _ => 0) (q_gn D) (z_tc G) i) rfl ?_
            refine z_top (x' := 0) ((q_fi_at hi2).trans (q_gn1 hp)) ?_
            refine lv_if_eq (tgt := 1030) hx hb dL_law_1018 (by decide) (fun c1018 => ?_) (fun c1018 => absurd rfl c1018)
            refine lv_aload hx hb dL_law_1030 (lv_at hl 8 rfl) ?_
            refine lv_iload hx hb dL_law_1032 (lv_at hl 10 rfl) ?_
            refine q_zald hx hb hK hP 41 rfl (by omega) (by omega) dL_law_1034 ?_
            refine z_top (x' := z_fi (fun _ => 0) (q_gn D) (z_tc G) i) rfl ?_
            refine z_top (x' := 0) ((q_fi_at hi2).trans (q_gn1 hp)) ?_
            refine lv_if_ne (tgt := 1069) hx hb dL_law_1035 (by decide) (fun c1035 => absurd rfl c1035) (fun c1035 => ?_)
            refine lv_aload hx hb dL_law_1038 (lv_at hl 7 rfl) ?_
            refine lv_iload hx hb dL_law_1040 (lv_at hl 10 rfl) ?_
            refine z_iald hx hb hK hP 40 0 rfl rfl (by omega) (by omega) dL_law_1042 ?_
            refine z_top (x' := z_fi (fun _ => 0) (z_dof G D) (z_tc G) i) rfl ?_
            refine z_top (x' := z_un G D i (z_sh G i)) ((q_fi_at hi2).trans (q_dof1 hp)) ?_
            refine lv_iconst (v := 1) hx hb dL_law_1043 (by decide) ?_
            refine lv_icmp_ne (tgt := 1051) hx hb dL_law_1044 (by decide) (fun c1044 => ?_) (fun c1044 => ?_)
            · skip
              refine lv_iconst (v := 0) hx hb dL_law_1051 (by decide) ?_
              refine lv_aload_n hx hb dL_law_1052 rfl (lv_at hl 2 rfl) ?_
              refine lv_iload hx hb dL_law_1053 (lv_at hl 10 rfl) ?_
              refine z_rVi (v := z_vc (z_day G D) i) [.int 0] hx hb hml hown hts (m_X2_vacuumOf l Dg cI h na ta G (z_day G D) G1 D1 i (by omega) hG hWd) gL_law_X2_vacuumOf rfl kd_X2_vacuumOf ⟨Nat.le_of_ble_eq_true rfl, Nat.le_of_ble_eq_true rfl⟩ (q_KI hK) hN (z_Pl hP) rfl rfl rfl rfl hl.1 rfl (Nat.le_of_ble_eq_true rfl) dL_law_1055 ⟨by show _ ≤ 801385; omega, by show _ ≤ 6697312; omega⟩ ?_
              refine lv_if_ne (tgt := 1065) hx hb dL_law_1058 (by decide) (fun c1058 => ?_) (fun c1058 => absurd c1058 (fun z => c1044 ((q_un1 hI hi2 hp).mpr (by rw [← hvc]; exact z))))
              refine lv_iconst (v := 0) hx hb dL_law_1065 (by decide) ?_
              refine lv_icmp_ne (tgt := 1095) hx hb dL_law_1066 (by decide) (fun c1066 => absurd rfl c1066) (fun c1066 => ?_)
              refine lv_aload hx hb dL_law_1069 (lv_at hl 8 rfl) ?_
              refine lv_iload hx hb dL_law_1071 (lv_at hl 10 rfl) ?_
              refine q_zald hx hb hK hP 41 rfl (by omega) (by omega) dL_law_1073 ?_
              refine z_top (x' := z_fi (fun _ => 0) (q_gn D) (z_tc G) i) rfl ?_
              refine z_top (x' := 0) ((q_fi_at hi2).trans (q_gn1 hp)) ?_
              refine lv_if_ne (tgt := 1097) hx hb dL_law_1074 (by decide) (fun c1074 => absurd rfl c1074) (fun c1074 => ?_)
              refine lv_aload_n hx hb dL_law_1077 rfl (lv_at hl 2 rfl) ?_
              refine lv_iload hx hb dL_law_1078 (lv_at hl 10 rfl) ?_
              refine z_rVi (v := z_vc (z_day G D) i) [] hx hb hml hown hts (m_X2_vacuumOf l Dg cI h na ta G (z_day G D) G1 D1 i (by omega) hG hWd) gL_law_X2_vacuumOf rfl kd_X2_vacuumOf ⟨Nat.le_of_ble_eq_true rfl, Nat.le_of_ble_eq_true rfl⟩ (q_KI hK) hN (z_Pl hP) rfl rfl rfl rfl hl.1 rfl (Nat.le_of_ble_eq_true rfl) dL_law_1080 ⟨by show _ ≤ 801385; omega, by show _ ≤ 6697312; omega⟩ ?_
              refine lv_if_ne (tgt := 1097) hx hb dL_law_1083 (by decide) (fun c1083 => ?_) (fun c1083 => ?_)
              · skip
                refine lv_iload hx hb dL_law_1097 (lv_at hl 0 rfl) ?_
                refine lv_if_eq (tgt := 1201) hx hb dL_law_1099 (by decide) (fun c1099 => absurd c1099 (by decide)) (fun c1099 => ?_)
                refine lv_aload_n hx hb dL_law_1102 rfl (lv_at hl 2 rfl) ?_
                refine lv_iload hx hb dL_law_1103 (lv_at hl 10 rfl) ?_
                refine z_rVi (v := z_bI (z_pl (z_day G D) i == 2)) [] hx hb hml hown hts (m_X2_isShipped l Dg cI h na ta G (z_day G D) G1 D1 i (by omega) hG hWd) gL_law_X2_isShipped rfl kd_X2_isShipped ⟨Nat.le_of_ble_eq_true rfl, Nat.le_of_ble_eq_true rfl⟩ (q_KI hK) hN (z_Pl hP) rfl rfl rfl rfl hl.1 rfl (Nat.le_of_ble_eq_true rfl) dL_law_1105 ⟨by show _ ≤ 801385; omega, by show _ ≤ 6697312; omega⟩ ?_
                refine z_top (x' := 1) (q_is _ _ hd) ?_
                refine lv_if_ne (tgt := 1114) hx hb dL_law_1108 (by decide) (fun c1108 => ?_) (fun c1108 => absurd c1108 (by decide))
                refine lv_iconst (v := nI 0) hx hb dL_law_1114 (by decide) ?_
                refine lv_istore (lv' := [(22, .int (nI 0)), (21, .int 1), (0, .ref b), (1, .ref h), (2, .ref (sa 0)), (3, .int (nI tm)), (7, .int (nI (z_tc G))), (14, .ref qa), (15, .ref qb), (16, .ref qc), (17, .ref qd), (20, .int (nI i))]) hx hb dL_law_1115 hl (by decide) rfl (fun ls hl => ?_)
                have lp1117 : ∀ (zz u : Nat) , u ≤ z_tc G → z_tc G + 1 ≤ u + zz → ∀ ls : Array Slot, lv_has ls 23 [(0, .ref b), (1, .ref h), (2, .ref (sa 0)), (3, .int (nI tm)), (7, .int (nI (z_tc G))), (14, .ref qa), (15, .ref qb), (16, .ref qc), (17, .ref qd), (20, .int (nI i)), (22, .int (nI u))] → W p l e room_1 s m ([Value.ref b] : List Value).toArray below meth c H locs c0 s0 Q (F0 m 1117 ls []) := by
                  intro zz
                  induction zz with
                  | zero => intros; exfalso; omega
                  | succ zz ih1117 =>
                    intro u hi hzz ls hl
                    refine lv_iload hx hb dL_law_1117 (lv_at hl 10 rfl) ?_
                    refine lv_iload hx hb dL_law_1119 (lv_at hl 4 rfl) ?_
                    refine lv_icmp_ge (tgt := 1201) hx hb dL_law_1121 (by decide) (fun c1121 => ?_) (fun c1121 => ?_)
                    · skip
                      have h9x : u = z_tc G := Nat.le_antisymm hi (z_le (by omega) (by omega) c1121)
                      subst h9x
                      refine lv_iinc (v := nI (i + 1)) (lv' := [(20, .int (nI (i + 1))), (0, .ref b), (1, .ref h), (2, .ref (sa 0)), (3, .int (nI tm)), (7, .int (nI (z_tc G))), (14, .ref qa), (15, .ref qb), (16, .ref qc), (17, .ref qd), (22, .int (nI (z_tc G)))]) hx hb dL_law_1201 hl (k := 9) rfl (nI_1 _) (by decide) rfl (fun ls hl => ?_)
                      refine lv_goto (tgt := 958) hx hb dL_law_1204 (by decide) ?_
                      exact ih958 (i + 1) (by omega) (by omega) _ (lv_sub hl [1, 2, 3, 4, 5, 6, 7, 8, 9, 0] rfl)
                    · skip
                      have hu2 : u < z_tc G := z_nle (by omega) c1121
                      have hshu := hG.2.2.2.1 u
                      by_cases hpu : z_pl (z_day G D) u = 1
                      · skip
                        have hky := q_shipped hI hi958 hu2 hp hd hpu
                        have hne : i ≠ u := fun z => by rw [z, hpu] at hd; exact absurd hd (by decide)
                        refine lv_aload_n hx hb dL_law_1124 rfl (lv_at hl 1 rfl) ?_
                        refine lv_iload hx hb dL_law_1125 (lv_at hl 10 rfl) ?_
                        refine z_rVi (v := z_shf G (z_day G D) u) [] hx hb hml hown hts (m_X2_shelfOf l Dg cI h na ta G (z_day G D) G1 D1 u (by omega) hG hWd) gL_law_X2_shelfOf rfl kd_X2_shelfOf ⟨Nat.le_of_ble_eq_true rfl, Nat.le_of_ble_eq_true rfl⟩ (q_KI hK) hN (z_Pl hP) rfl rfl rfl rfl hl.1 rfl (Nat.le_of_ble_eq_true rfl) dL_law_1127 ⟨by show _ ≤ 801385; omega, by show _ ≤ 6697312; omega⟩ ?_
                        refine z_top (x' := nI (z_sh G u)) (q_shf1 hpu) ?_
                        refine lv_if_lt (tgt := 1195) hx hb dL_law_1130 (by decide) (fun c1130 => absurd c1130 (nI_pos (by omega))) (fun c1130 => ?_)
                        refine lv_iload hx hb dL_law_1133 (lv_at hl 9 rfl) ?_
                        refine lv_iload hx hb dL_law_1135 (lv_at hl 10 rfl) ?_
                        refine lv_icmp_ge (tgt := 1168) hx hb dL_law_1137 (by decide) (fun c1137 => ?_) (fun c1137 => ?_)
                        · skip
                          have hlt : u < i := by have := z_le (by omega) (by omega) c1137; omega
                          refine lv_aload_n hx hb dL_law_1168 rfl (lv_at hl 2 rfl) ?_
                          refine lv_aload_n hx hb dL_law_1169 rfl (lv_at hl 2 rfl) ?_
                          refine va_get (ci := 3) (v := .ref (sa 3)) (C := RX3) (T := TX3) (N := 6) hx hb hts (fun _ h => (List.mem_append_left _ (List.mem_append_left _ (List.mem_append_left _ (List.mem_append_left _ (List.mem_append_left _ (List.mem_append_left _ (List.mem_append_right _ h)))))))) hown hK hP 43 rfl rfl 2 (by decide) (hts _ (List.mem_append_left _ (List.mem_append_left _ (List.mem_append_left _ (List.mem_append_left _ (List.mem_append_left _ (List.mem_append_left _ (List.mem_append_left _ (List.mem_append_left _ (List.mem_append_left _ (List.mem_of_getElem? (i := 8) rfl))))))))))) (fun _ h9 => h9) rfl dL_law_1170 ?_
                          refine lv_iload hx hb dL_law_1173 (lv_at hl 10 rfl) ?_
                          refine q_aald (v := rt u) hx hb hK hP 46 rfl (by omega) (by omega) rfl dL_law_1175 ?_
                          refine lv_aload_n hx hb dL_law_1176 rfl (lv_at hl 2 rfl) ?_
                          refine va_get (ci := 3) (v := .ref (sa 3)) (C := RX3) (T := TX3) (N := 6) hx hb hts (fun _ h => (List.mem_append_left _ (List.mem_append_left _ (List.mem_append_left _ (List.mem_append_left _ (List.mem_append_left _ (List.mem_append_left _ (List.mem_append_right _ h)))))))) hown hK hP 43 rfl rfl 2 (by decide) (hts _ (List.mem_append_left _ (List.mem_append_left _ (List.mem_append_left _ (List.mem_append_left _ (List.mem_append_left _ (List.mem_append_left _ (List.mem_append_left _ (List.mem_append_left _ (List.mem_append_left _ (List.mem_of_getElem? (i := 8) rfl))))))))))) (fun _ h9 => h9) rfl dL_law_1177 ?_
                          refine lv_iload hx hb dL_law_1180 (lv_at hl 9 rfl) ?_
                          refine q_aald (v := rt i) hx hb hK hP 46 rfl (by omega) (by omega) rfl dL_law_1182 ?_
                          refine lv_aload_n hx hb dL_law_1183 rfl (lv_at hl 2 rfl) ?_
                          refine va_get (ci := 3) (v := .int (nI (z_od G))) (C := RX3) (T := TX3) (N := 6) hx hb hts (fun _ h => (List.mem_append_left _ (List.mem_append_left _ (List.mem_append_left _ (List.mem_append_left _ (List.mem_append_left _ (List.mem_append_left _ (List.mem_append_right _ h)))))))) hown hK hP 43 rfl rfl 4 (by decide) (hts _ (List.mem_append_left _ (List.mem_append_left _ (List.mem_append_left _ (List.mem_append_left _ (List.mem_append_left _ (List.mem_append_left _ (List.mem_append_left _ (List.mem_append_left _ (List.mem_append_left _ (List.mem_of_getElem? (i := 5) rfl))))))))))) (fun _ h9 => h9) rfl dL_law_1184 ?_
                          refine q_rVi (v := z_bI (q_ahd G (z_day G D) (z_od G) u i)) [] hx hb hml hown hts (m_X3_isAhead l Dg cI cR cZ sa rb rt G (z_day G D) u i (z_od G) (by omega) (by omega) (by omega) hG) gL_law_X3_isAhead rfl kd_X3_isAhead ⟨Nat.le_of_ble_eq_true rfl, Nat.le_of_ble_eq_true rfl⟩ hK hN hJ (z_Prr (z_Prr hP)) rfl rfl rfl rfl rfl hl.1 (Nat.le_of_ble_eq_true rfl) dL_law_1187 ⟨by show _ ≤ 801385; omega, by show _ ≤ 6697312; omega⟩ ?_
                          refine lv_if_eq (tgt := 1195) hx hb dL_law_1190 (by decide) (fun c1190 => ?_) (fun c1190 => absurd (by cases hq : q_ahd G (z_day G D) (z_od G) u i with | false => rfl | true => exact absurd hky ((q_ahd_iff hG hVd (by omega) hlt hi958).mp hq)) c1190)
                          refine lv_iinc (v := nI (u + 1)) (lv' := [(22, .int (nI (u + 1))), (0, .ref b), (1, .ref h), (2, .ref (sa 0)), (3, .int (nI tm)), (7, .int (nI (z_tc G))), (14, .ref qa), (15, .ref qb), (16, .ref qc), (17, .ref qd), (20, .int (nI i))]) hx hb dL_law_1195 hl (k := 10) rfl (nI_1 _) (by decide) rfl (fun ls hl => ?_)
                          refine lv_goto (tgt := 1117) hx hb dL_law_1198 (by decide) ?_
                          exact ih1117 (u + 1) (by omega) (by omega) _ (lv_sub hl [1, 2, 3, 4, 5, 6, 7, 8, 9, 10, 0] rfl)
                        · skip
                          have hlt : i < u := z_nle (by omega) c1137
                          refine lv_aload_n hx hb dL_law_1140 rfl (lv_at hl 2 rfl) ?_
                          refine lv_aload_n hx hb dL_law_1141 rfl (lv_at hl 2 rfl) ?_
                          refine va_get (ci := 3) (v := .ref (sa 3)) (C := RX3) (T := TX3) (N := 6) hx hb hts (fun _ h => (List.mem_append_left _ (List.mem_append_left _ (List.mem_append_left _ (List.mem_append_left _ (List.mem_append_left _ (List.mem_append_left _ (List.mem_append_right _ h)))))))) hown hK hP 43 rfl rfl 2 (by decide) (hts _ (List.mem_append_left _ (List.mem_append_left _ (List.mem_append_left _ (List.mem_append_left _ (List.mem_append_left _ (List.mem_append_left _ (List.mem_append_left _ (List.mem_append_left _ (List.mem_append_left _ (List.mem_of_getElem? (i := 8) rfl))))))))))) (fun _ h9 => h9) rfl dL_law_1142 ?_
                          refine lv_iload hx hb dL_law_1145 (lv_at hl 9 rfl) ?_
                          refine q_aald (v := rt i) hx hb hK hP 46 rfl (by omega) (by omega) rfl dL_law_1147 ?_
                          refine lv_aload_n hx hb dL_law_1148 rfl (lv_at hl 2 rfl) ?_
                          refine va_get (ci := 3) (v := .ref (sa 3)) (C := RX3) (T := TX3) (N := 6) hx hb hts (fun _ h => (List.mem_append_left _ (List.mem_append_left _ (List.mem_append_left _ (List.mem_append_left _ (List.mem_append_left _ (List.mem_append_left _ (List.mem_append_right _ h)))))))) hown hK hP 43 rfl rfl 2 (by decide) (hts _ (List.mem_append_left _ (List.mem_append_left _ (List.mem_append_left _ (List.mem_append_left _ (List.mem_append_left _ (List.mem_append_left _ (List.mem_append_left _ (List.mem_append_left _ (List.mem_append_left _ (List.mem_of_getElem? (i := 8) rfl))))))))))) (fun _ h9 => h9) rfl dL_law_1149 ?_
                          refine lv_iload hx hb dL_law_1152 (lv_at hl 10 rfl) ?_
                          refine q_aald (v := rt u) hx hb hK hP 46 rfl (by omega) (by omega) rfl dL_law_1154 ?_
                          refine lv_aload_n hx hb dL_law_1155 rfl (lv_at hl 2 rfl) ?_
                          refine va_get (ci := 3) (v := .int (nI (z_od G))) (C := RX3) (T := TX3) (N := 6) hx hb hts (fun _ h => (List.mem_append_left _ (List.mem_append_left _ (List.mem_append_left _ (List.mem_append_left _ (List.mem_append_left _ (List.mem_append_left _ (List.mem_append_right _ h)))))))) hown hK hP 43 rfl rfl 4 (by decide) (hts _ (List.mem_append_left _ (List.mem_append_left _ (List.mem_append_left _ (List.mem_append_left _ (List.mem_append_left _ (List.mem_append_left _ (List.mem_append_left _ (List.mem_append_left _ (List.mem_append_left _ (List.mem_of_getElem? (i := 5) rfl))))))))))) (fun _ h9 => h9) rfl dL_law_1156 ?_
                          refine q_rVi (v := z_bI (q_ahd G (z_day G D) (z_od G) i u)) [] hx hb hml hown hts (m_X3_isAhead l Dg cI cR cZ sa rb rt G (z_day G D) i u (z_od G) (by omega) (by omega) (by omega) hG) gL_law_X3_isAhead rfl kd_X3_isAhead ⟨Nat.le_of_ble_eq_true rfl, Nat.le_of_ble_eq_true rfl⟩ hK hN hJ (z_Prr (z_Prr hP)) rfl rfl rfl rfl rfl hl.1 (Nat.le_of_ble_eq_true rfl) dL_law_1159 ⟨by show _ ≤ 801385; omega, by show _ ≤ 6697312; omega⟩ ?_
                          refine lv_if_eq (tgt := 1193) hx hb dL_law_1162 (by decide) (fun c1162 => absurd c1162 (by rw [(q_ahd_iff hG hVd (by omega) hlt hu2).mpr (fun z => q_lt_irr (q_ltt z hky))]; decide)) (fun c1162 => ?_)
                          refine lv_goto (tgt := 1195) hx hb dL_law_1165 (by decide) ?_
                          refine lv_iinc (v := nI (u + 1)) (lv' := [(22, .int (nI (u + 1))), (0, .ref b), (1, .ref h), (2, .ref (sa 0)), (3, .int (nI tm)), (7, .int (nI (z_tc G))), (14, .ref qa), (15, .ref qb), (16, .ref qc), (17, .ref qd), (20, .int (nI i))]) hx hb dL_law_1195 hl (k := 10) rfl (nI_1 _) (by decide) rfl (fun ls hl => ?_)
                          refine lv_goto (tgt := 1117) hx hb dL_law_1198 (by decide) ?_
                          exact ih1117 (u + 1) (by omega) (by omega) _ (lv_sub hl [1, 2, 3, 4, 5, 6, 7, 8, 9, 10, 0] rfl)
                      · skip
                        refine lv_aload_n hx hb dL_law_1124 rfl (lv_at hl 1 rfl) ?_
                        refine lv_iload hx hb dL_law_1125 (lv_at hl 10 rfl) ?_
                        refine z_rVi (v := z_shf G (z_day G D) u) [] hx hb hml hown hts (m_X2_shelfOf l Dg cI h na ta G (z_day G D) G1 D1 u (by omega) hG hWd) gL_law_X2_shelfOf rfl kd_X2_shelfOf ⟨Nat.le_of_ble_eq_true rfl, Nat.le_of_ble_eq_true rfl⟩ (q_KI hK) hN (z_Pl hP) rfl rfl rfl rfl hl.1 rfl (Nat.le_of_ble_eq_true rfl) dL_law_1127 ⟨by show _ ≤ 801385; omega, by show _ ≤ 6697312; omega⟩ ?_
                        refine z_top (x' := -1) (q_shf0 hpu) ?_
                        refine lv_if_lt (tgt := 1195) hx hb dL_law_1130 (by decide) (fun c1130 => ?_) (fun c1130 => absurd (by decide) c1130)
                        refine lv_iinc (v := nI (u + 1)) (lv' := [(22, .int (nI (u + 1))), (0, .ref b), (1, .ref h), (2, .ref (sa 0)), (3, .int (nI tm)), (7, .int (nI (z_tc G))), (14, .ref qa), (15, .ref qb), (16, .ref qc), (17, .ref qd), (20, .int (nI i))]) hx hb dL_law_1195 hl (k := 10) rfl (nI_1 _) (by decide) rfl (fun ls hl => ?_)
                        refine lv_goto (tgt := 1117) hx hb dL_law_1198 (by decide) ?_
                        exact ih1117 (u + 1) (by omega) (by omega) _ (lv_sub hl [1, 2, 3, 4, 5, 6, 7, 8, 9, 10, 0] rfl)
                exact lp1117 (z_tc G + 1) 0 (by omega) (by omega) _ (lv_sub hl [2, 3, 4, 5, 6, 7, 8, 9, 10, 11, 0] rfl)
              · skip
                refine lv_aload_n hx hb dL_law_1086 rfl (lv_at hl 2 rfl) ?_
                refine lv_iload hx hb dL_law_1087 (lv_at hl 10 rfl) ?_
                refine z_rVi (v := z_bI (z_pl (z_day G D) i == 3)) [] hx hb hml hown hts (m_X2_isLost l Dg cI h na ta G (z_day G D) G1 D1 i (by omega) hG hWd) gL_law_X2_isLost rfl kd_X2_isLost ⟨Nat.le_of_ble_eq_true rfl, Nat.le_of_ble_eq_true rfl⟩ (q_KI hK) hN (z_Pl hP) rfl rfl rfl rfl hl.1 rfl (Nat.le_of_ble_eq_true rfl) dL_law_1089 ⟨by show _ ≤ 801385; omega, by show _ ≤ 6697312; omega⟩ ?_
                refine z_top (x' := 1) (q_is _ _ (q_gone hI hi2 hp c1083)) ?_
                refine lv_if_ne (tgt := 1097) hx hb dL_law_1092 (by decide) (fun c1092 => ?_) (fun c1092 => absurd c1092 (by decide))
                refine lv_iload hx hb dL_law_1097 (lv_at hl 0 rfl) ?_
                refine lv_if_eq (tgt := 1201) hx hb dL_law_1099 (by decide) (fun c1099 => absurd c1099 (by decide)) (fun c1099 => ?_)
                refine lv_aload_n hx hb dL_law_1102 rfl (lv_at hl 2 rfl) ?_
                refine lv_iload hx hb dL_law_1103 (lv_at hl 10 rfl) ?_
                refine z_rVi (v := z_bI (z_pl (z_day G D) i == 2)) [] hx hb hml hown hts (m_X2_isShipped l Dg cI h na ta G (z_day G D) G1 D1 i (by omega) hG hWd) gL_law_X2_isShipped rfl kd_X2_isShipped ⟨Nat.le_of_ble_eq_true rfl, Nat.le_of_ble_eq_true rfl⟩ (q_KI hK) hN (z_Pl hP) rfl rfl rfl rfl hl.1 rfl (Nat.le_of_ble_eq_true rfl) dL_law_1105 ⟨by show _ ≤ 801385; omega, by show _ ≤ 6697312; omega⟩ ?_
                refine z_top (x' := 1) (q_is _ _ hd) ?_
                refine lv_if_ne (tgt := 1114) hx hb dL_law_1108 (by decide) (fun c1108 => ?_) (fun c1108 => absurd c1108 (by decide))
                refine lv_iconst (v := nI 0) hx hb dL_law_1114 (by decide) ?_
                refine lv_istore (lv' := [(22, .int (nI 0)), (21, .int 1), (0, .ref b), (1, .ref h), (2, .ref (sa 0)), (3, .int (nI tm)), (7, .int (nI (z_tc G))), (14, .ref qa), (15, .ref qb), (16, .ref qc), (17, .ref qd), (20, .int (nI i))]) hx hb dL_law_1115 hl (by decide) rfl (fun ls hl => ?_)
                have lp1117 : ∀ (zz u : Nat) , u ≤ z_tc G → z_tc G + 1 ≤ u + zz → ∀ ls : Array Slot, lv_has ls 23 [(0, .ref b), (1, .ref h), (2, .ref (sa 0)), (3, .int (nI tm)), (7, .int (nI (z_tc G))), (14, .ref qa), (15, .ref qb), (16, .ref qc), (17, .ref qd), (20, .int (nI i)), (22, .int (nI u))] → W p l e room_1 s m ([Value.ref b] : List Value).toArray below meth c H locs c0 s0 Q (F0 m 1117 ls []) := by
                  intro zz
                  induction zz with
                  | zero => intros; exfalso; omega
                  | succ zz ih1117 =>
                    intro u hi hzz ls hl
                    refine lv_iload hx hb dL_law_1117 (lv_at hl 10 rfl) ?_
                    refine lv_iload hx hb dL_law_1119 (lv_at hl 4 rfl) ?_
                    refine lv_icmp_ge (tgt := 1201) hx hb dL_law_1121 (by decide) (fun c1121 => ?_) (fun c1121 => ?_)
                    · skip
                      have h9x : u = z_tc G := Nat.le_antisymm hi (z_le (by omega) (by omega) c1121)
                      subst h9x
                      refine lv_iinc (v := nI (i + 1)) (lv' := [(20, .int (nI (i + 1))), (0, .ref b), (1, .ref h), (2, .ref (sa 0)), (3, .int (nI tm)), (7, .int (nI (z_tc G))), (14, .ref qa), (15, .ref qb), (16, .ref qc), (17, .ref qd), (22, .int (nI (z_tc G)))]) hx hb dL_law_1201 hl (k := 9) rfl (nI_1 _) (by decide) rfl (fun ls hl => ?_)
                      refine lv_goto (tgt := 958) hx hb dL_law_1204 (by decide) ?_
                      exact ih958 (i + 1) (by omega) (by omega) _ (lv_sub hl [1, 2, 3, 4, 5, 6, 7, 8, 9, 0] rfl)
                    · skip
                      have hu2 : u < z_tc G := z_nle (by omega) c1121
                      have hshu := hG.2.2.2.1 u
                      by_cases hpu : z_pl (z_day G D) u = 1
                      · skip
                        have hky := q_shipped hI hi958 hu2 hp hd hpu
                        have hne : i ≠ u := fun z => by rw [z, hpu] at hd; exact absurd hd (by decide)
                        refine lv_aload_n hx hb dL_law_1124 rfl (lv_at hl 1 rfl) ?_
                        refine lv_iload hx hb dL_law_1125 (lv_at hl 10 rfl) ?_
                        refine z_rVi (v := z_shf G (z_day G D) u) [] hx hb hml hown hts (m_X2_shelfOf l Dg cI h na ta G (z_day G D) G1 D1 u (by omega) hG hWd) gL_law_X2_shelfOf rfl kd_X2_shelfOf ⟨Nat.le_of_ble_eq_true rfl, Nat.le_of_ble_eq_true rfl⟩ (q_KI hK) hN (z_Pl hP) rfl rfl rfl rfl hl.1 rfl (Nat.le_of_ble_eq_true rfl) dL_law_1127 ⟨by show _ ≤ 801385; omega, by show _ ≤ 6697312; omega⟩ ?_
                        refine z_top (x' := nI (z_sh G u)) (q_shf1 hpu) ?_
                        refine lv_if_lt (tgt := 1195) hx hb dL_law_1130 (by decide) (fun c1130 => absurd c1130 (nI_pos (by omega))) (fun c1130 => ?_)
                        refine lv_iload hx hb dL_law_1133 (lv_at hl 9 rfl) ?_
                        refine lv_iload hx hb dL_law_1135 (lv_at hl 10 rfl) ?_
                        refine lv_icmp_ge (tgt := 1168) hx hb dL_law_1137 (by decide) (fun c1137 => ?_) (fun c1137 => ?_)
                        · skip
                          have hlt : u < i := by have := z_le (by omega) (by omega) c1137; omega
                          refine lv_aload_n hx hb dL_law_1168 rfl (lv_at hl 2 rfl) ?_
                          refine lv_aload_n hx hb dL_law_1169 rfl (lv_at hl 2 rfl) ?_
                          refine va_get (ci := 3) (v := .ref (sa 3)) (C := RX3) (T := TX3) (N := 6) hx hb hts (fun _ h => (List.mem_append_left _ (List.mem_append_left _ (List.mem_append_left _ (List.mem_append_left _ (List.mem_append_left _ (List.mem_append_left _ (List.mem_append_right _ h)))))))) hown hK hP 43 rfl rfl 2 (by decide) (hts _ (List.mem_append_left _ (List.mem_append_left _ (List.mem_append_left _ (List.mem_append_left _ (List.mem_append_left _ (List.mem_append_left _ (List.mem_append_left _ (List.mem_append_left _ (List.mem_append_left _ (List.mem_of_getElem? (i := 8) rfl))))))))))) (fun _ h9 => h9) rfl dL_law_1170 ?_
                          refine lv_iload hx hb dL_law_1173 (lv_at hl 10 rfl) ?_
                          refine q_aald (v := rt u) hx hb hK hP 46 rfl (by omega) (by omega) rfl dL_law_1175 ?_
                          refine lv_aload_n hx hb dL_law_1176 rfl (lv_at hl 2 rfl) ?_
                          refine va_get (ci := 3) (v := .ref (sa 3)) (C := RX3) (T := TX3) (N := 6) hx hb hts (fun _ h => (List.mem_append_left _ (List.mem_append_left _ (List.mem_append_left _ (List.mem_append_left _ (List.mem_append_left _ (List.mem_append_left _ (List.mem_append_right _ h)))))))) hown hK hP 43 rfl rfl 2 (by decide) (hts _ (List.mem_append_left _ (List.mem_append_left _ (List.mem_append_left _ (List.mem_append_left _ (List.mem_append_left _ (List.mem_append_left _ (List.mem_append_left _ (List.mem_append_left _ (List.mem_append_left _ (List.mem_of_getElem? (i := 8) rfl))))))))))) (fun _ h9 => h9) rfl dL_law_1177 ?_
                          refine lv_iload hx hb dL_law_1180 (lv_at hl 9 rfl) ?_
                          refine q_aald (v := rt i) hx hb hK hP 46 rfl (by omega) (by omega) rfl dL_law_1182 ?_
                          refine lv_aload_n hx hb dL_law_1183 rfl (lv_at hl 2 rfl) ?_
                          refine va_get (ci := 3) (v := .int (nI (z_od G))) (C := RX3) (T := TX3) (N := 6) hx hb hts (fun _ h => (List.mem_append_left _ (List.mem_append_left _ (List.mem_append_left _ (List.mem_append_left _ (List.mem_append_left _ (List.mem_append_left _ (List.mem_append_right _ h)))))))) hown hK hP 43 rfl rfl 4 (by decide) (hts _ (List.mem_append_left _ (List.mem_append_left _ (List.mem_append_left _ (List.mem_append_left _ (List.mem_append_left _ (List.mem_append_left _ (List.mem_append_left _ (List.mem_append_left _ (List.mem_append_left _ (List.mem_of_getElem? (i := 5) rfl))))))))))) (fun _ h9 => h9) rfl dL_law_1184 ?_
                          refine q_rVi (v := z_bI (q_ahd G (z_day G D) (z_od G) u i)) [] hx hb hml hown hts (m_X3_isAhead l Dg cI cR cZ sa rb rt G (z_day G D) u i (z_od G) (by omega) (by omega) (by omega) hG) gL_law_X3_isAhead rfl kd_X3_isAhead ⟨Nat.le_of_ble_eq_true rfl, Nat.le_of_ble_eq_true rfl⟩ hK hN hJ (z_Prr (z_Prr hP)) rfl rfl rfl rfl rfl hl.1 (Nat.le_of_ble_eq_true rfl) dL_law_1187 ⟨by show _ ≤ 801385; omega, by show _ ≤ 6697312; omega⟩ ?_
                          refine lv_if_eq (tgt := 1195) hx hb dL_law_1190 (by decide) (fun c1190 => ?_) (fun c1190 => absurd (by cases hq : q_ahd G (z_day G D) (z_od G) u i with | false => rfl | true => exact absurd hky ((q_ahd_iff hG hVd (by omega) hlt hi958).mp hq)) c1190)
                          refine lv_iinc (v := nI (u + 1)) (lv' := [(22, .int (nI (u + 1))), (0, .ref b), (1, .ref h), (2, .ref (sa 0)), (3, .int (nI tm)), (7, .int (nI (z_tc G))), (14, .ref qa), (15, .ref qb), (16, .ref qc), (17, .ref qd), (20, .int (nI i))]) hx hb dL_law_1195 hl (k := 10) rfl (nI_1 _) (by decide) rfl (fun ls hl => ?_)
                          refine lv_goto (tgt := 1117) hx hb dL_law_1198 (by decide) ?_
                          exact ih1117 (u + 1) (by omega) (by omega) _ (lv_sub hl [1, 2, 3, 4, 5, 6, 7, 8, 9, 10, 0] rfl)
                        · skip
                          have hlt : i < u := z_nle (by omega) c1137
                          refine lv_aload_n hx hb dL_law_1140 rfl (lv_at hl 2 rfl) ?_
                          refine lv_aload_n hx hb dL_law_1141 rfl (lv_at hl 2 rfl) ?_
                          refine va_get (ci := 3) (v := .ref (sa 3)) (C := RX3) (T := TX3) (N := 6) hx hb hts (fun _ h => (List.mem_append_left _ (List.mem_append_left _ (List.mem_append_left _ (List.mem_append_left _ (List.mem_append_left _ (List.mem_append_left _ (List.mem_append_right _ h)))))))) hown hK hP 43 rfl rfl 2 (by decide) (hts _ (List.mem_append_left _ (List.mem_append_left _ (List.mem_append_left _ (List.mem_append_left _ (List.mem_append_left _ (List.mem_append_left _ (List.mem_append_left _ (List.mem_append_left _ (List.mem_append_left _ (List.mem_of_getElem? (i := 8) rfl))))))))))) (fun _ h9 => h9) rfl dL_law_1142 ?_
                          refine lv_iload hx hb dL_law_1145 (lv_at hl 9 rfl) ?_
                          refine q_aald (v := rt i) hx hb hK hP 46 rfl (by omega) (by omega) rfl dL_law_1147 ?_
                          refine lv_aload_n hx hb dL_law_1148 rfl (lv_at hl 2 rfl) ?_
                          refine va_get (ci := 3) (v := .ref (sa 3)) (C := RX3) (T := TX3) (N := 6) hx hb hts (fun _ h => (List.mem_append_left _ (List.mem_append_left _ (List.mem_append_left _ (List.mem_append_left _ (List.mem_append_left _ (List.mem_append_left _ (List.mem_append_right _ h)))))))) hown hK hP 43 rfl rfl 2 (by decide) (hts _ (List.mem_append_left _ (List.mem_append_left _ (List.mem_append_left _ (List.mem_append_left _ (List.mem_append_left _ (List.mem_append_left _ (List.mem_append_left _ (List.mem_append_left _ (List.mem_append_left _ (List.mem_of_getElem? (i := 8) rfl))))))))))) (fun _ h9 => h9) rfl dL_law_1149 ?_
                          refine lv_iload hx hb dL_law_1152 (lv_at hl 10 rfl) ?_
                          refine q_aald (v := rt u) hx hb hK hP 46 rfl (by omega) (by omega) rfl dL_law_1154 ?_
                          refine lv_aload_n hx hb dL_law_1155 rfl (lv_at hl 2 rfl) ?_
                          refine va_get (ci := 3) (v := .int (nI (z_od G))) (C := RX3) (T := TX3) (N := 6) hx hb hts (fun _ h => (List.mem_append_left _ (List.mem_append_left _ (List.mem_append_left _ (List.mem_append_left _ (List.mem_append_left _ (List.mem_append_left _ (List.mem_append_right _ h)))))))) hown hK hP 43 rfl rfl 4 (by decide) (hts _ (List.mem_append_left _ (List.mem_append_left _ (List.mem_append_left _ (List.mem_append_left _ (List.mem_append_left _ (List.mem_append_left _ (List.mem_append_left _ (List.mem_append_left _ (List.mem_append_left _ (List.mem_of_getElem? (i := 5) rfl))))))))))) (fun _ h9 => h9) rfl dL_law_1156 ?_
                          refine q_rVi (v := z_bI (q_ahd G (z_day G D) (z_od G) i u)) [] hx hb hml hown hts (m_X3_isAhead l Dg cI cR cZ sa rb rt G (z_day G D) i u (z_od G) (by omega) (by omega) (by omega) hG) gL_law_X3_isAhead rfl kd_X3_isAhead ⟨Nat.le_of_ble_eq_true rfl, Nat.le_of_ble_eq_true rfl⟩ hK hN hJ (z_Prr (z_Prr hP)) rfl rfl rfl rfl rfl hl.1 (Nat.le_of_ble_eq_true rfl) dL_law_1159 ⟨by show _ ≤ 801385; omega, by show _ ≤ 6697312; omega⟩ ?_
                          refine lv_if_eq (tgt := 1193) hx hb dL_law_1162 (by decide) (fun c1162 => absurd c1162 (by rw [(q_ahd_iff hG hVd (by omega) hlt hu2).mpr (fun z => q_lt_irr (q_ltt z hky))]; decide)) (fun c1162 => ?_)
                          refine lv_goto (tgt := 1195) hx hb dL_law_1165 (by decide) ?_
                          refine lv_iinc (v := nI (u + 1)) (lv' := [(22, .int (nI (u + 1))), (0, .ref b), (1, .ref h), (2, .ref (sa 0)), (3, .int (nI tm)), (7, .int (nI (z_tc G))), (14, .ref qa), (15, .ref qb), (16, .ref qc), (17, .ref qd), (20, .int (nI i))]) hx hb dL_law_1195 hl (k := 10) rfl (nI_1 _) (by decide) rfl (fun ls hl => ?_)
                          refine lv_goto (tgt := 1117) hx hb dL_law_1198 (by decide) ?_
                          exact ih1117 (u + 1) (by omega) (by omega) _ (lv_sub hl [1, 2, 3, 4, 5, 6, 7, 8, 9, 10, 0] rfl)
                      · skip
                        refine lv_aload_n hx hb dL_law_1124 rfl (lv_at hl 1 rfl) ?_
                        refine lv_iload hx hb dL_law_1125 (lv_at hl 10 rfl) ?_
                        refine z_rVi (v := z_shf G (z_day G D) u) [] hx hb hml hown hts (m_X2_shelfOf l Dg cI h na ta G (z_day G D) G1 D1 u (by omega) hG hWd) gL_law_X2_shelfOf rfl kd_X2_shelfOf ⟨Nat.le_of_ble_eq_true rfl, Nat.le_of_ble_eq_true rfl⟩ (q_KI hK) hN (z_Pl hP) rfl rfl rfl rfl hl.1 rfl (Nat.le_of_ble_eq_true rfl) dL_law_1127 ⟨by show _ ≤ 801385; omega, by show _ ≤ 6697312; omega⟩ ?_
                        refine z_top (x' := -1) (q_shf0 hpu) ?_
                        refine lv_if_lt (tgt := 1195) hx hb dL_law_1130 (by decide) (fun c1130 => ?_) (fun c1130 => absurd (by decide) c1130)
                        refine lv_iinc (v := nI (u + 1)) (lv' := [(22, .int (nI (u + 1))), (0, .ref b), (1, .ref h), (2, .ref (sa 0)), (3, .int (nI tm)), (7, .int (nI (z_tc G))), (14, .ref qa), (15, .ref qb), (16, .ref qc), (17, .ref qd), (20, .int (nI i))]) hx hb dL_law_1195 hl (k := 10) rfl (nI_1 _) (by decide) rfl (fun ls hl => ?_)
                        refine lv_goto (tgt := 1117) hx hb dL_law_1198 (by decide) ?_
                        exact ih1117 (u + 1) (by omega) (by omega) _ (lv_sub hl [1, 2, 3, 4, 5, 6, 7, 8, 9, 10, 0] rfl)
                exact lp1117 (z_tc G + 1) 0 (by omega) (by omega) _ (lv_sub hl [2, 3, 4, 5, 6, 7, 8, 9, 10, 11, 0] rfl)
            · skip
              refine lv_iconst (v := 1) hx hb dL_law_1047 (by decide) ?_
              refine lv_goto (tgt := 1052) hx hb dL_law_1048 (by decide) ?_
              refine lv_aload_n hx hb dL_law_1052 rfl (lv_at hl 2 rfl) ?_
              refine lv_iload hx hb dL_law_1053 (lv_at hl 10 rfl) ?_
              refine z_rVi (v := z_vc (z_day G D) i) [.int 1] hx hb hml hown hts (m_X2_vacuumOf l Dg cI h na ta G (z_day G D) G1 D1 i (by omega) hG hWd) gL_law_X2_vacuumOf rfl kd_X2_vacuumOf ⟨Nat.le_of_ble_eq_true rfl, Nat.le_of_ble_eq_true rfl⟩ (q_KI hK) hN (z_Pl hP) rfl rfl rfl rfl hl.1 rfl (Nat.le_of_ble_eq_true rfl) dL_law_1055 ⟨by show _ ≤ 801385; omega, by show _ ≤ 6697312; omega⟩ ?_
              refine lv_if_ne (tgt := 1065) hx hb dL_law_1058 (by decide) (fun c1058 => absurd (by rw [hvc]; exact (q_un1 hI hi2 hp).mp c1044) c1058) (fun c1058 => ?_)
              refine lv_iconst (v := 1) hx hb dL_law_1061 (by decide) ?_
              refine lv_goto (tgt := 1066) hx hb dL_law_1062 (by decide) ?_
              refine lv_icmp_ne (tgt := 1095) hx hb dL_law_1066 (by decide) (fun c1066 => absurd rfl c1066) (fun c1066 => ?_)
              refine lv_aload hx hb dL_law_1069 (lv_at hl 8 rfl) ?_
              refine lv_iload hx hb dL_law_1071 (lv_at hl 10 rfl) ?_
              refine q_zald hx hb hK hP 41 rfl (by omega) (by omega) dL_law_1073 ?_
              refine z_top (x' := z_fi (fun _ => 0) (q_gn D) (z_tc G) i) rfl ?_
              refine z_top (x' := 0) ((q_fi_at hi2).trans (q_gn1 hp)) ?_
              refine lv_if_ne (tgt := 1097) hx hb dL_law_1074 (by decide) (fun c1074 => absurd rfl c1074) (fun c1074 => ?_)
              refine lv_aload_n hx hb dL_law_1077 rfl (lv_at hl 2 rfl) ?_
              refine lv_iload hx hb dL_law_1078 (lv_at hl 10 rfl) ?_
              refine z_rVi (v := z_vc (z_day G D) i) [] hx hb hml hown hts (m_X2_vacuumOf l Dg cI h na ta G (z_day G D) G1 D1 i (by omega) hG hWd) gL_law_X2_vacuumOf rfl kd_X2_vacuumOf ⟨Nat.le_of_ble_eq_true rfl, Nat.le_of_ble_eq_true rfl⟩ (q_KI hK) hN (z_Pl hP) rfl rfl rfl rfl hl.1 rfl (Nat.le_of_ble_eq_true rfl) dL_law_1080 ⟨by show _ ≤ 801385; omega, by show _ ≤ 6697312; omega⟩ ?_
              refine lv_if_ne (tgt := 1097) hx hb dL_law_1083 (by decide) (fun c1083 => ?_) (fun c1083 => ?_)
              · skip
                refine lv_iload hx hb dL_law_1097 (lv_at hl 0 rfl) ?_
                refine lv_if_eq (tgt := 1201) hx hb dL_law_1099 (by decide) (fun c1099 => absurd c1099 (by decide)) (fun c1099 => ?_)
                refine lv_aload_n hx hb dL_law_1102 rfl (lv_at hl 2 rfl) ?_
                refine lv_iload hx hb dL_law_1103 (lv_at hl 10 rfl) ?_
                refine z_rVi (v := z_bI (z_pl (z_day G D) i == 2)) [] hx hb hml hown hts (m_X2_isShipped l Dg cI h na ta G (z_day G D) G1 D1 i (by omega) hG hWd) gL_law_X2_isShipped rfl kd_X2_isShipped ⟨Nat.le_of_ble_eq_true rfl, Nat.le_of_ble_eq_true rfl⟩ (q_KI hK) hN (z_Pl hP) rfl rfl rfl rfl hl.1 rfl (Nat.le_of_ble_eq_true rfl) dL_law_1105 ⟨by show _ ≤ 801385; omega, by show _ ≤ 6697312; omega⟩ ?_
                refine z_top (x' := 1) (q_is _ _ hd) ?_
                refine lv_if_ne (tgt := 1114) hx hb dL_law_1108 (by decide) (fun c1108 => ?_) (fun c1108 => absurd c1108 (by decide))
                refine lv_iconst (v := nI 0) hx hb dL_law_1114 (by decide) ?_
                refine lv_istore (lv' := [(22, .int (nI 0)), (21, .int 1), (0, .ref b), (1, .ref h), (2, .ref (sa 0)), (3, .int (nI tm)), (7, .int (nI (z_tc G))), (14, .ref qa), (15, .ref qb), (16, .ref qc), (17, .ref qd), (20, .int (nI i))]) hx hb dL_law_1115 hl (by decide) rfl (fun ls hl => ?_)
                have lp1117 : ∀ (zz u : Nat) , u ≤ z_tc G → z_tc G + 1 ≤ u + zz → ∀ ls : Array Slot, lv_has ls 23 [(0, .ref b), (1, .ref h), (2, .ref (sa 0)), (3, .int (nI tm)), (7, .int (nI (z_tc G))), (14, .ref qa), (15, .ref qb), (16, .ref qc), (17, .ref qd), (20, .int (nI i)), (22, .int (nI u))] → W p l e room_1 s m ([Value.ref b] : List Value).toArray below meth c H locs c0 s0 Q (F0 m 1117 ls []) := by
                  intro zz
                  induction zz with
                  | zero => intros; exfalso; omega
                  | succ zz ih1117 =>
                    intro u hi hzz ls hl
                    refine lv_iload hx hb dL_law_1117 (lv_at hl 10 rfl) ?_
                    refine lv_iload hx hb dL_law_1119 (lv_at hl 4 rfl) ?_
                    refine lv_icmp_ge (tgt := 1201) hx hb dL_law_1121 (by decide) (fun c1121 => ?_) (fun c1121 => ?_)
                    · skip
                      have h9x : u = z_tc G := Nat.le_antisymm hi (z_le (by omega) (by omega) c1121)
                      subst h9x
                      refine lv_iinc (v := nI (i + 1)) (lv' := [(20, .int (nI (i + 1))), (0, .ref b), (1, .ref h), (2, .ref (sa 0)), (3, .int (nI tm)), (7, .int (nI (z_tc G))), (14, .ref qa), (15, .ref qb), (16, .ref qc), (17, .ref qd), (22, .int (nI (z_tc G)))]) hx hb dL_law_1201 hl (k := 9) rfl (nI_1 _) (by decide) rfl (fun ls hl => ?_)
                      refine lv_goto (tgt := 958) hx hb dL_law_1204 (by decide) ?_
                      exact ih958 (i + 1) (by omega) (by omega) _ (lv_sub hl [1, 2, 3, 4, 5, 6, 7, 8, 9, 0] rfl)
                    · skip
                      have hu2 : u < z_tc G := z_nle (by omega) c1121
                      have hshu := hG.2.2.2.1 u
                      by_cases hpu : z_pl (z_day G D) u = 1
                      · skip
                        have hky := q_shipped hI hi958 hu2 hp hd hpu
                        have hne : i ≠ u := fun z => by rw [z, hpu] at hd; exact absurd hd (by decide)
                        refine lv_aload_n hx hb dL_law_1124 rfl (lv_at hl 1 rfl) ?_
                        refine lv_iload hx hb dL_law_1125 (lv_at hl 10 rfl) ?_
                        refine z_rVi (v := z_shf G (z_day G D) u) [] hx hb hml hown hts (m_X2_shelfOf l Dg cI h na ta G (z_day G D) G1 D1 u (by omega) hG hWd) gL_law_X2_shelfOf rfl kd_X2_shelfOf ⟨Nat.le_of_ble_eq_true rfl, Nat.le_of_ble_eq_true rfl⟩ (q_KI hK) hN (z_Pl hP) rfl rfl rfl rfl hl.1 rfl (Nat.le_of_ble_eq_true rfl) dL_law_1127 ⟨by show _ ≤ 801385; omega, by show _ ≤ 6697312; omega⟩ ?_
                        refine z_top (x' := nI (z_sh G u)) (q_shf1 hpu) ?_
                        refine lv_if_lt (tgt := 1195) hx hb dL_law_1130 (by decide) (fun c1130 => absurd c1130 (nI_pos (by omega))) (fun c1130 => ?_)
                        refine lv_iload hx hb dL_law_1133 (lv_at hl 9 rfl) ?_
                        refine lv_iload hx hb dL_law_1135 (lv_at hl 10 rfl) ?_
                        refine lv_icmp_ge (tgt := 1168) hx hb dL_law_1137 (by decide) (fun c1137 => ?_) (fun c1137 => ?_)
                        · skip
                          have hlt : u < i := by have := z_le (by omega) (by omega) c1137; omega
                          refine lv_aload_n hx hb dL_law_1168 rfl (lv_at hl 2 rfl) ?_
                          refine lv_aload_n hx hb dL_law_1169 rfl (lv_at hl 2 rfl) ?_
                          refine va_get (ci := 3) (v := .ref (sa 3)) (C := RX3) (T := TX3) (N := 6) hx hb hts (fun _ h => (List.mem_append_left _ (List.mem_append_left _ (List.mem_append_left _ (List.mem_append_left _ (List.mem_append_left _ (List.mem_append_left _ (List.mem_append_right _ h)))))))) hown hK hP 43 rfl rfl 2 (by decide) (hts _ (List.mem_append_left _ (List.mem_append_left _ (List.mem_append_left _ (List.mem_append_left _ (List.mem_append_left _ (List.mem_append_left _ (List.mem_append_left _ (List.mem_append_left _ (List.mem_append_left _ (List.mem_of_getElem? (i := 8) rfl))))))))))) (fun _ h9 => h9) rfl dL_law_1170 ?_
                          refine lv_iload hx hb dL_law_1173 (lv_at hl 10 rfl) ?_
                          refine q_aald (v := rt u) hx hb hK hP 46 rfl (by omega) (by omega) rfl dL_law_1175 ?_
                          refine lv_aload_n hx hb dL_law_1176 rfl (lv_at hl 2 rfl) ?_
                          refine va_get (ci := 3) (v := .ref (sa 3)) (C := RX3) (T := TX3) (N := 6) hx hb hts (fun _ h => (List.mem_append_left _ (List.mem_append_left _ (List.mem_append_left _ (List.mem_append_left _ (List.mem_append_left _ (List.mem_append_left _ (List.mem_append_right _ h)))))))) hown hK hP 43 rfl rfl 2 (by decide) (hts _ (List.mem_append_left _ (List.mem_append_left _ (List.mem_append_left _ (List.mem_append_left _ (List.mem_append_left _ (List.mem_append_left _ (List.mem_append_left _ (List.mem_append_left _ (List.mem_append_left _ (List.mem_of_getElem? (i := 8) rfl))))))))))) (fun _ h9 => h9) rfl dL_law_1177 ?_
                          refine lv_iload hx hb dL_law_1180 (lv_at hl 9 rfl) ?_
                          refine q_aald (v := rt i) hx hb hK hP 46 rfl (by omega) (by omega) rfl dL_law_1182 ?_
                          refine lv_aload_n hx hb dL_law_1183 rfl (lv_at hl 2 rfl) ?_
                          refine va_get (ci := 3) (v := .int (nI (z_od G))) (C := RX3) (T := TX3) (N := 6) hx hb hts (fun _ h => (List.mem_append_left _ (List.mem_append_left _ (List.mem_append_left _ (List.mem_append_left _ (List.mem_append_left _ (List.mem_append_left _ (List.mem_append_right _ h)))))))) hown hK hP 43 rfl rfl 4 (by decide) (hts _ (List.mem_append_left _ (List.mem_append_left _ (List.mem_append_left _ (List.mem_append_left _ (List.mem_append_left _ (List.mem_append_left _ (List.mem_append_left _ (List.mem_append_left _ (List.mem_append_left _ (List.mem_of_getElem? (i := 5) rfl))))))))))) (fun _ h9 => h9) rfl dL_law_1184 ?_
                          refine q_rVi (v := z_bI (q_ahd G (z_day G D) (z_od G) u i)) [] hx hb hml hown hts (m_X3_isAhead l Dg cI cR cZ sa rb rt G (z_day G D) u i (z_od G) (by omega) (by omega) (by omega) hG) gL_law_X3_isAhead rfl kd_X3_isAhead ⟨Nat.le_of_ble_eq_true rfl, Nat.le_of_ble_eq_true rfl⟩ hK hN hJ (z_Prr (z_Prr hP)) rfl rfl rfl rfl rfl hl.1 (Nat.le_of_ble_eq_true rfl) dL_law_1187 ⟨by show _ ≤ 801385; omega, by show _ ≤ 6697312; omega⟩ ?_
                          refine lv_if_eq (tgt := 1195) hx hb dL_law_1190 (by decide) (fun c1190 => ?_) (fun c1190 => absurd (by cases hq : q_ahd G (z_day G D) (z_od G) u i with | false => rfl | true => exact absurd hky ((q_ahd_iff hG hVd (by omega) hlt hi958).mp hq)) c1190)
                          refine lv_iinc (v := nI (u + 1)) (lv' := [(22, .int (nI (u + 1))), (0, .ref b), (1, .ref h), (2, .ref (sa 0)), (3, .int (nI tm)), (7, .int (nI (z_tc G))), (14, .ref qa), (15, .ref qb), (16, .ref qc), (17, .ref qd), (20, .int (nI i))]) hx hb dL_law_1195 hl (k := 10) rfl (nI_1 _) (by decide) rfl (fun ls hl => ?_)
                          refine lv_goto (tgt := 1117) hx hb dL_law_1198 (by decide) ?_
                          exact ih1117 (u + 1) (by omega) (by omega) _ (lv_sub hl [1, 2, 3, 4, 5, 6, 7, 8, 9, 10, 0] rfl)
                        · skip
                          have hlt : i < u := z_nle (by omega) c1137
                          refine lv_aload_n hx hb dL_law_1140 rfl (lv_at hl 2 rfl) ?_
                          refine lv_aload_n hx hb dL_law_1141 rfl (lv_at hl 2 rfl) ?_
                          refine va_get (ci := 3) (v := .ref (sa 3)) (C := RX3) (T := TX3) (N := 6) hx hb hts (fun _ h => (List.mem_append_left _ (List.mem_append_left _ (List.mem_append_left _ (List.mem_append_left _ (List.mem_append_left _ (List.mem_append_left _ (List.mem_append_right _ h)))))))) hown hK hP 43 rfl rfl 2 (by decide) (hts _ (List.mem_append_left _ (List.mem_append_left _ (List.mem_append_left _ (List.mem_append_left _ (List.mem_append_left _ (List.mem_append_left _ (List.mem_append_left _ (List.mem_append_left _ (List.mem_append_left _ (List.mem_of_getElem? (i := 8) rfl))))))))))) (fun _ h9 => h9) rfl dL_law_1142 ?_
                          refine lv_iload hx hb dL_law_1145 (lv_at hl 9 rfl) ?_
                          refine q_aald (v := rt i) hx hb hK hP 46 rfl (by omega) (by omega) rfl dL_law_1147 ?_
                          refine lv_aload_n hx hb dL_law_1148 rfl (lv_at hl 2 rfl) ?_
                          refine va_get (ci := 3) (v := .ref (sa 3)) (C := RX3) (T := TX3) (N := 6) hx hb hts (fun _ h => (List.mem_append_left _ (List.mem_append_left _ (List.mem_append_left _ (List.mem_append_left _ (List.mem_append_left _ (List.mem_append_left _ (List.mem_append_right _ h)))))))) hown hK hP 43 rfl rfl 2 (by decide) (hts _ (List.mem_append_left _ (List.mem_append_left _ (List.mem_append_left _ (List.mem_append_left _ (List.mem_append_left _ (List.mem_append_left _ (List.mem_append_left _ (List.mem_append_left _ (List.mem_append_left _ (List.mem_of_getElem? (i := 8) rfl))))))))))) (fun _ h9 => h9) rfl dL_law_1149 ?_
                          refine lv_iload hx hb dL_law_1152 (lv_at hl 10 rfl) ?_
                          refine q_aald (v := rt u) hx hb hK hP 46 rfl (by omega) (by omega) rfl dL_law_1154 ?_
                          refine lv_aload_n hx hb dL_law_1155 rfl (lv_at hl 2 rfl) ?_
                          refine va_get (ci := 3) (v := .int (nI (z_od G))) (C := RX3) (T := TX3) (N := 6) hx hb hts (fun _ h => (List.mem_append_left _ (List.mem_append_left _ (List.mem_append_left _ (List.mem_append_left _ (List.mem_append_left _ (List.mem_append_left _ (List.mem_append_right _ h)))))))) hown hK hP 43 rfl rfl 4 (by decide) (hts _ (List.mem_append_left _ (List.mem_append_left _ (List.mem_append_left _ (List.mem_append_left _ (List.mem_append_left _ (List.mem_append_left _ (List.mem_append_left _ (List.mem_append_left _ (List.mem_append_left _ (List.mem_of_getElem? (i := 5) rfl))))))))))) (fun _ h9 => h9) rfl dL_law_1156 ?_
                          refine q_rVi (v := z_bI (q_ahd G (z_day G D) (z_od G) i u)) [] hx hb hml hown hts (m_X3_isAhead l Dg cI cR cZ sa rb rt G (z_day G D) i u (z_od G) (by omega) (by omega) (by omega) hG) gL_law_X3_isAhead rfl kd_X3_isAhead ⟨Nat.le_of_ble_eq_true rfl, Nat.le_of_ble_eq_true rfl⟩ hK hN hJ (z_Prr (z_Prr hP)) rfl rfl rfl rfl rfl hl.1 (Nat.le_of_ble_eq_true rfl) dL_law_1159 ⟨by show _ ≤ 801385; omega, by show _ ≤ 6697312; omega⟩ ?_
                          refine lv_if_eq (tgt := 1193) hx hb dL_law_1162 (by decide) (fun c1162 => absurd c1162 (by rw [(q_ahd_iff hG hVd (by omega) hlt hu2).mpr (fun z => q_lt_irr (q_ltt z hky))]; decide)) (fun c1162 => ?_)
                          refine lv_goto (tgt := 1195) hx hb dL_law_1165 (by decide) ?_
                          refine lv_iinc (v := nI (u + 1)) (lv' := [(22, .int (nI (u + 1))), (0, .ref b), (1, .ref h), (2, .ref (sa 0)), (3, .int (nI tm)), (7, .int (nI (z_tc G))), (14, .ref qa), (15, .ref qb), (16, .ref qc), (17, .ref qd), (20, .int (nI i))]) hx hb dL_law_1195 hl (k := 10) rfl (nI_1 _) (by decide) rfl (fun ls hl => ?_)
                          refine lv_goto (tgt := 1117) hx hb dL_law_1198 (by decide) ?_
                          exact ih1117 (u + 1) (by omega) (by omega) _ (lv_sub hl [1, 2, 3, 4, 5, 6, 7, 8, 9, 10, 0] rfl)
                      · skip
                        refine lv_aload_n hx hb dL_law_1124 rfl (lv_at hl 1 rfl) ?_
                        refine lv_iload hx hb dL_law_1125 (lv_at hl 10 rfl) ?_
                        refine z_rVi (v := z_shf G (z_day G D) u) [] hx hb hml hown hts (m_X2_shelfOf l Dg cI h na ta G (z_day G D) G1 D1 u (by omega) hG hWd) gL_law_X2_shelfOf rfl kd_X2_shelfOf ⟨Nat.le_of_ble_eq_true rfl, Nat.le_of_ble_eq_true rfl⟩ (q_KI hK) hN (z_Pl hP) rfl rfl rfl rfl hl.1 rfl (Nat.le_of_ble_eq_true rfl) dL_law_1127 ⟨by show _ ≤ 801385; omega, by show _ ≤ 6697312; omega⟩ ?_
                        refine z_top (x' := -1) (q_shf0 hpu) ?_
                        refine lv_if_lt (tgt := 1195) hx hb dL_law_1130 (by decide) (fun c1130 => ?_) (fun c1130 => absurd (by decide) c1130)
                        refine lv_iinc (v := nI (u + 1)) (lv' := [(22, .int (nI (u + 1))), (0, .ref b), (1, .ref h), (2, .ref (sa 0)), (3, .int (nI tm)), (7, .int (nI (z_tc G))), (14, .ref qa), (15, .ref qb), (16, .ref qc), (17, .ref qd), (20, .int (nI i))]) hx hb dL_law_1195 hl (k := 10) rfl (nI_1 _) (by decide) rfl (fun ls hl => ?_)
                        refine lv_goto (tgt := 1117) hx hb dL_law_1198 (by decide) ?_
                        exact ih1117 (u + 1) (by omega) (by omega) _ (lv_sub hl [1, 2, 3, 4, 5, 6, 7, 8, 9, 10, 0] rfl)
                exact lp1117 (z_tc G + 1) 0 (by omega) (by omega) _ (lv_sub hl [2, 3, 4, 5, 6, 7, 8, 9, 10, 11, 0] rfl)
              · skip
                refine lv_aload_n hx hb dL_law_1086 rfl (lv_at hl 2 rfl) ?_
                refine lv_iload hx hb dL_law_1087 (lv_at hl 10 rfl) ?_
                refine z_rVi (v := z_bI (z_pl (z_day G D) i == 3)) [] hx hb hml hown hts (m_X2_isLost l Dg cI h na ta G (z_day G D) G1 D1 i (by omega) hG hWd) gL_law_X2_isLost rfl kd_X2_isLost ⟨Nat.le_of_ble_eq_true rfl, Nat.le_of_ble_eq_true rfl⟩ (q_KI hK) hN (z_Pl hP) rfl rfl rfl rfl hl.1 rfl (Nat.le_of_ble_eq_true rfl) dL_law_1089 ⟨by show _ ≤ 801385; omega, by show _ ≤ 6697312; omega⟩ ?_
                refine z_top (x' := 1) (q_is _ _ (q_gone hI hi2 hp c1083)) ?_
                refine lv_if_ne (tgt := 1097) hx hb dL_law_1092 (by decide) (fun c1092 => ?_) (fun c1092 => absurd c1092 (by decide))
                refine lv_iload hx hb dL_law_1097 (lv_at hl 0 rfl) ?_
                refine lv_if_eq (tgt := 1201) hx hb dL_law_1099 (by decide) (fun c1099 => absurd c1099 (by decide)) (fun c1099 => ?_)
                refine lv_aload_n hx hb dL_law_1102 rfl (lv_at hl 2 rfl) ?_
                refine lv_iload hx hb dL_law_1103 (lv_at hl 10 rfl) ?_
                refine z_rVi (v := z_bI (z_pl (z_day G D) i == 2)) [] hx hb hml hown hts (m_X2_isShipped l Dg cI h na ta G (z_day G D) G1 D1 i (by omega) hG hWd) gL_law_X2_isShipped rfl kd_X2_isShipped ⟨Nat.le_of_ble_eq_true rfl, Nat.le_of_ble_eq_true rfl⟩ (q_KI hK) hN (z_Pl hP) rfl rfl rfl rfl hl.1 rfl (Nat.le_of_ble_eq_true rfl) dL_law_1105 ⟨by show _ ≤ 801385; omega, by show _ ≤ 6697312; omega⟩ ?_
                refine z_top (x' := 1) (q_is _ _ hd) ?_
                refine lv_if_ne (tgt := 1114) hx hb dL_law_1108 (by decide) (fun c1108 => ?_) (fun c1108 => absurd c1108 (by decide))
                refine lv_iconst (v := nI 0) hx hb dL_law_1114 (by decide) ?_
                refine lv_istore (lv' := [(22, .int (nI 0)), (21, .int 1), (0, .ref b), (1, .ref h), (2, .ref (sa 0)), (3, .int (nI tm)), (7, .int (nI (z_tc G))), (14, .ref qa), (15, .ref qb), (16, .ref qc), (17, .ref qd), (20, .int (nI i))]) hx hb dL_law_1115 hl (by decide) rfl (fun ls hl => ?_)
                have lp1117 : ∀ (zz u : Nat) , u ≤ z_tc G → z_tc G + 1 ≤ u + zz → ∀ ls : Array Slot, lv_has ls 23 [(0, .ref b), (1, .ref h), (2, .ref (sa 0)), (3, .int (nI tm)), (7, .int (nI (z_tc G))), (14, .ref qa), (15, .ref qb), (16, .ref qc), (17, .ref qd), (20, .int (nI i)), (22, .int (nI u))] → W p l e room_1 s m ([Value.ref b] : List Value).toArray below meth c H locs c0 s0 Q (F0 m 1117 ls []) := by
                  intro zz
                  induction zz with
                  | zero => intros; exfalso; omega
                  | succ zz ih1117 =>
                    intro u hi hzz ls hl
                    refine lv_iload hx hb dL_law_1117 (lv_at hl 10 rfl) ?_
                    refine lv_iload hx hb dL_law_1119 (lv_at hl 4 rfl) ?_
                    refine lv_icmp_ge (tgt := 1201) hx hb dL_law_1121 (by decide) (fun c1121 => ?_) (fun c1121 => ?_)
                    · skip
                      have h9x : u = z_tc G := Nat.le_antisymm hi (z_le (by omega) (by omega) c1121)
                      subst h9x
                      refine lv_iinc (v := nI (i + 1)) (lv' := [(20, .int (nI (i + 1))), (0, .ref b), (1, .ref h), (2, .ref (sa 0)), (3, .int (nI tm)), (7, .int (nI (z_tc G))), (14, .ref qa), (15, .ref qb), (16, .ref qc), (17, .ref qd), (22, .int (nI (z_tc G)))]) hx hb dL_law_1201 hl (k := 9) rfl (nI_1 _) (by decide) rfl (fun ls hl => ?_)
                      refine lv_goto (tgt := 958) hx hb dL_law_1204 (by decide) ?_
                      exact ih958 (i + 1) (by omega) (by omega) _ (lv_sub hl [1, 2, 3, 4, 5, 6, 7, 8, 9, 0] rfl)
                    · skip
                      have hu2 : u < z_tc G := z_nle (by omega) c1121
                      have hshu := hG.2.2.2.1 u
                      by_cases hpu : z_pl (z_day G D) u = 1
                      · skip
                        have hky := q_shipped hI hi958 hu2 hp hd hpu
                        have hne : i ≠ u := fun z => by rw [z, hpu] at hd; exact absurd hd (by decide)
                        refine lv_aload_n hx hb dL_law_1124 rfl (lv_at hl 1 rfl) ?_
                        refine lv_iload hx hb dL_law_1125 (lv_at hl 10 rfl) ?_
                        refine z_rVi (v := z_shf G (z_day G D) u) [] hx hb hml hown hts (m_X2_shelfOf l Dg cI h na ta G (z_day G D) G1 D1 u (by omega) hG hWd) gL_law_X2_shelfOf rfl kd_X2_shelfOf ⟨Nat.le_of_ble_eq_true rfl, Nat.le_of_ble_eq_true rfl⟩ (q_KI hK) hN (z_Pl hP) rfl rfl rfl rfl hl.1 rfl (Nat.le_of_ble_eq_true rfl) dL_law_1127 ⟨by show _ ≤ 801385; omega, by show _ ≤ 6697312; omega⟩ ?_
                        refine z_top (x' := nI (z_sh G u)) (q_shf1 hpu) ?_
                        refine lv_if_lt (tgt := 1195) hx hb dL_law_1130 (by decide) (fun c1130 => absurd c1130 (nI_pos (by omega))) (fun c1130 => ?_)
                        refine lv_iload hx hb dL_law_1133 (lv_at hl 9 rfl) ?_
                        refine lv_iload hx hb dL_law_1135 (lv_at hl 10 rfl) ?_
                        refine lv_icmp_ge (tgt := 1168) hx hb dL_law_1137 (by decide) (fun c1137 => ?_) (fun c1137 => ?_)
                        · skip
                          have hlt : u < i := by have := z_le (by omega) (by omega) c1137; omega
                          refine lv_aload_n hx hb dL_law_1168 rfl (lv_at hl 2 rfl) ?_
                          refine lv_aload_n hx hb dL_law_1169 rfl (lv_at hl 2 rfl) ?_
                          refine va_get (ci := 3) (v := .ref (sa 3)) (C := RX3) (T := TX3) (N := 6) hx hb hts (fun _ h => (List.mem_append_left _ (List.mem_append_left _ (List.mem_append_left _ (List.mem_append_left _ (List.mem_append_left _ (List.mem_append_left _ (List.mem_append_right _ h)))))))) hown hK hP 43 rfl rfl 2 (by decide) (hts _ (List.mem_append_left _ (List.mem_append_left _ (List.mem_append_left _ (List.mem_append_left _ (List.mem_append_left _ (List.mem_append_left _ (List.mem_append_left _ (List.mem_append_left _ (List.mem_append_left _ (List.mem_of_getElem? (i := 8) rfl))))))))))) (fun _ h9 => h9) rfl dL_law_1170 ?_
                          refine lv_iload hx hb dL_law_1173 (lv_at hl 10 rfl) ?_
                          refine q_aald (v := rt u) hx hb hK hP 46 rfl (by omega) (by omega) rfl dL_law_1175 ?_
                          refine lv_aload_n hx hb dL_law_1176 rfl (lv_at hl 2 rfl) ?_
                          refine va_get (ci := 3) (v := .ref (sa 3)) (C := RX3) (T := TX3) (N := 6) hx hb hts (fun _ h => (List.mem_append_left _ (List.mem_append_left _ (List.mem_append_left _ (List.mem_append_left _ (List.mem_append_left _ (List.mem_append_left _ (List.mem_append_right _ h)))))))) hown hK hP 43 rfl rfl 2 (by decide) (hts _ (List.mem_append_left _ (List.mem_append_left _ (List.mem_append_left _ (List.mem_append_left _ (List.mem_append_left _ (List.mem_append_left _ (List.mem_append_left _ (List.mem_append_left _ (List.mem_append_left _ (List.mem_of_getElem? (i := 8) rfl))))))))))) (fun _ h9 => h9) rfl dL_law_1177 ?_
                          refine lv_iload hx hb dL_law_1180 (lv_at hl 9 rfl) ?_
                          refine q_aald (v := rt i) hx hb hK hP 46 rfl (by omega) (by omega) rfl dL_law_1182 ?_
                          refine lv_aload_n hx hb dL_law_1183 rfl (lv_at hl 2 rfl) ?_
                          refine va_get (ci := 3) (v := .int (nI (z_od G))) (C := RX3) (T := TX3) (N := 6) hx hb hts (fun _ h => (List.mem_append_left _ (List.mem_append_left _ (List.mem_append_left _ (List.mem_append_left _ (List.mem_append_left _ (List.mem_append_left _ (List.mem_append_right _ h)))))))) hown hK hP 43 rfl rfl 4 (by decide) (hts _ (List.mem_append_left _ (List.mem_append_left _ (List.mem_append_left _ (List.mem_append_left _ (List.mem_append_left _ (List.mem_append_left _ (List.mem_append_left _ (List.mem_append_left _ (List.mem_append_left _ (List.mem_of_getElem? (i := 5) rfl))))))))))) (fun _ h9 => h9) rfl dL_law_1184 ?_
                          refine q_rVi (v := z_bI (q_ahd G (z_day G D) (z_od G) u i)) [] hx hb hml hown hts (m_X3_isAhead l Dg cI cR cZ sa rb rt G (z_day G D) u i (z_od G) (by omega) (by omega) (by omega) hG) gL_law_X3_isAhead rfl kd_X3_isAhead ⟨Nat.le_of_ble_eq_true rfl, Nat.le_of_ble_eq_true rfl⟩ hK hN hJ (z_Prr (z_Prr hP)) rfl rfl rfl rfl rfl hl.1 (Nat.le_of_ble_eq_true rfl) dL_law_1187 ⟨by show _ ≤ 801385; omega, by show _ ≤ 6697312; omega⟩ ?_
                          refine lv_if_eq (tgt := 1195) hx hb dL_law_1190 (by decide) (fun c1190 => ?_) (fun c1190 => absurd (by cases hq : q_ahd G (z_day G D) (z_od G) u i with | false => rfl | true => exact absurd hky ((q_ahd_iff hG hVd (by omega) hlt hi958).mp hq)) c1190)
                          refine lv_iinc (v := nI (u + 1)) (lv' := [(22, .int (nI (u + 1))), (0, .ref b), (1, .ref h), (2, .ref (sa 0)), (3, .int (nI tm)), (7, .int (nI (z_tc G))), (14, .ref qa), (15, .ref qb), (16, .ref qc), (17, .ref qd), (20, .int (nI i))]) hx hb dL_law_1195 hl (k := 10) rfl (nI_1 _) (by decide) rfl (fun ls hl => ?_)
                          refine lv_goto (tgt := 1117) hx hb dL_law_1198 (by decide) ?_
                          exact ih1117 (u + 1) (by omega) (by omega) _ (lv_sub hl [1, 2, 3, 4, 5, 6, 7, 8, 9, 10, 0] rfl)
                        · skip
                          have hlt : i < u := z_nle (by omega) c1137
                          refine lv_aload_n hx hb dL_law_1140 rfl (lv_at hl 2 rfl) ?_
                          refine lv_aload_n hx hb dL_law_1141 rfl (lv_at hl 2 rfl) ?_
                          refine va_get (ci := 3) (v := .ref (sa 3)) (C := RX3) (T := TX3) (N := 6) hx hb hts (fun _ h => (List.mem_append_left _ (List.mem_append_left _ (List.mem_append_left _ (List.mem_append_left _ (List.mem_append_left _ (List.mem_append_left _ (List.mem_append_right _ h)))))))) hown hK hP 43 rfl rfl 2 (by decide) (hts _ (List.mem_append_left _ (List.mem_append_left _ (List.mem_append_left _ (List.mem_append_left _ (List.mem_append_left _ (List.mem_append_left _ (List.mem_append_left _ (List.mem_append_left _ (List.mem_append_left _ (List.mem_of_getElem? (i := 8) rfl))))))))))) (fun _ h9 => h9) rfl dL_law_1142 ?_
                          refine lv_iload hx hb dL_law_1145 (lv_at hl 9 rfl) ?_
                          refine q_aald (v := rt i) hx hb hK hP 46 rfl (by omega) (by omega) rfl dL_law_1147 ?_
                          refine lv_aload_n hx hb dL_law_1148 rfl (lv_at hl 2 rfl) ?_
                          refine va_get (ci := 3) (v := .ref (sa 3)) (C := RX3) (T := TX3) (N := 6) hx hb hts (fun _ h => (List.mem_append_left _ (List.mem_append_left _ (List.mem_append_left _ (List.mem_append_left _ (List.mem_append_left _ (List.mem_append_left _ (List.mem_append_right _ h)))))))) hown hK hP 43 rfl rfl 2 (by decide) (hts _ (List.mem_append_left _ (List.mem_append_left _ (List.mem_append_left _ (List.mem_append_left _ (List.mem_append_left _ (List.mem_append_left _ (List.mem_append_left _ (List.mem_append_left _ (List.mem_append_left _ (List.mem_of_getElem? (i := 8) rfl))))))))))) (fun _ h9 => h9) rfl dL_law_1149 ?_
                          refine lv_iload hx hb dL_law_1152 (lv_at hl 10 rfl) ?_
                          refine q_aald (v := rt u) hx hb hK hP 46 rfl (by omega) (by omega) rfl dL_law_1154 ?_
                          refine lv_aload_n hx hb dL_law_1155 rfl (lv_at hl 2 rfl) ?_
                          refine va_get (ci := 3) (v := .int (nI (z_od G))) (C := RX3) (T := TX3) (N := 6) hx hb hts (fun _ h => (List.mem_append_left _ (List.mem_append_left _ (List.mem_append_left _ (List.mem_append_left _ (List.mem_append_left _ (List.mem_append_left _ (List.mem_append_right _ h)))))))) hown hK hP 43 rfl rfl 4 (by decide) (hts _ (List.mem_append_left _ (List.mem_append_left _ (List.mem_append_left _ (List.mem_append_left _ (List.mem_append_left _ (List.mem_append_left _ (List.mem_append_left _ (List.mem_append_left _ (List.mem_append_left _ (List.mem_of_getElem? (i := 5) rfl))))))))))) (fun _ h9 => h9) rfl dL_law_1156 ?_
                          refine q_rVi (v := z_bI (q_ahd G (z_day G D) (z_od G) i u)) [] hx hb hml hown hts (m_X3_isAhead l Dg cI cR cZ sa rb rt G (z_day G D) i u (z_od G) (by omega) (by omega) (by omega) hG) gL_law_X3_isAhead rfl kd_X3_isAhead ⟨Nat.le_of_ble_eq_true rfl, Nat.le_of_ble_eq_true rfl⟩ hK hN hJ (z_Prr (z_Prr hP)) rfl rfl rfl rfl rfl hl.1 (Nat.le_of_ble_eq_true rfl) dL_law_1159 ⟨by show _ ≤ 801385; omega, by show _ ≤ 6697312; omega⟩ ?_
                          refine lv_if_eq (tgt := 1193) hx hb dL_law_1162 (by decide) (fun c1162 => absurd c1162 (by rw [(q_ahd_iff hG hVd (by omega) hlt hu2).mpr (fun z => q_lt_irr (q_ltt z hky))]; decide)) (fun c1162 => ?_)
                          refine lv_goto (tgt := 1195) hx hb dL_law_1165 (by decide) ?_
                          refine lv_iinc (v := nI (u + 1)) (lv' := [(22, .int (nI (u + 1))), (0, .ref b), (1, .ref h), (2, .ref (sa 0)), (3, .int (nI tm)), (7, .int (nI (z_tc G))), (14, .ref qa), (15, .ref qb), (16, .ref qc), (17, .ref qd), (20, .int (nI i))]) hx hb dL_law_1195 hl (k := 10) rfl (nI_1 _) (by decide) rfl (fun ls hl => ?_)
                          refine lv_goto (tgt := 1117) hx hb dL_law_1198 (by decide) ?_
                          exact ih1117 (u + 1) (by omega) (by omega) _ (lv_sub hl [1, 2, 3, 4, 5, 6, 7, 8, 9, 10, 0] rfl)
                      · skip
                        refine lv_aload_n hx hb dL_law_1124 rfl (lv_at hl 1 rfl) ?_
                        refine lv_iload hx hb dL_law_1125 (lv_at hl 10 rfl) ?_
                        refine z_rVi (v := z_shf G (z_day G D) u) [] hx hb hml hown hts (m_X2_shelfOf l Dg cI h na ta G (z_day G D) G1 D1 u (by omega) hG hWd) gL_law_X2_shelfOf rfl kd_X2_shelfOf ⟨Nat.le_of_ble_eq_true rfl, Nat.le_of_ble_eq_true rfl⟩ (q_KI hK) hN (z_Pl hP) rfl rfl rfl rfl hl.1 rfl (Nat.le_of_ble_eq_true rfl) dL_law_1127 ⟨by show _ ≤ 801385; omega, by show _ ≤ 6697312; omega⟩ ?_
                        refine z_top (x' := -1) (q_shf0 hpu) ?_
                        refine lv_if_lt (tgt := 1195) hx hb dL_law_1130 (by decide) (fun c1130 => ?_) (fun c1130 => absurd (by decide) c1130)
                        refine lv_iinc (v := nI (u + 1)) (lv' := [(22, .int (nI (u + 1))), (0, .ref b), (1, .ref h), (2, .ref (sa 0)), (3, .int (nI tm)), (7, .int (nI (z_tc G))), (14, .ref qa), (15, .ref qb), (16, .ref qc), (17, .ref qd), (20, .int (nI i))]) hx hb dL_law_1195 hl (k := 10) rfl (nI_1 _) (by decide) rfl (fun ls hl => ?_)
                        refine lv_goto (tgt := 1117) hx hb dL_law_1198 (by decide) ?_
                        exact ih1117 (u + 1) (by omega) (by omega) _ (lv_sub hl [1, 2, 3, 4, 5, 6, 7, 8, 9, 10, 0] rfl)
                exact lp1117 (z_tc G + 1) 0 (by omega) (by omega) _ (lv_sub hl [2, 3, 4, 5, 6, 7, 8, 9, 10, 11, 0] rfl)
          · skip
            refine lv_aload hx hb dL_law_965 (lv_at hl 7 rfl) ?_
            refine lv_iload hx hb dL_law_967 (lv_at hl 9 rfl) ?_
            refine q_zald hx hb hK hP 41 rfl (by omega) (by omega) dL_law_969 ?_
            refine z_top (x' := z_fi (fun _ => 0) (q_gn D) (z_tc G) i) rfl ?_
            refine z_top (x' := 0) ((q_fi_at hi2).trans (q_gn1 hp)) ?_
            refine lv_if_ne (tgt := 986) hx hb dL_law_970 (by decide) (fun c970 => absurd rfl c970) (fun c970 => ?_)
            refine lv_aload_n hx hb dL_law_973 rfl (lv_at hl 1 rfl) ?_
            refine lv_iload hx hb dL_law_974 (lv_at hl 9 rfl) ?_
            refine z_rVi (v := z_shf G (z_day G D) i) [] hx hb hml hown hts (m_X2_shelfOf l Dg cI h na ta G (z_day G D) G1 D1 i (by omega) hG hWd) gL_law_X2_shelfOf rfl kd_X2_shelfOf ⟨Nat.le_of_ble_eq_true rfl, Nat.le_of_ble_eq_true rfl⟩ (q_KI hK) hN (z_Pl hP) rfl rfl rfl rfl hl.1 rfl (Nat.le_of_ble_eq_true rfl) dL_law_976 ⟨by show _ ≤ 801385; omega, by show _ ≤ 6697312; omega⟩ ?_
            refine z_top (x' := -1) (q_shf0 (by omega)) ?_
            refine lv_if_ge (tgt := 986) hx hb dL_law_979 (by decide) (fun c979 => absurd c979 (by decide)) (fun c979 => ?_)
            refine lv_iconst (v := 1) hx hb dL_law_982 (by decide) ?_
            refine lv_goto (tgt := 987) hx hb dL_law_983 (by decide) ?_
            refine lv_istore (lv' := [(21, .int 1), (0, .ref b), (1, .ref h), (2, .ref (sa 0)), (3, .int (nI tm)), (7, .int (nI (z_tc G))), (14, .ref qa), (15, .ref qb), (16, .ref qc), (17, .ref qd), (20, .int (nI i))]) hx hb dL_law_987 hl (by decide) rfl (fun ls hl => ?_)
            refine lv_aload_n hx hb dL_law_989 rfl (lv_at hl 2 rfl) ?_
            refine lv_iload hx hb dL_law_990 (lv_at hl 10 rfl) ?_
            refine z_rVi (v := z_vc (z_day G D) i) [] hx hb hml hown hts (m_X2_vacuumOf l Dg cI h na ta G (z_day G D) G1 D1 i (by omega) hG hWd) gL_law_X2_vacuumOf rfl kd_X2_vacuumOf ⟨Nat.le_of_ble_eq_true rfl, Nat.le_of_ble_eq_true rfl⟩ (q_KI hK) hN (z_Pl hP) rfl rfl rfl rfl hl.1 rfl (Nat.le_of_ble_eq_true rfl) dL_law_992 ⟨by show _ ≤ 801385; omega, by show _ ≤ 6697312; omega⟩ ?_
            refine lv_iconst (v := 0) hx hb dL_law_995 (by decide) ?_
            refine lv_aload hx hb dL_law_996 (lv_at hl 6 rfl) ?_
            refine lv_iload hx hb dL_law_998 (lv_at hl 10 rfl) ?_
            refine z_iald hx hb hK hP 39 0 rfl rfl (by omega) (by omega) dL_law_1000 ?_
            refine z_top (x' := z_fi (fun _ => 0) (z_vc D) (z_tc G) i) rfl ?_
            refine z_top (x' := z_vc D i) (q_fi_at hi2) ?_
            refine lv_aload hx hb dL_law_1001 (lv_at hl 9 rfl) ?_
            refine lv_iload hx hb dL_law_1003 (lv_at hl 10 rfl) ?_
            refine z_iald hx hb hK hP 42 0 rfl rfl (by omega) (by omega) dL_law_1005 ?_
            refine z_top (x' := z_fi (fun _ => 0) (q_fr G D) (z_tc G) i) rfl ?_
            refine z_top (x' := z_rt G i (z_sh G i)) ((q_fi_at hi2).trans (q_fr1 hp)) ?_
            refine lv_isub hx hb dL_law_1006 ?_
            refine va_mmax (rest := [.int (z_vc (z_day G D) i)]) hx hb (hml.trans hl.1.symm) hown (hts _ (List.mem_append_left _ (List.mem_append_left _ (List.mem_append_left _ (List.mem_append_left _ (List.mem_append_left _ (List.mem_append_left _ (List.mem_append_left _ (List.mem_append_left _ (List.mem_append_left _ (List.mem_of_getElem? (i := 10) rfl))))))))))) (hts _ (List.mem_append_left _ (List.mem_append_left _ (List.mem_append_left _ (List.mem_append_left _ (List.mem_append_left _ (List.mem_append_left _ (List.mem_append_left _ (List.mem_append_left _ (List.mem_append_left _ (List.mem_of_getElem? (i := 11) rfl))))))))))) (hts _ (List.mem_append_left _ (List.mem_append_left _ (List.mem_append_left _ (List.mem_append_left _ (List.mem_append_left _ (List.mem_append_left _ (List.mem_append_left _ (List.mem_append_left _ (List.mem_append_left _ (List.mem_of_getElem? (i := 12) rfl))))))))))) (hts _ (List.mem_append_left _ (List.mem_append_left _ (List.mem_append_left _ (List.mem_append_left _ (List.mem_append_left _ (List.mem_append_left _ (List.mem_append_left _ (List.mem_append_left _ (List.mem_append_left _ (List.mem_of_getElem? (i := 13) rfl))))))))))) (by exact Nat.le_of_ble_eq_true rfl) (by exact Nat.le_of_ble_eq_true rfl) (by show _ ≤ 801385; omega) (by show _ ≤ 6697312; omega) dL_law_1007 ?_
            refine z_top (x' := z_vc (z_day G D) i) (by rw [hvc]; rfl) ?_
            refine lv_icmp_ne (tgt := 1095) hx hb dL_law_1010 (by decide) (fun c1010 => absurd rfl c1010) (fun c1010 => ?_)
            refine lv_aload hx hb dL_law_1013 (lv_at hl 8 rfl) ?_
            refine lv_iload hx hb dL_law_1015 (lv_at hl 10 rfl) ?_
            refine q_zald hx hb hK hP 41 rfl (by omega) (by omega) dL_law_1017 ?_
            refine z_top (x' := z_fi (fun _ => 0) (q_gn D) (z_tc G) i) rfl ?_
            refine z_top (x' := 0) ((q_fi_at hi2).trans (q_gn1 hp)) ?_
            refine lv_if_eq (tgt := 1030) hx hb dL_law_1018 (by decide) (fun c1018 => ?_) (fun c1018 => absurd rfl c1018)
            refine lv_aload hx hb dL_law_1030 (lv_at hl 8 rfl) ?_
            refine lv_iload hx hb dL_law_1032 (lv_at hl 10 rfl) ?_
            refine q_zald hx hb hK hP 41 rfl (by omega) (by omega) dL_law_1034 ?_
            refine z_top (x' := z_fi (fun _ => 0) (q_gn D) (z_tc G) i) rfl ?_
            refine z_top (x' := 0) ((q_fi_at hi2).trans (q_gn1 hp)) ?_
            refine lv_if_ne (tgt := 1069) hx hb dL_law_1035 (by decide) (fun c1035 => absurd rfl c1035) (fun c1035 => ?_)
            refine lv_aload hx hb dL_law_1038 (lv_at hl 7 rfl) ?_
            refine lv_iload hx hb dL_law_1040 (lv_at hl 10 rfl) ?_
            refine z_iald hx hb hK hP 40 0 rfl rfl (by omega) (by omega) dL_law_1042 ?_
            refine z_top (x' := z_fi (fun _ => 0) (z_dof G D) (z_tc G) i) rfl ?_
            refine z_top (x' := z_un G D i (z_sh G i)) ((q_fi_at hi2).trans (q_dof1 hp)) ?_
            refine lv_iconst (v := 1) hx hb dL_law_1043 (by decide) ?_
            refine lv_icmp_ne (tgt := 1051) hx hb dL_law_1044 (by decide) (fun c1044 => ?_) (fun c1044 => ?_)
            · skip
              refine lv_iconst (v := 0) hx hb dL_law_1051 (by decide) ?_
              refine lv_aload_n hx hb dL_law_1052 rfl (lv_at hl 2 rfl) ?_
              refine lv_iload hx hb dL_law_1053 (lv_at hl 10 rfl) ?_
              refine z_rVi (v := z_vc (z_day G D) i) [.int 0] hx hb hml hown hts (m_X2_vacuumOf l Dg cI h na ta G (z_day G D) G1 D1 i (by omega) hG hWd) gL_law_X2_vacuumOf rfl kd_X2_vacuumOf ⟨Nat.le_of_ble_eq_true rfl, Nat.le_of_ble_eq_true rfl⟩ (q_KI hK) hN (z_Pl hP) rfl rfl rfl rfl hl.1 rfl (Nat.le_of_ble_eq_true rfl) dL_law_1055 ⟨by show _ ≤ 801385; omega, by show _ ≤ 6697312; omega⟩ ?_
              refine lv_if_ne (tgt := 1065) hx hb dL_law_1058 (by decide) (fun c1058 => ?_) (fun c1058 => absurd c1058 (fun z => c1044 ((q_un1 hI hi2 hp).mpr (by rw [← hvc]; exact z))))
              refine lv_iconst (v := 0) hx hb dL_law_1065 (by decide) ?_
              refine lv_icmp_ne (tgt := 1095) hx hb dL_law_1066 (by decide) (fun c1066 => absurd rfl c1066) (fun c1066 => ?_)
              refine lv_aload hx hb dL_law_1069 (lv_at hl 8 rfl) ?_
              refine lv_iload hx hb dL_law_1071 (lv_at hl 10 rfl) ?_
              refine q_zald hx hb hK hP 41 rfl (by omega) (by omega) dL_law_1073 ?_
              refine z_top (x' := z_fi (fun _ => 0) (q_gn D) (z_tc G) i) rfl ?_
              refine z_top (x' := 0) ((q_fi_at hi2).trans (q_gn1 hp)) ?_
              refine lv_if_ne (tgt := 1097) hx hb dL_law_1074 (by decide) (fun c1074 => absurd rfl c1074) (fun c1074 => ?_)
              refine lv_aload_n hx hb dL_law_1077 rfl (lv_at hl 2 rfl) ?_
              refine lv_iload hx hb dL_law_1078 (lv_at hl 10 rfl) ?_
              refine z_rVi (v := z_vc (z_day G D) i) [] hx hb hml hown hts (m_X2_vacuumOf l Dg cI h na ta G (z_day G D) G1 D1 i (by omega) hG hWd) gL_law_X2_vacuumOf rfl kd_X2_vacuumOf ⟨Nat.le_of_ble_eq_true rfl, Nat.le_of_ble_eq_true rfl⟩ (q_KI hK) hN (z_Pl hP) rfl rfl rfl rfl hl.1 rfl (Nat.le_of_ble_eq_true rfl) dL_law_1080 ⟨by show _ ≤ 801385; omega, by show _ ≤ 6697312; omega⟩ ?_
              refine lv_if_ne (tgt := 1097) hx hb dL_law_1083 (by decide) (fun c1083 => ?_) (fun c1083 => ?_)
              · skip
                refine lv_iload hx hb dL_law_1097 (lv_at hl 0 rfl) ?_
                refine lv_if_eq (tgt := 1201) hx hb dL_law_1099 (by decide) (fun c1099 => absurd c1099 (by decide)) (fun c1099 => ?_)
                refine lv_aload_n hx hb dL_law_1102 rfl (lv_at hl 2 rfl) ?_
                refine lv_iload hx hb dL_law_1103 (lv_at hl 10 rfl) ?_
                refine z_rVi (v := z_bI (z_pl (z_day G D) i == 2)) [] hx hb hml hown hts (m_X2_isShipped l Dg cI h na ta G (z_day G D) G1 D1 i (by omega) hG hWd) gL_law_X2_isShipped rfl kd_X2_isShipped ⟨Nat.le_of_ble_eq_true rfl, Nat.le_of_ble_eq_true rfl⟩ (q_KI hK) hN (z_Pl hP) rfl rfl rfl rfl hl.1 rfl (Nat.le_of_ble_eq_true rfl) dL_law_1105 ⟨by show _ ≤ 801385; omega, by show _ ≤ 6697312; omega⟩ ?_
                refine z_top (x' := 0) (q_isn _ _ (by omega)) ?_
                refine lv_if_ne (tgt := 1114) hx hb dL_law_1108 (by decide) (fun c1108 => absurd rfl c1108) (fun c1108 => ?_)
                refine lv_goto (tgt := 1201) hx hb dL_law_1111 (by decide) ?_
                refine lv_iinc (v := nI (i + 1)) (lv' := [(20, .int (nI (i + 1))), (21, .int 1), (0, .ref b), (1, .ref h), (2, .ref (sa 0)), (3, .int (nI tm)), (7, .int (nI (z_tc G))), (14, .ref qa), (15, .ref qb), (16, .ref qc), (17, .ref qd)]) hx hb dL_law_1201 hl (k := 10) rfl (nI_1 _) (by decide) rfl (fun ls hl => ?_)
                refine lv_goto (tgt := 958) hx hb dL_law_1204 (by decide) ?_
                exact ih958 (i + 1) (by omega) (by omega) _ (lv_sub hl [2, 3, 4, 5, 6, 7, 8, 9, 10, 0] rfl)
              · skip
                refine lv_aload_n hx hb dL_law_1086 rfl (lv_at hl 2 rfl) ?_
                refine lv_iload hx hb dL_law_1087 (lv_at hl 10 rfl) ?_
                refine z_rVi (v := z_bI (z_pl (z_day G D) i == 3)) [] hx hb hml hown hts (m_X2_isLost l Dg cI h na ta G (z_day G D) G1 D1 i (by omega) hG hWd) gL_law_X2_isLost rfl kd_X2_isLost ⟨Nat.le_of_ble_eq_true rfl, Nat.le_of_ble_eq_true rfl⟩ (q_KI hK) hN (z_Pl hP) rfl rfl rfl rfl hl.1 rfl (Nat.le_of_ble_eq_true rfl) dL_law_1089 ⟨by show _ ≤ 801385; omega, by show _ ≤ 6697312; omega⟩ ?_
                refine z_top (x' := 1) (q_is _ _ (q_gone hI hi2 hp c1083)) ?_
                refine lv_if_ne (tgt := 1097) hx hb dL_law_1092 (by decide) (fun c1092 => ?_) (fun c1092 => absurd c1092 (by decide))
                refine lv_iload hx hb dL_law_1097 (lv_at hl 0 rfl) ?_
                refine lv_if_eq (tgt := 1201) hx hb dL_law_1099 (by decide) (fun c1099 => absurd c1099 (by decide)) (fun c1099 => ?_)
                refine lv_aload_n hx hb dL_law_1102 rfl (lv_at hl 2 rfl) ?_
                refine lv_iload hx hb dL_law_1103 (lv_at hl 10 rfl) ?_
                refine z_rVi (v := z_bI (z_pl (z_day G D) i == 2)) [] hx hb hml hown hts (m_X2_isShipped l Dg cI h na ta G (z_day G D) G1 D1 i (by omega) hG hWd) gL_law_X2_isShipped rfl kd_X2_isShipped ⟨Nat.le_of_ble_eq_true rfl, Nat.le_of_ble_eq_true rfl⟩ (q_KI hK) hN (z_Pl hP) rfl rfl rfl rfl hl.1 rfl (Nat.le_of_ble_eq_true rfl) dL_law_1105 ⟨by show _ ≤ 801385; omega, by show _ ≤ 6697312; omega⟩ ?_
                refine z_top (x' := 0) (q_isn _ _ (by omega)) ?_
                refine lv_if_ne (tgt := 1114) hx hb dL_law_1108 (by decide) (fun c1108 => absurd rfl c1108) (fun c1108 => ?_)
                refine lv_goto (tgt := 1201) hx hb dL_law_1111 (by decide) ?_
                refine lv_iinc (v := nI (i + 1)) (lv' := [(20, .int (nI (i + 1))), (21, .int 1), (0, .ref b), (1, .ref h), (2, .ref (sa 0)), (3, .int (nI tm)), (7, .int (nI (z_tc G))), (14, .ref qa), (15, .ref qb), (16, .ref qc), (17, .ref qd)]) hx hb dL_law_1201 hl (k := 10) rfl (nI_1 _) (by decide) rfl (fun ls hl => ?_)
                refine lv_goto (tgt := 958) hx hb dL_law_1204 (by decide) ?_
                exact ih958 (i + 1) (by omega) (by omega) _ (lv_sub hl [2, 3, 4, 5, 6, 7, 8, 9, 10, 0] rfl)
            · skip
              refine lv_iconst (v := 1) hx hb dL_law_1047 (by decide) ?_
              refine lv_goto (tgt := 1052) hx hb dL_law_1048 (by decide) ?_
              refine lv_aload_n hx hb dL_law_1052 rfl (lv_at hl 2 rfl) ?_
              refine lv_iload hx hb dL_law_1053 (lv_at hl 10 rfl) ?_
              refine z_rVi (v := z_vc (z_day G D) i) [.int 1] hx hb hml hown hts (m_X2_vacuumOf l Dg cI h na ta G (z_day G D) G1 D1 i (by omega) hG hWd) gL_law_X2_vacuumOf rfl kd_X2_vacuumOf ⟨Nat.le_of_ble_eq_true rfl, Nat.le_of_ble_eq_true rfl⟩ (q_KI hK) hN (z_Pl hP) rfl rfl rfl rfl hl.1 rfl (Nat.le_of_ble_eq_true rfl) dL_law_1055 ⟨by show _ ≤ 801385; omega, by show _ ≤ 6697312; omega⟩ ?_
              refine lv_if_ne (tgt := 1065) hx hb dL_law_1058 (by decide) (fun c1058 => absurd (by rw [hvc]; exact (q_un1 hI hi2 hp).mp c1044) c1058) (fun c1058 => ?_)
              refine lv_iconst (v := 1) hx hb dL_law_1061 (by decide) ?_
              refine lv_goto (tgt := 1066) hx hb dL_law_1062 (by decide) ?_
              refine lv_icmp_ne (tgt := 1095) hx hb dL_law_1066 (by decide) (fun c1066 => absurd rfl c1066) (fun c1066 => ?_)
              refine lv_aload hx hb dL_law_1069 (lv_at hl 8 rfl) ?_
              refine lv_iload hx hb dL_law_1071 (lv_at hl 10 rfl) ?_
              refine q_zald hx hb hK hP 41 rfl (by omega) (by omega) dL_law_1073 ?_
              refine z_top (x' := z_fi (fun _ => 0) (q_gn D) (z_tc G) i) rfl ?_
              refine z_top (x' := 0) ((q_fi_at hi2).trans (q_gn1 hp)) ?_
              refine lv_if_ne (tgt := 1097) hx hb dL_law_1074 (by decide) (fun c1074 => absurd rfl c1074) (fun c1074 => ?_)
              refine lv_aload_n hx hb dL_law_1077 rfl (lv_at hl 2 rfl) ?_
              refine lv_iload hx hb dL_law_1078 (lv_at hl 10 rfl) ?_
              refine z_rVi (v := z_vc (z_day G D) i) [] hx hb hml hown hts (m_X2_vacuumOf l Dg cI h na ta G (z_day G D) G1 D1 i (by omega) hG hWd) gL_law_X2_vacuumOf rfl kd_X2_vacuumOf ⟨Nat.le_of_ble_eq_true rfl, Nat.le_of_ble_eq_true rfl⟩ (q_KI hK) hN (z_Pl hP) rfl rfl rfl rfl hl.1 rfl (Nat.le_of_ble_eq_true rfl) dL_law_1080 ⟨by show _ ≤ 801385; omega, by show _ ≤ 6697312; omega⟩ ?_
              refine lv_if_ne (tgt := 1097) hx hb dL_law_1083 (by decide) (fun c1083 => ?_) (fun c1083 => ?_)
              · skip
                refine lv_iload hx hb dL_law_1097 (lv_at hl 0 rfl) ?_
                refine lv_if_eq (tgt := 1201) hx hb dL_law_1099 (by decide) (fun c1099 => absurd c1099 (by decide)) (fun c1099 => ?_)
                refine lv_aload_n hx hb dL_law_1102 rfl (lv_at hl 2 rfl) ?_
                refine lv_iload hx hb dL_law_1103 (lv_at hl 10 rfl) ?_
                refine z_rVi (v := z_bI (z_pl (z_day G D) i == 2)) [] hx hb hml hown hts (m_X2_isShipped l Dg cI h na ta G (z_day G D) G1 D1 i (by omega) hG hWd) gL_law_X2_isShipped rfl kd_X2_isShipped ⟨Nat.le_of_ble_eq_true rfl, Nat.le_of_ble_eq_true rfl⟩ (q_KI hK) hN (z_Pl hP) rfl rfl rfl rfl hl.1 rfl (Nat.le_of_ble_eq_true rfl) dL_law_1105 ⟨by show _ ≤ 801385; omega, by show _ ≤ 6697312; omega⟩ ?_
                refine z_top (x' := 0) (q_isn _ _ (by omega)) ?_
                refine lv_if_ne (tgt := 1114) hx hb dL_law_1108 (by decide) (fun c1108 => absurd rfl c1108) (fun c1108 => ?_)
                refine lv_goto (tgt := 1201) hx hb dL_law_1111 (by decide) ?_
                refine lv_iinc (v := nI (i + 1)) (lv' := [(20, .int (nI (i + 1))), (21, .int 1), (0, .ref b), (1, .ref h), (2, .ref (sa 0)), (3, .int (nI tm)), (7, .int (nI (z_tc G))), (14, .ref qa), (15, .ref qb), (16, .ref qc), (17, .ref qd)]) hx hb dL_law_1201 hl (k := 10) rfl (nI_1 _) (by decide) rfl (fun ls hl => ?_)
                refine lv_goto (tgt := 958) hx hb dL_law_1204 (by decide) ?_
                exact ih958 (i + 1) (by omega) (by omega) _ (lv_sub hl [2, 3, 4, 5, 6, 7, 8, 9, 10, 0] rfl)
              · skip
                refine lv_aload_n hx hb dL_law_1086 rfl (lv_at hl 2 rfl) ?_
                refine lv_iload hx hb dL_law_1087 (lv_at hl 10 rfl) ?_
                refine z_rVi (v := z_bI (z_pl (z_day G D) i == 3)) [] hx hb hml hown hts (m_X2_isLost l Dg cI h na ta G (z_day G D) G1 D1 i (by omega) hG hWd) gL_law_X2_isLost rfl kd_X2_isLost ⟨Nat.le_of_ble_eq_true rfl, Nat.le_of_ble_eq_true rfl⟩ (q_KI hK) hN (z_Pl hP) rfl rfl rfl rfl hl.1 rfl (Nat.le_of_ble_eq_true rfl) dL_law_1089 ⟨by show _ ≤ 801385; omega, by show _ ≤ 6697312; omega⟩ ?_
                refine z_top (x' := 1) (q_is _ _ (q_gone hI hi2 hp c1083)) ?_
                refine lv_if_ne (tgt := 1097) hx hb dL_law_1092 (by decide) (fun c1092 => ?_) (fun c1092 => absurd c1092 (by decide))
                refine lv_iload hx hb dL_law_1097 (lv_at hl 0 rfl) ?_
                refine lv_if_eq (tgt := 1201) hx hb dL_law_1099 (by decide) (fun c1099 => absurd c1099 (by decide)) (fun c1099 => ?_)
                refine lv_aload_n hx hb dL_law_1102 rfl (lv_at hl 2 rfl) ?_
                refine lv_iload hx hb dL_law_1103 (lv_at hl 10 rfl) ?_
                refine z_rVi (v := z_bI (z_pl (z_day G D) i == 2)) [] hx hb hml hown hts (m_X2_isShipped l Dg cI h na ta G (z_day G D) G1 D1 i (by omega) hG hWd) gL_law_X2_isShipped rfl kd_X2_isShipped ⟨Nat.le_of_ble_eq_true rfl, Nat.le_of_ble_eq_true rfl⟩ (q_KI hK) hN (z_Pl hP) rfl rfl rfl rfl hl.1 rfl (Nat.le_of_ble_eq_true rfl) dL_law_1105 ⟨by show _ ≤ 801385; omega, by show _ ≤ 6697312; omega⟩ ?_
                refine z_top (x' := 0) (q_isn _ _ (by omega)) ?_
                refine lv_if_ne (tgt := 1114) hx hb dL_law_1108 (by decide) (fun c1108 => absurd rfl c1108) (fun c1108 => ?_)
                refine lv_goto (tgt := 1201) hx hb dL_law_1111 (by decide) ?_
                refine lv_iinc (v := nI (i + 1)) (lv' := [(20, .int (nI (i + 1))), (21, .int 1), (0, .ref b), (1, .ref h), (2, .ref (sa 0)), (3, .int (nI tm)), (7, .int (nI (z_tc G))), (14, .ref qa), (15, .ref qb), (16, .ref qc), (17, .ref qd)]) hx hb dL_law_1201 hl (k := 10) rfl (nI_1 _) (by decide) rfl (fun ls hl => ?_)
                refine lv_goto (tgt := 958) hx hb dL_law_1204 (by decide) ?_
                exact ih958 (i + 1) (by omega) (by omega) _ (lv_sub hl [2, 3, 4, 5, 6, 7, 8, 9, 10, 0] rfl)
        · skip
          have hd : z_pl (z_day G D) i = z_pl D i := q_day_keep hi2 hp
          have hvc : z_vc (z_day G D) i = z_vc D i := by rw [q_day_vc hi2, if_neg hp]
          refine lv_aload hx hb dL_law_965 (lv_at hl 7 rfl) ?_
          refine lv_iload hx hb dL_law_967 (lv_at hl 9 rfl) ?_
          refine q_zald hx hb hK hP 41 rfl (by omega) (by omega) dL_law_969 ?_
          refine z_top (x' := z_fi (fun _ => 0) (q_gn D) (z_tc G) i) rfl ?_
          refine z_top (x' := 1) ((q_fi_at hi2).trans (q_gn0 hp)) ?_
          refine lv_if_ne (tgt := 986) hx hb dL_law_970 (by decide) (fun c970 => ?_) (fun c970 => absurd c970 (by decide))
          refine lv_iconst (v := 0) hx hb dL_law_986 (by decide) ?_
          refine lv_istore (lv' := [(21, .int 0), (0, .ref b), (1, .ref h), (2, .ref (sa 0)), (3, .int (nI tm)), (7, .int (nI (z_tc G))), (14, .ref qa), (15, .ref qb), (16, .ref qc), (17, .ref qd), (20, .int (nI i))]) hx hb dL_law_987 hl (by decide) rfl (fun ls hl => ?_)
          refine lv_aload_n hx hb dL_law_989 rfl (lv_at hl 2 rfl) ?_
          refine lv_iload hx hb dL_law_990 (lv_at hl 10 rfl) ?_
          refine z_rVi (v := z_vc (z_day G D) i) [] hx hb hml hown hts (m_X2_vacuumOf l Dg cI h na ta G (z_day G D) G1 D1 i (by omega) hG hWd) gL_law_X2_vacuumOf rfl kd_X2_vacuumOf ⟨Nat.le_of_ble_eq_true rfl, Nat.le_of_ble_eq_true rfl⟩ (q_KI hK) hN (z_Pl hP) rfl rfl rfl rfl hl.1 rfl (Nat.le_of_ble_eq_true rfl) dL_law_992 ⟨by show _ ≤ 801385; omega, by show _ ≤ 6697312; omega⟩ ?_
          refine lv_iconst (v := 0) hx hb dL_law_995 (by decide) ?_
          refine lv_aload hx hb dL_law_996 (lv_at hl 6 rfl) ?_
          refine lv_iload hx hb dL_law_998 (lv_at hl 10 rfl) ?_
          refine z_iald hx hb hK hP 39 0 rfl rfl (by omega) (by omega) dL_law_1000 ?_
          refine z_top (x' := z_fi (fun _ => 0) (z_vc D) (z_tc G) i) rfl ?_
          refine z_top (x' := z_vc D i) (q_fi_at hi2) ?_
          refine lv_aload hx hb dL_law_1001 (lv_at hl 9 rfl) ?_
          refine lv_iload hx hb dL_law_1003 (lv_at hl 10 rfl) ?_
          refine z_iald hx hb hK hP 42 0 rfl rfl (by omega) (by omega) dL_law_1005 ?_
          refine z_top (x' := z_fi (fun _ => 0) (q_fr G D) (z_tc G) i) rfl ?_
          refine z_top (x' := 0) ((q_fi_at hi2).trans (q_fr0 hp)) ?_
          refine lv_isub hx hb dL_law_1006 ?_
          refine va_mmax (rest := [.int (z_vc (z_day G D) i)]) hx hb (hml.trans hl.1.symm) hown (hts _ (List.mem_append_left _ (List.mem_append_left _ (List.mem_append_left _ (List.mem_append_left _ (List.mem_append_left _ (List.mem_append_left _ (List.mem_append_left _ (List.mem_append_left _ (List.mem_append_left _ (List.mem_of_getElem? (i := 10) rfl))))))))))) (hts _ (List.mem_append_left _ (List.mem_append_left _ (List.mem_append_left _ (List.mem_append_left _ (List.mem_append_left _ (List.mem_append_left _ (List.mem_append_left _ (List.mem_append_left _ (List.mem_append_left _ (List.mem_of_getElem? (i := 11) rfl))))))))))) (hts _ (List.mem_append_left _ (List.mem_append_left _ (List.mem_append_left _ (List.mem_append_left _ (List.mem_append_left _ (List.mem_append_left _ (List.mem_append_left _ (List.mem_append_left _ (List.mem_append_left _ (List.mem_of_getElem? (i := 12) rfl))))))))))) (hts _ (List.mem_append_left _ (List.mem_append_left _ (List.mem_append_left _ (List.mem_append_left _ (List.mem_append_left _ (List.mem_append_left _ (List.mem_append_left _ (List.mem_append_left _ (List.mem_append_left _ (List.mem_of_getElem? (i := 13) rfl))))))))))) (by exact Nat.le_of_ble_eq_true rfl) (by exact Nat.le_of_ble_eq_true rfl) (by show _ ≤ 801385; omega) (by show _ ≤ 6697312; omega) dL_law_1007 ?_
          refine z_top (x' := z_vc (z_day G D) i) (by rw [hvc]; exact q_mx0 hvi) ?_
          refine lv_icmp_ne (tgt := 1095) hx hb dL_law_1010 (by decide) (fun c1010 => absurd rfl c1010) (fun c1010 => ?_)
          refine lv_aload hx hb dL_law_1013 (lv_at hl 8 rfl) ?_
          refine lv_iload hx hb dL_law_1015 (lv_at hl 10 rfl) ?_
          refine q_zald hx hb hK hP 41 rfl (by omega) (by omega) dL_law_1017 ?_
          refine z_top (x' := z_fi (fun _ => 0) (q_gn D) (z_tc G) i) rfl ?_
          refine z_top (x' := 1) ((q_fi_at hi2).trans (q_gn0 hp)) ?_
          refine lv_if_eq (tgt := 1030) hx hb dL_law_1018 (by decide) (fun c1018 => absurd c1018 (by decide)) (fun c1018 => ?_)
          refine lv_aload_n hx hb dL_law_1021 rfl (lv_at hl 2 rfl) ?_
          refine lv_iload hx hb dL_law_1022 (lv_at hl 10 rfl) ?_
          refine z_rVi (v := z_shf G (z_day G D) i) [] hx hb hml hown hts (m_X2_shelfOf l Dg cI h na ta G (z_day G D) G1 D1 i (by omega) hG hWd) gL_law_X2_shelfOf rfl kd_X2_shelfOf ⟨Nat.le_of_ble_eq_true rfl, Nat.le_of_ble_eq_true rfl⟩ (q_KI hK) hN (z_Pl hP) rfl rfl rfl rfl hl.1 rfl (Nat.le_of_ble_eq_true rfl) dL_law_1024 ⟨by show _ ≤ 801385; omega, by show _ ≤ 6697312; omega⟩ ?_
          refine z_top (x' := -1) (q_shf0 (by omega)) ?_
          refine lv_if_ge (tgt := 1095) hx hb dL_law_1027 (by decide) (fun c1027 => absurd c1027 (by decide)) (fun c1027 => ?_)
          refine lv_aload hx hb dL_law_1030 (lv_at hl 8 rfl) ?_
          refine lv_iload hx hb dL_law_1032 (lv_at hl 10 rfl) ?_
          refine q_zald hx hb hK hP 41 rfl (by omega) (by omega) dL_law_1034 ?_
          refine z_top (x' := z_fi (fun _ => 0) (q_gn D) (z_tc G) i) rfl ?_
          refine z_top (x' := 1) ((q_fi_at hi2).trans (q_gn0 hp)) ?_
          refine lv_if_ne (tgt := 1069) hx hb dL_law_1035 (by decide) (fun c1035 => ?_) (fun c1035 => absurd c1035 (by decide))
          refine lv_aload hx hb dL_law_1069 (lv_at hl 8 rfl) ?_
          refine lv_iload hx hb dL_law_1071 (lv_at hl 10 rfl) ?_
          refine q_zald hx hb hK hP 41 rfl (by omega) (by omega) dL_law_1073 ?_
          refine z_top (x' := z_fi (fun _ => 0) (q_gn D) (z_tc G) i) rfl ?_
          refine z_top (x' := 1) ((q_fi_at hi2).trans (q_gn0 hp)) ?_
          refine lv_if_ne (tgt := 1097) hx hb dL_law_1074 (by decide) (fun c1074 => ?_) (fun c1074 => absurd c1074 (by decide))
          refine lv_iload hx hb dL_law_1097 (lv_at hl 0 rfl) ?_
          refine lv_if_eq (tgt := 1201) hx hb dL_law_1099 (by decide) (fun c1099 => ?_) (fun c1099 => absurd rfl c1099)
          refine lv_iinc (v := nI (i + 1)) (lv' := [(20, .int (nI (i + 1))), (21, .int 0), (0, .ref b), (1, .ref h), (2, .ref (sa 0)), (3, .int (nI tm)), (7, .int (nI (z_tc G))), (14, .ref qa), (15, .ref qb), (16, .ref qc), (17, .ref qd)]) hx hb dL_law_1201 hl (k := 10) rfl (nI_1 _) (by decide) rfl (fun ls hl => ?_)
          refine lv_goto (tgt := 958) hx hb dL_law_1204 (by decide) ?_
          exact ih958 (i + 1) (by omega) (by omega) _ (lv_sub hl [2, 3, 4, 5, 6, 7, 8, 9, 10, 0] rfl)
  exact lp958 (z_tc G + 1) 0 (by omega) (by omega) _ (lv_sub hl [1, 2, 3, 4, 5, 6, 7, 8, 9, 0] rfl)
