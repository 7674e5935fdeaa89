theorem kd_X2_digest : yX2_digest.cls = RX2 ∧ yX2_digest.cls ≠ "java/lang/invoke/MethodHandle" ∧ yX2_digest.cls ≠ "java/lang/invoke/VarHandle" ∧ (parseMethodDescriptor yX2_digest.desc).map (fun d => d.parameters.length) = some 0 := by decide +kernel
set_option maxHeartbeats 40000000 in
set_option maxRecDepth 100000 in
theorem m_law_T1 {p : Program} {l : Launch} {e : Env} {s : State} {m : MethodId} {below : List Frame} {meth : Method} {c : Code} {b Ls : Nat} {xs : Nat → Int32} {Dg : va_G} {cI cR cZ : ClassId} (C0 : q_CL p l s m meth c b Ls xs Dg cI cR cZ) {Q : State → Prop} {h : Nat} {na ta : Nat → Nat} {sa rb rt : Nat → Nat} {G : z_GG} {D : z_DD} (hI : q_I G D) (x : Int32) (tm : Nat) (c0 s0 : Nat) (hc : c0 ≤ 700000) (hs : s0 ≤ 6000000)  (K : q_Go p l e s m below meth c b Q Dg cI cR h na ta sa rb rt G D [] 247 (c0 + 3) (s0 + 180) [(0, .ref b), (1, .ref h), (2, .ref (sa 0)), (3, .int (nI tm)), (4, .int x), (5, .long (z_dg G D)), (7, .int (nI (z_tc G))), (8, .int (nI (z_cn G D 1))), (9, .int 0)]) : q_Go p l e s m below meth c b Q Dg cI cR h na ta sa rb rt G D [] 81 c0 s0 [(0, .ref b), (1, .ref h), (2, .ref (sa 0)), (3, .int (nI tm)), (4, .int x)] := by
  obtain ⟨hx, hb, hr, hml, hown, hts, hXs, hbl, hlk, hK, hN, hJ, hE, hTA, hL, hst⟩ := C0
  obtain ⟨hG, hW, hB, hV, h5, h6, h7, h8, h9, h10⟩ := id hI
  have htc : z_tc G ≤ 60 := hG.2.2.2.2.2.1
  have hbc : z_bc G ≤ 6 := hG.2.2.2.2.1
  have hsd : z_sd G ≤ 9 := hG.2.2.2.2.2.2.1
  have hod : z_od G ≤ 2 := hG.2.2.2.2.2.2.2
  have hcn1 := q_cn_le (G := G) (D := D) 1
  have hcn2 := q_cn_le (G := G) (D := D) 2
  have hcn3 := q_cn_le (G := G) (D := D) 3
  have hbA : ¬ s.heap.size ≤ b := Nat.not_le.mpr hbl
  have hA : ∀ q : Nat, s.heap.size ≤ q → (fun q => s.heap.size ≤ q) q := fun _ z => z
  intro G1 D1 H locs ls hP hD hS hl
  have hP : va_P Dg vwCl (z_cW cI h na ta G D G1 D1 ++ q_W cI cR sa rb rt G D) H := hP
  have hD : va_D _ (z_cW cI h na ta G D G1 D1 ++ q_W cI cR sa rb rt G D) := hD
  refine lv_aload_n hx hb dL_law_81 rfl (lv_at hl 1 rfl) ?_
  refine z_wCBl (v := z_dg G D) [] [] (q_W cI cR sa rb rt G D) hx hb hml hown hts (m_X2_digest l Dg cI h na ta G D G1 D1 hG hW) gL_law_X2_digest rfl kd_X2_digest ⟨Nat.le_of_ble_eq_true rfl, Nat.le_of_ble_eq_true rfl⟩ (q_KI hK) hN hP hD hS rfl hl.1 rfl (Nat.le_of_ble_eq_true rfl) dL_law_82 ⟨by show _ ≤ 801385; omega, by show _ ≤ 6697312; omega⟩ (fun G82 D82 H locs hP hD hS => ?_)
  have hP : va_P Dg vwCl (z_cW cI h na ta G D G82 D82 ++ q_W cI cR sa rb rt G D) H := hP
  have hD : va_D _ (z_cW cI h na ta G D G82 D82 ++ q_W cI cR sa rb rt G D) := hD
  refine lv_lstore (lv' := [(5, .long (z_dg G D)), (0, .ref b), (1, .ref h), (2, .ref (sa 0)), (3, .int (nI tm)), (4, .int x)]) hx hb dL_law_85 hl (by decide) rfl (fun ls hl => ?_)
  refine lv_aload_n hx hb dL_law_87 rfl (lv_at hl 2 rfl) ?_
  refine z_rVi (v := nI (z_tc G)) [] hx hb hml hown hts (m_X2_tins l Dg cI h na ta G D G82 D82 hG hW) gL_law_X2_tins rfl kd_X2_tins ⟨Nat.le_of_ble_eq_true rfl, Nat.le_of_ble_eq_true rfl⟩ (q_KI hK) hN (z_Pl hP) rfl rfl rfl rfl hl.1 rfl (Nat.le_of_ble_eq_true rfl) dL_law_88 ⟨by show _ ≤ 801385; omega, by show _ ≤ 6697312; omega⟩ ?_
  refine lv_istore (lv' := [(7, .int (nI (z_tc G))), (5, .long (z_dg G D)), (0, .ref b), (1, .ref h), (2, .ref (sa 0)), (3, .int (nI tm)), (4, .int x)]) hx hb dL_law_91 hl (by decide) rfl (fun ls hl => ?_)
  refine lv_aload_n hx hb dL_law_93 rfl (lv_at hl 3 rfl) ?_
  refine z_rVi (v := nI (z_cn G D 1)) [] hx hb hml hown hts (m_X2_inCellar l Dg cI h na ta G D G82 D82 hG hW) gL_law_X2_inCellar rfl kd_X2_inCellar ⟨Nat.le_of_ble_eq_true rfl, Nat.le_of_ble_eq_true rfl⟩ (q_KI hK) hN (z_Pl hP) rfl rfl rfl rfl hl.1 rfl (Nat.le_of_ble_eq_true rfl) dL_law_94 ⟨by show _ ≤ 801385; omega, by show _ ≤ 6697312; omega⟩ ?_
  refine lv_istore (lv' := [(8, .int (nI (z_cn G D 1))), (7, .int (nI (z_tc G))), (5, .long (z_dg G D)), (0, .ref b), (1, .ref h), (2, .ref (sa 0)), (3, .int (nI tm)), (4, .int x)]) hx hb dL_law_97 hl (by decide) rfl (fun ls hl => ?_)
  refine lv_iconst (v := 0) hx hb dL_law_99 (by decide) ?_
  refine lv_istore (lv' := [(9, .int 0), (8, .int (nI (z_cn G D 1))), (7, .int (nI (z_tc G))), (5, .long (z_dg G D)), (0, .ref b), (1, .ref h), (2, .ref (sa 0)), (3, .int (nI tm)), (4, .int x)]) hx hb dL_law_100 hl (by decide) rfl (fun ls hl => ?_)
  refine lv_iconst (v := nI 0) hx hb dL_law_102 (by decide) ?_
  refine lv_istore (lv' := [(10, .int (nI 0)), (9, .int 0), (8, .int (nI (z_cn G D 1))), (7, .int (nI (z_tc G))), (5, .long (z_dg G D)), (0, .ref b), (1, .ref h), (2, .ref (sa 0)), (3, .int (nI tm)), (4, .int x)]) hx hb dL_law_103 hl (by decide) rfl (fun ls hl => ?_)
  have lp105 : ∀ (zz i : Nat) , i ≤ 3 → 3 + 1 ≤ i + zz → ∀ (H : Heap) (locs : List Loc), va_P Dg vwCl (z_cW cI h na ta G D G82 D82 ++ q_W cI cR sa rb rt G D) H → va_D (fun q => s.heap.size ≤ q) (z_cW cI h na ta G D G82 D82 ++ q_W cI cR sa rb rt G D) → va_S (fun q => s.heap.size ≤ q) s.heap H locs → ∀ ls : Array Slot, lv_has ls 23 [(0, .ref b), (1, .ref h), (2, .ref (sa 0)), (3, .int (nI tm)), (4, .int x), (5, .long (z_dg G D)), (7, .int (nI (z_tc G))), (8, .int (nI (z_cn G D 1))), (9, .int 0), (10, .int (nI i))] → W p l e room_1 s m ([Value.ref b] : List Value).toArray below meth c H locs (c0 + i) (s0 + 60 * i) Q (F0 m 105 ls []) := by
    intro zz
    induction zz with
    | zero => intros; exfalso; omega
    | succ zz ih105 =>
      intro i hi hzz H locs hP hD hS ls hl
      refine lv_iload hx hb dL_law_105 (lv_at hl 9 rfl) ?_
      refine lv_iconst (v := nI 3) hx hb dL_law_107 (by decide) ?_
      refine lv_icmp_ge (tgt := 247) hx hb dL_law_108 (by decide) (fun c108 => ?_) (fun c108 => ?_)
      · skip
        have h9x : i = 3 := Nat.le_antisymm hi (z_le (by omega) (by omega) c108)
        subst h9x
        exact K G82 D82 _ _ _ hP hD hS (lv_sub hl [0, 1, 2, 3, 4, 5, 6, 7, 8] rfl)
      · skip
        have hi105 : i < 3 := z_nle (by omega) c108
        refine lv_iload hx hb dL_law_111 (lv_at hl 7 rfl) ?_
        refine q_newz hx hb (hts _ (List.mem_append_left _ (List.mem_append_left _ (List.mem_append_left _ (List.mem_append_left _ (List.mem_append_left _ (List.mem_append_left _ (List.mem_append_left _ (List.mem_append_left _ (List.mem_append_left _ (List.mem_of_getElem? (i := 3) rfl))))))))))) hK hP hD hS hA rfl (by omega) (by show _ ≤ 801385; omega) (by show _ ≤ 6697312; omega) dL_law_113 (fun q1 H hP hD hS => ?_)
        have hP := q_mvP (c := z_cW cI h na ta G D G82 D82) (e := []) (s := q_W cI cR sa rb rt G D) hP
        have hD := q_mvD (c := z_cW cI h na ta G D G82 D82) (e := []) (s := q_W cI cR sa rb rt G D) hD
        have hP : va_P Dg vwCl (z_cW cI h na ta G D G82 D82 ++ ([(q1, .inl (cZ, (z_cn G D 1), .inl (fun _ => 0)))] ++ q_W cI cR sa rb rt G D)) H := hP
        have hD : va_D _ (z_cW cI h na ta G D G82 D82 ++ ([(q1, .inl (cZ, (z_cn G D 1), .inl (fun _ => 0)))] ++ q_W cI cR sa rb rt G D)) := hD
        refine lv_astore (lv' := [(11, .ref q1), (0, .ref b), (1, .ref h), (2, .ref (sa 0)), (3, .int (nI tm)), (4, .int x), (5, .long (z_dg G D)), (7, .int (nI (z_tc G))), (8, .int (nI (z_cn G D 1))), (9, .int 0), (10, .int (nI i))]) hx hb dL_law_115 hl (by decide) rfl (fun ls hl => ?_)
        refine lv_iconst (v := nI 0) hx hb dL_law_117 (by decide) ?_
        refine lv_istore (lv' := [(12, .int (nI 0)), (11, .ref q1), (0, .ref b), (1, .ref h), (2, .ref (sa 0)), (3, .int (nI tm)), (4, .int x), (5, .long (z_dg G D)), (7, .int (nI (z_tc G))), (8, .int (nI (z_cn G D 1))), (9, .int 0), (10, .int (nI i))]) hx hb dL_law_118 hl (by decide) rfl (fun ls hl => ?_)
        have hP : va_P Dg vwCl (z_cW cI h na ta G D G82 D82 ++ ([(q1, .inl (cZ, (z_cn G D 1), .inl (fun j9 => z_bI (q_ws G D i 0 j9))))] ++ q_W cI cR sa rb rt G D)) H := hP
        have hD : va_D _ (z_cW cI h na ta G D G82 D82 ++ ([(q1, .inl (cZ, (z_cn G D 1), .inl (fun j9 => z_bI (q_ws G D i 0 j9))))] ++ q_W cI cR sa rb rt G D)) := hD
        have lp120 : ∀ (zz t : Nat) , t ≤ z_tc G → z_tc G + 1 ≤ t + zz → ∀ (H : Heap) (locs : List Loc), va_P Dg vwCl (z_cW cI h na ta G D G82 D82 ++ ([(q1, .inl (cZ, (z_cn G D 1), .inl (fun j9 => z_bI (q_ws G D i t j9))))] ++ q_W cI cR sa rb rt G D)) H → va_D (fun q => s.heap.size ≤ q) (z_cW cI h na ta G D G82 D82 ++ ([(q1, .inl (cZ, (z_cn G D 1), .inl (fun j9 => z_bI (q_ws G D i t j9))))] ++ q_W cI cR sa rb rt G D)) → va_S (fun q => s.heap.size ≤ q) s.heap H locs → ∀ ls : Array Slot, lv_has ls 23 [(0, .ref b), (1, .ref h), (2, .ref (sa 0)), (3, .int (nI tm)), (4, .int x), (5, .long (z_dg G D)), (7, .int (nI (z_tc G))), (8, .int (nI (z_cn G D 1))), (9, .int 0), (10, .int (nI i)), (11, .ref q1), (12, .int (nI t))] → W p l e room_1 s m ([Value.ref b] : List Value).toArray below meth c H locs (c0 + i + 1) (s0 + 60 * i + z_cn G D 1) Q (F0 m 120 ls []) := by
          intro zz
          induction zz with
          | zero => intros; exfalso; omega
          | succ zz ih120 =>
            intro t hi hzz H locs hP hD hS ls hl
            refine lv_iload hx hb dL_law_120 (lv_at hl 11 rfl) ?_
            refine lv_iload hx hb dL_law_122 (lv_at hl 6 rfl) ?_
            refine lv_icmp_ge (tgt := 241) hx hb dL_law_124 (by decide) (fun c124 => ?_) (fun c124 => ?_)
            · skip
              have h9x : t = z_tc G := Nat.le_antisymm hi (z_le (by omega) (by omega) c124)
              subst h9x
              have hP := q_drP (c := z_cW cI h na ta G D G82 D82) (e := [(q1, .inl (cZ, (z_cn G D 1), .inl (fun j9 => z_bI (q_ws G D i (z_tc G) j9))))]) (s := q_W cI cR sa rb rt G D) hP
              have hD := q_drD (c := z_cW cI h na ta G D G82 D82) (e := [(q1, .inl (cZ, (z_cn G D 1), .inl (fun j9 => z_bI (q_ws G D i (z_tc G) j9))))]) (s := q_W cI cR sa rb rt G D) hD
              refine W.widen (k := c0 + (i + 1)) (n := s0 + 60 * (i + 1)) (by omega) (by omega) ?_
              refine lv_iinc (v := nI (i + 1)) (lv' := [(10, .int (nI (i + 1))), (0, .ref b), (1, .ref h), (2, .ref (sa 0)), (3, .int (nI tm)), (4, .int x), (5, .long (z_dg G D)), (7, .int (nI (z_tc G))), (8, .int (nI (z_cn G D 1))), (9, .int 0), (11, .ref q1), (12, .int (nI (z_tc G)))]) hx hb dL_law_241 hl (k := 9) rfl (nI_1 _) (by decide) rfl (fun ls hl => ?_)
              refine lv_goto (tgt := 105) hx hb dL_law_244 (by decide) ?_
              exact ih105 (i + 1) (by omega) (by omega) _ _ hP hD hS _ (lv_sub hl [1, 2, 3, 4, 5, 6, 7, 8, 9, 0] rfl)
            · skip
              have ht2 : t < z_tc G := z_nle (by omega) c124
              by_cases hp : z_pl D t = 1
              · skip
                have hah := q_ah_lt (G := G) (D := D) (o := i) ht2 hp
                have hsh := hG.2.2.2.1 t
                refine lv_aload_n hx hb dL_law_127 rfl (lv_at hl 1 rfl) ?_
                refine lv_iload hx hb dL_law_128 (lv_at hl 11 rfl) ?_
                refine lv_iload hx hb dL_law_130 (lv_at hl 9 rfl) ?_
                refine z_rVi (v := z_plb G D i t) [] hx hb hml hown hts (m_X2_placeBy l Dg cI h na ta G D G82 D82 t i (by omega) (by omega) hG hW) gL_law_X2_placeBy rfl kd_X2_placeBy ⟨Nat.le_of_ble_eq_true rfl, Nat.le_of_ble_eq_true rfl⟩ (q_KI hK) hN (z_Pl hP) rfl rfl rfl rfl hl.1 rfl (Nat.le_of_ble_eq_true rfl) dL_law_132 ⟨by show _ ≤ 801385; omega, by show _ ≤ 6697312; omega⟩ ?_
                refine z_top (x' := nI (z_ah G D i t)) (q_plb1 hp) ?_
                refine lv_istore (lv' := [(13, .int (nI (z_ah G D i t))), (0, .ref b), (1, .ref h), (2, .ref (sa 0)), (3, .int (nI tm)), (4, .int x), (5, .long (z_dg G D)), (7, .int (nI (z_tc G))), (8, .int (nI (z_cn G D 1))), (9, .int 0), (10, .int (nI i)), (11, .ref q1), (12, .int (nI t))]) hx hb dL_law_135 hl (by decide) rfl (fun ls hl => ?_)
                refine lv_aload_n hx hb dL_law_137 rfl (lv_at hl 2 rfl) ?_
                refine lv_iload hx hb dL_law_138 (lv_at hl 12 rfl) ?_
                refine z_rVi (v := z_shf G D t) [] hx hb hml hown hts (m_X2_shelfOf l Dg cI h na ta G D G82 D82 t (by omega) hG hW) gL_law_X2_shelfOf rfl kd_X2_shelfOf ⟨Nat.le_of_ble_eq_true rfl, Nat.le_of_ble_eq_true rfl⟩ (q_KI hK) hN (z_Pl hP) rfl rfl rfl rfl hl.1 rfl (Nat.le_of_ble_eq_true rfl) dL_law_140 ⟨by show _ ≤ 801385; omega, by show _ ≤ 6697312; omega⟩ ?_
                refine z_top (x' := nI (z_sh G t)) (q_shf1 hp) ?_
                refine lv_if_lt (tgt := 150) hx hb dL_law_143 (by decide) (fun c143 => absurd c143 (nI_pos (by omega))) (fun c143 => ?_)
                refine lv_iconst (v := 1) hx hb dL_law_146 (by decide) ?_
                refine lv_goto (tgt := 151) hx hb dL_law_147 (by decide) ?_
                refine lv_istore (lv' := [(14, .int 1), (13, .int (nI (z_ah G D i t))), (0, .ref b), (1, .ref h), (2, .ref (sa 0)), (3, .int (nI tm)), (4, .int x), (5, .long (z_dg G D)), (7, .int (nI (z_tc G))), (8, .int (nI (z_cn G D 1))), (9, .int 0), (10, .int (nI i)), (11, .ref q1), (12, .int (nI t))]) hx hb dL_law_151 hl (by decide) rfl (fun ls hl => ?_)
                refine lv_iload hx hb dL_law_153 (lv_at hl 0 rfl) ?_
                refine lv_iload hx hb dL_law_155 (lv_at hl 1 rfl) ?_
                refine lv_if_lt (tgt := 164) hx hb dL_law_157 (by decide) (fun c157 => absurd c157 (nI_pos (by omega))) (fun c157 => ?_)
                refine lv_iconst (v := 1) hx hb dL_law_160 (by decide) ?_
                refine lv_goto (tgt := 165) hx hb dL_law_161 (by decide) ?_
                refine lv_icmp_ne (tgt := 222) hx hb dL_law_165 (by decide) (fun c165 => absurd rfl c165) (fun c165 => ?_)
                refine lv_iload hx hb dL_law_168 (lv_at hl 1 rfl) ?_
                refine lv_iload hx hb dL_law_170 (lv_at hl 9 rfl) ?_
                refine lv_icmp_ge (tgt := 222) hx hb dL_law_172 (by decide) (fun c172 => absurd c172 (fun z => absurd (z_le (by omega) (by omega) z) (by omega))) (fun c172 => ?_)
                refine lv_iload hx hb dL_law_175 (lv_at hl 0 rfl) ?_
                refine lv_if_eq (tgt := 188) hx hb dL_law_177 (by decide) (fun c177 => absurd c177 (by decide)) (fun c177 => ?_)
                refine lv_aload hx hb dL_law_180 (lv_at hl 12 rfl) ?_
                refine lv_iload hx hb dL_law_182 (lv_at hl 1 rfl) ?_
                refine q_zald hx hb hK hP 39 rfl (by omega) (by omega) dL_law_184 ?_
                refine z_top (x' := (fun j9 => z_bI (q_ws G D i t j9)) (z_ah G D i t)) rfl ?_
                refine lv_if_ne (tgt := 222) hx hb dL_law_185 (by decide) (fun c185 => absurd (by show z_bI (q_ws G D i t (z_ah G D i t)) = 0; rw [q_ws_f (o := i) hI (by omega) ht2 hp]; rfl) c185) (fun c185 => ?_)
                refine lv_iload hx hb dL_law_188 (lv_at hl 0 rfl) ?_
                refine lv_if_eq (tgt := 224) hx hb dL_law_190 (by decide) (fun c190 => absurd c190 (by decide)) (fun c190 => ?_)
                refine lv_iload hx hb dL_law_193 (lv_at hl 1 rfl) ?_
                refine lv_if_ne (tgt := 202) hx hb dL_law_195 (by decide) (fun c195 => ?_) (fun c195 => ?_)
                · skip
                  refine lv_iconst (v := 0) hx hb dL_law_202 (by decide) ?_
                  refine lv_aload_n hx hb dL_law_203 rfl (lv_at hl 3 rfl) ?_
                  refine lv_iload hx hb dL_law_204 (lv_at hl 11 rfl) ?_
                  refine z_rVi (v := z_oi (z_fb G D i (z_tc G))) [.int 0] hx hb hml hown hts (m_X2_first l Dg cI h na ta G D G82 D82 i (by omega) hG hW) gL_law_X2_first rfl kd_X2_first ⟨Nat.le_of_ble_eq_true rfl, Nat.le_of_ble_eq_true rfl⟩ (q_KI hK) hN (z_Pl hP) rfl rfl rfl rfl hl.1 rfl (Nat.le_of_ble_eq_true rfl) dL_law_206 ⟨by show _ ≤ 801385; omega, by show _ ≤ 6697312; omega⟩ ?_
                  refine lv_iload hx hb dL_law_209 (lv_at hl 13 rfl) ?_
                  refine lv_icmp_ne (tgt := 218) hx hb dL_law_211 (by decide) (fun c211 => ?_) (fun c211 => absurd c211 (fun z => c195 (by rw [(q_first hI (by omega) ht2 hp).mpr z]; rfl)))
                  refine lv_iconst (v := 0) hx hb dL_law_218 (by decide) ?_
                  refine lv_icmp_eq (tgt := 224) hx hb dL_law_219 (by decide) (fun c219 => ?_) (fun c219 => absurd rfl c219)
                  refine lv_iload hx hb dL_law_224 (lv_at hl 0 rfl) ?_
                  refine lv_if_eq (tgt := 235) hx hb dL_law_226 (by decide) (fun c226 => absurd c226 (by decide)) (fun c226 => ?_)
                  refine lv_aload hx hb dL_law_229 (lv_at hl 12 rfl) ?_
                  refine lv_iload hx hb dL_law_231 (lv_at hl 1 rfl) ?_
                  refine lv_iconst (v := z_bI true) hx hb dL_law_233 (by decide) ?_
                  refine q_zast (x := true) hx hb hK hP hD hS 39 rfl (by omega) (by omega) dL_law_234 (fun H locs hP hD hS => ?_)
                  have hP : va_P Dg vwCl (z_cW cI h na ta G D G82 D82 ++ ([(q1, .inl (cZ, (z_cn G D 1), .inl (upd (fun j9 => z_bI (q_ws G D i t j9)) (z_ah G D i t) (z_bI true))))] ++ q_W cI cR sa rb rt G D)) H := hP
                  have hD : va_D _ (z_cW cI h na ta G D G82 D82 ++ ([(q1, .inl (cZ, (z_cn G D 1), .inl (upd (fun j9 => z_bI (q_ws G D i t j9)) (z_ah G D i t) (z_bI true))))] ++ q_W cI cR sa rb rt G D)) := hD
                  refine lv_iinc (v := nI (t + 1)) (lv' := [(12, .int (nI (t + 1))), (14, .int 1), (13, .int (nI (z_ah G D i t))), (0, .ref b), (1, .ref h), (2, .ref (sa 0)), (3, .int (nI tm)), (4, .int x), (5, .long (z_dg G D)), (7, .int (nI (z_tc G))), (8, .int (nI (z_cn G D 1))), (9, .int 0), (10, .int (nI i)), (11, .ref q1)]) hx hb dL_law_235 hl (k := 13) rfl (nI_1 _) (by decide) rfl (fun ls hl => ?_)
                  refine lv_goto (tgt := 120) hx hb dL_law_238 (by decide) ?_
                  rw [z_upB, q_ws_s hp] at hP hD
                  have hP : va_P Dg vwCl (z_cW cI h na ta G D G82 D82 ++ ([(q1, .inl (cZ, (z_cn G D 1), .inl (fun j9 => z_bI (q_ws G D i (t + 1) j9))))] ++ q_W cI cR sa rb rt G D)) H := hP
                  have hD : va_D _ (z_cW cI h na ta G D G82 D82 ++ ([(q1, .inl (cZ, (z_cn G D 1), .inl (fun j9 => z_bI (q_ws G D i (t + 1) j9))))] ++ q_W cI cR sa rb rt G D)) := hD
                  exact ih120 (t + 1) (by omega) (by omega) _ _ hP hD hS _ (lv_sub hl [3, 4, 5, 6, 7, 8, 9, 10, 11, 12, 13, 0] rfl)
                · skip
                  refine lv_iconst (v := 1) hx hb dL_law_198 (by decide) ?_
                  refine lv_goto (tgt := 203) hx hb dL_law_199 (by decide) ?_
                  refine lv_aload_n hx hb dL_law_203 rfl (lv_at hl 3 rfl) ?_
                  refine lv_iload hx hb dL_law_204 (lv_at hl 11 rfl) ?_
                  refine z_rVi (v := z_oi (z_fb G D i (z_tc G))) [.int 1] hx hb hml hown hts (m_X2_first l Dg cI h na ta G D G82 D82 i (by omega) hG hW) gL_law_X2_first rfl kd_X2_first ⟨Nat.le_of_ble_eq_true rfl, Nat.le_of_ble_eq_true rfl⟩ (q_KI hK) hN (z_Pl hP) rfl rfl rfl rfl hl.1 rfl (Nat.le_of_ble_eq_true rfl) dL_law_206 ⟨by show _ ≤ 801385; omega, by show _ ≤ 6697312; omega⟩ ?_
                  refine lv_iload hx hb dL_law_209 (lv_at hl 13 rfl) ?_
                  refine lv_icmp_ne (tgt := 218) hx hb dL_law_211 (by decide) (fun c211 => absurd ((q_first hI (by omega) ht2 hp).mp (z_eq (b := 0) (by omega) (by decide) c195)) c211) (fun c211 => ?_)
                  refine lv_iconst (v := 1) hx hb dL_law_214 (by decide) ?_
                  refine lv_goto (tgt := 219) hx hb dL_law_215 (by decide) ?_
                  refine lv_icmp_eq (tgt := 224) hx hb dL_law_219 (by decide) (fun c219 => ?_) (fun c219 => absurd rfl c219)
                  refine lv_iload hx hb dL_law_224 (lv_at hl 0 rfl) ?_
                  refine lv_if_eq (tgt := 235) hx hb dL_law_226 (by decide) (fun c226 => absurd c226 (by decide)) (fun c226 => ?_)
                  refine lv_aload hx hb dL_law_229 (lv_at hl 12 rfl) ?_
                  refine lv_iload hx hb dL_law_231 (lv_at hl 1 rfl) ?_
                  refine lv_iconst (v := z_bI true) hx hb dL_law_233 (by decide) ?_
                  refine q_zast (x := true) hx hb hK hP hD hS 39 rfl (by omega) (by omega) dL_law_234 (fun H locs hP hD hS => ?_)
                  have hP : va_P Dg vwCl (z_cW cI h na ta G D G82 D82 ++ ([(q1, .inl (cZ, (z_cn G D 1), .inl (upd (fun j9 => z_bI (q_ws G D i t j9)) (z_ah G D i t) (z_bI true))))] ++ q_W cI cR sa rb rt G D)) H := hP
                  have hD : va_D _ (z_cW cI h na ta G D G82 D82 ++ ([(q1, .inl (cZ, (z_cn G D 1), .inl (upd (fun j9 => z_bI (q_ws G D i t j9)) (z_ah G D i t) (z_bI true))))] ++ q_W cI cR sa rb rt G D)) := hD
                  refine lv_iinc (v := nI (t + 1)) (lv' := [(12, .int (nI (t + 1))), (14, .int 1), (13, .int (nI (z_ah G D i t))), (0, .ref b), (1, .ref h), (2, .ref (sa 0)), (3, .int (nI tm)), (4, .int x), (5, .long (z_dg G D)), (7, .int (nI (z_tc G))), (8, .int (nI (z_cn G D 1))), (9, .int 0), (10, .int (nI i)), (11, .ref q1)]) hx hb dL_law_235 hl (k := 13) rfl (nI_1 _) (by decide) rfl (fun ls hl => ?_)
                  refine lv_goto (tgt := 120) hx hb dL_law_238 (by decide) ?_
                  rw [z_upB, q_ws_s hp] at hP hD
                  have hP : va_P Dg vwCl (z_cW cI h na ta G D G82 D82 ++ ([(q1, .inl (cZ, (z_cn G D 1), .inl (fun j9 => z_bI (q_ws G D i (t + 1) j9))))] ++ q_W cI cR sa rb rt G D)) H := hP
                  have hD : va_D _ (z_cW cI h na ta G D G82 D82 ++ ([(q1, .inl (cZ, (z_cn G D 1), .inl (fun j9 => z_bI (q_ws G D i (t + 1) j9))))] ++ q_W cI cR sa rb rt G D)) := hD
                  exact ih120 (t + 1) (by omega) (by omega) _ _ hP hD hS _ (lv_sub hl [3, 4, 5, 6, 7, 8, 9, 10, 11, 12, 13, 0] rfl)
              · skip
                refine lv_aload_n hx hb dL_law_127 rfl (lv_at hl 1 rfl) ?_
                refine lv_iload hx hb dL_law_128 (lv_at hl 11 rfl) ?_
                refine lv_iload hx hb dL_law_130 (lv_at hl 9 rfl) ?_
                refine z_rVi (v := z_plb G D i t) [] hx hb hml hown hts (m_X2_placeBy l Dg cI h na ta G D G82 D82 t i (by omega) (by omega) hG hW) gL_law_X2_placeBy rfl kd_X2_placeBy ⟨Nat.le_of_ble_eq_true rfl, Nat.le_of_ble_eq_true rfl⟩ (q_KI hK) hN (z_Pl hP) rfl rfl rfl rfl hl.1 rfl (Nat.le_of_ble_eq_true rfl) dL_law_132 ⟨by show _ ≤ 801385; omega, by show _ ≤ 6697312; omega⟩ ?_
                refine z_top (x' := -1) (q_plb0 hp) ?_
                refine lv_istore (lv' := [(13, .int (-1)), (0, .ref b), (1, .ref h), (2, .ref (sa 0)), (3, .int (nI tm)), (4, .int x), (5, .long (z_dg G D)), (7, .int (nI (z_tc G))), (8, .int (nI (z_cn G D 1))), (9, .int 0), (10, .int (nI i)), (11, .ref q1), (12, .int (nI t))]) hx hb dL_law_135 hl (by decide) rfl (fun ls hl => ?_)
                refine lv_aload_n hx hb dL_law_137 rfl (lv_at hl 2 rfl) ?_
                refine lv_iload hx hb dL_law_138 (lv_at hl 12 rfl) ?_
                refine z_rVi (v := z_shf G D t) [] hx hb hml hown hts (m_X2_shelfOf l Dg cI h na ta G D G82 D82 t (by omega) hG hW) gL_law_X2_shelfOf rfl kd_X2_shelfOf ⟨Nat.le_of_ble_eq_true rfl, Nat.le_of_ble_eq_true rfl⟩ (q_KI hK) hN (z_Pl hP) rfl rfl rfl rfl hl.1 rfl (Nat.le_of_ble_eq_true rfl) dL_law_140 ⟨by show _ ≤ 801385; omega, by show _ ≤ 6697312; omega⟩ ?_
                refine z_top (x' := -1) (q_shf0 hp) ?_
                refine lv_if_lt (tgt := 150) hx hb dL_law_143 (by decide) (fun c143 => ?_) (fun c143 => absurd (by decide) c143)
                refine lv_iconst (v := 0) hx hb dL_law_150 (by decide) ?_
                refine lv_istore (lv' := [(14, .int 0), (13, .int (-1)), (0, .ref b), (1, .ref h), (2, .ref (sa 0)), (3, .int (nI tm)), (4, .int x), (5, .long (z_dg G D)), (7, .int (nI (z_tc G))), (8, .int (nI (z_cn G D 1))), (9, .int 0), (10, .int (nI i)), (11, .ref q1), (12, .int (nI t))]) hx hb dL_law_151 hl (by decide) rfl (fun ls hl => ?_)
                refine lv_iload hx hb dL_law_153 (lv_at hl 0 rfl) ?_
                refine lv_iload hx hb dL_law_155 (lv_at hl 1 rfl) ?_
                refine lv_if_lt (tgt := 164) hx hb dL_law_157 (by decide) (fun c157 => ?_) (fun c157 => absurd (by decide) c157)
                refine lv_iconst (v := 0) hx hb dL_law_164 (by decide) ?_
                refine lv_icmp_ne (tgt := 222) hx hb dL_law_165 (by decide) (fun c165 => absurd rfl c165) (fun c165 => ?_)
                refine lv_iload hx hb dL_law_168 (lv_at hl 1 rfl) ?_
                refine lv_iload hx hb dL_law_170 (lv_at hl 9 rfl) ?_
                refine lv_icmp_ge (tgt := 222) hx hb dL_law_172 (by decide) (fun c172 => absurd c172 (q_nm (by omega))) (fun c172 => ?_)
                refine lv_iload hx hb dL_law_175 (lv_at hl 0 rfl) ?_
                refine lv_if_eq (tgt := 188) hx hb dL_law_177 (by decide) (fun c177 => ?_) (fun c177 => absurd rfl c177)
                refine lv_iload hx hb dL_law_188 (lv_at hl 0 rfl) ?_
                refine lv_if_eq (tgt := 224) hx hb dL_law_190 (by decide) (fun c190 => ?_) (fun c190 => absurd rfl c190)
                refine lv_iload hx hb dL_law_224 (lv_at hl 0 rfl) ?_
                refine lv_if_eq (tgt := 235) hx hb dL_law_226 (by decide) (fun c226 => ?_) (fun c226 => absurd rfl c226)
                refine lv_iinc (v := nI (t + 1)) (lv' := [(12, .int (nI (t + 1))), (14, .int 0), (13, .int (-1)), (0, .ref b), (1, .ref h), (2, .ref (sa 0)), (3, .int (nI tm)), (4, .int x), (5, .long (z_dg G D)), (7, .int (nI (z_tc G))), (8, .int (nI (z_cn G D 1))), (9, .int 0), (10, .int (nI i)), (11, .ref q1)]) hx hb dL_law_235 hl (k := 13) rfl (nI_1 _) (by decide) rfl (fun ls hl => ?_)
                refine lv_goto (tgt := 120) hx hb dL_law_238 (by decide) ?_
                rw [q_ws_n hp] at hP hD
                have hP : va_P Dg vwCl (z_cW cI h na ta G D G82 D82 ++ ([(q1, .inl (cZ, (z_cn G D 1), .inl (fun j9 => z_bI (q_ws G D i (t + 1) j9))))] ++ q_W cI cR sa rb rt G D)) H := hP
                have hD : va_D _ (z_cW cI h na ta G D G82 D82 ++ ([(q1, .inl (cZ, (z_cn G D 1), .inl (fun j9 => z_bI (q_ws G D i (t + 1) j9))))] ++ q_W cI cR sa rb rt G D)) := hD
                exact ih120 (t + 1) (by omega) (by omega) _ _ hP hD hS _ (lv_sub hl [3, 4, 5, 6, 7, 8, 9, 10, 11, 12, 13, 0] rfl)
        exact lp120 (z_tc G + 1) 0 (by omega) (by omega) _ _ hP hD hS _ (lv_sub hl [2, 3, 4, 5, 6, 7, 8, 9, 10, 11, 1, 0] rfl)
  exact lp105 (3 + 1) 0 (by omega) (by omega) _ _ hP hD hS _ (lv_sub hl [5, 6, 7, 8, 9, 4, 3, 2, 1, 0] rfl)
