theorem kd_X3_bringBack : yX3_bringBack.cls = RX3 ∧ yX3_bringBack.cls ≠ "java/lang/invoke/MethodHandle" ∧ yX3_bringBack.cls ≠ "java/lang/invoke/VarHandle" ∧ (parseMethodDescriptor yX3_bringBack.desc).map (fun d => d.parameters.length) = some 0 := by decide +kernel
theorem kd_X3_count : yX3_count.cls = RX3 ∧ yX3_count.cls ≠ "java/lang/invoke/MethodHandle" ∧ yX3_count.cls ≠ "java/lang/invoke/VarHandle" ∧ (parseMethodDescriptor yX3_count.desc).map (fun d => d.parameters.length) = some 1 := by decide +kernel
theorem kd_X3_dayOn : yX3_dayOn.cls = RX3 ∧ yX3_dayOn.cls ≠ "java/lang/invoke/MethodHandle" ∧ yX3_dayOn.cls ≠ "java/lang/invoke/VarHandle" ∧ (parseMethodDescriptor yX3_dayOn.desc).map (fun d => d.parameters.length) = some 0 := by decide +kernel
theorem kd_X3_daysOn : yX3_daysOn.cls = RX3 ∧ yX3_daysOn.cls ≠ "java/lang/invoke/MethodHandle" ∧ yX3_daysOn.cls ≠ "java/lang/invoke/VarHandle" ∧ (parseMethodDescriptor yX3_daysOn.desc).map (fun d => d.parameters.length) = some 1 := by decide +kernel
theorem kd_X3_firstBy : yX3_firstBy.cls = RX3 ∧ yX3_firstBy.cls ≠ "java/lang/invoke/MethodHandle" ∧ yX3_firstBy.cls ≠ "java/lang/invoke/VarHandle" ∧ (parseMethodDescriptor yX3_firstBy.desc).map (fun d => d.parameters.length) = some 1 := by decide +kernel
theorem kd_X3_isHere : yX3_isHere.cls = RX3 ∧ yX3_isHere.cls ≠ "java/lang/invoke/MethodHandle" ∧ yX3_isHere.cls ≠ "java/lang/invoke/VarHandle" ∧ (parseMethodDescriptor yX3_isHere.desc).map (fun d => d.parameters.length) = some 1 := by decide +kernel
theorem kdS_X3_isIn : yX3_isIn.cls ≠ "java/lang/invoke/MethodHandle" ∧ yX3_isIn.cls ≠ "java/lang/invoke/VarHandle" ∧ (parseMethodDescriptor yX3_isIn.desc).map (fun d => d.parameters.length) = some 3 := by decide +kernel
theorem kd_X3_keep : yX3_keep.cls = RX3 ∧ yX3_keep.cls ≠ "java/lang/invoke/MethodHandle" ∧ yX3_keep.cls ≠ "java/lang/invoke/VarHandle" ∧ (parseMethodDescriptor yX3_keep.desc).map (fun d => d.parameters.length) = some 0 := by decide +kernel
theorem kd_X3_key : yX3_key.cls = RX3 ∧ yX3_key.cls ≠ "java/lang/invoke/MethodHandle" ∧ yX3_key.cls ≠ "java/lang/invoke/VarHandle" ∧ (parseMethodDescriptor yX3_key.desc).map (fun d => d.parameters.length) = some 2 := by decide +kernel
theorem kd_X3_leak : yX3_leak.cls = RX3 ∧ yX3_leak.cls ≠ "java/lang/invoke/MethodHandle" ∧ yX3_leak.cls ≠ "java/lang/invoke/VarHandle" ∧ (parseMethodDescriptor yX3_leak.desc).map (fun d => d.parameters.length) = some 1 := by decide +kernel
theorem kd_X3_lostBehind : yX3_lostBehind.cls = RX3 ∧ yX3_lostBehind.cls ≠ "java/lang/invoke/MethodHandle" ∧ yX3_lostBehind.cls ≠ "java/lang/invoke/VarHandle" ∧ (parseMethodDescriptor yX3_lostBehind.desc).map (fun d => d.parameters.length) = some 2 := by decide +kernel
theorem kd_X3_rate : yX3_rate.cls = RX3 ∧ yX3_rate.cls ≠ "java/lang/invoke/MethodHandle" ∧ yX3_rate.cls ≠ "java/lang/invoke/VarHandle" ∧ (parseMethodDescriptor yX3_rate.desc).map (fun d => d.parameters.length) = some 2 := by decide +kernel
theorem kd_X3_takeBack : yX3_takeBack.cls = RX3 ∧ yX3_takeBack.cls ≠ "java/lang/invoke/MethodHandle" ∧ yX3_takeBack.cls ≠ "java/lang/invoke/VarHandle" ∧ (parseMethodDescriptor yX3_takeBack.desc).map (fun d => d.parameters.length) = some 1 := by decide +kernel
theorem kd_X3_until : yX3_until.cls = RX3 ∧ yX3_until.cls ≠ "java/lang/invoke/MethodHandle" ∧ yX3_until.cls ≠ "java/lang/invoke/VarHandle" ∧ (parseMethodDescriptor yX3_until.desc).map (fun d => d.parameters.length) = some 2 := by decide +kernel
set_option maxHeartbeats 4000000 in
set_option maxRecDepth 100000 in
theorem m_X3_isIn_t (l : Launch) (Dg : va_G) (cI : ClassId) (x_ lo_ hi_ : Int32) (h1 : lo_ ≤ x_) (h2 : x_ ≤ hi_) : z_Mr l yX3_isIn wsX3_isIn 0 0 [.int x_, .int lo_, .int hi_] Dg cI ([] : va_W) (some (.int 1)) := by
  refine z_sr (own := RX3) (l0 := [(0, .int x_), (1, .int lo_), (2, .int hi_)]) rfl rfl (by decide) (Nat.le_of_ble_eq_true rfl) rfl ?_
  intro p e s m below meth c hx hb hr hml hts hown hlk hP hK hN ls hl
  refine lv_iload_n hx hb dX3_isIn_0 rfl (lv_at hl 0 rfl) ?_
  refine lv_iload_n hx hb dX3_isIn_1 rfl (lv_at hl 1 rfl) ?_
  refine lv_icmp_lt (tgt := 14) hx hb dX3_isIn_2 (by decide) (fun c2 => absurd c2 (z_i32_nlt h1)) (fun c2 => ?_)
  refine lv_iload_n hx hb dX3_isIn_5 rfl (lv_at hl 0 rfl) ?_
  refine lv_iload_n hx hb dX3_isIn_6 rfl (lv_at hl 2 rfl) ?_
  refine lv_icmp_gt (tgt := 14) hx hb dX3_isIn_7 (by decide) (fun c7 => absurd c7 (z_i32_nlt h2)) (fun c7 => ?_)
  refine lv_iconst (v := 1) hx hb dX3_isIn_10 (by decide) ?_
  refine lv_goto (tgt := 15) hx hb dX3_isIn_11 (by decide) ?_
  exact z_er_z (b := true) rfl hx hb hr hlk dX3_isIn_15

set_option maxHeartbeats 4000000 in
set_option maxRecDepth 100000 in
theorem m_X3_isIn_f (l : Launch) (Dg : va_G) (cI : ClassId) (x_ lo_ hi_ : Int32) (h1 : ¬ (lo_ ≤ x_ ∧ x_ ≤ hi_)) : z_Mr l yX3_isIn wsX3_isIn 0 0 [.int x_, .int lo_, .int hi_] Dg cI ([] : va_W) (some (.int 0)) := by
  refine z_sr (own := RX3) (l0 := [(0, .int x_), (1, .int lo_), (2, .int hi_)]) rfl rfl (by decide) (Nat.le_of_ble_eq_true rfl) rfl ?_
  intro p e s m below meth c hx hb hr hml hts hown hlk hP hK hN ls hl
  refine lv_iload_n hx hb dX3_isIn_0 rfl (lv_at hl 0 rfl) ?_
  refine lv_iload_n hx hb dX3_isIn_1 rfl (lv_at hl 1 rfl) ?_
  refine lv_icmp_lt (tgt := 14) hx hb dX3_isIn_2 (by decide) (fun c2 => ?_) (fun c2 => ?_)
  · skip
    refine lv_iconst (v := 0) hx hb dX3_isIn_14 (by decide) ?_
    exact z_er_z (b := false) rfl hx hb hr hlk dX3_isIn_15
  · skip
    refine lv_iload_n hx hb dX3_isIn_5 rfl (lv_at hl 0 rfl) ?_
    refine lv_iload_n hx hb dX3_isIn_6 rfl (lv_at hl 2 rfl) ?_
    refine lv_icmp_gt (tgt := 14) hx hb dX3_isIn_7 (by decide) (fun c7 => ?_) (fun c7 => ?_)
    · skip
      refine lv_iconst (v := 0) hx hb dX3_isIn_14 (by decide) ?_
      exact z_er_z (b := false) rfl hx hb hr hlk dX3_isIn_15
    · skip
      exact absurd ⟨z_i32_le c2, z_i32_le c7⟩ h1

set_option maxHeartbeats 4000000 in
set_option maxRecDepth 100000 in
theorem m_X3_isShelf_t (l : Launch) (Dg : va_G) (cI : ClassId) (k_ : Nat) (hk : k_ < 4) : z_Mr l yX3_isShelf wsX3_isShelf 1 22 [.int (nI k_)] Dg cI ([] : va_W) (some (.int 1)) := by
  refine z_sr (own := RX3) (l0 := [(0, .int (nI k_))]) rfl rfl (by decide) (Nat.le_of_ble_eq_true rfl) rfl ?_
  intro p e s m below meth c hx hb hr hml hts hown hlk hP hK hN ls hl
  refine lv_iload_n hx hb dX3_isShelf_0 rfl (lv_at hl 0 rfl) ?_
  refine lv_iconst (v := nI 0) hx hb dX3_isShelf_1 (by decide) ?_
  refine lv_iconst (v := nI 3) hx hb dX3_isShelf_2 (by decide) ?_
  refine z_rSi (v := 1) [] hx hb hml hown hts (m_X3_isIn_t l Dg cI (nI k_) (nI 0) (nI 3) (nI_le (Nat.zero_le _) (by omega)) (nI_le (by omega) (by decide))) gX3_isShelf_X3_isIn rfl kdS_X3_isIn ⟨Nat.le_of_ble_eq_true rfl, Nat.le_of_ble_eq_true rfl⟩ hK hN z_P0 rfl hl.1 rfl (Nat.le_of_ble_eq_true rfl) dX3_isShelf_3 ⟨Nat.zero_le _, Nat.zero_le _⟩ ?_
  exact z_er_z (b := true) rfl hx hb hr hlk dX3_isShelf_6

set_option maxHeartbeats 4000000 in
set_option maxRecDepth 100000 in
theorem m_X3_isShelf_f (l : Launch) (Dg : va_G) (cI : ClassId) (x_ : Int32) (hk : ¬ (0 ≤ x_ ∧ x_ ≤ 3)) : z_Mr l yX3_isShelf wsX3_isShelf 1 22 [.int x_] Dg cI ([] : va_W) (some (.int 0)) := by
  refine z_sr (own := RX3) (l0 := [(0, .int x_)]) rfl rfl (by decide) (Nat.le_of_ble_eq_true rfl) rfl ?_
  intro p e s m below meth c hx hb hr hml hts hown hlk hP hK hN ls hl
  refine lv_iload_n hx hb dX3_isShelf_0 rfl (lv_at hl 0 rfl) ?_
  refine lv_iconst (v := 0) hx hb dX3_isShelf_1 (by decide) ?_
  refine lv_iconst (v := 3) hx hb dX3_isShelf_2 (by decide) ?_
  refine z_rSi (v := 0) [] hx hb hml hown hts (m_X3_isIn_f l Dg cI x_ 0 3 hk) gX3_isShelf_X3_isIn rfl kdS_X3_isIn ⟨Nat.le_of_ble_eq_true rfl, Nat.le_of_ble_eq_true rfl⟩ hK hN z_P0 rfl hl.1 rfl (Nat.le_of_ble_eq_true rfl) dX3_isShelf_3 ⟨Nat.zero_le _, Nat.zero_le _⟩ ?_
  exact z_er_z (b := false) rfl hx hb hr hlk dX3_isShelf_6

set_option maxHeartbeats 4000000 in
set_option maxRecDepth 100000 in
theorem m_X3_isOrder_t (l : Launch) (Dg : va_G) (cI : ClassId) (k_ : Nat) (hk : k_ < 3) : z_Mr l yX3_isOrder wsX3_isOrder 1 22 [.int (nI k_)] Dg cI ([] : va_W) (some (.int 1)) := by
  refine z_sr (own := RX3) (l0 := [(0, .int (nI k_))]) rfl rfl (by decide) (Nat.le_of_ble_eq_true rfl) rfl ?_
  intro p e s m below meth c hx hb hr hml hts hown hlk hP hK hN ls hl
  refine lv_iload_n hx hb dX3_isOrder_0 rfl (lv_at hl 0 rfl) ?_
  refine lv_iconst (v := nI 0) hx hb dX3_isOrder_1 (by decide) ?_
  refine lv_iconst (v := nI 2) hx hb dX3_isOrder_2 (by decide) ?_
  refine z_rSi (v := 1) [] hx hb hml hown hts (m_X3_isIn_t l Dg cI (nI k_) (nI 0) (nI 2) (nI_le (Nat.zero_le _) (by omega)) (nI_le (by omega) (by decide))) gX3_isOrder_X3_isIn rfl kdS_X3_isIn ⟨Nat.le_of_ble_eq_true rfl, Nat.le_of_ble_eq_true rfl⟩ hK hN z_P0 rfl hl.1 rfl (Nat.le_of_ble_eq_true rfl) dX3_isOrder_3 ⟨Nat.zero_le _, Nat.zero_le _⟩ ?_
  exact z_er_z (b := true) rfl hx hb hr hlk dX3_isOrder_6

set_option maxHeartbeats 4000000 in
set_option maxRecDepth 100000 in
theorem m_X3_isOrder_f (l : Launch) (Dg : va_G) (cI : ClassId) (x_ : Int32) (hk : ¬ (0 ≤ x_ ∧ x_ ≤ 2)) : z_Mr l yX3_isOrder wsX3_isOrder 1 22 [.int x_] Dg cI ([] : va_W) (some (.int 0)) := by
  refine z_sr (own := RX3) (l0 := [(0, .int x_)]) rfl rfl (by decide) (Nat.le_of_ble_eq_true rfl) rfl ?_
  intro p e s m below meth c hx hb hr hml hts hown hlk hP hK hN ls hl
  refine lv_iload_n hx hb dX3_isOrder_0 rfl (lv_at hl 0 rfl) ?_
  refine lv_iconst (v := 0) hx hb dX3_isOrder_1 (by decide) ?_
  refine lv_iconst (v := 2) hx hb dX3_isOrder_2 (by decide) ?_
  refine z_rSi (v := 0) [] hx hb hml hown hts (m_X3_isIn_f l Dg cI x_ 0 2 hk) gX3_isOrder_X3_isIn rfl kdS_X3_isIn ⟨Nat.le_of_ble_eq_true rfl, Nat.le_of_ble_eq_true rfl⟩ hK hN z_P0 rfl hl.1 rfl (Nat.le_of_ble_eq_true rfl) dX3_isOrder_3 ⟨Nat.zero_le _, Nat.zero_le _⟩ ?_
  exact z_er_z (b := false) rfl hx hb hr hlk dX3_isOrder_6

set_option maxHeartbeats 4000000 in
set_option maxRecDepth 100000 in
theorem m_X3_isBatch_t (l : Launch) (Dg : va_G) (cI : ClassId) (mo : Nat → Nat) (th : Int32) (G : z_GG) (D : z_DD) (K : Nat → Int32) (k_ : Nat) (hk : k_ < z_bc G) (hG : z_WG G) : z_Mr l yX3_isBatch wsX3_isBatch 1 22 [.ref (mo 0), .int (nI k_)] Dg cI (z_mW cI mo th G D K) (some (.int 1)) := by
  have htc : z_tc G ≤ 60 := hG.2.2.2.2.2.1
  have hbc : z_bc G ≤ 6 := hG.2.2.2.2.1
  refine z_sr (own := RX3) (l0 := [(0, .ref (mo 0)), (1, .int (nI k_))]) rfl rfl (by decide) (Nat.le_of_ble_eq_true rfl) rfl ?_
  intro p e s m below meth c hx hb hr hml hts hown hlk hP hK hN ls hl
  refine lv_iload_n hx hb dX3_isBatch_0 rfl (lv_at hl 1 rfl) ?_
  refine lv_iconst (v := nI 0) hx hb dX3_isBatch_1 (by decide) ?_
  refine lv_aload_n hx hb dX3_isBatch_2 rfl (lv_at hl 0 rfl) ?_
  refine va_get (ci := 3) (v := .int (nI (z_bc G))) (C := RX3) (T := TX3) (N := 12) hx hb hts (fun _ h => (List.mem_cons_of_mem _ (List.mem_append_right _ h))) hown hK hP 0 rfl rfl 1 (by decide) (hts _ (List.mem_cons_of_mem _ (List.mem_append_left _ (List.mem_of_getElem? (i := 0) rfl)))) (fun _ h9 => h9) rfl dX3_isBatch_3 ?_
  refine lv_iconst (v := 1) hx hb dX3_isBatch_6 (by decide) ?_
  refine lv_isub hx hb dX3_isBatch_7 ?_
  refine z_top (x' := nI (z_bc G - 1)) (z_pred (by omega)) ?_
  refine z_rSi (v := 1) [] hx hb hml hown hts (m_X3_isIn_t l Dg cI (nI k_) (nI 0) (nI (z_bc G - 1)) (nI_le (Nat.zero_le _) (by omega)) (nI_le (by omega) (by omega))) gX3_isBatch_X3_isIn rfl kdS_X3_isIn ⟨Nat.le_of_ble_eq_true rfl, Nat.le_of_ble_eq_true rfl⟩ hK hN z_P0 rfl hl.1 rfl (Nat.le_of_ble_eq_true rfl) dX3_isBatch_8 ⟨Nat.zero_le _, Nat.zero_le _⟩ ?_
  exact z_er_z (b := true) rfl hx hb hr hlk dX3_isBatch_11

set_option maxHeartbeats 4000000 in
set_option maxRecDepth 100000 in
theorem m_X3_isBatch_f (l : Launch) (Dg : va_G) (cI : ClassId) (mo : Nat → Nat) (th : Int32) (G : z_GG) (D : z_DD) (K : Nat → Int32) (x_ : Int32) (hk : ¬ (0 ≤ x_ ∧ x_ ≤ nI (z_bc G) - 1)) : z_Mr l yX3_isBatch wsX3_isBatch 1 22 [.ref (mo 0), .int x_] Dg cI (z_mW cI mo th G D K) (some (.int 0)) := by
  refine z_sr (own := RX3) (l0 := [(0, .ref (mo 0)), (1, .int x_)]) rfl rfl (by decide) (Nat.le_of_ble_eq_true rfl) rfl ?_
  intro p e s m below meth c hx hb hr hml hts hown hlk hP hK hN ls hl
  refine lv_iload_n hx hb dX3_isBatch_0 rfl (lv_at hl 1 rfl) ?_
  refine lv_iconst (v := 0) hx hb dX3_isBatch_1 (by decide) ?_
  refine lv_aload_n hx hb dX3_isBatch_2 rfl (lv_at hl 0 rfl) ?_
  refine va_get (ci := 3) (v := .int (nI (z_bc G))) (C := RX3) (T := TX3) (N := 12) hx hb hts (fun _ h => (List.mem_cons_of_mem _ (List.mem_append_right _ h))) hown hK hP 0 rfl rfl 1 (by decide) (hts _ (List.mem_cons_of_mem _ (List.mem_append_left _ (List.mem_of_getElem? (i := 0) rfl)))) (fun _ h9 => h9) rfl dX3_isBatch_3 ?_
  refine lv_iconst (v := 1) hx hb dX3_isBatch_6 (by decide) ?_
  refine lv_isub hx hb dX3_isBatch_7 ?_
  refine z_rSi (v := 0) [] hx hb hml hown hts (m_X3_isIn_f l Dg cI x_ 0 ((nI (z_bc G)) - 1) hk) gX3_isBatch_X3_isIn rfl kdS_X3_isIn ⟨Nat.le_of_ble_eq_true rfl, Nat.le_of_ble_eq_true rfl⟩ hK hN z_P0 rfl hl.1 rfl (Nat.le_of_ble_eq_true rfl) dX3_isBatch_8 ⟨Nat.zero_le _, Nat.zero_le _⟩ ?_
  exact z_er_z (b := false) rfl hx hb hr hlk dX3_isBatch_11

set_option maxHeartbeats 4000000 in
set_option maxRecDepth 100000 in
theorem m_X3_isTin_t (l : Launch) (Dg : va_G) (cI : ClassId) (mo : Nat → Nat) (th : Int32) (G : z_GG) (D : z_DD) (K : Nat → Int32) (k_ : Nat) (hk : k_ < z_tc G) (hG : z_WG G) : z_Mr l yX3_isTin wsX3_isTin 1 22 [.ref (mo 0), .int (nI k_)] Dg cI (z_mW cI mo th G D K) (some (.int 1)) := by
  have htc : z_tc G ≤ 60 := hG.2.2.2.2.2.1
  have hbc : z_bc G ≤ 6 := hG.2.2.2.2.1
  refine z_sr (own := RX3) (l0 := [(0, .ref (mo 0)), (1, .int (nI k_))]) rfl rfl (by decide) (Nat.le_of_ble_eq_true rfl) rfl ?_
  intro p e s m below meth c hx hb hr hml hts hown hlk hP hK hN ls hl
  refine lv_iload_n hx hb dX3_isTin_0 rfl (lv_at hl 1 rfl) ?_
  refine lv_iconst (v := nI 0) hx hb dX3_isTin_1 (by decide) ?_
  refine lv_aload_n hx hb dX3_isTin_2 rfl (lv_at hl 0 rfl) ?_
  refine va_get (ci := 3) (v := .int (nI (z_tc G))) (C := RX3) (T := TX3) (N := 12) hx hb hts (fun _ h => (List.mem_cons_of_mem _ (List.mem_append_right _ h))) hown hK hP 0 rfl rfl 2 (by decide) (hts _ (List.mem_cons_of_mem _ (List.mem_append_left _ (List.mem_of_getElem? (i := 0) rfl)))) (fun _ h9 => h9) rfl dX3_isTin_3 ?_
  refine lv_iconst (v := 1) hx hb dX3_isTin_6 (by decide) ?_
  refine lv_isub hx hb dX3_isTin_7 ?_
  refine z_top (x' := nI (z_tc G - 1)) (z_pred (by omega)) ?_
  refine z_rSi (v := 1) [] hx hb hml hown hts (m_X3_isIn_t l Dg cI (nI k_) (nI 0) (nI (z_tc G - 1)) (nI_le (Nat.zero_le _) (by omega)) (nI_le (by omega) (by omega))) gX3_isTin_X3_isIn rfl kdS_X3_isIn ⟨Nat.le_of_ble_eq_true rfl, Nat.le_of_ble_eq_true rfl⟩ hK hN z_P0 rfl hl.1 rfl (Nat.le_of_ble_eq_true rfl) dX3_isTin_8 ⟨Nat.zero_le _, Nat.zero_le _⟩ ?_
  exact z_er_z (b := true) rfl hx hb hr hlk dX3_isTin_11

set_option maxHeartbeats 4000000 in
set_option maxRecDepth 100000 in
theorem m_X3_isTin_f (l : Launch) (Dg : va_G) (cI : ClassId) (mo : Nat → Nat) (th : Int32) (G : z_GG) (D : z_DD) (K : Nat → Int32) (x_ : Int32) (hk : ¬ (0 ≤ x_ ∧ x_ ≤ nI (z_tc G) - 1)) : z_Mr l yX3_isTin wsX3_isTin 1 22 [.ref (mo 0), .int x_] Dg cI (z_mW cI mo th G D K) (some (.int 0)) := by
  refine z_sr (own := RX3) (l0 := [(0, .ref (mo 0)), (1, .int x_)]) rfl rfl (by decide) (Nat.le_of_ble_eq_true rfl) rfl ?_
  intro p e s m below meth c hx hb hr hml hts hown hlk hP hK hN ls hl
  refine lv_iload_n hx hb dX3_isTin_0 rfl (lv_at hl 1 rfl) ?_
  refine lv_iconst (v := 0) hx hb dX3_isTin_1 (by decide) ?_
  refine lv_aload_n hx hb dX3_isTin_2 rfl (lv_at hl 0 rfl) ?_
  refine va_get (ci := 3) (v := .int (nI (z_tc G))) (C := RX3) (T := TX3) (N := 12) hx hb hts (fun _ h => (List.mem_cons_of_mem _ (List.mem_append_right _ h))) hown hK hP 0 rfl rfl 2 (by decide) (hts _ (List.mem_cons_of_mem _ (List.mem_append_left _ (List.mem_of_getElem? (i := 0) rfl)))) (fun _ h9 => h9) rfl dX3_isTin_3 ?_
  refine lv_iconst (v := 1) hx hb dX3_isTin_6 (by decide) ?_
  refine lv_isub hx hb dX3_isTin_7 ?_
  refine z_rSi (v := 0) [] hx hb hml hown hts (m_X3_isIn_f l Dg cI x_ 0 ((nI (z_tc G)) - 1) hk) gX3_isTin_X3_isIn rfl kdS_X3_isIn ⟨Nat.le_of_ble_eq_true rfl, Nat.le_of_ble_eq_true rfl⟩ hK hN z_P0 rfl hl.1 rfl (Nat.le_of_ble_eq_true rfl) dX3_isTin_8 ⟨Nat.zero_le _, Nat.zero_le _⟩ ?_
  exact z_er_z (b := false) rfl hx hb hr hlk dX3_isTin_11

set_option maxHeartbeats 4000000 in
set_option maxRecDepth 100000 in
theorem m_X3_thrown (l : Launch) (Dg : va_G) (cI : ClassId) (mo : Nat → Nat) (th : Int32) (G : z_GG) (D : z_DD) (K : Nat → Int32)  : z_Mr l yX3_thrown wsX3_thrown 0 0 [.ref (mo 0)] Dg cI (z_mW cI mo th G D K) (some (.int th)) := by
  refine z_sr (own := RX3) (l0 := [(0, .ref (mo 0))]) rfl rfl (by decide) (Nat.le_of_ble_eq_true rfl) rfl ?_
  intro p e s m below meth c hx hb hr hml hts hown hlk hP hK hN ls hl
  refine lv_aload_n hx hb dX3_thrown_0 rfl (lv_at hl 0 rfl) ?_
  refine va_get (ci := 3) (v := .int th) (C := RX3) (T := TX3) (N := 12) hx hb hts (fun _ h => (List.mem_cons_of_mem _ (List.mem_append_right _ h))) hown hK hP 0 rfl rfl 0 (by decide) (hts _ (List.mem_cons_of_mem _ (List.mem_append_left _ (List.mem_of_getElem? (i := 0) rfl)))) (fun _ h9 => h9) rfl dX3_thrown_1 ?_
  exact z_er_i rfl hx hb hr hlk dX3_thrown_4

set_option maxHeartbeats 4000000 in
set_option maxRecDepth 100000 in
theorem m_X3_no (l : Launch) (Dg : va_G) (cI : ClassId) (mo : Nat → Nat) (th : Int32) (G : z_GG) (D : z_DD) (K : Nat → Int32) (x_ : Int32)  : z_Mw l yX3_no wsX3_no 0 0 [.ref (mo 0), .int x_] Dg cI (z_mW cI mo th G D K) (some (.int 0)) (z_mW cI mo x_ G D K) := by
  refine z_sw' (own := RX3) (l0 := [(0, .ref (mo 0)), (1, .int x_)]) rfl rfl (by decide) (Nat.le_of_ble_eq_true rfl) rfl ?_
  intro p e s m below meth c hx hb hr hml hts hown hlk hP hK hN hD hS ls hl
  refine lv_aload_n hx hb dX3_no_0 rfl (lv_at hl 0 rfl) ?_
  refine lv_iload_n hx hb dX3_no_1 rfl (lv_at hl 1 rfl) ?_
  refine va_put (ci := 3) (v := .int x_) (ty := .int) (C := RX3) (T := TX3) (N := 12) hx hb hts (fun _ h => (List.mem_cons_of_mem _ (List.mem_append_right _ h))) tyX3 tyX3_ok nmX3 hown hK hP hD hS 0 rfl rfl 0 (by decide) (hts _ (List.mem_cons_of_mem _ (List.mem_append_left _ (List.mem_of_getElem? (i := 0) rfl)))) (fun _ h9 => h9) rfl (by decide +kernel) rfl rfl (Nat.le_of_ble_eq_true rfl) dX3_no_2 (fun H locs hP hD hS => ?_)
  have hP : va_P Dg vwCl (z_mW cI mo x_ G D K) H := hP
  have hD : va_D _ (z_mW cI mo x_ G D K) := hD
  refine lv_iconst (v := 0) hx hb dX3_no_5 (by decide) ?_
  exact z_ew_i rfl hP hS hx hb hr hlk dX3_no_6

set_option maxHeartbeats 4000000 in
set_option maxRecDepth 100000 in
theorem m_X3_isNot (l : Launch) (Dg : va_G) (cI : ClassId) (mo : Nat → Nat) (th : Int32) (G : z_GG) (D : z_DD) (K : Nat → Int32) (x_ : Int32)  : z_Mw l yX3_isNot wsX3_isNot 0 0 [.ref (mo 0), .int x_] Dg cI (z_mW cI mo th G D K) (some (.int 0)) (z_mW cI mo x_ G D K) := by
  refine z_sw' (own := RX3) (l0 := [(0, .ref (mo 0)), (1, .int x_)]) rfl rfl (by decide) (Nat.le_of_ble_eq_true rfl) rfl ?_
  intro p e s m below meth c hx hb hr hml hts hown hlk hP hK hN hD hS ls hl
  refine lv_aload_n hx hb dX3_isNot_0 rfl (lv_at hl 0 rfl) ?_
  refine lv_iload_n hx hb dX3_isNot_1 rfl (lv_at hl 1 rfl) ?_
  refine va_put (ci := 3) (v := .int x_) (ty := .int) (C := RX3) (T := TX3) (N := 12) hx hb hts (fun _ h => (List.mem_cons_of_mem _ (List.mem_append_right _ h))) tyX3 tyX3_ok nmX3 hown hK hP hD hS 0 rfl rfl 0 (by decide) (hts _ (List.mem_cons_of_mem _ (List.mem_append_left _ (List.mem_of_getElem? (i := 0) rfl)))) (fun _ h9 => h9) rfl (by decide +kernel) rfl rfl (Nat.le_of_ble_eq_true rfl) dX3_isNot_2 (fun H locs hP hD hS => ?_)
  have hP : va_P Dg vwCl (z_mW cI mo x_ G D K) H := hP
  have hD : va_D _ (z_mW cI mo x_ G D K) := hD
  refine lv_iconst (v := 0) hx hb dX3_isNot_5 (by decide) ?_
  exact z_ew_z (b := false) rfl hP hS hx hb hr hlk dX3_isNot_6

set_option maxHeartbeats 4000000 in
set_option maxRecDepth 100000 in
theorem m_X3_ok (l : Launch) (Dg : va_G) (cI : ClassId) (mo : Nat → Nat) (th : Int32) (G : z_GG) (D : z_DD) (K : Nat → Int32) (x_ : Int32)  : z_Mw l yX3_ok wsX3_ok 0 0 [.ref (mo 0), .int x_] Dg cI (z_mW cI mo th G D K) (some (.int x_)) (z_mW cI mo 0 G D K) := by
  refine z_sw' (own := RX3) (l0 := [(0, .ref (mo 0)), (1, .int x_)]) rfl rfl (by decide) (Nat.le_of_ble_eq_true rfl) rfl ?_
  intro p e s m below meth c hx hb hr hml hts hown hlk hP hK hN hD hS ls hl
  refine lv_aload_n hx hb dX3_ok_0 rfl (lv_at hl 0 rfl) ?_
  refine lv_iconst (v := 0) hx hb dX3_ok_1 (by decide) ?_
  refine va_put (ci := 3) (v := .int 0) (ty := .int) (C := RX3) (T := TX3) (N := 12) hx hb hts (fun _ h => (List.mem_cons_of_mem _ (List.mem_append_right _ h))) tyX3 tyX3_ok nmX3 hown hK hP hD hS 0 rfl rfl 0 (by decide) (hts _ (List.mem_cons_of_mem _ (List.mem_append_left _ (List.mem_of_getElem? (i := 0) rfl)))) (fun _ h9 => h9) rfl (by decide +kernel) rfl rfl (Nat.le_of_ble_eq_true rfl) dX3_ok_2 (fun H locs hP hD hS => ?_)
  have hP : va_P Dg vwCl (z_mW cI mo 0 G D K) H := hP
  have hD : va_D _ (z_mW cI mo 0 G D K) := hD
  refine lv_iload_n hx hb dX3_ok_5 rfl (lv_at hl 1 rfl) ?_
  exact z_ew_i rfl hP hS hx hb hr hlk dX3_ok_6

set_option maxHeartbeats 4000000 in
set_option maxRecDepth 100000 in
theorem m_X3_keep (l : Launch) (Dg : va_G) (cI : ClassId) (mo : Nat → Nat) (th : Int32) (G : z_GG) (D : z_DD) (K : Nat → Int32)  : z_Mw l yX3_keep wsX3_keep 1 68 [.ref (mo 0)] Dg cI (z_mW cI mo th G D K) none (z_mW cI mo th G D (z_nw D)) := by
  refine z_sw' (own := RX3) (l0 := [(0, .ref (mo 0))]) rfl rfl (by decide) (Nat.le_of_ble_eq_true rfl) rfl ?_
  intro p e s m below meth c hx hb hr hml hts hown hlk hP hK hN hD hS ls hl
  refine lv_aload_n hx hb dX3_keep_0 rfl (lv_at hl 0 rfl) ?_
  refine va_get (ci := 3) (v := .ref (mo 6)) (C := RX3) (T := TX3) (N := 12) hx hb hts (fun _ h => (List.mem_cons_of_mem _ (List.mem_append_right _ h))) hown hK hP 0 rfl rfl 10 (by decide) (hts _ (List.mem_cons_of_mem _ (List.mem_append_left _ (List.mem_of_getElem? (i := 0) rfl)))) (fun _ h9 => h9) rfl dX3_keep_1 ?_
  refine lv_iconst (v := 0) hx hb dX3_keep_4 (by decide) ?_
  refine lv_aload_n hx hb dX3_keep_5 rfl (lv_at hl 0 rfl) ?_
  refine va_get (ci := 3) (v := .ref (mo 7)) (C := RX3) (T := TX3) (N := 12) hx hb hts (fun _ h => (List.mem_cons_of_mem _ (List.mem_append_right _ h))) hown hK hP 0 rfl rfl 11 (by decide) (hts _ (List.mem_cons_of_mem _ (List.mem_append_left _ (List.mem_of_getElem? (i := 1) rfl)))) (fun _ h9 => h9) rfl dX3_keep_6 ?_
  refine lv_iconst (v := 0) hx hb dX3_keep_9 (by decide) ?_
  refine lv_sipush (v := 133) hx hb dX3_keep_10 (by decide) ?_
  refine va_copyi hx hb (hml.trans hl.1.symm) hown (hts _ (List.mem_cons_of_mem _ (List.mem_append_left _ (List.mem_of_getElem? (i := 2) rfl)))) (hts _ (List.mem_cons_of_mem _ (List.mem_append_left _ (List.mem_of_getElem? (i := 3) rfl)))) (hts _ (List.mem_cons_of_mem _ (List.mem_append_left _ (List.mem_of_getElem? (i := 4) rfl)))) (hts _ (List.mem_cons_of_mem _ (List.mem_append_left _ (List.mem_of_getElem? (i := 5) rfl)))) hK hP hD hS 6 7 0 0 rfl rfl rfl rfl rfl (by decide) (by decide) (by decide) (by decide) (by decide) (fun _ _ => rfl) (Nat.le_of_ble_eq_true rfl) (by decide +kernel) dX3_keep_13 (fun H locs hP hD hS => ?_)
  have hP := z_Pset (g := z_nw D) hP (k := 7) rfl (z_cpy _ _ 133)
  have hP : va_P Dg vwCl (z_mW cI mo th G D (z_nw D)) H := hP
  have hD : va_D _ (z_mW cI mo th G D (z_nw D)) := z_Dsame hD rfl
  exact z_ew_v hP hS hx hb hr hlk dX3_keep_16

set_option maxHeartbeats 4000000 in
set_option maxRecDepth 100000 in
theorem m_X3_bringBack (l : Launch) (Dg : va_G) (cI : ClassId) (mo : Nat → Nat) (th : Int32) (G : z_GG) (D : z_DD) (D2 : z_DD)  : z_Mw l yX3_bringBack wsX3_bringBack 1 68 [.ref (mo 0)] Dg cI (z_mW cI mo th G D (z_nw D2)) none (z_mW cI mo th G D2 (z_nw D2)) := by
  refine z_sw' (own := RX3) (l0 := [(0, .ref (mo 0))]) rfl rfl (by decide) (Nat.le_of_ble_eq_true rfl) rfl ?_
  intro p e s m below meth c hx hb hr hml hts hown hlk hP hK hN hD hS ls hl
  refine lv_aload_n hx hb dX3_bringBack_0 rfl (lv_at hl 0 rfl) ?_
  refine va_get (ci := 3) (v := .ref (mo 7)) (C := RX3) (T := TX3) (N := 12) hx hb hts (fun _ h => (List.mem_cons_of_mem _ (List.mem_append_right _ h))) hown hK hP 0 rfl rfl 11 (by decide) (hts _ (List.mem_cons_of_mem _ (List.mem_append_left _ (List.mem_of_getElem? (i := 0) rfl)))) (fun _ h9 => h9) rfl dX3_bringBack_1 ?_
  refine lv_iconst (v := 0) hx hb dX3_bringBack_4 (by decide) ?_
  refine lv_aload_n hx hb dX3_bringBack_5 rfl (lv_at hl 0 rfl) ?_
  refine va_get (ci := 3) (v := .ref (mo 6)) (C := RX3) (T := TX3) (N := 12) hx hb hts (fun _ h => (List.mem_cons_of_mem _ (List.mem_append_right _ h))) hown hK hP 0 rfl rfl 10 (by decide) (hts _ (List.mem_cons_of_mem _ (List.mem_append_left _ (List.mem_of_getElem? (i := 1) rfl)))) (fun _ h9 => h9) rfl dX3_bringBack_6 ?_
  refine lv_iconst (v := 0) hx hb dX3_bringBack_9 (by decide) ?_
  refine lv_sipush (v := 133) hx hb dX3_bringBack_10 (by decide) ?_
  refine va_copyi hx hb (hml.trans hl.1.symm) hown (hts _ (List.mem_cons_of_mem _ (List.mem_append_left _ (List.mem_of_getElem? (i := 2) rfl)))) (hts _ (List.mem_cons_of_mem _ (List.mem_append_left _ (List.mem_of_getElem? (i := 3) rfl)))) (hts _ (List.mem_cons_of_mem _ (List.mem_append_left _ (List.mem_of_getElem? (i := 4) rfl)))) (hts _ (List.mem_cons_of_mem _ (List.mem_append_left _ (List.mem_of_getElem? (i := 5) rfl)))) hK hP hD hS 7 6 0 0 rfl rfl rfl rfl rfl (by decide) (by decide) (by decide) (by decide) (by decide) (fun _ _ => rfl) (Nat.le_of_ble_eq_true rfl) (by decide +kernel) dX3_bringBack_13 (fun H locs hP hD hS => ?_)
  have hP := z_Pset (g := z_nw D2) hP (k := 6) rfl (z_cpy _ _ 133)
  have hP : va_P Dg vwCl (z_mW cI mo th G D2 (z_nw D2)) H := hP
  have hD : va_D _ (z_mW cI mo th G D2 (z_nw D2)) := z_Dsame hD rfl
  exact z_ew_v hP hS hx hb hr hlk dX3_bringBack_16

set_option maxHeartbeats 4000000 in
set_option maxRecDepth 100000 in
theorem m_X3_isHere (l : Launch) (Dg : va_G) (cI : ClassId) (mo : Nat → Nat) (th : Int32) (G : z_GG) (D : z_DD) (K : Nat → Int32) (t : Nat) (ht : t < z_tc G) (hG : z_WG G) (hW : z_WD G D) : z_Mr l yX3_isHere wsX3_isHere 0 0 [.ref (mo 0), .int (nI t)] Dg cI (z_mW cI mo th G D K) (some (.int (z_bI (z_pl D t == 1)))) := by
  have htc : z_tc G ≤ 60 := hG.2.2.2.2.2.1
  have hbc : z_bc G ≤ 6 := hG.2.2.2.2.1
  have hpl := hW t ht
  have hbt := hG.2.2.1 t
  have hsh := hG.2.2.2.1 t
  refine z_sr (own := RX3) (l0 := [(0, .ref (mo 0)), (1, .int (nI t))]) rfl rfl (by decide) (Nat.le_of_ble_eq_true rfl) rfl ?_
  intro p e s m below meth c hx hb hr hml hts hown hlk hP hK hN ls hl
  refine lv_aload_n hx hb dX3_isHere_0 rfl (lv_at hl 0 rfl) ?_
  refine va_get (ci := 3) (v := .ref (mo 6)) (C := RX3) (T := TX3) (N := 12) hx hb hts (fun _ h => (List.mem_cons_of_mem _ (List.mem_append_right _ h))) hown hK hP 0 rfl rfl 10 (by decide) (hts _ (List.mem_cons_of_mem _ (List.mem_append_left _ (List.mem_of_getElem? (i := 0) rfl)))) (fun _ h9 => h9) rfl dX3_isHere_1 ?_
  refine lv_bipush (v := nI 13) hx hb dX3_isHere_4 (by decide) ?_
  refine lv_iload_n hx hb dX3_isHere_6 rfl (lv_at hl 1 rfl) ?_
  refine lv_iadd hx hb dX3_isHere_7 ?_
  refine z_top (x' := nI (13 + t)) (nI_add _ _) ?_
  refine z_iald hx hb hK hP 6 0 rfl rfl (by omega) (by decide) dX3_isHere_8 ?_
  refine z_top (x' := nI (z_pl D t - 1)) (z_nw_st _ (by omega)) ?_
  refine lv_if_ne (tgt := 16) hx hb dX3_isHere_9 (by decide) (fun c9 => ?_) (fun c9 => ?_)
  · skip
    refine lv_iconst (v := 0) hx hb dX3_isHere_16 (by decide) ?_
    exact z_er_z (z_b0 (z_bne (fun q => c9 (by rw [q]; rfl)))) hx hb hr hlk dX3_isHere_17
  · skip
    refine lv_iconst (v := 1) hx hb dX3_isHere_12 (by decide) ?_
    refine lv_goto (tgt := 17) hx hb dX3_isHere_13 (by decide) ?_
    exact z_er_z (z_b1 (z_beq (by have := z_eq (b := 0) (by omega) (by decide) c9; omega))) hx hb hr hlk dX3_isHere_17

set_option maxHeartbeats 4000000 in
set_option maxRecDepth 100000 in
theorem m_X3_rate (l : Launch) (Dg : va_G) (cI : ClassId) (mo : Nat → Nat) (th : Int32) (G : z_GG) (D : z_DD) (K : Nat → Int32) (t s_ : Nat) (ht : t < z_tc G) (hs4 : s_ < 4) (hG : z_WG G) : z_Mr l yX3_rate wsX3_rate 0 0 [.ref (mo 0), .int (nI t), .int (nI s_)] Dg cI (z_mW cI mo th G D K) (some (.int (z_rt G t s_))) := by
  have htc : z_tc G ≤ 60 := hG.2.2.2.2.2.1
  have hbt := hG.2.2.1 t
  refine z_sr (own := RX3) (l0 := [(0, .ref (mo 0)), (1, .int (nI t)), (2, .int (nI s_))]) rfl rfl (by decide) (Nat.le_of_ble_eq_true rfl) rfl ?_
  intro p e s m below meth c hx hb hr hml hts hown hlk hP hK hN ls hl
  refine lv_aload_n hx hb dX3_rate_0 rfl (lv_at hl 0 rfl) ?_
  refine va_get (ci := 3) (v := .ref (mo 2)) (C := RX3) (T := TX3) (N := 12) hx hb hts (fun _ h => (List.mem_cons_of_mem _ (List.mem_append_right _ h))) hown hK hP 0 rfl rfl 6 (by decide) (hts _ (List.mem_cons_of_mem _ (List.mem_append_left _ (List.mem_of_getElem? (i := 0) rfl)))) (fun _ h9 => h9) rfl dX3_rate_1 ?_
  refine lv_aload_n hx hb dX3_rate_4 rfl (lv_at hl 0 rfl) ?_
  refine va_get (ci := 3) (v := .ref (mo 4)) (C := RX3) (T := TX3) (N := 12) hx hb hts (fun _ h => (List.mem_cons_of_mem _ (List.mem_append_right _ h))) hown hK hP 0 rfl rfl 8 (by decide) (hts _ (List.mem_cons_of_mem _ (List.mem_append_left _ (List.mem_of_getElem? (i := 1) rfl)))) (fun _ h9 => h9) rfl dX3_rate_5 ?_
  refine lv_iload_n hx hb dX3_rate_8 rfl (lv_at hl 1 rfl) ?_
  refine z_iald hx hb hK hP 4 0 rfl rfl (by omega) (by decide) dX3_rate_9 ?_
  refine z_top (x' := nI (z_bt G t)) rfl ?_
  refine z_iald hx hb hK hP 2 0 rfl rfl (by omega) (by decide) dX3_rate_10 ?_
  refine z_top (x' := z_lk G (z_bt G t)) rfl ?_
  refine lv_aload_n hx hb dX3_rate_11 rfl (lv_at hl 0 rfl) ?_
  refine va_get (ci := 3) (v := .ref (mo 3)) (C := RX3) (T := TX3) (N := 12) hx hb hts (fun _ h => (List.mem_cons_of_mem _ (List.mem_append_right _ h))) hown hK hP 0 rfl rfl 7 (by decide) (hts _ (List.mem_cons_of_mem _ (List.mem_append_left _ (List.mem_of_getElem? (i := 2) rfl)))) (fun _ h9 => h9) rfl dX3_rate_12 ?_
  refine lv_iload_n hx hb dX3_rate_15 rfl (lv_at hl 2 rfl) ?_
  refine z_iald hx hb hK hP 3 0 rfl rfl (by omega) (by decide) dX3_rate_16 ?_
  refine z_top (x' := z_wm G s_) rfl ?_
  refine lv_iadd hx hb dX3_rate_17 ?_
  exact z_er_i rfl hx hb hr hlk dX3_rate_18

set_option maxHeartbeats 4000000 in
set_option maxRecDepth 100000 in
theorem m_X3_key (l : Launch) (Dg : va_G) (cI : ClassId) (mo : Nat → Nat) (th : Int32) (G : z_GG) (D : z_DD) (K : Nat → Int32) (t o : Nat) (ht : t < z_tc G) (ho : o < 3) (hG : z_WG G) : z_Mr l yX3_key wsX3_key 0 0 [.ref (mo 0), .int (nI t), .int (nI o)] Dg cI (z_mW cI mo th G D K) (some (.int (z_ky G D o t))) := by
  have htc : z_tc G ≤ 60 := hG.2.2.2.2.2.1
  have hsh := hG.2.2.2.1 t
  refine z_sr (own := RX3) (l0 := [(0, .ref (mo 0)), (1, .int (nI t)), (2, .int (nI o))]) rfl rfl (by decide) (Nat.le_of_ble_eq_true rfl) rfl ?_
  intro p e s m below meth c hx hb hr hml hts hown hlk hP hK hN ls hl
  refine lv_iload_n hx hb dX3_key_0 rfl (lv_at hl 2 rfl) ?_
  refine lv_if_ne (tgt := 8) hx hb dX3_key_1 (by decide) (fun c1 => ?_) (fun c1 => ?_)
  · skip
    have ho1 : ¬ o = 0 := fun q => c1 (by rw [q]; rfl)
    refine lv_iload_n hx hb dX3_key_8 rfl (lv_at hl 2 rfl) ?_
    refine lv_iconst (v := nI 1) hx hb dX3_key_9 (by decide) ?_
    refine lv_icmp_ne (tgt := 30) hx hb dX3_key_10 (by decide) (fun c10 => ?_) (fun c10 => ?_)
    · skip
      have ho2 := z_ne (by omega) (by decide) c10
      refine lv_bipush (v := 60) hx hb dX3_key_30 (by decide) ?_
      refine lv_iconst (v := 3) hx hb dX3_key_32 (by decide) ?_
      refine lv_aload_n hx hb dX3_key_33 rfl (lv_at hl 0 rfl) ?_
      refine va_get (ci := 3) (v := .ref (mo 3)) (C := RX3) (T := TX3) (N := 12) hx hb hts (fun _ h => (List.mem_cons_of_mem _ (List.mem_append_right _ h))) hown hK hP 0 rfl rfl 7 (by decide) (hts _ (List.mem_cons_of_mem _ (List.mem_append_left _ (List.mem_of_getElem? (i := 1) rfl)))) (fun _ h9 => h9) rfl dX3_key_34 ?_
      refine lv_aload_n hx hb dX3_key_37 rfl (lv_at hl 0 rfl) ?_
      refine va_get (ci := 3) (v := .ref (mo 5)) (C := RX3) (T := TX3) (N := 12) hx hb hts (fun _ h => (List.mem_cons_of_mem _ (List.mem_append_right _ h))) hown hK hP 0 rfl rfl 9 (by decide) (hts _ (List.mem_cons_of_mem _ (List.mem_append_left _ (List.mem_of_getElem? (i := 2) rfl)))) (fun _ h9 => h9) rfl dX3_key_38 ?_
      refine lv_iload_n hx hb dX3_key_41 rfl (lv_at hl 1 rfl) ?_
      refine z_iald hx hb hK hP 5 0 rfl rfl (by omega) (by decide) dX3_key_42 ?_
      refine z_top (x' := nI (z_sh G t)) rfl ?_
      refine z_iald hx hb hK hP 3 0 rfl rfl (by omega) (by decide) dX3_key_43 ?_
      refine z_top (x' := z_wm G (z_sh G t)) rfl ?_
      refine lv_isub hx hb dX3_key_44 ?_
      refine lv_imul hx hb dX3_key_45 ?_
      refine lv_iload_n hx hb dX3_key_46 rfl (lv_at hl 1 rfl) ?_
      refine lv_iadd hx hb dX3_key_47 ?_
      exact z_er_i (z_ky_2 (by omega)) hx hb hr hlk dX3_key_48
    · skip
      have ho2 := z_eq (by omega) (by decide) c10
      refine lv_bipush (v := 60) hx hb dX3_key_13 (by decide) ?_
      refine lv_aload_n hx hb dX3_key_15 rfl (lv_at hl 0 rfl) ?_
      refine va_get (ci := 3) (v := .ref (mo 6)) (C := RX3) (T := TX3) (N := 12) hx hb hts (fun _ h => (List.mem_cons_of_mem _ (List.mem_append_right _ h))) hown hK hP 0 rfl rfl 10 (by decide) (hts _ (List.mem_cons_of_mem _ (List.mem_append_left _ (List.mem_of_getElem? (i := 0) rfl)))) (fun _ h9 => h9) rfl dX3_key_16 ?_
      refine lv_bipush (v := nI 73) hx hb dX3_key_19 (by decide) ?_
      refine lv_iload_n hx hb dX3_key_21 rfl (lv_at hl 1 rfl) ?_
      refine lv_iadd hx hb dX3_key_22 ?_
      refine z_top (x' := nI (73 + t)) (nI_add _ _) ?_
      refine z_iald hx hb hK hP 6 0 rfl rfl (by omega) (by decide) dX3_key_23 ?_
      refine z_top (x' := z_vc D t) (z_nw_vc _ _) ?_
      refine lv_imul hx hb dX3_key_24 ?_
      refine lv_iload_n hx hb dX3_key_25 rfl (lv_at hl 1 rfl) ?_
      refine lv_iadd hx hb dX3_key_26 ?_
      refine lv_goto (tgt := 48) hx hb dX3_key_27 (by decide) ?_
      exact z_er_i (z_ky_1 ho2) hx hb hr hlk dX3_key_48
  · skip
    have ho1 := z_eq (b := 0) (by omega) (by decide) c1
    refine lv_iload_n hx hb dX3_key_4 rfl (lv_at hl 1 rfl) ?_
    refine lv_goto (tgt := 48) hx hb dX3_key_5 (by decide) ?_
    exact z_er_i (z_ky_0 ho1) hx hb hr hlk dX3_key_48

set_option maxHeartbeats 4000000 in
set_option maxRecDepth 100000 in
theorem m_X3_firstBy (l : Launch) (Dg : va_G) (cI : ClassId) (mo : Nat → Nat) (th : Int32) (G : z_GG) (D : z_DD) (K : Nat → Int32) (o : Nat) (ho : o < 3) (hG : z_WG G) (hW : z_WD G D) : z_Mr l yX3_firstBy wsX3_firstBy 1 22 [.ref (mo 0), .int (nI o)] Dg cI (z_mW cI mo th G D K) (some (.int (z_oi (z_fb G D o (z_tc G))))) := by
  have htc : z_tc G ≤ 60 := hG.2.2.2.2.2.1
  have hbc : z_bc G ≤ 6 := hG.2.2.2.2.1
  refine z_sr (own := RX3) (l0 := [(0, .ref (mo 0)), (1, .int (nI o))]) rfl rfl (by decide) (Nat.le_of_ble_eq_true rfl) rfl ?_
  intro p e s m below meth c hx hb hr hml hts hown hlk hP hK hN ls hl
  refine lv_iconst (v := (-1)) hx hb dX3_firstBy_0 (by decide) ?_
  refine lv_istore_n (lv' := [(2, .int (-1)), (0, .ref (mo 0)), (1, .int (nI o))]) hx hb dX3_firstBy_1 rfl hl (by decide) rfl (fun ls hl => ?_)
  refine lv_iconst (v := nI 0) hx hb dX3_firstBy_2 (by decide) ?_
  refine lv_istore_n (lv' := [(3, .int (nI 0)), (2, .int (-1)), (0, .ref (mo 0)), (1, .int (nI o))]) hx hb dX3_firstBy_3 rfl hl (by decide) rfl (fun ls hl => ?_)
  have lp4 : ∀ (zz i : Nat) , i ≤ z_tc G → z_tc G + 1 ≤ i + zz → ∀ ls : Array Slot, lv_has ls 4 [(0, .ref (mo 0)), (1, .int (nI o)), (2, .int (z_oi (z_fb G D o i))), (3, .int (nI i))] → W p l e ({ frames := 1, cells := 0, slots := 0, locals := 22 } : Room) s m ([.ref (mo 0), .int (nI o)] : List Value).toArray below meth c s.heap [] 0 0 (MQ below (z_Qr (some (.int (z_oi (z_fb G D o (z_tc G)))))) ([.ref (mo 0), .int (nI o)] : List Value).toArray s 0 0 z_no) (F0 m 4 ls []) := by
    intro zz
    induction zz with
    | zero => intros; exfalso; omega
    | succ zz ih4 =>
      intro i hi hzz ls hl
      refine lv_iload_n hx hb dX3_firstBy_4 rfl (lv_at hl 3 rfl) ?_
      refine lv_aload_n hx hb dX3_firstBy_5 rfl (lv_at hl 0 rfl) ?_
      refine va_get (ci := 3) (v := .int (nI (z_tc G))) (C := RX3) (T := TX3) (N := 12) hx hb hts (fun _ h => (List.mem_cons_of_mem _ (List.mem_append_right _ h))) hown hK hP 0 rfl rfl 2 (by decide) (hts _ (List.mem_cons_of_mem _ (List.mem_append_left _ (List.mem_of_getElem? (i := 0) rfl)))) (fun _ h9 => h9) rfl dX3_firstBy_6 ?_
      refine lv_icmp_ge (tgt := 48) hx hb dX3_firstBy_9 (by decide) (fun c9 => ?_) (fun c9 => ?_)
      · skip
        have hi2 : i = z_tc G := Nat.le_antisymm hi (z_le (by omega) (by omega) c9)
        refine lv_iload_n hx hb dX3_firstBy_48 rfl (lv_at hl 2 rfl) ?_
        exact z_er_i (by rw [hi2]) hx hb hr hlk dX3_firstBy_49
      · skip
        have hi2 : i < z_tc G := z_nle (by omega) c9
        have hfl := z_fb_le G D o i
        refine lv_aload_n hx hb dX3_firstBy_12 rfl (lv_at hl 0 rfl) ?_
        refine lv_iload_n hx hb dX3_firstBy_13 rfl (lv_at hl 3 rfl) ?_
        refine z_rVi (v := z_bI (z_pl D i == 1)) [] hx hb hml hown hts (m_X3_isHere l Dg cI mo th G D K i (by omega) hG hW) gX3_firstBy_X3_isHere rfl kd_X3_isHere ⟨Nat.le_of_ble_eq_true rfl, Nat.le_of_ble_eq_true rfl⟩ hK hN hP rfl rfl rfl rfl hl.1 rfl (Nat.le_of_ble_eq_true rfl) dX3_firstBy_14 ⟨Nat.zero_le _, Nat.zero_le _⟩ ?_
        refine lv_if_eq (tgt := 42) hx hb dX3_firstBy_17 (by decide) (fun c17 => ?_) (fun c17 => ?_)
        · skip
          have e1 : z_fb G D o (i + 1) = z_fb G D o i := z_fb_f (fun q => z_bne' (z_bI0 c17) q.1)
          have hl : lv_has ls 4 [(0, .ref (mo 0)), (1, .int (nI o)), (2, .int (z_oi (z_fb G D o (i + 1)))), (3, .int (nI i))] := by have q : z_oi (z_fb G D o i) = z_oi (z_fb G D o (i + 1)) := (congrArg z_oi e1.symm); rw [← q]; exact hl
          refine lv_iinc (v := nI (i + 1)) (lv' := [(3, .int (nI (i + 1))), (0, .ref (mo 0)), (1, .int (nI o)), (2, .int (z_oi (z_fb G D o (i + 1))))]) hx hb dX3_firstBy_42 hl (k := 3) rfl (nI_1 _) (by decide) rfl (fun ls hl => ?_)
          refine lv_goto (tgt := 4) hx hb dX3_firstBy_45 (by decide) ?_
          exact ih4 (i + 1) (by omega) (by omega) _ (lv_sub hl [1, 2, 3, 0] rfl)
        · skip
          refine lv_iload_n hx hb dX3_firstBy_20 rfl (lv_at hl 2 rfl) ?_
          refine lv_iconst (v := (-1)) hx hb dX3_firstBy_21 (by decide) ?_
          refine lv_icmp_eq (tgt := 40) hx hb dX3_firstBy_22 (by decide) (fun c22 => ?_) (fun c22 => ?_)
          · skip
            refine lv_iload_n hx hb dX3_firstBy_40 rfl (lv_at hl 3 rfl) ?_
            refine lv_istore_n (lv' := [(2, .int (nI i)), (0, .ref (mo 0)), (1, .int (nI o)), (3, .int (nI i))]) hx hb dX3_firstBy_41 rfl hl (by decide) rfl (fun ls hl => ?_)
            have e1 : z_fb G D o (i + 1) = i + 1 := z_fb_t (z_beq' (z_bI1 c17)) (Or.inl (z_oi_m (by omega) c22))
            have hl : lv_has ls 4 [(2, .int (z_oi (z_fb G D o (i + 1)))), (0, .ref (mo 0)), (1, .int (nI o)), (3, .int (nI i))] := by have q : nI i = z_oi (z_fb G D o (i + 1)) := (by rw [e1]; rfl); rw [← q]; exact hl
            refine lv_iinc (v := nI (i + 1)) (lv' := [(3, .int (nI (i + 1))), (2, .int (z_oi (z_fb G D o (i + 1)))), (0, .ref (mo 0)), (1, .int (nI o))]) hx hb dX3_firstBy_42 hl (k := 3) rfl (nI_1 _) (by decide) rfl (fun ls hl => ?_)
            refine lv_goto (tgt := 4) hx hb dX3_firstBy_45 (by decide) ?_
            exact ih4 (i + 1) (by omega) (by omega) _ (lv_sub hl [2, 3, 1, 0] rfl)
          · skip
            have hfp := z_oi_n c22
            refine lv_aload_n hx hb dX3_firstBy_25 rfl (lv_at hl 0 rfl) ?_
            refine lv_iload_n hx hb dX3_firstBy_26 rfl (lv_at hl 3 rfl) ?_
            refine lv_iload_n hx hb dX3_firstBy_27 rfl (lv_at hl 1 rfl) ?_
            refine z_rVi (v := z_ky G D o i) [] hx hb hml hown hts (m_X3_key l Dg cI mo th G D K i o (by omega) (by omega) hG) gX3_firstBy_X3_key rfl kd_X3_key ⟨Nat.le_of_ble_eq_true rfl, Nat.le_of_ble_eq_true rfl⟩ hK hN hP rfl rfl rfl rfl hl.1 rfl (Nat.le_of_ble_eq_true rfl) dX3_firstBy_28 ⟨Nat.zero_le _, Nat.zero_le _⟩ ?_
            refine lv_aload_n hx hb dX3_firstBy_31 rfl (lv_at hl 0 rfl) ?_
            refine lv_iload_n hx hb dX3_firstBy_32 rfl (lv_at hl 2 rfl) ?_
            refine z_top (x' := nI (z_fb G D o i - 1)) (z_oi_s hfp) ?_
            refine lv_iload_n hx hb dX3_firstBy_33 rfl (lv_at hl 1 rfl) ?_
            refine z_rVi (v := z_ky G D o (z_fb G D o i - 1)) [.int (z_ky G D o i)] hx hb hml hown hts (m_X3_key l Dg cI mo th G D K (z_fb G D o i - 1) o (by omega) (by omega) hG) gX3_firstBy_X3_key rfl kd_X3_key ⟨Nat.le_of_ble_eq_true rfl, Nat.le_of_ble_eq_true rfl⟩ hK hN hP rfl rfl rfl rfl hl.1 rfl (Nat.le_of_ble_eq_true rfl) dX3_firstBy_34 ⟨Nat.zero_le _, Nat.zero_le _⟩ ?_
            refine lv_icmp_ge (tgt := 42) hx hb dX3_firstBy_37 (by decide) (fun c37 => ?_) (fun c37 => ?_)
            · skip
              have e1 : z_fb G D o (i + 1) = z_fb G D o i := z_fb_f (fun q => q.2.elim (fun z => absurd z (by omega)) (fun z => z_i32_nlt c37 z))
              have hl : lv_has ls 4 [(0, .ref (mo 0)), (1, .int (nI o)), (2, .int (z_oi (z_fb G D o (i + 1)))), (3, .int (nI i))] := by have q : z_oi (z_fb G D o i) = z_oi (z_fb G D o (i + 1)) := (congrArg z_oi e1.symm); rw [← q]; exact hl
              refine lv_iinc (v := nI (i + 1)) (lv' := [(3, .int (nI (i + 1))), (0, .ref (mo 0)), (1, .int (nI o)), (2, .int (z_oi (z_fb G D o (i + 1))))]) hx hb dX3_firstBy_42 hl (k := 3) rfl (nI_1 _) (by decide) rfl (fun ls hl => ?_)
              refine lv_goto (tgt := 4) hx hb dX3_firstBy_45 (by decide) ?_
              exact ih4 (i + 1) (by omega) (by omega) _ (lv_sub hl [1, 2, 3, 0] rfl)
            · skip
              refine lv_iload_n hx hb dX3_firstBy_40 rfl (lv_at hl 3 rfl) ?_
              refine lv_istore_n (lv' := [(2, .int (nI i)), (0, .ref (mo 0)), (1, .int (nI o)), (3, .int (nI i))]) hx hb dX3_firstBy_41 rfl hl (by decide) rfl (fun ls hl => ?_)
              have e1 : z_fb G D o (i + 1) = i + 1 := z_fb_t (z_beq' (z_bI1 c17)) (Or.inr (z_i32_lt c37))
              have hl : lv_has ls 4 [(2, .int (z_oi (z_fb G D o (i + 1)))), (0, .ref (mo 0)), (1, .int (nI o)), (3, .int (nI i))] := by have q : nI i = z_oi (z_fb G D o (i + 1)) := (by rw [e1]; rfl); rw [← q]; exact hl
              refine lv_iinc (v := nI (i + 1)) (lv' := [(3, .int (nI (i + 1))), (2, .int (z_oi (z_fb G D o (i + 1)))), (0, .ref (mo 0)), (1, .int (nI o))]) hx hb dX3_firstBy_42 hl (k := 3) rfl (nI_1 _) (by decide) rfl (fun ls hl => ?_)
              refine lv_goto (tgt := 4) hx hb dX3_firstBy_45 (by decide) ?_
              exact ih4 (i + 1) (by omega) (by omega) _ (lv_sub hl [2, 3, 1, 0] rfl)
  exact lp4 (z_tc G + 1) 0 (by omega) (by omega) _ (lv_sub hl [2, 3, 1, 0] rfl)

set_option maxHeartbeats 4000000 in
set_option maxRecDepth 100000 in
theorem m_X3_leak (l : Launch) (Dg : va_G) (cI : ClassId) (mo : Nat → Nat) (th : Int32) (G : z_GG) (D : z_DD) (K : Nat → Int32) (t : Nat) (ht : t < z_tc G) (hp1 : z_pl D t = 1) (hG : z_WG G) (hW : z_WD G D) : z_Mw l yX3_leak wsX3_leak 1 22 [.ref (mo 0), .int (nI t)] Dg cI (z_mW cI mo th G D K) none (z_mW cI mo th G (z_w1 G D t) K) := by
  have htc : z_tc G ≤ 60 := hG.2.2.2.2.2.1
  have hbc : z_bc G ≤ 6 := hG.2.2.2.2.1
  have hpl := hW t ht
  have hbt := hG.2.2.1 t
  have hsh := hG.2.2.2.1 t
  refine z_sw' (own := RX3) (l0 := [(0, .ref (mo 0)), (1, .int (nI t))]) rfl rfl (by decide) (Nat.le_of_ble_eq_true rfl) rfl ?_
  intro p e s m below meth c hx hb hr hml hts hown hlk hP hK hN hD hS ls hl
  refine lv_aload_n hx hb dX3_leak_0 rfl (lv_at hl 0 rfl) ?_
  refine va_get (ci := 3) (v := .ref (mo 6)) (C := RX3) (T := TX3) (N := 12) hx hb hts (fun _ h => (List.mem_cons_of_mem _ (List.mem_append_right _ h))) hown hK hP 0 rfl rfl 10 (by decide) (hts _ (List.mem_cons_of_mem _ (List.mem_append_left _ (List.mem_of_getElem? (i := 0) rfl)))) (fun _ h9 => h9) rfl dX3_leak_1 ?_
  refine lv_bipush (v := nI 73) hx hb dX3_leak_4 (by decide) ?_
  refine lv_iload_n hx hb dX3_leak_6 rfl (lv_at hl 1 rfl) ?_
  refine lv_iadd hx hb dX3_leak_7 ?_
  refine z_top (x' := nI (73 + t)) (nI_add _ _) ?_
  refine lv_iconst (v := 0) hx hb dX3_leak_8 (by decide) ?_
  refine lv_aload_n hx hb dX3_leak_9 rfl (lv_at hl 0 rfl) ?_
  refine va_get (ci := 3) (v := .ref (mo 6)) (C := RX3) (T := TX3) (N := 12) hx hb hts (fun _ h => (List.mem_cons_of_mem _ (List.mem_append_right _ h))) hown hK hP 0 rfl rfl 10 (by decide) (hts _ (List.mem_cons_of_mem _ (List.mem_append_left _ (List.mem_of_getElem? (i := 0) rfl)))) (fun _ h9 => h9) rfl dX3_leak_10 ?_
  refine lv_bipush (v := nI 73) hx hb dX3_leak_13 (by decide) ?_
  refine lv_iload_n hx hb dX3_leak_15 rfl (lv_at hl 1 rfl) ?_
  refine lv_iadd hx hb dX3_leak_16 ?_
  refine z_top (x' := nI (73 + t)) (nI_add _ _) ?_
  refine z_iald hx hb hK hP 6 0 rfl rfl (by omega) (by decide) dX3_leak_17 ?_
  refine z_top (x' := z_vc D t) (z_nw_vc _ _) ?_
  refine lv_aload_n hx hb dX3_leak_18 rfl (lv_at hl 0 rfl) ?_
  refine lv_iload_n hx hb dX3_leak_19 rfl (lv_at hl 1 rfl) ?_
  refine lv_aload_n hx hb dX3_leak_20 rfl (lv_at hl 0 rfl) ?_
  refine va_get (ci := 3) (v := .ref (mo 5)) (C := RX3) (T := TX3) (N := 12) hx hb hts (fun _ h => (List.mem_cons_of_mem _ (List.mem_append_right _ h))) hown hK hP 0 rfl rfl 9 (by decide) (hts _ (List.mem_cons_of_mem _ (List.mem_append_left _ (List.mem_of_getElem? (i := 1) rfl)))) (fun _ h9 => h9) rfl dX3_leak_21 ?_
  refine lv_iload_n hx hb dX3_leak_24 rfl (lv_at hl 1 rfl) ?_
  refine z_iald hx hb hK hP 5 0 rfl rfl (by omega) (by decide) dX3_leak_25 ?_
  refine z_top (x' := nI (z_sh G t)) rfl ?_
  refine z_rVi (v := z_rt G t (z_sh G t)) [.int (z_vc D t), .int 0, .int (nI (73 + t)), .ref (mo 6)] hx hb hml hown hts (m_X3_rate l Dg cI mo th G D K t (z_sh G t) (by omega) (by omega) hG) gX3_leak_X3_rate rfl kd_X3_rate ⟨Nat.le_of_ble_eq_true rfl, Nat.le_of_ble_eq_true rfl⟩ hK hN hP rfl rfl rfl rfl hl.1 rfl (Nat.le_of_ble_eq_true rfl) dX3_leak_26 ⟨Nat.zero_le _, Nat.zero_le _⟩ ?_
  refine lv_isub hx hb dX3_leak_29 ?_
  refine va_mmax hx hb (hml.trans hl.1.symm) hown (hts _ (List.mem_cons_of_mem _ (List.mem_append_left _ (List.mem_of_getElem? (i := 2) rfl)))) (hts _ (List.mem_cons_of_mem _ (List.mem_append_left _ (List.mem_of_getElem? (i := 3) rfl)))) (hts _ (List.mem_cons_of_mem _ (List.mem_append_left _ (List.mem_of_getElem? (i := 4) rfl)))) (hts _ (List.mem_cons_of_mem _ (List.mem_append_left _ (List.mem_of_getElem? (i := 5) rfl)))) (Nat.le_of_ble_eq_true rfl) (Nat.le_of_ble_eq_true rfl) (Nat.zero_le _) (Nat.zero_le _) dX3_leak_30 ?_
  refine z_top (x' := z_wv G D t) rfl ?_
  refine z_iast hx hb hK hP hD hS 6 0 rfl rfl (by omega) (by decide) dX3_leak_33 (fun H locs hP hD hS => ?_)
  have hP : va_P Dg vwCl (z_mX cI mo th (nI (z_bc G)) (nI (z_tc G)) (nI (z_sd G)) (nI (z_od G)) (z_v0 G) (z_lk G) (z_wm G) (fun j9 => nI (z_bt G j9)) (fun j9 => nI (z_sh G j9)) (upd (z_nw D) (73 + t) (z_wv G D t)) K) H := hP
  have hD : va_D _ (z_mX cI mo th (nI (z_bc G)) (nI (z_tc G)) (nI (z_sd G)) (nI (z_od G)) (z_v0 G) (z_lk G) (z_wm G) (fun j9 => nI (z_bt G j9)) (fun j9 => nI (z_sh G j9)) (upd (z_nw D) (73 + t) (z_wv G D t)) K) := hD
  rw [z_nu_vc] at hP hD
  have hP : va_P Dg vwCl (z_mW cI mo th G (z_setvc D t (z_wv G D t)) K) H := hP
  have hD : va_D _ (z_mW cI mo th G (z_setvc D t (z_wv G D t)) K) := hD
  refine lv_aload_n hx hb dX3_leak_34 rfl (lv_at hl 0 rfl) ?_
  refine va_get (ci := 3) (v := .ref (mo 6)) (C := RX3) (T := TX3) (N := 12) hx hb hts (fun _ h => (List.mem_cons_of_mem _ (List.mem_append_right _ h))) hown hK hP 0 rfl rfl 10 (by decide) (hts _ (List.mem_cons_of_mem _ (List.mem_append_left _ (List.mem_of_getElem? (i := 0) rfl)))) (fun _ h9 => h9) rfl dX3_leak_35 ?_
  refine lv_bipush (v := nI 73) hx hb dX3_leak_38 (by decide) ?_
  refine lv_iload_n hx hb dX3_leak_40 rfl (lv_at hl 1 rfl) ?_
  refine lv_iadd hx hb dX3_leak_41 ?_
  refine z_top (x' := nI (73 + t)) (nI_add _ _) ?_
  refine z_iald hx hb hK hP 6 0 rfl rfl (by omega) (by decide) dX3_leak_42 ?_
  refine z_top (x' := z_vc (z_setvc D t (z_wv G D t)) t) (z_nw_vc _ _) ?_
  refine z_top (x' := z_wv G D t) (z_upd_eq _ _ _) ?_
  refine lv_if_le (tgt := 47) hx hb dX3_leak_43 (by decide) (fun c43 => ?_) (fun c43 => ?_)
  · skip
    refine lv_aload_n hx hb dX3_leak_47 rfl (lv_at hl 0 rfl) ?_
    refine va_get (ci := 3) (v := .ref (mo 6)) (C := RX3) (T := TX3) (N := 12) hx hb hts (fun _ h => (List.mem_cons_of_mem _ (List.mem_append_right _ h))) hown hK hP 0 rfl rfl 10 (by decide) (hts _ (List.mem_cons_of_mem _ (List.mem_append_left _ (List.mem_of_getElem? (i := 0) rfl)))) (fun _ h9 => h9) rfl dX3_leak_48 ?_
    refine lv_bipush (v := nI 13) hx hb dX3_leak_51 (by decide) ?_
    refine lv_iload_n hx hb dX3_leak_53 rfl (lv_at hl 1 rfl) ?_
    refine lv_iadd hx hb dX3_leak_54 ?_
    refine z_top (x' := nI (13 + t)) (nI_add _ _) ?_
    refine lv_iconst (v := nI 2) hx hb dX3_leak_55 (by decide) ?_
    refine z_iast hx hb hK hP hD hS 6 0 rfl rfl (by omega) (by decide) dX3_leak_56 (fun H locs hP hD hS => ?_)
    have hP : va_P Dg vwCl (z_mX cI mo th (nI (z_bc G)) (nI (z_tc G)) (nI (z_sd G)) (nI (z_od G)) (z_v0 G) (z_lk G) (z_wm G) (fun j9 => nI (z_bt G j9)) (fun j9 => nI (z_sh G j9)) (upd (z_nw (z_setvc D t (z_wv G D t))) (13 + t) (nI 2)) K) H := hP
    have hD : va_D _ (z_mX cI mo th (nI (z_bc G)) (nI (z_tc G)) (nI (z_sd G)) (nI (z_od G)) (z_v0 G) (z_lk G) (z_wm G) (fun j9 => nI (z_bt G j9)) (fun j9 => nI (z_sh G j9)) (upd (z_nw (z_setvc D t (z_wv G D t))) (13 + t) (nI 2)) K) := hD
    rw [z_nu_pl (z_setvc D t (z_wv G D t)) 2 3 (by omega) rfl] at hP hD
    have hP : va_P Dg vwCl (z_mW cI mo th G (z_setpl (z_setvc D t (z_wv G D t)) t 3) K) H := hP
    have hD : va_D _ (z_mW cI mo th G (z_setpl (z_setvc D t (z_wv G D t)) t 3) K) := hD
    refine lv_aload_n hx hb dX3_leak_57 rfl (lv_at hl 0 rfl) ?_
    refine va_get (ci := 3) (v := .ref (mo 6)) (C := RX3) (T := TX3) (N := 12) hx hb hts (fun _ h => (List.mem_cons_of_mem _ (List.mem_append_right _ h))) hown hK hP 0 rfl rfl 10 (by decide) (hts _ (List.mem_cons_of_mem _ (List.mem_append_left _ (List.mem_of_getElem? (i := 0) rfl)))) (fun _ h9 => h9) rfl dX3_leak_58 ?_
    refine lv_iconst (v := nI 1) hx hb dX3_leak_61 (by decide) ?_
    refine lv_aload_n hx hb dX3_leak_62 rfl (lv_at hl 0 rfl) ?_
    refine va_get (ci := 3) (v := .ref (mo 4)) (C := RX3) (T := TX3) (N := 12) hx hb hts (fun _ h => (List.mem_cons_of_mem _ (List.mem_append_right _ h))) hown hK hP 0 rfl rfl 8 (by decide) (hts _ (List.mem_cons_of_mem _ (List.mem_append_left _ (List.mem_of_getElem? (i := 6) rfl)))) (fun _ h9 => h9) rfl dX3_leak_63 ?_
    refine lv_iload_n hx hb dX3_leak_66 rfl (lv_at hl 1 rfl) ?_
    refine z_iald hx hb hK hP 4 0 rfl rfl (by omega) (by decide) dX3_leak_67 ?_
    refine z_top (x' := nI (z_bt G t)) rfl ?_
    refine lv_iadd hx hb dX3_leak_68 ?_
    refine z_top (x' := nI (1 + (z_bt G t))) (nI_add _ _) ?_
    refine lv_dup2_11 hx hb dX3_leak_69 rfl rfl ?_
    refine z_iald hx hb hK hP 6 0 rfl rfl (by omega) (by decide) dX3_leak_70 ?_
    refine z_top (x' := z_sw (z_setpl (z_setvc D t (z_wv G D t)) t 3) (z_bt G t)) (z_nw_sw _ (by omega)) ?_
    refine lv_iconst (v := 1) hx hb dX3_leak_71 (by decide) ?_
    refine lv_iadd hx hb dX3_leak_72 ?_
    refine z_iast hx hb hK hP hD hS 6 0 rfl rfl (by omega) (by decide) dX3_leak_73 (fun H locs hP hD hS => ?_)
    have hP : va_P Dg vwCl (z_mX cI mo th (nI (z_bc G)) (nI (z_tc G)) (nI (z_sd G)) (nI (z_od G)) (z_v0 G) (z_lk G) (z_wm G) (fun j9 => nI (z_bt G j9)) (fun j9 => nI (z_sh G j9)) (upd (z_nw (z_setpl (z_setvc D t (z_wv G D t)) t 3)) (1 + (z_bt G t)) ((z_sw (z_setpl (z_setvc D t (z_wv G D t)) t 3) (z_bt G t)) + 1)) K) H := hP
    have hD : va_D _ (z_mX cI mo th (nI (z_bc G)) (nI (z_tc G)) (nI (z_sd G)) (nI (z_od G)) (z_v0 G) (z_lk G) (z_wm G) (fun j9 => nI (z_bt G j9)) (fun j9 => nI (z_sh G j9)) (upd (z_nw (z_setpl (z_setvc D t (z_wv G D t)) t 3)) (1 + (z_bt G t)) ((z_sw (z_setpl (z_setvc D t (z_wv G D t)) t 3) (z_bt G t)) + 1)) K) := hD
    rw [z_nu_sw (z_setpl (z_setvc D t (z_wv G D t)) t 3) (by omega)] at hP hD
    have hP : va_P Dg vwCl (z_mW cI mo th G (z_addsw (z_setpl (z_setvc D t (z_wv G D t)) t 3) (z_bt G t)) K) H := hP
    have hD : va_D _ (z_mW cI mo th G (z_addsw (z_setpl (z_setvc D t (z_wv G D t)) t 3) (z_bt G t)) K) := hD
    have hP : va_P Dg vwCl (z_mW cI mo th G (z_sl G (z_setvc D t (z_wv G D t)) t) K) H := hP
    have hD : va_D _ (z_mW cI mo th G (z_sl G (z_setvc D t (z_wv G D t)) t) K) := hD
    have qD : z_w1 G D t = z_sl G (z_setvc D t (z_wv G D t)) t := (by rw [z_w1, if_pos hp1, if_pos (z_wv_0 c43)])
    rw [← qD] at hP hD
    have hP : va_P Dg vwCl (z_mW cI mo th G (z_w1 G D t) K) H := hP
    have hD : va_D _ (z_mW cI mo th G (z_w1 G D t) K) := hD
    exact z_ew_v hP hS hx hb hr hlk dX3_leak_74
  · skip
    have qD : z_w1 G D t = z_setvc D t (z_wv G D t) := (by rw [z_w1, if_pos hp1, if_neg (z_i32_pos (z_i32_lt c43))])
    rw [← qD] at hP hD
    have hP : va_P Dg vwCl (z_mW cI mo th G (z_w1 G D t) K) H := hP
    have hD : va_D _ (z_mW cI mo th G (z_w1 G D t) K) := hD
    exact z_ew_v hP hS hx hb hr hlk dX3_leak_46

set_option maxHeartbeats 4000000 in
set_option maxRecDepth 100000 in
theorem m_X3_takeBack (l : Launch) (Dg : va_G) (cI : ClassId) (mo : Nat → Nat) (th : Int32) (G : z_GG) (D : z_DD) (K : Nat → Int32) (b : Nat) (hb6 : b < 6) (hG : z_WG G) (hW : z_WD G D) : z_Mw l yX3_takeBack wsX3_takeBack 1 21 [.ref (mo 0), .int (nI b)] Dg cI (z_mW cI mo th G D K) (some (.int (nI (z_rb G b D).1))) (z_mW cI mo th G ((z_rb G b D).2) K) := by
  have htc : z_tc G ≤ 60 := hG.2.2.2.2.2.1
  have hbc : z_bc G ≤ 6 := hG.2.2.2.2.1
  refine z_sw' (own := RX3) (l0 := [(0, .ref (mo 0)), (1, .int (nI b))]) rfl rfl (by decide) (Nat.le_of_ble_eq_true rfl) rfl ?_
  intro p e s m below meth c hx hb hr hml hts hown hlk hP hK hN hD hS ls hl
  refine lv_aload_n hx hb dX3_takeBack_0 rfl (lv_at hl 0 rfl) ?_
  refine va_get (ci := 3) (v := .ref (mo 6)) (C := RX3) (T := TX3) (N := 12) hx hb hts (fun _ h => (List.mem_cons_of_mem _ (List.mem_append_right _ h))) hown hK hP 0 rfl rfl 10 (by decide) (hts _ (List.mem_cons_of_mem _ (List.mem_append_left _ (List.mem_of_getElem? (i := 0) rfl)))) (fun _ h9 => h9) rfl dX3_takeBack_1 ?_
  refine lv_bipush (v := nI 7) hx hb dX3_takeBack_4 (by decide) ?_
  refine lv_iload_n hx hb dX3_takeBack_6 rfl (lv_at hl 1 rfl) ?_
  refine lv_iadd hx hb dX3_takeBack_7 ?_
  refine z_top (x' := nI (7 + b)) (nI_add _ _) ?_
  refine lv_iconst (v := 1) hx hb dX3_takeBack_8 (by decide) ?_
  refine z_iast hx hb hK hP hD hS 6 0 rfl rfl (by omega) (by decide) dX3_takeBack_9 (fun H locs hP hD hS => ?_)
  have hP : va_P Dg vwCl (z_mX cI mo th (nI (z_bc G)) (nI (z_tc G)) (nI (z_sd G)) (nI (z_od G)) (z_v0 G) (z_lk G) (z_wm G) (fun j9 => nI (z_bt G j9)) (fun j9 => nI (z_sh G j9)) (upd (z_nw D) (7 + b) 1) K) H := hP
  have hD : va_D _ (z_mX cI mo th (nI (z_bc G)) (nI (z_tc G)) (nI (z_sd G)) (nI (z_od G)) (z_v0 G) (z_lk G) (z_wm G) (fun j9 => nI (z_bt G j9)) (fun j9 => nI (z_sh G j9)) (upd (z_nw D) (7 + b) 1) K) := hD
  rw [z_nu_rc D (by omega)] at hP hD
  have hP : va_P Dg vwCl (z_mW cI mo th G (z_setrc D b) K) H := hP
  have hD : va_D _ (z_mW cI mo th G (z_setrc D b) K) := hD
  refine lv_iconst (v := nI 0) hx hb dX3_takeBack_10 (by decide) ?_
  refine lv_istore_n (lv' := [(2, .int (nI 0)), (0, .ref (mo 0)), (1, .int (nI b))]) hx hb dX3_takeBack_11 rfl hl (by decide) rfl (fun ls hl => ?_)
  refine lv_iconst (v := nI 0) hx hb dX3_takeBack_12 (by decide) ?_
  refine lv_istore_n (lv' := [(3, .int (nI 0)), (2, .int (nI 0)), (0, .ref (mo 0)), (1, .int (nI b))]) hx hb dX3_takeBack_13 rfl hl (by decide) rfl (fun ls hl => ?_)
  have lp14 : ∀ (zz i : Nat) , i ≤ z_tc G → z_tc G + 1 ≤ i + zz → ∀ (H : Heap) (locs : List Loc), va_P Dg vwCl (z_mW cI mo th G ((z_tb G b (z_setrc D b) i).2) K) H → va_D (z_in (z_mW cI mo th G D K)) (z_mW cI mo th G ((z_tb G b (z_setrc D b) i).2) K) → va_S (z_in (z_mW cI mo th G D K)) s.heap H locs → ∀ ls : Array Slot, lv_has ls 4 [(0, .ref (mo 0)), (1, .int (nI b)), (2, .int (nI (z_tb G b (z_setrc D b) i).1)), (3, .int (nI i))] → W p l e ({ frames := 1, cells := 0, slots := 0, locals := 21 } : Room) s m ([.ref (mo 0), .int (nI b)] : List Value).toArray below meth c H locs 0 0 (MQ below (z_Qw (some (.int (nI (z_rb G b D).1))) Dg (z_mW cI mo th G D K) (z_mW cI mo th G ((z_rb G b D).2) K)) ([.ref (mo 0), .int (nI b)] : List Value).toArray s 0 0 (z_in (z_mW cI mo th G D K))) (F0 m 14 ls []) := by
    intro zz
    induction zz with
    | zero => intros; exfalso; omega
    | succ zz ih14 =>
      intro i hi hzz H locs hP hD hS ls hl
      refine lv_iload_n hx hb dX3_takeBack_14 rfl (lv_at hl 3 rfl) ?_
      refine lv_aload_n hx hb dX3_takeBack_15 rfl (lv_at hl 0 rfl) ?_
      refine va_get (ci := 3) (v := .int (nI (z_tc G))) (C := RX3) (T := TX3) (N := 12) hx hb hts (fun _ h => (List.mem_cons_of_mem _ (List.mem_append_right _ h))) hown hK hP 0 rfl rfl 2 (by decide) (hts _ (List.mem_cons_of_mem _ (List.mem_append_left _ (List.mem_of_getElem? (i := 1) rfl)))) (fun _ h9 => h9) rfl dX3_takeBack_16 ?_
      refine lv_icmp_ge (tgt := 62) hx hb dX3_takeBack_19 (by decide) (fun c19 => ?_) (fun c19 => ?_)
      · skip
        have hi2 : i = z_tc G := Nat.le_antisymm hi (z_le (by omega) (by omega) c19)
        rw [hi2] at hP
        refine lv_iload_n hx hb dX3_takeBack_62 rfl (lv_at hl 2 rfl) ?_
        exact z_ew_i (by rw [hi2]; rfl) hP hS hx hb hr hlk dX3_takeBack_63
      · skip
        have hi2 : i < z_tc G := z_nle (by omega) c19
        have hWi := z_WD_tb (D := z_setrc D b) b hW i
        have hpl := hWi i hi2
        have hbt := hG.2.2.1 i
        refine lv_aload_n hx hb dX3_takeBack_22 rfl (lv_at hl 0 rfl) ?_
        refine lv_iload_n hx hb dX3_takeBack_23 rfl (lv_at hl 3 rfl) ?_
        refine z_rVi (v := z_bI (z_pl ((z_tb G b (z_setrc D b) i).2) i == 1)) [] hx hb hml hown hts (m_X3_isHere l Dg cI mo th G ((z_tb G b (z_setrc D b) i).2) K i (by omega) hG hWi) gX3_takeBack_X3_isHere rfl kd_X3_isHere ⟨Nat.le_of_ble_eq_true rfl, Nat.le_of_ble_eq_true rfl⟩ hK hN hP rfl rfl rfl rfl hl.1 rfl (Nat.le_of_ble_eq_true rfl) dX3_takeBack_24 ⟨Nat.zero_le _, Nat.zero_le _⟩ ?_
        refine lv_if_eq (tgt := 56) hx hb dX3_takeBack_27 (by decide) (fun c27 => ?_) (fun c27 => ?_)
        · skip
          have e1 : z_tb G b (z_setrc D b) (i + 1) = z_tb G b (z_setrc D b) i := z_tb_f (fun q => z_bne' (z_bI0 c27) q.1)
          have hl : lv_has ls 4 [(0, .ref (mo 0)), (1, .int (nI b)), (2, .int (nI (z_tb G b (z_setrc D b) (i + 1)).1)), (3, .int (nI i))] := by have q : nI (z_tb G b (z_setrc D b) i).1 = nI (z_tb G b (z_setrc D b) (i + 1)).1 := (by rw [e1]); rw [← q]; exact hl
          have qD : (z_tb G b (z_setrc D b) (i + 1)).2 = (z_tb G b (z_setrc D b) i).2 := (by rw [e1])
          rw [← qD] at hP hD
          have hP : va_P Dg vwCl (z_mW cI mo th G ((z_tb G b (z_setrc D b) (i + 1)).2) K) H := hP
          have hD : va_D _ (z_mW cI mo th G ((z_tb G b (z_setrc D b) (i + 1)).2) K) := hD
          refine lv_iinc (v := nI (i + 1)) (lv' := [(3, .int (nI (i + 1))), (0, .ref (mo 0)), (1, .int (nI b)), (2, .int (nI (z_tb G b (z_setrc D b) (i + 1)).1))]) hx hb dX3_takeBack_56 hl (k := 3) rfl (nI_1 _) (by decide) rfl (fun ls hl => ?_)
          refine lv_goto (tgt := 14) hx hb dX3_takeBack_59 (by decide) ?_
          exact ih14 (i + 1) (by omega) (by omega) _ _ hP hD hS _ (lv_sub hl [1, 2, 3, 0] rfl)
        · skip
          refine lv_aload_n hx hb dX3_takeBack_30 rfl (lv_at hl 0 rfl) ?_
          refine va_get (ci := 3) (v := .ref (mo 4)) (C := RX3) (T := TX3) (N := 12) hx hb hts (fun _ h => (List.mem_cons_of_mem _ (List.mem_append_right _ h))) hown hK hP 0 rfl rfl 8 (by decide) (hts _ (List.mem_cons_of_mem _ (List.mem_append_left _ (List.mem_of_getElem? (i := 2) rfl)))) (fun _ h9 => h9) rfl dX3_takeBack_31 ?_
          refine lv_iload_n hx hb dX3_takeBack_34 rfl (lv_at hl 3 rfl) ?_
          refine z_iald hx hb hK hP 4 0 rfl rfl (by omega) (by decide) dX3_takeBack_35 ?_
          refine z_top (x' := nI (z_bt G i)) rfl ?_
          refine lv_iload_n hx hb dX3_takeBack_36 rfl (lv_at hl 1 rfl) ?_
          refine lv_icmp_eq (tgt := 43) hx hb dX3_takeBack_37 (by decide) (fun c37 => ?_) (fun c37 => ?_)
          · skip
            refine lv_aload_n hx hb dX3_takeBack_43 rfl (lv_at hl 0 rfl) ?_
            refine va_get (ci := 3) (v := .ref (mo 6)) (C := RX3) (T := TX3) (N := 12) hx hb hts (fun _ h => (List.mem_cons_of_mem _ (List.mem_append_right _ h))) hown hK hP 0 rfl rfl 10 (by decide) (hts _ (List.mem_cons_of_mem _ (List.mem_append_left _ (List.mem_of_getElem? (i := 0) rfl)))) (fun _ h9 => h9) rfl dX3_takeBack_44 ?_
            refine lv_bipush (v := nI 13) hx hb dX3_takeBack_47 (by decide) ?_
            refine lv_iload_n hx hb dX3_takeBack_49 rfl (lv_at hl 3 rfl) ?_
            refine lv_iadd hx hb dX3_takeBack_50 ?_
            refine z_top (x' := nI (13 + i)) (nI_add _ _) ?_
            refine lv_iconst (v := nI 2) hx hb dX3_takeBack_51 (by decide) ?_
            refine z_iast hx hb hK hP hD hS 6 0 rfl rfl (by omega) (by decide) dX3_takeBack_52 (fun H locs hP hD hS => ?_)
            have hP : va_P Dg vwCl (z_mX cI mo th (nI (z_bc G)) (nI (z_tc G)) (nI (z_sd G)) (nI (z_od G)) (z_v0 G) (z_lk G) (z_wm G) (fun j9 => nI (z_bt G j9)) (fun j9 => nI (z_sh G j9)) (upd (z_nw ((z_tb G b (z_setrc D b) i).2)) (13 + i) (nI 2)) K) H := hP
            have hD : va_D _ (z_mX cI mo th (nI (z_bc G)) (nI (z_tc G)) (nI (z_sd G)) (nI (z_od G)) (z_v0 G) (z_lk G) (z_wm G) (fun j9 => nI (z_bt G j9)) (fun j9 => nI (z_sh G j9)) (upd (z_nw ((z_tb G b (z_setrc D b) i).2)) (13 + i) (nI 2)) K) := hD
            rw [z_nu_pl ((z_tb G b (z_setrc D b) i).2) 2 3 (by omega) rfl] at hP hD
            have hP : va_P Dg vwCl (z_mW cI mo th G (z_setpl ((z_tb G b (z_setrc D b) i).2) i 3) K) H := hP
            have hD : va_D _ (z_mW cI mo th G (z_setpl ((z_tb G b (z_setrc D b) i).2) i 3) K) := hD
            refine lv_iinc (v := nI ((z_tb G b (z_setrc D b) i).1 + 1)) (lv' := [(2, .int (nI ((z_tb G b (z_setrc D b) i).1 + 1))), (0, .ref (mo 0)), (1, .int (nI b)), (3, .int (nI i))]) hx hb dX3_takeBack_53 hl (k := 2) rfl (nI_1 _) (by decide) rfl (fun ls hl => ?_)
            have e1 : z_tb G b (z_setrc D b) (i + 1) = ((z_tb G b (z_setrc D b) i).1 + 1, z_setpl (z_tb G b (z_setrc D b) i).2 i 3) := z_tb_t (z_beq' (z_bI1 c27)) (z_eq (by omega) (by omega) c37)
            have hl : lv_has ls 4 [(2, .int (nI (z_tb G b (z_setrc D b) (i + 1)).1)), (0, .ref (mo 0)), (1, .int (nI b)), (3, .int (nI i))] := by have q : nI ((z_tb G b (z_setrc D b) i).1 + 1) = nI (z_tb G b (z_setrc D b) (i + 1)).1 := (by rw [e1]); rw [← q]; exact hl
            have qD : (z_tb G b (z_setrc D b) (i + 1)).2 = z_setpl ((z_tb G b (z_setrc D b) i).2) i 3 := (by rw [e1])
            rw [← qD] at hP hD
            have hP : va_P Dg vwCl (z_mW cI mo th G ((z_tb G b (z_setrc D b) (i + 1)).2) K) H := hP
            have hD : va_D _ (z_mW cI mo th G ((z_tb G b (z_setrc D b) (i + 1)).2) K) := hD
            refine lv_iinc (v := nI (i + 1)) (lv' := [(3, .int (nI (i + 1))), (2, .int (nI (z_tb G b (z_setrc D b) (i + 1)).1)), (0, .ref (mo 0)), (1, .int (nI b))]) hx hb dX3_takeBack_56 hl (k := 3) rfl (nI_1 _) (by decide) rfl (fun ls hl => ?_)
            refine lv_goto (tgt := 14) hx hb dX3_takeBack_59 (by decide) ?_
            exact ih14 (i + 1) (by omega) (by omega) _ _ hP hD hS _ (lv_sub hl [2, 3, 1, 0] rfl)
          · skip
            refine lv_goto (tgt := 56) hx hb dX3_takeBack_40 (by decide) ?_
            have e1 : z_tb G b (z_setrc D b) (i + 1) = z_tb G b (z_setrc D b) i := z_tb_f (fun q => z_ne (by omega) (by omega) c37 q.2)
            have hl : lv_has ls 4 [(0, .ref (mo 0)), (1, .int (nI b)), (2, .int (nI (z_tb G b (z_setrc D b) (i + 1)).1)), (3, .int (nI i))] := by have q : nI (z_tb G b (z_setrc D b) i).1 = nI (z_tb G b (z_setrc D b) (i + 1)).1 := (by rw [e1]); rw [← q]; exact hl
            have qD : (z_tb G b (z_setrc D b) (i + 1)).2 = (z_tb G b (z_setrc D b) i).2 := (by rw [e1])
            rw [← qD] at hP hD
            have hP : va_P Dg vwCl (z_mW cI mo th G ((z_tb G b (z_setrc D b) (i + 1)).2) K) H := hP
            have hD : va_D _ (z_mW cI mo th G ((z_tb G b (z_setrc D b) (i + 1)).2) K) := hD
            refine lv_iinc (v := nI (i + 1)) (lv' := [(3, .int (nI (i + 1))), (0, .ref (mo 0)), (1, .int (nI b)), (2, .int (nI (z_tb G b (z_setrc D b) (i + 1)).1))]) hx hb dX3_takeBack_56 hl (k := 3) rfl (nI_1 _) (by decide) rfl (fun ls hl => ?_)
            refine lv_goto (tgt := 14) hx hb dX3_takeBack_59 (by decide) ?_
            exact ih14 (i + 1) (by omega) (by omega) _ _ hP hD hS _ (lv_sub hl [1, 2, 3, 0] rfl)
  exact lp14 (z_tc G + 1) 0 (by omega) (by omega) _ _ hP hD hS _ (lv_sub hl [2, 3, 1, 0] rfl)

set_option maxHeartbeats 4000000 in
set_option maxRecDepth 100000 in
theorem m_X3_dayOn (l : Launch) (Dg : va_G) (cI : ClassId) (mo : Nat → Nat) (th : Int32) (G : z_GG) (D : z_DD) (K : Nat → Int32) (hG : z_WG G) (hW : z_WD G D) : z_Mw l yX3_dayOn wsX3_dayOn 2 45 [.ref (mo 0)] Dg cI (z_mW cI mo th G D K) none (z_mW cI mo th G (z_day G D) K) := by
  have htc : z_tc G ≤ 60 := hG.2.2.2.2.2.1
  have hbc : z_bc G ≤ 6 := hG.2.2.2.2.1
  have hsd : z_sd G ≤ 9 := hG.2.2.2.2.2.2.1
  have hod : z_od G ≤ 2 := hG.2.2.2.2.2.2.2
  refine z_sw' (own := RX3) (l0 := [(0, .ref (mo 0))]) rfl rfl (by decide) (Nat.le_of_ble_eq_true rfl) rfl ?_
  intro p e s m below meth c hx hb hr hml hts hown hlk hP hK hN hD hS ls hl
  refine lv_iconst (v := nI 0) hx hb dX3_dayOn_0 (by decide) ?_
  refine lv_istore_n (lv' := [(1, .int (nI 0)), (0, .ref (mo 0))]) hx hb dX3_dayOn_1 rfl hl (by decide) rfl (fun ls hl => ?_)
  have lp2 : ∀ (zz i : Nat) , i ≤ z_tc G → z_tc G + 1 ≤ i + zz → ∀ (H : Heap) (locs : List Loc), va_P Dg vwCl (z_mW cI mo th G (z_wn G D i) K) H → va_D (z_in (z_mW cI mo th G D K)) (z_mW cI mo th G (z_wn G D i) K) → va_S (z_in (z_mW cI mo th G D K)) s.heap H locs → ∀ ls : Array Slot, lv_has ls 3 [(0, .ref (mo 0)), (1, .int (nI i))] → W p l e ({ frames := 2, cells := 0, slots := 0, locals := 45 } : Room) s m ([.ref (mo 0)] : List Value).toArray below meth c H locs 0 0 (MQ below (z_Qw none Dg (z_mW cI mo th G D K) (z_mW cI mo th G (z_day G D) K)) ([.ref (mo 0)] : List Value).toArray s 0 0 (z_in (z_mW cI mo th G D K))) (F0 m 2 ls []) := by
    intro zz
    induction zz with
    | zero => intros; exfalso; omega
    | succ zz ih2 =>
      intro i hi hzz H locs hP hD hS ls hl
      refine lv_iload_n hx hb dX3_dayOn_2 rfl (lv_at hl 1 rfl) ?_
      refine lv_aload_n hx hb dX3_dayOn_3 rfl (lv_at hl 0 rfl) ?_
      refine va_get (ci := 3) (v := .int (nI (z_tc G))) (C := RX3) (T := TX3) (N := 12) hx hb hts (fun _ h => (List.mem_cons_of_mem _ (List.mem_append_right _ h))) hown hK hP 0 rfl rfl 2 (by decide) (hts _ (List.mem_cons_of_mem _ (List.mem_append_left _ (List.mem_append_left _ (List.mem_of_getElem? (i := 0) rfl))))) (fun _ h9 => h9) rfl dX3_dayOn_4 ?_
      refine lv_icmp_ge (tgt := 29) hx hb dX3_dayOn_7 (by decide) (fun c7 => ?_) (fun c7 => ?_)
      · skip
        have hi2 : i = z_tc G := Nat.le_antisymm hi (z_le (by omega) (by omega) c7)
        rw [hi2] at hP hD
        refine lv_iconst (v := nI 0) hx hb dX3_dayOn_29 (by decide) ?_
        refine lv_istore_n (lv' := [(1, .int (nI 0)), (0, .ref (mo 0))]) hx hb dX3_dayOn_30 rfl hl (by decide) rfl (fun ls hl => ?_)
        have lp31 : ∀ (zz i : Nat) , i ≤ z_bc G → z_bc G + 1 ≤ i + zz → ∀ (H : Heap) (locs : List Loc), va_P Dg vwCl (z_mW cI mo th G (z_rn G (z_wn G D (z_tc G)) i) K) H → va_D (z_in (z_mW cI mo th G D K)) (z_mW cI mo th G (z_rn G (z_wn G D (z_tc G)) i) K) → va_S (z_in (z_mW cI mo th G D K)) s.heap H locs → ∀ ls : Array Slot, lv_has ls 3 [(0, .ref (mo 0)), (1, .int (nI i))] → W p l e ({ frames := 2, cells := 0, slots := 0, locals := 45 } : Room) s m ([.ref (mo 0)] : List Value).toArray below meth c H locs 0 0 (MQ below (z_Qw none Dg (z_mW cI mo th G D K) (z_mW cI mo th G (z_day G D) K)) ([.ref (mo 0)] : List Value).toArray s 0 0 (z_in (z_mW cI mo th G D K))) (F0 m 31 ls []) := by
          intro zz
          induction zz with
          | zero => intros; exfalso; omega
          | succ zz ih31 =>
            intro i hi hzz H locs hP hD hS ls hl
            refine lv_iload_n hx hb dX3_dayOn_31 rfl (lv_at hl 1 rfl) ?_
            refine lv_aload_n hx hb dX3_dayOn_32 rfl (lv_at hl 0 rfl) ?_
            refine va_get (ci := 3) (v := .int (nI (z_bc G))) (C := RX3) (T := TX3) (N := 12) hx hb hts (fun _ h => (List.mem_cons_of_mem _ (List.mem_append_right _ h))) hown hK hP 0 rfl rfl 1 (by decide) (hts _ (List.mem_cons_of_mem _ (List.mem_append_left _ (List.mem_append_left _ (List.mem_of_getElem? (i := 1) rfl))))) (fun _ h9 => h9) rfl dX3_dayOn_33 ?_
            refine lv_icmp_ge (tgt := 75) hx hb dX3_dayOn_36 (by decide) (fun c36 => ?_) (fun c36 => ?_)
            · skip
              have hi2 : i = z_bc G := Nat.le_antisymm hi (z_le (by omega) (by omega) c36)
              rw [hi2] at hP hD
              refine lv_iconst (v := nI 0) hx hb dX3_dayOn_75 (by decide) ?_
              refine lv_istore_n (lv' := [(1, .int (nI 0)), (0, .ref (mo 0))]) hx hb dX3_dayOn_76 rfl hl (by decide) rfl (fun ls hl => ?_)
              have lp77 : ∀ (zz i : Nat) , i ≤ z_sd G → z_sd G + 1 ≤ i + zz → ∀ (H : Heap) (locs : List Loc), va_P Dg vwCl (z_mW cI mo th G (z_sn G (z_rn G (z_wn G D (z_tc G)) (z_bc G)) i) K) H → va_D (z_in (z_mW cI mo th G D K)) (z_mW cI mo th G (z_sn G (z_rn G (z_wn G D (z_tc G)) (z_bc G)) i) K) → va_S (z_in (z_mW cI mo th G D K)) s.heap H locs → ∀ ls : Array Slot, lv_has ls 3 [(0, .ref (mo 0)), (1, .int (nI i))] → W p l e ({ frames := 2, cells := 0, slots := 0, locals := 45 } : Room) s m ([.ref (mo 0)] : List Value).toArray below meth c H locs 0 0 (MQ below (z_Qw none Dg (z_mW cI mo th G D K) (z_mW cI mo th G (z_day G D) K)) ([.ref (mo 0)] : List Value).toArray s 0 0 (z_in (z_mW cI mo th G D K))) (F0 m 77 ls []) := by
                intro zz
                induction zz with
                | zero => intros; exfalso; omega
                | succ zz ih77 =>
                  intro i hi hzz H locs hP hD hS ls hl
                  refine lv_iload_n hx hb dX3_dayOn_77 rfl (lv_at hl 1 rfl) ?_
                  refine lv_aload_n hx hb dX3_dayOn_78 rfl (lv_at hl 0 rfl) ?_
                  refine va_get (ci := 3) (v := .int (nI (z_sd G))) (C := RX3) (T := TX3) (N := 12) hx hb hts (fun _ h => (List.mem_cons_of_mem _ (List.mem_append_right _ h))) hown hK hP 0 rfl rfl 3 (by decide) (hts _ (List.mem_cons_of_mem _ (List.mem_append_left _ (List.mem_append_left _ (List.mem_of_getElem? (i := 3) rfl))))) (fun _ h9 => h9) rfl dX3_dayOn_79 ?_
                  refine lv_icmp_ge (tgt := 115) hx hb dX3_dayOn_82 (by decide) (fun c82 => ?_) (fun c82 => ?_)
                  · skip
                    have hi2 : i = z_sd G := Nat.le_antisymm hi (z_le (by omega) (by omega) c82)
                    rw [hi2] at hP hD
                    refine lv_aload_n hx hb dX3_dayOn_115 rfl (lv_at hl 0 rfl) ?_
                    refine va_get (ci := 3) (v := .ref (mo 6)) (C := RX3) (T := TX3) (N := 12) hx hb hts (fun _ h => (List.mem_cons_of_mem _ (List.mem_append_right _ h))) hown hK hP 0 rfl rfl 10 (by decide) (hts _ (List.mem_cons_of_mem _ (List.mem_append_left _ (List.mem_append_left _ (List.mem_of_getElem? (i := 2) rfl))))) (fun _ h9 => h9) rfl dX3_dayOn_116 ?_
                    refine lv_iconst (v := nI 0) hx hb dX3_dayOn_119 (by decide) ?_
                    refine lv_dup2_11 hx hb dX3_dayOn_120 rfl rfl ?_
                    refine z_iald hx hb hK hP 6 0 rfl rfl (by omega) (by decide) dX3_dayOn_121 ?_
                    refine z_top (x' := z_dy (z_sn G (z_rn G (z_wn G D (z_tc G)) (z_bc G)) (z_sd G))) (z_nw_dy _) ?_
                    refine lv_iconst (v := 1) hx hb dX3_dayOn_122 (by decide) ?_
                    refine lv_iadd hx hb dX3_dayOn_123 ?_
                    refine z_iast hx hb hK hP hD hS 6 0 rfl rfl (by omega) (by decide) dX3_dayOn_124 (fun H locs hP hD hS => ?_)
                    have hP : va_P Dg vwCl (z_mX cI mo th (nI (z_bc G)) (nI (z_tc G)) (nI (z_sd G)) (nI (z_od G)) (z_v0 G) (z_lk G) (z_wm G) (fun j9 => nI (z_bt G j9)) (fun j9 => nI (z_sh G j9)) (upd (z_nw (z_sn G (z_rn G (z_wn G D (z_tc G)) (z_bc G)) (z_sd G))) 0 ((z_dy (z_sn G (z_rn G (z_wn G D (z_tc G)) (z_bc G)) (z_sd G))) + 1)) K) H := hP
                    have hD : va_D _ (z_mX cI mo th (nI (z_bc G)) (nI (z_tc G)) (nI (z_sd G)) (nI (z_od G)) (z_v0 G) (z_lk G) (z_wm G) (fun j9 => nI (z_bt G j9)) (fun j9 => nI (z_sh G j9)) (upd (z_nw (z_sn G (z_rn G (z_wn G D (z_tc G)) (z_bc G)) (z_sd G))) 0 ((z_dy (z_sn G (z_rn G (z_wn G D (z_tc G)) (z_bc G)) (z_sd G))) + 1)) K) := hD
                    rw [z_nu_dy] at hP hD
                    have hP : va_P Dg vwCl (z_mW cI mo th G (z_setdy (z_sn G (z_rn G (z_wn G D (z_tc G)) (z_bc G)) (z_sd G)) ((z_dy (z_sn G (z_rn G (z_wn G D (z_tc G)) (z_bc G)) (z_sd G))) + 1)) K) H := hP
                    have hD : va_D _ (z_mW cI mo th G (z_setdy (z_sn G (z_rn G (z_wn G D (z_tc G)) (z_bc G)) (z_sd G)) ((z_dy (z_sn G (z_rn G (z_wn G D (z_tc G)) (z_bc G)) (z_sd G))) + 1)) K) := hD
                    have hP : va_P Dg vwCl (z_mW cI mo th G (z_day G D) K) H := hP
                    have hD : va_D _ (z_mW cI mo th G (z_day G D) K) := hD
                    exact z_ew_v hP hS hx hb hr hlk dX3_dayOn_125
                  · skip
                    have hi2 : i < z_sd G := z_nle (by omega) c82
                    have hWi := z_WD_sn (z_WD_rn (z_WD_wn hW (z_tc G)) (z_bc G)) i
                    have hfb := z_fb_le G (z_sn G (z_rn G (z_wn G D (z_tc G)) (z_bc G)) i) (z_od G) (z_tc G)
                    refine lv_aload_n hx hb dX3_dayOn_85 rfl (lv_at hl 0 rfl) ?_
                    refine lv_aload_n hx hb dX3_dayOn_86 rfl (lv_at hl 0 rfl) ?_
                    refine va_get (ci := 3) (v := .int (nI (z_od G))) (C := RX3) (T := TX3) (N := 12) hx hb hts (fun _ h => (List.mem_cons_of_mem _ (List.mem_append_right _ h))) hown hK hP 0 rfl rfl 4 (by decide) (hts _ (List.mem_cons_of_mem _ (List.mem_append_left _ (List.mem_append_left _ (List.mem_of_getElem? (i := 4) rfl))))) (fun _ h9 => h9) rfl dX3_dayOn_87 ?_
                    refine z_rVi (v := z_oi (z_fb G (z_sn G (z_rn G (z_wn G D (z_tc G)) (z_bc G)) i) (z_od G) (z_tc G))) [] hx hb hml hown hts (m_X3_firstBy l Dg cI mo th G (z_sn G (z_rn G (z_wn G D (z_tc G)) (z_bc G)) i) K (z_od G) (by omega) hG hWi) gX3_dayOn_X3_firstBy rfl kd_X3_firstBy ⟨Nat.le_of_ble_eq_true rfl, Nat.le_of_ble_eq_true rfl⟩ hK hN hP rfl rfl rfl rfl hl.1 rfl (Nat.le_of_ble_eq_true rfl) dX3_dayOn_90 ⟨Nat.zero_le _, Nat.zero_le _⟩ ?_
                    refine lv_istore_n (lv' := [(2, .int (z_oi (z_fb G (z_sn G (z_rn G (z_wn G D (z_tc G)) (z_bc G)) i) (z_od G) (z_tc G)))), (0, .ref (mo 0)), (1, .int (nI i))]) hx hb dX3_dayOn_93 rfl hl (by decide) rfl (fun ls hl => ?_)
                    refine lv_iload_n hx hb dX3_dayOn_94 rfl (lv_at hl 0 rfl) ?_
                    refine lv_iconst (v := (-1)) hx hb dX3_dayOn_95 (by decide) ?_
                    refine lv_icmp_eq (tgt := 109) hx hb dX3_dayOn_96 (by decide) (fun c96 => ?_) (fun c96 => ?_)
                    · skip
                      have qD : z_sn G (z_rn G (z_wn G D (z_tc G)) (z_bc G)) (i + 1) = (z_sn G (z_rn G (z_wn G D (z_tc G)) (z_bc G)) i) := (by rw [z_sn, z_s1, z_oi_m (by omega) c96]; rfl)
                      rw [← qD] at hP hD
                      have hP : va_P Dg vwCl (z_mW cI mo th G (z_sn G (z_rn G (z_wn G D (z_tc G)) (z_bc G)) (i + 1)) K) H := hP
                      have hD : va_D _ (z_mW cI mo th G (z_sn G (z_rn G (z_wn G D (z_tc G)) (z_bc G)) (i + 1)) K) := hD
                      refine lv_iinc (v := nI (i + 1)) (lv' := [(1, .int (nI (i + 1))), (2, .int (z_oi (z_fb G (z_sn G (z_rn G (z_wn G D (z_tc G)) (z_bc G)) i) (z_od G) (z_tc G)))), (0, .ref (mo 0))]) hx hb dX3_dayOn_109 hl (k := 2) rfl (nI_1 _) (by decide) rfl (fun ls hl => ?_)
                      refine lv_goto (tgt := 77) hx hb dX3_dayOn_112 (by decide) ?_
                      exact ih77 (i + 1) (by omega) (by omega) _ _ hP hD hS _ (lv_sub hl [2, 0] rfl)
                    · skip
                      have hfp := z_oi_n c96
                      have hl : lv_has ls 3 [(2, .int (nI (z_fb G (z_sn G (z_rn G (z_wn G D (z_tc G)) (z_bc G)) i) (z_od G) (z_tc G) - 1))), (0, .ref (mo 0)), (1, .int (nI i))] := by have q : z_oi (z_fb G (z_sn G (z_rn G (z_wn G D (z_tc G)) (z_bc G)) i) (z_od G) (z_tc G)) = nI (z_fb G (z_sn G (z_rn G (z_wn G D (z_tc G)) (z_bc G)) i) (z_od G) (z_tc G) - 1) := (z_oi_s hfp); rw [← q]; exact hl
                      refine lv_aload_n hx hb dX3_dayOn_99 rfl (lv_at hl 1 rfl) ?_
                      refine va_get (ci := 3) (v := .ref (mo 6)) (C := RX3) (T := TX3) (N := 12) hx hb hts (fun _ h => (List.mem_cons_of_mem _ (List.mem_append_right _ h))) hown hK hP 0 rfl rfl 10 (by decide) (hts _ (List.mem_cons_of_mem _ (List.mem_append_left _ (List.mem_append_left _ (List.mem_of_getElem? (i := 2) rfl))))) (fun _ h9 => h9) rfl dX3_dayOn_100 ?_
                      refine lv_bipush (v := nI 13) hx hb dX3_dayOn_103 (by decide) ?_
                      refine lv_iload_n hx hb dX3_dayOn_105 rfl (lv_at hl 0 rfl) ?_
                      refine lv_iadd hx hb dX3_dayOn_106 ?_
                      refine z_top (x' := nI (13 + (z_fb G (z_sn G (z_rn G (z_wn G D (z_tc G)) (z_bc G)) i) (z_od G) (z_tc G) - 1))) (nI_add _ _) ?_
                      refine lv_iconst (v := nI 1) hx hb dX3_dayOn_107 (by decide) ?_
                      refine z_iast hx hb hK hP hD hS 6 0 rfl rfl (by omega) (by decide) dX3_dayOn_108 (fun H locs hP hD hS => ?_)
                      have hP : va_P Dg vwCl (z_mX cI mo th (nI (z_bc G)) (nI (z_tc G)) (nI (z_sd G)) (nI (z_od G)) (z_v0 G) (z_lk G) (z_wm G) (fun j9 => nI (z_bt G j9)) (fun j9 => nI (z_sh G j9)) (upd (z_nw (z_sn G (z_rn G (z_wn G D (z_tc G)) (z_bc G)) i)) (13 + (z_fb G (z_sn G (z_rn G (z_wn G D (z_tc G)) (z_bc G)) i) (z_od G) (z_tc G) - 1)) (nI 1)) K) H := hP
                      have hD : va_D _ (z_mX cI mo th (nI (z_bc G)) (nI (z_tc G)) (nI (z_sd G)) (nI (z_od G)) (z_v0 G) (z_lk G) (z_wm G) (fun j9 => nI (z_bt G j9)) (fun j9 => nI (z_sh G j9)) (upd (z_nw (z_sn G (z_rn G (z_wn G D (z_tc G)) (z_bc G)) i)) (13 + (z_fb G (z_sn G (z_rn G (z_wn G D (z_tc G)) (z_bc G)) i) (z_od G) (z_tc G) - 1)) (nI 1)) K) := hD
                      rw [z_nu_pl (z_sn G (z_rn G (z_wn G D (z_tc G)) (z_bc G)) i) 1 2 (by omega) rfl] at hP hD
                      have hP : va_P Dg vwCl (z_mW cI mo th G (z_setpl (z_sn G (z_rn G (z_wn G D (z_tc G)) (z_bc G)) i) (z_fb G (z_sn G (z_rn G (z_wn G D (z_tc G)) (z_bc G)) i) (z_od G) (z_tc G) - 1) 2) K) H := hP
                      have hD : va_D _ (z_mW cI mo th G (z_setpl (z_sn G (z_rn G (z_wn G D (z_tc G)) (z_bc G)) i) (z_fb G (z_sn G (z_rn G (z_wn G D (z_tc G)) (z_bc G)) i) (z_od G) (z_tc G) - 1) 2) K) := hD
                      have qD : z_sn G (z_rn G (z_wn G D (z_tc G)) (z_bc G)) (i + 1) = z_setpl (z_sn G (z_rn G (z_wn G D (z_tc G)) (z_bc G)) i) (z_fb G (z_sn G (z_rn G (z_wn G D (z_tc G)) (z_bc G)) i) (z_od G) (z_tc G) - 1) 2 := (by rw [z_sn, z_s1]; exact z_sp_s hfp)
                      rw [← qD] at hP hD
                      have hP : va_P Dg vwCl (z_mW cI mo th G (z_sn G (z_rn G (z_wn G D (z_tc G)) (z_bc G)) (i + 1)) K) H := hP
                      have hD : va_D _ (z_mW cI mo th G (z_sn G (z_rn G (z_wn G D (z_tc G)) (z_bc G)) (i + 1)) K) := hD
                      refine lv_iinc (v := nI (i + 1)) (lv' := [(1, .int (nI (i + 1))), (2, .int (nI (z_fb G (z_sn G (z_rn G (z_wn G D (z_tc G)) (z_bc G)) i) (z_od G) (z_tc G) - 1))), (0, .ref (mo 0))]) hx hb dX3_dayOn_109 hl (k := 2) rfl (nI_1 _) (by decide) rfl (fun ls hl => ?_)
                      refine lv_goto (tgt := 77) hx hb dX3_dayOn_112 (by decide) ?_
                      exact ih77 (i + 1) (by omega) (by omega) _ _ hP hD hS _ (lv_sub hl [2, 0] rfl)
              exact lp77 (z_sd G + 1) 0 (by omega) (by omega) _ _ hP hD hS _ (lv_sub hl [1, 0] rfl)
            · skip
              have hi2 : i < z_bc G := z_nle (by omega) c36
              have hWi := z_WD_rn (z_WD_wn hW (z_tc G)) i
              refine lv_aload_n hx hb dX3_dayOn_39 rfl (lv_at hl 0 rfl) ?_
              refine va_get (ci := 3) (v := .ref (mo 6)) (C := RX3) (T := TX3) (N := 12) hx hb hts (fun _ h => (List.mem_cons_of_mem _ (List.mem_append_right _ h))) hown hK hP 0 rfl rfl 10 (by decide) (hts _ (List.mem_cons_of_mem _ (List.mem_append_left _ (List.mem_append_left _ (List.mem_of_getElem? (i := 2) rfl))))) (fun _ h9 => h9) rfl dX3_dayOn_40 ?_
              refine lv_bipush (v := nI 7) hx hb dX3_dayOn_43 (by decide) ?_
              refine lv_iload_n hx hb dX3_dayOn_45 rfl (lv_at hl 1 rfl) ?_
              refine lv_iadd hx hb dX3_dayOn_46 ?_
              refine z_top (x' := nI (7 + i)) (nI_add _ _) ?_
              refine z_iald hx hb hK hP 6 0 rfl rfl (by omega) (by decide) dX3_dayOn_47 ?_
              refine z_top (x' := z_bI (z_rc (z_rn G (z_wn G D (z_tc G)) i) i)) (z_nw_rc _ (by omega)) ?_
              refine lv_if_ne (tgt := 69) hx hb dX3_dayOn_48 (by decide) (fun c48 => ?_) (fun c48 => ?_)
              · skip
                have qD : z_rn G (z_wn G D (z_tc G)) (i + 1) = (z_rn G (z_wn G D (z_tc G)) i) := (z_rn_f (fun q => absurd q.1 (by rw [z_bI1 c48]; decide)))
                rw [← qD] at hP hD
                have hP : va_P Dg vwCl (z_mW cI mo th G (z_rn G (z_wn G D (z_tc G)) (i + 1)) K) H := hP
                have hD : va_D _ (z_mW cI mo th G (z_rn G (z_wn G D (z_tc G)) (i + 1)) K) := hD
                refine lv_iinc (v := nI (i + 1)) (lv' := [(1, .int (nI (i + 1))), (0, .ref (mo 0))]) hx hb dX3_dayOn_69 hl (k := 1) rfl (nI_1 _) (by decide) rfl (fun ls hl => ?_)
                refine lv_goto (tgt := 31) hx hb dX3_dayOn_72 (by decide) ?_
                exact ih31 (i + 1) (by omega) (by omega) _ _ hP hD hS _ (lv_sub hl [1, 0] rfl)
              · skip
                refine lv_aload_n hx hb dX3_dayOn_51 rfl (lv_at hl 0 rfl) ?_
                refine va_get (ci := 3) (v := .ref (mo 6)) (C := RX3) (T := TX3) (N := 12) hx hb hts (fun _ h => (List.mem_cons_of_mem _ (List.mem_append_right _ h))) hown hK hP 0 rfl rfl 10 (by decide) (hts _ (List.mem_cons_of_mem _ (List.mem_append_left _ (List.mem_append_left _ (List.mem_of_getElem? (i := 2) rfl))))) (fun _ h9 => h9) rfl dX3_dayOn_52 ?_
                refine lv_iconst (v := nI 1) hx hb dX3_dayOn_55 (by decide) ?_
                refine lv_iload_n hx hb dX3_dayOn_56 rfl (lv_at hl 1 rfl) ?_
                refine lv_iadd hx hb dX3_dayOn_57 ?_
                refine z_top (x' := nI (1 + i)) (nI_add _ _) ?_
                refine z_iald hx hb hK hP 6 0 rfl rfl (by omega) (by decide) dX3_dayOn_58 ?_
                refine z_top (x' := z_sw (z_rn G (z_wn G D (z_tc G)) i) i) (z_nw_sw _ (by omega)) ?_
                refine lv_iconst (v := 3) hx hb dX3_dayOn_59 (by decide) ?_
                refine lv_icmp_lt (tgt := 69) hx hb dX3_dayOn_60 (by decide) (fun c60 => ?_) (fun c60 => ?_)
                · skip
                  have qD : z_rn G (z_wn G D (z_tc G)) (i + 1) = (z_rn G (z_wn G D (z_tc G)) i) := (z_rn_f (fun q => absurd q.2 (z_i32_nle c60)))
                  rw [← qD] at hP hD
                  have hP : va_P Dg vwCl (z_mW cI mo th G (z_rn G (z_wn G D (z_tc G)) (i + 1)) K) H := hP
                  have hD : va_D _ (z_mW cI mo th G (z_rn G (z_wn G D (z_tc G)) (i + 1)) K) := hD
                  refine lv_iinc (v := nI (i + 1)) (lv' := [(1, .int (nI (i + 1))), (0, .ref (mo 0))]) hx hb dX3_dayOn_69 hl (k := 1) rfl (nI_1 _) (by decide) rfl (fun ls hl => ?_)
                  refine lv_goto (tgt := 31) hx hb dX3_dayOn_72 (by decide) ?_
                  exact ih31 (i + 1) (by omega) (by omega) _ _ hP hD hS _ (lv_sub hl [1, 0] rfl)
                · skip
                  refine lv_aload_n hx hb dX3_dayOn_63 rfl (lv_at hl 0 rfl) ?_
                  refine lv_iload_n hx hb dX3_dayOn_64 rfl (lv_at hl 1 rfl) ?_
                  refine z_wAi (v := nI (z_rb G i (z_rn G (z_wn G D (z_tc G)) i)).1) [] hx hb hml hown hts (m_X3_takeBack l Dg cI mo th G (z_rn G (z_wn G D (z_tc G)) i) K i (by omega) hG hWi) gX3_dayOn_X3_takeBack rfl kd_X3_takeBack ⟨Nat.le_of_ble_eq_true rfl, Nat.le_of_ble_eq_true rfl⟩ hK hN hP hD hS rfl rfl rfl rfl rfl hl.1 rfl (Nat.le_of_ble_eq_true rfl) dX3_dayOn_65 ⟨Nat.zero_le _, Nat.zero_le _⟩ (fun H locs hP hD hS => ?_)
                  have hP : va_P Dg vwCl (z_mW cI mo th G ((z_rb G i (z_rn G (z_wn G D (z_tc G)) i)).2) K) H := hP
                  have hD : va_D _ (z_mW cI mo th G ((z_rb G i (z_rn G (z_wn G D (z_tc G)) i)).2) K) := hD
                  refine lv_pop hx hb dX3_dayOn_68 rfl ?_
                  have qD : z_rn G (z_wn G D (z_tc G)) (i + 1) = (z_rb G i (z_rn G (z_wn G D (z_tc G)) i)).2 := (z_rn_t (z_bI0 c48) (z_i32_le c60))
                  rw [← qD] at hP hD
                  have hP : va_P Dg vwCl (z_mW cI mo th G (z_rn G (z_wn G D (z_tc G)) (i + 1)) K) H := hP
                  have hD : va_D _ (z_mW cI mo th G (z_rn G (z_wn G D (z_tc G)) (i + 1)) K) := hD
                  refine lv_iinc (v := nI (i + 1)) (lv' := [(1, .int (nI (i + 1))), (0, .ref (mo 0))]) hx hb dX3_dayOn_69 hl (k := 1) rfl (nI_1 _) (by decide) rfl (fun ls hl => ?_)
                  refine lv_goto (tgt := 31) hx hb dX3_dayOn_72 (by decide) ?_
                  exact ih31 (i + 1) (by omega) (by omega) _ _ hP hD hS _ (lv_sub hl [1, 0] rfl)
        exact lp31 (z_bc G + 1) 0 (by omega) (by omega) _ _ hP hD hS _ (lv_sub hl [1, 0] rfl)
      · skip
        have hi2 : i < z_tc G := z_nle (by omega) c7
        have hWi := z_WD_wn hW i
        refine lv_aload_n hx hb dX3_dayOn_10 rfl (lv_at hl 0 rfl) ?_
        refine lv_iload_n hx hb dX3_dayOn_11 rfl (lv_at hl 1 rfl) ?_
        refine z_rVi (v := z_bI (z_pl (z_wn G D i) i == 1)) [] hx hb hml hown hts (m_X3_isHere l Dg cI mo th G (z_wn G D i) K i (by omega) hG hWi) gX3_dayOn_X3_isHere rfl kd_X3_isHere ⟨Nat.le_of_ble_eq_true rfl, Nat.le_of_ble_eq_true rfl⟩ hK hN hP rfl rfl rfl rfl hl.1 rfl (Nat.le_of_ble_eq_true rfl) dX3_dayOn_12 ⟨Nat.zero_le _, Nat.zero_le _⟩ ?_
        refine lv_if_eq (tgt := 23) hx hb dX3_dayOn_15 (by decide) (fun c15 => ?_) (fun c15 => ?_)
        · skip
          have qD : z_wn G D (i + 1) = (z_wn G D i) := (z_wn_0 (z_bne' (z_bI0 c15)))
          rw [← qD] at hP hD
          have hP : va_P Dg vwCl (z_mW cI mo th G (z_wn G D (i + 1)) K) H := hP
          have hD : va_D _ (z_mW cI mo th G (z_wn G D (i + 1)) K) := hD
          refine lv_iinc (v := nI (i + 1)) (lv' := [(1, .int (nI (i + 1))), (0, .ref (mo 0))]) hx hb dX3_dayOn_23 hl (k := 1) rfl (nI_1 _) (by decide) rfl (fun ls hl => ?_)
          refine lv_goto (tgt := 2) hx hb dX3_dayOn_26 (by decide) ?_
          exact ih2 (i + 1) (by omega) (by omega) _ _ hP hD hS _ (lv_sub hl [1, 0] rfl)
        · skip
          refine lv_aload_n hx hb dX3_dayOn_18 rfl (lv_at hl 0 rfl) ?_
          refine lv_iload_n hx hb dX3_dayOn_19 rfl (lv_at hl 1 rfl) ?_
          refine z_wAv [] hx hb hml hown hts (m_X3_leak l Dg cI mo th G (z_wn G D i) K i (by omega) (z_beq' (z_bI1 c15)) hG hWi) gX3_dayOn_X3_leak rfl kd_X3_leak ⟨Nat.le_of_ble_eq_true rfl, Nat.le_of_ble_eq_true rfl⟩ hK hN hP hD hS rfl rfl rfl rfl rfl hl.1 rfl (Nat.le_of_ble_eq_true rfl) dX3_dayOn_20 ⟨Nat.zero_le _, Nat.zero_le _⟩ (fun H locs hP hD hS => ?_)
          have hP : va_P Dg vwCl (z_mW cI mo th G (z_w1 G (z_wn G D i) i) K) H := hP
          have hD : va_D _ (z_mW cI mo th G (z_w1 G (z_wn G D i) i) K) := hD
          have hP : va_P Dg vwCl (z_mW cI mo th G (z_wn G D (i + 1)) K) H := hP
          have hD : va_D _ (z_mW cI mo th G (z_wn G D (i + 1)) K) := hD
          refine lv_iinc (v := nI (i + 1)) (lv' := [(1, .int (nI (i + 1))), (0, .ref (mo 0))]) hx hb dX3_dayOn_23 hl (k := 1) rfl (nI_1 _) (by decide) rfl (fun ls hl => ?_)
          refine lv_goto (tgt := 2) hx hb dX3_dayOn_26 (by decide) ?_
          exact ih2 (i + 1) (by omega) (by omega) _ _ hP hD hS _ (lv_sub hl [1, 0] rfl)
  exact lp2 (z_tc G + 1) 0 (by omega) (by omega) _ _ hP hD hS _ (lv_sub hl [1, 0] rfl)

set_option maxHeartbeats 4000000 in
set_option maxRecDepth 100000 in
theorem m_X3_daysOn (l : Launch) (Dg : va_G) (cI : ClassId) (mo : Nat → Nat) (th : Int32) (G : z_GG) (D : z_DD) (K : Nat → Int32) (k_ : Nat) (hk60 : k_ ≤ 60) (hG : z_WG G) (hW : z_WD G D) : z_Mw l yX3_daysOn wsX3_daysOn 3 67 [.ref (mo 0), .int (nI k_)] Dg cI (z_mW cI mo th G D K) none (z_mW cI mo th G (z_days G D k_) K) := by
  have htc : z_tc G ≤ 60 := hG.2.2.2.2.2.1
  have hbc : z_bc G ≤ 6 := hG.2.2.2.2.1
  refine z_sw' (own := RX3) (l0 := [(0, .ref (mo 0)), (1, .int (nI k_))]) rfl rfl (by decide) (Nat.le_of_ble_eq_true rfl) rfl ?_
  intro p e s m below meth c hx hb hr hml hts hown hlk hP hK hN hD hS ls hl
  refine lv_iconst (v := nI 0) hx hb dX3_daysOn_0 (by decide) ?_
  refine lv_istore_n (lv' := [(2, .int (nI 0)), (0, .ref (mo 0)), (1, .int (nI k_))]) hx hb dX3_daysOn_1 rfl hl (by decide) rfl (fun ls hl => ?_)
  have lp2 : ∀ (zz i : Nat) , i ≤ k_ → k_ + 1 ≤ i + zz → ∀ (H : Heap) (locs : List Loc), va_P Dg vwCl (z_mW cI mo th G (z_days G D i) K) H → va_D (z_in (z_mW cI mo th G D K)) (z_mW cI mo th G (z_days G D i) K) → va_S (z_in (z_mW cI mo th G D K)) s.heap H locs → ∀ ls : Array Slot, lv_has ls 3 [(0, .ref (mo 0)), (1, .int (nI k_)), (2, .int (nI i))] → W p l e ({ frames := 3, cells := 0, slots := 0, locals := 67 } : Room) s m ([.ref (mo 0), .int (nI k_)] : List Value).toArray below meth c H locs 0 0 (MQ below (z_Qw none Dg (z_mW cI mo th G D K) (z_mW cI mo th G (z_days G D k_) K)) ([.ref (mo 0), .int (nI k_)] : List Value).toArray s 0 0 (z_in (z_mW cI mo th G D K))) (F0 m 2 ls []) := by
    intro zz
    induction zz with
    | zero => intros; exfalso; omega
    | succ zz ih2 =>
      intro i hi hzz H locs hP hD hS ls hl
      refine lv_iload_n hx hb dX3_daysOn_2 rfl (lv_at hl 2 rfl) ?_
      refine lv_iload_n hx hb dX3_daysOn_3 rfl (lv_at hl 1 rfl) ?_
      refine lv_icmp_ge (tgt := 17) hx hb dX3_daysOn_4 (by decide) (fun c4 => ?_) (fun c4 => ?_)
      · skip
        have hi2 : i = k_ := Nat.le_antisymm hi (z_le (by omega) (by omega) c4)
        subst hi2
        exact z_ew_v hP hS hx hb hr hlk dX3_daysOn_17
      · skip
        have hi2 : i < k_ := z_nle (by omega) c4
        have hWi := z_WD_days hW i
        refine lv_aload_n hx hb dX3_daysOn_7 rfl (lv_at hl 0 rfl) ?_
        refine z_wAv [] hx hb hml hown hts (m_X3_dayOn l Dg cI mo th G (z_days G D i) K hG hWi) gX3_daysOn_X3_dayOn rfl kd_X3_dayOn ⟨Nat.le_of_ble_eq_true rfl, Nat.le_of_ble_eq_true rfl⟩ hK hN hP hD hS rfl rfl rfl rfl rfl hl.1 rfl (Nat.le_of_ble_eq_true rfl) dX3_daysOn_8 ⟨Nat.zero_le _, Nat.zero_le _⟩ (fun H locs hP hD hS => ?_)
        have hP : va_P Dg vwCl (z_mW cI mo th G (z_day G (z_days G D i)) K) H := hP
        have hD : va_D _ (z_mW cI mo th G (z_day G (z_days G D i)) K) := hD
        have hP : va_P Dg vwCl (z_mW cI mo th G (z_days G D (i + 1)) K) H := hP
        have hD : va_D _ (z_mW cI mo th G (z_days G D (i + 1)) K) := hD
        refine lv_iinc (v := nI (i + 1)) (lv' := [(2, .int (nI (i + 1))), (0, .ref (mo 0)), (1, .int (nI k_))]) hx hb dX3_daysOn_11 hl (k := 2) rfl (nI_1 _) (by decide) rfl (fun ls hl => ?_)
        refine lv_goto (tgt := 2) hx hb dX3_daysOn_14 (by decide) ?_
        exact ih2 (i + 1) (by omega) (by omega) _ _ hP hD hS _ (lv_sub hl [1, 2, 0] rfl)
  exact lp2 (k_ + 1) 0 (by omega) (by omega) _ _ hP hD hS _ (lv_sub hl [1, 2, 0] rfl)

set_option maxHeartbeats 4000000 in
set_option maxRecDepth 100000 in
theorem m_X3_count (l : Launch) (Dg : va_G) (cI : ClassId) (mo : Nat → Nat) (th : Int32) (G : z_GG) (D : z_DD) (K : Nat → Int32) (x_ : Nat) (hx3 : x_ < 3) (hG : z_WG G) (hW : z_WD G D) : z_Mr l yX3_count wsX3_count 0 0 [.ref (mo 0), .int (nI x_)] Dg cI (z_mW cI mo th G D K) (some (.int (nI (z_cn G D (x_ + 1))))) := by
  have htc : z_tc G ≤ 60 := hG.2.2.2.2.2.1
  have hbc : z_bc G ≤ 6 := hG.2.2.2.2.1
  refine z_sr (own := RX3) (l0 := [(0, .ref (mo 0)), (1, .int (nI x_))]) rfl rfl (by decide) (Nat.le_of_ble_eq_true rfl) rfl ?_
  intro p e s m below meth c hx hb hr hml hts hown hlk hP hK hN ls hl
  refine lv_iconst (v := nI 0) hx hb dX3_count_0 (by decide) ?_
  refine lv_istore_n (lv' := [(2, .int (nI 0)), (0, .ref (mo 0)), (1, .int (nI x_))]) hx hb dX3_count_1 rfl hl (by decide) rfl (fun ls hl => ?_)
  refine lv_iconst (v := nI 0) hx hb dX3_count_2 (by decide) ?_
  refine lv_istore_n (lv' := [(3, .int (nI 0)), (2, .int (nI 0)), (0, .ref (mo 0)), (1, .int (nI x_))]) hx hb dX3_count_3 rfl hl (by decide) rfl (fun ls hl => ?_)
  have lp4 : ∀ (zz i : Nat) , i ≤ z_tc G → z_tc G + 1 ≤ i + zz → ∀ ls : Array Slot, lv_has ls 4 [(0, .ref (mo 0)), (1, .int (nI x_)), (2, .int (nI (z_ct (fun t => z_pl D t == x_ + 1) i))), (3, .int (nI i))] → W p l e ({ frames := 0, cells := 0, slots := 0, locals := 0 } : Room) s m ([.ref (mo 0), .int (nI x_)] : List Value).toArray below meth c s.heap [] 0 0 (MQ below (z_Qr (some (.int (nI (z_cn G D (x_ + 1)))))) ([.ref (mo 0), .int (nI x_)] : List Value).toArray s 0 0 z_no) (F0 m 4 ls []) := by
    intro zz
    induction zz with
    | zero => intros; exfalso; omega
    | succ zz ih4 =>
      intro i hi hzz ls hl
      refine lv_iload_n hx hb dX3_count_4 rfl (lv_at hl 3 rfl) ?_
      refine lv_aload_n hx hb dX3_count_5 rfl (lv_at hl 0 rfl) ?_
      refine va_get (ci := 3) (v := .int (nI (z_tc G))) (C := RX3) (T := TX3) (N := 12) hx hb hts (fun _ h => (List.mem_cons_of_mem _ (List.mem_append_right _ h))) hown hK hP 0 rfl rfl 2 (by decide) (hts _ (List.mem_cons_of_mem _ (List.mem_append_left _ (List.mem_of_getElem? (i := 0) rfl)))) (fun _ h9 => h9) rfl dX3_count_6 ?_
      refine lv_icmp_ge (tgt := 39) hx hb dX3_count_9 (by decide) (fun c9 => ?_) (fun c9 => ?_)
      · skip
        have hi2 : i = z_tc G := Nat.le_antisymm hi (z_le (by omega) (by omega) c9)
        refine lv_iload_n hx hb dX3_count_39 rfl (lv_at hl 2 rfl) ?_
        exact z_er_i (by rw [hi2]; rfl) hx hb hr hlk dX3_count_40
      · skip
        have hi2 : i < z_tc G := z_nle (by omega) c9
        have hpl := hW i hi2
        refine lv_iload_n hx hb dX3_count_12 rfl (lv_at hl 2 rfl) ?_
        refine lv_aload_n hx hb dX3_count_13 rfl (lv_at hl 0 rfl) ?_
        refine va_get (ci := 3) (v := .ref (mo 6)) (C := RX3) (T := TX3) (N := 12) hx hb hts (fun _ h => (List.mem_cons_of_mem _ (List.mem_append_right _ h))) hown hK hP 0 rfl rfl 10 (by decide) (hts _ (List.mem_cons_of_mem _ (List.mem_append_left _ (List.mem_of_getElem? (i := 1) rfl)))) (fun _ h9 => h9) rfl dX3_count_14 ?_
        refine lv_bipush (v := nI 13) hx hb dX3_count_17 (by decide) ?_
        refine lv_iload_n hx hb dX3_count_19 rfl (lv_at hl 3 rfl) ?_
        refine lv_iadd hx hb dX3_count_20 ?_
        refine z_top (x' := nI (13 + i)) (nI_add _ _) ?_
        refine z_iald hx hb hK hP 6 0 rfl rfl (by omega) (by decide) dX3_count_21 ?_
        refine z_top (x' := nI (z_pl D i - 1)) (z_nw_st _ (by omega)) ?_
        refine lv_iload_n hx hb dX3_count_22 rfl (lv_at hl 1 rfl) ?_
        refine lv_icmp_ne (tgt := 30) hx hb dX3_count_23 (by decide) (fun c23 => ?_) (fun c23 => ?_)
        · skip
          refine lv_iconst (v := 0) hx hb dX3_count_30 (by decide) ?_
          refine lv_iadd hx hb dX3_count_31 ?_
          refine z_top (x' := nI (z_ct (fun t => z_pl D t == x_ + 1) (i + 1))) (by rw [z_ct_f (p := fun t => z_pl D t == x_ + 1) (n := i) (z_bne (fun q => z_ne (by omega) (by omega) c23 (by omega))), Int32.add_zero]) ?_
          refine lv_istore_n (lv' := [(2, .int (nI (z_ct (fun t => z_pl D t == x_ + 1) (i + 1)))), (0, .ref (mo 0)), (1, .int (nI x_)), (3, .int (nI i))]) hx hb dX3_count_32 rfl hl (by decide) rfl (fun ls hl => ?_)
          refine lv_iinc (v := nI (i + 1)) (lv' := [(3, .int (nI (i + 1))), (2, .int (nI (z_ct (fun t => z_pl D t == x_ + 1) (i + 1)))), (0, .ref (mo 0)), (1, .int (nI x_))]) hx hb dX3_count_33 hl (k := 3) rfl (nI_1 _) (by decide) rfl (fun ls hl => ?_)
          refine lv_goto (tgt := 4) hx hb dX3_count_36 (by decide) ?_
          exact ih4 (i + 1) (by omega) (by omega) _ (lv_sub hl [2, 3, 1, 0] rfl)
        · skip
          refine lv_iconst (v := 1) hx hb dX3_count_26 (by decide) ?_
          refine lv_goto (tgt := 31) hx hb dX3_count_27 (by decide) ?_
          refine lv_iadd hx hb dX3_count_31 ?_
          refine z_top (x' := nI (z_ct (fun t => z_pl D t == x_ + 1) (i + 1))) (by rw [z_ct_t (p := fun t => z_pl D t == x_ + 1) (n := i) (z_beq (by have := z_eq (by omega) (by omega) c23; omega))]; exact nI_1 _) ?_
          refine lv_istore_n (lv' := [(2, .int (nI (z_ct (fun t => z_pl D t == x_ + 1) (i + 1)))), (0, .ref (mo 0)), (1, .int (nI x_)), (3, .int (nI i))]) hx hb dX3_count_32 rfl hl (by decide) rfl (fun ls hl => ?_)
          refine lv_iinc (v := nI (i + 1)) (lv' := [(3, .int (nI (i + 1))), (2, .int (nI (z_ct (fun t => z_pl D t == x_ + 1) (i + 1)))), (0, .ref (mo 0)), (1, .int (nI x_))]) hx hb dX3_count_33 hl (k := 3) rfl (nI_1 _) (by decide) rfl (fun ls hl => ?_)
          refine lv_goto (tgt := 4) hx hb dX3_count_36 (by decide) ?_
          exact ih4 (i + 1) (by omega) (by omega) _ (lv_sub hl [2, 3, 1, 0] rfl)
  exact lp4 (z_tc G + 1) 0 (by omega) (by omega) _ (lv_sub hl [2, 3, 1, 0] rfl)

set_option maxHeartbeats 4000000 in
set_option maxRecDepth 100000 in
theorem m_X3_allSwelled (l : Launch) (Dg : va_G) (cI : ClassId) (mo : Nat → Nat) (th : Int32) (G : z_GG) (D : z_DD) (K : Nat → Int32) (hG : z_WG G) : z_Mr l yX3_allSwelled wsX3_allSwelled 0 0 [.ref (mo 0)] Dg cI (z_mW cI mo th G D K) (some (.int (z_sum (z_sw D) (z_bc G)))) := by
  have htc : z_tc G ≤ 60 := hG.2.2.2.2.2.1
  have hbc : z_bc G ≤ 6 := hG.2.2.2.2.1
  refine z_sr (own := RX3) (l0 := [(0, .ref (mo 0))]) rfl rfl (by decide) (Nat.le_of_ble_eq_true rfl) rfl ?_
  intro p e s m below meth c hx hb hr hml hts hown hlk hP hK hN ls hl
  refine lv_iconst (v := 0) hx hb dX3_allSwelled_0 (by decide) ?_
  refine lv_istore_n (lv' := [(1, .int 0), (0, .ref (mo 0))]) hx hb dX3_allSwelled_1 rfl hl (by decide) rfl (fun ls hl => ?_)
  refine lv_iconst (v := nI 0) hx hb dX3_allSwelled_2 (by decide) ?_
  refine lv_istore_n (lv' := [(2, .int (nI 0)), (1, .int 0), (0, .ref (mo 0))]) hx hb dX3_allSwelled_3 rfl hl (by decide) rfl (fun ls hl => ?_)
  have lp4 : ∀ (zz i : Nat) , i ≤ z_bc G → z_bc G + 1 ≤ i + zz → ∀ ls : Array Slot, lv_has ls 3 [(0, .ref (mo 0)), (1, .int (z_sum (z_sw D) i)), (2, .int (nI i))] → W p l e ({ frames := 0, cells := 0, slots := 0, locals := 0 } : Room) s m ([.ref (mo 0)] : List Value).toArray below meth c s.heap [] 0 0 (MQ below (z_Qr (some (.int (z_sum (z_sw D) (z_bc G))))) ([.ref (mo 0)] : List Value).toArray s 0 0 z_no) (F0 m 4 ls []) := by
    intro zz
    induction zz with
    | zero => intros; exfalso; omega
    | succ zz ih4 =>
      intro i hi hzz ls hl
      refine lv_iload_n hx hb dX3_allSwelled_4 rfl (lv_at hl 2 rfl) ?_
      refine lv_aload_n hx hb dX3_allSwelled_5 rfl (lv_at hl 0 rfl) ?_
      refine va_get (ci := 3) (v := .int (nI (z_bc G))) (C := RX3) (T := TX3) (N := 12) hx hb hts (fun _ h => (List.mem_cons_of_mem _ (List.mem_append_right _ h))) hown hK hP 0 rfl rfl 1 (by decide) (hts _ (List.mem_cons_of_mem _ (List.mem_append_left _ (List.mem_of_getElem? (i := 0) rfl)))) (fun _ h9 => h9) rfl dX3_allSwelled_6 ?_
      refine lv_icmp_ge (tgt := 29) hx hb dX3_allSwelled_9 (by decide) (fun c9 => ?_) (fun c9 => ?_)
      · skip
        have hi2 : i = z_bc G := Nat.le_antisymm hi (z_le (by omega) (by omega) c9)
        refine lv_iload_n hx hb dX3_allSwelled_29 rfl (lv_at hl 1 rfl) ?_
        exact z_er_i (by rw [hi2]) hx hb hr hlk dX3_allSwelled_30
      · skip
        have hi2 : i < z_bc G := z_nle (by omega) c9
        refine lv_iload_n hx hb dX3_allSwelled_12 rfl (lv_at hl 1 rfl) ?_
        refine lv_aload_n hx hb dX3_allSwelled_13 rfl (lv_at hl 0 rfl) ?_
        refine va_get (ci := 3) (v := .ref (mo 6)) (C := RX3) (T := TX3) (N := 12) hx hb hts (fun _ h => (List.mem_cons_of_mem _ (List.mem_append_right _ h))) hown hK hP 0 rfl rfl 10 (by decide) (hts _ (List.mem_cons_of_mem _ (List.mem_append_left _ (List.mem_of_getElem? (i := 1) rfl)))) (fun _ h9 => h9) rfl dX3_allSwelled_14 ?_
        refine lv_iconst (v := nI 1) hx hb dX3_allSwelled_17 (by decide) ?_
        refine lv_iload_n hx hb dX3_allSwelled_18 rfl (lv_at hl 2 rfl) ?_
        refine lv_iadd hx hb dX3_allSwelled_19 ?_
        refine z_top (x' := nI (1 + i)) (nI_add _ _) ?_
        refine z_iald hx hb hK hP 6 0 rfl rfl (by omega) (by decide) dX3_allSwelled_20 ?_
        refine z_top (x' := z_sw D i) (z_nw_sw _ (by omega)) ?_
        refine lv_iadd hx hb dX3_allSwelled_21 ?_
        refine lv_istore_n (lv' := [(1, .int ((z_sum (z_sw D) i) + (z_sw D i))), (0, .ref (mo 0)), (2, .int (nI i))]) hx hb dX3_allSwelled_22 rfl hl (by decide) rfl (fun ls hl => ?_)
        have hl : lv_has ls 3 [(1, .int (z_sum (z_sw D) (i + 1))), (0, .ref (mo 0)), (2, .int (nI i))] := by have q : (z_sum (z_sw D) i) + (z_sw D i) = z_sum (z_sw D) (i + 1) := rfl; rw [← q]; exact hl
        refine lv_iinc (v := nI (i + 1)) (lv' := [(2, .int (nI (i + 1))), (1, .int (z_sum (z_sw D) (i + 1))), (0, .ref (mo 0))]) hx hb dX3_allSwelled_23 hl (k := 2) rfl (nI_1 _) (by decide) rfl (fun ls hl => ?_)
        refine lv_goto (tgt := 4) hx hb dX3_allSwelled_26 (by decide) ?_
        exact ih4 (i + 1) (by omega) (by omega) _ (lv_sub hl [2, 1, 0] rfl)
  exact lp4 (z_bc G + 1) 0 (by omega) (by omega) _ (lv_sub hl [2, 1, 0] rfl)

set_option maxHeartbeats 4000000 in
set_option maxRecDepth 100000 in
theorem m_X3_on (l : Launch) (Dg : va_G) (cI : ClassId) (mo : Nat → Nat) (th : Int32) (G : z_GG) (D : z_DD) (K : Nat → Int32) (x_ : Nat) (hx3 : x_ < 60) (hG : z_WG G) (hW : z_WD G D) : z_Mr l yX3_on wsX3_on 1 21 [.ref (mo 0), .int (nI x_)] Dg cI (z_mW cI mo th G D K) (some (.int (nI (z_on G D x_)))) := by
  have htc : z_tc G ≤ 60 := hG.2.2.2.2.2.1
  have hbc : z_bc G ≤ 6 := hG.2.2.2.2.1
  refine z_sr (own := RX3) (l0 := [(0, .ref (mo 0)), (1, .int (nI x_))]) rfl rfl (by decide) (Nat.le_of_ble_eq_true rfl) rfl ?_
  intro p e s m below meth c hx hb hr hml hts hown hlk hP hK hN ls hl
  refine lv_iconst (v := nI 0) hx hb dX3_on_0 (by decide) ?_
  refine lv_istore_n (lv' := [(2, .int (nI 0)), (0, .ref (mo 0)), (1, .int (nI x_))]) hx hb dX3_on_1 rfl hl (by decide) rfl (fun ls hl => ?_)
  refine lv_iconst (v := nI 0) hx hb dX3_on_2 (by decide) ?_
  refine lv_istore_n (lv' := [(3, .int (nI 0)), (2, .int (nI 0)), (0, .ref (mo 0)), (1, .int (nI x_))]) hx hb dX3_on_3 rfl hl (by decide) rfl (fun ls hl => ?_)
  have lp4 : ∀ (zz i : Nat) , i ≤ z_tc G → z_tc G + 1 ≤ i + zz → ∀ ls : Array Slot, lv_has ls 4 [(0, .ref (mo 0)), (1, .int (nI x_)), (2, .int (nI (z_ct (fun t => z_pl D t == 1 && z_sh G t == x_) i))), (3, .int (nI i))] → W p l e ({ frames := 1, cells := 0, slots := 0, locals := 21 } : Room) s m ([.ref (mo 0), .int (nI x_)] : List Value).toArray below meth c s.heap [] 0 0 (MQ below (z_Qr (some (.int (nI (z_on G D x_))))) ([.ref (mo 0), .int (nI x_)] : List Value).toArray s 0 0 z_no) (F0 m 4 ls []) := by
    intro zz
    induction zz with
    | zero => intros; exfalso; omega
    | succ zz ih4 =>
      intro i hi hzz ls hl
      refine lv_iload_n hx hb dX3_on_4 rfl (lv_at hl 3 rfl) ?_
      refine lv_aload_n hx hb dX3_on_5 rfl (lv_at hl 0 rfl) ?_
      refine va_get (ci := 3) (v := .int (nI (z_tc G))) (C := RX3) (T := TX3) (N := 12) hx hb hts (fun _ h => (List.mem_cons_of_mem _ (List.mem_append_right _ h))) hown hK hP 0 rfl rfl 2 (by decide) (hts _ (List.mem_cons_of_mem _ (List.mem_append_left _ (List.mem_of_getElem? (i := 0) rfl)))) (fun _ h9 => h9) rfl dX3_on_6 ?_
      refine lv_icmp_ge (tgt := 44) hx hb dX3_on_9 (by decide) (fun c9 => ?_) (fun c9 => ?_)
      · skip
        have hi2 : i = z_tc G := Nat.le_antisymm hi (z_le (by omega) (by omega) c9)
        refine lv_iload_n hx hb dX3_on_44 rfl (lv_at hl 2 rfl) ?_
        exact z_er_i (by rw [hi2]; rfl) hx hb hr hlk dX3_on_45
      · skip
        have hi2 : i < z_tc G := z_nle (by omega) c9
        have hbt := hG.2.2.1 i
        have hsh := hG.2.2.2.1 i
        refine lv_iload_n hx hb dX3_on_12 rfl (lv_at hl 2 rfl) ?_
        refine lv_aload_n hx hb dX3_on_13 rfl (lv_at hl 0 rfl) ?_
        refine lv_iload_n hx hb dX3_on_14 rfl (lv_at hl 3 rfl) ?_
        refine z_rVi (v := z_bI (z_pl D i == 1)) [.int (nI (z_ct (fun t => z_pl D t == 1 && z_sh G t == x_) i))] hx hb hml hown hts (m_X3_isHere l Dg cI mo th G D K i (by omega) hG hW) gX3_on_X3_isHere rfl kd_X3_isHere ⟨Nat.le_of_ble_eq_true rfl, Nat.le_of_ble_eq_true rfl⟩ hK hN hP rfl rfl rfl rfl hl.1 rfl (Nat.le_of_ble_eq_true rfl) dX3_on_15 ⟨Nat.zero_le _, Nat.zero_le _⟩ ?_
        refine lv_if_eq (tgt := 35) hx hb dX3_on_18 (by decide) (fun c18 => ?_) (fun c18 => ?_)
        · skip
          refine lv_iconst (v := 0) hx hb dX3_on_35 (by decide) ?_
          refine lv_iadd hx hb dX3_on_36 ?_
          refine z_top (x' := nI (z_ct (fun t => z_pl D t == 1 && z_sh G t == x_) (i + 1))) (by rw [z_ct_f (p := fun t => z_pl D t == 1 && z_sh G t == x_) (n := i) (z_and_f1 (z_bI0 c18)), Int32.add_zero]) ?_
          refine lv_istore_n (lv' := [(2, .int (nI (z_ct (fun t => z_pl D t == 1 && z_sh G t == x_) (i + 1)))), (0, .ref (mo 0)), (1, .int (nI x_)), (3, .int (nI i))]) hx hb dX3_on_37 rfl hl (by decide) rfl (fun ls hl => ?_)
          refine lv_iinc (v := nI (i + 1)) (lv' := [(3, .int (nI (i + 1))), (2, .int (nI (z_ct (fun t => z_pl D t == 1 && z_sh G t == x_) (i + 1)))), (0, .ref (mo 0)), (1, .int (nI x_))]) hx hb dX3_on_38 hl (k := 3) rfl (nI_1 _) (by decide) rfl (fun ls hl => ?_)
          refine lv_goto (tgt := 4) hx hb dX3_on_41 (by decide) ?_
          exact ih4 (i + 1) (by omega) (by omega) _ (lv_sub hl [2, 3, 1, 0] rfl)
        · skip
          refine lv_aload_n hx hb dX3_on_21 rfl (lv_at hl 0 rfl) ?_
          refine va_get (ci := 3) (v := .ref (mo 5)) (C := RX3) (T := TX3) (N := 12) hx hb hts (fun _ h => (List.mem_cons_of_mem _ (List.mem_append_right _ h))) hown hK hP 0 rfl rfl 9 (by decide) (hts _ (List.mem_cons_of_mem _ (List.mem_append_left _ (List.mem_of_getElem? (i := 1) rfl)))) (fun _ h9 => h9) rfl dX3_on_22 ?_
          refine lv_iload_n hx hb dX3_on_25 rfl (lv_at hl 3 rfl) ?_
          refine z_iald hx hb hK hP 5 0 rfl rfl (by omega) (by decide) dX3_on_26 ?_
          refine z_top (x' := nI (z_sh G i)) rfl ?_
          refine lv_iload_n hx hb dX3_on_27 rfl (lv_at hl 1 rfl) ?_
          refine lv_icmp_ne (tgt := 35) hx hb dX3_on_28 (by decide) (fun c28 => ?_) (fun c28 => ?_)
          · skip
            refine lv_iconst (v := 0) hx hb dX3_on_35 (by decide) ?_
            refine lv_iadd hx hb dX3_on_36 ?_
            refine z_top (x' := nI (z_ct (fun t => z_pl D t == 1 && z_sh G t == x_) (i + 1))) (by rw [z_ct_f (p := fun t => z_pl D t == 1 && z_sh G t == x_) (n := i) (z_and_f2 (z_bne (z_ne (by omega) (by omega) c28))), Int32.add_zero]) ?_
            refine lv_istore_n (lv' := [(2, .int (nI (z_ct (fun t => z_pl D t == 1 && z_sh G t == x_) (i + 1)))), (0, .ref (mo 0)), (1, .int (nI x_)), (3, .int (nI i))]) hx hb dX3_on_37 rfl hl (by decide) rfl (fun ls hl => ?_)
            refine lv_iinc (v := nI (i + 1)) (lv' := [(3, .int (nI (i + 1))), (2, .int (nI (z_ct (fun t => z_pl D t == 1 && z_sh G t == x_) (i + 1)))), (0, .ref (mo 0)), (1, .int (nI x_))]) hx hb dX3_on_38 hl (k := 3) rfl (nI_1 _) (by decide) rfl (fun ls hl => ?_)
            refine lv_goto (tgt := 4) hx hb dX3_on_41 (by decide) ?_
            exact ih4 (i + 1) (by omega) (by omega) _ (lv_sub hl [2, 3, 1, 0] rfl)
          · skip
            refine lv_iconst (v := 1) hx hb dX3_on_31 (by decide) ?_
            refine lv_goto (tgt := 36) hx hb dX3_on_32 (by decide) ?_
            refine lv_iadd hx hb dX3_on_36 ?_
            refine z_top (x' := nI (z_ct (fun t => z_pl D t == 1 && z_sh G t == x_) (i + 1))) (by rw [z_ct_t (p := fun t => z_pl D t == 1 && z_sh G t == x_) (n := i) (z_and_t (z_bI1 c18) (z_beq (z_eq (by omega) (by omega) c28)))]; exact nI_1 _) ?_
            refine lv_istore_n (lv' := [(2, .int (nI (z_ct (fun t => z_pl D t == 1 && z_sh G t == x_) (i + 1)))), (0, .ref (mo 0)), (1, .int (nI x_)), (3, .int (nI i))]) hx hb dX3_on_37 rfl hl (by decide) rfl (fun ls hl => ?_)
            refine lv_iinc (v := nI (i + 1)) (lv' := [(3, .int (nI (i + 1))), (2, .int (nI (z_ct (fun t => z_pl D t == 1 && z_sh G t == x_) (i + 1)))), (0, .ref (mo 0)), (1, .int (nI x_))]) hx hb dX3_on_38 hl (k := 3) rfl (nI_1 _) (by decide) rfl (fun ls hl => ?_)
            refine lv_goto (tgt := 4) hx hb dX3_on_41 (by decide) ?_
            exact ih4 (i + 1) (by omega) (by omega) _ (lv_sub hl [2, 3, 1, 0] rfl)
  exact lp4 (z_tc G + 1) 0 (by omega) (by omega) _ (lv_sub hl [2, 3, 1, 0] rfl)

set_option maxHeartbeats 4000000 in
set_option maxRecDepth 100000 in
theorem m_X3_left (l : Launch) (Dg : va_G) (cI : ClassId) (mo : Nat → Nat) (th : Int32) (G : z_GG) (D : z_DD) (K : Nat → Int32) (x_ : Nat) (hx3 : x_ < 60) (hG : z_WG G) (hW : z_WD G D) : z_Mr l yX3_left wsX3_left 1 21 [.ref (mo 0), .int (nI x_)] Dg cI (z_mW cI mo th G D K) (some (.int (nI (z_lf G D x_)))) := by
  have htc : z_tc G ≤ 60 := hG.2.2.2.2.2.1
  have hbc : z_bc G ≤ 6 := hG.2.2.2.2.1
  refine z_sr (own := RX3) (l0 := [(0, .ref (mo 0)), (1, .int (nI x_))]) rfl rfl (by decide) (Nat.le_of_ble_eq_true rfl) rfl ?_
  intro p e s m below meth c hx hb hr hml hts hown hlk hP hK hN ls hl
  refine lv_iconst (v := nI 0) hx hb dX3_left_0 (by decide) ?_
  refine lv_istore_n (lv' := [(2, .int (nI 0)), (0, .ref (mo 0)), (1, .int (nI x_))]) hx hb dX3_left_1 rfl hl (by decide) rfl (fun ls hl => ?_)
  refine lv_iconst (v := nI 0) hx hb dX3_left_2 (by decide) ?_
  refine lv_istore_n (lv' := [(3, .int (nI 0)), (2, .int (nI 0)), (0, .ref (mo 0)), (1, .int (nI x_))]) hx hb dX3_left_3 rfl hl (by decide) rfl (fun ls hl => ?_)
  have lp4 : ∀ (zz i : Nat) , i ≤ z_tc G → z_tc G + 1 ≤ i + zz → ∀ ls : Array Slot, lv_has ls 4 [(0, .ref (mo 0)), (1, .int (nI x_)), (2, .int (nI (z_ct (fun t => z_pl D t == 1 && z_bt G t == x_) i))), (3, .int (nI i))] → W p l e ({ frames := 1, cells := 0, slots := 0, locals := 21 } : Room) s m ([.ref (mo 0), .int (nI x_)] : List Value).toArray below meth c s.heap [] 0 0 (MQ below (z_Qr (some (.int (nI (z_lf G D x_))))) ([.ref (mo 0), .int (nI x_)] : List Value).toArray s 0 0 z_no) (F0 m 4 ls []) := by
    intro zz
    induction zz with
    | zero => intros; exfalso; omega
    | succ zz ih4 =>
      intro i hi hzz ls hl
      refine lv_iload_n hx hb dX3_left_4 rfl (lv_at hl 3 rfl) ?_
      refine lv_aload_n hx hb dX3_left_5 rfl (lv_at hl 0 rfl) ?_
      refine va_get (ci := 3) (v := .int (nI (z_tc G))) (C := RX3) (T := TX3) (N := 12) hx hb hts (fun _ h => (List.mem_cons_of_mem _ (List.mem_append_right _ h))) hown hK hP 0 rfl rfl 2 (by decide) (hts _ (List.mem_cons_of_mem _ (List.mem_append_left _ (List.mem_of_getElem? (i := 0) rfl)))) (fun _ h9 => h9) rfl dX3_left_6 ?_
      refine lv_icmp_ge (tgt := 44) hx hb dX3_left_9 (by decide) (fun c9 => ?_) (fun c9 => ?_)
      · skip
        have hi2 : i = z_tc G := Nat.le_antisymm hi (z_le (by omega) (by omega) c9)
        refine lv_iload_n hx hb dX3_left_44 rfl (lv_at hl 2 rfl) ?_
        exact z_er_i (by rw [hi2]; rfl) hx hb hr hlk dX3_left_45
      · skip
        have hi2 : i < z_tc G := z_nle (by omega) c9
        have hbt := hG.2.2.1 i
        have hsh := hG.2.2.2.1 i
        refine lv_iload_n hx hb dX3_left_12 rfl (lv_at hl 2 rfl) ?_
        refine lv_aload_n hx hb dX3_left_13 rfl (lv_at hl 0 rfl) ?_
        refine lv_iload_n hx hb dX3_left_14 rfl (lv_at hl 3 rfl) ?_
        refine z_rVi (v := z_bI (z_pl D i == 1)) [.int (nI (z_ct (fun t => z_pl D t == 1 && z_bt G t == x_) i))] hx hb hml hown hts (m_X3_isHere l Dg cI mo th G D K i (by omega) hG hW) gX3_left_X3_isHere rfl kd_X3_isHere ⟨Nat.le_of_ble_eq_true rfl, Nat.le_of_ble_eq_true rfl⟩ hK hN hP rfl rfl rfl rfl hl.1 rfl (Nat.le_of_ble_eq_true rfl) dX3_left_15 ⟨Nat.zero_le _, Nat.zero_le _⟩ ?_
        refine lv_if_eq (tgt := 35) hx hb dX3_left_18 (by decide) (fun c18 => ?_) (fun c18 => ?_)
        · skip
          refine lv_iconst (v := 0) hx hb dX3_left_35 (by decide) ?_
          refine lv_iadd hx hb dX3_left_36 ?_
          refine z_top (x' := nI (z_ct (fun t => z_pl D t == 1 && z_bt G t == x_) (i + 1))) (by rw [z_ct_f (p := fun t => z_pl D t == 1 && z_bt G t == x_) (n := i) (z_and_f1 (z_bI0 c18)), Int32.add_zero]) ?_
          refine lv_istore_n (lv' := [(2, .int (nI (z_ct (fun t => z_pl D t == 1 && z_bt G t == x_) (i + 1)))), (0, .ref (mo 0)), (1, .int (nI x_)), (3, .int (nI i))]) hx hb dX3_left_37 rfl hl (by decide) rfl (fun ls hl => ?_)
          refine lv_iinc (v := nI (i + 1)) (lv' := [(3, .int (nI (i + 1))), (2, .int (nI (z_ct (fun t => z_pl D t == 1 && z_bt G t == x_) (i + 1)))), (0, .ref (mo 0)), (1, .int (nI x_))]) hx hb dX3_left_38 hl (k := 3) rfl (nI_1 _) (by decide) rfl (fun ls hl => ?_)
          refine lv_goto (tgt := 4) hx hb dX3_left_41 (by decide) ?_
          exact ih4 (i + 1) (by omega) (by omega) _ (lv_sub hl [2, 3, 1, 0] rfl)
        · skip
          refine lv_aload_n hx hb dX3_left_21 rfl (lv_at hl 0 rfl) ?_
          refine va_get (ci := 3) (v := .ref (mo 4)) (C := RX3) (T := TX3) (N := 12) hx hb hts (fun _ h => (List.mem_cons_of_mem _ (List.mem_append_right _ h))) hown hK hP 0 rfl rfl 8 (by decide) (hts _ (List.mem_cons_of_mem _ (List.mem_append_left _ (List.mem_of_getElem? (i := 1) rfl)))) (fun _ h9 => h9) rfl dX3_left_22 ?_
          refine lv_iload_n hx hb dX3_left_25 rfl (lv_at hl 3 rfl) ?_
          refine z_iald hx hb hK hP 4 0 rfl rfl (by omega) (by decide) dX3_left_26 ?_
          refine z_top (x' := nI (z_bt G i)) rfl ?_
          refine lv_iload_n hx hb dX3_left_27 rfl (lv_at hl 1 rfl) ?_
          refine lv_icmp_ne (tgt := 35) hx hb dX3_left_28 (by decide) (fun c28 => ?_) (fun c28 => ?_)
          · skip
            refine lv_iconst (v := 0) hx hb dX3_left_35 (by decide) ?_
            refine lv_iadd hx hb dX3_left_36 ?_
            refine z_top (x' := nI (z_ct (fun t => z_pl D t == 1 && z_bt G t == x_) (i + 1))) (by rw [z_ct_f (p := fun t => z_pl D t == 1 && z_bt G t == x_) (n := i) (z_and_f2 (z_bne (z_ne (by omega) (by omega) c28))), Int32.add_zero]) ?_
            refine lv_istore_n (lv' := [(2, .int (nI (z_ct (fun t => z_pl D t == 1 && z_bt G t == x_) (i + 1)))), (0, .ref (mo 0)), (1, .int (nI x_)), (3, .int (nI i))]) hx hb dX3_left_37 rfl hl (by decide) rfl (fun ls hl => ?_)
            refine lv_iinc (v := nI (i + 1)) (lv' := [(3, .int (nI (i + 1))), (2, .int (nI (z_ct (fun t => z_pl D t == 1 && z_bt G t == x_) (i + 1)))), (0, .ref (mo 0)), (1, .int (nI x_))]) hx hb dX3_left_38 hl (k := 3) rfl (nI_1 _) (by decide) rfl (fun ls hl => ?_)
            refine lv_goto (tgt := 4) hx hb dX3_left_41 (by decide) ?_
            exact ih4 (i + 1) (by omega) (by omega) _ (lv_sub hl [2, 3, 1, 0] rfl)
          · skip
            refine lv_iconst (v := 1) hx hb dX3_left_31 (by decide) ?_
            refine lv_goto (tgt := 36) hx hb dX3_left_32 (by decide) ?_
            refine lv_iadd hx hb dX3_left_36 ?_
            refine z_top (x' := nI (z_ct (fun t => z_pl D t == 1 && z_bt G t == x_) (i + 1))) (by rw [z_ct_t (p := fun t => z_pl D t == 1 && z_bt G t == x_) (n := i) (z_and_t (z_bI1 c18) (z_beq (z_eq (by omega) (by omega) c28)))]; exact nI_1 _) ?_
            refine lv_istore_n (lv' := [(2, .int (nI (z_ct (fun t => z_pl D t == 1 && z_bt G t == x_) (i + 1)))), (0, .ref (mo 0)), (1, .int (nI x_)), (3, .int (nI i))]) hx hb dX3_left_37 rfl hl (by decide) rfl (fun ls hl => ?_)
            refine lv_iinc (v := nI (i + 1)) (lv' := [(3, .int (nI (i + 1))), (2, .int (nI (z_ct (fun t => z_pl D t == 1 && z_bt G t == x_) (i + 1)))), (0, .ref (mo 0)), (1, .int (nI x_))]) hx hb dX3_left_38 hl (k := 3) rfl (nI_1 _) (by decide) rfl (fun ls hl => ?_)
            refine lv_goto (tgt := 4) hx hb dX3_left_41 (by decide) ?_
            exact ih4 (i + 1) (by omega) (by omega) _ (lv_sub hl [2, 3, 1, 0] rfl)
  exact lp4 (z_tc G + 1) 0 (by omega) (by omega) _ (lv_sub hl [2, 3, 1, 0] rfl)

set_option maxHeartbeats 4000000 in
set_option maxRecDepth 100000 in
theorem m_X3_place (l : Launch) (Dg : va_G) (cI : ClassId) (mo : Nat → Nat) (th : Int32) (G : z_GG) (D : z_DD) (K : Nat → Int32) (t : Nat) (ht : t < z_tc G) (hG : z_WG G) (hW : z_WD G D) : z_Mr l yX3_place wsX3_place 1 21 [.ref (mo 0), .int (nI t)] Dg cI (z_mW cI mo th G D K) (some (.int (z_shf G D t))) := by
  have htc : z_tc G ≤ 60 := hG.2.2.2.2.2.1
  have hbc : z_bc G ≤ 6 := hG.2.2.2.2.1
  have hpl := hW t ht
  have hbt := hG.2.2.1 t
  have hsh := hG.2.2.2.1 t
  refine z_sr (own := RX3) (l0 := [(0, .ref (mo 0)), (1, .int (nI t))]) rfl rfl (by decide) (Nat.le_of_ble_eq_true rfl) rfl ?_
  intro p e s m below meth c hx hb hr hml hts hown hlk hP hK hN ls hl
  refine lv_aload_n hx hb dX3_place_0 rfl (lv_at hl 0 rfl) ?_
  refine lv_iload_n hx hb dX3_place_1 rfl (lv_at hl 1 rfl) ?_
  refine z_rVi (v := z_bI (z_pl D t == 1)) [] hx hb hml hown hts (m_X3_isHere l Dg cI mo th G D K t (by omega) hG hW) gX3_place_X3_isHere rfl kd_X3_isHere ⟨Nat.le_of_ble_eq_true rfl, Nat.le_of_ble_eq_true rfl⟩ hK hN hP rfl rfl rfl rfl hl.1 rfl (Nat.le_of_ble_eq_true rfl) dX3_place_2 ⟨Nat.zero_le _, Nat.zero_le _⟩ ?_
  refine lv_if_eq (tgt := 17) hx hb dX3_place_5 (by decide) (fun c5 => ?_) (fun c5 => ?_)
  · skip
    refine lv_iconst (v := (-1)) hx hb dX3_place_17 (by decide) ?_
    exact z_er_i (by rw [z_shf, if_neg (z_bne' (z_bI0 c5))]) hx hb hr hlk dX3_place_18
  · skip
    refine lv_aload_n hx hb dX3_place_8 rfl (lv_at hl 0 rfl) ?_
    refine va_get (ci := 3) (v := .ref (mo 5)) (C := RX3) (T := TX3) (N := 12) hx hb hts (fun _ h => (List.mem_cons_of_mem _ (List.mem_append_right _ h))) hown hK hP 0 rfl rfl 9 (by decide) (hts _ (List.mem_cons_of_mem _ (List.mem_append_left _ (List.mem_of_getElem? (i := 0) rfl)))) (fun _ h9 => h9) rfl dX3_place_9 ?_
    refine lv_iload_n hx hb dX3_place_12 rfl (lv_at hl 1 rfl) ?_
    refine z_iald hx hb hK hP 5 0 rfl rfl (by omega) (by decide) dX3_place_13 ?_
    refine z_top (x' := nI (z_sh G t)) rfl ?_
    refine lv_goto (tgt := 18) hx hb dX3_place_14 (by decide) ?_
    exact z_er_i (by rw [z_shf, if_pos (z_beq' (z_bI1 c5))]) hx hb hr hlk dX3_place_18

set_option maxHeartbeats 4000000 in
set_option maxRecDepth 100000 in
theorem m_X3_ahead (l : Launch) (Dg : va_G) (cI : ClassId) (mo : Nat → Nat) (th : Int32) (G : z_GG) (D : z_DD) (K : Nat → Int32) (t o : Nat) (ht : t < z_tc G) (ho : o < 3) (hG : z_WG G) (hW : z_WD G D) : z_Mr l yX3_ahead wsX3_ahead 1 22 [.ref (mo 0), .int (nI t), .int (nI o)] Dg cI (z_mW cI mo th G D K) (some (.int (z_plb G D o t))) := by
  have htc : z_tc G ≤ 60 := hG.2.2.2.2.2.1
  have hbc : z_bc G ≤ 6 := hG.2.2.2.2.1
  have hpl := hW t ht
  have hbt := hG.2.2.1 t
  have hsh := hG.2.2.2.1 t
  refine z_sr (own := RX3) (l0 := [(0, .ref (mo 0)), (1, .int (nI t)), (2, .int (nI o))]) rfl rfl (by decide) (Nat.le_of_ble_eq_true rfl) rfl ?_
  intro p e s m below meth c hx hb hr hml hts hown hlk hP hK hN ls hl
  refine lv_aload_n hx hb dX3_ahead_0 rfl (lv_at hl 0 rfl) ?_
  refine lv_iload_n hx hb dX3_ahead_1 rfl (lv_at hl 1 rfl) ?_
  refine z_rVi (v := z_bI (z_pl D t == 1)) [] hx hb hml hown hts (m_X3_isHere l Dg cI mo th G D K t (by omega) hG hW) gX3_ahead_X3_isHere rfl kd_X3_isHere ⟨Nat.le_of_ble_eq_true rfl, Nat.le_of_ble_eq_true rfl⟩ hK hN hP rfl rfl rfl rfl hl.1 rfl (Nat.le_of_ble_eq_true rfl) dX3_ahead_2 ⟨Nat.zero_le _, Nat.zero_le _⟩ ?_
  refine lv_if_ne (tgt := 10) hx hb dX3_ahead_5 (by decide) (fun c5 => ?_) (fun c5 => ?_)
  · skip
    refine lv_iconst (v := nI 0) hx hb dX3_ahead_10 (by decide) ?_
    refine lv_istore_n (lv' := [(3, .int (nI 0)), (0, .ref (mo 0)), (1, .int (nI t)), (2, .int (nI o))]) hx hb dX3_ahead_11 rfl hl (by decide) rfl (fun ls hl => ?_)
    refine lv_iconst (v := nI 0) hx hb dX3_ahead_12 (by decide) ?_
    refine lv_istore (lv' := [(4, .int (nI 0)), (3, .int (nI 0)), (0, .ref (mo 0)), (1, .int (nI t)), (2, .int (nI o))]) hx hb dX3_ahead_13 hl (by decide) rfl (fun ls hl => ?_)
    have lp15 : ∀ (zz i : Nat) , i ≤ z_tc G → z_tc G + 1 ≤ i + zz → ∀ ls : Array Slot, lv_has ls 5 [(0, .ref (mo 0)), (1, .int (nI t)), (2, .int (nI o)), (3, .int (nI (z_ct (z_ap G D o t) i))), (4, .int (nI i))] → W p l e ({ frames := 1, cells := 0, slots := 0, locals := 22 } : Room) s m ([.ref (mo 0), .int (nI t), .int (nI o)] : List Value).toArray below meth c s.heap [] 0 0 (MQ below (z_Qr (some (.int (z_plb G D o t)))) ([.ref (mo 0), .int (nI t), .int (nI o)] : List Value).toArray s 0 0 z_no) (F0 m 15 ls []) := by
      intro zz
      induction zz with
      | zero => intros; exfalso; omega
      | succ zz ih15 =>
        intro i hi hzz ls hl
        refine lv_iload hx hb dX3_ahead_15 (lv_at hl 4 rfl) ?_
        refine lv_aload_n hx hb dX3_ahead_17 rfl (lv_at hl 0 rfl) ?_
        refine va_get (ci := 3) (v := .int (nI (z_tc G))) (C := RX3) (T := TX3) (N := 12) hx hb hts (fun _ h => (List.mem_cons_of_mem _ (List.mem_append_right _ h))) hown hK hP 0 rfl rfl 2 (by decide) (hts _ (List.mem_cons_of_mem _ (List.mem_append_left _ (List.mem_of_getElem? (i := 0) rfl)))) (fun _ h9 => h9) rfl dX3_ahead_18 ?_
        refine lv_icmp_ge (tgt := 63) hx hb dX3_ahead_21 (by decide) (fun c21 => ?_) (fun c21 => ?_)
        · skip
          have hi2 : i = z_tc G := Nat.le_antisymm hi (z_le (by omega) (by omega) c21)
          refine lv_iload_n hx hb dX3_ahead_63 rfl (lv_at hl 3 rfl) ?_
          exact z_er_i (by rw [hi2, z_plb, if_pos (z_beq' (z_bI1 c5))]; rfl) hx hb hr hlk dX3_ahead_64
        · skip
          have hi2 : i < z_tc G := z_nle (by omega) c21
          refine lv_iload_n hx hb dX3_ahead_24 rfl (lv_at hl 3 rfl) ?_
          refine lv_aload_n hx hb dX3_ahead_25 rfl (lv_at hl 0 rfl) ?_
          refine lv_iload hx hb dX3_ahead_26 (lv_at hl 4 rfl) ?_
          refine z_rVi (v := z_bI (z_pl D i == 1)) [.int (nI (z_ct (z_ap G D o t) i))] hx hb hml hown hts (m_X3_isHere l Dg cI mo th G D K i (by omega) hG hW) gX3_ahead_X3_isHere rfl kd_X3_isHere ⟨Nat.le_of_ble_eq_true rfl, Nat.le_of_ble_eq_true rfl⟩ hK hN hP rfl rfl rfl rfl hl.1 rfl (Nat.le_of_ble_eq_true rfl) dX3_ahead_28 ⟨Nat.zero_le _, Nat.zero_le _⟩ ?_
          refine lv_if_eq (tgt := 54) hx hb dX3_ahead_31 (by decide) (fun c31 => ?_) (fun c31 => ?_)
          · skip
            refine lv_iconst (v := 0) hx hb dX3_ahead_54 (by decide) ?_
            refine lv_iadd hx hb dX3_ahead_55 ?_
            refine z_top (x' := nI (z_ct (z_ap G D o t) (i + 1))) (by rw [z_ct_f (p := z_ap G D o t) (n := i) (z_and_f1 (z_bI0 c31)), Int32.add_zero]) ?_
            refine lv_istore_n (lv' := [(3, .int (nI (z_ct (z_ap G D o t) (i + 1)))), (0, .ref (mo 0)), (1, .int (nI t)), (2, .int (nI o)), (4, .int (nI i))]) hx hb dX3_ahead_56 rfl hl (by decide) rfl (fun ls hl => ?_)
            refine lv_iinc (v := nI (i + 1)) (lv' := [(4, .int (nI (i + 1))), (3, .int (nI (z_ct (z_ap G D o t) (i + 1)))), (0, .ref (mo 0)), (1, .int (nI t)), (2, .int (nI o))]) hx hb dX3_ahead_57 hl (k := 4) rfl (nI_1 _) (by decide) rfl (fun ls hl => ?_)
            refine lv_goto (tgt := 15) hx hb dX3_ahead_60 (by decide) ?_
            exact ih15 (i + 1) (by omega) (by omega) _ (lv_sub hl [2, 3, 4, 1, 0] rfl)
          · skip
            refine lv_aload_n hx hb dX3_ahead_34 rfl (lv_at hl 0 rfl) ?_
            refine lv_iload hx hb dX3_ahead_35 (lv_at hl 4 rfl) ?_
            refine lv_iload_n hx hb dX3_ahead_37 rfl (lv_at hl 2 rfl) ?_
            refine z_rVi (v := z_ky G D o i) [.int (nI (z_ct (z_ap G D o t) i))] hx hb hml hown hts (m_X3_key l Dg cI mo th G D K i o (by omega) (by omega) hG) gX3_ahead_X3_key rfl kd_X3_key ⟨Nat.le_of_ble_eq_true rfl, Nat.le_of_ble_eq_true rfl⟩ hK hN hP rfl rfl rfl rfl hl.1 rfl (Nat.le_of_ble_eq_true rfl) dX3_ahead_38 ⟨Nat.zero_le _, Nat.zero_le _⟩ ?_
            refine lv_aload_n hx hb dX3_ahead_41 rfl (lv_at hl 0 rfl) ?_
            refine lv_iload_n hx hb dX3_ahead_42 rfl (lv_at hl 1 rfl) ?_
            refine lv_iload_n hx hb dX3_ahead_43 rfl (lv_at hl 2 rfl) ?_
            refine z_rVi (v := z_ky G D o t) [.int (z_ky G D o i), .int (nI (z_ct (z_ap G D o t) i))] hx hb hml hown hts (m_X3_key l Dg cI mo th G D K t o (by omega) (by omega) hG) gX3_ahead_X3_key rfl kd_X3_key ⟨Nat.le_of_ble_eq_true rfl, Nat.le_of_ble_eq_true rfl⟩ hK hN hP rfl rfl rfl rfl hl.1 rfl (Nat.le_of_ble_eq_true rfl) dX3_ahead_44 ⟨Nat.zero_le _, Nat.zero_le _⟩ ?_
            refine lv_icmp_ge (tgt := 54) hx hb dX3_ahead_47 (by decide) (fun c47 => ?_) (fun c47 => ?_)
            · skip
              refine lv_iconst (v := 0) hx hb dX3_ahead_54 (by decide) ?_
              refine lv_iadd hx hb dX3_ahead_55 ?_
              refine z_top (x' := nI (z_ct (z_ap G D o t) (i + 1))) (by rw [z_ct_f (p := z_ap G D o t) (n := i) (z_and_f2 (z_dec_f (z_i32_nlt c47))), Int32.add_zero]) ?_
              refine lv_istore_n (lv' := [(3, .int (nI (z_ct (z_ap G D o t) (i + 1)))), (0, .ref (mo 0)), (1, .int (nI t)), (2, .int (nI o)), (4, .int (nI i))]) hx hb dX3_ahead_56 rfl hl (by decide) rfl (fun ls hl => ?_)
              refine lv_iinc (v := nI (i + 1)) (lv' := [(4, .int (nI (i + 1))), (3, .int (nI (z_ct (z_ap G D o t) (i + 1)))), (0, .ref (mo 0)), (1, .int (nI t)), (2, .int (nI o))]) hx hb dX3_ahead_57 hl (k := 4) rfl (nI_1 _) (by decide) rfl (fun ls hl => ?_)
              refine lv_goto (tgt := 15) hx hb dX3_ahead_60 (by decide) ?_
              exact ih15 (i + 1) (by omega) (by omega) _ (lv_sub hl [2, 3, 4, 1, 0] rfl)
            · skip
              refine lv_iconst (v := 1) hx hb dX3_ahead_50 (by decide) ?_
              refine lv_goto (tgt := 55) hx hb dX3_ahead_51 (by decide) ?_
              refine lv_iadd hx hb dX3_ahead_55 ?_
              refine z_top (x' := nI (z_ct (z_ap G D o t) (i + 1))) (by rw [z_ct_t (p := z_ap G D o t) (n := i) (z_and_t (z_bI1 c31) (z_dec_t (z_i32_lt c47)))]; exact nI_1 _) ?_
              refine lv_istore_n (lv' := [(3, .int (nI (z_ct (z_ap G D o t) (i + 1)))), (0, .ref (mo 0)), (1, .int (nI t)), (2, .int (nI o)), (4, .int (nI i))]) hx hb dX3_ahead_56 rfl hl (by decide) rfl (fun ls hl => ?_)
              refine lv_iinc (v := nI (i + 1)) (lv' := [(4, .int (nI (i + 1))), (3, .int (nI (z_ct (z_ap G D o t) (i + 1)))), (0, .ref (mo 0)), (1, .int (nI t)), (2, .int (nI o))]) hx hb dX3_ahead_57 hl (k := 4) rfl (nI_1 _) (by decide) rfl (fun ls hl => ?_)
              refine lv_goto (tgt := 15) hx hb dX3_ahead_60 (by decide) ?_
              exact ih15 (i + 1) (by omega) (by omega) _ (lv_sub hl [2, 3, 4, 1, 0] rfl)
    exact lp15 (z_tc G + 1) 0 (by omega) (by omega) _ (lv_sub hl [2, 3, 4, 1, 0] rfl)
  · skip
    refine lv_iconst (v := (-1)) hx hb dX3_ahead_8 (by decide) ?_
    exact z_er_i (by rw [z_plb, if_neg (z_bne' (z_bI0 c5))]) hx hb hr hlk dX3_ahead_9

set_option maxHeartbeats 4000000 in
set_option maxRecDepth 100000 in
theorem m_X3_until (l : Launch) (Dg : va_G) (cI : ClassId) (mo : Nat → Nat) (th : Int32) (G : z_GG) (D : z_DD) (K : Nat → Int32) (t s_ : Nat) (ht : t < z_tc G) (hs4 : s_ < 4) (hG : z_WG G) : z_Mr l yX3_until wsX3_until 1 22 [.ref (mo 0), .int (nI t), .int (nI s_)] Dg cI (z_mW cI mo th G D K) (some (.int (z_un G D t s_))) := by
  have htc : z_tc G ≤ 60 := hG.2.2.2.2.2.1
  refine z_sr (own := RX3) (l0 := [(0, .ref (mo 0)), (1, .int (nI t)), (2, .int (nI s_))]) rfl rfl (by decide) (Nat.le_of_ble_eq_true rfl) rfl ?_
  intro p e s m below meth c hx hb hr hml hts hown hlk hP hK hN ls hl
  refine lv_aload_n hx hb dX3_until_0 rfl (lv_at hl 0 rfl) ?_
  refine lv_iload_n hx hb dX3_until_1 rfl (lv_at hl 1 rfl) ?_
  refine lv_iload_n hx hb dX3_until_2 rfl (lv_at hl 2 rfl) ?_
  refine z_rVi (v := z_rt G t s_) [] hx hb hml hown hts (m_X3_rate l Dg cI mo th G D K t s_ (by omega) (by omega) hG) gX3_until_X3_rate rfl kd_X3_rate ⟨Nat.le_of_ble_eq_true rfl, Nat.le_of_ble_eq_true rfl⟩ hK hN hP rfl rfl rfl rfl hl.1 rfl (Nat.le_of_ble_eq_true rfl) dX3_until_3 ⟨Nat.zero_le _, Nat.zero_le _⟩ ?_
  refine lv_istore_n (lv' := [(3, .int (z_rt G t s_)), (0, .ref (mo 0)), (1, .int (nI t)), (2, .int (nI s_))]) hx hb dX3_until_6 rfl hl (by decide) rfl (fun ls hl => ?_)
  refine lv_iload_n hx hb dX3_until_7 rfl (lv_at hl 0 rfl) ?_
  refine lv_if_ne (tgt := 15) hx hb dX3_until_8 (by decide) (fun c8 => ?_) (fun c8 => ?_)
  · skip
    refine lv_aload_n hx hb dX3_until_15 rfl (lv_at hl 1 rfl) ?_
    refine va_get (ci := 3) (v := .ref (mo 6)) (C := RX3) (T := TX3) (N := 12) hx hb hts (fun _ h => (List.mem_cons_of_mem _ (List.mem_append_right _ h))) hown hK hP 0 rfl rfl 10 (by decide) (hts _ (List.mem_cons_of_mem _ (List.mem_append_left _ (List.mem_of_getElem? (i := 0) rfl)))) (fun _ h9 => h9) rfl dX3_until_16 ?_
    refine lv_bipush (v := nI 73) hx hb dX3_until_19 (by decide) ?_
    refine lv_iload_n hx hb dX3_until_21 rfl (lv_at hl 2 rfl) ?_
    refine lv_iadd hx hb dX3_until_22 ?_
    refine z_top (x' := nI (73 + t)) (nI_add _ _) ?_
    refine z_iald hx hb hK hP 6 0 rfl rfl (by omega) (by decide) dX3_until_23 ?_
    refine z_top (x' := z_vc D t) (z_nw_vc _ _) ?_
    refine lv_iload_n hx hb dX3_until_24 rfl (lv_at hl 0 rfl) ?_
    refine lv_iadd hx hb dX3_until_25 ?_
    refine lv_iconst (v := 1) hx hb dX3_until_26 (by decide) ?_
    refine lv_isub hx hb dX3_until_27 ?_
    refine lv_iload_n hx hb dX3_until_28 rfl (lv_at hl 0 rfl) ?_
    refine lv_idiv hx hb dX3_until_29 c8 ?_
    exact z_er_i (by rw [z_un, if_neg c8]) hx hb hr hlk dX3_until_30
  · skip
    refine lv_iconst (v := (-1)) hx hb dX3_until_11 (by decide) ?_
    refine lv_goto (tgt := 30) hx hb dX3_until_12 (by decide) ?_
    exact z_er_i (by rw [z_un, if_pos c8]) hx hb hr hlk dX3_until_30

set_option maxHeartbeats 4000000 in
set_option maxRecDepth 100000 in
theorem m_X3_untilRecalled (l : Launch) (Dg : va_G) (cI : ClassId) (mo : Nat → Nat) (th : Int32) (G : z_GG) (D : z_DD) (K : Nat → Int32) (b_ : Nat) (hbb : b_ < 6) (hG : z_WG G) (hW : z_WD G D) : z_Mw l yX3_untilRecalled wsX3_untilRecalled 3 88 [.ref (mo 0), .int (nI b_)] Dg cI (z_mW cI mo th G D K) (some (.int (z_ur G D b_))) (z_mW cI mo th G D (z_nw D)) := by
  have htc : z_tc G ≤ 60 := hG.2.2.2.2.2.1
  have hbc : z_bc G ≤ 6 := hG.2.2.2.2.1
  refine z_sw' (own := RX3) (l0 := [(0, .ref (mo 0)), (1, .int (nI b_))]) rfl rfl (by decide) (Nat.le_of_ble_eq_true rfl) rfl ?_
  intro p e s m below meth c hx hb hr hml hts hown hlk hP hK hN hD hS ls hl
  refine lv_aload_n hx hb dX3_untilRecalled_0 rfl (lv_at hl 0 rfl) ?_
  refine z_wAv [] hx hb hml hown hts (m_X3_keep l Dg cI mo th G D K) gX3_untilRecalled_X3_keep rfl kd_X3_keep ⟨Nat.le_of_ble_eq_true rfl, Nat.le_of_ble_eq_true rfl⟩ hK hN hP hD hS rfl rfl rfl rfl rfl hl.1 rfl (Nat.le_of_ble_eq_true rfl) dX3_untilRecalled_1 ⟨Nat.zero_le _, Nat.zero_le _⟩ (fun H locs hP hD hS => ?_)
  have hP : va_P Dg vwCl (z_mW cI mo th G D (z_nw D)) H := hP
  have hD : va_D _ (z_mW cI mo th G D (z_nw D)) := hD
  refine lv_iconst (v := nI 0) hx hb dX3_untilRecalled_4 (by decide) ?_
  refine lv_istore_n (lv' := [(2, .int (nI 0)), (0, .ref (mo 0)), (1, .int (nI b_))]) hx hb dX3_untilRecalled_5 rfl hl (by decide) rfl (fun ls hl => ?_)
  have lp6 : ∀ (zz i : Nat) , i ≤ 61 → 61 + 1 ≤ i + zz → (i ≤ 60 → z_ur G D b_ = if z_rc (z_days G D i) b_ = true then nI i else z_urn G D b_ (60 - i)) → (i = 61 → z_ur G D b_ = -1) → ∀ (H : Heap) (locs : List Loc), va_P Dg vwCl (z_mW cI mo th G (z_days G D i) (z_nw D)) H → va_D (z_in (z_mW cI mo th G D K)) (z_mW cI mo th G (z_days G D i) (z_nw D)) → va_S (z_in (z_mW cI mo th G D K)) s.heap H locs → ∀ ls : Array Slot, lv_has ls 3 [(0, .ref (mo 0)), (1, .int (nI b_)), (2, .int (nI i))] → W p l e ({ frames := 3, cells := 0, slots := 0, locals := 88 } : Room) s m ([.ref (mo 0), .int (nI b_)] : List Value).toArray below meth c H locs 0 0 (MQ below (z_Qw (some (.int (z_ur G D b_))) Dg (z_mW cI mo th G D K) (z_mW cI mo th G D (z_nw D))) ([.ref (mo 0), .int (nI b_)] : List Value).toArray s 0 0 (z_in (z_mW cI mo th G D K))) (F0 m 6 ls []) := by
    intro zz
    induction zz with
    | zero => intros; exfalso; omega
    | succ zz ih6 =>
      intro i hi hzz hf6_0 hf6_1 H locs hP hD hS ls hl
      refine lv_iload_n hx hb dX3_untilRecalled_6 rfl (lv_at hl 2 rfl) ?_
      refine lv_bipush (v := nI 60) hx hb dX3_untilRecalled_7 (by decide) ?_
      refine lv_icmp_gt (tgt := 34) hx hb dX3_untilRecalled_9 (by decide) (fun c9 => ?_) (fun c9 => ?_)
      · skip
        have hi2 : i = 61 := by have := z_nle (b := 60) (by decide) (fun q => absurd c9 (z_i32_nlt q)); omega
        refine lv_aload_n hx hb dX3_untilRecalled_34 rfl (lv_at hl 0 rfl) ?_
        refine z_wAv [] hx hb hml hown hts (m_X3_bringBack l Dg cI mo th G (z_days G D i) D) gX3_untilRecalled_X3_bringBack rfl kd_X3_bringBack ⟨Nat.le_of_ble_eq_true rfl, Nat.le_of_ble_eq_true rfl⟩ hK hN hP hD hS rfl rfl rfl rfl rfl hl.1 rfl (Nat.le_of_ble_eq_true rfl) dX3_untilRecalled_35 ⟨Nat.zero_le _, Nat.zero_le _⟩ (fun H locs hP hD hS => ?_)
        have hP : va_P Dg vwCl (z_mW cI mo th G D (z_nw D)) H := hP
        have hD : va_D _ (z_mW cI mo th G D (z_nw D)) := hD
        refine lv_iload_n hx hb dX3_untilRecalled_38 rfl (lv_at hl 2 rfl) ?_
        refine lv_bipush (v := nI 60) hx hb dX3_untilRecalled_39 (by decide) ?_
        refine lv_icmp_le (tgt := 48) hx hb dX3_untilRecalled_41 (by decide) (fun c41 => absurd c41 (fun q => absurd (z_le (by omega) (by decide) q) (by omega))) (fun c41 => ?_)
        refine lv_iconst (v := (-1)) hx hb dX3_untilRecalled_44 (by decide) ?_
        refine lv_goto (tgt := 49) hx hb dX3_untilRecalled_45 (by decide) ?_
        exact z_ew_i (hf6_1 hi2).symm hP hS hx hb hr hlk dX3_untilRecalled_49
      · skip
        have hi2 : i ≤ 60 := z_le (by omega) (by omega) (z_i32_le c9)
        have hWi := z_WD_days hW i
        refine lv_aload_n hx hb dX3_untilRecalled_12 rfl (lv_at hl 0 rfl) ?_
        refine va_get (ci := 3) (v := .ref (mo 6)) (C := RX3) (T := TX3) (N := 12) hx hb hts (fun _ h => (List.mem_cons_of_mem _ (List.mem_append_right _ h))) hown hK hP 0 rfl rfl 10 (by decide) (hts _ (List.mem_cons_of_mem _ (List.mem_append_left _ (List.mem_append_left _ (List.mem_of_getElem? (i := 0) rfl))))) (fun _ h9 => h9) rfl dX3_untilRecalled_13 ?_
        refine lv_bipush (v := nI 7) hx hb dX3_untilRecalled_16 (by decide) ?_
        refine lv_iload_n hx hb dX3_untilRecalled_18 rfl (lv_at hl 1 rfl) ?_
        refine lv_iadd hx hb dX3_untilRecalled_19 ?_
        refine z_top (x' := nI (7 + b_)) (nI_add _ _) ?_
        refine z_iald hx hb hK hP 6 0 rfl rfl (by omega) (by decide) dX3_untilRecalled_20 ?_
        refine z_top (x' := z_bI (z_rc (z_days G D i) b_)) (z_nw_rc _ (by omega)) ?_
        refine lv_if_ne (tgt := 34) hx hb dX3_untilRecalled_21 (by decide) (fun c21 => ?_) (fun c21 => ?_)
        · skip
          refine lv_aload_n hx hb dX3_untilRecalled_34 rfl (lv_at hl 0 rfl) ?_
          refine z_wAv [] hx hb hml hown hts (m_X3_bringBack l Dg cI mo th G (z_days G D i) D) gX3_untilRecalled_X3_bringBack rfl kd_X3_bringBack ⟨Nat.le_of_ble_eq_true rfl, Nat.le_of_ble_eq_true rfl⟩ hK hN hP hD hS rfl rfl rfl rfl rfl hl.1 rfl (Nat.le_of_ble_eq_true rfl) dX3_untilRecalled_35 ⟨Nat.zero_le _, Nat.zero_le _⟩ (fun H locs hP hD hS => ?_)
          have hP : va_P Dg vwCl (z_mW cI mo th G D (z_nw D)) H := hP
          have hD : va_D _ (z_mW cI mo th G D (z_nw D)) := hD
          refine lv_iload_n hx hb dX3_untilRecalled_38 rfl (lv_at hl 2 rfl) ?_
          refine lv_bipush (v := nI 60) hx hb dX3_untilRecalled_39 (by decide) ?_
          refine lv_icmp_le (tgt := 48) hx hb dX3_untilRecalled_41 (by decide) (fun c41 => ?_) (fun c41 => absurd (nI_le hi2 (by decide)) c41)
          refine lv_iload_n hx hb dX3_untilRecalled_48 rfl (lv_at hl 2 rfl) ?_
          exact z_ew_i (by rw [hf6_0 hi2, if_pos (z_bI1 c21)]) hP hS hx hb hr hlk dX3_untilRecalled_49
        · skip
          refine lv_aload_n hx hb dX3_untilRecalled_24 rfl (lv_at hl 0 rfl) ?_
          refine z_wAv [] hx hb hml hown hts (m_X3_dayOn l Dg cI mo th G (z_days G D i) (z_nw D) hG hWi) gX3_untilRecalled_X3_dayOn rfl kd_X3_dayOn ⟨Nat.le_of_ble_eq_true rfl, Nat.le_of_ble_eq_true rfl⟩ hK hN hP hD hS rfl rfl rfl rfl rfl hl.1 rfl (Nat.le_of_ble_eq_true rfl) dX3_untilRecalled_25 ⟨Nat.zero_le _, Nat.zero_le _⟩ (fun H locs hP hD hS => ?_)
          have hP : va_P Dg vwCl (z_mW cI mo th G (z_day G (z_days G D i)) (z_nw D)) H := hP
          have hD : va_D _ (z_mW cI mo th G (z_day G (z_days G D i)) (z_nw D)) := hD
          have hP : va_P Dg vwCl (z_mW cI mo th G (z_days G D (i + 1)) (z_nw D)) H := hP
          have hD : va_D _ (z_mW cI mo th G (z_days G D (i + 1)) (z_nw D)) := hD
          refine lv_iinc (v := nI (i + 1)) (lv' := [(2, .int (nI (i + 1))), (0, .ref (mo 0)), (1, .int (nI b_))]) hx hb dX3_untilRecalled_28 hl (k := 2) rfl (nI_1 _) (by decide) rfl (fun ls hl => ?_)
          refine lv_goto (tgt := 6) hx hb dX3_untilRecalled_31 (by decide) ?_
          exact ih6 (i + 1) (by omega) (by omega) (fun q => by rw [hf6_0 hi2, if_neg (by rw [z_bI0 c21]; decide), z_ur_s (by omega)]) (fun q => by rw [hf6_0 hi2, if_neg (by rw [z_bI0 c21]; decide), show 60 - i = 0 by omega]; rfl) _ _ hP hD hS _ (lv_sub hl [1, 2, 0] rfl)
  exact lp6 (61 + 1) 0 (by omega) (by omega) (fun _ => rfl) (fun q => absurd q (by decide)) _ _ hP hD hS _ (lv_sub hl [1, 2, 0] rfl)

set_option maxHeartbeats 4000000 in
set_option maxRecDepth 100000 in
theorem m_X3_lostBehind (l : Launch) (Dg : va_G) (cI : ClassId) (mo : Nat → Nat) (th : Int32) (G : z_GG) (D : z_DD) (K : Nat → Int32) (m_ o : Nat) (hm9 : m_ < 10) (ho : o < 3) (hG : z_WG G) (hW : z_WD G D) : z_Mw l yX3_lostBehind wsX3_lostBehind 4 89 [.ref (mo 0), .int (nI m_), .int (nI o)] Dg cI (z_mW cI mo th G D K) (some (.int (z_ls G D m_ o))) (z_mW cI mo th G D (z_nw D)) := by
  have htc : z_tc G ≤ 60 := hG.2.2.2.2.2.1
  have hbc : z_bc G ≤ 6 := hG.2.2.2.2.1
  have hG2 := z_WG_ship hG (m := m_) (o := o) (by omega) (by omega)
  have hW2 : z_WD (z_ship G m_ o) D := hW
  have hWi := z_WD_days hW2 30
  refine z_sw' (own := RX3) (l0 := [(0, .ref (mo 0)), (1, .int (nI m_)), (2, .int (nI o))]) rfl rfl (by decide) (Nat.le_of_ble_eq_true rfl) rfl ?_
  intro p e s m below meth c hx hb hr hml hts hown hlk hP hK hN hD hS ls hl
  refine lv_aload_n hx hb dX3_lostBehind_0 rfl (lv_at hl 0 rfl) ?_
  refine va_get (ci := 3) (v := .int (nI (z_sd G))) (C := RX3) (T := TX3) (N := 12) hx hb hts (fun _ h => (List.mem_cons_of_mem _ (List.mem_append_right _ h))) hown hK hP 0 rfl rfl 3 (by decide) (hts _ (List.mem_cons_of_mem _ (List.mem_append_left _ (List.mem_append_left _ (List.mem_of_getElem? (i := 0) rfl))))) (fun _ h9 => h9) rfl dX3_lostBehind_1 ?_
  refine lv_istore_n (lv' := [(3, .int (nI (z_sd G))), (0, .ref (mo 0)), (1, .int (nI m_)), (2, .int (nI o))]) hx hb dX3_lostBehind_4 rfl hl (by decide) rfl (fun ls hl => ?_)
  refine lv_aload_n hx hb dX3_lostBehind_5 rfl (lv_at hl 1 rfl) ?_
  refine va_get (ci := 3) (v := .int (nI (z_od G))) (C := RX3) (T := TX3) (N := 12) hx hb hts (fun _ h => (List.mem_cons_of_mem _ (List.mem_append_right _ h))) hown hK hP 0 rfl rfl 4 (by decide) (hts _ (List.mem_cons_of_mem _ (List.mem_append_left _ (List.mem_append_left _ (List.mem_of_getElem? (i := 1) rfl))))) (fun _ h9 => h9) rfl dX3_lostBehind_6 ?_
  refine lv_istore (lv' := [(4, .int (nI (z_od G))), (3, .int (nI (z_sd G))), (0, .ref (mo 0)), (1, .int (nI m_)), (2, .int (nI o))]) hx hb dX3_lostBehind_9 hl (by decide) rfl (fun ls hl => ?_)
  refine lv_aload_n hx hb dX3_lostBehind_11 rfl (lv_at hl 2 rfl) ?_
  refine lv_iconst (v := nI 2) hx hb dX3_lostBehind_12 (by decide) ?_
  refine z_rVi (v := nI (z_cn G D 3)) [] hx hb hml hown hts (m_X3_count l Dg cI mo th G D K 2 (by decide) hG hW) gX3_lostBehind_X3_count rfl kd_X3_count ⟨Nat.le_of_ble_eq_true rfl, Nat.le_of_ble_eq_true rfl⟩ hK hN hP rfl rfl rfl rfl hl.1 rfl (Nat.le_of_ble_eq_true rfl) dX3_lostBehind_13 ⟨Nat.zero_le _, Nat.zero_le _⟩ ?_
  refine lv_istore (lv' := [(5, .int (nI (z_cn G D 3))), (4, .int (nI (z_od G))), (3, .int (nI (z_sd G))), (0, .ref (mo 0)), (1, .int (nI m_)), (2, .int (nI o))]) hx hb dX3_lostBehind_16 hl (by decide) rfl (fun ls hl => ?_)
  refine lv_aload_n hx hb dX3_lostBehind_18 rfl (lv_at hl 3 rfl) ?_
  refine lv_iload_n hx hb dX3_lostBehind_19 rfl (lv_at hl 4 rfl) ?_
  refine va_put (ci := 3) (v := .int (nI m_)) (ty := .int) (C := RX3) (T := TX3) (N := 12) hx hb hts (fun _ h => (List.mem_cons_of_mem _ (List.mem_append_right _ h))) tyX3 tyX3_ok nmX3 hown hK hP hD hS 0 rfl rfl 3 (by decide) (hts _ (List.mem_cons_of_mem _ (List.mem_append_left _ (List.mem_append_left _ (List.mem_of_getElem? (i := 0) rfl))))) (fun _ h9 => h9) rfl (by decide +kernel) rfl rfl (Nat.le_of_ble_eq_true rfl) dX3_lostBehind_20 (fun H locs hP hD hS => ?_)
  have hP : va_P Dg vwCl (z_mX cI mo th (nI (z_bc G)) (nI (z_tc G)) (nI m_) (nI (z_od G)) (z_v0 G) (z_lk G) (z_wm G) (fun j9 => nI (z_bt G j9)) (fun j9 => nI (z_sh G j9)) (z_nw D) K) H := hP
  have hD : va_D _ (z_mX cI mo th (nI (z_bc G)) (nI (z_tc G)) (nI m_) (nI (z_od G)) (z_v0 G) (z_lk G) (z_wm G) (fun j9 => nI (z_bt G j9)) (fun j9 => nI (z_sh G j9)) (z_nw D) K) := hD
  refine lv_aload_n hx hb dX3_lostBehind_23 rfl (lv_at hl 3 rfl) ?_
  refine lv_iload_n hx hb dX3_lostBehind_24 rfl (lv_at hl 5 rfl) ?_
  refine va_put (ci := 3) (v := .int (nI o)) (ty := .int) (C := RX3) (T := TX3) (N := 12) hx hb hts (fun _ h => (List.mem_cons_of_mem _ (List.mem_append_right _ h))) tyX3 tyX3_ok nmX3 hown hK hP hD hS 0 rfl rfl 4 (by decide) (hts _ (List.mem_cons_of_mem _ (List.mem_append_left _ (List.mem_append_left _ (List.mem_of_getElem? (i := 1) rfl))))) (fun _ h9 => h9) rfl (by decide +kernel) rfl rfl (Nat.le_of_ble_eq_true rfl) dX3_lostBehind_25 (fun H locs hP hD hS => ?_)
  have hP : va_P Dg vwCl (z_mX cI mo th (nI (z_bc G)) (nI (z_tc G)) (nI m_) (nI o) (z_v0 G) (z_lk G) (z_wm G) (fun j9 => nI (z_bt G j9)) (fun j9 => nI (z_sh G j9)) (z_nw D) K) H := hP
  have hD : va_D _ (z_mX cI mo th (nI (z_bc G)) (nI (z_tc G)) (nI m_) (nI o) (z_v0 G) (z_lk G) (z_wm G) (fun j9 => nI (z_bt G j9)) (fun j9 => nI (z_sh G j9)) (z_nw D) K) := hD
  have hP : va_P Dg vwCl (z_mW cI mo th (z_ship G m_ o) D K) H := hP
  have hD : va_D _ (z_mW cI mo th (z_ship G m_ o) D K) := hD
  refine lv_aload_n hx hb dX3_lostBehind_28 rfl (lv_at hl 3 rfl) ?_
  refine z_wAv [] hx hb hml hown hts (m_X3_keep l Dg cI mo th (z_ship G m_ o) D K) gX3_lostBehind_X3_keep rfl kd_X3_keep ⟨Nat.le_of_ble_eq_true rfl, Nat.le_of_ble_eq_true rfl⟩ hK hN hP hD hS rfl rfl rfl rfl rfl hl.1 rfl (Nat.le_of_ble_eq_true rfl) dX3_lostBehind_29 ⟨Nat.zero_le _, Nat.zero_le _⟩ (fun H locs hP hD hS => ?_)
  have hP : va_P Dg vwCl (z_mW cI mo th (z_ship G m_ o) D (z_nw D)) H := hP
  have hD : va_D _ (z_mW cI mo th (z_ship G m_ o) D (z_nw D)) := hD
  refine lv_aload_n hx hb dX3_lostBehind_32 rfl (lv_at hl 3 rfl) ?_
  refine lv_bipush (v := nI 30) hx hb dX3_lostBehind_33 (by decide) ?_
  refine z_wAv [] hx hb hml hown hts (m_X3_daysOn l Dg cI mo th (z_ship G m_ o) D (z_nw D) 30 (by omega) hG2 hW) gX3_lostBehind_X3_daysOn rfl kd_X3_daysOn ⟨Nat.le_of_ble_eq_true rfl, Nat.le_of_ble_eq_true rfl⟩ hK hN hP hD hS rfl rfl rfl rfl rfl hl.1 rfl (Nat.le_of_ble_eq_true rfl) dX3_lostBehind_35 ⟨Nat.zero_le _, Nat.zero_le _⟩ (fun H locs hP hD hS => ?_)
  have hP : va_P Dg vwCl (z_mW cI mo th (z_ship G m_ o) (z_days (z_ship G m_ o) D 30) (z_nw D)) H := hP
  have hD : va_D _ (z_mW cI mo th (z_ship G m_ o) (z_days (z_ship G m_ o) D 30) (z_nw D)) := hD
  refine lv_aload_n hx hb dX3_lostBehind_38 rfl (lv_at hl 3 rfl) ?_
  refine lv_iconst (v := nI 2) hx hb dX3_lostBehind_39 (by decide) ?_
  refine z_rVi (v := nI (z_cn (z_ship G m_ o) (z_days (z_ship G m_ o) D 30) 3)) [] hx hb hml hown hts (m_X3_count l Dg cI mo th (z_ship G m_ o) (z_days (z_ship G m_ o) D 30) (z_nw D) 2 (by decide) hG2 hWi) gX3_lostBehind_X3_count rfl kd_X3_count ⟨Nat.le_of_ble_eq_true rfl, Nat.le_of_ble_eq_true rfl⟩ hK hN hP rfl rfl rfl rfl hl.1 rfl (Nat.le_of_ble_eq_true rfl) dX3_lostBehind_40 ⟨Nat.zero_le _, Nat.zero_le _⟩ ?_
  refine lv_iload hx hb dX3_lostBehind_43 (lv_at hl 0 rfl) ?_
  refine lv_isub hx hb dX3_lostBehind_45 ?_
  refine lv_istore (lv' := [(6, .int ((nI (z_cn (z_ship G m_ o) (z_days (z_ship G m_ o) D 30) 3)) - (nI (z_cn G D 3)))), (5, .int (nI (z_cn G D 3))), (4, .int (nI (z_od G))), (3, .int (nI (z_sd G))), (0, .ref (mo 0)), (1, .int (nI m_)), (2, .int (nI o))]) hx hb dX3_lostBehind_46 hl (by decide) rfl (fun ls hl => ?_)
  refine lv_aload_n hx hb dX3_lostBehind_48 rfl (lv_at hl 4 rfl) ?_
  refine z_wAv [] hx hb hml hown hts (m_X3_bringBack l Dg cI mo th (z_ship G m_ o) (z_days (z_ship G m_ o) D 30) D) gX3_lostBehind_X3_bringBack rfl kd_X3_bringBack ⟨Nat.le_of_ble_eq_true rfl, Nat.le_of_ble_eq_true rfl⟩ hK hN hP hD hS rfl rfl rfl rfl rfl hl.1 rfl (Nat.le_of_ble_eq_true rfl) dX3_lostBehind_49 ⟨Nat.zero_le _, Nat.zero_le _⟩ (fun H locs hP hD hS => ?_)
  have hP : va_P Dg vwCl (z_mW cI mo th (z_ship G m_ o) D (z_nw D)) H := hP
  have hD : va_D _ (z_mW cI mo th (z_ship G m_ o) D (z_nw D)) := hD
  refine lv_aload_n hx hb dX3_lostBehind_52 rfl (lv_at hl 4 rfl) ?_
  refine lv_iload_n hx hb dX3_lostBehind_53 rfl (lv_at hl 3 rfl) ?_
  refine va_put (ci := 3) (v := .int (nI (z_sd G))) (ty := .int) (C := RX3) (T := TX3) (N := 12) hx hb hts (fun _ h => (List.mem_cons_of_mem _ (List.mem_append_right _ h))) tyX3 tyX3_ok nmX3 hown hK hP hD hS 0 rfl rfl 3 (by decide) (hts _ (List.mem_cons_of_mem _ (List.mem_append_left _ (List.mem_append_left _ (List.mem_of_getElem? (i := 0) rfl))))) (fun _ h9 => h9) rfl (by decide +kernel) rfl rfl (Nat.le_of_ble_eq_true rfl) dX3_lostBehind_54 (fun H locs hP hD hS => ?_)
  have hP : va_P Dg vwCl (z_mX cI mo th (nI (z_bc (z_ship G m_ o))) (nI (z_tc (z_ship G m_ o))) (nI (z_sd G)) (nI (z_od (z_ship G m_ o))) (z_v0 (z_ship G m_ o)) (z_lk (z_ship G m_ o)) (z_wm (z_ship G m_ o)) (fun j9 => nI (z_bt (z_ship G m_ o) j9)) (fun j9 => nI (z_sh (z_ship G m_ o) j9)) (z_nw D) (z_nw D)) H := hP
  have hD : va_D _ (z_mX cI mo th (nI (z_bc (z_ship G m_ o))) (nI (z_tc (z_ship G m_ o))) (nI (z_sd G)) (nI (z_od (z_ship G m_ o))) (z_v0 (z_ship G m_ o)) (z_lk (z_ship G m_ o)) (z_wm (z_ship G m_ o)) (fun j9 => nI (z_bt (z_ship G m_ o) j9)) (fun j9 => nI (z_sh (z_ship G m_ o) j9)) (z_nw D) (z_nw D)) := hD
  refine lv_aload_n hx hb dX3_lostBehind_57 rfl (lv_at hl 4 rfl) ?_
  refine lv_iload hx hb dX3_lostBehind_58 (lv_at hl 2 rfl) ?_
  refine va_put (ci := 3) (v := .int (nI (z_od G))) (ty := .int) (C := RX3) (T := TX3) (N := 12) hx hb hts (fun _ h => (List.mem_cons_of_mem _ (List.mem_append_right _ h))) tyX3 tyX3_ok nmX3 hown hK hP hD hS 0 rfl rfl 4 (by decide) (hts _ (List.mem_cons_of_mem _ (List.mem_append_left _ (List.mem_append_left _ (List.mem_of_getElem? (i := 1) rfl))))) (fun _ h9 => h9) rfl (by decide +kernel) rfl rfl (Nat.le_of_ble_eq_true rfl) dX3_lostBehind_60 (fun H locs hP hD hS => ?_)
  have hP : va_P Dg vwCl (z_mX cI mo th (nI (z_bc (z_ship G m_ o))) (nI (z_tc (z_ship G m_ o))) (nI (z_sd G)) (nI (z_od G)) (z_v0 (z_ship G m_ o)) (z_lk (z_ship G m_ o)) (z_wm (z_ship G m_ o)) (fun j9 => nI (z_bt (z_ship G m_ o) j9)) (fun j9 => nI (z_sh (z_ship G m_ o) j9)) (z_nw D) (z_nw D)) H := hP
  have hD : va_D _ (z_mX cI mo th (nI (z_bc (z_ship G m_ o))) (nI (z_tc (z_ship G m_ o))) (nI (z_sd G)) (nI (z_od G)) (z_v0 (z_ship G m_ o)) (z_lk (z_ship G m_ o)) (z_wm (z_ship G m_ o)) (fun j9 => nI (z_bt (z_ship G m_ o) j9)) (fun j9 => nI (z_sh (z_ship G m_ o) j9)) (z_nw D) (z_nw D)) := hD
  have hP : va_P Dg vwCl (z_mW cI mo th G D (z_nw D)) H := hP
  have hD : va_D _ (z_mW cI mo th G D (z_nw D)) := hD
  refine lv_iload hx hb dX3_lostBehind_63 (lv_at hl 0 rfl) ?_
  exact z_ew_i rfl hP hS hx hb hr hlk dX3_lostBehind_65

set_option maxHeartbeats 4000000 in
set_option maxRecDepth 100000 in
theorem m_X3_best (l : Launch) (Dg : va_G) (cI : ClassId) (mo : Nat → Nat) (th : Int32) (G : z_GG) (D : z_DD) (K : Nat → Int32) (hG : z_WG G) (hW : z_WD G D) : z_Mw l yX3_best wsX3_best 5 115 [.ref (mo 0)] Dg cI (z_mW cI mo th G D K) (some (.int (nI (z_bo G D)))) (z_mW cI mo th G D (z_nw D)) := by
  have htc : z_tc G ≤ 60 := hG.2.2.2.2.2.1
  have hbc : z_bc G ≤ 6 := hG.2.2.2.2.1
  have hsd : z_sd G ≤ 9 := hG.2.2.2.2.2.2.1
  have hod : z_od G ≤ 2 := hG.2.2.2.2.2.2.2
  refine z_sw' (own := RX3) (l0 := [(0, .ref (mo 0))]) rfl rfl (by decide) (Nat.le_of_ble_eq_true rfl) rfl ?_
  intro p e s m below meth c hx hb hr hml hts hown hlk hP hK hN hD hS ls hl
  refine lv_iconst (v := nI 0) hx hb dX3_best_0 (by decide) ?_
  refine lv_istore_n (lv' := [(1, .int (nI 0)), (0, .ref (mo 0))]) hx hb dX3_best_1 rfl hl (by decide) rfl (fun ls hl => ?_)
  refine lv_aload_n hx hb dX3_best_2 rfl (lv_at hl 1 rfl) ?_
  refine lv_aload_n hx hb dX3_best_3 rfl (lv_at hl 1 rfl) ?_
  refine va_get (ci := 3) (v := .int (nI (z_sd G))) (C := RX3) (T := TX3) (N := 12) hx hb hts (fun _ h => (List.mem_cons_of_mem _ (List.mem_append_right _ h))) hown hK hP 0 rfl rfl 3 (by decide) (hts _ (List.mem_cons_of_mem _ (List.mem_append_left _ (List.mem_append_left _ (List.mem_of_getElem? (i := 0) rfl))))) (fun _ h9 => h9) rfl dX3_best_4 ?_
  refine lv_iconst (v := nI 0) hx hb dX3_best_7 (by decide) ?_
  refine z_wAi (v := z_ls G D (z_sd G) 0) [] hx hb hml hown hts (m_X3_lostBehind l Dg cI mo th G D K (z_sd G) 0 (by omega) (by omega) hG hW) gX3_best_X3_lostBehind rfl kd_X3_lostBehind ⟨Nat.le_of_ble_eq_true rfl, Nat.le_of_ble_eq_true rfl⟩ hK hN hP hD hS rfl rfl rfl rfl rfl hl.1 rfl (Nat.le_of_ble_eq_true rfl) dX3_best_8 ⟨Nat.zero_le _, Nat.zero_le _⟩ (fun H locs hP hD hS => ?_)
  have hP : va_P Dg vwCl (z_mW cI mo th G D (z_nw D)) H := hP
  have hD : va_D _ (z_mW cI mo th G D (z_nw D)) := hD
  refine lv_istore_n (lv' := [(2, .int (z_ls G D (z_sd G) 0)), (1, .int (nI 0)), (0, .ref (mo 0))]) hx hb dX3_best_11 rfl hl (by decide) rfl (fun ls hl => ?_)
  refine lv_iconst (v := nI 1) hx hb dX3_best_12 (by decide) ?_
  refine lv_istore_n (lv' := [(3, .int (nI 1)), (2, .int (z_ls G D (z_sd G) 0)), (1, .int (nI 0)), (0, .ref (mo 0))]) hx hb dX3_best_13 rfl hl (by decide) rfl (fun ls hl => ?_)
  have lp14 : ∀ (zz i : Nat) , i ≤ 2 → 2 + 1 ≤ i + zz → ∀ (H : Heap) (locs : List Loc), va_P Dg vwCl (z_mW cI mo th G D (z_nw D)) H → va_D (z_in (z_mW cI mo th G D K)) (z_mW cI mo th G D (z_nw D)) → va_S (z_in (z_mW cI mo th G D K)) s.heap H locs → ∀ ls : Array Slot, lv_has ls 5 [(0, .ref (mo 0)), (1, .int (nI (z_bon G D i).1)), (2, .int ((z_bon G D i).2)), (3, .int (nI (i + 1)))] → W p l e ({ frames := 5, cells := 0, slots := 0, locals := 115 } : Room) s m ([.ref (mo 0)] : List Value).toArray below meth c H locs 0 0 (MQ below (z_Qw (some (.int (nI (z_bo G D)))) Dg (z_mW cI mo th G D K) (z_mW cI mo th G D (z_nw D))) ([.ref (mo 0)] : List Value).toArray s 0 0 (z_in (z_mW cI mo th G D K))) (F0 m 14 ls []) := by
    intro zz
    induction zz with
    | zero => intros; exfalso; omega
    | succ zz ih14 =>
      intro i hi hzz H locs hP hD hS ls hl
      refine lv_iload_n hx hb dX3_best_14 rfl (lv_at hl 3 rfl) ?_
      refine lv_iconst (v := nI 3) hx hb dX3_best_15 (by decide) ?_
      refine lv_icmp_ge (tgt := 50) hx hb dX3_best_16 (by decide) (fun c16 => ?_) (fun c16 => ?_)
      · skip
        have hi2 : i = 2 := by have := z_le (by omega) (by omega) c16; omega
        refine lv_iload_n hx hb dX3_best_50 rfl (lv_at hl 1 rfl) ?_
        exact z_ew_i (by rw [hi2]; rfl) hP hS hx hb hr hlk dX3_best_51
      · skip
        have hi2 : i < 2 := by have := z_nle (by omega) c16; omega
        refine lv_aload_n hx hb dX3_best_19 rfl (lv_at hl 0 rfl) ?_
        refine lv_aload_n hx hb dX3_best_20 rfl (lv_at hl 0 rfl) ?_
        refine va_get (ci := 3) (v := .int (nI (z_sd G))) (C := RX3) (T := TX3) (N := 12) hx hb hts (fun _ h => (List.mem_cons_of_mem _ (List.mem_append_right _ h))) hown hK hP 0 rfl rfl 3 (by decide) (hts _ (List.mem_cons_of_mem _ (List.mem_append_left _ (List.mem_append_left _ (List.mem_of_getElem? (i := 0) rfl))))) (fun _ h9 => h9) rfl dX3_best_21 ?_
        refine lv_iload_n hx hb dX3_best_24 rfl (lv_at hl 3 rfl) ?_
        refine z_wAi (v := z_ls G D (z_sd G) (i + 1)) [] hx hb hml hown hts (m_X3_lostBehind l Dg cI mo th G D (z_nw D) (z_sd G) (i + 1) (by omega) (by omega) hG hW) gX3_best_X3_lostBehind rfl kd_X3_lostBehind ⟨Nat.le_of_ble_eq_true rfl, Nat.le_of_ble_eq_true rfl⟩ hK hN hP hD hS rfl rfl rfl rfl rfl hl.1 rfl (Nat.le_of_ble_eq_true rfl) dX3_best_25 ⟨Nat.zero_le _, Nat.zero_le _⟩ (fun H locs hP hD hS => ?_)
        have hP : va_P Dg vwCl (z_mW cI mo th G D (z_nw D)) H := hP
        have hD : va_D _ (z_mW cI mo th G D (z_nw D)) := hD
        refine lv_istore (lv' := [(4, .int (z_ls G D (z_sd G) (i + 1))), (0, .ref (mo 0)), (1, .int (nI (z_bon G D i).1)), (2, .int ((z_bon G D i).2)), (3, .int (nI (i + 1)))]) hx hb dX3_best_28 hl (by decide) rfl (fun ls hl => ?_)
        refine lv_iload hx hb dX3_best_30 (lv_at hl 0 rfl) ?_
        refine lv_iload_n hx hb dX3_best_32 rfl (lv_at hl 3 rfl) ?_
        refine lv_icmp_lt (tgt := 39) hx hb dX3_best_33 (by decide) (fun c33 => ?_) (fun c33 => ?_)
        · skip
          refine lv_iload_n hx hb dX3_best_39 rfl (lv_at hl 4 rfl) ?_
          refine lv_istore_n (lv' := [(1, .int (nI (i + 1))), (4, .int (z_ls G D (z_sd G) (i + 1))), (0, .ref (mo 0)), (2, .int ((z_bon G D i).2)), (3, .int (nI (i + 1)))]) hx hb dX3_best_40 rfl hl (by decide) rfl (fun ls hl => ?_)
          refine lv_iload hx hb dX3_best_41 (lv_at hl 1 rfl) ?_
          refine lv_istore_n (lv' := [(2, .int (z_ls G D (z_sd G) (i + 1))), (1, .int (nI (i + 1))), (4, .int (z_ls G D (z_sd G) (i + 1))), (0, .ref (mo 0)), (3, .int (nI (i + 1)))]) hx hb dX3_best_43 rfl hl (by decide) rfl (fun ls hl => ?_)
          have e1 : z_bon G D (i + 1) = (i + 1, z_ls G D (z_sd G) (i + 1)) := by rw [z_bon, if_pos c33]
          have hl : lv_has ls 5 [(2, .int (z_ls G D (z_sd G) (i + 1))), (1, .int (nI (z_bon G D (i + 1)).1)), (4, .int (z_ls G D (z_sd G) (i + 1))), (0, .ref (mo 0)), (3, .int (nI (i + 1)))] := by have q : nI (i + 1) = nI (z_bon G D (i + 1)).1 := (by rw [e1]); rw [← q]; exact hl
          have hl : lv_has ls 5 [(2, .int ((z_bon G D (i + 1)).2)), (1, .int (nI (z_bon G D (i + 1)).1)), (4, .int (z_ls G D (z_sd G) (i + 1))), (0, .ref (mo 0)), (3, .int (nI (i + 1)))] := by have q : z_ls G D (z_sd G) (i + 1) = (z_bon G D (i + 1)).2 := (by rw [e1]); rw [← q]; exact hl
          refine lv_iinc (v := nI (i + 1 + 1)) (lv' := [(3, .int (nI (i + 1 + 1))), (2, .int ((z_bon G D (i + 1)).2)), (1, .int (nI (z_bon G D (i + 1)).1)), (4, .int (z_ls G D (z_sd G) (i + 1))), (0, .ref (mo 0))]) hx hb dX3_best_44 hl (k := 4) rfl (nI_1 _) (by decide) rfl (fun ls hl => ?_)
          refine lv_goto (tgt := 14) hx hb dX3_best_47 (by decide) ?_
          exact ih14 (i + 1) (by omega) (by omega) _ _ hP hD hS _ (lv_sub hl [4, 2, 1, 0] rfl)
        · skip
          refine lv_goto (tgt := 44) hx hb dX3_best_36 (by decide) ?_
          have e1 : z_bon G D (i + 1) = z_bon G D i := by rw [z_bon, if_neg c33]
          have hl : lv_has ls 5 [(4, .int (z_ls G D (z_sd G) (i + 1))), (0, .ref (mo 0)), (1, .int (nI (z_bon G D (i + 1)).1)), (2, .int ((z_bon G D i).2)), (3, .int (nI (i + 1)))] := by have q : nI (z_bon G D i).1 = nI (z_bon G D (i + 1)).1 := (by rw [e1]); rw [← q]; exact hl
          have hl : lv_has ls 5 [(4, .int (z_ls G D (z_sd G) (i + 1))), (0, .ref (mo 0)), (1, .int (nI (z_bon G D (i + 1)).1)), (2, .int ((z_bon G D (i + 1)).2)), (3, .int (nI (i + 1)))] := by have q : (z_bon G D i).2 = (z_bon G D (i + 1)).2 := (by rw [e1]); rw [← q]; exact hl
          refine lv_iinc (v := nI (i + 1 + 1)) (lv' := [(3, .int (nI (i + 1 + 1))), (4, .int (z_ls G D (z_sd G) (i + 1))), (0, .ref (mo 0)), (1, .int (nI (z_bon G D (i + 1)).1)), (2, .int ((z_bon G D (i + 1)).2))]) hx hb dX3_best_44 hl (k := 4) rfl (nI_1 _) (by decide) rfl (fun ls hl => ?_)
          refine lv_goto (tgt := 14) hx hb dX3_best_47 (by decide) ?_
          exact ih14 (i + 1) (by omega) (by omega) _ _ hP hD hS _ (lv_sub hl [2, 3, 4, 0] rfl)
  exact lp14 (2 + 1) 0 (by omega) (by omega) _ _ hP hD hS _ (lv_sub hl [3, 2, 1, 0] rfl)

set_option maxHeartbeats 4000000 in
set_option maxRecDepth 100000 in
theorem m_X3_wanted (l : Launch) (Dg : va_G) (cI : ClassId) (mo : Nat → Nat) (th : Int32) (G : z_GG) (D : z_DD) (K : Nat → Int32) (hG : z_WG G) (hW : z_WD G D) : z_Mw l yX3_wanted wsX3_wanted 5 115 [.ref (mo 0)] Dg cI (z_mW cI mo th G D K) (some (.int (z_wt G D))) (z_mW cI mo th G D (z_nw D)) := by
  have htc : z_tc G ≤ 60 := hG.2.2.2.2.2.1
  have hbc : z_bc G ≤ 6 := hG.2.2.2.2.1
  have hsd : z_sd G ≤ 9 := hG.2.2.2.2.2.2.1
  have hod : z_od G ≤ 2 := hG.2.2.2.2.2.2.2
  refine z_sw' (own := RX3) (l0 := [(0, .ref (mo 0))]) rfl rfl (by decide) (Nat.le_of_ble_eq_true rfl) rfl ?_
  intro p e s m below meth c hx hb hr hml hts hown hlk hP hK hN hD hS ls hl
  refine lv_iconst (v := nI 0) hx hb dX3_wanted_0 (by decide) ?_
  refine lv_istore_n (lv' := [(1, .int (nI 0)), (0, .ref (mo 0))]) hx hb dX3_wanted_1 rfl hl (by decide) rfl (fun ls hl => ?_)
  have lp2 : ∀ (zz i : Nat) (Kt : Nat → Int32), i ≤ 10 → 10 + 1 ≤ i + zz → z_wt G D = z_wtn G D (10 - i) → (0 < i → Kt = z_nw D) → ∀ (H : Heap) (locs : List Loc), va_P Dg vwCl (z_mW cI mo th G D Kt) H → va_D (z_in (z_mW cI mo th G D K)) (z_mW cI mo th G D Kt) → va_S (z_in (z_mW cI mo th G D K)) s.heap H locs → ∀ ls : Array Slot, lv_has ls 2 [(0, .ref (mo 0)), (1, .int (nI i))] → W p l e ({ frames := 5, cells := 0, slots := 0, locals := 115 } : Room) s m ([.ref (mo 0)] : List Value).toArray below meth c H locs 0 0 (MQ below (z_Qw (some (.int (z_wt G D))) Dg (z_mW cI mo th G D K) (z_mW cI mo th G D (z_nw D))) ([.ref (mo 0)] : List Value).toArray s 0 0 (z_in (z_mW cI mo th G D K))) (F0 m 2 ls []) := by
    intro zz
    induction zz with
    | zero => intros; exfalso; omega
    | succ zz ih2 =>
      intro i Kt hi hzz hf2_0 hf2_1 H locs hP hD hS ls hl
      refine lv_iload_n hx hb dX3_wanted_2 rfl (lv_at hl 1 rfl) ?_
      refine lv_bipush (v := nI 9) hx hb dX3_wanted_3 (by decide) ?_
      refine lv_icmp_gt (tgt := 28) hx hb dX3_wanted_5 (by decide) (fun c5 => ?_) (fun c5 => ?_)
      · skip
        have hi2 : i = 10 := by have := z_nle (b := 9) (by decide) (fun q => absurd c5 (z_i32_nlt q)); omega
        rw [hf2_1 (by omega)] at hP hD
        refine lv_iconst (v := (-1)) hx hb dX3_wanted_28 (by decide) ?_
        exact z_ew_i (by rw [hf2_0, hi2]; rfl) hP hS hx hb hr hlk dX3_wanted_29
      · skip
        have hi2 : i < 10 := by have := z_le (by omega) (by omega) (z_i32_le c5); omega
        refine lv_aload_n hx hb dX3_wanted_8 rfl (lv_at hl 0 rfl) ?_
        refine lv_iload_n hx hb dX3_wanted_9 rfl (lv_at hl 1 rfl) ?_
        refine lv_aload_n hx hb dX3_wanted_10 rfl (lv_at hl 0 rfl) ?_
        refine va_get (ci := 3) (v := .int (nI (z_od G))) (C := RX3) (T := TX3) (N := 12) hx hb hts (fun _ h => (List.mem_cons_of_mem _ (List.mem_append_right _ h))) hown hK hP 0 rfl rfl 4 (by decide) (hts _ (List.mem_cons_of_mem _ (List.mem_append_left _ (List.mem_append_left _ (List.mem_of_getElem? (i := 0) rfl))))) (fun _ h9 => h9) rfl dX3_wanted_11 ?_
        refine z_wAi (v := z_ls G D i (z_od G)) [] hx hb hml hown hts (m_X3_lostBehind l Dg cI mo th G D Kt i (z_od G) (by omega) (by omega) hG hW) gX3_wanted_X3_lostBehind rfl kd_X3_lostBehind ⟨Nat.le_of_ble_eq_true rfl, Nat.le_of_ble_eq_true rfl⟩ hK hN hP hD hS rfl rfl rfl rfl rfl hl.1 rfl (Nat.le_of_ble_eq_true rfl) dX3_wanted_14 ⟨Nat.zero_le _, Nat.zero_le _⟩ (fun H locs hP hD hS => ?_)
        have hP : va_P Dg vwCl (z_mW cI mo th G D (z_nw D)) H := hP
        have hD : va_D _ (z_mW cI mo th G D (z_nw D)) := hD
        refine lv_if_ne (tgt := 22) hx hb dX3_wanted_17 (by decide) (fun c17 => ?_) (fun c17 => ?_)
        · skip
          refine lv_iinc (v := nI (i + 1)) (lv' := [(1, .int (nI (i + 1))), (0, .ref (mo 0))]) hx hb dX3_wanted_22 hl (k := 1) rfl (nI_1 _) (by decide) rfl (fun ls hl => ?_)
          refine lv_goto (tgt := 2) hx hb dX3_wanted_25 (by decide) ?_
          exact ih2 (i + 1) (z_nw D) (by omega) (by omega) (by rw [hf2_0, z_wt_s hi2, if_neg c17]) (fun _ => rfl) _ _ hP hD hS _ (lv_sub hl [1, 0] rfl)
        · skip
          refine lv_iload_n hx hb dX3_wanted_20 rfl (lv_at hl 1 rfl) ?_
          exact z_ew_i (by rw [hf2_0, z_wt_s hi2, if_pos c17]) hP hS hx hb hr hlk dX3_wanted_21
  exact lp2 (10 + 1) 0 K (by omega) (by omega) rfl (fun q => absurd q (Nat.lt_irrefl 0)) _ _ hP hD hS _ (lv_sub hl [1, 0] rfl)

set_option maxHeartbeats 4000000 in
set_option maxRecDepth 100000 in
theorem m_X3_shelfFor (l : Launch) (Dg : va_G) (cI : ClassId) (mo : Nat → Nat) (th : Int32) (G : z_GG) (D : z_DD) (K : Nat → Int32) (t : Nat) (ht : t < z_tc G) (hG : z_WG G) (hW : z_WD G D) : z_Mr l yX3_shelfFor wsX3_shelfFor 2 45 [.ref (mo 0), .int (nI t)] Dg cI (z_mW cI mo th G D K) (some (.int (z_bsh G D t))) := by
  have htc : z_tc G ≤ 60 := hG.2.2.2.2.2.1
  have hbc : z_bc G ≤ 6 := hG.2.2.2.2.1
  have hpl := hW t ht
  have hbt := hG.2.2.1 t
  have hsh := hG.2.2.2.1 t
  refine z_sr (own := RX3) (l0 := [(0, .ref (mo 0)), (1, .int (nI t))]) rfl rfl (by decide) (Nat.le_of_ble_eq_true rfl) rfl ?_
  intro p e s m below meth c hx hb hr hml hts hown hlk hP hK hN ls hl
  refine lv_aload_n hx hb dX3_shelfFor_0 rfl (lv_at hl 0 rfl) ?_
  refine lv_iload_n hx hb dX3_shelfFor_1 rfl (lv_at hl 1 rfl) ?_
  refine z_rVi (v := z_bI (z_pl D t == 1)) [] hx hb hml hown hts (m_X3_isHere l Dg cI mo th G D K t (by omega) hG hW) gX3_shelfFor_X3_isHere rfl kd_X3_isHere ⟨Nat.le_of_ble_eq_true rfl, Nat.le_of_ble_eq_true rfl⟩ hK hN hP rfl rfl rfl rfl hl.1 rfl (Nat.le_of_ble_eq_true rfl) dX3_shelfFor_2 ⟨Nat.zero_le _, Nat.zero_le _⟩ ?_
  refine lv_if_ne (tgt := 10) hx hb dX3_shelfFor_5 (by decide) (fun c5 => ?_) (fun c5 => ?_)
  · skip
    refine lv_iconst (v := nI 0) hx hb dX3_shelfFor_10 (by decide) ?_
    refine lv_istore_n (lv' := [(2, .int (nI 0)), (0, .ref (mo 0)), (1, .int (nI t))]) hx hb dX3_shelfFor_11 rfl hl (by decide) rfl (fun ls hl => ?_)
    refine lv_iconst (v := nI 1) hx hb dX3_shelfFor_12 (by decide) ?_
    refine lv_istore_n (lv' := [(3, .int (nI 1)), (2, .int (nI 0)), (0, .ref (mo 0)), (1, .int (nI t))]) hx hb dX3_shelfFor_13 rfl hl (by decide) rfl (fun ls hl => ?_)
    have lp14 : ∀ (zz i : Nat) , i ≤ 3 → 3 + 1 ≤ i + zz → ∀ ls : Array Slot, lv_has ls 4 [(0, .ref (mo 0)), (1, .int (nI t)), (2, .int (nI (z_bsn G D t i))), (3, .int (nI (i + 1)))] → W p l e ({ frames := 2, cells := 0, slots := 0, locals := 45 } : Room) s m ([.ref (mo 0), .int (nI t)] : List Value).toArray below meth c s.heap [] 0 0 (MQ below (z_Qr (some (.int (z_bsh G D t)))) ([.ref (mo 0), .int (nI t)] : List Value).toArray s 0 0 z_no) (F0 m 14 ls []) := by
      intro zz
      induction zz with
      | zero => intros; exfalso; omega
      | succ zz ih14 =>
        intro i hi hzz ls hl
        refine lv_iload_n hx hb dX3_shelfFor_14 rfl (lv_at hl 3 rfl) ?_
        refine lv_iconst (v := nI 4) hx hb dX3_shelfFor_15 (by decide) ?_
        refine lv_icmp_ge (tgt := 62) hx hb dX3_shelfFor_16 (by decide) (fun c16 => ?_) (fun c16 => ?_)
        · skip
          have hi2 : i = 3 := by have := z_le (by omega) (by omega) c16; omega
          refine lv_iload_n hx hb dX3_shelfFor_62 rfl (lv_at hl 2 rfl) ?_
          exact z_er_i (by rw [hi2, z_bsh, if_pos (z_beq' (z_bI1 c5))]) hx hb hr hlk dX3_shelfFor_63
        · skip
          have hi2 : i < 3 := by have := z_nle (by omega) c16; omega
          have hbl := z_bsn_le G D t i
          refine lv_aload_n hx hb dX3_shelfFor_19 rfl (lv_at hl 0 rfl) ?_
          refine lv_iload_n hx hb dX3_shelfFor_20 rfl (lv_at hl 1 rfl) ?_
          refine lv_iload_n hx hb dX3_shelfFor_21 rfl (lv_at hl 2 rfl) ?_
          refine z_rVi (v := z_un G D t (z_bsn G D t i)) [] hx hb hml hown hts (m_X3_until l Dg cI mo th G D K t (z_bsn G D t i) (by omega) (by omega) hG) gX3_shelfFor_X3_until rfl kd_X3_until ⟨Nat.le_of_ble_eq_true rfl, Nat.le_of_ble_eq_true rfl⟩ hK hN hP rfl rfl rfl rfl hl.1 rfl (Nat.le_of_ble_eq_true rfl) dX3_shelfFor_22 ⟨Nat.zero_le _, Nat.zero_le _⟩ ?_
          refine lv_iconst (v := (-1)) hx hb dX3_shelfFor_25 (by decide) ?_
          refine lv_icmp_eq (tgt := 56) hx hb dX3_shelfFor_26 (by decide) (fun c26 => ?_) (fun c26 => ?_)
          · skip
            have e1 : z_bsn G D t (i + 1) = z_bsn G D t i := by rw [z_bsn, if_neg (by rw [z_il, z_dec_f (fun q => q c26), Bool.false_and]; decide)]
            have hl : lv_has ls 4 [(0, .ref (mo 0)), (1, .int (nI t)), (2, .int (nI (z_bsn G D t (i + 1)))), (3, .int (nI (i + 1)))] := by have q : nI (z_bsn G D t i) = nI (z_bsn G D t (i + 1)) := (by rw [e1]); rw [← q]; exact hl
            refine lv_iinc (v := nI (i + 1 + 1)) (lv' := [(3, .int (nI (i + 1 + 1))), (0, .ref (mo 0)), (1, .int (nI t)), (2, .int (nI (z_bsn G D t (i + 1))))]) hx hb dX3_shelfFor_56 hl (k := 3) rfl (nI_1 _) (by decide) rfl (fun ls hl => ?_)
            refine lv_goto (tgt := 14) hx hb dX3_shelfFor_59 (by decide) ?_
            exact ih14 (i + 1) (by omega) (by omega) _ (lv_sub hl [1, 2, 3, 0] rfl)
          · skip
            refine lv_aload_n hx hb dX3_shelfFor_29 rfl (lv_at hl 0 rfl) ?_
            refine lv_iload_n hx hb dX3_shelfFor_30 rfl (lv_at hl 1 rfl) ?_
            refine lv_iload_n hx hb dX3_shelfFor_31 rfl (lv_at hl 3 rfl) ?_
            refine z_rVi (v := z_un G D t (i + 1)) [] hx hb hml hown hts (m_X3_until l Dg cI mo th G D K t (i + 1) (by omega) (by omega) hG) gX3_shelfFor_X3_until rfl kd_X3_until ⟨Nat.le_of_ble_eq_true rfl, Nat.le_of_ble_eq_true rfl⟩ hK hN hP rfl rfl rfl rfl hl.1 rfl (Nat.le_of_ble_eq_true rfl) dX3_shelfFor_32 ⟨Nat.zero_le _, Nat.zero_le _⟩ ?_
            refine lv_iconst (v := (-1)) hx hb dX3_shelfFor_35 (by decide) ?_
            refine lv_icmp_eq (tgt := 54) hx hb dX3_shelfFor_36 (by decide) (fun c36 => ?_) (fun c36 => ?_)
            · skip
              refine lv_iload_n hx hb dX3_shelfFor_54 rfl (lv_at hl 3 rfl) ?_
              refine lv_istore_n (lv' := [(2, .int (nI (i + 1))), (0, .ref (mo 0)), (1, .int (nI t)), (3, .int (nI (i + 1)))]) hx hb dX3_shelfFor_55 rfl hl (by decide) rfl (fun ls hl => ?_)
              have e1 : z_bsn G D t (i + 1) = i + 1 := by rw [z_bsn, if_pos (by rw [z_il, z_dec_t c26, z_dec_t c36]; rfl)]
              have hl : lv_has ls 4 [(2, .int (nI (z_bsn G D t (i + 1)))), (0, .ref (mo 0)), (1, .int (nI t)), (3, .int (nI (i + 1)))] := by have q : nI (i + 1) = nI (z_bsn G D t (i + 1)) := (by rw [e1]); rw [← q]; exact hl
              refine lv_iinc (v := nI (i + 1 + 1)) (lv' := [(3, .int (nI (i + 1 + 1))), (2, .int (nI (z_bsn G D t (i + 1)))), (0, .ref (mo 0)), (1, .int (nI t))]) hx hb dX3_shelfFor_56 hl (k := 3) rfl (nI_1 _) (by decide) rfl (fun ls hl => ?_)
              refine lv_goto (tgt := 14) hx hb dX3_shelfFor_59 (by decide) ?_
              exact ih14 (i + 1) (by omega) (by omega) _ (lv_sub hl [2, 3, 1, 0] rfl)
            · skip
              refine lv_aload_n hx hb dX3_shelfFor_39 rfl (lv_at hl 0 rfl) ?_
              refine lv_iload_n hx hb dX3_shelfFor_40 rfl (lv_at hl 1 rfl) ?_
              refine lv_iload_n hx hb dX3_shelfFor_41 rfl (lv_at hl 3 rfl) ?_
              refine z_rVi (v := z_un G D t (i + 1)) [] hx hb hml hown hts (m_X3_until l Dg cI mo th G D K t (i + 1) (by omega) (by omega) hG) gX3_shelfFor_X3_until rfl kd_X3_until ⟨Nat.le_of_ble_eq_true rfl, Nat.le_of_ble_eq_true rfl⟩ hK hN hP rfl rfl rfl rfl hl.1 rfl (Nat.le_of_ble_eq_true rfl) dX3_shelfFor_42 ⟨Nat.zero_le _, Nat.zero_le _⟩ ?_
              refine lv_aload_n hx hb dX3_shelfFor_45 rfl (lv_at hl 0 rfl) ?_
              refine lv_iload_n hx hb dX3_shelfFor_46 rfl (lv_at hl 1 rfl) ?_
              refine lv_iload_n hx hb dX3_shelfFor_47 rfl (lv_at hl 2 rfl) ?_
              refine z_rVi (v := z_un G D t (z_bsn G D t i)) [.int (z_un G D t (i + 1))] hx hb hml hown hts (m_X3_until l Dg cI mo th G D K t (z_bsn G D t i) (by omega) (by omega) hG) gX3_shelfFor_X3_until rfl kd_X3_until ⟨Nat.le_of_ble_eq_true rfl, Nat.le_of_ble_eq_true rfl⟩ hK hN hP rfl rfl rfl rfl hl.1 rfl (Nat.le_of_ble_eq_true rfl) dX3_shelfFor_48 ⟨Nat.zero_le _, Nat.zero_le _⟩ ?_
              refine lv_icmp_le (tgt := 56) hx hb dX3_shelfFor_51 (by decide) (fun c51 => ?_) (fun c51 => ?_)
              · skip
                have e1 : z_bsn G D t (i + 1) = z_bsn G D t i := by rw [z_bsn, if_neg (by rw [z_il, z_dec_f c36, z_dec_f (z_i32_nlt c51), Bool.or_false, Bool.and_false]; decide)]
                have hl : lv_has ls 4 [(0, .ref (mo 0)), (1, .int (nI t)), (2, .int (nI (z_bsn G D t (i + 1)))), (3, .int (nI (i + 1)))] := by have q : nI (z_bsn G D t i) = nI (z_bsn G D t (i + 1)) := (by rw [e1]); rw [← q]; exact hl
                refine lv_iinc (v := nI (i + 1 + 1)) (lv' := [(3, .int (nI (i + 1 + 1))), (0, .ref (mo 0)), (1, .int (nI t)), (2, .int (nI (z_bsn G D t (i + 1))))]) hx hb dX3_shelfFor_56 hl (k := 3) rfl (nI_1 _) (by decide) rfl (fun ls hl => ?_)
                refine lv_goto (tgt := 14) hx hb dX3_shelfFor_59 (by decide) ?_
                exact ih14 (i + 1) (by omega) (by omega) _ (lv_sub hl [1, 2, 3, 0] rfl)
              · skip
                refine lv_iload_n hx hb dX3_shelfFor_54 rfl (lv_at hl 3 rfl) ?_
                refine lv_istore_n (lv' := [(2, .int (nI (i + 1))), (0, .ref (mo 0)), (1, .int (nI t)), (3, .int (nI (i + 1)))]) hx hb dX3_shelfFor_55 rfl hl (by decide) rfl (fun ls hl => ?_)
                have e1 : z_bsn G D t (i + 1) = i + 1 := by rw [z_bsn, if_pos (by rw [z_il, z_dec_t c26, z_dec_t (z_i32_lt c51), Bool.or_true]; rfl)]
                have hl : lv_has ls 4 [(2, .int (nI (z_bsn G D t (i + 1)))), (0, .ref (mo 0)), (1, .int (nI t)), (3, .int (nI (i + 1)))] := by have q : nI (i + 1) = nI (z_bsn G D t (i + 1)) := (by rw [e1]); rw [← q]; exact hl
                refine lv_iinc (v := nI (i + 1 + 1)) (lv' := [(3, .int (nI (i + 1 + 1))), (2, .int (nI (z_bsn G D t (i + 1)))), (0, .ref (mo 0)), (1, .int (nI t))]) hx hb dX3_shelfFor_56 hl (k := 3) rfl (nI_1 _) (by decide) rfl (fun ls hl => ?_)
                refine lv_goto (tgt := 14) hx hb dX3_shelfFor_59 (by decide) ?_
                exact ih14 (i + 1) (by omega) (by omega) _ (lv_sub hl [2, 3, 1, 0] rfl)
    exact lp14 (3 + 1) 0 (by omega) (by omega) _ (lv_sub hl [2, 3, 1, 0] rfl)
  · skip
    refine lv_iconst (v := (-1)) hx hb dX3_shelfFor_8 (by decide) ?_
    exact z_er_i (by rw [z_bsh, if_neg (z_bne' (z_bI0 c5))]) hx hb hr hlk dX3_shelfFor_9
