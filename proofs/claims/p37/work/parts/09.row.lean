theorem kd_X0_get : yX0_get.cls = RX0 ∧ yX0_get.cls ≠ "java/lang/invoke/MethodHandle" ∧ yX0_get.cls ≠ "java/lang/invoke/VarHandle" ∧ (parseMethodDescriptor yX0_get.desc).map (fun d => d.parameters.length) = some 1 := by decide +kernel
set_option maxHeartbeats 4000000 in
set_option maxRecDepth 100000 in
theorem m_X0_get (l : Launch) (Dg : va_G) (cI : ClassId) (h0 h1 n : Nat) (f : Nat → Int32) (k : Nat) (hk : k < n) (hn : n < 2 ^ 31) : z_Mr l yX0_get wsX0_get 0 0 [.ref h0, .int (nI k)] Dg cI ([(h0, .inr (0, [.ref h1])), (h1, .inl (cI, n, .inl f))]) (some (.int (f k))) := by
  refine z_sr (own := RX0) (l0 := [(0, .ref h0), (1, .int (nI k))]) rfl rfl (by decide) (Nat.le_of_ble_eq_true rfl) rfl ?_
  intro p e s m below meth c hx hb hr hml hts hown hlk hP hK hN ls hl
  refine lv_iload_n hx hb dX0_get_0 rfl (lv_at hl 1 rfl) ?_
  refine lv_if_lt (tgt := 22) hx hb dX0_get_1 (by decide) (fun c1 => absurd c1 (nI_pos (by omega))) (fun c1 => ?_)
  refine lv_iload_n hx hb dX0_get_4 rfl (lv_at hl 1 rfl) ?_
  refine lv_aload_n hx hb dX0_get_5 rfl (lv_at hl 0 rfl) ?_
  refine va_get (ci := 0) (v := .ref h1) (C := RX0) (T := TX0) (N := 1) hx hb hts (fun _ h => (List.mem_cons_of_mem _ (List.mem_append_right _ h))) hown hK hP 0 rfl rfl 0 (by decide) (hts _ (List.mem_cons_of_mem _ (List.mem_append_left _ (List.mem_of_getElem? (i := 0) rfl)))) (fun _ h9 => h9) rfl dX0_get_6 ?_
  refine va_alen (v := nI n) hx hb hK hP 1 0 rfl rfl rfl dX0_get_9 ?_
  refine lv_icmp_ge (tgt := 22) hx hb dX0_get_10 (by decide) (fun c10 => absurd c10 (nI_ge hk hn)) (fun c10 => ?_)
  refine lv_aload_n hx hb dX0_get_13 rfl (lv_at hl 0 rfl) ?_
  refine va_get (ci := 0) (v := .ref h1) (C := RX0) (T := TX0) (N := 1) hx hb hts (fun _ h => (List.mem_cons_of_mem _ (List.mem_append_right _ h))) hown hK hP 0 rfl rfl 0 (by decide) (hts _ (List.mem_cons_of_mem _ (List.mem_append_left _ (List.mem_of_getElem? (i := 0) rfl)))) (fun _ h9 => h9) rfl dX0_get_14 ?_
  refine lv_iload_n hx hb dX0_get_17 rfl (lv_at hl 1 rfl) ?_
  refine z_iald hx hb hK hP 1 0 rfl rfl hk (by omega) dX0_get_18 ?_
  refine z_top (x' := f k) rfl ?_
  refine lv_goto (tgt := 23) hx hb dX0_get_19 (by decide) ?_
  exact z_er_i rfl hx hb hr hlk dX0_get_23

set_option maxHeartbeats 4000000 in
set_option maxRecDepth 100000 in
theorem m_X0_set (l : Launch) (Dg : va_G) (cI : ClassId) (h0 h1 n : Nat) (f : Nat → Int32) (k : Nat) (x : Int32) (hk : k < n) (hn : n < 2 ^ 31) : z_Mw l yX0_set wsX0_set 0 0 [.ref h0, .int (nI k), .int x] Dg cI ([(h0, .inr (0, [.ref h1])), (h1, .inl (cI, n, .inl f))]) none ([(h0, .inr (0, [.ref h1])), (h1, .inl (cI, n, .inl (upd f k x)))]) := by
  refine z_sw' (own := RX0) (l0 := [(0, .ref h0), (1, .int (nI k)), (2, .int x)]) rfl rfl (by decide) (Nat.le_of_ble_eq_true rfl) rfl ?_
  intro p e s m below meth c hx hb hr hml hts hown hlk hP hK hN hD hS ls hl
  refine lv_iload_n hx hb dX0_set_0 rfl (lv_at hl 1 rfl) ?_
  refine lv_if_lt (tgt := 20) hx hb dX0_set_1 (by decide) (fun c1 => absurd c1 (nI_pos (by omega))) (fun c1 => ?_)
  refine lv_iload_n hx hb dX0_set_4 rfl (lv_at hl 1 rfl) ?_
  refine lv_aload_n hx hb dX0_set_5 rfl (lv_at hl 0 rfl) ?_
  refine va_get (ci := 0) (v := .ref h1) (C := RX0) (T := TX0) (N := 1) hx hb hts (fun _ h => (List.mem_cons_of_mem _ (List.mem_append_right _ h))) hown hK hP 0 rfl rfl 0 (by decide) (hts _ (List.mem_cons_of_mem _ (List.mem_append_left _ (List.mem_of_getElem? (i := 0) rfl)))) (fun _ h9 => h9) rfl dX0_set_6 ?_
  refine va_alen (v := nI n) hx hb hK hP 1 0 rfl rfl rfl dX0_set_9 ?_
  refine lv_icmp_ge (tgt := 20) hx hb dX0_set_10 (by decide) (fun c10 => absurd c10 (nI_ge hk hn)) (fun c10 => ?_)
  refine lv_aload_n hx hb dX0_set_13 rfl (lv_at hl 0 rfl) ?_
  refine va_get (ci := 0) (v := .ref h1) (C := RX0) (T := TX0) (N := 1) hx hb hts (fun _ h => (List.mem_cons_of_mem _ (List.mem_append_right _ h))) hown hK hP 0 rfl rfl 0 (by decide) (hts _ (List.mem_cons_of_mem _ (List.mem_append_left _ (List.mem_of_getElem? (i := 0) rfl)))) (fun _ h9 => h9) rfl dX0_set_14 ?_
  refine lv_iload_n hx hb dX0_set_17 rfl (lv_at hl 1 rfl) ?_
  refine lv_iload_n hx hb dX0_set_18 rfl (lv_at hl 2 rfl) ?_
  refine z_iast hx hb hK hP hD hS 1 0 rfl rfl hk (by omega) dX0_set_19 (fun H locs hP hD hS => ?_)
  have hP : va_P Dg vwCl ([(h0, .inr (0, [.ref h1])), (h1, .inl (cI, n, .inl (upd f k x)))]) H := hP
  have hD : va_D _ ([(h0, .inr (0, [.ref h1])), (h1, .inl (cI, n, .inl (upd f k x)))]) := hD
  exact z_ew_v hP hS hx hb hr hlk dX0_set_20

set_option maxHeartbeats 4000000 in
set_option maxRecDepth 100000 in
theorem m_X0_copyFrom (l : Launch) (Dg : va_G) (cI : ClassId) (h0 h1 g0 g1 n : Nat) (f g : Nat → Int32) (hn : n < 2 ^ 31) : z_Mw l yX0_copyFrom wsX0_copyFrom 1 21 [.ref h0, .ref g0] Dg cI ([(h0, .inr (0, [.ref h1])), (h1, .inl (cI, n, .inl f))] ++ [(g0, .inr (0, [.ref g1])), (g1, .inl (cI, n, .inl g))]) none ([(h0, .inr (0, [.ref h1])), (h1, .inl (cI, n, .inl g))] ++ [(g0, .inr (0, [.ref g1])), (g1, .inl (cI, n, .inl g))]) := by
  refine z_sw' (own := RX0) (l0 := [(0, .ref h0), (1, .ref g0)]) rfl rfl (by decide) (Nat.le_of_ble_eq_true rfl) rfl ?_
  intro p e s m below meth c hx hb hr hml hts hown hlk hP hK hN hD hS ls hl
  refine lv_iconst (v := 0) hx hb dX0_copyFrom_0 (by decide) ?_
  refine lv_istore_n (lv' := [(2, .int 0), (0, .ref h0), (1, .ref g0)]) hx hb dX0_copyFrom_1 rfl hl (by decide) rfl (fun ls hl => ?_)
  rw [← z_fi_0 f g] at hP hD
  have lp2 : ∀ (zz i : Nat) , i ≤ n → n + 1 ≤ i + zz → ∀ (H : Heap) (locs : List Loc), va_P Dg vwCl ([(h0, .inr (0, [.ref h1])), (h1, .inl (cI, n, .inl (z_fi f g i)))] ++ [(g0, .inr (0, [.ref g1])), (g1, .inl (cI, n, .inl g))]) H → va_D (z_in ([(h0, .inr (0, [.ref h1])), (h1, .inl (cI, n, .inl f))] ++ [(g0, .inr (0, [.ref g1])), (g1, .inl (cI, n, .inl g))])) ([(h0, .inr (0, [.ref h1])), (h1, .inl (cI, n, .inl (z_fi f g i)))] ++ [(g0, .inr (0, [.ref g1])), (g1, .inl (cI, n, .inl g))]) → va_S (z_in ([(h0, .inr (0, [.ref h1])), (h1, .inl (cI, n, .inl f))] ++ [(g0, .inr (0, [.ref g1])), (g1, .inl (cI, n, .inl g))])) s.heap H locs → ∀ ls : Array Slot, lv_has ls 3 [(0, .ref h0), (1, .ref g0), (2, .int (nI i))] → W p l e ({ frames := 1, cells := 0, slots := 0, locals := 21 } : Room) s m ([.ref h0, .ref g0] : List Value).toArray below meth c H locs 0 0 (MQ below (z_Qw none Dg ([(h0, .inr (0, [.ref h1])), (h1, .inl (cI, n, .inl f))] ++ [(g0, .inr (0, [.ref g1])), (g1, .inl (cI, n, .inl g))]) ([(h0, .inr (0, [.ref h1])), (h1, .inl (cI, n, .inl g))] ++ [(g0, .inr (0, [.ref g1])), (g1, .inl (cI, n, .inl g))])) ([.ref h0, .ref g0] : List Value).toArray s 0 0 (z_in ([(h0, .inr (0, [.ref h1])), (h1, .inl (cI, n, .inl f))] ++ [(g0, .inr (0, [.ref g1])), (g1, .inl (cI, n, .inl g))]))) (F0 m 2 ls []) := by
    intro zz
    induction zz with
    | zero => intros; exfalso; omega
    | succ zz ih2 =>
      intro i hi hzz H locs hP hD hS ls hl
      refine lv_iload_n hx hb dX0_copyFrom_2 rfl (lv_at hl 2 rfl) ?_
      refine lv_aload_n hx hb dX0_copyFrom_3 rfl (lv_at hl 0 rfl) ?_
      refine va_get (ci := 0) (v := .ref h1) (C := RX0) (T := TX0) (N := 1) hx hb hts (fun _ h => (List.mem_cons_of_mem _ (List.mem_append_right _ h))) hown hK hP 0 rfl rfl 0 (by decide) (hts _ (List.mem_cons_of_mem _ (List.mem_append_left _ (List.mem_of_getElem? (i := 0) rfl)))) (fun _ h9 => h9) rfl dX0_copyFrom_4 ?_
      refine va_alen (v := nI n) hx hb hK hP 1 0 rfl rfl rfl dX0_copyFrom_7 ?_
      refine lv_icmp_ge (tgt := 28) hx hb dX0_copyFrom_8 (by decide) (fun c8 => ?_) (fun c8 => ?_)
      · skip
        have hi2 : i = n := Nat.le_antisymm hi (z_le (by omega) (by omega) c8)
        subst hi2
        have hP := z_Pset (g := g) hP (k := 1) rfl (fun j hj => by simp [z_fi, hj])
        exact z_ew_v hP hS hx hb hr hlk dX0_copyFrom_28
      · skip
        have hi2 : i < n := z_nle (by omega) c8
        refine lv_aload_n hx hb dX0_copyFrom_11 rfl (lv_at hl 0 rfl) ?_
        refine va_get (ci := 0) (v := .ref h1) (C := RX0) (T := TX0) (N := 1) hx hb hts (fun _ h => (List.mem_cons_of_mem _ (List.mem_append_right _ h))) hown hK hP 0 rfl rfl 0 (by decide) (hts _ (List.mem_cons_of_mem _ (List.mem_append_left _ (List.mem_of_getElem? (i := 0) rfl)))) (fun _ h9 => h9) rfl dX0_copyFrom_12 ?_
        refine lv_iload_n hx hb dX0_copyFrom_15 rfl (lv_at hl 2 rfl) ?_
        refine lv_aload_n hx hb dX0_copyFrom_16 rfl (lv_at hl 1 rfl) ?_
        refine lv_iload_n hx hb dX0_copyFrom_17 rfl (lv_at hl 2 rfl) ?_
        refine z_rVi (v := g i) [.int (nI i), .ref h1] hx hb hml hown hts (m_X0_get l Dg cI g0 g1 n g i (by omega) hn) gX0_copyFrom_X0_get rfl kd_X0_get ⟨Nat.le_of_ble_eq_true rfl, Nat.le_of_ble_eq_true rfl⟩ hK hN (hP.sub [2, 3] rfl) rfl rfl rfl rfl hl.1 rfl (Nat.le_of_ble_eq_true rfl) dX0_copyFrom_18 ⟨Nat.zero_le _, Nat.zero_le _⟩ ?_
        refine z_iast hx hb hK hP hD hS 1 0 rfl rfl (by omega) (by omega) dX0_copyFrom_21 (fun H locs hP hD hS => ?_)
        have hP : va_P Dg vwCl ([(h0, .inr (0, [.ref h1])), (h1, .inl (cI, n, .inl (upd (z_fi f g i) i (g i))))] ++ [(g0, .inr (0, [.ref g1])), (g1, .inl (cI, n, .inl g))]) H := hP
        have hD : va_D _ ([(h0, .inr (0, [.ref h1])), (h1, .inl (cI, n, .inl (upd (z_fi f g i) i (g i))))] ++ [(g0, .inr (0, [.ref g1])), (g1, .inl (cI, n, .inl g))]) := hD
        rw [z_fi_s] at hP hD
        have hP : va_P Dg vwCl ([(h0, .inr (0, [.ref h1])), (h1, .inl (cI, n, .inl (z_fi f g (i + 1))))] ++ [(g0, .inr (0, [.ref g1])), (g1, .inl (cI, n, .inl g))]) H := hP
        have hD : va_D _ ([(h0, .inr (0, [.ref h1])), (h1, .inl (cI, n, .inl (z_fi f g (i + 1))))] ++ [(g0, .inr (0, [.ref g1])), (g1, .inl (cI, n, .inl g))]) := hD
        refine lv_iinc (v := nI (i + 1)) (lv' := [(2, .int (nI (i + 1))), (0, .ref h0), (1, .ref g0)]) hx hb dX0_copyFrom_22 hl (k := 2) rfl (nI_1 _) (by decide) rfl (fun ls hl => ?_)
        refine lv_goto (tgt := 2) hx hb dX0_copyFrom_25 (by decide) ?_
        exact ih2 (i + 1) (by omega) (by omega) _ _ hP hD hS _ (lv_sub hl [1, 2, 0] rfl)
  exact lp2 (n + 1) 0 (by omega) (by omega) _ _ hP hD hS _ (lv_sub hl [1, 2, 0] rfl)
