theorem q_str : (FieldType.array FieldType.int).toString = "[I" := by decide +kernel
set_option maxHeartbeats 4000000 in
set_option maxRecDepth 100000 in
theorem m_X3_with (l : Launch) (Dg : va_G) (cI cR cZ : ClassId) (a b n sz : Nat) (r : Nat → Nat) (f : Nat → Int32) (F : Nat → Nat → Int32) (hn : n ≤ 60) : q_Md l yX3_with wsX3_with 0 1 61 0 [.ref a, .ref b] Dg cI cR cZ (q_wW cI cR a b n r f F) sz (fun o w9 => ∃ q9 : Nat, o = some (.ref q9) ∧ w9 = q_wW cI cR a b n r f F ++ [(q9, .inl (cR, n + 1, .inr (.inr (.inr (.inr (fun j => some (va_up r n b j)))))))]) := by
  refine q_sd (own := RX3) (l0 := [(0, .ref a), (1, .ref b)]) rfl rfl (by decide) (Nat.le_of_ble_eq_true rfl) rfl ?_
  intro p e s m below meth c hx hb hr hml hts hown hlk hP hK hN hJ hD hS hA ls hl
  refine lv_aload_n hx hb dX3_with_0 rfl (lv_at hl 0 rfl) ?_
  refine va_alen (v := nI n) hx hb hK hP 0 1 rfl rfl rfl dX3_with_1 ?_
  refine lv_iconst (v := nI 1) hx hb dX3_with_2 (by decide) ?_
  refine lv_iadd hx hb dX3_with_3 ?_
  refine z_top (x' := nI (n + 1)) (nI_add _ _) ?_
  refine q_anew hx hb hown (by rw [q_str]; exact (hts _ (List.mem_cons_of_mem _ (List.mem_of_getElem? (i := 0) rfl)))) hJ hK hP hD hS hA rfl (by omega) (Nat.le_of_ble_eq_true rfl) (show 0 + (n + 1) ≤ 61 by omega) dX3_with_4 (fun q H hP hD hS => ?_)
  rw [← q_fi_0 r] at hP hD
  refine lv_astore_n (lv' := [(2, .ref q), (0, .ref a), (1, .ref b)]) hx hb dX3_with_7 rfl hl (by decide) rfl (fun ls hl => ?_)
  refine lv_iconst (v := nI 0) hx hb dX3_with_8 (by decide) ?_
  refine lv_istore_n (lv' := [(3, .int (nI 0)), (2, .ref q), (0, .ref a), (1, .ref b)]) hx hb dX3_with_9 rfl hl (by decide) rfl (fun ls hl => ?_)
  have lp10 : ∀ (zz : Nat) (i : Nat), i ≤ n → n + 1 ≤ i + zz → ∀ (H : Heap) (locs : List Loc), va_P Dg vwCl (q_wW cI cR a b n r f F ++ [(q, .inl (cR, n + 1, .inr (.inr (.inr (.inr (q_fi r i))))))]) H → va_D (va_A (q_wW cI cR a b n r f F) sz) (q_wW cI cR a b n r f F ++ [(q, .inl (cR, n + 1, .inr (.inr (.inr (.inr (q_fi r i))))))]) → va_S (va_A (q_wW cI cR a b n r f F) sz) s.heap H locs → ∀ ls : Array Slot, lv_has ls 4 [(0, .ref a), (1, .ref b), (2, .ref q), (3, .int (nI i))] → W p l e ({ frames := 0, cells := 1, slots := 61, locals := 0 } : Room) s m ([.ref a, .ref b] : List Value).toArray below meth c H locs (0 + 1) (0 + (n + 1)) (MQ below (z_Qd (fun o w9 => ∃ q9 : Nat, o = some (.ref q9) ∧ w9 = q_wW cI cR a b n r f F ++ [(q9, .inl (cR, n + 1, .inr (.inr (.inr (.inr (fun j => some (va_up r n b j)))))))]) Dg (q_wW cI cR a b n r f F) sz) ([.ref a, .ref b] : List Value).toArray s 1 61 (va_A (q_wW cI cR a b n r f F) sz)) (F0 m 10 ls []) := by
    intro zz
    induction zz with
    | zero => intros; exfalso; omega
    | succ zz ih =>
      intro i hi hzz H locs hP hD hS ls hl
      refine lv_iload_n hx hb dX3_with_10 rfl (lv_at hl 3 rfl) ?_
      refine lv_aload_n hx hb dX3_with_11 rfl (lv_at hl 0 rfl) ?_
      refine va_alen (v := nI n) hx hb hK hP 0 1 rfl rfl rfl dX3_with_12 ?_
      refine lv_icmp_ge (tgt := 28) hx hb dX3_with_13 (by decide) (fun c13 => ?_) (fun c13 => ?_)
      · have hi2 : i = n := Nat.le_antisymm hi (z_le (by omega) (by omega) c13)
        subst hi2
        refine lv_aload_n hx hb dX3_with_28 rfl (lv_at hl 2 rfl) ?_
        refine lv_aload_n hx hb dX3_with_29 rfl (lv_at hl 0 rfl) ?_
        refine va_alen (v := nI i) hx hb hK hP 0 1 rfl rfl rfl dX3_with_30 ?_
        refine lv_aload_n hx hb dX3_with_31 rfl (lv_at hl 1 rfl) ?_
        refine q_aast hx hb hK hJ hP hD hS (i + 2) 1 (q_last (q_wW_len _ _ _ _ _ _ _ _)) rfl (show i < i + 1 by omega) (by omega) dX3_with_32 (fun H locs hP hD hS => ?_)
        rw [q_slast (q_wW_len _ _ _ _ _ _ _ _)] at hP hD
        have hP2 := q_Plast (g := fun j => some (va_up r i b j)) hP (fun j hj => q_fi_e r i b j hj)
        have hD2 := q_Dlast (e' := .inl (cR, i + 1, .inr (.inr (.inr (.inr (fun j => some (va_up r i b j))))))) hD
        refine lv_aload_n hx hb dX3_with_33 rfl (lv_at hl 2 rfl) ?_
        exact q_ed_a (Or.inr ⟨_, rfl⟩) ⟨q, rfl, rfl⟩ hP2 hD2 hS ⟨(Nat.le_of_ble_eq_true rfl), (show 0 + (i + 1) ≤ 61 by omega)⟩ hx hb hr hlk dX3_with_34
      · have hi2 : i < n := z_nle (by omega) c13
        refine lv_aload_n hx hb dX3_with_16 rfl (lv_at hl 2 rfl) ?_
        refine lv_iload_n hx hb dX3_with_17 rfl (lv_at hl 3 rfl) ?_
        refine lv_aload_n hx hb dX3_with_18 rfl (lv_at hl 0 rfl) ?_
        refine lv_iload_n hx hb dX3_with_19 rfl (lv_at hl 3 rfl) ?_
        refine q_aald (v := r i) hx hb hK hP 0 rfl hi2 (by omega) rfl dX3_with_20 ?_
        refine q_aast hx hb hK hJ hP hD hS (n + 2) (2 + i) (q_last (q_wW_len _ _ _ _ _ _ _ _)) (q_inl (q_c2 (q_rw_get hi2))) (show i < n + 1 by omega) (by omega) dX3_with_21 (fun H locs hP hD hS => ?_)
        rw [q_slast (q_wW_len _ _ _ _ _ _ _ _), q_fi_s] at hP hD
        refine lv_iinc (v := nI (i + 1)) (lv' := [(3, .int (nI (i + 1))), (0, .ref a), (1, .ref b), (2, .ref q)]) hx hb dX3_with_22 hl (k := 3) rfl (nI_1 _) (by decide) rfl (fun ls hl => ?_)
        refine lv_goto (tgt := 10) hx hb dX3_with_25 (by decide) ?_
        exact ih (i + 1) (by omega) (by omega) _ _ hP hD hS _ (lv_sub hl [1, 2, 3, 0] rfl)
  exact lp10 (n + 1) 0 (by omega) (by omega) _ _ hP hD hS _ (lv_sub hl [2, 3, 1, 0] rfl)

theorem q_W0 {Dg : va_G} {cI cR : ClassId} {h q1 q2 q3 : Nat} {H : Heap} (hP : va_P Dg vwCl ((([(h, .inr (3, [.ref q1, .ref q2, .ref q3, .int 0, .int 0, .int 0]))] ++ [(q1, .inl (cI, 4, .inl (fun _ => 0)))]) ++ [(q2, .inl (cR, 0, .inr (.inr (.inr (.inr (fun _ => none))))))]) ++ [(q3, .inl (cR, 0, .inr (.inr (.inr (.inr (fun _ => none))))))]) H) : va_P Dg vwCl (q_W cI cR (fun i9 => ([h, q1, q2, q3] : List Nat).getD i9 0) (fun _ => 0) (fun _ => 0) z_G0 z_D0) H := by
  intro k q hk
  match k, hk with
  | 0, hk => exact hP 0 q hk
  | 1, hk => exact hP 1 q hk
  | 2, hk =>
    cases hk
    have := hP 2 _ rfl
    show H[q2]? = some (vp_cell cR (0, _))
    rw [← q_cellr (f := fun _ => none) (fun j hj => absurd hj (Nat.not_lt_zero _))]
    exact this
  | 3, hk =>
    cases hk
    have := hP 3 _ rfl
    show H[q3]? = some (vp_cell cR (0, _))
    rw [← q_cellr (f := fun _ => none) (fun j hj => absurd hj (Nat.not_lt_zero _))]
    exact this
  | n + 4, hk => exact absurd hk (by rw [show (q_W cI cR (fun i9 => ([h, q1, q2, q3] : List Nat).getD i9 0) (fun _ => 0) (fun _ => 0) z_G0 z_D0)[n + 4]? = (([] : va_W) ++ [])[n]? from rfl]; simp)
set_option maxHeartbeats 4000000 in
set_option maxRecDepth 100000 in
theorem m_X3_init (l : Launch) (Dg : va_G) (cI cR cZ : ClassId) (h sz : Nat) : q_Md l yX3_init wsX3_init 1 3 4 21 [.ref h] Dg cI cR cZ [(h, .inr (3, [.null, .null, .null, .int 0, .int 0, .int 0]))] sz (fun o w9 => o = none ∧ ∃ sa9 : Nat → Nat, h = sa9 0 ∧ w9 = q_W cI cR sa9 (fun _ => 0) (fun _ => 0) z_G0 z_D0) := by
  refine q_sd (own := RX3) (l0 := [(0, .ref h)]) rfl rfl (by decide) (Nat.le_of_ble_eq_true rfl) rfl ?_
  intro p e s m below meth c hx hb hr hml hts hown hlk hP hK hN hJ hD hS hA ls hl
  refine lv_aload_n hx hb dX3_init_0 rfl (lv_at hl 0 rfl) ?_
  refine W.objInit hx hb hown (hts _ (List.mem_cons_of_mem _ (List.mem_append_left _ (List.mem_of_getElem? (i := 0) rfl)))) (hts _ (List.mem_cons_of_mem _ (List.mem_append_left _ (List.mem_of_getElem? (i := 1) rfl)))) (hts _ (List.mem_cons_of_mem _ (List.mem_append_left _ (List.mem_of_getElem? (i := 2) rfl)))) rfl (by rw [hml]; exact hl.1) rfl dX3_init_1 (Nat.le_of_ble_eq_true rfl) (Nat.le_of_ble_eq_true rfl) ?_
  refine W.eq (g2 := F0 m 4 ls []) rfl ?_
  refine lv_aload_n hx hb dX3_init_4 rfl (lv_at hl 0 rfl) ?_
  refine lv_iconst (v := nI 4) hx hb dX3_init_5 (by decide) ?_
  refine q_newi hx hb (hts _ (List.mem_cons_of_mem _ (List.mem_append_left _ (List.mem_of_getElem? (i := 3) rfl)))) hK hP hD hS hA rfl (by decide) (Nat.le_of_ble_eq_true rfl) (Nat.le_of_ble_eq_true rfl) dX3_init_6 (fun q1 H hP hD hS => ?_)
  refine va_put (ci := 3) (v := .ref q1) (ty := .array .int) (C := RX3) (T := TX3) (N := 6) hx hb hts (fun _ h9 => (List.mem_cons_of_mem _ (List.mem_append_right _ h9))) tyX3 tyX3_ok nmX3 hown hK hP hD hS 0 rfl rfl 0 (by decide) (hts _ (List.mem_cons_of_mem _ (List.mem_append_left _ (List.mem_of_getElem? (i := 4) rfl)))) (fun _ h9 => h9) rfl (by decide +kernel) rfl rfl (Nat.le_of_ble_eq_true rfl) dX3_init_8 (fun H locs hP hD hS => ?_)
  refine lv_aload_n hx hb dX3_init_11 rfl (lv_at hl 0 rfl) ?_
  refine lv_iconst (v := nI 0) hx hb dX3_init_12 (by decide) ?_
  refine q_anew hx hb hown (by rw [q_str]; exact (hts _ (List.mem_cons_of_mem _ (List.mem_append_left _ (List.mem_of_getElem? (i := 5) rfl))))) hJ hK hP hD hS hA rfl (by decide) (Nat.le_of_ble_eq_true rfl) (Nat.le_of_ble_eq_true rfl) dX3_init_13 (fun q2 H hP hD hS => ?_)
  refine va_put (ci := 3) (v := .ref q2) (ty := .array (.array .int)) (C := RX3) (T := TX3) (N := 6) hx hb hts (fun _ h9 => (List.mem_cons_of_mem _ (List.mem_append_right _ h9))) tyX3 tyX3_ok nmX3 hown hK hP hD hS 0 rfl rfl 1 (by decide) (hts _ (List.mem_cons_of_mem _ (List.mem_append_left _ (List.mem_of_getElem? (i := 6) rfl)))) (fun _ h9 => h9) rfl (by decide +kernel) rfl rfl (Nat.le_of_ble_eq_true rfl) dX3_init_16 (fun H locs hP hD hS => ?_)
  refine lv_aload_n hx hb dX3_init_19 rfl (lv_at hl 0 rfl) ?_
  refine lv_iconst (v := nI 0) hx hb dX3_init_20 (by decide) ?_
  refine q_anew hx hb hown (by rw [q_str]; exact (hts _ (List.mem_cons_of_mem _ (List.mem_append_left _ (List.mem_of_getElem? (i := 5) rfl))))) hJ hK hP hD hS hA rfl (by decide) (Nat.le_of_ble_eq_true rfl) (Nat.le_of_ble_eq_true rfl) dX3_init_21 (fun q3 H hP hD hS => ?_)
  refine va_put (ci := 3) (v := .ref q3) (ty := .array (.array .int)) (C := RX3) (T := TX3) (N := 6) hx hb hts (fun _ h9 => (List.mem_cons_of_mem _ (List.mem_append_right _ h9))) tyX3 tyX3_ok nmX3 hown hK hP hD hS 0 rfl rfl 2 (by decide) (hts _ (List.mem_cons_of_mem _ (List.mem_append_left _ (List.mem_of_getElem? (i := 7) rfl)))) (fun _ h9 => h9) rfl (by decide +kernel) rfl rfl (Nat.le_of_ble_eq_true rfl) dX3_init_24 (fun H locs hP hD hS => ?_)
  exact z_ed_v (w' := q_W cI cR (fun i9 => ([h, q1, q2, q3] : List Nat).getD i9 0) (fun _ => 0) (fun _ => 0) z_G0 z_D0) ⟨rfl, _, rfl, rfl⟩ (q_W0 hP) (z_Dsame hD rfl) hS ⟨(Nat.le_of_ble_eq_true rfl), (Nat.le_of_ble_eq_true rfl)⟩ hx hb hr hlk dX3_init_27
