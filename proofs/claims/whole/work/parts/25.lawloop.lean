theorem kdS_X2_init : yX2_init.cls ≠ "java/lang/invoke/MethodHandle" ∧ yX2_init.cls ≠ "java/lang/invoke/VarHandle" ∧ (parseMethodDescriptor yX2_init.desc).map (fun d => d.parameters.length) = some 0 := by decide +kernel
theorem kdS_X3_init : yX3_init.cls ≠ "java/lang/invoke/MethodHandle" ∧ yX3_init.cls ≠ "java/lang/invoke/VarHandle" ∧ (parseMethodDescriptor yX3_init.desc).map (fun d => d.parameters.length) = some 0 := by decide +kernel
theorem z_cAeqL {Dg : va_G} {cI cA : ClassId} {s : State} (h : va_K Dg vwCl ([(cI, .long)] ++ [(cA, .long)]) s) : cA = cI := by
  have h1 : s.vm.findClass _ = some cI := (h.2 0 (cI, .long) rfl).2
  have h2 : s.vm.findClass _ = some cA := (h.2 1 (cA, .long) rfl).2
  exact Option.some.inj (h2.symm.trans h1)
theorem z_str {k : Nat} {tx : String} {s : State} {A : Array Value} (h1 : (Cond.stringRef RX2 k tx).before A s = true) (h2 : (Cond.exactly (.string RX2 k) "java/lang/String").before A s = true) : ∃ a, vk_R RX2 k tx a s := by
  obtain ⟨a, c, cA, kA, q1, -⟩ := Cond.exactly_spec (args := A) (first := s) (o := none) (s := s) (idx := []) h2
  exact ⟨a, vk_R.of h1 q1⟩
theorem z_gt4 {L i : Nat} (hL : L ≤ 2048) (hi : 4 * i ≤ L) (h : ¬ Int32.ofNat L - 4 < nI (4 * i)) : 4 * i + 4 ≤ L := by
  by_cases h4 : 4 ≤ L
  · have e : Int32.ofNat L - 4 = nI (L - 4) := by
      have := pk_sub h4
      rwa [show nI 4 = (4 : Int32) from by decide] at this
    rw [e] at h
    by_cases q : L - 4 < 4 * i
    · exact absurd (nI_lt q (by omega)) h
    · omega
  · exfalso
    have hi0 : i = 0 := by omega
    subst hi0
    rcases (show L = 0 ∨ L = 1 ∨ L = 2 ∨ L = 3 by omega) with rfl | rfl | rfl | rfl <;> exact h (by decide)
theorem z_i4 (i : Nat) : nI (4 * i) + Int32.ofInt 4 = nI (4 * (i + 1)) := by
  have := nI_add (4 * i) 4
  rwa [show nI 4 = Int32.ofInt 4 from by decide] at this

set_option maxHeartbeats 4000000 in
set_option maxRecDepth 100000 in
theorem z_loop {p : Program} {l : Launch} {e : Env} {s : State} {m : MethodId} {below : List Frame} {meth : Method} {c : Code} {b L : Nat} {xs : Nat → Int32} {Dg : va_G} {cI cL : ClassId} {mo : Nat → Nat} {h : Nat} {na ta : Nat → Nat} {ob : Nat} (C0 : z_CX p l s m meth c b L xs Dg cI cL) : ∀ (zz i : Nat), 4 * i ≤ L → L + 1 ≤ 4 * i + 4 * zz → z_Go p l e s m below meth c b Dg cI cL mo h na ta ob 23 i (60 + i) (3000 + 12 * i) := by
  intro zz
  induction zz with
  | zero => intro i h1 h2; exfalso; omega
  | succ zz ih =>
    intro i hi hzz
    have C1 := C0
    obtain ⟨hx, hb, hr, hml, hown0, hts0, hXs0, hbl, hlk, hX0, hL, hst⟩ := C0
    have hbA : ¬ (fun q : Nat => s.heap.size ≤ q) b := Nat.not_le.mpr hbl
    intro th G D K G1 D1 o H locs d0 ls hG hW hP hD hS hd0 hl
    have hXs : va_X b L xs (s.setDrawn d0) s.heap := hXs0
    refine lv_iload hx hb dL_law_23 (lv_at hl 0 rfl) ?_
    refine lv_aload_n hx hb dL_law_25 rfl (lv_at hl 4 rfl) ?_
    refine va_slen hx hb hXs hbl hbA hS dL_law_26 ?_
    refine lv_iconst (v := 4) hx hb dL_law_27 (by decide) ?_
    refine lv_isub hx hb dL_law_28 ?_
    refine lv_icmp_gt (tgt := 1771) hx hb dL_law_29 (by decide) (fun _ => ?_) (fun c29 => ?_)
    · refine lv_iconst (v := 1) hx hb dL_law_1771 (by decide) ?_
      refine va_forget (fun q hq => hS.2.2 q hq) ?_
      refine W.widen (k := 601024) (n := 7293034) (by omega) (by omega) ?_
      exact lw_ret hd0 hx hb hr hlk dL_law_1772
    · have hi4 := z_gt4 hL hi c29
      have hcs : 60 + i + 1 ≤ 601024 ∧ 3000 + 12 * i + 12 ≤ 7293034 := ⟨by omega, by omega⟩
      have kk : z_Go p l e s m below meth c b Dg cI cL mo h na ta ob 1765 i (60 + i + 1) (3000 + 12 * i + 12) := by
        intro th G D K G1 D1 o H locs d0 ls hG hW hP hD hS hd0 hl
        refine lv_iinc (v := nI (4 * (i + 1))) (lv' := [(4, .int (nI (4 * (i + 1)))), (3, .ref ob), (2, .ref (mo 0)), (1, .ref h), (0, .ref b)]) hx hb dL_law_1765 hl (k := 0) rfl (z_i4 i) (by decide) rfl (fun ls hl => ?_)
        refine lv_goto (tgt := 23) hx hb dL_law_1768 (by decide) ?_
        exact ih (i + 1) (by omega) (by omega) th G D K G1 D1 o H locs d0 ls hG hW hP hD hS hd0 hl
      refine lv_aload_n hx hb dL_law_32 rfl (lv_at hl 4 rfl) ?_
      refine lv_iload hx hb dL_law_33 (lv_at hl 0 rfl) ?_
      refine z_sld hx hb hXs hbl hbA hS (by omega) (by omega) dL_law_35 ?_
      refine lv_bipush (v := 63) hx hb dL_law_36 (by decide) ?_
      refine lv_iand hx hb dL_law_38 ?_
      generalize xs (4 * i) &&& 63 = x9
      by_cases hout : x9.toInt < 0 ∨ 33 < x9.toInt
      · refine lv_tableOut (tgt := 1765) hx hb dL_law_39 hout (by decide) ?_
        exact W.widen (k := 60 + i + 1) (n := 3000 + 12 * i + 12) (by omega) (by omega) (kk th G D K G1 D1 o H locs d0 ls hG hW hP hD hS hd0 hl)
      · have h1 : ¬ x9.toInt < 0 := fun q => hout (Or.inl q)
        have h2 : ¬ 33 < x9.toInt := fun q => hout (Or.inr q)
        have hcase : x9.toInt = 0 ∨ x9.toInt = 1 ∨ x9.toInt = 2 ∨ x9.toInt = 3 ∨ x9.toInt = 4 ∨ x9.toInt = 5 ∨ x9.toInt = 6 ∨ x9.toInt = 7 ∨ x9.toInt = 8 ∨ x9.toInt = 9 ∨ x9.toInt = 10 ∨ x9.toInt = 11 ∨ x9.toInt = 12 ∨ x9.toInt = 13 ∨ x9.toInt = 14 ∨ x9.toInt = 15 ∨ x9.toInt = 16 ∨ x9.toInt = 17 ∨ x9.toInt = 18 ∨ x9.toInt = 19 ∨ x9.toInt = 20 ∨ x9.toInt = 21 ∨ x9.toInt = 22 ∨ x9.toInt = 23 ∨ x9.toInt = 24 ∨ x9.toInt = 25 ∨ x9.toInt = 26 ∨ x9.toInt = 27 ∨ x9.toInt = 28 ∨ x9.toInt = 29 ∨ x9.toInt = 30 ∨ x9.toInt = 31 ∨ x9.toInt = 32 ∨ x9.toInt = 33 := by omega
        rcases hcase with hv | hv | hv | hv | hv | hv | hv | hv | hv | hv | hv | hv | hv | hv | hv | hv | hv | hv | hv | hv | hv | hv | hv | hv | hv | hv | hv | hv | hv | hv | hv | hv | hv | hv
        · refine lv_tableIn (tgt := 188) (off := 149) hx hb dL_law_39 h1 h2 (by rw [hv]; rfl) (by decide) ?_
          exact lc_0 C1 hi4 hcs kk th G D K G1 D1 o H locs d0 ls hG hW hP hD hS hd0 hl
        · refine lv_tableIn (tgt := 256) (off := 217) hx hb dL_law_39 h1 h2 (by rw [hv]; rfl) (by decide) ?_
          exact lc_1 C1 hi4 hcs kk th G D K G1 D1 o H locs d0 ls hG hW hP hD hS hd0 hl
        · refine lv_tableIn (tgt := 336) (off := 297) hx hb dL_law_39 h1 h2 (by rw [hv]; rfl) (by decide) ?_
          exact lc_2 C1 hi4 hcs kk th G D K G1 D1 o H locs d0 ls hG hW hP hD hS hd0 hl
        · refine lv_tableIn (tgt := 404) (off := 365) hx hb dL_law_39 h1 h2 (by rw [hv]; rfl) (by decide) ?_
          exact lc_3 C1 hi4 hcs kk th G D K G1 D1 o H locs d0 ls hG hW hP hD hS hd0 hl
        · refine lv_tableIn (tgt := 472) (off := 433) hx hb dL_law_39 h1 h2 (by rw [hv]; rfl) (by decide) ?_
          exact lc_4 C1 hi4 hcs kk th G D K G1 D1 o H locs d0 ls hG hW hP hD hS hd0 hl
        · refine lv_tableIn (tgt := 540) (off := 501) hx hb dL_law_39 h1 h2 (by rw [hv]; rfl) (by decide) ?_
          exact lc_5 C1 hi4 hcs kk th G D K G1 D1 o H locs d0 ls hG hW hP hD hS hd0 hl
        · refine lv_tableIn (tgt := 596) (off := 557) hx hb dL_law_39 h1 h2 (by rw [hv]; rfl) (by decide) ?_
          exact lc_6 C1 hi4 hcs kk th G D K G1 D1 o H locs d0 ls hG hW hP hD hS hd0 hl
        · refine lv_tableIn (tgt := 652) (off := 613) hx hb dL_law_39 h1 h2 (by rw [hv]; rfl) (by decide) ?_
          exact lc_7 C1 hi4 hcs kk th G D K G1 D1 o H locs d0 ls hG hW hP hD hS hd0 hl
        · refine lv_tableIn (tgt := 665) (off := 626) hx hb dL_law_39 h1 h2 (by rw [hv]; rfl) (by decide) ?_
          exact lc_8 C1 hi4 hcs kk th G D K G1 D1 o H locs d0 ls hG hW hP hD hS hd0 hl
        · refine lv_tableIn (tgt := 678) (off := 639) hx hb dL_law_39 h1 h2 (by rw [hv]; rfl) (by decide) ?_
          exact lc_9 C1 hi4 hcs kk th G D K G1 D1 o H locs d0 ls hG hW hP hD hS hd0 hl
        · refine lv_tableIn (tgt := 691) (off := 652) hx hb dL_law_39 h1 h2 (by rw [hv]; rfl) (by decide) ?_
          exact lc_10 C1 hi4 hcs kk th G D K G1 D1 o H locs d0 ls hG hW hP hD hS hd0 hl
        · refine lv_tableIn (tgt := 704) (off := 665) hx hb dL_law_39 h1 h2 (by rw [hv]; rfl) (by decide) ?_
          exact lc_11 C1 hi4 hcs kk th G D K G1 D1 o H locs d0 ls hG hW hP hD hS hd0 hl
        · refine lv_tableIn (tgt := 717) (off := 678) hx hb dL_law_39 h1 h2 (by rw [hv]; rfl) (by decide) ?_
          exact lc_12 C1 hi4 hcs kk th G D K G1 D1 o H locs d0 ls hG hW hP hD hS hd0 hl
        · refine lv_tableIn (tgt := 730) (off := 691) hx hb dL_law_39 h1 h2 (by rw [hv]; rfl) (by decide) ?_
          exact lc_13 C1 hi4 hcs kk th G D K G1 D1 o H locs d0 ls hG hW hP hD hS hd0 hl
        · refine lv_tableIn (tgt := 743) (off := 704) hx hb dL_law_39 h1 h2 (by rw [hv]; rfl) (by decide) ?_
          exact lc_14 C1 hi4 hcs kk th G D K G1 D1 o H locs d0 ls hG hW hP hD hS hd0 hl
        · refine lv_tableIn (tgt := 799) (off := 760) hx hb dL_law_39 h1 h2 (by rw [hv]; rfl) (by decide) ?_
          exact lc_15 C1 hi4 hcs kk th G D K G1 D1 o H locs d0 ls hG hW hP hD hS hd0 hl
        · refine lv_tableIn (tgt := 855) (off := 816) hx hb dL_law_39 h1 h2 (by rw [hv]; rfl) (by decide) ?_
          exact lc_16 C1 hi4 hcs kk th G D K G1 D1 o H locs d0 ls hG hW hP hD hS hd0 hl
        · refine lv_tableIn (tgt := 911) (off := 872) hx hb dL_law_39 h1 h2 (by rw [hv]; rfl) (by decide) ?_
          exact lc_17 C1 hi4 hcs kk th G D K G1 D1 o H locs d0 ls hG hW hP hD hS hd0 hl
        · refine lv_tableIn (tgt := 967) (off := 928) hx hb dL_law_39 h1 h2 (by rw [hv]; rfl) (by decide) ?_
          exact lc_18 C1 hi4 hcs kk th G D K G1 D1 o H locs d0 ls hG hW hP hD hS hd0 hl
        · refine lv_tableIn (tgt := 1023) (off := 984) hx hb dL_law_39 h1 h2 (by rw [hv]; rfl) (by decide) ?_
          exact lc_19 C1 hi4 hcs kk th G D K G1 D1 o H locs d0 ls hG hW hP hD hS hd0 hl
        · refine lv_tableIn (tgt := 1086) (off := 1047) hx hb dL_law_39 h1 h2 (by rw [hv]; rfl) (by decide) ?_
          exact lc_20 C1 hi4 hcs kk th G D K G1 D1 o H locs d0 ls hG hW hP hD hS hd0 hl
        · refine lv_tableIn (tgt := 1149) (off := 1110) hx hb dL_law_39 h1 h2 (by rw [hv]; rfl) (by decide) ?_
          exact lc_21 C1 hi4 hcs kk th G D K G1 D1 o H locs d0 ls hG hW hP hD hS hd0 hl
        · refine lv_tableIn (tgt := 1205) (off := 1166) hx hb dL_law_39 h1 h2 (by rw [hv]; rfl) (by decide) ?_
          exact lc_22 C1 hi4 hcs kk th G D K G1 D1 o H locs d0 ls hG hW hP hD hS hd0 hl
        · refine lv_tableIn (tgt := 1261) (off := 1222) hx hb dL_law_39 h1 h2 (by rw [hv]; rfl) (by decide) ?_
          exact lc_23 C1 hi4 hcs kk th G D K G1 D1 o H locs d0 ls hG hW hP hD hS hd0 hl
        · refine lv_tableIn (tgt := 1324) (off := 1285) hx hb dL_law_39 h1 h2 (by rw [hv]; rfl) (by decide) ?_
          exact lc_24 C1 hi4 hcs kk th G D K G1 D1 o H locs d0 ls hG hW hP hD hS hd0 hl
        · refine lv_tableIn (tgt := 1380) (off := 1341) hx hb dL_law_39 h1 h2 (by rw [hv]; rfl) (by decide) ?_
          exact lc_25 C1 hi4 hcs kk th G D K G1 D1 o H locs d0 ls hG hW hP hD hS hd0 hl
        · refine lv_tableIn (tgt := 1448) (off := 1409) hx hb dL_law_39 h1 h2 (by rw [hv]; rfl) (by decide) ?_
          exact lc_26 C1 hi4 hcs kk th G D K G1 D1 o H locs d0 ls hG hW hP hD hS hd0 hl
        · refine lv_tableIn (tgt := 1504) (off := 1465) hx hb dL_law_39 h1 h2 (by rw [hv]; rfl) (by decide) ?_
          exact lc_27 C1 hi4 hcs kk th G D K G1 D1 o H locs d0 ls hG hW hP hD hS hd0 hl
        · refine lv_tableIn (tgt := 1560) (off := 1521) hx hb dL_law_39 h1 h2 (by rw [hv]; rfl) (by decide) ?_
          exact lc_28 C1 hi4 hcs kk th G D K G1 D1 o H locs d0 ls hG hW hP hD hS hd0 hl
        · refine lv_tableIn (tgt := 1628) (off := 1589) hx hb dL_law_39 h1 h2 (by rw [hv]; rfl) (by decide) ?_
          exact lc_29 C1 hi4 hcs kk th G D K G1 D1 o H locs d0 ls hG hW hP hD hS hd0 hl
        · refine lv_tableIn (tgt := 1641) (off := 1602) hx hb dL_law_39 h1 h2 (by rw [hv]; rfl) (by decide) ?_
          exact lc_30 C1 hi4 hcs kk th G D K G1 D1 o H locs d0 ls hG hW hP hD hS hd0 hl
        · refine lv_tableIn (tgt := 1654) (off := 1615) hx hb dL_law_39 h1 h2 (by rw [hv]; rfl) (by decide) ?_
          exact lc_31 C1 hi4 hcs kk th G D K G1 D1 o H locs d0 ls hG hW hP hD hS hd0 hl
        · refine lv_tableIn (tgt := 1710) (off := 1671) hx hb dL_law_39 h1 h2 (by rw [hv]; rfl) (by decide) ?_
          exact lc_32 C1 hi4 hcs kk th G D K G1 D1 o H locs d0 ls hG hW hP hD hS hd0 hl
        · refine lv_tableIn (tgt := 1751) (off := 1712) hx hb dL_law_39 h1 h2 (by rw [hv]; rfl) (by decide) ?_
          exact lc_33 C1 hi4 hcs kk th G D K G1 D1 o H locs d0 ls hG hW hP hD hS hd0 hl
set_option maxHeartbeats 4000000 in
set_option maxRecDepth 100000 in
theorem z_entry {p : Program} {l : Launch} {e : Env} {s : State} {m : MethodId} {below : List Frame} {meth : Method} {c : Code} {b L : Nat} {xs : Nat → Int32} {Dg : va_G} {cI cL : ClassId} (C0 : z_CX p l s m meth c b L xs Dg cI cL) {ls : Array Slot} (hl : lv_has ls 9 [(0, .ref b)]) {d0 : Drawn} (hd0 : s.drawn.sameBut d0 lw_cs) : W p l e room_1 (s.setDrawn d0) m #[Value.ref b] below meth c s.heap [] 0 0 (lw_Z below #[Value.ref b] s) (F0 m 0 ls []) := by
  have C1 := C0
  obtain ⟨hx, hb, hr, hml, hown0, hts0, hXs0, hbl, hlk, hX0, hL, hst⟩ := C0
  have hts : ∀ w ∈ wsL_law, w.before #[Value.ref b] (s.setDrawn d0) = true := dr_words hts0 d0
  have hown : (s.setDrawn d0).vm.findClass RL = some m.cls := hown0
  have hX : z_X Dg cI cL (s.setDrawn d0) s.heap := hX0.same rfl
  have hK := hX.1.1
  have hN := hX.1.2
  have hA : ∀ q : Nat, s.heap.size ≤ q → (fun q : Nat => s.heap.size ≤ q) q := fun _ h => h
  have hS : va_S (fun q : Nat => s.heap.size ≤ q) s.heap s.heap [] := va_S.rf
  have hP : va_P Dg vwCl ([] : va_W) s.heap := z_P0
  have hD : va_D (fun q : Nat => s.heap.size ≤ q) ([] : va_W) := ⟨fun i j p q h => by simp at h, fun k q h => by simp at h⟩
  refine va_new (ci := 2) (fs := [.null, .null]) (C := RX2) (T := TX2) (N := 2) hx hb hts inlX2 tyX2 tyX2_ok hown (hts (.classLink RL 8 RX2) (List.mem_append_left _ (List.mem_append_left _ (List.mem_append_left _ (List.mem_append_left _ (List.mem_append_left _ (List.mem_append_left _ (List.mem_append_left _ (List.mem_append_left _ (List.mem_append_left _ (List.mem_of_getElem? (i := 0) rfl))))))))))) (hts (.instantiable RX2 2) (List.mem_append_left _ (List.mem_append_left _ (List.mem_append_left _ (List.mem_append_left _ (List.mem_append_left _ (List.mem_append_left _ (List.mem_append_left _ (List.mem_append_left _ (List.mem_append_left _ (List.mem_of_getElem? (i := 1) rfl))))))))))) (hts (.initialized RX2) (List.mem_append_left _ (List.mem_append_left _ (List.mem_append_left _ (List.mem_append_left _ (List.mem_append_left _ (List.mem_append_left _ (List.mem_append_left _ (List.mem_append_left _ (List.mem_append_left _ (List.mem_of_getElem? (i := 2) rfl))))))))))) hK hP hD hS hA rfl (fun j hj => by rcases (show j = 0 ∨ j = 1 by omega) with rfl | rfl <;> rfl) (Nat.le_of_ble_eq_true rfl) (Nat.le_of_ble_eq_true rfl) dL_law_0 (fun h H hP hD hS => ?_)
  refine lv_dup hx hb dL_law_3 rfl ?_
  have hP : va_P Dg vwCl ([] ++ ([(h, .inr (2, [.null, .null]))] ++ [])) H := hP
  have hD : va_D _ (([] : va_W) ++ ([(h, .inr (2, [.null, .null]))] ++ [])) := hD
  refine z_ni [.ref h] [] [] hx hb hml hown hts (m_X2_init l Dg cI h H.size) gL_law_X2_init rfl (hts (.initialized RX2) (List.mem_append_left _ (List.mem_append_left _ (List.mem_append_left _ (List.mem_append_left _ (List.mem_append_left _ (List.mem_append_left _ (List.mem_append_left _ (List.mem_append_left _ (List.mem_append_left _ (List.mem_of_getElem? (i := 2) rfl))))))))))) (hts (.methodLink RL 88 yX2_init) (List.mem_append_left _ (List.mem_append_left _ (List.mem_append_left _ (List.mem_append_left _ (List.mem_append_left _ (List.mem_append_left _ (List.mem_append_left _ (List.mem_append_left _ (List.mem_append_left _ (List.mem_of_getElem? (i := 7) rfl))))))))))) (hts (.instanceMethod yX2_init) (List.mem_append_left _ (List.mem_append_left _ (List.mem_append_left _ (List.mem_append_left _ (List.mem_append_left _ (List.mem_append_left _ (List.mem_append_left _ (List.mem_append_left _ (List.mem_append_left _ (List.mem_of_getElem? (i := 8) rfl))))))))))) rfl kdS_X2_init ⟨Nat.le_of_ble_eq_true rfl, Nat.le_of_ble_eq_true rfl⟩ hK hN hP hD hS hA rfl hl.1 rfl (Nat.le_of_ble_eq_true rfl) dL_law_4 ⟨Nat.le_of_ble_eq_true rfl, Nat.le_of_ble_eq_true rfl⟩ (fun o9 w9 H locs hPo hP hD hS => ?_)
  obtain ⟨rfl, na, ta, rfl⟩ := hPo
  refine lv_astore_n (lv' := [(1, .ref h), (0, .ref b)]) hx hb dL_law_7 rfl hl (by decide) rfl (fun ls hl => ?_)
  have hP : va_P Dg vwCl (z_cW cI h na ta z_G0 z_D0 z_G0 z_D0) H := hP
  have hD : va_D _ (z_cW cI h na ta z_G0 z_D0 z_G0 z_D0) := hD
  refine va_new (ci := 3) (fs := [.int 0, .int 0, .int 0, .int 0, .int 0, .null, .null, .null, .null, .null, .null, .null]) (C := RX3) (T := TX3) (N := 12) hx hb hts inlX3 tyX3 tyX3_ok hown (hts (.classLink RL 89 RX3) (List.mem_append_left _ (List.mem_append_left _ (List.mem_append_left _ (List.mem_append_left _ (List.mem_append_left _ (List.mem_append_left _ (List.mem_append_left _ (List.mem_append_left _ (List.mem_append_left _ (List.mem_of_getElem? (i := 3) rfl))))))))))) (hts (.instantiable RX3 12) (List.mem_append_left _ (List.mem_append_left _ (List.mem_append_left _ (List.mem_append_left _ (List.mem_append_left _ (List.mem_append_left _ (List.mem_append_left _ (List.mem_append_left _ (List.mem_append_left _ (List.mem_of_getElem? (i := 4) rfl))))))))))) (hts (.initialized RX3) (List.mem_append_left _ (List.mem_append_left _ (List.mem_append_left _ (List.mem_append_left _ (List.mem_append_left _ (List.mem_append_left _ (List.mem_append_left _ (List.mem_append_left _ (List.mem_append_left _ (List.mem_of_getElem? (i := 5) rfl))))))))))) hK hP hD hS hA rfl (fun j hj => by rcases (show j = 0 ∨ j = 1 ∨ j = 2 ∨ j = 3 ∨ j = 4 ∨ j = 5 ∨ j = 6 ∨ j = 7 ∨ j = 8 ∨ j = 9 ∨ j = 10 ∨ j = 11 by omega) with rfl | rfl | rfl | rfl | rfl | rfl | rfl | rfl | rfl | rfl | rfl | rfl <;> rfl) (Nat.le_of_ble_eq_true rfl) (Nat.le_of_ble_eq_true rfl) dL_law_8 (fun h3 H hP hD hS => ?_)
  refine lv_dup hx hb dL_law_11 rfl ?_
  have hP : va_P Dg vwCl (z_cW cI h na ta z_G0 z_D0 z_G0 z_D0 ++ ([(h3, .inr (3, [.int 0, .int 0, .int 0, .int 0, .int 0, .null, .null, .null, .null, .null, .null, .null]))] ++ [])) H := hP
  have hD : va_D _ (z_cW cI h na ta z_G0 z_D0 z_G0 z_D0 ++ ([(h3, .inr (3, [.int 0, .int 0, .int 0, .int 0, .int 0, .null, .null, .null, .null, .null, .null, .null]))] ++ [])) := hD
  refine z_ni [.ref h3] (z_cW cI h na ta z_G0 z_D0 z_G0 z_D0) [] hx hb hml hown hts (m_X3_init l Dg cI h3 H.size) gL_law_X3_init rfl (hts (.initialized RX3) (List.mem_append_left _ (List.mem_append_left _ (List.mem_append_left _ (List.mem_append_left _ (List.mem_append_left _ (List.mem_append_left _ (List.mem_append_left _ (List.mem_append_left _ (List.mem_append_left _ (List.mem_of_getElem? (i := 5) rfl))))))))))) (hts (.methodLink RL 91 yX3_init) (List.mem_append_left _ (List.mem_append_left _ (List.mem_append_left _ (List.mem_append_left _ (List.mem_append_left _ (List.mem_append_left _ (List.mem_append_left _ (List.mem_append_left _ (List.mem_append_right _ (List.mem_append_left _ (List.mem_of_getElem? (i := 20) rfl)))))))))))) (hts (.instanceMethod yX3_init) (List.mem_append_left _ (List.mem_append_left _ (List.mem_append_left _ (List.mem_append_left _ (List.mem_append_left _ (List.mem_append_left _ (List.mem_append_left _ (List.mem_append_left _ (List.mem_append_right _ (List.mem_append_left _ (List.mem_of_getElem? (i := 21) rfl)))))))))))) rfl kdS_X3_init ⟨Nat.le_of_ble_eq_true rfl, Nat.le_of_ble_eq_true rfl⟩ hK hN hP hD hS hA rfl hl.1 rfl (Nat.le_of_ble_eq_true rfl) dL_law_12 ⟨Nat.le_of_ble_eq_true rfl, Nat.le_of_ble_eq_true rfl⟩ (fun o9 w9 H locs hPo hP hD hS => ?_)
  obtain ⟨rfl, mo, rfl, rfl⟩ := hPo
  refine lv_astore_n (lv' := [(2, .ref (mo 0)), (1, .ref h), (0, .ref b)]) hx hb dL_law_15 rfl hl (by decide) rfl (fun ls hl => ?_)
  refine lv_iconst (v := 1) hx hb dL_law_16 (by decide) ?_
  refine va_newa (atype := .long) (ty := .long) (N' := 1) (a0 := (1, .inr (.inl (fun _ => 0)))) hx hb (hts (.arrayClass .long) (List.mem_append_left _ (List.mem_append_left _ (List.mem_append_left _ (List.mem_append_left _ (List.mem_append_left _ (List.mem_append_left _ (List.mem_append_left _ (List.mem_append_left _ (List.mem_append_left _ (List.mem_of_getElem? (i := 6) rfl))))))))))) rfl hX.2.1 hP hD hS hA (fun _ => rfl) (by decide) (by decide) (Nat.le_of_ble_eq_true rfl) (Nat.le_of_ble_eq_true rfl) (Nat.le_of_ble_eq_true rfl) dL_law_17 (fun ob cA H hK2 hP hD hS => ?_)
  rw [z_cAeqL hK2] at hP hD
  refine lv_astore_n (lv' := [(3, .ref ob), (2, .ref (mo 0)), (1, .ref h), (0, .ref b)]) hx hb dL_law_19 rfl hl (by decide) rfl (fun ls hl => ?_)
  refine lv_iconst (v := nI (4 * 0)) hx hb dL_law_20 (by decide) ?_
  refine lv_istore (lv' := [(4, .int (nI (4 * 0))), (3, .ref ob), (2, .ref (mo 0)), (1, .ref h), (0, .ref b)]) hx hb dL_law_21 hl (by decide) rfl (fun ls hl => ?_)
  have hP9 : va_P Dg vwCl (z_Lw cI cL mo h na ta ob 0 z_G0 z_D0 (fun _ => 0) z_G0 z_D0 (fun _ => 0)) H := hP.sub [39, 40, 41, 42, 43, 44, 45, 46, 0, 1, 2, 3, 4, 5, 6, 7, 8, 9, 10, 11, 12, 13, 14, 15, 16, 17, 18, 19, 20, 21, 22, 23, 24, 25, 26, 27, 28, 29, 30, 31, 32, 33, 34, 35, 36, 37, 38, 47] rfl
  have hD9 : va_D _ (z_Lw cI cL mo h na ta ob 0 z_G0 z_D0 (fun _ => 0) z_G0 z_D0 (fun _ => 0)) := hD.sub [39, 40, 41, 42, 43, 44, 45, 46, 0, 1, 2, 3, 4, 5, 6, 7, 8, 9, 10, 11, 12, 13, 14, 15, 16, 17, 18, 19, 20, 21, 22, 23, 24, 25, 26, 27, 28, 29, 30, 31, 32, 33, 34, 35, 36, 37, 38, 47] (by decide) rfl
  refine W.widen (k := 60 + 0) (n := 3000 + 12 * 0) (Nat.le_of_ble_eq_true rfl) (Nat.le_of_ble_eq_true rfl) ?_
  exact z_loop C1 (L + 1) 0 (by omega) (by omega) 0 z_G0 z_D0 (fun _ => 0) z_G0 z_D0 (fun _ => 0) H locs d0 ls z_WG0 z_WD0 hP9 hD9 hS hd0 hl

