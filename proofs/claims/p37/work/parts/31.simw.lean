/-! SIM: its cells as the state tells them -/
def q_4 (a b c d : Int32) : Nat → Int32 := fun j => if j = 0 then a else if j = 1 then b else if j = 2 then c else if j = 3 then d else 0
theorem q_4z : q_4 0 0 0 0 = fun _ => 0 := by
  funext j
  unfold q_4
  split
  · rfl
  · split
    · rfl
    · split
      · rfl
      · split <;> rfl
theorem q_4e {a b c d : Int32} {f : Nat → Int32} (h0 : f 0 = a) (h1 : f 1 = b) (h2 : f 2 = c) (h3 : f 3 = d) (h4 : ∀ j, j ≠ 0 → j ≠ 1 → j ≠ 2 → j ≠ 3 → f j = 0) : f = q_4 a b c d := by
  funext j
  unfold q_4
  by_cases e0 : j = 0
  · rw [if_pos e0, e0]; exact h0
  · rw [if_neg e0]
    by_cases e1 : j = 1
    · rw [if_pos e1, e1]; exact h1
    · rw [if_neg e1]
      by_cases e2 : j = 2
      · rw [if_pos e2, e2]; exact h2
      · rw [if_neg e2]
        by_cases e3 : j = 3
        · rw [if_pos e3, e3]; exact h3
        · rw [if_neg e3]; exact h4 j e0 e1 e2 e3
theorem q_4o (a b c d : Int32) {j : Nat} (e0 : j ≠ 0) (e1 : j ≠ 1) (e2 : j ≠ 2) (e3 : j ≠ 3) : q_4 a b c d j = 0 := by
  unfold q_4
  rw [if_neg e0, if_neg e1, if_neg e2, if_neg e3]
theorem q_u0 (a b c d x : Int32) : upd (q_4 a b c d) 0 x = q_4 x b c d := q_4e rfl rfl rfl rfl (fun j e0 e1 e2 e3 => by rw [upd, if_neg e0]; exact q_4o _ _ _ _ e0 e1 e2 e3)
theorem q_u1 (a b c d x : Int32) : upd (q_4 a b c d) 1 x = q_4 a x c d := q_4e rfl rfl rfl rfl (fun j e0 e1 e2 e3 => by rw [upd, if_neg e1]; exact q_4o _ _ _ _ e0 e1 e2 e3)
theorem q_u2 (a b c d x : Int32) : upd (q_4 a b c d) 2 x = q_4 a b x d := q_4e rfl rfl rfl rfl (fun j e0 e1 e2 e3 => by rw [upd, if_neg e2]; exact q_4o _ _ _ _ e0 e1 e2 e3)
theorem q_u3 (a b c d x : Int32) : upd (q_4 a b c d) 3 x = q_4 a b c x := q_4e rfl rfl rfl rfl (fun j e0 e1 e2 e3 => by rw [upd, if_neg e3]; exact q_4o _ _ _ _ e0 e1 e2 e3)
def q_b (G : z_GG) (D : z_DD) (b : Nat) : Nat → Int32 := q_4 (z_v0 G b) (z_lk G b) (z_sw D b) (z_bI (z_rc D b))
def q_t (G : z_GG) (D : z_DD) (t : Nat) : Nat → Int32 := q_4 (nI (z_bt G t)) (nI (z_sh G t)) (z_vc D t) (nI (z_pl D t - 1))
def q_rw (cI : ClassId) (r : Nat → Nat) (f : Nat → Nat → Int32) (n : Nat) : va_W := (List.range n).map (fun j => (r j, (.inl (cI, 4, .inl (f j)) : va_E)))
abbrev q_bs (cI : ClassId) (rb : Nat → Nat) (G : z_GG) (D : z_DD) : va_W := q_rw cI rb (q_b G D) (z_bc G)
abbrev q_ts (cI : ClassId) (rt : Nat → Nat) (G : z_GG) (D : z_DD) : va_W := q_rw cI rt (q_t G D) (z_tc G)
abbrev q_W (cI cR : ClassId) (sa rb rt : Nat → Nat) (G : z_GG) (D : z_DD) : va_W :=
  (sa 0, .inr (3, [.ref (sa 1), .ref (sa 2), .ref (sa 3), .int (nI (z_sd G)), .int (nI (z_od G)), .int (z_dy D)])) :: (sa 1, .inl (cI, 4, .inl (z_wm G))) ::
  (sa 2, .inl (cR, z_bc G, .inr (.inr (.inr (.inr (fun j => some (rb j))))))) :: (sa 3, .inl (cR, z_tc G, .inr (.inr (.inr (.inr (fun j => some (rt j))))))) ::
  (q_bs cI rb G D ++ q_ts cI rt G D)
theorem q_rw_len (cI : ClassId) (r : Nat → Nat) (f : Nat → Nat → Int32) (n : Nat) : (q_rw cI r f n).length = n := by simp [q_rw]
theorem q_rw_get {cI : ClassId} {r : Nat → Nat} {f : Nat → Nat → Int32} {n i : Nat} (h : i < n) : (q_rw cI r f n)[i]? = some (r i, .inl (cI, 4, .inl (f i))) := by simp [q_rw, h]
theorem q_rw_cong {cI : ClassId} {r : Nat → Nat} {f g : Nat → Nat → Int32} {n : Nat} (h : ∀ j, j < n → f j = g j) : q_rw cI r f n = q_rw cI r g n := by
  unfold q_rw
  exact List.map_congr_left (fun j hj => by rw [h j (List.mem_range.mp hj)])
theorem q_rw_set {cI : ClassId} {r : Nat → Nat} {f g : Nat → Nat → Int32} {n i : Nat} (hi : i < n) (h : ∀ j, j < n → j ≠ i → g j = f j) : (q_rw cI r f n).set i (r i, .inl (cI, 4, .inl (g i))) = q_rw cI r g n := by
  apply List.ext_getElem?
  intro k
  by_cases hk : k < n
  · by_cases e : k = i
    · subst e
      rw [List.getElem?_set_self (by rw [q_rw_len]; exact hk), q_rw_get hk]
    · rw [List.getElem?_set_ne (Ne.symm e), q_rw_get hk, q_rw_get hk, h k hk e]
  · rw [List.getElem?_eq_none (by rw [List.length_set, q_rw_len]; omega), List.getElem?_eq_none (by rw [q_rw_len]; omega)]
theorem q_rw_succ (cI : ClassId) (r : Nat → Nat) (f : Nat → Nat → Int32) (n : Nat) : q_rw cI r f (n + 1) = q_rw cI r f n ++ [(r n, .inl (cI, 4, .inl (f n)))] := by simp [q_rw, List.range_succ]
theorem q_pre {pre w : va_W} {n i : Nat} {x : Nat × va_E} (hn : pre.length = n) (h : w[i]? = some x) : (pre ++ w)[n + i]? = some x := by
  subst hn
  rw [List.getElem?_append_right (by omega), Nat.add_sub_cancel_left]
  exact h
theorem q_spre {pre w w' : va_W} {n i : Nat} {x : Nat × va_E} (hn : pre.length = n) (h : w.set i x = w') : (pre ++ w).set (n + i) x = pre ++ w' := by
  subst hn
  rw [List.set_append_right _ _ (by omega), Nat.add_sub_cancel_left, h]
theorem q_c4 {x0 x1 x2 x3 : Nat × va_E} {w : va_W} {i : Nat} {x : Nat × va_E} (h : w[i]? = some x) : (x0 :: x1 :: x2 :: x3 :: w)[4 + i]? = some x := by
  rw [Nat.add_comm]
  exact h
theorem q_s4 {x0 x1 x2 x3 : Nat × va_E} {w w' : va_W} {i : Nat} {x : Nat × va_E} (h : w.set i x = w') : (x0 :: x1 :: x2 :: x3 :: w).set (4 + i) x = x0 :: x1 :: x2 :: x3 :: w' := by
  rw [Nat.add_comm, ← h]
  rfl
section QW
variable {cI cR : ClassId} {sa rb rt : Nat → Nat} {G : z_GG} {D : z_DD}
theorem q_gB {b : Nat} (h : b < z_bc G) : (q_W cI cR sa rb rt G D)[4 + b]? = some (rb b, .inl (cI, 4, .inl (q_b G D b))) := q_c4 (by rw [List.getElem?_append_left (by rw [q_rw_len]; exact h)]; exact q_rw_get h)
theorem q_gT {t : Nat} (h : t < z_tc G) : (q_W cI cR sa rb rt G D)[4 + (z_bc G + t)]? = some (rt t, .inl (cI, 4, .inl (q_t G D t))) := q_c4 (q_pre (q_rw_len _ _ _ _) (q_rw_get h))
theorem q_sT {G' : z_GG} {D' : z_DD} {t : Nat} {f : Nat → Int32} (h : t < z_tc G) (h1 : f = q_t G' D' t) (h2 : ∀ u, u < z_tc G → u ≠ t → q_t G' D' u = q_t G D u) (h3 : ∀ b, q_b G' D' b = q_b G D b) (h4 : z_tc G' = z_tc G) (h5 : z_bc G' = z_bc G) (h6 : z_wm G' = z_wm G) (h7 : z_sd G' = z_sd G) (h8 : z_od G' = z_od G) (h9 : z_dy D' = z_dy D) : (q_W cI cR sa rb rt G D).set (4 + (z_bc G + t)) (rt t, .inl (cI, 4, .inl f)) = q_W cI cR sa rb rt G' D' := by
  unfold q_W q_bs q_ts
  rw [h4, h5, h6, h7, h8, h9]
  refine q_s4 (w' := q_rw cI rb (q_b G' D') (z_bc G) ++ q_rw cI rt (q_t G' D') (z_tc G)) ?_
  rw [show q_rw cI rb (q_b G' D') (z_bc G) = q_rw cI rb (q_b G D) (z_bc G) from q_rw_cong (fun j _ => h3 j)]
  refine q_spre (q_rw_len _ _ _ _) ?_
  rw [h1]
  exact q_rw_set h h2
theorem q_sB {G' : z_GG} {D' : z_DD} {b : Nat} {f : Nat → Int32} (h : b < z_bc G) (h1 : f = q_b G' D' b) (h2 : ∀ u, u < z_bc G → u ≠ b → q_b G' D' u = q_b G D u) (h3 : ∀ t, q_t G' D' t = q_t G D t) (h4 : z_tc G' = z_tc G) (h5 : z_bc G' = z_bc G) (h6 : z_wm G' = z_wm G) (h7 : z_sd G' = z_sd G) (h8 : z_od G' = z_od G) (h9 : z_dy D' = z_dy D) : (q_W cI cR sa rb rt G D).set (4 + b) (rb b, .inl (cI, 4, .inl f)) = q_W cI cR sa rb rt G' D' := by
  unfold q_W q_bs q_ts
  rw [h4, h5, h6, h7, h8, h9]
  refine q_s4 (w' := q_rw cI rb (q_b G' D') (z_bc G) ++ q_rw cI rt (q_t G' D') (z_tc G)) ?_
  rw [show q_rw cI rt (q_t G' D') (z_tc G) = q_rw cI rt (q_t G D) (z_tc G) from q_rw_cong (fun j _ => h3 j), List.set_append_left _ _ (by rw [q_rw_len]; exact h), h1, q_rw_set h h2]
theorem q_sT_vc {t : Nat} {x : Int32} (h : t < z_tc G) : (q_W cI cR sa rb rt G D).set (4 + (z_bc G + t)) (rt t, .inl (cI, 4, .inl (upd (q_t G D t) 2 x))) = q_W cI cR sa rb rt G (z_setvc D t x) := by
  refine q_sT h ?_ (fun u _ hu => ?_) (fun _ => rfl) rfl rfl rfl rfl rfl rfl
  · unfold q_t
    rw [q_u2, show z_vc (z_setvc D t x) t = x from z_upd_eq _ _ _]
    rfl
  · unfold q_t
    rw [show z_vc (z_setvc D t x) u = z_vc D u from if_neg hu]
    rfl
theorem q_sT_pl {t p y : Nat} (h : t < z_tc G) (hp : p - 1 = y) : (q_W cI cR sa rb rt G D).set (4 + (z_bc G + t)) (rt t, .inl (cI, 4, .inl (upd (q_t G D t) 3 (nI y)))) = q_W cI cR sa rb rt G (z_setpl D t p) := by
  refine q_sT h ?_ (fun u _ hu => ?_) (fun _ => rfl) rfl rfl rfl rfl rfl rfl
  · unfold q_t
    rw [q_u3, show z_pl (z_setpl D t p) t = p from z_up_eq _ _ _, hp]
    rfl
  · unfold q_t
    rw [show z_pl (z_setpl D t p) u = z_pl D u from z_up_ne _ _ hu]
    rfl
theorem q_sT_sh {t x : Nat} (h : t < z_tc G) : (q_W cI cR sa rb rt G D).set (4 + (z_bc G + t)) (rt t, .inl (cI, 4, .inl (upd (q_t G D t) 1 (nI x)))) = q_W cI cR sa rb rt (z_setsh G t x) D := by
  refine q_sT h ?_ (fun u _ hu => ?_) (fun _ => rfl) rfl rfl rfl rfl rfl rfl
  · unfold q_t
    rw [q_u1, show z_sh (z_setsh G t x) t = x from z_up_eq _ _ _]
    rfl
  · unfold q_t
    rw [show z_sh (z_setsh G t x) u = z_sh G u from z_up_ne _ _ hu]
    rfl
theorem q_sB_sw {b : Nat} {x : Int32} (h : b < z_bc G) (hx : x = z_sw D b + 1) : (q_W cI cR sa rb rt G D).set (4 + b) (rb b, .inl (cI, 4, .inl (upd (q_b G D b) 2 x))) = q_W cI cR sa rb rt G (z_addsw D b) := by
  subst hx
  refine q_sB h ?_ (fun u _ hu => ?_) (fun _ => rfl) rfl rfl rfl rfl rfl rfl
  · unfold q_b
    rw [q_u2, show z_sw (z_addsw D b) b = z_sw D b + 1 from z_upd_eq _ _ _]
    rfl
  · unfold q_b
    rw [show z_sw (z_addsw D b) u = z_sw D u from if_neg hu]
    rfl
theorem q_sB_rc {b : Nat} (h : b < z_bc G) : (q_W cI cR sa rb rt G D).set (4 + b) (rb b, .inl (cI, 4, .inl (upd (q_b G D b) 3 1))) = q_W cI cR sa rb rt G (z_setrc D b) := by
  refine q_sB h ?_ (fun u _ hu => ?_) (fun _ => rfl) rfl rfl rfl rfl rfl rfl
  · unfold q_b
    rw [q_u3, show z_rc (z_setrc D b) b = true from z_up_eq _ _ _]
    rfl
  · unfold q_b
    rw [show z_rc (z_setrc D b) u = z_rc D u from z_up_ne _ _ hu]
    rfl
end QW
/-! a world, its cells in another order, some left out -/
theorem q_D_iff {A : Nat → Prop} {ws : va_W} : va_D A ws ↔ (ws.map Prod.fst).Nodup ∧ ∀ q ∈ ws, A q.1 := by
  unfold List.Nodup
  rw [List.pairwise_iff_getElem]
  refine ⟨fun h => ⟨fun i j hi hj hij e => ?_, fun q hq => ?_⟩, fun h => ⟨fun i j p q hi hj e => ?_, fun k q hk => h.2 q (List.mem_of_getElem? hk)⟩⟩
  · rw [List.length_map] at hi hj
    rw [List.getElem_map, List.getElem_map] at e
    have := h.1 i j ws[i] ws[j] (List.getElem?_eq_getElem hi) (List.getElem?_eq_getElem hj) e
    omega
  · obtain ⟨k, hk⟩ := List.getElem?_of_mem hq
    exact h.2 k q hk
  · obtain ⟨hi1, hi2⟩ := List.getElem?_eq_some_iff.mp hi
    obtain ⟨hj1, hj2⟩ := List.getElem?_eq_some_iff.mp hj
    have key : ∀ a b (ha : a < ws.length) (hb : b < ws.length), a < b → ws[a].1 ≠ ws[b].1 := fun a b ha hb hab => by
      have := h.1 a b (by rw [List.length_map]; exact ha) (by rw [List.length_map]; exact hb) hab
      rwa [List.getElem_map, List.getElem_map] at this
    rcases Nat.lt_trichotomy i j with q1 | q1 | q1
    · exact absurd (by rw [hi2, hj2]; exact e) (key i j hi1 hj1 q1)
    · exact q1
    · exact absurd (by rw [hi2, hj2]; exact e.symm) (key j i hj1 hi1 q1)
theorem q_Pp {Dg : va_G} {cl : List vw_C} {ws ws' jk : va_W} {H : Heap} (h : va_P Dg cl ws H) (hp : List.Perm ws (ws' ++ jk)) : va_P Dg cl ws' H := fun k q hk => by
  have hm : q ∈ ws := hp.symm.subset (List.mem_append_left _ (List.mem_of_getElem? hk))
  obtain ⟨i, hi⟩ := List.getElem?_of_mem hm
  exact h i q hi
theorem q_Dp {A : Nat → Prop} {ws ws' jk : va_W} (h : va_D A ws) (hp : List.Perm ws (ws' ++ jk)) : va_D A ws' := by
  rw [q_D_iff] at h ⊢
  have h1 : ((ws' ++ jk).map Prod.fst).Nodup := (hp.map Prod.fst).nodup h.1
  rw [List.map_append] at h1
  exact ⟨(List.nodup_append.mp h1).1, fun q hq => h.2 q (hp.symm.subset (List.mem_append_left _ hq))⟩
/-- one more batch -/
theorem q_growB {X bs ts : va_W} {c0 c1 c2 c3 own arr c0' : Nat × va_E} (e : c0 = c0') : List.Perm (((X ++ (c0 :: c1 :: c2 :: c3 :: (bs ++ ts))) ++ [own]) ++ [arr]) ((X ++ (c0' :: c1 :: arr :: c3 :: ((bs ++ [own]) ++ ts))) ++ [c2]) := by
  subst e
  letI : DecidableEq (Nat × va_E) := fun a b => Classical.propDecidable (a = b)
  rw [List.perm_iff_count]
  intro a
  simp only [List.count_append, List.count_cons, List.count_nil]
  omega
theorem q_growT {X bs ts : va_W} {c0 c1 c2 c3 own arr c0' : Nat × va_E} (e : c0 = c0') : List.Perm (((X ++ (c0 :: c1 :: c2 :: c3 :: (bs ++ ts))) ++ [own]) ++ [arr]) ((X ++ (c0' :: c1 :: c2 :: arr :: (bs ++ (ts ++ [own])))) ++ [c3]) := by
  subst e
  letI : DecidableEq (Nat × va_E) := fun a b => Classical.propDecidable (a = b)
  rw [List.perm_iff_count]
  intro a
  simp only [List.count_append, List.count_cons, List.count_nil]
  omega
