/-! WHAT HOLDS ALL THE TIME -/
/-- how many of a batch swelled: they are lost, and have no vacuum -/
def q_nl (G : z_GG) (D : z_DD) (b : Nat) : Nat := z_ct (fun t => z_pl D t == 3 && (decide (z_vc D t = 0) && z_bt G t == b)) (z_tc G)
def q_I (G : z_GG) (D : z_DD) : Prop := z_WG G ∧ z_WD G D ∧ q_B G ∧ q_V G D ∧ (∀ b, z_bc G ≤ b → z_sw D b = 0 ∧ z_rc D b = false) ∧ (∀ b, b < z_bc G → 1 ≤ z_v0 G b ∧ z_v0 G b ≤ 99) ∧ (∀ t, t < z_tc G → z_pl D t ≠ 3 → 1 ≤ z_vc D t) ∧ (∀ t, t < z_tc G → z_pl D t = 1 → z_rc D (z_bt G t) = false) ∧ (∀ b, 3 ≤ z_sw D b → z_rc D b = true) ∧ (∀ b, z_sw D b = nI (q_nl G D b))
/-! counting -/
theorem q_ct_le {p q : Nat → Bool} : ∀ {n : Nat}, (∀ k, k < n → p k = true → q k = true) → z_ct p n ≤ z_ct q n
  | 0, _ => Nat.le_refl 0
  | n + 1, h => by
    have ih := q_ct_le (p := p) (q := q) (n := n) (fun k hk => h k (by omega))
    rw [z_ct, z_ct]
    by_cases e : p n = true
    · rw [if_pos e, if_pos (h n (by omega) e)]
      omega
    · rw [if_neg e]
      omega
theorem q_ct_one {p q : Nat → Bool} {j : Nat} : ∀ {n : Nat}, j < n → (∀ k, k < n → k ≠ j → p k = q k) → p j = false → q j = true → z_ct q n = z_ct p n + 1
  | 0, h, _, _, _ => absurd h (Nat.not_lt_zero j)
  | n + 1, h, hk, h1, h2 => by
    rw [z_ct, z_ct]
    by_cases e : j = n
    · subst e
      rw [z_ct_cong (fun k hk2 => (hk k (by omega) (by omega)).symm), h1, h2]
      rfl
    · have ih := q_ct_one (p := p) (q := q) (n := n) (by omega) (fun k hk2 => hk k (by omega)) h1 h2
      rw [ih, hk n (by omega) (fun z => e z.symm)]
      omega
theorem q_ct_lt {p q : Nat → Bool} {j n : Nat} (hj : j < n) (h : ∀ k, k < n → p k = true → q k = true) (h1 : p j = false) (h2 : q j = true) : z_ct p n < z_ct q n := by
  have a : z_ct (fun k => p k || decide (k = j)) n = z_ct p n + 1 := q_ct_one hj (fun k _ hkj => by simp [hkj]) h1 (by simp)
  have b : z_ct (fun k => p k || decide (k = j)) n ≤ z_ct q n := q_ct_le (fun k hk hp => by
    rcases Bool.or_eq_true _ _ |>.mp hp with z | z
    · exact h k hk z
    · rw [of_decide_eq_true z]; exact h2)
  omega
theorem q_ct_0 {p : Nat → Bool} : ∀ {n : Nat}, z_ct p n = 0 ↔ ∀ k, k < n → p k = false
  | 0 => ⟨fun _ k hk => absurd hk (Nat.not_lt_zero k), fun _ => rfl⟩
  | n + 1 => by
    rw [z_ct]
    constructor
    · intro h k hk
      have h1 : z_ct p n = 0 := by omega
      by_cases e : k = n
      · subst e
        cases hq : p k
        · rfl
        · rw [hq] at h
          simp at h
      · exact (q_ct_0.mp h1) k (by omega)
    · intro h
      rw [q_ct_0.mpr (fun k hk => h k (by omega)), h n (by omega)]
      rfl
/-! a recall -/
section QTB
variable {G : z_GG} {D : z_DD} {b : Nat}
theorem q_tb_pl : ∀ (n t : Nat), z_pl (z_tb G b D n).2 t = if t < n ∧ z_pl D t = 1 ∧ z_bt G t = b then 3 else z_pl D t
  | 0, t => by
    rw [if_neg (fun h => Nat.not_lt_zero _ h.1)]
    rfl
  | n + 1, t => by
    have en : z_pl (z_tb G b D n).2 n = z_pl D n := by rw [q_tb_pl n n, if_neg (fun h => Nat.lt_irrefl _ h.1)]
    rw [z_tb]
    by_cases c : z_pl (z_tb G b D n).2 n = 1 ∧ z_bt G n = b
    · rw [if_pos c]
      show va_up (z_pl (z_tb G b D n).2) n 3 t = _
      by_cases e : t = n
      · subst e
        rw [z_up_eq, if_pos ⟨by omega, en ▸ c.1, c.2⟩]
      · rw [z_up_ne _ _ e, q_tb_pl n t]
        by_cases c2 : t < n ∧ z_pl D t = 1 ∧ z_bt G t = b
        · rw [if_pos c2, if_pos ⟨by omega, c2.2⟩]
        · rw [if_neg c2, if_neg (fun h => c2 ⟨by omega, h.2⟩)]
    · rw [if_neg c, q_tb_pl n t]
      by_cases c2 : t < n ∧ z_pl D t = 1 ∧ z_bt G t = b
      · rw [if_pos c2, if_pos ⟨by omega, c2.2⟩]
      · rw [if_neg c2, if_neg (fun h => by
          by_cases e : t = n
          · subst e
            exact c ⟨en.trans h.2.1, h.2.2⟩
          · exact c2 ⟨by omega, h.2⟩)]
theorem q_tb_sw : ∀ n, z_sw (z_tb G b D n).2 = z_sw D
  | 0 => rfl
  | n + 1 => by
    rw [z_tb]
    split
    · exact q_tb_sw n
    · exact q_tb_sw n
theorem q_tb_rc : ∀ n, z_rc (z_tb G b D n).2 = z_rc D
  | 0 => rfl
  | n + 1 => by
    rw [z_tb]
    split
    · exact q_tb_rc n
    · exact q_tb_rc n
theorem q_rb_pl (t : Nat) : z_pl (z_rb G b D).2 t = if t < z_tc G ∧ z_pl D t = 1 ∧ z_bt G t = b then 3 else z_pl D t := q_tb_pl (D := z_setrc D b) _ _
theorem q_rb_sw : z_sw (z_rb G b D).2 = z_sw D := q_tb_sw (D := z_setrc D b) _
theorem q_rb_vc : z_vc (z_rb G b D).2 = z_vc D := q_vc_tb (D := z_setrc D b) _
theorem q_rb_rc (u : Nat) : z_rc (z_rb G b D).2 u = (decide (u = b) || z_rc D u) := by
  rw [z_rb, q_tb_rc]
  show va_up (z_rc D) b true u = _
  by_cases e : u = b
  · subst e
    rw [z_up_eq]
    simp
  · rw [z_up_ne _ _ e]
    simp [e]
end QTB
/-! the batches with three lids swelled -/
section QRN
variable {G : z_GG} {D : z_DD}
theorem q_r1_sw (b : Nat) : z_sw (z_r1 G D b) = z_sw D := by
  unfold z_r1
  split
  · exact q_rb_sw
  · rfl
theorem q_rn_sw : ∀ n, z_sw (z_rn G D n) = z_sw D
  | 0 => rfl
  | n + 1 => by rw [z_rn, q_r1_sw, q_rn_sw n]
theorem q_rn_rc : ∀ (n u : Nat), z_rc (z_rn G D n) u = (z_rc D u || (decide (u < n) && decide (3 ≤ z_sw D u)))
  | 0, u => by simp [z_rn]
  | n + 1, u => by
    have en : z_rc (z_rn G D n) n = z_rc D n := by rw [q_rn_rc n n]; simp
    rw [z_rn, z_r1, q_rn_sw]
    by_cases c : z_rc (z_rn G D n) n = false ∧ 3 ≤ z_sw D n
    · rw [if_pos c, q_rb_rc, q_rn_rc n u]
      by_cases e : u = n
      · subst e
        simp [c.2]
      · have h1 : decide (u < n + 1) = decide (u < n) := by
          apply decide_eq_decide.mpr
          omega
        rw [h1]
        simp [e]
    · rw [if_neg c, q_rn_rc n u]
      by_cases e : u = n
      · subst e
        rw [en] at c
        cases hr : z_rc D u
        · have : ¬ 3 ≤ z_sw D u := fun z => c ⟨hr, z⟩
          simp [this]
        · simp
      · have h1 : decide (u < n + 1) = decide (u < n) := by
          apply decide_eq_decide.mpr
          omega
        rw [h1]
theorem q_rn_pl : ∀ (n t : Nat), t < z_tc G → z_pl (z_rn G D n) t = if z_pl D t = 1 ∧ z_bt G t < n ∧ z_rc D (z_bt G t) = false ∧ 3 ≤ z_sw D (z_bt G t) then 3 else z_pl D t
  | 0, t, _ => by
    rw [if_neg (fun h => Nat.not_lt_zero _ h.2.1)]
    rfl
  | n + 1, t, ht => by
    have en : z_rc (z_rn G D n) n = z_rc D n := by rw [q_rn_rc n n]; simp
    have ih := q_rn_pl n t ht
    rw [z_rn, z_r1, q_rn_sw, en]
    by_cases c : z_rc D n = false ∧ 3 ≤ z_sw D n
    · rw [if_pos c, q_rb_pl, ih]
      by_cases e : z_bt G t = n
      · by_cases h1 : z_pl D t = 1
        · rw [if_pos (show z_pl D t = 1 ∧ z_bt G t < n + 1 ∧ z_rc D (z_bt G t) = false ∧ 3 ≤ z_sw D (z_bt G t) from ⟨h1, by omega, e ▸ c.1, e ▸ c.2⟩)]
          rw [if_neg (show ¬ (z_pl D t = 1 ∧ z_bt G t < n ∧ z_rc D (z_bt G t) = false ∧ 3 ≤ z_sw D (z_bt G t)) from fun h => by omega)]
          rw [if_pos ⟨ht, h1, e⟩]
        · have hc : ¬ (z_pl D t = 1 ∧ z_bt G t < n ∧ z_rc D (z_bt G t) = false ∧ 3 ≤ z_sw D (z_bt G t)) := fun h => h1 h.1
          have hc2 : ¬ (z_pl D t = 1 ∧ z_bt G t < n + 1 ∧ z_rc D (z_bt G t) = false ∧ 3 ≤ z_sw D (z_bt G t)) := fun h => h1 h.1
          rw [if_neg hc, if_neg hc2, if_neg (fun h => h1 h.2.1)]
      · rw [if_neg (fun h => e h.2.2)]
        by_cases h1 : z_pl D t = 1 ∧ z_bt G t < n ∧ z_rc D (z_bt G t) = false ∧ 3 ≤ z_sw D (z_bt G t)
        · rw [if_pos h1, if_pos ⟨h1.1, by omega, h1.2.2⟩]
        · rw [if_neg h1, if_neg (fun h => h1 ⟨h.1, by omega, h.2.2⟩)]
    · rw [if_neg c, ih]
      by_cases h1 : z_pl D t = 1 ∧ z_bt G t < n ∧ z_rc D (z_bt G t) = false ∧ 3 ≤ z_sw D (z_bt G t)
      · rw [if_pos h1, if_pos ⟨h1.1, by omega, h1.2.2⟩]
      · rw [if_neg h1, if_neg (fun h => by
          by_cases e : z_bt G t = n
          · exact c ⟨e ▸ h.2.2.1, e ▸ h.2.2.2⟩
          · exact h1 ⟨h.1, by omega, h.2.2⟩)]
end QRN
/-! the lids -/
section QWN
variable {G : z_GG} {D : z_DD}
theorem q_w1_vc (n t : Nat) : z_vc (z_w1 G D n) t = if t = n ∧ z_pl D t = 1 then z_wv G D t else z_vc D t := by
  unfold z_w1
  by_cases c : z_pl D n = 1
  · rw [if_pos c]
    have key : upd (z_vc D) n (z_wv G D n) t = if t = n ∧ z_pl D t = 1 then z_wv G D t else z_vc D t := by
      unfold upd
      by_cases e : t = n
      · subst e
        rw [if_pos rfl, if_pos ⟨rfl, c⟩]
      · rw [if_neg e, if_neg (fun h => e h.1)]
    split
    · exact key
    · exact key
  · rw [if_neg c, if_neg (fun h : t = n ∧ z_pl D t = 1 => c (h.1 ▸ h.2))]
theorem q_w1_pl (n t : Nat) : z_pl (z_w1 G D n) t = if t = n ∧ z_pl D t = 1 ∧ z_wv G D t = 0 then 3 else z_pl D t := by
  unfold z_w1
  by_cases c : z_pl D n = 1
  · rw [if_pos c]
    by_cases c2 : z_wv G D n = 0
    · rw [if_pos c2]
      show va_up (z_pl D) n 3 t = _
      by_cases e : t = n
      · subst e
        rw [z_up_eq, if_pos ⟨rfl, c, c2⟩]
      · rw [z_up_ne _ _ e, if_neg (fun h => e h.1)]
    · rw [if_neg c2, if_neg (fun h : t = n ∧ z_pl D t = 1 ∧ z_wv G D t = 0 => c2 (h.1 ▸ h.2.2))]
      rfl
  · rw [if_neg c, if_neg (fun h : t = n ∧ z_pl D t = 1 ∧ z_wv G D t = 0 => c (h.1 ▸ h.2.1))]
theorem q_w1_rc (n : Nat) : z_rc (z_w1 G D n) = z_rc D := by
  unfold z_w1
  split
  · split <;> rfl
  · rfl
theorem q_wn_far : ∀ (n t : Nat), n ≤ t → z_pl (z_wn G D n) t = z_pl D t ∧ z_vc (z_wn G D n) t = z_vc D t
  | 0, _, _ => ⟨rfl, rfl⟩
  | n + 1, t, h => by
    have ih := q_wn_far n t (by omega)
    rw [z_wn, q_w1_pl, q_w1_vc, if_neg (fun z => by omega), if_neg (fun z => by omega)]
    exact ih
theorem q_wn_vc : ∀ (n t : Nat), z_vc (z_wn G D n) t = if t < n ∧ z_pl D t = 1 then z_wv G D t else z_vc D t
  | 0, t => by
    rw [if_neg (fun h => Nat.not_lt_zero _ h.1)]
    rfl
  | n + 1, t => by
    rw [z_wn, q_w1_vc]
    by_cases e : t = n
    · subst e
      have key := q_wn_far (G := G) (D := D) t t (Nat.le_refl _)
      rw [key.1]
      by_cases c : z_pl D t = 1
      · rw [if_pos ⟨rfl, c⟩, if_pos ⟨by omega, c⟩]
        unfold z_wv
        rw [key.2]
      · rw [if_neg (fun h => c h.2), if_neg (fun h => c h.2), key.2]
    · rw [if_neg (fun h => e h.1), q_wn_vc n t]
      by_cases c : t < n ∧ z_pl D t = 1
      · rw [if_pos c, if_pos ⟨by omega, c.2⟩]
      · rw [if_neg c, if_neg (fun h => c ⟨by omega, h.2⟩)]
theorem q_wn_pl : ∀ (n t : Nat), z_pl (z_wn G D n) t = if t < n ∧ z_pl D t = 1 ∧ z_wv G D t = 0 then 3 else z_pl D t
  | 0, t => by
    rw [if_neg (fun h => Nat.not_lt_zero _ h.1)]
    rfl
  | n + 1, t => by
    rw [z_wn, q_w1_pl]
    by_cases e : t = n
    · subst e
      have k := q_wn_far (G := G) (D := D) t t (Nat.le_refl _)
      have kw : z_wv G (z_wn G D t) t = z_wv G D t := by
        unfold z_wv
        rw [k.2]
      rw [k.1, kw]
      by_cases c : z_pl D t = 1 ∧ z_wv G D t = 0
      · rw [if_pos ⟨rfl, c⟩, if_pos ⟨by omega, c⟩]
      · rw [if_neg (fun h => c h.2), if_neg (fun h => c h.2)]
    · rw [if_neg (fun h => e h.1), q_wn_pl n t]
      by_cases c : t < n ∧ z_pl D t = 1 ∧ z_wv G D t = 0
      · rw [if_pos c, if_pos ⟨by omega, c.2⟩]
      · rw [if_neg c, if_neg (fun h => c ⟨by omega, h.2⟩)]
theorem q_wn_rc : ∀ n, z_rc (z_wn G D n) = z_rc D
  | 0 => rfl
  | n + 1 => by rw [z_wn, q_w1_rc, q_wn_rc n]
/-- the lids that swelled are counted -/
theorem q_w1_sw {n : Nat} (hn : n < z_tc G) (h : ∀ b, z_sw D b = nI (q_nl G D b)) : ∀ b, z_sw (z_w1 G D n) b = nI (q_nl G (z_w1 G D n) b) := by
  intro b
  by_cases c : z_pl D n = 1
  · by_cases c2 : z_wv G D n = 0
    · have ew : z_w1 G D n = z_sl G (z_setvc D n (z_wv G D n)) n := by rw [z_w1, if_pos c, if_pos c2]
      by_cases e : z_bt G n = b
      · have e1 : q_nl G (z_w1 G D n) b = q_nl G D b + 1 := by
          unfold q_nl
          refine q_ct_one hn (fun k _ hk => ?_) ?_ ?_
          · rw [q_w1_pl, q_w1_vc, if_neg (fun z => hk z.1), if_neg (fun z => hk z.1)]
          · rw [c]
            rfl
          · rw [q_w1_pl, q_w1_vc, if_pos ⟨rfl, c, c2⟩, if_pos ⟨rfl, c⟩, c2, e]
            simp
        rw [e1, ew]
        show upd (z_sw D) (z_bt G n) (z_sw D (z_bt G n) + 1) b = _
        rw [e, z_upd_eq, h b]
        exact nI_1 _
      · have e1 : q_nl G (z_w1 G D n) b = q_nl G D b := by
          unfold q_nl
          refine z_ct_cong (fun k _ => ?_)
          by_cases hk : k = n
          · subst hk
            rw [z_bne e]
            simp
          · rw [q_w1_pl, q_w1_vc, if_neg (fun z => hk z.1), if_neg (fun z => hk z.1)]
        rw [e1, ew]
        show upd (z_sw D) (z_bt G n) (z_sw D (z_bt G n) + 1) b = _
        unfold upd
        rw [if_neg (fun z => e z.symm)]
        exact h b
    · have ew : z_w1 G D n = z_setvc D n (z_wv G D n) := by rw [z_w1, if_pos c, if_neg c2]
      have e1 : q_nl G (z_w1 G D n) b = q_nl G D b := by
        unfold q_nl
        refine z_ct_cong (fun k _ => ?_)
        by_cases hk : k = n
        · subst hk
          rw [q_w1_pl, if_neg (fun z => c2 z.2.2), c]
          rfl
        · rw [q_w1_pl, q_w1_vc, if_neg (fun z => hk z.1), if_neg (fun z => hk z.1)]
      rw [e1, ew]
      exact h b
  · have ew : z_w1 G D n = D := by rw [z_w1, if_neg c]
    rw [ew]
    exact h b
theorem q_wn_sw (h : ∀ b, z_sw D b = nI (q_nl G D b)) : ∀ n, n ≤ z_tc G → ∀ b, z_sw (z_wn G D n) b = nI (q_nl G (z_wn G D n) b)
  | 0, _ => h
  | n + 1, hn => q_w1_sw (by omega) (q_wn_sw h n (by omega))
theorem q_w1_swo {n b : Nat} (hb : z_bt G n ≠ b) : z_sw (z_w1 G D n) b = z_sw D b := by
  unfold z_w1
  split
  · split
    · show upd (z_sw D) (z_bt G n) (z_sw D (z_bt G n) + 1) b = _
      unfold upd
      rw [if_neg (fun z => hb z.symm)]
    · rfl
  · rfl
theorem q_wn_swo {b : Nat} (hb : ∀ t, t < z_tc G → z_bt G t ≠ b) : ∀ n, n ≤ z_tc G → z_sw (z_wn G D n) b = z_sw D b
  | 0, _ => rfl
  | n + 1, hn => by rw [z_wn, q_w1_swo (hb n (by omega)), q_wn_swo hb n (by omega)]
end QWN
/-! what is shipped -/
section QSN
variable {G : z_GG} {D : z_DD}
theorem q_sp_pl (k t : Nat) : z_pl (z_sp D k) t = if k = t + 1 then 2 else z_pl D t := by
  cases k with
  | zero =>
    rw [if_neg (by omega)]
    rfl
  | succ n =>
    show va_up (z_pl D) n 2 t = _
    by_cases e : t = n
    · subst e
      rw [z_up_eq, if_pos rfl]
    · rw [z_up_ne _ _ e, if_neg (by omega)]
theorem q_sp_sw : ∀ k, z_sw (z_sp D k) = z_sw D
  | 0 => rfl
  | _ + 1 => rfl
theorem q_sp_rc : ∀ k, z_rc (z_sp D k) = z_rc D
  | 0 => rfl
  | _ + 1 => rfl
theorem q_sn_sw : ∀ n, z_sw (z_sn G D n) = z_sw D
  | 0 => rfl
  | n + 1 => by rw [z_sn, z_s1, q_sp_sw, q_sn_sw n]
theorem q_sn_rc : ∀ n, z_rc (z_sn G D n) = z_rc D
  | 0 => rfl
  | n + 1 => by rw [z_sn, z_s1, q_sp_rc, q_sn_rc n]
/-- shipped ones were in the cellar -/
theorem q_sn_pl : ∀ (n t : Nat), z_pl (z_sn G D n) t = z_pl D t ∨ (z_pl D t = 1 ∧ z_pl (z_sn G D n) t = 2)
  | 0, _ => Or.inl rfl
  | n + 1, t => by
    have ih := q_sn_pl n t
    rw [z_sn, z_s1, q_sp_pl]
    by_cases e : z_fb G (z_sn G D n) (z_od G) (z_tc G) = t + 1
    · rw [if_pos e]
      have h1 := z_fb_pos (G := G) (D := z_sn G D n) (o := z_od G) (n := z_tc G) (by omega)
      rw [e, Nat.add_sub_cancel] at h1
      rcases ih with z | z
      · exact Or.inr ⟨by rw [← z]; exact h1, rfl⟩
      · exact Or.inr ⟨z.1, rfl⟩
    · rw [if_neg e]
      exact ih
end QSN
/-! a day keeps it all -/
theorem q_pl3 {D : z_DD} {G : z_GG} {t : Nat} (hW : z_WD G D) (ht : t < z_tc G) : z_pl D t = 1 ∨ z_pl D t = 2 ∨ z_pl D t = 3 := by
  have := hW t ht
  omega
theorem q_1le {x : Int32} (h : 0 ≤ x) (h2 : ¬ x = 0) : 1 ≤ x := by
  have e0 : (0 : Int32).toInt = 0 := by decide
  have e1 : (1 : Int32).toInt = 1 := by decide
  rw [Int32.le_iff_toInt_le, e0] at h
  rw [Int32.le_iff_toInt_le, e1]
  have : x.toInt ≠ 0 := fun z => h2 (Int32.toInt_inj.mp (z.trans e0.symm))
  omega
theorem q_n0 {x : Int32} (h : 1 ≤ x) : ¬ x = 0 := by
  intro e
  rw [e] at h
  exact absurd h (by decide)
section QDY
variable {G : z_GG} {D : z_DD}
/-- one that isn't in the cellar stays where it is -/
theorem q_day_keep {t : Nat} (ht : t < z_tc G) (h : z_pl D t ≠ 1) : z_pl (z_day G D) t = z_pl D t := by
  have h1 : z_pl (z_wn G D (z_tc G)) t = z_pl D t := by rw [q_wn_pl, if_neg (fun z => h z.2.1)]
  have h2 : z_pl (z_rn G (z_wn G D (z_tc G)) (z_bc G)) t = z_pl D t := by rw [q_rn_pl _ _ ht, if_neg (fun z => h (h1 ▸ z.1)), h1]
  show z_pl (z_sn G (z_rn G (z_wn G D (z_tc G)) (z_bc G)) (z_sd G)) t = _
  rcases q_sn_pl (G := G) (D := z_rn G (z_wn G D (z_tc G)) (z_bc G)) (z_sd G) t with z | z
  · rw [z, h2]
  · exact absurd (h2 ▸ z.1) h
theorem q_day_in {t : Nat} (ht : t < z_tc G) (h : z_pl (z_day G D) t = 1) : z_pl (z_rn G (z_wn G D (z_tc G)) (z_bc G)) t = 1 ∧ z_pl (z_wn G D (z_tc G)) t = 1 ∧ z_pl D t = 1 ∧ ¬ z_wv G D t = 0 := by
  have h : z_pl (z_sn G (z_rn G (z_wn G D (z_tc G)) (z_bc G)) (z_sd G)) t = 1 := h
  have h2 : z_pl (z_rn G (z_wn G D (z_tc G)) (z_bc G)) t = 1 := by
    rcases q_sn_pl (G := G) (D := z_rn G (z_wn G D (z_tc G)) (z_bc G)) (z_sd G) t with z | z
    · rw [← z]; exact h
    · rw [z.2] at h; exact absurd h (by decide)
  have h1 : z_pl (z_wn G D (z_tc G)) t = 1 := by
    have k := h2
    rw [q_rn_pl _ _ ht] at k
    split at k
    · exact absurd k (by decide)
    · exact k
  have k := h1
  rw [q_wn_pl] at k
  split at k
  · exact absurd k (by decide)
  · rename_i c
    exact ⟨h2, h1, k, fun z => c ⟨ht, k, z⟩⟩
theorem q_day_vc {t : Nat} (ht : t < z_tc G) : z_vc (z_day G D) t = if z_pl D t = 1 then z_wv G D t else z_vc D t := by
  rw [q_vc_day, q_wn_vc]
  by_cases c : z_pl D t = 1
  · rw [if_pos ⟨ht, c⟩, if_pos c]
  · rw [if_neg (fun z => c z.2), if_neg c]
theorem q_day_sw : z_sw (z_day G D) = z_sw (z_wn G D (z_tc G)) := by
  show z_sw (z_sn G (z_rn G (z_wn G D (z_tc G)) (z_bc G)) (z_sd G)) = _
  rw [q_sn_sw, q_rn_sw]
theorem q_day_rc (u : Nat) : z_rc (z_day G D) u = (z_rc D u || (decide (u < z_bc G) && decide (3 ≤ z_sw (z_day G D) u))) := by
  rw [q_day_sw]
  show z_rc (z_sn G (z_rn G (z_wn G D (z_tc G)) (z_bc G)) (z_sd G)) u = _
  rw [q_sn_rc, q_rn_rc, q_wn_rc]
theorem q_I_day (h : q_I G D) : q_I G (z_day G D) := by
  obtain ⟨hG, hW, hB, hV, h5, h6, h7, h8, h9, h10⟩ := h
  have hsw0 : ∀ b, z_bc G ≤ b → z_sw (z_day G D) b = 0 := fun b hb => by
    rw [q_day_sw, q_wn_swo (fun t ht z => by have := hB t ht; omega) _ (Nat.le_refl _)]
    exact (h5 b hb).1
  have hVd := q_V_day hG hV
  have halive : ∀ t, t < z_tc G → z_pl (z_wn G D (z_tc G)) t ≠ 3 → 1 ≤ z_vc (z_wn G D (z_tc G)) t := fun t ht hp => by
    rw [q_wn_pl] at hp
    have v := (q_V_wn hG hV _ (Nat.le_refl _) t ht).1
    rw [q_wn_vc] at v ⊢
    by_cases c : z_pl D t = 1
    · rw [if_pos ⟨ht, c⟩] at v ⊢
      exact q_1le v (fun z => hp (if_pos ⟨ht, c, z⟩))
    · rw [if_neg (fun z => c z.2)]
      rw [if_neg (fun z => c z.2.1)] at hp
      exact h7 t ht hp
  have hkeep : ∀ t, t < z_tc G → z_pl (z_wn G D (z_tc G)) t ≠ 1 → z_pl (z_day G D) t = z_pl (z_wn G D (z_tc G)) t := fun t ht hp => by
    have h2 : z_pl (z_rn G (z_wn G D (z_tc G)) (z_bc G)) t = z_pl (z_wn G D (z_tc G)) t := by rw [q_rn_pl _ _ ht, if_neg (fun z => hp z.1)]
    show z_pl (z_sn G (z_rn G (z_wn G D (z_tc G)) (z_bc G)) (z_sd G)) t = _
    rcases q_sn_pl (G := G) (D := z_rn G (z_wn G D (z_tc G)) (z_bc G)) (z_sd G) t with z | z
    · rw [z, h2]
    · exact absurd (h2 ▸ z.1) hp
  refine ⟨hG, z_WD_day hW, hB, hVd, fun b hb => ⟨hsw0 b hb, ?_⟩, h6, fun t ht hp => ?_, fun t ht hp => ?_, fun b hb => ?_, fun b => ?_⟩
  · rw [q_day_rc, (h5 b hb).2]
    simp
    omega
  · rw [q_vc_day]
    refine halive t ht (fun z => hp ?_)
    rw [hkeep t ht (by rw [z]; decide), z]
  · obtain ⟨k2, k1, k0, -⟩ := q_day_in ht hp
    have hr := h8 t ht k0
    rw [q_day_rc, hr, q_day_sw]
    rw [q_rn_pl _ _ ht] at k2
    by_cases c : 3 ≤ z_sw (z_wn G D (z_tc G)) (z_bt G t)
    · rw [if_pos ⟨k1, hB t ht, by rw [q_wn_rc]; exact hr, c⟩] at k2
      exact absurd k2 (by decide)
    · simp [c]
  · rw [q_day_rc]
    by_cases hbb : b < z_bc G
    · simp [hbb, hb]
    · rw [hsw0 b (by omega)] at hb
      exact absurd hb (by decide)
  · rw [q_day_sw, q_wn_sw h10 _ (Nat.le_refl _)]
    congr 1
    unfold q_nl
    refine z_ct_cong (fun k hk => ?_)
    rw [q_vc_day]
    by_cases c : z_pl (z_wn G D (z_tc G)) k = 1
    · have := halive k hk (by rw [c]; decide)
      rw [z_dec_f (q_n0 this)]
      simp
    · rw [hkeep k hk c]
theorem q_I_days (h : q_I G D) : ∀ n, q_I G (z_days G D n)
  | 0 => h
  | n + 1 => q_I_day (q_I_days h n)
theorem q_I_rb {b : Nat} (h : q_I G D) (hbb : b < z_bc G) : q_I G (z_rb G b D).2 := by
  obtain ⟨hG, hW, hB, hV, h5, h6, h7, h8, h9, h10⟩ := h
  refine ⟨hG, z_WD_rb b hW, hB, fun t ht => by rw [q_rb_vc]; exact hV t ht, fun u hu => ⟨by rw [q_rb_sw]; exact (h5 u hu).1, ?_⟩, h6, fun t ht hp => ?_, fun t ht hp => ?_, fun u hu => ?_, fun u => ?_⟩
  · rw [q_rb_rc, (h5 u hu).2, z_dec_f (show ¬ u = b by omega)]
    rfl
  · rw [q_rb_pl] at hp
    rw [q_rb_vc]
    split at hp
    · exact absurd rfl hp
    · exact h7 t ht hp
  · rw [q_rb_pl] at hp
    split at hp
    · exact absurd hp (by decide)
    · rename_i c
      rw [q_rb_rc, h8 t ht hp, z_dec_f (fun z => c ⟨ht, hp, z⟩)]
      rfl
  · rw [q_rb_sw] at hu
    rw [q_rb_rc, h9 u hu]
    simp
  · rw [q_rb_sw, h10 u]
    congr 1
    unfold q_nl
    refine z_ct_cong (fun k hk => ?_)
    rw [q_rb_vc, q_rb_pl]
    by_cases c : z_pl D k = 1
    · have := h7 k hk (by rw [c]; decide)
      rw [z_dec_f (q_n0 this)]
      simp
    · rw [if_neg (fun z => c z.2.1)]
theorem q_I_addb {v k : Int32} (h : q_I G D) (hb : z_bc G < 6) (v1 : 1 ≤ v) (v2 : v ≤ 99) (k1 : 0 ≤ k) (k2 : k ≤ 5) : q_I (z_addb G v k) D := by
  obtain ⟨hG, hW, hB, hV, h5, h6, h7, h8, h9, h10⟩ := h
  refine ⟨z_WG_add hG hb k1 k2, hW, fun t ht => ?_, hV, fun u hu => h5 u ?_, fun u hu => ?_, h7, h8, h9, h10⟩
  · show z_bt G t < z_bc G + 1
    have := hB t ht
    omega
  · have hu : z_bc G + 1 ≤ u := hu
    omega
  · have hu : u < z_bc G + 1 := hu
    show 1 ≤ upd (z_v0 G) (z_bc G) v u ∧ upd (z_v0 G) (z_bc G) v u ≤ 99
    unfold upd
    split
    · exact ⟨v1, v2⟩
    · exact h6 u (by omega)
theorem q_I_setsh {t x : Nat} (h : q_I G D) (hx : x < 4) : q_I (z_setsh G t x) D := by
  obtain ⟨hG, hW, hB, hV, h5, h6, h7, h8, h9, h10⟩ := h
  exact ⟨z_WG_setsh hG hx, hW, hB, hV, h5, h6, h7, h8, h9, h10⟩
theorem q_I_setwm {x : Nat} {w : Int32} (h : q_I G D) (w1 : 0 ≤ w) (w2 : w ≤ 3) : q_I (z_setwm G x w) D := by
  obtain ⟨hG, hW, hB, hV, h5, h6, h7, h8, h9, h10⟩ := h
  exact ⟨z_WG_setwm hG w1 w2, hW, hB, hV, h5, h6, h7, h8, h9, h10⟩
theorem q_I_ship {m o : Nat} (h : q_I G D) (hm : m ≤ 9) (ho : o ≤ 2) : q_I (z_ship G m o) D := by
  obtain ⟨hG, hW, hB, hV, h5, h6, h7, h8, h9, h10⟩ := h
  exact ⟨z_WG_ship hG hm ho, hW, hB, hV, h5, h6, h7, h8, h9, h10⟩
theorem q_I_g1 {b x : Nat} (h : q_I G D) (hb : b < z_bc G) (hx : x < 4) (ht : z_tc G < 60) (hr : z_rc D b = false) : q_I (z_g1 G b x) (z_d1 G D b) := by
  obtain ⟨hG, hW, hB, hV, h5, h6, h7, h8, h9, h10⟩ := h
  have hbc : z_bc G ≤ 6 := hG.2.2.2.2.1
  refine ⟨z_WG_gn hG (by omega) hx 1 (by omega), z_WD_dn (b := b) (x := x) hW 1, fun t ht2 => ?_, fun t ht2 => ?_, h5, h6, fun t ht2 hp => ?_, fun t ht2 hp => ?_, h9, fun u => ?_⟩
  · have ht2 : t < z_tc G + 1 := ht2
    show va_up (z_bt G) (z_tc G) b t < z_bc G
    by_cases e : t = z_tc G
    · rw [e, z_up_eq]; exact hb
    · rw [z_up_ne _ _ e]; exact hB t (by omega)
  · have ht2 : t < z_tc G + 1 := ht2
    show 0 ≤ upd (z_vc D) (z_tc G) (z_v0 G b) t ∧ upd (z_vc D) (z_tc G) (z_v0 G b) t ≤ 99
    unfold upd
    split
    · have := h6 b hb
      refine ⟨?_, this.2⟩
      have h1 := this.1
      rw [Int32.le_iff_toInt_le] at h1 ⊢
      have e0 : (0 : Int32).toInt = 0 := by decide
      have e1 : (1 : Int32).toInt = 1 := by decide
      omega
    · exact hV t (by omega)
  · have ht2 : t < z_tc G + 1 := ht2
    have hp : va_up (z_pl D) (z_tc G) 1 t ≠ 3 := hp
    show 1 ≤ upd (z_vc D) (z_tc G) (z_v0 G b) t
    by_cases e : t = z_tc G
    · rw [e, z_upd_eq]; exact (h6 b hb).1
    · rw [z_up_ne _ _ e] at hp
      unfold upd
      rw [if_neg e]
      exact h7 t (by omega) hp
  · have ht2 : t < z_tc G + 1 := ht2
    have hp : va_up (z_pl D) (z_tc G) 1 t = 1 := hp
    show z_rc D (va_up (z_bt G) (z_tc G) b t) = false
    by_cases e : t = z_tc G
    · rw [e, z_up_eq]; exact hr
    · rw [z_up_ne _ _ e] at hp ⊢
      exact h8 t (by omega) hp
  · show z_sw D u = nI (z_ct (fun t => va_up (z_pl D) (z_tc G) 1 t == 3 && (decide (upd (z_vc D) (z_tc G) (z_v0 G b) t = 0) && va_up (z_bt G) (z_tc G) b t == u)) (z_tc G + 1))
    rw [z_ct_f (by rw [z_up_eq]; rfl), h10 u]
    congr 1
    unfold q_nl
    refine z_ct_cong (fun k hk => ?_)
    rw [z_up_ne _ _ (show k ≠ z_tc G by omega), z_up_ne _ _ (show k ≠ z_tc G by omega)]
    unfold upd
    rw [if_neg (show k ≠ z_tc G by omega)]
theorem q_rc_dn {b x : Nat} : ∀ n, z_rc (z_dn G D b x n) = z_rc D
  | 0 => rfl
  | n + 1 => q_rc_dn n
theorem q_bc_gn {b x : Nat} : ∀ n, z_bc (z_gn G b x n) = z_bc G
  | 0 => rfl
  | n + 1 => q_bc_gn n
theorem q_I_gn {b x : Nat} (h : q_I G D) (hb : b < z_bc G) (hx : x < 4) (hr : z_rc D b = false) : ∀ n, z_tc G + n ≤ 60 → q_I (z_gn G b x n) (z_dn G D b x n)
  | 0, _ => h
  | n + 1, hn => q_I_g1 (q_I_gn h hb hx hr n (by omega)) (by rw [q_bc_gn]; exact hb) hx (by rw [z_tc_gn]; omega) (by rw [q_rc_dn]; exact hr)
end QDY
theorem q_I0 : q_I z_G0 z_D0 := ⟨z_WG0, z_WD0, fun t h => absurd h (Nat.not_lt_zero t), fun t h => absurd h (Nat.not_lt_zero t), fun _ _ => ⟨rfl, rfl⟩, fun b h => absurd h (Nat.not_lt_zero b), fun t h => absurd h (Nat.not_lt_zero t), fun t h => absurd h (Nat.not_lt_zero t), fun b h => absurd h (by show ¬ (3 : Int32) ≤ 0; decide), fun _ => (by decide : (0 : Int32) = nI 0)⟩
