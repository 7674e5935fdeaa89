/-! WHAT THE LAW ASKS, in pure terms -/
section QPR
variable {G : z_GG} {D : z_DD}
theorem q_lt_irr {x : Int32} : ¬ x < x := by
  rw [Int32.lt_iff_toInt_lt]
  omega
theorem q_ltt {x y z : Int32} (h : x < y) (h2 : y < z) : x < z := by
  rw [Int32.lt_iff_toInt_lt] at *
  omega
theorem q_ky_inj {o t u : Nat} (h : q_I G D) (ho : o < 3) (ht : t < z_tc G) (hu : u < z_tc G) (e : z_ky G D o t = z_ky G D o u) : t = u := by
  obtain ⟨hG, hW, hB, hV, -⟩ := h
  have htc : z_tc G ≤ 60 := hG.2.2.2.2.2.1
  have e := congrArg Int32.toInt e
  have h3 : o = 0 ∨ o = 1 ∨ o = 2 := by omega
  rcases h3 with q | q | q <;> subst q
  · rw [q_ky0 hG ht, q_ky0 hG hu] at e
    omega
  · rw [q_ky1 hG hV ht, q_ky1 hG hV hu] at e
    omega
  · rw [q_ky2 hG ht, q_ky2 hG hu] at e
    omega
theorem q_ky_tri {o t u : Nat} (h : q_I G D) (ho : o < 3) (ht : t < z_tc G) (hu : u < z_tc G) (hne : t ≠ u) : z_ky G D o t < z_ky G D o u ∨ z_ky G D o u < z_ky G D o t := by
  have hk : ¬ z_ky G D o t = z_ky G D o u := fun e => hne (q_ky_inj h ho ht hu e)
  have hk2 : (z_ky G D o t).toInt ≠ (z_ky G D o u).toInt := fun e => hk (Int32.toInt_inj.mp e)
  rw [Int32.lt_iff_toInt_lt, Int32.lt_iff_toInt_lt]
  omega
theorem q_ah_lt {o t : Nat} (ht : t < z_tc G) (hp : z_pl D t = 1) : z_ah G D o t < z_cn G D 1 := by
  unfold z_ah z_cn
  refine q_ct_lt ht (fun k _ hk => ?_) ?_ ?_
  · exact (Bool.and_eq_true _ _ |>.mp hk).1
  · unfold z_ap
    rw [z_dec_f q_lt_irr]
    simp
  · exact z_beq hp
theorem q_ah_mono {o t u : Nat} (ht : t < z_tc G) (hp : z_pl D t = 1) (hk : z_ky G D o t < z_ky G D o u) : z_ah G D o t < z_ah G D o u := by
  unfold z_ah
  refine q_ct_lt ht (fun k _ h => ?_) ?_ ?_
  · unfold z_ap at h ⊢
    obtain ⟨h1, h2⟩ := Bool.and_eq_true _ _ |>.mp h
    exact z_and_t h1 (z_dec_t (q_ltt (of_decide_eq_true h2) hk))
  · unfold z_ap
    rw [z_dec_f q_lt_irr]
    simp
  · unfold z_ap
    exact z_and_t (z_beq hp) (z_dec_t hk)
theorem q_ah_inj {o t u : Nat} (h : q_I G D) (ho : o < 3) (ht : t < z_tc G) (hu : u < z_tc G) (hp : z_pl D t = 1) (hq : z_pl D u = 1) (e : z_ah G D o t = z_ah G D o u) : t = u := by
  by_cases hne : t = u
  · exact hne
  · rcases q_ky_tri h ho ht hu hne with z | z
    · have := q_ah_mono (G := G) (D := D) ht hp z
      omega
    · have := q_ah_mono (G := G) (D := D) hu hq z
      omega
/-- the first by an order -/
theorem q_fb_0 {o : Nat} : ∀ {n : Nat}, z_fb G D o n = 0 → ∀ u, u < n → ¬ z_pl D u = 1
  | 0, _, u, hu => absurd hu (Nat.not_lt_zero u)
  | n + 1, h, u, hu => by
    rw [z_fb] at h
    split at h
    · omega
    · rename_i c
      by_cases e : u = n
      · subst e
        exact fun hp => c ⟨hp, Or.inl h⟩
      · exact q_fb_0 h u (by omega)
theorem q_fb_min {o : Nat} : ∀ {n k : Nat}, z_fb G D o n = k + 1 → k < n ∧ z_pl D k = 1 ∧ ∀ u, u < n → z_pl D u = 1 → ¬ z_ky G D o u < z_ky G D o k
  | 0, k, h => absurd h (by show ¬ (0 = k + 1); omega)
  | n + 1, k, h => by
    rw [z_fb] at h
    split at h
    · rename_i c
      have e : k = n := by omega
      subst e
      refine ⟨by omega, c.1, fun u hu hp => ?_⟩
      by_cases e : u = k
      · subst e
        exact q_lt_irr
      · rcases c.2 with z | z
        · exact absurd hp (q_fb_0 z u (by omega))
        · intro hlt
          have hpos : 0 < z_fb G D o k := by
            by_cases q : z_fb G D o k = 0
            · exact absurd hp (q_fb_0 q u (by omega))
            · omega
          obtain ⟨m, hm⟩ : ∃ m, z_fb G D o k = m + 1 := ⟨z_fb G D o k - 1, by omega⟩
          have ih := q_fb_min hm
          rw [hm, Nat.add_sub_cancel] at z
          exact ih.2.2 u (by omega) hp (q_ltt hlt z)
    · rename_i c
      have ih := q_fb_min h
      refine ⟨by omega, ih.2.1, fun u hu hp => ?_⟩
      by_cases e : u = n
      · subst e
        intro hlt
        refine c ⟨hp, Or.inr ?_⟩
        rw [h, Nat.add_sub_cancel]
        exact hlt
      · exact ih.2.2 u (by omega) hp
theorem q_first {o t : Nat} (h : q_I G D) (ho : o < 3) (ht : t < z_tc G) (hp : z_pl D t = 1) : z_ah G D o t = 0 ↔ z_oi (z_fb G D o (z_tc G)) = nI t := by
  have htc : z_tc G ≤ 60 := h.1.2.2.2.2.2.1
  cases hf : z_fb G D o (z_tc G) with
  | zero => exact absurd hp (q_fb_0 hf t ht)
  | succ k =>
    obtain ⟨hk1, hk2, hk3⟩ := q_fb_min hf
    show z_ah G D o t = 0 ↔ nI k = nI t
    constructor
    · intro e
      by_cases hne : k = t
      · rw [hne]
      · rcases q_ky_tri h ho hk1 ht hne with z | z
        · have := q_ah_mono (G := G) (D := D) hk1 hk2 z
          omega
        · exact absurd z (hk3 t ht hp)
    · intro e
      have e := z_eq (by omega) (by omega) e
      subst e
      unfold z_ah
      refine q_ct_0.mpr (fun u hu => ?_)
      unfold z_ap
      by_cases hq : z_pl D u = 1
      · rw [z_dec_f (hk3 u hu hq)]
        simp
      · rw [z_bne hq]
        rfl
/-- the places that are taken -/
def q_ws (G : z_GG) (D : z_DD) (o : Nat) : Nat → Nat → Bool
  | 0 => fun _ => false
  | i + 1 => if z_pl D i = 1 then va_up (q_ws G D o i) (z_ah G D o i) true else q_ws G D o i
theorem q_ws_s {o i : Nat} (hp : z_pl D i = 1) : va_up (q_ws G D o i) (z_ah G D o i) true = q_ws G D o (i + 1) := (if_pos hp).symm
theorem q_ws_n {o i : Nat} (hp : ¬ z_pl D i = 1) : q_ws G D o i = q_ws G D o (i + 1) := (if_neg hp).symm
theorem q_ws_t {o : Nat} : ∀ {i j : Nat}, q_ws G D o i j = true → ∃ u, u < i ∧ z_pl D u = 1 ∧ z_ah G D o u = j
  | 0, j, h => absurd h (by show ¬ (false = true); decide)
  | i + 1, j, h => by
    rw [q_ws] at h
    split at h
    · rename_i c
      by_cases e : j = z_ah G D o i
      · exact ⟨i, by omega, c, e.symm⟩
      · rw [z_up_ne _ _ e] at h
        obtain ⟨u, h1, h2⟩ := q_ws_t h
        exact ⟨u, by omega, h2⟩
    · obtain ⟨u, h1, h2⟩ := q_ws_t h
      exact ⟨u, by omega, h2⟩
theorem q_ws_f {o i : Nat} (h : q_I G D) (ho : o < 3) (hi : i < z_tc G) (hp : z_pl D i = 1) : q_ws G D o i (z_ah G D o i) = false := by
  cases hq : q_ws G D o i (z_ah G D o i) with
  | false => rfl
  | true =>
    obtain ⟨u, h1, h2, h3⟩ := q_ws_t hq
    have := q_ah_inj h ho (by omega) hi h2 hp h3
    omega
/-! in how many days -/
theorem q_divI {x y : Int32} (hx : 0 ≤ x.toInt) (hy : 0 < y.toInt) (hy2 : y.toInt ≤ 8) (hx2 : x.toInt ≤ 200) : (x / y).toInt = x.toInt / y.toInt := by
  rw [Int32.toInt_div, Int.tdiv_eq_ediv_of_nonneg hx]
  refine z_bmod ?_ ?_
  · have := Int.ediv_nonneg hx (Int.le_of_lt hy)
    omega
  · have := Int.ediv_le_self (b := y.toInt) hx
    omega
theorem q_un_i {t s : Nat} (h : q_I G D) (ht : t < z_tc G) (hr : ¬ z_rt G t s = 0) : (z_un G D t s).toInt = ((z_vc D t).toInt + (z_rt G t s).toInt - 1) / (z_rt G t s).toInt ∧ 0 < (z_rt G t s).toInt := by
  obtain ⟨hG, hW, hB, hV, -⟩ := h
  have hv := q_b99 (hV t ht)
  have hb := q_rt_b hG t s
  have e0 : (0 : Int32).toInt = 0 := by decide
  have e1 : (1 : Int32).toInt = 1 := by decide
  have hpos : 0 < (z_rt G t s).toInt := by
    have : (z_rt G t s).toInt ≠ 0 := fun z => hr (Int32.toInt_inj.mp (z.trans e0.symm))
    omega
  have s1 : (z_vc D t + z_rt G t s).toInt = (z_vc D t).toInt + (z_rt G t s).toInt := z_addI (by omega) (by omega)
  have s2 : (z_vc D t + z_rt G t s - 1).toInt = (z_vc D t).toInt + (z_rt G t s).toInt - 1 := by rw [q_subI (by rw [s1, e1]; omega) (by rw [s1, e1]; omega), s1, e1]
  refine ⟨?_, hpos⟩
  rw [z_un, if_neg hr, q_divI (by rw [s2]; omega) hpos hb.2 (by rw [s2]; omega), s2]
theorem q_vc1 {t : Nat} (h : q_I G D) (ht : t < z_tc G) (hp : z_pl D t = 1) : 1 ≤ (z_vc D t).toInt ∧ (z_vc D t).toInt ≤ 99 := by
  have h1 := h.2.2.2.2.2.2.1 t ht (by rw [hp]; decide)
  have h2 := q_b99 (h.2.2.2.1 t ht)
  rw [Int32.le_iff_toInt_le] at h1
  have e1 : (1 : Int32).toInt = 1 := by decide
  omega
/-- the class's number of days, and the one counted day by day -/
theorem q_un_dm {t s : Nat} (h : q_I G D) (ht : t < z_tc G) (hp : z_pl D t = 1) : (z_rt G t s = 0 ∧ q_dm (z_vc D t) (z_rt G t s) = 999) ∨ (¬ z_rt G t s = 0 ∧ (z_un G D t s).toInt = (q_dm (z_vc D t) (z_rt G t s) : Int) ∧ 1 ≤ q_dm (z_vc D t) (z_rt G t s) ∧ q_dm (z_vc D t) (z_rt G t s) ≤ 99) := by
  have hv := q_vc1 h ht hp
  have hb := q_rt_b h.1 t s
  by_cases hr : z_rt G t s = 0
  · refine Or.inl ⟨hr, ?_⟩
    rw [q_dm, if_neg (by omega), if_pos (by rw [hr]; decide)]
  · obtain ⟨e, hpos⟩ := q_un_i h ht hr
    refine Or.inr ⟨hr, ?_⟩
    rw [e, q_dm, if_neg (by omega), if_neg (by omega)]
    rcases q_r8 hb with z | z | z | z | z | z | z | z | z <;> first | (exfalso; omega) | (rw [z]; omega)
/-- later, by the class's numbers and by the others -/
theorem q_il {t s u : Nat} (h : q_I G D) (ht : t < z_tc G) (hp : z_pl D t = 1) : z_il (z_un G D t s) (z_un G D t u) = true ↔ q_dm (z_vc D t) (z_rt G t u) < q_dm (z_vc D t) (z_rt G t s) := by
  have em : (-1 : Int32).toInt = -1 := by decide
  have un0 : ∀ v, z_rt G t v = 0 → z_un G D t v = -1 := fun v z => by rw [z_un, if_pos z]
  have unp : ∀ v, (z_un G D t v).toInt = (q_dm (z_vc D t) (z_rt G t v) : Int) → ¬ z_un G D t v = -1 := fun v z e => by
    rw [e, em] at z
    omega
  unfold z_il
  rw [Bool.and_eq_true, Bool.or_eq_true, decide_eq_true_iff, decide_eq_true_iff, decide_eq_true_iff]
  rcases q_un_dm (s := s) h ht hp with a | a <;> rcases q_un_dm (s := u) h ht hp with b | b
  · rw [un0 s a.1, un0 u b.1, a.2, b.2]
    exact ⟨fun z => absurd rfl z.1, fun z => absurd z (by omega)⟩
  · have n1 := unp u b.2.1
    rw [un0 s a.1, a.2]
    exact ⟨fun _ => by omega, fun _ => ⟨n1, Or.inl rfl⟩⟩
  · rw [un0 u b.1, b.2]
    exact ⟨fun z => absurd rfl z.1, fun z => absurd z (by omega)⟩
  · have n1 := unp u b.2.1
    have n2 := unp s a.2.1
    rw [Int32.lt_iff_toInt_lt, a.2.1, b.2.1]
    constructor
    · rintro ⟨-, z | z⟩
      · exact absurd z n2
      · omega
    · intro z
      exact ⟨n1, Or.inr (by omega)⟩
theorem q_bsn {t : Nat} (h : q_I G D) (ht : t < z_tc G) (hp : z_pl D t = 1) : ∀ (n k : Nat), k ≤ n → q_dm (z_vc D t) (z_rt G t k) ≤ q_dm (z_vc D t) (z_rt G t (z_bsn G D t n)) ∧ (q_dm (z_vc D t) (z_rt G t k) = q_dm (z_vc D t) (z_rt G t (z_bsn G D t n)) → z_bsn G D t n ≤ k)
  | 0, k, hk => by
    have : k = 0 := by omega
    subst this
    exact ⟨Nat.le_refl _, fun _ => Nat.le_refl _⟩
  | n + 1, k, hk => by
    have le := z_bsn_le G D t n
    rw [z_bsn]
    by_cases c : z_il (z_un G D t (n + 1)) (z_un G D t (z_bsn G D t n)) = true
    · have c2 := (q_il h ht hp).mp c
      rw [if_pos c]
      by_cases e : k = n + 1
      · subst e
        exact ⟨Nat.le_refl _, fun _ => Nat.le_refl _⟩
      · have ih := q_bsn h ht hp n k (by omega)
        exact ⟨by omega, fun z => absurd z (by omega)⟩
    · have c2 : ¬ q_dm (z_vc D t) (z_rt G t (z_bsn G D t n)) < q_dm (z_vc D t) (z_rt G t (n + 1)) := fun z => c ((q_il h ht hp).mpr z)
      rw [if_neg c]
      by_cases e : k = n + 1
      · subst e
        exact ⟨by omega, fun _ => by omega⟩
      · exact q_bsn h ht hp n k (by omega)
/-- what swells does so on the day that was told -/
theorem q_un1 {t : Nat} (h : q_I G D) (ht : t < z_tc G) (hp : z_pl D t = 1) : z_un G D t (z_sh G t) = 1 ↔ z_wv G D t = 0 := by
  have hv := q_vc1 h ht hp
  have hb := q_rt_b h.1 t (z_sh G t)
  have e0 : (0 : Int32).toInt = 0 := by decide
  have e1 : (1 : Int32).toInt = 1 := by decide
  have hw : z_wv G D t = 0 ↔ (z_vc D t).toInt - (z_rt G t (z_sh G t)).toInt ≤ 0 := by
    rw [← Int32.toInt_inj, e0, q_wv_i h.1 (h.2.2.2.1 t ht)]
    split <;> omega
  rw [hw]
  by_cases hr : z_rt G t (z_sh G t) = 0
  · rw [z_un, if_pos hr, hr, e0]
    exact ⟨fun z => absurd z (by decide), fun z => absurd z (by omega)⟩
  · obtain ⟨e, hpos⟩ := q_un_i h ht hr
    rw [← Int32.toInt_inj, e1, e]
    rcases q_r8 hb with z | z | z | z | z | z | z | z | z <;> first | (exfalso; omega) | (rw [z]; omega)
/-! batches, sums -/
theorem q_lf0 {b : Nat} (h : q_I G D) (hr : z_rc D b = true) : z_lf G D b = 0 := by
  obtain ⟨-, -, -, -, -, -, -, h8, -⟩ := h
  unfold z_lf
  refine q_ct_0.mpr (fun t ht => ?_)
  by_cases hp : z_pl D t = 1
  · have := h8 t ht hp
    refine z_and_f2 (z_bne (fun e => ?_))
    rw [e, hr] at this
    exact absurd this (by decide)
  · exact z_and_f1 (z_bne hp)
theorem q_urn {b : Nat} : ∀ r, r ≤ 60 → ¬ z_urn G D b r = 0
  | 0, _ => by show ¬ ((-1 : Int32) = 0); decide
  | r + 1, h => by
    rw [z_urn]
    split
    · intro e
      have := z_eq (a := 60 - r) (b := 0) (by omega) (by decide) e
      omega
    · exact q_urn r (by omega)
theorem q_ct_add {p q r : Nat → Bool} : ∀ {n : Nat}, (∀ k, k < n → r k = (p k || q k) ∧ (p k && q k) = false) → z_ct r n = z_ct p n + z_ct q n
  | 0, _ => rfl
  | n + 1, h => by
    have ih := q_ct_add (p := p) (q := q) (r := r) (n := n) (fun k hk => h k (by omega))
    obtain ⟨h1, h2⟩ := h n (by omega)
    rw [z_ct, z_ct, z_ct, ih, h1]
    cases hp : p n <;> cases hq : q n <;> rw [hp, hq] at h2 <;> simp at h2 ⊢ <;> omega
def q_ns (G : z_GG) (D : z_DD) (n : Nat) : Nat := z_ct (fun t => z_pl D t == 3 && (decide (z_vc D t = 0) && decide (z_bt G t < n))) (z_tc G)
theorem q_ns_s (n : Nat) : q_ns G D (n + 1) = q_ns G D n + q_nl G D n := by
  unfold q_ns q_nl
  refine q_ct_add (fun k _ => ?_)
  by_cases e : z_bt G k = n
  · rw [e]
    simp
  · have h1 : decide (z_bt G k < n + 1) = decide (z_bt G k < n) := by
      apply decide_eq_decide.mpr
      omega
    rw [h1, z_bne e]
    simp
theorem q_sum (h : q_I G D) : ∀ n, z_sum (z_sw D) n = nI (q_ns G D n)
  | 0 => by
    have : q_ns G D 0 = 0 := by
      unfold q_ns
      refine q_ct_0.mpr (fun k _ => ?_)
      simp
    rw [this]
    rfl
  | n + 1 => by
    rw [z_sum, q_sum h n, h.2.2.2.2.2.2.2.2.2 n, nI_add, q_ns_s]
theorem q_ns_le (n : Nat) : q_ns G D n ≤ z_cn G D 3 := by
  unfold q_ns z_cn
  exact q_ct_le (fun k _ hk => (Bool.and_eq_true _ _ |>.mp hk).1)
theorem q_cn_le (x : Nat) : z_cn G D x ≤ z_tc G := z_ct_le _ _
theorem q_cn3 (hW : z_WD G D) : z_cn G D 1 + z_cn G D 2 + z_cn G D 3 = z_tc G := by
  unfold z_cn
  have key : ∀ n, n ≤ z_tc G → z_ct (fun t => z_pl D t == 1) n + z_ct (fun t => z_pl D t == 2) n + z_ct (fun t => z_pl D t == 3) n = n := by
    intro n
    induction n with
    | zero => intro _; rfl
    | succ n ih =>
      intro hn
      have ih := ih (by omega)
      have hw := hW n (by omega)
      rw [z_ct, z_ct, z_ct]
      rcases (show z_pl D n = 1 ∨ z_pl D n = 2 ∨ z_pl D n = 3 by omega) with e | e | e <;> rw [e] <;> simp <;> omega
  exact key _ (Nat.le_refl _)
/-! the best order, the shipping that is wanted -/
theorem q_bon : ∀ n, (z_bon G D n).2 = z_ls G D (z_sd G) (z_bon G D n).1 ∧ (z_bon G D n).1 ≤ n ∧ ∀ k, k ≤ n → (z_bon G D n).2 ≤ z_ls G D (z_sd G) k ∧ (z_ls G D (z_sd G) k = (z_bon G D n).2 → (z_bon G D n).1 ≤ k)
  | 0 => ⟨rfl, Nat.le_refl 0, fun k hk => by
    have : k = 0 := by omega
    subst this
    exact ⟨by show z_ls G D (z_sd G) 0 ≤ _; rw [Int32.le_iff_toInt_le]; omega, fun _ => Nat.le_refl 0⟩⟩
  | n + 1 => by
    obtain ⟨h1, h2, h3⟩ := q_bon n
    rw [z_bon]
    by_cases c : z_ls G D (z_sd G) (n + 1) < (z_bon G D n).2
    · rw [if_pos c]
      refine ⟨rfl, Nat.le_refl _, fun k hk => ?_⟩
      show z_ls G D (z_sd G) (n + 1) ≤ z_ls G D (z_sd G) k ∧ (z_ls G D (z_sd G) k = z_ls G D (z_sd G) (n + 1) → n + 1 ≤ k)
      by_cases e : k = n + 1
      · subst e
        exact ⟨by rw [Int32.le_iff_toInt_le]; omega, fun _ => Nat.le_refl _⟩
      · have := (h3 k (by omega)).1
        rw [Int32.le_iff_toInt_le] at this ⊢
        rw [Int32.lt_iff_toInt_lt] at c
        refine ⟨by omega, fun z => ?_⟩
        rw [z] at this
        omega
    · rw [if_neg c]
      refine ⟨h1, by omega, fun k hk => ?_⟩
      by_cases e : k = n + 1
      · subst e
        exact ⟨z_i32_le c, fun _ => by omega⟩
      · exact h3 k (by omega)
theorem q_bo {k : Nat} (hk : k < 3) : z_ls G D (z_sd G) (z_bo G D) ≤ z_ls G D (z_sd G) k ∧ (z_ls G D (z_sd G) (z_bo G D) = z_ls G D (z_sd G) k → z_bo G D ≤ k) := by
  obtain ⟨h1, -, h3⟩ := q_bon (G := G) (D := D) 2
  have := h3 k (by omega)
  unfold z_bo
  rw [← h1]
  exact ⟨this.1, fun z => this.2 z.symm⟩
theorem q_bo_lt : z_bo G D < 3 := by
  have := (q_bon (G := G) (D := D) 2).2.1
  unfold z_bo
  omega
theorem q_wtn : ∀ r, r ≤ 10 → (z_wtn G D r = -1 ∧ ∀ m, 10 - r ≤ m → m ≤ 9 → ¬ z_ls G D m (z_od G) = 0) ∨ ∃ k, 10 - r ≤ k ∧ k ≤ 9 ∧ z_wtn G D r = nI k ∧ z_ls G D k (z_od G) = 0 ∧ ∀ m, 10 - r ≤ m → m < k → ¬ z_ls G D m (z_od G) = 0
  | 0, _ => Or.inl ⟨rfl, fun m h1 h2 => by omega⟩
  | r + 1, h => by
    rw [z_wtn]
    by_cases c : z_ls G D (9 - r) (z_od G) = 0
    · rw [if_pos c]
      exact Or.inr ⟨9 - r, by omega, by omega, rfl, c, fun m h1 h2 => by omega⟩
    · rw [if_neg c]
      rcases q_wtn r (by omega) with z | ⟨k, h1, h2, h3, h4, h5⟩
      · refine Or.inl ⟨z.1, fun m h1 h2 => ?_⟩
        by_cases e : m = 9 - r
        · rw [e]; exact c
        · exact z.2 m (by omega) h2
      · refine Or.inr ⟨k, by omega, h2, h3, h4, fun m h6 h7 => ?_⟩
        by_cases e : m = 9 - r
        · rw [e]; exact c
        · exact h5 m (by omega) h7
theorem q_wt : (z_wt G D = -1 ∧ ¬ z_ls G D 9 (z_od G) = 0) ∨ ∃ k, k ≤ 9 ∧ z_wt G D = nI k ∧ z_ls G D k (z_od G) = 0 ∧ ∀ m, m < k → ¬ z_ls G D m (z_od G) = 0 := by
  rcases q_wtn (G := G) (D := D) 10 (Nat.le_refl _) with z | ⟨k, -, h2, h3, h4, h5⟩
  · exact Or.inl ⟨z.1, z.2 9 (by omega) (by omega)⟩
  · exact Or.inr ⟨k, h2, h3, h4, fun m hm => h5 m (by omega) hm⟩
/-! what a day does: counts, order -/
theorem q_cn_mono {D2 : z_DD} {x : Nat} (h : ∀ t, t < z_tc G → z_pl D t = x → z_pl D2 t = x) : z_cn G D x ≤ z_cn G D2 x := q_ct_le (fun k hk hp => z_beq (h k hk (z_beq' hp)))
theorem q_cn3_day (_ : z_WD G D) : z_cn G D 3 ≤ z_cn G (z_day G D) 3 := q_cn_mono (fun t ht hp => by rw [q_day_keep ht (by rw [hp]; decide), hp])
theorem q_cn3_days (hW : z_WD G D) : ∀ n, z_cn G (z_day G D) 3 ≤ z_cn G (z_days G D (n + 1)) 3
  | 0 => Nat.le_refl _
  | n + 1 => Nat.le_trans (q_cn3_days hW n) (q_cn3_day (z_WD_days hW (n + 1)))
theorem q_soon (h : q_I G D) : nI (z_cn G (z_day G D) 3) - nI (z_cn G D 3) ≤ z_ls G D (z_sd G) (z_od G) := by
  have htc : z_tc G ≤ 60 := h.1.2.2.2.2.2.1
  have a1 := q_cn_le (G := G) (D := D) 3
  have a2 := q_cn_le (G := G) (D := z_day G D) 3
  have a3 := q_cn_le (G := G) (D := z_days G D 30) 3
  have m1 := q_cn3_day h.2.1
  have m2 := q_cn3_days h.2.1 29
  have es : z_ls G D (z_sd G) (z_od G) = nI (z_cn G (z_days G D 30) 3) - nI (z_cn G D 3) := rfl
  have i1 : (nI (z_cn G D 3)).toInt = (z_cn G D 3 : Int) := nI_toInt (by omega)
  have i2 : (nI (z_cn G (z_day G D) 3)).toInt = (z_cn G (z_day G D) 3 : Int) := nI_toInt (by omega)
  have i3 : (nI (z_cn G (z_days G D 30) 3)).toInt = (z_cn G (z_days G D 30) 3 : Int) := nI_toInt (by omega)
  have m2 : z_cn G (z_day G D) 3 ≤ z_cn G (z_days G D 30) 3 := m2
  rw [es, Int32.le_iff_toInt_le, q_subI (by rw [i1, i2]; omega) (by rw [i1, i2]; omega), q_subI (by rw [i1, i3]; omega) (by rw [i1, i3]; omega), i1, i2, i3]
  omega
theorem q_s1_cn {D2 : z_DD} {k : Nat} (hf : z_fb G D2 (z_od G) (z_tc G) = k + 1) : z_cn G (z_s1 G D2) 2 = z_cn G D2 2 + 1 := by
  obtain ⟨h1, h2, -⟩ := q_fb_min hf
  unfold z_cn
  refine q_ct_one h1 (fun u _ hu => ?_) ?_ ?_
  · rw [z_s1, q_sp_pl, hf, if_neg (by omega)]
  · rw [h2]
    rfl
  · rw [z_s1, q_sp_pl, hf, if_pos rfl]
    rfl
theorem q_sn_cn {D2 : z_DD} : ∀ n, z_cn G D2 2 ≤ z_cn G (z_sn G D2 n) 2 ∧ z_cn G (z_sn G D2 n) 2 ≤ z_cn G D2 2 + n ∧ (z_cn G (z_sn G D2 n) 2 < z_cn G D2 2 + n → z_cn G (z_sn G D2 n) 1 = 0)
  | 0 => ⟨Nat.le_refl _, Nat.le_refl _, fun h => absurd h (by show ¬ (z_cn G D2 2 < z_cn G D2 2 + 0); omega)⟩
  | n + 1 => by
    obtain ⟨h1, h2, h3⟩ := q_sn_cn (D2 := D2) n
    cases hf : z_fb G (z_sn G D2 n) (z_od G) (z_tc G) with
    | zero =>
      have e : z_sn G D2 (n + 1) = z_sn G D2 n := by rw [z_sn, z_s1, hf]; rfl
      rw [e]
      refine ⟨h1, by omega, fun _ => ?_⟩
      unfold z_cn
      exact q_ct_0.mpr (fun u hu => z_bne (q_fb_0 hf u hu))
    | succ k =>
      have e : z_cn G (z_sn G D2 (n + 1)) 2 = z_cn G (z_sn G D2 n) 2 + 1 := q_s1_cn hf
      obtain ⟨k1, k2, -⟩ := q_fb_min hf
      rw [e]
      refine ⟨by omega, by omega, fun z => ?_⟩
      have h0 := h3 (by omega)
      unfold z_cn at h0
      have := q_ct_0.mp h0 k k1
      rw [k2] at this
      exact absurd this (by decide)
theorem q_day_cn2 (_ : z_WD G D) : z_cn G (z_rn G (z_wn G D (z_tc G)) (z_bc G)) 2 = z_cn G D 2 := by
  unfold z_cn
  refine z_ct_cong (fun t ht => ?_)
  rw [q_rn_pl _ _ ht]
  have hw := q_wn_pl (G := G) (D := D) (z_tc G) t
  by_cases c : z_pl D t = 1
  · by_cases c2 : z_wv G D t = 0
    · rw [if_pos ⟨ht, c, c2⟩] at hw
      rw [hw, c]
      split <;> rfl
    · rw [if_neg (fun z => c2 z.2.2)] at hw
      rw [hw, c]
      split <;> rfl
  · rw [if_neg (fun z => c z.2.1)] at hw
    rw [hw, if_neg (fun z => c z.1)]
theorem q_went (h : q_I G D) : z_cn G D 2 ≤ z_cn G (z_day G D) 2 ∧ z_cn G (z_day G D) 2 ≤ z_cn G D 2 + z_sd G ∧ (z_cn G (z_day G D) 2 < z_cn G D 2 + z_sd G → z_cn G (z_day G D) 1 = 0) := by
  have k := q_sn_cn (G := G) (D2 := z_rn G (z_wn G D (z_tc G)) (z_bc G)) (z_sd G)
  rw [q_day_cn2 h.2.1] at k
  exact k
theorem q_wentI (h : q_I G D) : nI (z_cn G (z_day G D) 2) - nI (z_cn G D 2) = nI (z_cn G (z_day G D) 2 - z_cn G D 2) := by
  have k := q_went h
  have htc : z_tc G ≤ 60 := h.1.2.2.2.2.2.1
  have a1 := q_cn_le (G := G) (D := z_day G D) 2
  exact pk_sub k.1
/-- those that were first are shipped -/
theorem q_ky_eq {D2 : z_DD} {o t : Nat} (h : z_vc D2 = z_vc D) : z_ky G D2 o t = z_ky G D o t := by
  unfold z_ky
  rw [h]
theorem q_sn_first {D2 : z_DD} (hk : ∀ t u, t < z_tc G → u < z_tc G → t ≠ u → z_ky G D2 (z_od G) t < z_ky G D2 (z_od G) u ∨ z_ky G D2 (z_od G) u < z_ky G D2 (z_od G) t) : ∀ (n t u : Nat), t < z_tc G → u < z_tc G → z_pl D2 t = 1 → z_pl (z_sn G D2 n) t = 2 → z_pl (z_sn G D2 n) u = 1 → z_ky G D2 (z_od G) t < z_ky G D2 (z_od G) u
  | 0, t, u, _, _, h1, h2, _ => by
    have h2 : z_pl D2 t = 2 := h2
    rw [h1] at h2
    exact absurd h2 (by decide)
  | n + 1, t, u, ht, hu, h1, h2, h3 => by
    have ih := q_sn_first hk n t u ht hu h1
    cases hf : z_fb G (z_sn G D2 n) (z_od G) (z_tc G) with
    | zero =>
      have e : z_sn G D2 (n + 1) = z_sn G D2 n := by rw [z_sn, z_s1, hf]; rfl
      rw [e] at h2 h3
      exact ih h2 h3
    | succ k =>
      obtain ⟨k1, k2, k3⟩ := q_fb_min hf
      rw [z_sn, z_s1, q_sp_pl, hf] at h2 h3
      by_cases e2 : k + 1 = u + 1
      · rw [if_pos e2] at h3
        exact absurd h3 (by decide)
      · rw [if_neg e2] at h3
        by_cases e : k + 1 = t + 1
        · have ek : k = t := by omega
          subst ek
          have nlt := k3 u hu h3
          rw [q_ky_eq (q_vc_sn n), q_ky_eq (q_vc_sn n)] at nlt
          rcases hk k u ht hu (by omega) with z | z
          · exact z
          · exact absurd z nlt
        · rw [if_neg e] at h2
          exact ih h2 h3
theorem q_shipped {t u : Nat} (h : q_I G D) (ht : t < z_tc G) (hu : u < z_tc G) (h1 : z_pl D t = 1) (h2 : z_pl (z_day G D) t = 2) (h3 : z_pl (z_day G D) u = 1) : z_ky G (z_day G D) (z_od G) t < z_ky G (z_day G D) (z_od G) u := by
  have hd := q_I_day h
  have hod : z_od G ≤ 2 := h.1.2.2.2.2.2.2.2
  have hv : z_vc (z_day G D) = z_vc (z_rn G (z_wn G D (z_tc G)) (z_bc G)) := by rw [q_vc_day, q_vc_rn]
  have hr1 : z_pl (z_rn G (z_wn G D (z_tc G)) (z_bc G)) t = 1 := by
    rcases q_sn_pl (G := G) (D := z_rn G (z_wn G D (z_tc G)) (z_bc G)) (z_sd G) t with z | z
    · have z2 : z_pl (z_rn G (z_wn G D (z_tc G)) (z_bc G)) t = 2 := by rw [← z]; exact h2
      have hw : z_pl (z_wn G D (z_tc G)) t = 3 ∨ z_pl (z_wn G D (z_tc G)) t = 1 := by
        rw [q_wn_pl]
        split
        · exact Or.inl rfl
        · exact Or.inr h1
      rw [q_rn_pl _ _ ht] at z2
      split at z2
      · exact absurd z2 (by decide)
      · rcases hw with w | w <;> rw [w] at z2 <;> exact absurd z2 (by decide)
    · exact z.1
  rw [q_ky_eq hv, q_ky_eq hv]
  refine q_sn_first (fun a b ha hb hab => ?_) (z_sd G) t u ht hu hr1 h2 h3
  have := q_ky_tri hd (by omega) ha hb hab (o := z_od G)
  rw [q_ky_eq hv, q_ky_eq hv] at this
  exact this
/-- one whose vacuum is gone is lost -/
theorem q_gone {t : Nat} (h : q_I G D) (ht : t < z_tc G) (hp : z_pl D t = 1) (hv : z_vc (z_day G D) t = 0) : z_pl (z_day G D) t = 3 := by
  have hd := q_I_day h
  by_cases c : z_pl (z_day G D) t = 3
  · exact c
  · have := hd.2.2.2.2.2.2.1 t ht c
    exact absurd hv (q_n0 this)
end QPR
