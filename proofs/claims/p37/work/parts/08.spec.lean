/-! SPEC: what the cellar does, in pure terms; class and model are both tied to it -/
def z_WG (G : z_GG) : Prop := (∀ i, 0 ≤ z_wm G i ∧ z_wm G i ≤ 3) ∧ (∀ i, 0 ≤ z_lk G i ∧ z_lk G i ≤ 5) ∧ (∀ i, z_bt G i < 6) ∧ (∀ i, z_sh G i < 4) ∧ z_bc G ≤ 6 ∧ z_tc G ≤ 60 ∧ z_sd G ≤ 9 ∧ z_od G ≤ 2
def z_WD (G : z_GG) (D : z_DD) : Prop := ∀ t, t < z_tc G → 1 ≤ z_pl D t ∧ z_pl D t ≤ 3
/-- how much a vacuum gets less a day -/
def z_rt (G : z_GG) (t s : Nat) : Int32 := z_lk G (z_bt G t) + z_wm G s
def z_mx (x : Int32) : Int32 := if (0 : Int32) < x then x else 0
def z_wv (G : z_GG) (D : z_DD) (t : Nat) : Int32 := z_mx (z_vc D t - z_rt G t (z_sh G t))
def z_setpl (D : z_DD) (t x : Nat) : z_DD := (z_sw D, z_rc D, z_vc D, va_up (z_pl D) t x, z_dy D)
def z_setvc (D : z_DD) (t : Nat) (x : Int32) : z_DD := (z_sw D, z_rc D, upd (z_vc D) t x, z_pl D, z_dy D)
def z_addsw (D : z_DD) (b : Nat) : z_DD := (upd (z_sw D) b (z_sw D b + 1), z_rc D, z_vc D, z_pl D, z_dy D)
def z_setrc (D : z_DD) (b : Nat) : z_DD := (z_sw D, va_up (z_rc D) b true, z_vc D, z_pl D, z_dy D)
def z_setdy (D : z_DD) (x : Int32) : z_DD := (z_sw D, z_rc D, z_vc D, z_pl D, x)
/-- a lid swells -/
def z_sl (G : z_GG) (D : z_DD) (t : Nat) : z_DD := z_setpl (z_addsw D (z_bt G t)) t 3
def z_w1 (G : z_GG) (D : z_DD) (t : Nat) : z_DD := if z_pl D t = 1 then (if z_wv G D t = 0 then z_sl G (z_setvc D t (z_wv G D t)) t else z_setvc D t (z_wv G D t)) else D
def z_wn (G : z_GG) (D : z_DD) : Nat → z_DD
  | 0 => D
  | n + 1 => z_w1 G (z_wn G D n) n
/-- the tins of a batch are taken back: how many, and what then is -/
def z_tb (G : z_GG) (b : Nat) (D : z_DD) : Nat → Nat × z_DD
  | 0 => (0, D)
  | n + 1 => if z_pl (z_tb G b D n).2 n = 1 ∧ z_bt G n = b then ((z_tb G b D n).1 + 1, z_setpl (z_tb G b D n).2 n 3) else z_tb G b D n
def z_rb (G : z_GG) (b : Nat) (D : z_DD) : Nat × z_DD := z_tb G b (z_setrc D b) (z_tc G)
def z_r1 (G : z_GG) (D : z_DD) (b : Nat) : z_DD := if z_rc D b = false ∧ 3 ≤ z_sw D b then (z_rb G b D).2 else D
def z_rn (G : z_GG) (D : z_DD) : Nat → z_DD
  | 0 => D
  | n + 1 => z_r1 G (z_rn G D n) n
/-- the orders: the smallest number comes first -/
def z_ky (G : z_GG) (D : z_DD) (o t : Nat) : Int32 := if o = 1 then z_vc D t * 60 + nI t else if o = 2 then (3 - z_wm G (z_sh G t)) * 60 + nI t else nI t
/-- which comes first of the first n: 0 none, t + 1 the tin t -/
def z_fb (G : z_GG) (D : z_DD) (o : Nat) : Nat → Nat
  | 0 => 0
  | n + 1 => if z_pl D n = 1 ∧ (z_fb G D o n = 0 ∨ z_ky G D o n < z_ky G D o (z_fb G D o n - 1)) then n + 1 else z_fb G D o n
def z_oi : Nat → Int32
  | 0 => -1
  | n + 1 => nI n
/-- the tin k - 1 is shipped, if there is one -/
def z_sp (D : z_DD) : Nat → z_DD
  | 0 => D
  | t + 1 => z_setpl D t 2
def z_s1 (G : z_GG) (D : z_DD) : z_DD := z_sp D (z_fb G D (z_od G) (z_tc G))
def z_sn (G : z_GG) (D : z_DD) : Nat → z_DD
  | 0 => D
  | n + 1 => z_s1 G (z_sn G D n)
def z_day (G : z_GG) (D : z_DD) : z_DD := z_setdy (z_sn G (z_rn G (z_wn G D (z_tc G)) (z_bc G)) (z_sd G)) (z_dy (z_sn G (z_rn G (z_wn G D (z_tc G)) (z_bc G)) (z_sd G)) + 1)
def z_days (G : z_GG) (D : z_DD) : Nat → z_DD
  | 0 => D
  | n + 1 => z_day G (z_days G D n)
def z_ct (p : Nat → Bool) : Nat → Nat
  | 0 => 0
  | n + 1 => z_ct p n + (if p n then 1 else 0)
def z_cn (G : z_GG) (D : z_DD) (x : Nat) : Nat := z_ct (fun t => z_pl D t == x) (z_tc G)
def z_sum (f : Nat → Int32) : Nat → Int32
  | 0 => 0
  | n + 1 => z_sum f n + f n
/-- in how many days a lid swells on a shelf -/
def z_un (G : z_GG) (D : z_DD) (t s : Nat) : Int32 := if z_rt G t s = 0 then -1 else (z_vc D t + z_rt G t s - 1) / z_rt G t s
def z_vh (G : z_GG) (D : z_DD) : Int32 := z_sum (fun t => if z_pl D t = 1 then z_vc D t else 0) (z_tc G)
/-- how many come ahead of a tin -/
def z_ap (G : z_GG) (D : z_DD) (o t : Nat) : Nat → Bool := fun u => z_pl D u == 1 && decide (z_ky G D o u < z_ky G D o t)
def z_ah (G : z_GG) (D : z_DD) (o t : Nat) : Nat := z_ct (z_ap G D o t) (z_tc G)
/-- how many in the cellar stand on a shelf, are of a batch -/
def z_on (G : z_GG) (D : z_DD) (s : Nat) : Nat := z_ct (fun t => z_pl D t == 1 && z_sh G t == s) (z_tc G)
def z_lf (G : z_GG) (D : z_DD) (b : Nat) : Nat := z_ct (fun t => z_pl D t == 1 && z_bt G t == b) (z_tc G)
/-- a batch more; tins more -/
def z_addb (G : z_GG) (v l : Int32) : z_GG := (z_wm G, upd (z_v0 G) (z_bc G) v, upd (z_lk G) (z_bc G) l, z_bt G, z_sh G, z_bc G + 1, z_tc G, z_sd G, z_od G)
def z_g1 (G : z_GG) (b s : Nat) : z_GG := (z_wm G, z_v0 G, z_lk G, va_up (z_bt G) (z_tc G) b, va_up (z_sh G) (z_tc G) s, z_bc G, z_tc G + 1, z_sd G, z_od G)
def z_d1 (G : z_GG) (D : z_DD) (b : Nat) : z_DD := (z_sw D, z_rc D, upd (z_vc D) (z_tc G) (z_v0 G b), va_up (z_pl D) (z_tc G) 1, z_dy D)
def z_gn (G : z_GG) (b s : Nat) : Nat → z_GG
  | 0 => G
  | n + 1 => z_g1 (z_gn G b s n) b s
def z_dn (G : z_GG) (D : z_DD) (b s : Nat) : Nat → z_DD
  | 0 => D
  | n + 1 => z_d1 (z_gn G b s n) (z_dn G D b s n) b
theorem z_tc_gn (G : z_GG) (b s : Nat) : ∀ n, z_tc (z_gn G b s n) = z_tc G + n
  | 0 => rfl
  | n + 1 => by
    show z_tc (z_gn G b s n) + 1 = _
    rw [z_tc_gn G b s n]
    omega
/-- what is kept by each step -/
theorem z_ct_le (p : Nat → Bool) : ∀ n, z_ct p n ≤ n
  | 0 => Nat.le_refl 0
  | n + 1 => by
    have := z_ct_le p n
    rw [z_ct]
    split <;> omega
theorem z_ct_cong {p q : Nat → Bool} : ∀ {n : Nat}, (∀ k, k < n → p k = q k) → z_ct p n = z_ct q n
  | 0, _ => rfl
  | n + 1, h => by rw [z_ct, z_ct, z_ct_cong (fun k hk => h k (by omega)), h n (by omega)]
theorem z_up_eq {α : Type} (f : Nat → α) (k : Nat) (x : α) : va_up f k x k = x := by simp [va_up]
theorem z_up_ne {α : Type} (f : Nat → α) {k j : Nat} (x : α) (h : j ≠ k) : va_up f k x j = f j := by simp [va_up, h]
theorem z_WD_pl {G : z_GG} {D : z_DD} (h : z_WD G D) (t x : Nat) (hx : 1 ≤ x ∧ x ≤ 3) : z_WD G (z_setpl D t x) := by
  intro j hj
  show 1 ≤ va_up (z_pl D) t x j ∧ va_up (z_pl D) t x j ≤ 3
  by_cases e : j = t
  · rw [e, z_up_eq]; exact hx
  · rw [z_up_ne _ _ e]; exact h j hj
theorem z_WD_sl {G : z_GG} {D : z_DD} (h : z_WD G D) (t : Nat) : z_WD G (z_sl G D t) := z_WD_pl (D := z_addsw D (z_bt G t)) h t 3 (by decide)
theorem z_WD_w1 {G : z_GG} {D : z_DD} (h : z_WD G D) (t : Nat) : z_WD G (z_w1 G D t) := by
  unfold z_w1
  split
  · split
    · exact z_WD_sl (D := z_setvc D t (z_wv G D t)) h t
    · exact h
  · exact h
theorem z_WD_wn {G : z_GG} {D : z_DD} (h : z_WD G D) : ∀ n, z_WD G (z_wn G D n)
  | 0 => h
  | n + 1 => z_WD_w1 (z_WD_wn h n) n
theorem z_WD_tb {G : z_GG} {D : z_DD} (b : Nat) (h : z_WD G D) : ∀ n, z_WD G (z_tb G b D n).2
  | 0 => h
  | n + 1 => by
    rw [z_tb]
    split
    · exact z_WD_pl (z_WD_tb b h n) n 3 (by decide)
    · exact z_WD_tb b h n
theorem z_WD_rb {G : z_GG} {D : z_DD} (b : Nat) (h : z_WD G D) : z_WD G (z_rb G b D).2 := z_WD_tb (D := z_setrc D b) b h _
theorem z_WD_r1 {G : z_GG} {D : z_DD} (h : z_WD G D) (b : Nat) : z_WD G (z_r1 G D b) := by
  unfold z_r1
  split
  · exact z_WD_rb b h
  · exact h
theorem z_WD_rn {G : z_GG} {D : z_DD} (h : z_WD G D) : ∀ n, z_WD G (z_rn G D n)
  | 0 => h
  | n + 1 => z_WD_r1 (z_WD_rn h n) n
theorem z_WD_s1 {G : z_GG} {D : z_DD} (h : z_WD G D) : z_WD G (z_s1 G D) := by
  unfold z_s1
  cases z_fb G D (z_od G) (z_tc G) with
  | zero => exact h
  | succ t => exact z_WD_pl h t 2 (by decide)
theorem z_WD_sn {G : z_GG} {D : z_DD} (h : z_WD G D) : ∀ n, z_WD G (z_sn G D n)
  | 0 => h
  | n + 1 => z_WD_s1 (z_WD_sn h n)
theorem z_WD_day {G : z_GG} {D : z_DD} (h : z_WD G D) : z_WD G (z_day G D) := z_WD_sn (z_WD_rn (z_WD_wn h _) _) _
theorem z_WD_days {G : z_GG} {D : z_DD} (h : z_WD G D) : ∀ n, z_WD G (z_days G D n)
  | 0 => h
  | n + 1 => z_WD_day (z_WD_days h n)
theorem z_fb_le (G : z_GG) (D : z_DD) (o : Nat) : ∀ n, z_fb G D o n ≤ n
  | 0 => Nat.le_refl 0
  | n + 1 => by
    have := z_fb_le G D o n
    rw [z_fb]
    split <;> omega
theorem z_fb_pos {G : z_GG} {D : z_DD} {o : Nat} : ∀ {n : Nat}, 0 < z_fb G D o n → z_pl D (z_fb G D o n - 1) = 1
  | 0, h => absurd h (Nat.lt_irrefl 0)
  | n + 1, h => by
    rw [z_fb] at h ⊢
    split
    · rename_i q
      exact q.1
    · rename_i q
      rw [if_neg q] at h
      exact z_fb_pos h
/-! small facts for the walks -/
theorem z_ct_t {p : Nat → Bool} {n : Nat} (h : p n = true) : z_ct p (n + 1) = z_ct p n + 1 := by rw [z_ct, if_pos h]
theorem z_ct_f {p : Nat → Bool} {n : Nat} (h : p n = false) : z_ct p (n + 1) = z_ct p n := by rw [z_ct, h]; rfl
theorem z_eq {a b : Nat} (ha : a < 2 ^ 31) (hb : b < 2 ^ 31) (h : nI a = nI b) : a = b := (nI_eq ha hb).mp h
theorem z_ne {a b : Nat} (ha : a < 2 ^ 31) (hb : b < 2 ^ 31) (h : ¬ nI a = nI b) : a ≠ b := fun q => h (by rw [q])
theorem z_le {a b : Nat} (ha : a < 2 ^ 31) (hb : b < 2 ^ 31) (h : nI a ≤ nI b) : a ≤ b := (nI_leI ha hb).mp h
theorem z_nle {a b : Nat} (hb : b < 2 ^ 31) (h : ¬ nI a ≤ nI b) : b < a := by
  rcases Nat.lt_or_ge b a with q | q
  · exact q
  · exact absurd (nI_le q hb) h
theorem z_b0 {b : Bool} (h : b = false) : (0 : Int32) = z_bI b := by rw [h]; rfl
theorem z_b1 {b : Bool} (h : b = true) : (1 : Int32) = z_bI b := by rw [h]; rfl
theorem z_bI0 {b : Bool} (h : z_bI b = 0) : b = false := by
  cases b
  · rfl
  · exact absurd h (by decide)
theorem z_bI1 {b : Bool} (h : ¬ z_bI b = 0) : b = true := by
  cases b
  · exact absurd rfl h
  · rfl
theorem z_beq {a b : Nat} (h : a = b) : (a == b) = true := beq_iff_eq.mpr h
theorem z_bne {a b : Nat} (h : a ≠ b) : (a == b) = false := beq_false_of_ne h
theorem z_beq' {a b : Nat} (h : (a == b) = true) : a = b := beq_iff_eq.mp h
theorem z_bne' {a b : Nat} (h : (a == b) = false) : a ≠ b := fun q => by rw [q] at h; simp at h
theorem z_fb_t {G : z_GG} {D : z_DD} {o n : Nat} (h1 : z_pl D n = 1) (h2 : z_fb G D o n = 0 ∨ z_ky G D o n < z_ky G D o (z_fb G D o n - 1)) : z_fb G D o (n + 1) = n + 1 := by rw [z_fb, if_pos ⟨h1, h2⟩]
theorem z_fb_f {G : z_GG} {D : z_DD} {o n : Nat} (h : ¬ (z_pl D n = 1 ∧ (z_fb G D o n = 0 ∨ z_ky G D o n < z_ky G D o (z_fb G D o n - 1)))) : z_fb G D o (n + 1) = z_fb G D o n := by rw [z_fb, if_neg h]
theorem z_oi_neg {k : Nat} (hk : k ≤ 60) (h : z_oi k < 0) : k = 0 := by
  cases k with
  | zero => rfl
  | succ n => exact absurd h (nI_pos (by omega))
theorem z_oi_pos {k : Nat} (h : ¬ z_oi k < 0) : 0 < k := by
  cases k with
  | zero => exact absurd (by decide) h
  | succ n => omega
theorem z_i32_lt {x y : Int32} (h : ¬ x ≤ y) : y < x := by
  rw [Int32.lt_iff_toInt_lt]
  rw [Int32.le_iff_toInt_le] at h
  omega
theorem z_i32_nlt {x y : Int32} (h : x ≤ y) : ¬ y < x := by
  rw [Int32.lt_iff_toInt_lt]
  rw [Int32.le_iff_toInt_le] at h
  omega
theorem z_i32_nle {x y : Int32} (h : x < y) : ¬ y ≤ x := by
  rw [Int32.lt_iff_toInt_lt] at h
  rw [Int32.le_iff_toInt_le]
  omega
theorem z_i32_le {x y : Int32} (h : ¬ x < y) : y ≤ x := by
  rw [Int32.le_iff_toInt_le]
  rw [Int32.lt_iff_toInt_lt] at h
  omega
/-- a row filled up to a place -/
def z_fi (f g : Nat → Int32) (i : Nat) : Nat → Int32 := fun j => if j < i then g j else f j
theorem z_fi_0 (f g : Nat → Int32) : z_fi f g 0 = f := by funext j; simp [z_fi]
theorem z_fi_s (f g : Nat → Int32) (i : Nat) : upd (z_fi f g i) i (g i) = z_fi f g (i + 1) := by
  funext j
  simp only [upd, z_fi]
  by_cases h : j = i
  · rw [if_pos h, if_pos (by omega), h]
  · rw [if_neg h]
    by_cases h2 : j < i
    · rw [if_pos h2, if_pos (by omega)]
    · rw [if_neg h2, if_neg (by omega)]
theorem z_cellc {cA : ClassId} {n : Nat} {f g : Nat → Int32} (h : ∀ j, j < n → f j = g j) : vp_cell cA (n, .inl f) = vp_cell cA (n, .inl g) := by
  show arrV cA n (fun j => .int (f j)) = arrV cA n (fun j => .int (g j))
  unfold arrV
  congr 1
  exact congrArg Array.ofFn (funext fun j => congrArg Value.int (h j.val j.isLt))
theorem z_Pset {Dg : va_G} {cl : List vw_C} {ws : va_W} {H : Heap} {k a n : Nat} {cA : ClassId} {f g : Nat → Int32} (h : va_P Dg cl ws H) (hk : ws[k]? = some (a, .inl (cA, n, .inl f))) (e : ∀ j, j < n → f j = g j) : va_P Dg cl (ws.set k (a, .inl (cA, n, .inl g))) H := by
  have hl := (List.getElem?_eq_some_iff.mp hk).1
  intro i q hq
  by_cases hi : i = k
  · subst hi
    rw [List.getElem?_set_self hl] at hq
    cases hq
    have := h i _ hk
    show H[a]? = some (vp_cell cA (n, .inl g))
    rw [← z_cellc e]
    exact this
  · rw [List.getElem?_set_ne (Ne.symm hi)] at hq
    exact h i q hq
theorem z_bmod {z : Int} (h1 : -2147483648 ≤ z) (h2 : z < 2147483648) : z.bmod (2 ^ 32) = z := by
  rw [Int.bmod_def]
  split <;> omega
theorem z_addI {x y : Int32} (h1 : -2147483648 ≤ x.toInt + y.toInt) (h2 : x.toInt + y.toInt < 2147483648) : (x + y).toInt = x.toInt + y.toInt := by rw [Int32.toInt_add, z_bmod h1 h2]
theorem z_rt_nn {G : z_GG} (h : z_WG G) (t s : Nat) : 0 ≤ z_rt G t s := by
  have h1 := h.2.1 (z_bt G t)
  have h2 := h.1 s
  unfold z_rt
  rw [Int32.le_iff_toInt_le, Int32.le_iff_toInt_le] at h1 h2
  have e0 : (0 : Int32).toInt = 0 := by decide
  have e3 : (3 : Int32).toInt = 3 := by decide
  have e5 : (5 : Int32).toInt = 5 := by decide
  rw [e0] at h1 h2
  rw [e5] at h1
  rw [e3] at h2
  rw [Int32.le_iff_toInt_le, z_addI (by omega) (by omega), e0]
  omega
theorem z_i32_eq {x : Int32} (h : 0 ≤ x) (h2 : ¬ 0 < x) : x = 0 := by
  apply Int32.toInt_inj.mp
  rw [Int32.le_iff_toInt_le] at h
  rw [Int32.lt_iff_toInt_lt] at h2
  omega
theorem z_i32_pos {x : Int32} (h : 0 < x) : ¬ x = 0 := by
  intro e
  rw [e] at h
  exact absurd h (by decide)
theorem z_and_t {a b : Bool} (h1 : a = true) (h2 : b = true) : (a && b) = true := by rw [h1, h2]; rfl
theorem z_and_f1 {a b : Bool} (h1 : a = false) : (a && b) = false := by rw [h1]; rfl
theorem z_and_f2 {a b : Bool} (h1 : b = false) : (a && b) = false := by rw [h1, Bool.and_false]
theorem z_dec_t {c : Prop} [Decidable c] (h : c) : decide c = true := decide_eq_true h
theorem z_dec_f {c : Prop} [Decidable c] (h : ¬ c) : decide c = false := decide_eq_false h
theorem z_wn_0 {G : z_GG} {D : z_DD} {n : Nat} (h : ¬ z_pl (z_wn G D n) n = 1) : z_wn G D (n + 1) = z_wn G D n := by rw [z_wn, z_w1, if_neg h]
theorem z_wn_1 {G : z_GG} {D : z_DD} {n : Nat} (h : z_pl (z_wn G D n) n = 1) (h2 : ¬ z_wv G (z_wn G D n) n = 0) : z_wn G D (n + 1) = z_setvc (z_wn G D n) n (z_wv G (z_wn G D n) n) := by rw [z_wn, z_w1, if_pos h, if_neg h2]
theorem z_wn_2 {G : z_GG} {D : z_DD} {n : Nat} (h : z_pl (z_wn G D n) n = 1) (h2 : z_wv G (z_wn G D n) n = 0) : z_wn G D (n + 1) = z_sl G (z_setvc (z_wn G D n) n (z_wv G (z_wn G D n) n)) n := by rw [z_wn, z_w1, if_pos h, if_pos h2]
theorem z_tb_t {G : z_GG} {D : z_DD} {b n : Nat} (h1 : z_pl (z_tb G b D n).2 n = 1) (h2 : z_bt G n = b) : z_tb G b D (n + 1) = ((z_tb G b D n).1 + 1, z_setpl (z_tb G b D n).2 n 3) := by rw [z_tb, if_pos ⟨h1, h2⟩]
theorem z_tb_f {G : z_GG} {D : z_DD} {b n : Nat} (h : ¬ (z_pl (z_tb G b D n).2 n = 1 ∧ z_bt G n = b)) : z_tb G b D (n + 1) = z_tb G b D n := by rw [z_tb, if_neg h]
theorem z_rn_t {G : z_GG} {D : z_DD} {n : Nat} (h1 : z_rc (z_rn G D n) n = false) (h2 : 3 ≤ z_sw (z_rn G D n) n) : z_rn G D (n + 1) = (z_rb G n (z_rn G D n)).2 := by rw [z_rn, z_r1, if_pos ⟨h1, h2⟩]
theorem z_rn_f {G : z_GG} {D : z_DD} {n : Nat} (h : ¬ (z_rc (z_rn G D n) n = false ∧ 3 ≤ z_sw (z_rn G D n) n)) : z_rn G D (n + 1) = z_rn G D n := by rw [z_rn, z_r1, if_neg h]
theorem z_upd_eq (f : Nat → Int32) (k : Nat) (x : Int32) : upd f k x k = x := by simp [upd]
theorem z_nm1 {t : Nat} (h : t < 2 ^ 31) : ¬ nI t = -1 := by
  intro q
  exact nI_pos h (by rw [q]; decide)
/-- how many would be lost, so many shipped by this order -/
def z_ship (G : z_GG) (m o : Nat) : z_GG := (z_wm G, z_v0 G, z_lk G, z_bt G, z_sh G, z_bc G, z_tc G, m, o)
def z_ls (G : z_GG) (D : z_DD) (m o : Nat) : Int32 := nI (z_cn (z_ship G m o) (z_days (z_ship G m o) D 30) 3) - nI (z_cn G D 3)
def z_bon (G : z_GG) (D : z_DD) : Nat → Nat × Int32
  | 0 => (0, z_ls G D (z_sd G) 0)
  | k + 1 => if z_ls G D (z_sd G) (k + 1) < (z_bon G D k).2 then (k + 1, z_ls G D (z_sd G) (k + 1)) else z_bon G D k
def z_bo (G : z_GG) (D : z_DD) : Nat := (z_bon G D 2).1
def z_wtn (G : z_GG) (D : z_DD) : Nat → Int32
  | 0 => -1
  | r + 1 => if z_ls G D (9 - r) (z_od G) = 0 then nI (9 - r) else z_wtn G D r
def z_wt (G : z_GG) (D : z_DD) : Int32 := z_wtn G D 10
theorem z_wt_s {G : z_GG} {D : z_DD} {i : Nat} (hi : i < 10) : z_wtn G D (10 - i) = if z_ls G D i (z_od G) = 0 then nI i else z_wtn G D (10 - (i + 1)) := by
  rw [show 10 - i = (9 - i) + 1 by omega, z_wtn, show 9 - (9 - i) = i by omega, show 10 - (i + 1) = 9 - i by omega]
def z_urn (G : z_GG) (D : z_DD) (b : Nat) : Nat → Int32
  | 0 => -1
  | r + 1 => if z_rc (z_days G D (60 - r)) b = true then nI (60 - r) else z_urn G D b r
def z_ur (G : z_GG) (D : z_DD) (b : Nat) : Int32 := if z_rc D b = true then 0 else z_urn G D b 60
theorem z_ur_s {G : z_GG} {D : z_DD} {b i : Nat} (hi : i < 60) : z_urn G D b (60 - i) = if z_rc (z_days G D (i + 1)) b = true then nI (i + 1) else z_urn G D b (60 - (i + 1)) := by
  rw [show 60 - i = (59 - i) + 1 by omega, z_urn, show 60 - (59 - i) = i + 1 by omega, show 60 - (i + 1) = 59 - i by omega]
/-- the shelf on which a lid swells the latest -/
def z_il (x y : Int32) : Bool := decide (¬ y = -1) && (decide (x = -1) || decide (y < x))
def z_bsn (G : z_GG) (D : z_DD) (t : Nat) : Nat → Nat
  | 0 => 0
  | s + 1 => if z_il (z_un G D t (s + 1)) (z_un G D t (z_bsn G D t s)) = true then s + 1 else z_bsn G D t s
theorem z_bsn_le (G : z_GG) (D : z_DD) (t : Nat) : ∀ s, z_bsn G D t s ≤ s
  | 0 => Nat.le_refl 0
  | s + 1 => by
    have := z_bsn_le G D t s
    rw [z_bsn]
    split <;> omega
def z_bsh (G : z_GG) (D : z_DD) (t : Nat) : Int32 := if z_pl D t = 1 then nI (z_bsn G D t 3) else -1
def z_shf (G : z_GG) (D : z_DD) (t : Nat) : Int32 := if z_pl D t = 1 then nI (z_sh G t) else -1
def z_plb (G : z_GG) (D : z_DD) (o t : Nat) : Int32 := if z_pl D t = 1 then nI (z_ah G D o t) else -1
def z_dof (G : z_GG) (D : z_DD) (t : Nat) : Int32 := if z_pl D t = 1 then z_un G D t (z_sh G t) else -1
/-- the checksum -/
def z_mi (d x : Int64) : Int64 := d * 31 + x
def z_dgo (G : z_GG) (D : z_DD) (d : Int64) : Nat → Int64
  | 0 => d
  | n + 1 => z_mi (z_dgo G D d n) (z_oi (z_fb G D n (z_tc G))).toInt64
def z_dgs (G : z_GG) (D : z_DD) (d : Int64) : Nat → Int64
  | 0 => d
  | n + 1 => z_mi (z_mi (z_dgs G D d n) (nI (z_on G D n)).toInt64) (z_wm G n).toInt64
def z_dgb (G : z_GG) (D : z_DD) (d : Int64) : Nat → Int64
  | 0 => d
  | n + 1 => z_mi (z_mi (z_mi (z_mi (z_dgb G D d n) (z_sw D n).toInt64) (nI (z_lf G D n)).toInt64) (z_bI (z_rc D n)).toInt64) (z_ur G D n).toInt64
def z_dgt (G : z_GG) (D : z_DD) (d : Int64) : Nat → Int64
  | 0 => d
  | n + 1 => z_mi (z_mi (z_mi (z_mi (z_mi (z_mi (z_dgt G D d n) (z_shf G D n).toInt64) (z_vc D n).toInt64) (z_bI (z_pl D n == 2)).toInt64) (z_plb G D 1 n).toInt64) (z_dof G D n).toInt64) (z_bsh G D n).toInt64
def z_dg7 (G : z_GG) (D : z_DD) : Int64 := z_mi (z_mi (z_mi (z_mi (z_mi (z_mi (z_mi 2351 (z_dy D).toInt64) (nI (z_bc G)).toInt64) (nI (z_tc G)).toInt64) (nI (z_cn G D 1)).toInt64) (nI (z_cn G D 2)).toInt64) (nI (z_cn G D 3)).toInt64) (z_sum (z_sw D) (z_bc G)).toInt64
def z_dg12 (G : z_GG) (D : z_DD) : Int64 := z_mi (z_mi (z_dgo G D (z_dg7 G D) 3) (nI (z_bo G D)).toInt64) (z_wt G D).toInt64
def z_dg (G : z_GG) (D : z_DD) : Int64 := z_dgt G D (z_dgb G D (z_dgs G D (z_dg12 G D) 4) (z_bc G)) (z_tc G)
/-- writes from outside -/
def z_setsh (G : z_GG) (t s : Nat) : z_GG := (z_wm G, z_v0 G, z_lk G, z_bt G, va_up (z_sh G) t s, z_bc G, z_tc G, z_sd G, z_od G)
def z_setwm (G : z_GG) (s : Nat) (w : Int32) : z_GG := (upd (z_wm G) s w, z_v0 G, z_lk G, z_bt G, z_sh G, z_bc G, z_tc G, z_sd G, z_od G)
theorem z_WG_ship {G : z_GG} (h : z_WG G) {m o : Nat} (hm : m ≤ 9) (ho : o ≤ 2) : z_WG (z_ship G m o) := ⟨h.1, h.2.1, h.2.2.1, h.2.2.2.1, h.2.2.2.2.1, h.2.2.2.2.2.1, hm, ho⟩
theorem z_bl {b : Bool} : (if z_bI b = 0 then (0 : Int64) else 1) = (z_bI b).toInt64 := by cases b <;> decide
theorem z_Dsame {A0 : Nat → Prop} {ws w' : va_W} (hD : va_D A0 ws) (ha : w'.map Prod.fst = ws.map Prod.fst) : va_D A0 w' := by
  have adr : ∀ (k : Nat) (q : Nat × va_E), w'[k]? = some q → ∃ q0, ws[k]? = some q0 ∧ q0.1 = q.1 := by
    intro k q hq
    have e3 : (w'.map Prod.fst)[k]? = some q.1 := by rw [List.getElem?_map, hq]; rfl
    rw [ha, List.getElem?_map] at e3
    cases hw : ws[k]? with
    | none => rw [hw] at e3; cases e3
    | some z => rw [hw] at e3; exact ⟨z, rfl, Option.some.inj e3⟩
  refine ⟨fun i j x y hi hj hxy => ?_, fun k q hq => ?_⟩
  · obtain ⟨x0, h1, h2⟩ := adr i x hi
    obtain ⟨y0, h3, h4⟩ := adr j y hj
    exact hD.1 i j x0 y0 h1 h3 (h2.trans (hxy.trans h4.symm))
  · obtain ⟨q0, h1, h2⟩ := adr k q hq
    rw [← h2]
    exact hD.2 k q0 h1
theorem z_Pl {Dg : va_G} {cl : List vw_C} {a b : va_W} {H : Heap} (h : va_P Dg cl (a ++ b) H) : va_P Dg cl a H := fun k q hk => h k q (by rw [List.getElem?_append_left (List.getElem?_eq_some_iff.mp hk).1]; exact hk)
theorem z_Prr {Dg : va_G} {cl : List vw_C} {a b : va_W} {H : Heap} (h : va_P Dg cl (a ++ b) H) : va_P Dg cl b H := fun k q hk => h (a.length + k) q (by rw [List.getElem?_append_right (by omega), Nat.add_sub_cancel_left]; exact hk)
theorem z_Pm {Dg : va_G} {cl : List vw_C} {a b c : va_W} {H : Heap} (h : va_P Dg cl (a ++ (b ++ c)) H) : va_P Dg cl b H := z_Pl (z_Prr h)
theorem z_Dl {A : Nat → Prop} {a b : va_W} (h : va_D A (a ++ b)) : va_D A a := ⟨fun i j p q hi hj => h.1 i j p q (by rw [List.getElem?_append_left (List.getElem?_eq_some_iff.mp hi).1]; exact hi) (by rw [List.getElem?_append_left (List.getElem?_eq_some_iff.mp hj).1]; exact hj), fun k q hk => h.2 k q (by rw [List.getElem?_append_left (List.getElem?_eq_some_iff.mp hk).1]; exact hk)⟩
theorem z_Drr {A : Nat → Prop} {a b : va_W} (h : va_D A (a ++ b)) : va_D A b := ⟨fun i j p q hi hj e => by
  have := h.1 (a.length + i) (a.length + j) p q (by rw [List.getElem?_append_right (by omega), Nat.add_sub_cancel_left]; exact hi) (by rw [List.getElem?_append_right (by omega), Nat.add_sub_cancel_left]; exact hj) e
  omega, fun k q hk => h.2 (a.length + k) q (by rw [List.getElem?_append_right (by omega), Nat.add_sub_cancel_left]; exact hk)⟩
/-- a part of a world, changed by a call -/
theorem z_blk {A0 : Nat → Prop} {Dg : va_G} {cl : List vw_C} {pre w w' post : va_W} {H H1 : Heap} (hP : va_P Dg cl (pre ++ (w ++ post)) H) (hD : va_D A0 (pre ++ (w ++ post))) (ha : w'.map Prod.fst = w.map Prod.fst) (hk : ∀ q : Nat, q < H.size → ¬ z_in w q → H1[q]? = H[q]?) (hP1 : va_P Dg cl w' H1) : va_P Dg cl (pre ++ (w' ++ post)) H1 ∧ va_D A0 (pre ++ (w' ++ post)) := by
  refine ⟨va_P.app (fun k q hq => ?_) (va_P.app hP1 (fun k q hq => ?_)), z_Dsame hD (by simp [ha])⟩
  · have h1 : (pre ++ (w ++ post))[k]? = some q := by rw [List.getElem?_append_left (List.getElem?_eq_some_iff.mp hq).1]; exact hq
    have hl := (List.getElem?_eq_some_iff.mp hq).1
    refine (hP k q h1).kept (hk q.1 (hP k q h1).lt (fun hin => ?_))
    obtain ⟨j, e, hj⟩ := hin
    have h2 : (pre ++ (w ++ post))[pre.length + j]? = some (q.1, e) := by rw [List.getElem?_append_right (by omega), Nat.add_sub_cancel_left, List.getElem?_append_left (List.getElem?_eq_some_iff.mp hj).1]; exact hj
    have := hD.1 k _ q (q.1, e) h1 h2 rfl
    omega
  · have h1 : (pre ++ (w ++ post))[pre.length + (w.length + k)]? = some q := by rw [List.getElem?_append_right (by omega), Nat.add_sub_cancel_left, List.getElem?_append_right (by omega), Nat.add_sub_cancel_left]; exact hq
    refine (hP _ q h1).kept (hk q.1 (hP _ q h1).lt (fun hin => ?_))
    obtain ⟨j, e, hj⟩ := hin
    have hl := (List.getElem?_eq_some_iff.mp hj).1
    have h2 : (pre ++ (w ++ post))[pre.length + j]? = some (q.1, e) := by rw [List.getElem?_append_right (by omega), Nat.add_sub_cancel_left, List.getElem?_append_left hl]; exact hj
    have := hD.1 _ _ q (q.1, e) h1 h2 rfl
    omega
section ZBL
variable {p : Program} {l : Launch} {e : Env} {R : Room} {s : State} {m : MethodId} {args : Array Value} {below : List Frame} {meth : Method} {c : Code} {H : Heap} {locs : List Loc} {cells slots : Nat} {Q : State → Prop} {pc : Nat} {ls : Array Slot} {rest st0 : List Value} {cc : ByteArray} {y : MethodName} {bytes : ByteArray} {maxL nL n index f L ci : Nat} {ret : Option FieldType} {wsy wsy' Ts : List Cond} {own C : String} {b : Addr} {As : List Value} {Dg : va_G} {cI : ClassId} {w w' : va_W} {fs : List Value} {vq : vw_C} {A0 : Nat → Prop} {H0 : Heap}
theorem z_kwB {a : Array Value} {o : Option Value} {pre post : va_W} (hr : va_Run p l e R s m args below meth c H locs cells slots 0 0 (F0 m pc ls st0) rest (z_Qw o Dg w w' a) (z_in w)) (hP : va_P Dg vwCl (pre ++ (w ++ post)) H) (hD : va_D A0 (pre ++ (w ++ post))) (hS : va_S A0 H0 H locs) (ha : w'.map Prod.fst = w.map Prod.fst)
    (kk : ∀ (H1 : Heap) (locs1 : List Loc), va_P Dg vwCl (pre ++ (w' ++ post)) H1 → va_D A0 (pre ++ (w' ++ post)) → va_S A0 H0 H1 locs1 → W p l e R s m args below meth c H1 locs1 cells slots Q (F0 m (pc + 3) ls (o.toList ++ rest))) : W p l e R s m args below meth c H locs cells slots Q (F0 m pc ls st0) := by
  intro T hT X
  obtain ⟨v, st₀, t, T', L, h0, X', hL, e1, e2, ⟨hv, hP1, hz, hk⟩, st⟩ := hr T hT X
  cases hv
  rw [h0] at hz hk
  have hDw := z_Dl (z_Drr hD)
  have hin : ∀ q, z_in w q → A0 q := fun q ⟨k, e, h⟩ => hDw.2 k _ h
  obtain ⟨hP2, hD2⟩ := z_blk (H1 := T'.heap) hP hD ha (fun q h1 h2 => by rw [e1]; exact hk q h1 h2) (by rw [e1]; exact hP1)
  obtain ⟨t2, a1, b1⟩ := kk T'.heap (locs ++ L) hP2 hD2
    ⟨Nat.le_trans hS.1 (by rw [e1]; exact hz), fun q h1 h2 => by rw [e1, hk q (Nat.lt_of_lt_of_le h1 hS.1) (fun z => h2 (hin q z))]; exact hS.2.1 q h1 h2, fun q hq => by
      rcases List.mem_append.mp hq with h | h
      · exact hS.2.2 q h
      · exact hin _ (hL q h)⟩ T' rfl X'
  exact ⟨t2, st t2 a1, b1⟩
theorem z_wBi {v : Int32} (rest : List Value) (pre post : va_W) (q0 : Nat) (hx : p.tables.exec = Jvm.exec) (hb : c.code = cc) (hml : c.maxLocals = nL) (hown : s.vm.findClass own = some m.cls) (hts : ∀ w ∈ Ts, w.before args s = true) (hM : z_Mw l y wsy f L (.ref b :: As) Dg cI w (some (.int v)) w') (hT : GoodIn Ts (wsV own index C y wsy)) (hw : wsy = Cond.code y bytes maxL ret :: wsy') (hd : y.cls = C ∧ y.cls ≠ "java/lang/invoke/MethodHandle" ∧ y.cls ≠ "java/lang/invoke/VarHandle" ∧ (parseMethodDescriptor y.desc).map (fun d => d.parameters.length) = some n) (hR : f + 1 ≤ R.frames ∧ 8 + (maxL + 11) + L ≤ R.locals)
    (hK : va_K Dg vwCl [(cI, .int)] s) (hN : z_N s) (hP : va_P Dg vwCl (pre ++ (w ++ post)) H) (hD : va_D A0 (pre ++ (w ++ post))) (hS : va_S A0 H0 H locs) (ha : w'.map Prod.fst = w.map Prod.fst) (he : w[q0]? = some (b, .inr (ci, fs))) (hc : vwCl[ci]? = some vq) (hCl : vq.1 = C) (hn : As.length = n) (hsize : ls.size = nL) (hst : st0 = As.reverse ++ .ref b :: rest) (hW : (rest.map fun v => v.category).sum ≤ 8)
    (hdg : decode cc pc = .ok (.invokevirtual index, 3)) (hf : cells ≤ R.cells ∧ slots ≤ R.slots)
    (kk : ∀ (H1 : Heap) (locs1 : List Loc), va_P Dg vwCl (pre ++ (w' ++ post)) H1 → va_D A0 (pre ++ (w' ++ post)) → va_S A0 H0 H1 locs1 → W p l e R s m args below meth c H1 locs1 cells slots Q (F0 m (pc + 3) ls (.int v :: rest))) : W p l e R s m args below meth c H locs cells slots Q (F0 m pc ls st0) :=
  z_kwB (va_runV (As := As) (rest := rest) ⟨hx, hb, hml, hown, hts⟩ hM (cwV n hts hT hw rfl rfl hd hR) ⟨z_Pw.blind, by rw [← hCl]; exact va_recv hK (z_Pm hP) hc he, fun U hU hW => ⟨rfl, by rw [hU]; exact z_Pm hP, z_K.warm hW ⟨hK, hN⟩, (z_Dl (z_Drr hD)).weaken (fun _ _ _ _ => trivial)⟩⟩ rfl hn hsize hst (lv_room hW) hdg hf) hP hD hS ha kk
theorem z_wBv  (rest : List Value) (pre post : va_W) (q0 : Nat) (hx : p.tables.exec = Jvm.exec) (hb : c.code = cc) (hml : c.maxLocals = nL) (hown : s.vm.findClass own = some m.cls) (hts : ∀ w ∈ Ts, w.before args s = true) (hM : z_Mw l y wsy f L (.ref b :: As) Dg cI w none w') (hT : GoodIn Ts (wsV own index C y wsy)) (hw : wsy = Cond.code y bytes maxL ret :: wsy') (hd : y.cls = C ∧ y.cls ≠ "java/lang/invoke/MethodHandle" ∧ y.cls ≠ "java/lang/invoke/VarHandle" ∧ (parseMethodDescriptor y.desc).map (fun d => d.parameters.length) = some n) (hR : f + 1 ≤ R.frames ∧ 8 + (maxL + 11) + L ≤ R.locals)
    (hK : va_K Dg vwCl [(cI, .int)] s) (hN : z_N s) (hP : va_P Dg vwCl (pre ++ (w ++ post)) H) (hD : va_D A0 (pre ++ (w ++ post))) (hS : va_S A0 H0 H locs) (ha : w'.map Prod.fst = w.map Prod.fst) (he : w[q0]? = some (b, .inr (ci, fs))) (hc : vwCl[ci]? = some vq) (hCl : vq.1 = C) (hn : As.length = n) (hsize : ls.size = nL) (hst : st0 = As.reverse ++ .ref b :: rest) (hW : (rest.map fun v => v.category).sum ≤ 8)
    (hdg : decode cc pc = .ok (.invokevirtual index, 3)) (hf : cells ≤ R.cells ∧ slots ≤ R.slots)
    (kk : ∀ (H1 : Heap) (locs1 : List Loc), va_P Dg vwCl (pre ++ (w' ++ post)) H1 → va_D A0 (pre ++ (w' ++ post)) → va_S A0 H0 H1 locs1 → W p l e R s m args below meth c H1 locs1 cells slots Q (F0 m (pc + 3) ls rest)) : W p l e R s m args below meth c H locs cells slots Q (F0 m pc ls st0) :=
  z_kwB (va_runV (As := As) (rest := rest) ⟨hx, hb, hml, hown, hts⟩ hM (cwV n hts hT hw rfl rfl hd hR) ⟨z_Pw.blind, by rw [← hCl]; exact va_recv hK (z_Pm hP) hc he, fun U hU hW => ⟨rfl, by rw [hU]; exact z_Pm hP, z_K.warm hW ⟨hK, hN⟩, (z_Dl (z_Drr hD)).weaken (fun _ _ _ _ => trivial)⟩⟩ rfl hn hsize hst (lv_room hW) hdg hf) hP hD hS ha kk
end ZBL
/-! THE CELLAR -/
abbrev z_cW (cI : ClassId) (h : Nat) (na ta : Nat → Nat) (G : z_GG) (D : z_DD) (G1 : z_GG) (D1 : z_DD) : va_W := (h, .inr (2, [.ref (na 0), .ref (ta 0)])) :: (z_sW cI na G D ++ z_sW cI ta G1 D1)
def z_Qc (o : Option Value) (Dg : va_G) (cI : ClassId) (h : Nat) (na ta : Nat → Nat) (G2 : z_GG) (D2 : z_DD) (w0 : va_W) : Array Value → State → Outcome → State → Prop := fun _ st oc t => oc = .returned o ∧ (∃ (G9 : z_GG) (D9 : z_DD), va_P Dg vwCl (z_cW cI h na ta G2 D2 G9 D9) t.heap) ∧ va_F (z_in w0) st t
/-- a method of the cellar: what is tried out may be anything behind it -/
abbrev z_Mc (l : Launch) (y : MethodName) (ws : List Cond) (f L : Nat) (As : List Value) (Dg : va_G) (cI : ClassId) (h : Nat) (na ta : Nat → Nat) (G : z_GG) (D : z_DD) (G1 : z_GG) (D1 : z_DD) (o : Option Value) (G2 : z_GG) (D2 : z_DD) : Prop := Met l y ws ({ frames := f, cells := 0, slots := 0, locals := L }) (z_Pw As Dg cI (z_cW cI h na ta G D G1 D1)) (z_Qc o Dg cI h na ta G2 D2 (z_cW cI h na ta G D G1 D1)) 0 0 (z_in (z_cW cI h na ta G D G1 D1))
section ZCC
variable {p : Program} {l : Launch} {e : Env} {R : Room} {s : State} {m : MethodId} {args : Array Value} {below : List Frame} {meth : Method} {c : Code} {H : Heap} {locs : List Loc} {cells slots : Nat} {Q : State → Prop} {pc : Nat} {ls : Array Slot} {rest st0 : List Value} {cc : ByteArray} {y : MethodName} {bytes : ByteArray} {maxL nL n index f L : Nat} {ret : Option FieldType} {wsy wsy' Ts : List Cond} {own : String} {As : List Value} {Dg : va_G} {cI : ClassId} {w0 : va_W} {A0 : Nat → Prop} {H0 : Heap} {h : Nat} {na ta : Nat → Nat} {G G1 G2 G9 : z_GG} {D D1 D2 D9 : z_DD}
theorem z_ec_i {v v' : Int32} (hv : v = v') (hP : va_P Dg vwCl (z_cW cI h na ta G2 D2 G9 D9) H) (hS : va_S (z_in w0) s.heap H locs) (hx : p.tables.exec = Jvm.exec) (hb : c.code = cc) (hr : meth.sig.returnType = some .int) (hlk : meth.locks = false) (hdg : decode cc pc = .ok (.ireturn, 1)) : W p l e R s m args below meth c H locs 0 0 (MQ below (z_Qc (some (.int v')) Dg cI h na ta G2 D2 w0) args s 0 0 (z_in w0)) (F0 m pc ls [.int v]) := by
  subst hv
  exact W.iret hx hb hr (fun t ht _ => ⟨rfl, ⟨G9, D9, by rw [ht]; exact hP⟩, hS.F ht⟩) hS.2.2 hdg hlk
theorem z_ec_l {v v' : Int64} (hv : v = v') (hP : va_P Dg vwCl (z_cW cI h na ta G2 D2 G9 D9) H) (hS : va_S (z_in w0) s.heap H locs) (hx : p.tables.exec = Jvm.exec) (hb : c.code = cc) (hr : meth.sig.returnType = some .long) (hlk : meth.locks = false) (hdg : decode cc pc = .ok (.lreturn, 1)) : W p l e R s m args below meth c H locs 0 0 (MQ below (z_Qc (some (.long v')) Dg cI h na ta G2 D2 w0) args s 0 0 (z_in w0)) (F0 m pc ls [.long v]) := by
  subst hv
  exact W.lret hx hb hr (fun t ht _ => ⟨rfl, ⟨G9, D9, by rw [ht]; exact hP⟩, hS.F ht⟩) hS.2.2 hdg hlk
theorem z_kwC {a : Array Value} {o : Option Value} (hr : va_Run p l e R s m args below meth c H locs cells slots 0 0 (F0 m pc ls st0) rest (z_Qc o Dg cI h na ta G2 D2 (z_cW cI h na ta G D G1 D1) a) (z_in (z_cW cI h na ta G D G1 D1))) (hP : va_P Dg vwCl (z_cW cI h na ta G D G1 D1) H) (hD : va_D A0 (z_cW cI h na ta G D G1 D1)) (hS : va_S A0 H0 H locs)
    (kk : ∀ (G9 : z_GG) (D9 : z_DD) (H1 : Heap) (locs1 : List Loc), va_P Dg vwCl (z_cW cI h na ta G2 D2 G9 D9) H1 → va_D A0 (z_cW cI h na ta G2 D2 G9 D9) → va_S A0 H0 H1 locs1 → W p l e R s m args below meth c H1 locs1 cells slots Q (F0 m (pc + 3) ls (o.toList ++ rest))) : W p l e R s m args below meth c H locs cells slots Q (F0 m pc ls st0) := by
  intro T hT X
  obtain ⟨v, st₀, t, T', L, h0, X', hL, e1, e2, ⟨hv, ⟨G9, D9, hP1⟩, hz, hk⟩, st⟩ := hr T hT X
  cases hv
  rw [h0] at hz hk
  have hin : ∀ q, z_in (z_cW cI h na ta G D G1 D1) q → A0 q := fun q ⟨k, e, h⟩ => hD.2 k _ h
  have hD2 : va_D A0 (z_cW cI h na ta G2 D2 G9 D9) := z_Dsame (ws := z_cW cI h na ta G D G1 D1) hD rfl
  obtain ⟨t2, a1, b1⟩ := kk G9 D9 T'.heap (locs ++ L) (by rw [e1]; exact hP1) hD2
    ⟨Nat.le_trans hS.1 (by rw [e1]; exact hz), fun q h1 h2 => by rw [e1, hk q (Nat.lt_of_lt_of_le h1 hS.1) (fun z => h2 (hin q z))]; exact hS.2.1 q h1 h2, fun q hq => by
      rcases List.mem_append.mp hq with h | h
      · exact hS.2.2 q h
      · exact hin _ (hL q h)⟩ T' rfl X'
  exact ⟨t2, st t2 a1, b1⟩
theorem z_wCi {v : Int32} (rest : List Value) (hx : p.tables.exec = Jvm.exec) (hb : c.code = cc) (hml : c.maxLocals = nL) (hown : s.vm.findClass own = some m.cls) (hts : ∀ w ∈ Ts, w.before args s = true) (hM : z_Mc l y wsy f L (.ref h :: As) Dg cI h na ta G D G1 D1 (some (.int v)) G2 D2) (hT : GoodIn Ts (wsV own index RX2 y wsy)) (hw : wsy = Cond.code y bytes maxL ret :: wsy') (hd : y.cls = RX2 ∧ y.cls ≠ "java/lang/invoke/MethodHandle" ∧ y.cls ≠ "java/lang/invoke/VarHandle" ∧ (parseMethodDescriptor y.desc).map (fun d => d.parameters.length) = some n) (hR : f + 1 ≤ R.frames ∧ 8 + (maxL + 11) + L ≤ R.locals)
    (hK : va_K Dg vwCl [(cI, .int)] s) (hN : z_N s) (hP : va_P Dg vwCl (z_cW cI h na ta G D G1 D1) H) (hD : va_D A0 (z_cW cI h na ta G D G1 D1)) (hS : va_S A0 H0 H locs) (hn : As.length = n) (hsize : ls.size = nL) (hst : st0 = As.reverse ++ .ref h :: rest) (hW : (rest.map fun v => v.category).sum ≤ 8)
    (hdg : decode cc pc = .ok (.invokevirtual index, 3)) (hf : cells ≤ R.cells ∧ slots ≤ R.slots)
    (kk : ∀ (G9 : z_GG) (D9 : z_DD) (H1 : Heap) (locs1 : List Loc), va_P Dg vwCl (z_cW cI h na ta G2 D2 G9 D9) H1 → va_D A0 (z_cW cI h na ta G2 D2 G9 D9) → va_S A0 H0 H1 locs1 → W p l e R s m args below meth c H1 locs1 cells slots Q (F0 m (pc + 3) ls (.int v :: rest))) : W p l e R s m args below meth c H locs cells slots Q (F0 m pc ls st0) :=
  z_kwC (va_runV (As := As) (rest := rest) ⟨hx, hb, hml, hown, hts⟩ hM (cwV n hts hT hw rfl rfl hd hR) ⟨z_Pw.blind, va_recv (ci := 2) (q0 := 0) hK hP rfl rfl, fun U hU hW => ⟨rfl, by rw [hU]; exact hP, z_K.warm hW ⟨hK, hN⟩, hD.weaken (fun _ _ _ _ => trivial)⟩⟩ rfl hn hsize hst (lv_room hW) hdg hf) hP hD hS kk
theorem z_wCl {v : Int64} (rest : List Value) (hx : p.tables.exec = Jvm.exec) (hb : c.code = cc) (hml : c.maxLocals = nL) (hown : s.vm.findClass own = some m.cls) (hts : ∀ w ∈ Ts, w.before args s = true) (hM : z_Mc l y wsy f L (.ref h :: As) Dg cI h na ta G D G1 D1 (some (.long v)) G2 D2) (hT : GoodIn Ts (wsV own index RX2 y wsy)) (hw : wsy = Cond.code y bytes maxL ret :: wsy') (hd : y.cls = RX2 ∧ y.cls ≠ "java/lang/invoke/MethodHandle" ∧ y.cls ≠ "java/lang/invoke/VarHandle" ∧ (parseMethodDescriptor y.desc).map (fun d => d.parameters.length) = some n) (hR : f + 1 ≤ R.frames ∧ 8 + (maxL + 11) + L ≤ R.locals)
    (hK : va_K Dg vwCl [(cI, .int)] s) (hN : z_N s) (hP : va_P Dg vwCl (z_cW cI h na ta G D G1 D1) H) (hD : va_D A0 (z_cW cI h na ta G D G1 D1)) (hS : va_S A0 H0 H locs) (hn : As.length = n) (hsize : ls.size = nL) (hst : st0 = As.reverse ++ .ref h :: rest) (hW : (rest.map fun v => v.category).sum ≤ 8)
    (hdg : decode cc pc = .ok (.invokevirtual index, 3)) (hf : cells ≤ R.cells ∧ slots ≤ R.slots)
    (kk : ∀ (G9 : z_GG) (D9 : z_DD) (H1 : Heap) (locs1 : List Loc), va_P Dg vwCl (z_cW cI h na ta G2 D2 G9 D9) H1 → va_D A0 (z_cW cI h na ta G2 D2 G9 D9) → va_S A0 H0 H1 locs1 → W p l e R s m args below meth c H1 locs1 cells slots Q (F0 m (pc + 3) ls (.long v :: rest))) : W p l e R s m args below meth c H locs cells slots Q (F0 m pc ls st0) :=
  z_kwC (va_runV (As := As) (rest := rest) ⟨hx, hb, hml, hown, hts⟩ hM (cwV n hts hT hw rfl rfl hd hR) ⟨z_Pw.blind, va_recv (ci := 2) (q0 := 0) hK hP rfl rfl, fun U hU hW => ⟨rfl, by rw [hU]; exact hP, z_K.warm hW ⟨hK, hN⟩, hD.weaken (fun _ _ _ _ => trivial)⟩⟩ rfl hn hsize hst (lv_room hW) hdg hf) hP hD hS kk
end ZCC
theorem z_pred {n : Nat} (h : 0 < n) : nI n - 1 = nI (n - 1) := by
  obtain ⟨k, rfl⟩ : ∃ k, n = k + 1 := ⟨n - 1, by omega⟩
  exact nI_pred k
theorem z_P0 {Dg : va_G} {cl : List vw_C} {H : Heap} : va_P Dg cl ([] : va_W) H := fun k q h => by simp at h
/-! THE MODEL -/
def z_nw (D : z_DD) : Nat → Int32 := fun j => if j = 0 then z_dy D else if j < 7 then z_sw D (j - 1) else if j < 13 then z_bI (z_rc D (j - 7)) else if j < 73 then nI (z_pl D (j - 13) - 1) else z_vc D (j - 73)
abbrev z_mX (cI : ClassId) (a : Nat → Nat) (th n1 n2 n3 n4 : Int32) (f0 f1 f2 f3 f4 f5 f6 : Nat → Int32) : va_W :=
  [(a 0, .inr (3, [.int th, .int n1, .int n2, .int n3, .int n4, .ref (a 1), .ref (a 2), .ref (a 3), .ref (a 4), .ref (a 5), .ref (a 6), .ref (a 7)])),
   (a 1, .inl (cI, 6, .inl f0)), (a 2, .inl (cI, 6, .inl f1)), (a 3, .inl (cI, 4, .inl f2)), (a 4, .inl (cI, 60, .inl f3)), (a 5, .inl (cI, 60, .inl f4)), (a 6, .inl (cI, 133, .inl f5)), (a 7, .inl (cI, 133, .inl f6))]
abbrev z_mW (cI : ClassId) (a : Nat → Nat) (th : Int32) (G : z_GG) (D : z_DD) (K : Nat → Int32) : va_W := z_mX cI a th (nI (z_bc G)) (nI (z_tc G)) (nI (z_sd G)) (nI (z_od G)) (z_v0 G) (z_lk G) (z_wm G) (fun i => nI (z_bt G i)) (fun i => nI (z_sh G i)) (z_nw D) K
theorem z_nw_st (D : z_DD) {t : Nat} (h : t < 60) : z_nw D (13 + t) = nI (z_pl D t - 1) := by
  rw [z_nw, if_neg (by omega), if_neg (by omega), if_neg (by omega), if_pos (by omega), Nat.add_sub_cancel_left]
theorem z_nw_vc (D : z_DD) (t : Nat) : z_nw D (73 + t) = z_vc D t := by
  rw [z_nw, if_neg (by omega), if_neg (by omega), if_neg (by omega), if_neg (by omega), Nat.add_sub_cancel_left]
theorem z_nw_sw (D : z_DD) {b : Nat} (h : b < 6) : z_nw D (1 + b) = z_sw D b := by
  rw [z_nw, if_neg (by omega), if_pos (by omega), Nat.add_sub_cancel_left]
theorem z_nw_rc (D : z_DD) {b : Nat} (h : b < 6) : z_nw D (7 + b) = z_bI (z_rc D b) := by
  rw [z_nw, if_neg (by omega), if_neg (by omega), if_pos (by omega), Nat.add_sub_cancel_left]
theorem z_nw_dy (D : z_DD) : z_nw D 0 = z_dy D := by rw [z_nw, if_pos rfl]
theorem z_nu_pl (D : z_DD) {t : Nat} (x y : Nat) (h : t < 60) (hy : y - 1 = x) : upd (z_nw D) (13 + t) (nI x) = z_nw (z_setpl D t y) := by
  funext j
  show (if j = 13 + t then nI x else z_nw D j) = if j = 0 then z_dy D else if j < 7 then z_sw D (j - 1) else if j < 13 then z_bI (z_rc D (j - 7)) else if j < 73 then nI (va_up (z_pl D) t y (j - 13) - 1) else z_vc D (j - 73)
  by_cases e : j = 13 + t
  · rw [if_pos e, if_neg (by omega), if_neg (by omega), if_neg (by omega), if_pos (by omega), show j - 13 = t by omega, z_up_eq, hy]
  · rw [if_neg e]
    by_cases e2 : j < 13
    · unfold z_nw
      simp only [if_pos e2]
    · unfold z_nw
      simp only [if_neg e2, z_up_ne _ _ (show j - 13 ≠ t by omega)]
theorem z_nu_vc (D : z_DD) (t : Nat) (v : Int32) : upd (z_nw D) (73 + t) v = z_nw (z_setvc D t v) := by
  funext j
  show (if j = 73 + t then v else z_nw D j) = if j = 0 then z_dy D else if j < 7 then z_sw D (j - 1) else if j < 13 then z_bI (z_rc D (j - 7)) else if j < 73 then nI (z_pl D (j - 13) - 1) else upd (z_vc D) t v (j - 73)
  by_cases e : j = 73 + t
  · rw [if_pos e, if_neg (by omega), if_neg (by omega), if_neg (by omega), if_neg (by omega), show j - 73 = t by omega, z_upd_eq]
  · rw [if_neg e]
    by_cases e2 : j < 73
    · unfold z_nw
      simp only [if_pos e2]
    · unfold z_nw
      simp only [if_neg e2, upd, if_neg (show ¬ j - 73 = t by omega)]
theorem z_nu_sw (D : z_DD) {b : Nat} (h : b < 6) : upd (z_nw D) (1 + b) (z_sw D b + 1) = z_nw (z_addsw D b) := by
  funext j
  show (if j = 1 + b then z_sw D b + 1 else z_nw D j) = if j = 0 then z_dy D else if j < 7 then (if j - 1 = b then z_sw D b + 1 else z_sw D (j - 1)) else if j < 13 then z_bI (z_rc D (j - 7)) else if j < 73 then nI (z_pl D (j - 13) - 1) else z_vc D (j - 73)
  by_cases e : j = 1 + b
  · rw [if_pos e, if_neg (by omega), if_pos (by omega), if_pos (show j - 1 = b by omega)]
  · rw [if_neg e]
    by_cases e2 : j = 0
    · rw [if_pos e2, e2]
      exact z_nw_dy D
    · unfold z_nw
      rw [if_neg e2, if_neg e2, if_neg (show ¬ j - 1 = b by omega)]
theorem z_nu_rc (D : z_DD) {b : Nat} (h : b < 6) : upd (z_nw D) (7 + b) 1 = z_nw (z_setrc D b) := by
  funext j
  show (if j = 7 + b then 1 else z_nw D j) = if j = 0 then z_dy D else if j < 7 then z_sw D (j - 1) else if j < 13 then z_bI (if j - 7 = b then true else z_rc D (j - 7)) else if j < 73 then nI (z_pl D (j - 13) - 1) else z_vc D (j - 73)
  by_cases e : j = 7 + b
  · rw [if_pos e, if_neg (by omega), if_neg (by omega), if_pos (by omega), if_pos (show j - 7 = b by omega)]
    rfl
  · rw [if_neg e]
    by_cases e2 : j < 7
    · unfold z_nw
      simp only [if_pos e2]
    · unfold z_nw
      simp only [if_neg e2, if_neg (show ¬ j - 7 = b by omega)]
theorem z_nu_dy (D : z_DD) (x : Int32) : upd (z_nw D) 0 x = z_nw (z_setdy D x) := by
  funext j
  show (if j = 0 then x else z_nw D j) = if j = 0 then x else if j < 7 then z_sw D (j - 1) else if j < 13 then z_bI (z_rc D (j - 7)) else if j < 73 then nI (z_pl D (j - 13) - 1) else z_vc D (j - 73)
  by_cases e : j = 0
  · rw [if_pos e, if_pos e]
  · rw [if_neg e, if_neg e]
    unfold z_nw
    rw [if_neg e]
theorem z_oi_m {k : Nat} (hk : k ≤ 60) (h : z_oi k = -1) : k = 0 := by
  cases k with
  | zero => rfl
  | succ n => exact absurd h (z_nm1 (by omega))
theorem z_oi_n {k : Nat} (h : ¬ z_oi k = -1) : 0 < k := by
  cases k with
  | zero => exact absurd rfl h
  | succ n => omega
theorem z_oi_s {k : Nat} (h : 0 < k) : z_oi k = nI (k - 1) := by
  cases k with
  | zero => exact absurd h (Nat.lt_irrefl 0)
  | succ n => rfl
theorem z_mx_0 {x : Int32} (h : ¬ 0 < z_mx x) : z_mx x = 0 := by
  unfold z_mx at h ⊢
  split
  · rename_i q
    rw [if_pos q] at h
    exact absurd q h
  · rfl
theorem z_ky_0 {G : z_GG} {D : z_DD} {o t : Nat} (h : o = 0) : nI t = z_ky G D o t := by rw [z_ky, if_neg (by omega), if_neg (by omega)]
theorem z_ky_1 {G : z_GG} {D : z_DD} {o t : Nat} (h : o = 1) : 60 * z_vc D t + nI t = z_ky G D o t := by rw [z_ky, if_pos h, Int32.mul_comm]
theorem z_ky_2 {G : z_GG} {D : z_DD} {o t : Nat} (h : o = 2) : 60 * (3 - z_wm G (z_sh G t)) + nI t = z_ky G D o t := by rw [z_ky, if_neg (by omega), if_pos h, Int32.mul_comm]
/-- a place below a bound, or none -/
theorem z_spl (x : Int32) (n : Nat) (hn : n < 2 ^ 31) : (∃ k, k < n ∧ x = nI k) ∨ ¬ (0 ≤ x ∧ x ≤ nI n - 1) := by
  rcases pk_ix x hn with h | h | h
  · exact Or.inr (fun q => z_i32_nle h q.1)
  · cases n with
    | zero =>
      refine Or.inr (fun q => ?_)
      have h2 := q.2
      rw [nI_0, Int32.le_iff_toInt_le] at h2
      have h1 := q.1
      rw [Int32.le_iff_toInt_le] at h1
      have e0 : (0 : Int32).toInt = 0 := by decide
      have e1 : ((0 : Int32) - 1).toInt = -1 := by decide
      rw [e1] at h2
      rw [e0] at h1
      omega
    | succ m =>
      refine Or.inr (fun q => ?_)
      have h2 := q.2
      rw [nI_pred, Int32.le_iff_toInt_le, nI_toInt (by omega)] at h2
      rw [Int32.le_iff_toInt_le, nI_toInt (by omega)] at h
      omega
  · obtain ⟨k, h1, h2⟩ := h
    exact Or.inl ⟨k, h1, h2⟩
theorem z_spl1 (x : Int32) (lo hi : Nat) (hn : hi < 2 ^ 30) (hlo : lo ≤ hi) : (∃ k, lo ≤ k ∧ k ≤ hi ∧ x = nI k) ∨ ¬ (nI lo ≤ x ∧ x ≤ nI hi) := by
  rcases pk_ix x (n := hi + 1) (by omega) with h | h | h
  · refine Or.inr (fun q => z_i32_nle h ?_)
    have := q.1
    rw [Int32.le_iff_toInt_le, nI_toInt (by omega)] at this
    rw [Int32.le_iff_toInt_le]
    have e0 : (0 : Int32).toInt = 0 := by decide
    rw [e0]
    omega
  · refine Or.inr (fun q => ?_)
    have h2 := q.2
    rw [Int32.le_iff_toInt_le, nI_toInt (by omega)] at h2 h
    omega
  · obtain ⟨k, h1, h2⟩ := h
    by_cases hk : lo ≤ k
    · exact Or.inl ⟨k, hk, by omega, h2⟩
    · refine Or.inr (fun q => ?_)
      have := q.1
      rw [h2] at this
      exact hk (z_le (by omega) (by omega) this)
theorem z_cpy (f g : Nat → Int32) (n : Nat) : ∀ j, j < n → va_cpy f g 0 0 n j = f j := by
  intro j hj
  simp [va_cpy, hj]
theorem z_sp_s {D : z_DD} {k : Nat} (h : 0 < k) : z_sp D k = z_setpl D (k - 1) 2 := by
  cases k with
  | zero => exact absurd h (Nat.lt_irrefl 0)
  | succ n => rfl
theorem z_wv_0 {G : z_GG} {D : z_DD} {t : Nat} (h : z_wv G D t ≤ 0) : z_wv G D t = 0 := z_mx_0 (z_i32_nlt h)
