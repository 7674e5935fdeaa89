/-! facts for the walks of Sim -/
def q_B (G : z_GG) : Prop := ∀ t, t < z_tc G → z_bt G t < z_bc G
def q_V (G : z_GG) (D : z_DD) : Prop := ∀ t, t < z_tc G → 0 ≤ z_vc D t ∧ z_vc D t ≤ 99
theorem q_fst {cI cR : ClassId} {sa rb rt : Nat → Nat} {G G' : z_GG} {D D' : z_DD} (h1 : z_bc G' = z_bc G) (h2 : z_tc G' = z_tc G) : (q_W cI cR sa rb rt G' D').map Prod.fst = (q_W cI cR sa rb rt G D).map Prod.fst := by
  unfold q_W q_bs q_ts q_rw
  rw [h1, h2]
  simp [Function.comp_def]
theorem q_nilP {Dg : va_G} {cl : List vw_C} {pre w : va_W} {H : Heap} (h : va_P Dg cl (pre ++ w) H) : va_P Dg cl (pre ++ (w ++ [])) H := by rw [List.append_nil]; exact h
theorem q_nilD {A : Nat → Prop} {pre w : va_W} (h : va_D A (pre ++ w)) : va_D A (pre ++ (w ++ [])) := by rw [List.append_nil]; exact h
theorem q_pl_eq {G : z_GG} {D : z_DD} {i : Nat} (hW : z_WD G D) (hi : i < z_tc G) (h : nI (z_pl D i - 1) = 0) : z_pl D i = 1 := by
  have := hW i hi
  have e := z_eq (a := z_pl D i - 1) (b := 0) (by omega) (by decide) h
  omega
theorem q_pl_ne {G : z_GG} {D : z_DD} {i : Nat} (hW : z_WD G D) (hi : i < z_tc G) (h : ¬ nI (z_pl D i - 1) = 0) : ¬ z_pl D i = 1 := by
  intro e
  rw [e] at h
  exact h (by decide)
theorem q_pl_y {G : z_GG} {D : z_DD} {i y : Nat} (hW : z_WD G D) (hi : i < z_tc G) (h : z_pl D i - 1 = y) : z_pl D i = y + 1 := by
  have := hW i hi
  omega
theorem q_pl_ny {G : z_GG} {D : z_DD} {i y : Nat} (_ : z_WD G D) (_ : i < z_tc G) (h : ¬ nI (z_pl D i - 1) = nI y) : z_pl D i ≠ y + 1 := by
  intro e
  rw [e] at h
  exact h rfl
/-- a tin is shipped ahead of a later one -/
def q_ahd (G : z_GG) (D : z_DD) (o t u : Nat) : Bool := if o = 0 then true else if o = 1 then decide (z_vc D t ≤ z_vc D u) else decide (z_wm G (z_sh G u) ≤ z_wm G (z_sh G t))
section QAH
variable {G : z_GG} {D : z_DD} {o t u : Nat}
theorem q_ah0 (_ : o < 3) (h : nI o = 0) : 1 = z_bI (q_ahd G D o t u) := by
  have e : o = 0 := z_eq (b := 0) (by omega) (by decide) h
  rw [q_ahd, if_pos e]
  rfl
theorem q_o0 (_ : o < 3) (h : ¬ nI o = 0) : ¬ o = 0 := fun e => h (by rw [e]; decide)
theorem q_ah1t (ho : o < 3) (h : ¬ nI o = 0) (h1 : nI o = nI 1) (c : z_vc D u < z_vc D t) : 0 = z_bI (q_ahd G D o t u) := by
  rw [q_ahd, if_neg (q_o0 ho h), if_pos (z_eq (by omega) (by decide) h1), z_dec_f (z_i32_nle c)]
  rfl
theorem q_ah1f (ho : o < 3) (h : ¬ nI o = 0) (h1 : nI o = nI 1) (c : ¬ z_vc D u < z_vc D t) : 1 = z_bI (q_ahd G D o t u) := by
  rw [q_ahd, if_neg (q_o0 ho h), if_pos (z_eq (by omega) (by decide) h1), z_dec_t (z_i32_le c)]
  rfl
theorem q_ah2t (ho : o < 3) (h : ¬ nI o = 0) (h1 : ¬ nI o = nI 1) (c : z_wm G (z_sh G t) < z_wm G (z_sh G u)) : 0 = z_bI (q_ahd G D o t u) := by
  rw [q_ahd, if_neg (q_o0 ho h), if_neg (z_ne (by omega) (by decide) h1), z_dec_f (z_i32_nle c)]
  rfl
theorem q_ah2f (ho : o < 3) (h : ¬ nI o = 0) (h1 : ¬ nI o = nI 1) (c : ¬ z_wm G (z_sh G t) < z_wm G (z_sh G u)) : 1 = z_bI (q_ahd G D o t u) := by
  rw [q_ahd, if_neg (q_o0 ho h), if_neg (z_ne (by omega) (by decide) h1), z_dec_t (z_i32_le c)]
  rfl
end QAH
theorem q_mulI {x y : Int32} (h1 : -2147483648 ≤ x.toInt * y.toInt) (h2 : x.toInt * y.toInt < 2147483648) : (x * y).toInt = x.toInt * y.toInt := by rw [Int32.toInt_mul, z_bmod h1 h2]
theorem q_subI {x y : Int32} (h1 : -2147483648 ≤ x.toInt - y.toInt) (h2 : x.toInt - y.toInt < 2147483648) : (x - y).toInt = x.toInt - y.toInt := by rw [Int32.toInt_sub, z_bmod h1 h2]
theorem q_b99 {x : Int32} (h : 0 ≤ x ∧ x ≤ 99) : 0 ≤ x.toInt ∧ x.toInt ≤ 99 := by
  have e0 : (0 : Int32).toInt = 0 := by decide
  have e1 : (99 : Int32).toInt = 99 := by decide
  rw [Int32.le_iff_toInt_le, Int32.le_iff_toInt_le, e0, e1] at h
  exact h
theorem q_b3 {x : Int32} (h : 0 ≤ x ∧ x ≤ 3) : 0 ≤ x.toInt ∧ x.toInt ≤ 3 := by
  have e0 : (0 : Int32).toInt = 0 := by decide
  have e1 : (3 : Int32).toInt = 3 := by decide
  rw [Int32.le_iff_toInt_le, Int32.le_iff_toInt_le, e0, e1] at h
  exact h
theorem q_b5 {x : Int32} (h : 0 ≤ x ∧ x ≤ 5) : 0 ≤ x.toInt ∧ x.toInt ≤ 5 := by
  have e0 : (0 : Int32).toInt = 0 := by decide
  have e1 : (5 : Int32).toInt = 5 := by decide
  rw [Int32.le_iff_toInt_le, Int32.le_iff_toInt_le, e0, e1] at h
  exact h
theorem q_ky1 {G : z_GG} {D : z_DD} {t : Nat} (hG : z_WG G) (hV : q_V G D) (ht : t < z_tc G) : (z_ky G D 1 t).toInt = (z_vc D t).toInt * 60 + t := by
  have htc : z_tc G ≤ 60 := hG.2.2.2.2.2.1
  have h := q_b99 (hV t ht)
  have e60 : (60 : Int32).toInt = 60 := by decide
  have m : (z_vc D t * 60).toInt = (z_vc D t).toInt * 60 := by rw [q_mulI (by rw [e60]; omega) (by rw [e60]; omega), e60]
  have et : (nI t).toInt = (t : Int) := nI_toInt (by omega)
  rw [z_ky, if_pos rfl, z_addI (by rw [m, et]; omega) (by rw [m, et]; omega), m, et]
theorem q_ky2 {G : z_GG} {D : z_DD} {t : Nat} (hG : z_WG G) (ht : t < z_tc G) : (z_ky G D 2 t).toInt = (3 - (z_wm G (z_sh G t)).toInt) * 60 + t := by
  have htc : z_tc G ≤ 60 := hG.2.2.2.2.2.1
  have h := q_b3 (hG.1 (z_sh G t))
  have e60 : (60 : Int32).toInt = 60 := by decide
  have e3 : (3 : Int32).toInt = 3 := by decide
  have s : (3 - z_wm G (z_sh G t)).toInt = 3 - (z_wm G (z_sh G t)).toInt := by rw [q_subI (by rw [e3]; omega) (by rw [e3]; omega), e3]
  have m : ((3 - z_wm G (z_sh G t)) * 60).toInt = (3 - (z_wm G (z_sh G t)).toInt) * 60 := by rw [q_mulI (by rw [e60, s]; omega) (by rw [e60, s]; omega), e60, s]
  have et : (nI t).toInt = (t : Int) := nI_toInt (by omega)
  rw [z_ky, if_neg (by decide), if_pos rfl, z_addI (by rw [m, et]; omega) (by rw [m, et]; omega), m, et]
theorem q_ky0 {G : z_GG} {D : z_DD} {t : Nat} (hG : z_WG G) (ht : t < z_tc G) : (z_ky G D 0 t).toInt = (t : Int) := by
  have htc : z_tc G ≤ 60 := hG.2.2.2.2.2.1
  rw [z_ky, if_neg (by decide), if_neg (by decide)]
  exact nI_toInt (by omega)
theorem q_ahd_iff {G : z_GG} {D : z_DD} {o u t : Nat} (hG : z_WG G) (hV : q_V G D) (ho : o < 3) (hu : u < t) (ht : t < z_tc G) : q_ahd G D o u t = true ↔ ¬ z_ky G D o t < z_ky G D o u := by
  have htc : z_tc G ≤ 60 := hG.2.2.2.2.2.1
  rw [Int32.lt_iff_toInt_lt]
  have h3 : o = 0 ∨ o = 1 ∨ o = 2 := by omega
  rcases h3 with e | e | e <;> subst e
  · rw [q_ky0 hG ht, q_ky0 hG (by omega), q_ahd, if_pos rfl]
    exact ⟨fun _ => by omega, fun _ => rfl⟩
  · rw [q_ky1 hG hV ht, q_ky1 hG hV (by omega), q_ahd, if_neg (by decide), if_pos rfl, decide_eq_true_iff, Int32.le_iff_toInt_le]
    omega
  · rw [q_ky2 hG ht, q_ky2 hG (by omega), q_ahd, if_neg (by decide), if_neg (by decide), decide_eq_true_iff, Int32.le_iff_toInt_le]
    omega
theorem q_nahd {G : z_GG} {D : z_DD} {o u t : Nat} (hG : z_WG G) (hV : q_V G D) (ho : o < 3) (hu : u < t) (ht : t < z_tc G) (h : q_ahd G D o u t = false) : z_ky G D o t < z_ky G D o u := by
  by_cases q : z_ky G D o t < z_ky G D o u
  · exact q
  · rw [(q_ahd_iff hG hV ho hu ht).mpr q] at h
    exact absurd h (by decide)
theorem q_rt_b {G : z_GG} (hG : z_WG G) (t s : Nat) : 0 ≤ (z_rt G t s).toInt ∧ (z_rt G t s).toInt ≤ 8 := by
  have h1 := q_b5 (hG.2.1 (z_bt G t))
  have h2 := q_b3 (hG.1 s)
  unfold z_rt
  rw [z_addI (by omega) (by omega)]
  omega
/-- what is left of a vacuum, day by day; in how many days it is gone -/
def q_lf (v r : Int32) : Nat → Int32
  | 0 => v
  | n + 1 => q_lf v r n - r
theorem q_lf_0 (v r : Int32) : q_lf v r 0 = v := rfl
theorem q_lf_s (v r : Int32) (n : Nat) : q_lf v r n - r = q_lf v r (n + 1) := rfl
def q_dm (v r : Int32) : Nat := if v.toInt ≤ 0 then 0 else if r.toInt ≤ 0 then 999 else ((v.toInt + r.toInt - 1) / r.toInt).toNat
theorem q_r8 {r : Int32} (h : 0 ≤ r.toInt ∧ r.toInt ≤ 8) : r.toInt = 0 ∨ r.toInt = 1 ∨ r.toInt = 2 ∨ r.toInt = 3 ∨ r.toInt = 4 ∨ r.toInt = 5 ∨ r.toInt = 6 ∨ r.toInt = 7 ∨ r.toInt = 8 := by omega
theorem q_lf_i {v r : Int32} (hr : 0 ≤ r.toInt ∧ r.toInt ≤ 8) (hv : 0 ≤ v.toInt ∧ v.toInt ≤ 99) : ∀ i : Nat, i ≤ 999 → (q_lf v r i).toInt = v.toInt - (i : Int) * r.toInt
  | 0, _ => by
    show v.toInt = _
    omega
  | n + 1, h => by
    have ih := q_lf_i hr hv n (by omega)
    show (q_lf v r n - r).toInt = _
    rcases q_r8 hr with e | e | e | e | e | e | e | e | e <;>
      (rw [e] at ih ⊢
       rw [q_subI (by rw [ih, e]; omega) (by rw [ih, e]; omega), ih, e]
       omega)
theorem q_dm_z {v r : Int32} (h : v.toInt ≤ 0) : q_dm v r = 0 := if_pos h
theorem q_dm_n {v r : Int32} (h : ¬ v.toInt ≤ 0) (e : r.toInt = 0) : q_dm v r = 999 := by rw [q_dm, if_neg h, if_pos (by omega)]
theorem q_dm_d {v r : Int32} {k : Int} (h : ¬ v.toInt ≤ 0) (e : r.toInt = k) (hk : 0 < k) : q_dm v r = ((v.toInt + k - 1) / k).toNat := by rw [q_dm, if_neg h, if_neg (by omega), e]
theorem q_dm_le {v r : Int32} (hr : 0 ≤ r.toInt ∧ r.toInt ≤ 8) (h1 : 0 ≤ v) (h2 : v ≤ 99) : q_dm v r ≤ 999 := by
  have hv := q_b99 ⟨h1, h2⟩
  by_cases h : v.toInt ≤ 0
  · rw [q_dm_z h]; omega
  · rcases q_r8 hr with e | e | e | e | e | e | e | e | e <;> first | (rw [q_dm_n h e]; omega) | (rw [q_dm_d h e (by decide)]; omega)
theorem q_dm_lt {v r : Int32} {i : Nat} (hr : 0 ≤ r.toInt ∧ r.toInt ≤ 8) (h1 : 0 ≤ v) (h2 : v ≤ 99) (hi : i ≤ q_dm v r) (hi9 : i ≤ 999) (c : ¬ q_lf v r i ≤ 0) (c2 : ¬ nI 999 ≤ nI i) : i < q_dm v r := by
  have hv := q_b99 ⟨h1, h2⟩
  have h9 : i < 999 := z_nle (by omega) c2
  have e0 : (0 : Int32).toInt = 0 := by decide
  rw [Int32.le_iff_toInt_le, e0, q_lf_i hr hv i (by omega)] at c
  clear hi
  by_cases h : v.toInt ≤ 0
  · rcases q_r8 hr with e | e | e | e | e | e | e | e | e <;> rw [e] at c <;> omega
  · rcases q_r8 hr with e | e | e | e | e | e | e | e | e <;> rw [e] at c <;> first | (rw [q_dm_n h e]; omega) | (rw [q_dm_d h e (by decide)]; omega)
theorem q_dm_e {v r : Int32} {i : Nat} (hr : 0 ≤ r.toInt ∧ r.toInt ≤ 8) (h1 : 0 ≤ v) (h2 : v ≤ 99) (hi : i ≤ q_dm v r) (c : q_lf v r i ≤ 0) : i = q_dm v r := by
  have hv := q_b99 ⟨h1, h2⟩
  have hd := q_dm_le hr h1 h2
  have e0 : (0 : Int32).toInt = 0 := by decide
  rw [Int32.le_iff_toInt_le, e0, q_lf_i hr hv i (by omega)] at c
  by_cases h : v.toInt ≤ 0
  · rw [q_dm_z h] at hi ⊢; omega
  · rcases q_r8 hr with e | e | e | e | e | e | e | e | e <;> rw [e] at c <;> first | (rw [q_dm_d h e (by decide)] at hi ⊢; omega) | (exfalso; omega)
theorem q_dm_m {v r : Int32} {i : Nat} (hr : 0 ≤ r.toInt ∧ r.toInt ≤ 8) (h1 : 0 ≤ v) (h2 : v ≤ 99) (hi : i ≤ q_dm v r) (c : nI 999 ≤ nI i) : i = q_dm v r := by
  have hd := q_dm_le hr h1 h2
  have h9 : 999 ≤ i := z_le (by decide) (by omega) c
  omega
