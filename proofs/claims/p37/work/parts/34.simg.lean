/-! more facts for Sim: what a day keeps; a row of rows grows -/
theorem q_pl_le {G : z_GG} {D : z_DD} {i : Nat} (hW : z_WD G D) (hi : i < z_tc G) (c : nI (z_pl D i - 1) ≤ 0) : z_pl D i = 1 := by
  have h := hW i hi
  have e := z_le (a := z_pl D i - 1) (b := 0) (by omega) (by decide) c
  omega
theorem q_pl_nle {D : z_DD} {i : Nat} (c : ¬ nI (z_pl D i - 1) ≤ 0) : ¬ z_pl D i = 1 := fun e => c (by rw [e]; decide)
theorem q_setvc2 (D : z_DD) (t : Nat) (x y : Int32) : z_setvc (z_setvc D t x) t y = z_setvc D t y := by
  unfold z_setvc
  have e : upd (upd (z_vc D) t x) t y = upd (z_vc D) t y := by
    funext j
    unfold upd
    split <;> rfl
  show (z_sw D, z_rc D, upd (upd (z_vc D) t x) t y, z_pl D, z_dy D) = _
  rw [e]
theorem q_wn_1 {G : z_GG} {D : z_DD} {n : Nat} (h1 : z_pl (z_wn G D n) n = 1) (c : ¬ z_vc (z_setvc (z_wn G D n) n (z_vc (z_wn G D n) n - z_rt G n (z_sh G n))) n ≤ 0) : z_wn G D (n + 1) = z_setvc (z_wn G D n) n (z_vc (z_wn G D n) n - z_rt G n (z_sh G n)) := by
  have e : z_vc (z_setvc (z_wn G D n) n (z_vc (z_wn G D n) n - z_rt G n (z_sh G n))) n = z_vc (z_wn G D n) n - z_rt G n (z_sh G n) := z_upd_eq _ _ _
  rw [e] at c
  have hp := z_i32_lt c
  have ew : z_wv G (z_wn G D n) n = z_vc (z_wn G D n) n - z_rt G n (z_sh G n) := by
    unfold z_wv z_mx
    exact if_pos hp
  rw [z_wn_1 h1 (by rw [ew]; exact z_i32_pos hp), ew]
theorem q_wn_2 {G : z_GG} {D : z_DD} {n : Nat} (h1 : z_pl (z_wn G D n) n = 1) (c : z_vc (z_setvc (z_wn G D n) n (z_vc (z_wn G D n) n - z_rt G n (z_sh G n))) n ≤ 0) : z_wn G D (n + 1) = z_addsw (z_setpl (z_setvc (z_setvc (z_wn G D n) n (z_vc (z_wn G D n) n - z_rt G n (z_sh G n))) n 0) n 3) (z_bt G n) := by
  have e : z_vc (z_setvc (z_wn G D n) n (z_vc (z_wn G D n) n - z_rt G n (z_sh G n))) n = z_vc (z_wn G D n) n - z_rt G n (z_sh G n) := z_upd_eq _ _ _
  rw [e] at c
  have ew : z_wv G (z_wn G D n) n = 0 := by
    unfold z_wv z_mx
    exact if_neg (z_i32_nlt c)
  rw [z_wn_2 h1 ew, ew, q_setvc2]
  rfl
theorem q_n3 {x : Int32} (c : x ≤ nI 2) (h : 3 ≤ x) : False := by
  rw [Int32.le_iff_toInt_le] at c h
  have e2 : (nI 2).toInt = 2 := by decide
  have e3 : (3 : Int32).toInt = 3 := by decide
  omega
theorem q_3 {x : Int32} (c : ¬ x ≤ nI 2) : 3 ≤ x := by
  rw [Int32.le_iff_toInt_le] at c ⊢
  have e2 : (nI 2).toInt = 2 := by decide
  have e3 : (3 : Int32).toInt = 3 := by decide
  omega
theorem q_b99' {x : Int32} (h : 0 ≤ x.toInt ∧ x.toInt ≤ 99) : 0 ≤ x ∧ x ≤ 99 := by
  have e0 : (0 : Int32).toInt = 0 := by decide
  have e1 : (99 : Int32).toInt = 99 := by decide
  rw [Int32.le_iff_toInt_le, Int32.le_iff_toInt_le, e0, e1]
  exact h
theorem q_wv_i {G : z_GG} {D : z_DD} {t : Nat} (hG : z_WG G) (h : 0 ≤ z_vc D t ∧ z_vc D t ≤ 99) : (z_wv G D t).toInt = if (z_vc D t).toInt - (z_rt G t (z_sh G t)).toInt ≤ 0 then 0 else (z_vc D t).toInt - (z_rt G t (z_sh G t)).toInt := by
  have hv := q_b99 h
  have hr := q_rt_b hG t (z_sh G t)
  have e0 : (0 : Int32).toInt = 0 := by decide
  have es : (z_vc D t - z_rt G t (z_sh G t)).toInt = (z_vc D t).toInt - (z_rt G t (z_sh G t)).toInt := q_subI (by omega) (by omega)
  unfold z_wv z_mx
  by_cases c : 0 < z_vc D t - z_rt G t (z_sh G t)
  · rw [if_pos c, es]
    rw [Int32.lt_iff_toInt_lt, e0, es] at c
    rw [if_neg (by omega)]
  · rw [if_neg c, e0]
    rw [Int32.lt_iff_toInt_lt, e0, es] at c
    rw [if_pos (by omega)]
theorem q_V_w1 {G : z_GG} {D : z_DD} (hG : z_WG G) (hV : q_V G D) (n : Nat) (hn : n < z_tc G) : q_V G (z_w1 G D n) := by
  have hw : 0 ≤ z_wv G D n ∧ z_wv G D n ≤ 99 := by
    apply q_b99'
    have hv := q_b99 (hV n hn)
    have hr := q_rt_b hG n (z_sh G n)
    rw [q_wv_i hG (hV n hn)]
    split <;> omega
  have h1 : q_V G (z_setvc D n (z_wv G D n)) := fun t ht => by
    show 0 ≤ upd (z_vc D) n (z_wv G D n) t ∧ upd (z_vc D) n (z_wv G D n) t ≤ 99
    unfold upd
    split
    · exact hw
    · exact hV t ht
  unfold z_w1
  split
  · split
    · exact h1
    · exact h1
  · exact hV
theorem q_V_wn {G : z_GG} {D : z_DD} (hG : z_WG G) (hV : q_V G D) : ∀ n, n ≤ z_tc G → q_V G (z_wn G D n)
  | 0, _ => hV
  | n + 1, h => q_V_w1 hG (q_V_wn hG hV n (by omega)) n (by omega)
theorem q_vc_tb {G : z_GG} {D : z_DD} {b : Nat} : ∀ n, z_vc (z_tb G b D n).2 = z_vc D
  | 0 => rfl
  | n + 1 => by
    rw [z_tb]
    split
    · exact q_vc_tb n
    · exact q_vc_tb n
theorem q_vc_rn {G : z_GG} {D : z_DD} : ∀ n, z_vc (z_rn G D n) = z_vc D
  | 0 => rfl
  | n + 1 => by
    rw [z_rn, z_r1]
    split
    · rw [z_rb, q_vc_tb]
      exact q_vc_rn n
    · exact q_vc_rn n
theorem q_vc_sp {D : z_DD} : ∀ k, z_vc (z_sp D k) = z_vc D
  | 0 => rfl
  | _ + 1 => rfl
theorem q_vc_sn {G : z_GG} {D : z_DD} : ∀ n, z_vc (z_sn G D n) = z_vc D
  | 0 => rfl
  | n + 1 => by rw [z_sn, z_s1, q_vc_sp, q_vc_sn n]
theorem q_V_rn {G : z_GG} {D : z_DD} (hV : q_V G D) (n : Nat) : q_V G (z_rn G D n) := fun t ht => by rw [q_vc_rn]; exact hV t ht
theorem q_V_sn {G : z_GG} {D : z_DD} (hV : q_V G D) (n : Nat) : q_V G (z_sn G D n) := fun t ht => by rw [q_vc_sn]; exact hV t ht
theorem q_vc_day {G : z_GG} {D : z_DD} : z_vc (z_day G D) = z_vc (z_wn G D (z_tc G)) := by
  show z_vc (z_sn G (z_rn G (z_wn G D (z_tc G)) (z_bc G)) (z_sd G)) = _
  rw [q_vc_sn, q_vc_rn]
theorem q_V_day {G : z_GG} {D : z_DD} (hG : z_WG G) (hV : q_V G D) : q_V G (z_day G D) := fun t ht => by rw [q_vc_day]; exact q_V_wn hG hV _ (Nat.le_refl _) t ht
theorem q_V_days {G : z_GG} {D : z_DD} (hG : z_WG G) (hV : q_V G D) : ∀ n, q_V G (z_days G D n)
  | 0 => hV
  | n + 1 => q_V_day hG (q_V_days hG hV n)
/-! a row of rows, filled up -/
def q_fi (r : Nat → Nat) (i : Nat) : Nat → Option Nat := fun j => if j < i then some (r j) else none
theorem q_fi_0 (r : Nat → Nat) : q_fi r 0 = fun _ => none := by
  funext j
  unfold q_fi
  rw [if_neg (by omega)]
theorem q_fi_s (r : Nat → Nat) (i : Nat) : va_up (q_fi r i) i (some (r i)) = q_fi r (i + 1) := by
  funext j
  unfold va_up q_fi
  by_cases e : j = i
  · rw [if_pos e, if_pos (by omega), e]
  · rw [if_neg e]
    by_cases e2 : j < i
    · rw [if_pos e2, if_pos (by omega)]
    · rw [if_neg e2, if_neg (by omega)]
theorem q_fi_e (r : Nat → Nat) (n b j : Nat) (h : j < n + 1) : va_up (q_fi r n) n (some b) j = some (va_up r n b j) := by
  unfold va_up q_fi
  by_cases e : j = n
  · rw [if_pos e, if_pos e]
  · rw [if_neg e, if_neg e, if_pos (by omega)]
theorem q_cellr {cA : ClassId} {n : Nat} {f g : Nat → Option Nat} (h : ∀ j, j < n → f j = g j) : vp_cell cA (n, .inr (.inr (.inr (.inr f)))) = vp_cell cA (n, .inr (.inr (.inr (.inr g)))) := by
  show arrV cA n (fun j => va_rf (f j)) = arrV cA n (fun j => va_rf (g j))
  unfold arrV
  congr 1
  exact congrArg Array.ofFn (funext fun j => congrArg va_rf (h j.val j.isLt))
theorem q_Plast {Dg : va_G} {cl : List vw_C} {w : va_W} {H : Heap} {a n : Nat} {cA : ClassId} {f g : Nat → Option Nat} (h : va_P Dg cl (w ++ [(a, .inl (cA, n, .inr (.inr (.inr (.inr f)))))]) H) (e : ∀ j, j < n → f j = g j) : va_P Dg cl (w ++ [(a, .inl (cA, n, .inr (.inr (.inr (.inr g)))))]) H := by
  refine va_P.app (z_Pl h) (fun k q hk => ?_)
  have hz : k < 1 := (List.getElem?_eq_some_iff.mp hk).1
  rw [show k = 0 by omega] at hk
  cases hk
  have := h w.length (a, .inl (cA, n, .inr (.inr (.inr (.inr f))))) (by rw [List.getElem?_append_right (by omega), Nat.sub_self]; rfl)
  show H[a]? = some (vp_cell cA (n, _))
  rw [← q_cellr e]
  exact this
theorem q_Dlast {A : Nat → Prop} {w : va_W} {a : Nat} {e e' : va_E} (h : va_D A (w ++ [(a, e)])) : va_D A (w ++ [(a, e')]) := z_Dsame h (by simp)
theorem q_last {w : va_W} {x : Nat × va_E} {n : Nat} (h : w.length = n) : (w ++ [x])[n]? = some x := by
  subst h
  rw [List.getElem?_append_right (by omega), Nat.sub_self]
  rfl
theorem q_slast {w : va_W} {x y : Nat × va_E} {n : Nat} (h : w.length = n) : (w ++ [x]).set n y = w ++ [y] := by
  subst h
  rw [List.set_append_right _ _ (by omega), Nat.sub_self]
  rfl
theorem q_inl {w v : va_W} {x : Nat × va_E} {n : Nat} (h : w[n]? = some x) : (w ++ v)[n]? = some x := by
  rw [List.getElem?_append_left (List.getElem?_eq_some_iff.mp h).1]
  exact h
theorem q_c2 {x0 x1 : Nat × va_E} {w : va_W} {i : Nat} {x : Nat × va_E} (h : w[i]? = some x) : (x0 :: x1 :: w)[2 + i]? = some x := by
  rw [Nat.add_comm]
  exact h
abbrev q_wW (cI cR : ClassId) (a b n : Nat) (r : Nat → Nat) (f : Nat → Int32) (F : Nat → Nat → Int32) : va_W := (a, .inl (cR, n, .inr (.inr (.inr (.inr (fun j => some (r j))))))) :: (b, .inl (cI, 4, .inl f)) :: q_rw cI r F n
theorem q_wW_len (cI cR : ClassId) (a b n : Nat) (r : Nat → Nat) (f : Nat → Int32) (F : Nat → Nat → Int32) : (q_wW cI cR a b n r f F).length = n + 2 := by
  unfold q_wW
  rw [List.length_cons, List.length_cons, q_rw_len]
section QED
variable {p : Program} {l : Launch} {e : Env} {R : Room} {s : State} {m : MethodId} {args : Array Value} {below : List Frame} {meth : Method} {c : Code} {H : Heap} {locs : List Loc} {cells slots mc ms : Nat} {pc : Nat} {ls : Array Slot} {cc : ByteArray} {sz : Nat} {Dg : va_G} {w w' : va_W} {P : Option Value → va_W → Prop}
theorem q_ed_a {v : Nat} {rt : FieldType} (hrt : (∃ n, rt = .object n) ∨ ∃ t, rt = .array t) (hP1 : P (some (.ref v)) w') (hP : va_P Dg vwCl w' H) (hD : va_D (va_A w sz) w') (hS : va_S (va_A w sz) s.heap H locs) (hcs : cells ≤ mc ∧ slots ≤ ms) (hx : p.tables.exec = Jvm.exec) (hb : c.code = cc) (hr : meth.sig.returnType = some rt) (hlk : meth.locks = false) (hdg : decode cc pc = .ok (.areturn, 1)) : W p l e R s m args below meth c H locs cells slots (MQ below (z_Qd P Dg w sz) args s mc ms (va_A w sz)) (F0 m pc ls [.ref v]) :=
  W.widen hcs.1 hcs.2 (W.aret hx hb hr hrt (Or.inr ⟨v, rfl⟩) (fun t ht _ => ⟨⟨_, w', rfl, hP1, by rw [ht]; exact hP, hD⟩, hS.F ht⟩) hS.2.2 hdg hlk)
end QED
section QIA
variable {p : Program} {l : Launch} {e : Env} {R : Room} {s : State} {m : MethodId} {args : Array Value} {below : List Frame} {meth : Method} {c : Code} {H : Heap} {locs : List Loc} {cells slots : Nat} {Q : State → Prop} {pc : Nat} {ls : Array Slot} {rest : List Value} {cc : ByteArray} {Dg : va_G} {ws ws' : va_W} {A0 : Nat → Prop} {H0 : Heap}
theorem q_iast {tys : List (ClassId × FieldType)} {a : Nat} (hx : p.tables.exec = Jvm.exec) (hb : c.code = cc) (hK : va_K Dg vwCl tys s) (hP : va_P Dg vwCl ws H) (hD : va_D A0 ws) (hS : va_S A0 H0 H locs) (q0 t0 : Nat) {cA : ClassId} {N k : Nat} {g : Nat → Int32} {x : Int32} (ha : ws[q0]? = some (a, .inl (cA, N, .inl g))) (ht : tys[t0]? = some (cA, .int)) (he : ws.set q0 (a, .inl (cA, N, .inl (upd g k x))) = ws') (hk : k < N) (hN : N < 2 ^ 31) (hdg : decode cc pc = .ok (.iastore, 1))
    (kk : ∀ (H1 : Heap) (locs1 : List Loc), va_P Dg vwCl ws' H1 → va_D A0 ws' → va_S A0 H0 H1 locs1 → W p l e R s m args below meth c H1 locs1 cells slots Q (F0 m (pc + 1) ls rest)) : W p l e R s m args below meth c H locs cells slots Q (F0 m pc ls (.int x :: .int (nI k) :: .ref a :: rest)) := by
  subst he
  exact z_iast hx hb hK hP hD hS q0 t0 ha ht hk hN hdg kk
end QIA
