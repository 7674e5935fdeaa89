/-! THE LAW'S OWN METHODS: base -/
theorem q_own (a b c d : Int32) : upd (upd (upd (upd (fun _ => 0) 0 a) 1 b) 2 c) 3 d = q_4 a b c d := by rw [← q_4z, q_u0, q_u1, q_u2, q_u3]
/-- a number below another one -/
def q_bl (v : Int32) (k : Nat) : Nat := (v.toBitVec.toNat % 2 ^ 31) % k
theorem q_bl_lt (v : Int32) {k : Nat} (h : 0 < k) : q_bl v k < k := Nat.mod_lt _ h
theorem q_1n {k : Nat} (h : 1 ≤ k) (h2 : k < 2 ^ 31) : 1 ≤ nI k := by
  rw [Int32.le_iff_toInt_le, nI_toInt h2]
  have e1 : (1 : Int32).toInt = 1 := by decide
  omega
theorem q_0n {k : Nat} (h2 : k < 2 ^ 31) : 0 ≤ nI k := by
  rw [Int32.le_iff_toInt_le, nI_toInt h2]
  have e1 : (0 : Int32).toInt = 0 := by decide
  omega
theorem q_99n {k : Nat} (h : k ≤ 99) : nI k ≤ 99 := by
  rw [Int32.le_iff_toInt_le, nI_toInt (by omega)]
  have e1 : (99 : Int32).toInt = 99 := by decide
  omega
theorem q_5n {k : Nat} (h : k ≤ 5) : nI k ≤ 5 := by
  rw [Int32.le_iff_toInt_le, nI_toInt (by omega)]
  have e1 : (5 : Int32).toInt = 5 := by decide
  omega
theorem q_3n {k : Nat} (h : k ≤ 3) : nI k ≤ 3 := by
  rw [Int32.le_iff_toInt_le, nI_toInt (by omega)]
  have e1 : (3 : Int32).toInt = 3 := by decide
  omega
theorem q_bl_ex (v : Int32) {k : Nat} (h : 0 < k) : ∃ j, j < k ∧ q_bl v k = j := ⟨_, q_bl_lt v h, rfl⟩
theorem q_bl_e (v : Int32) {k : Nat} (h : 0 < k) (hk : k < 2 ^ 31) : (v &&& 2147483647) - (v &&& 2147483647) / nI k * nI k = nI (q_bl v k) := by
  rw [pk_and v 31 (by decide), pk_rem (Nat.mod_lt _ (by decide)) h hk]
  rfl
/-! a world, and a cell more -/
theorem q_mvP {Dg : va_G} {cl : List vw_C} {c e s : va_W} {x : Nat × va_E} {H : Heap} (h : va_P Dg cl ((c ++ (e ++ s)) ++ [x]) H) : va_P Dg cl (c ++ ((e ++ [x]) ++ s)) H := by
  letI : DecidableEq (Nat × va_E) := fun a b => Classical.propDecidable (a = b)
  refine q_Pp (jk := []) h ?_
  rw [List.perm_iff_count]
  intro a
  simp only [List.count_append, List.count_cons, List.count_nil]
  omega
theorem q_mvD {A : Nat → Prop} {c e s : va_W} {x : Nat × va_E} (h : va_D A ((c ++ (e ++ s)) ++ [x])) : va_D A (c ++ ((e ++ [x]) ++ s)) := by
  letI : DecidableEq (Nat × va_E) := fun a b => Classical.propDecidable (a = b)
  refine q_Dp (jk := []) h ?_
  rw [List.perm_iff_count]
  intro a
  simp only [List.count_append, List.count_cons, List.count_nil]
  omega
/-- cells between are left out -/
theorem q_drP {Dg : va_G} {cl : List vw_C} {c e s : va_W} {H : Heap} (h : va_P Dg cl (c ++ (e ++ s)) H) : va_P Dg cl (c ++ s) H := by
  letI : DecidableEq (Nat × va_E) := fun a b => Classical.propDecidable (a = b)
  refine q_Pp (jk := e) h ?_
  rw [List.perm_iff_count]
  intro a
  simp only [List.count_append, List.count_cons, List.count_nil]
  omega
theorem q_drD {A : Nat → Prop} {c e s : va_W} (h : va_D A (c ++ (e ++ s))) : va_D A (c ++ s) := by
  letI : DecidableEq (Nat × va_E) := fun a b => Classical.propDecidable (a = b)
  refine q_Dp (jk := e) h ?_
  rw [List.perm_iff_count]
  intro a
  simp only [List.count_append, List.count_cons, List.count_nil]
  omega
section QGR
variable {cI cR : ClassId} {sa rb rt : Nat → Nat} {G : z_GG} {D : z_DD} {X : va_W}
abbrev q_c0 (a b c d : Nat) (G : z_GG) (D : z_DD) : Nat × va_E := (a, .inr (3, [.ref b, .ref c, .ref d, .int (nI (z_sd G)), .int (nI (z_od G)), .int (z_dy D)]))
abbrev q_c1 (cI : ClassId) (a : Nat) (G : z_GG) : Nat × va_E := (a, .inl (cI, 4, .inl (z_wm G)))
abbrev q_cr (cR : ClassId) (a n : Nat) (r : Nat → Nat) : Nat × va_E := (a, .inl (cR, n, .inr (.inr (.inr (.inr (fun j => some (r j)))))))
theorem q_rw_grow {r r' : Nat → Nat} {f f' : Nat → Nat → Int32} {n : Nat} (h : ∀ j, j < n → r' j = r j ∧ f' j = f j) : q_rw cI r' f' (n + 1) = q_rw cI r f n ++ [(r' n, .inl (cI, 4, .inl (f' n)))] := by
  rw [q_rw_succ]
  congr 1
  unfold q_rw
  exact List.map_congr_left (fun j hj => by rw [(h j (List.mem_range.mp hj)).1, (h j (List.mem_range.mp hj)).2])
theorem q_inB {o : Nat} {f : Nat → Int32} : List.Perm (X ++ ([(o, .inl (cI, 4, .inl f))] ++ q_W cI cR sa rb rt G D)) (((X ++ [q_c0 (sa 0) (sa 1) (sa 2) (sa 3) G D, q_c1 cI (sa 1) G]) ++ (q_wW cI cR (sa 2) o (z_bc G) rb f (q_b G D) ++ (q_cr cR (sa 3) (z_tc G) rt :: q_ts cI rt G D))) ++ []) := by
  letI : DecidableEq (Nat × va_E) := fun a b => Classical.propDecidable (a = b)
  dsimp only [q_W, q_wW, q_c0, q_c1, q_cr, q_bs, q_ts]
  rw [List.perm_iff_count]
  intro a
  simp only [List.count_append, List.count_cons, List.count_nil]
  omega
theorem q_outB {o q9 : Nat} {v k : Int32} (hsw : z_sw D (z_bc G) = 0) (hrc : z_rc D (z_bc G) = false) : List.Perm ((X ++ [q_c0 (sa 0) (sa 1) q9 (sa 3) G D, q_c1 cI (sa 1) G]) ++ ((q_wW cI cR (sa 2) o (z_bc G) rb (q_4 v k 0 0) (q_b G D) ++ [(q9, .inl (cR, z_bc G + 1, .inr (.inr (.inr (.inr (fun j => some (va_up rb (z_bc G) o j)))))))]) ++ (q_cr cR (sa 3) (z_tc G) rt :: q_ts cI rt G D)))
    ((X ++ q_W cI cR (va_up sa 2 q9) (va_up rb (z_bc G) o) rt (z_addb G v k) D) ++ [q_cr cR (sa 2) (z_bc G) rb]) := by
  letI : DecidableEq (Nat × va_E) := fun a b => Classical.propDecidable (a = b)
  have e : q_bs cI (va_up rb (z_bc G) o) (z_addb G v k) D = q_rw cI rb (q_b G D) (z_bc G) ++ [(o, .inl (cI, 4, .inl (q_4 v k 0 0)))] := by
    refine (q_rw_grow (f := q_b G D) (r := rb) (fun j hj => ⟨z_up_ne _ _ (by omega), ?_⟩)).trans ?_
    · unfold q_b
      rw [show z_v0 (z_addb G v k) j = z_v0 G j from if_neg (by omega), show z_lk (z_addb G v k) j = z_lk G j from if_neg (by omega)]
    · rw [z_up_eq]
      unfold q_b
      rw [show z_v0 (z_addb G v k) (z_bc G) = v from if_pos rfl, show z_lk (z_addb G v k) (z_bc G) = k from if_pos rfl, hsw, hrc]
      rfl
  have e2 : q_ts cI rt (z_addb G v k) D = q_ts cI rt G D := rfl
  have e3 : q_W cI cR (va_up sa 2 q9) (va_up rb (z_bc G) o) rt (z_addb G v k) D = q_c0 (sa 0) (sa 1) q9 (sa 3) G D :: q_c1 cI (sa 1) G :: (q9, .inl (cR, z_bc G + 1, .inr (.inr (.inr (.inr (fun j => some (va_up rb (z_bc G) o j))))))) :: q_cr cR (sa 3) (z_tc G) rt :: (q_bs cI (va_up rb (z_bc G) o) (z_addb G v k) D ++ q_ts cI rt (z_addb G v k) D) := rfl
  rw [e3, e, e2]
  dsimp only [q_wW, q_c0, q_c1, q_cr, q_bs, q_ts]
  rw [List.perm_iff_count]
  intro a
  simp only [List.count_append, List.count_cons, List.count_nil]
  omega
theorem q_inT {o : Nat} {f : Nat → Int32} : List.Perm (X ++ ([(o, .inl (cI, 4, .inl f))] ++ q_W cI cR sa rb rt G D)) (((X ++ ([q_c0 (sa 0) (sa 1) (sa 2) (sa 3) G D, q_c1 cI (sa 1) G, q_cr cR (sa 2) (z_bc G) rb] ++ q_bs cI rb G D)) ++ (q_wW cI cR (sa 3) o (z_tc G) rt f (q_t G D) ++ [])) ++ []) := by
  letI : DecidableEq (Nat × va_E) := fun a b => Classical.propDecidable (a = b)
  dsimp only [q_W, q_wW, q_c0, q_c1, q_cr, q_bs, q_ts]
  rw [List.perm_iff_count]
  intro a
  simp only [List.count_append, List.count_cons, List.count_nil]
  omega
theorem q_outT {o q9 b x : Nat} : List.Perm ((X ++ ([q_c0 (sa 0) (sa 1) (sa 2) q9 G D, q_c1 cI (sa 1) G, q_cr cR (sa 2) (z_bc G) rb] ++ q_bs cI rb G D)) ++ ((q_wW cI cR (sa 3) o (z_tc G) rt (q_4 (nI b) (nI x) (z_v0 G b) 0) (q_t G D) ++ [(q9, .inl (cR, z_tc G + 1, .inr (.inr (.inr (.inr (fun j => some (va_up rt (z_tc G) o j)))))))]) ++ []))
    ((X ++ q_W cI cR (va_up sa 3 q9) rb (va_up rt (z_tc G) o) (z_g1 G b x) (z_d1 G D b)) ++ [q_cr cR (sa 3) (z_tc G) rt]) := by
  letI : DecidableEq (Nat × va_E) := fun a b => Classical.propDecidable (a = b)
  have e : q_ts cI (va_up rt (z_tc G) o) (z_g1 G b x) (z_d1 G D b) = q_rw cI rt (q_t G D) (z_tc G) ++ [(o, .inl (cI, 4, .inl (q_4 (nI b) (nI x) (z_v0 G b) 0)))] := by
    refine (q_rw_grow (f := q_t G D) (r := rt) (fun j hj => ⟨z_up_ne _ _ (by omega), ?_⟩)).trans ?_
    · unfold q_t
      rw [show z_bt (z_g1 G b x) j = z_bt G j from z_up_ne _ _ (by omega), show z_sh (z_g1 G b x) j = z_sh G j from z_up_ne _ _ (by omega), show z_vc (z_d1 G D b) j = z_vc D j from if_neg (by omega), show z_pl (z_d1 G D b) j = z_pl D j from z_up_ne _ _ (by omega)]
    · rw [z_up_eq]
      unfold q_t
      rw [show z_bt (z_g1 G b x) (z_tc G) = b from z_up_eq _ _ _, show z_sh (z_g1 G b x) (z_tc G) = x from z_up_eq _ _ _, show z_vc (z_d1 G D b) (z_tc G) = z_v0 G b from if_pos rfl, show z_pl (z_d1 G D b) (z_tc G) = 1 from z_up_eq _ _ _]
      rfl
  have e2 : q_bs cI rb (z_g1 G b x) (z_d1 G D b) = q_bs cI rb G D := rfl
  have e3 : q_W cI cR (va_up sa 3 q9) rb (va_up rt (z_tc G) o) (z_g1 G b x) (z_d1 G D b) = q_c0 (sa 0) (sa 1) (sa 2) q9 G D :: q_c1 cI (sa 1) G :: q_cr cR (sa 2) (z_bc G) rb :: (q9, .inl (cR, z_tc G + 1, .inr (.inr (.inr (.inr (fun j => some (va_up rt (z_tc G) o j))))))) :: (q_bs cI rb (z_g1 G b x) (z_d1 G D b) ++ q_ts cI (va_up rt (z_tc G) o) (z_g1 G b x) (z_d1 G D b)) := rfl
  rw [e3, e, e2]
  dsimp only [q_wW, q_c0, q_c1, q_cr, q_bs, q_ts]
  rw [List.perm_iff_count]
  intro a
  simp only [List.count_append, List.count_cons, List.count_nil]
  omega
end QGR
/-! what act needs; its contract -/
def q_TA (A : Nat → Prop) (U : State) (H : Heap) : Prop := vx_Zq Bundle.tN "UNASSIGNED_STACK" Bundle.steD A U H ∧ vx_Zq Bundle.tN "SUPPRESSED_SENTINEL" Bundle.listD A U H
theorem q_TA.moved {A : Nat → Prop} {u U : State} {H : Heap} (hvm : u.vm.Alike U.vm) (h : q_TA A u H) : q_TA A U H := ⟨h.1.moved hvm, h.2.moved hvm⟩
theorem q_TA.kept {A : Nat → Prop} {U : State} {H H1 : Heap} (h : q_TA A U H) (hq : ∀ a : Nat, a < H.size → ¬ A a → H1[a]? = H[a]?) : q_TA A U H1 := ⟨h.1.kept hq, h.2.kept hq⟩
theorem q_TA.narrow {A B : Nat → Prop} {U : State} {H : Heap} (h : q_TA A U H) (hAB : ∀ q, B q → A q) : q_TA B U H := ⟨h.1.narrow hAB, h.2.narrow hAB⟩
theorem q_TA.z {A : Nat → Prop} {U : State} {H : Heap} (h : q_TA A U H) : z_T U H := h.narrow (fun _ z => z.elim)
def q_X (Dg : va_G) (cI cR cZ : ClassId) (A : Nat → Prop) (U : State) (H : Heap) : Prop := q_K Dg cI cR cZ U ∧ z_E U ∧ q_TA A U H
theorem q_X.same {Dg : va_G} {cI cR cZ : ClassId} {A : Nat → Prop} {u U : State} {H : Heap} (h : u.vm = U.vm) (q : q_X Dg cI cR cZ A u H) : q_X Dg cI cR cZ A U H := ⟨q_K.same h q.1, z_E.same h q.2.1, q_TA.moved (by rw [h]; exact Vm.Alike.refl U.vm) q.2.2⟩
theorem q_X.warm {Dg : va_G} {cI cR cZ : ClassId} {A : Nat → Prop} {s U : State} {H : Heap} (hW : s.WarmedH U.vm) (q : q_X Dg cI cR cZ A s H) : q_X Dg cI cR cZ A U H := ⟨q_K.warm hW q.1, z_E.warm hW q.2.1, q_TA.moved hW.alike q.2.2⟩
def q_Pa (As : List Value) (Dg : va_G) (cI cR cZ : ClassId) (w : va_W) (sz : Nat) : Array Value → State → Prop := va_Pc As (fun U => U.heap.size = sz ∧ va_P Dg vwCl w U.heap ∧ q_X Dg cI cR cZ (va_A w sz) U U.heap ∧ va_D (fun _ => True) w)
theorem q_Pa.blind {As : List Value} {Dg : va_G} {cI cR cZ : ClassId} {w : va_W} {sz : Nat} : FrameBlind (q_Pa As Dg cI cR cZ w sz) := fun _ U g mk q => ⟨q.1, q.2.1, q.2.2.1, q_X.same (U := U.calling g mk _) (H := U.heap) rfl q.2.2.2.1, q.2.2.2.2⟩
abbrev q_Ma (l : Launch) (y : MethodName) (ws : List Cond) (f C S L : Nat) (As : List Value) (Dg : va_G) (cI cR cZ : ClassId) (w : va_W) (sz : Nat) (P : Option Value → va_W → Prop) : Prop := Met l y ws ({ frames := f, cells := C, slots := S, locals := L }) (q_Pa As Dg cI cR cZ w sz) (z_Qd P Dg w sz) C S (va_A w sz)
/-- class and Sim hold one state, in which all holds that always holds -/
def q_ST (cI cR : ClassId) (h : Nat) (na ta : Nat → Nat) (s0 : Nat) (w : va_W) : Prop := ∃ (G D : _) (G1 : z_GG) (D1 : z_DD) (sa rb rt : Nat → Nat), sa 0 = s0 ∧ q_I G D ∧ w = z_cW cI h na ta G D G1 D1 ++ q_W cI cR sa rb rt G D
theorem q_sa {l : Launch} {y : MethodName} {ws ws' : List Cond} {f C S L sz : Nat} {As : List Value} {Dg : va_G} {cI cR cZ : ClassId} {w : va_W} {Qc : Array Value → State → Outcome → State → Prop} {cc : ByteArray} {maxL : Nat} {ret : Option FieldType} {hh : List (Nat × Nat × Nat × Nat)} {l0 : List (Nat × Value)} {own : String}
    (hw : ws = Cond.codeWith y cc maxL ret hh :: ws') (hl0 : lv_args 0 As = l0) (hy : plainName y.cls = true) (hn : (lg_sl As).length ≤ maxL) (ho : y.cls = own)
    (body : ∀ (p : Program) (e : Env) (s : State) (m : MethodId) (below : List Frame) (meth : Method) (c : Code), p.tables.exec = Jvm.exec → c.code = cc → meth.sig.returnType = ret → c.maxLocals = maxL → (∀ w ∈ ws, w.before As.toArray s = true) → s.vm.findClass own = some m.cls → meth.locks = false → c.exceptionTable.toList = tableOf hh → va_P Dg vwCl w s.heap → va_K Dg vwCl (q_ty cI cR cZ) s → z_N s → q_AA s cI cR → z_E s → q_TA (va_A w sz) s s.heap → va_D (va_A w sz) w → va_S (va_A w sz) s.heap s.heap [] → (∀ q : Nat, s.heap.size ≤ q → va_A w sz q) → ∀ ls : Array Slot, lv_has ls maxL l0 → W p l e ({ frames := f, cells := C, slots := S, locals := L }) s m As.toArray below meth c s.heap [] 0 0 (MQ below Qc As.toArray s C S (va_A w sz)) (F0 m 0 ls [])) :
    Met l y ws ({ frames := f, cells := C, slots := S, locals := L }) (q_Pa As Dg cI cR cZ w sz) Qc C S (va_A w sz) := by
  refine va_MetW (cc := cc) (maxL := maxL) (ret := ret) (hh := hh) hy hw ?_
  intro p e s m args below meth c s₁ B hml hv
  obtain ⟨rfl, hsz, hP, hX, hD⟩ := hv
  rw [lg_entry_eq]
  have hl := lv_entry As (n := maxL) hn
  rw [hl0] at hl
  have hts := atoms_spec (ws := ws) B.pre
  exact body p e s m below meth c B.exec B.bytes B.returns hml hts (ho ▸ findClass_of_methodNamed B.named) B.notSynchronized (vx_table (x := y) B (hts _ (by rw [hw]; exact List.mem_cons_self))) hP hX.1.1 hX.1.2.1 hX.1.2.2 hX.2.1 hX.2.2 hD.self va_S.rf (fun q h => Or.inr (hsz ▸ h)) _ hl
section QLW
variable {p : Program} {l : Launch} {e : Env} {R : Room} {s : State} {m : MethodId} {args : Array Value} {below : List Frame} {meth : Method} {c : Code} {H : Heap} {locs : List Loc} {cells slots mc ms : Nat} {Q : State → Prop} {pc : Nat} {ls : Array Slot} {rest st0 : List Value} {cc : ByteArray} {y : MethodName} {bytes : ByteArray} {maxL nL n index f L ci sz : Nat} {ret : Option FieldType} {wsy wsy' Ts : List Cond} {own C : String} {b : Addr} {As : List Value} {Dg : va_G} {cI cR cZ : ClassId} {w w' ws : va_W} {fs : List Value} {vq : vw_C} {A0 : Nat → Prop} {H0 : Heap} {P : Option Value → va_W → Prop} {h : Nat} {na ta : Nat → Nat} {G G1 G2 : z_GG} {D D1 D2 : z_DD}
theorem q_gBn {cI cR : ClassId} {sa rb rt : Nat → Nat} {G : z_GG} {D : z_DD} {o : Nat} {v k : Int32} (hsw : z_sw D (z_bc G) = 0) (hrc : z_rc D (z_bc G) = false) : (q_W cI cR sa (va_up rb (z_bc G) o) rt (z_addb G v k) D)[4 + z_bc G]? = some (o, .inl (cI, 4, .inl (q_4 v k 0 0))) := by
  have h := q_gB (cI := cI) (cR := cR) (sa := sa) (rb := va_up rb (z_bc G) o) (rt := rt) (G := z_addb G v k) (D := D) (b := z_bc G) (by show z_bc G < z_bc G + 1; omega)
  rw [z_up_eq] at h
  rw [h]
  unfold q_b
  rw [show z_v0 (z_addb G v k) (z_bc G) = v from if_pos rfl, show z_lk (z_addb G v k) (z_bc G) = k from if_pos rfl, hsw, hrc]
  rfl
/-- a cell of the script, or a number in its place -/
def q_ce (L : Nat) (xs : Nat → Int32) (k : Nat) : Int32 := if k < L then xs k else 790386105 * (nI k + nI 3)
def q_Ps (As : List Value) (b L : Nat) (xs : Nat → Int32) : Array Value → State → Prop := va_Pc As (fun U => va_X b L xs U U.heap)
theorem q_Ps.blind {As : List Value} {b L : Nat} {xs : Nat → Int32} : FrameBlind (q_Ps As b L xs) := fun _ U g mk q => ⟨q.1, va_X.moved (u := U) (U := U.calling g mk _) (Vm.Alike.refl U.vm) q.2⟩
abbrev q_Ms (l : Launch) (y : MethodName) (ws : List Cond) (As : List Value) (b L : Nat) (xs : Nat → Int32) (o : Option Value) : Prop := Met l y ws ({ frames := 0, cells := 0, slots := 0, locals := 0 }) (q_Ps As b L xs) (z_Qr o) 0 0 z_no
theorem q_ss {l : Launch} {y : MethodName} {ws ws' : List Cond} {As : List Value} {b L : Nat} {xs : Nat → Int32} {Qc : Array Value → State → Outcome → State → Prop} {cc : ByteArray} {maxL : Nat} {ret : Option FieldType} {l0 : List (Nat × Value)} {own : String}
    (hw : ws = Cond.code y cc maxL ret :: ws') (hl0 : lv_args 0 As = l0) (hy : plainName y.cls = true) (hn : (lg_sl As).length ≤ maxL) (ho : y.cls = own)
    (body : ∀ (p : Program) (e : Env) (s : State) (m : MethodId) (below : List Frame) (meth : Method) (c : Code), p.tables.exec = Jvm.exec → c.code = cc → meth.sig.returnType = ret → c.maxLocals = maxL → (∀ w ∈ ws, w.before As.toArray s = true) → s.vm.findClass own = some m.cls → meth.locks = false → va_X b L xs s s.heap → b < s.heap.size → ∀ ls : Array Slot, lv_has ls maxL l0 → W p l e ({ frames := 0, cells := 0, slots := 0, locals := 0 }) s m As.toArray below meth c s.heap [] 0 0 (MQ below Qc As.toArray s 0 0 z_no) (F0 m 0 ls [])) :
    Met l y ws ({ frames := 0, cells := 0, slots := 0, locals := 0 }) (q_Ps As b L xs) Qc 0 0 z_no := by
  refine Met.ofW (cc := cc) (maxL := maxL) (ret := ret) hy hw ?_
  intro p e s m args below meth c s₁ B hml hv
  obtain ⟨rfl, hX⟩ := hv
  rw [lg_entry_eq]
  have hl := lv_entry As (n := maxL) hn
  rw [hl0] at hl
  have hbl : b < s.heap.size := by
    obtain ⟨scr, h1, -⟩ := hX
    exact (Array.getElem?_eq_some_iff.mp h1).1
  exact body p e s m below meth c B.exec B.bytes B.returns hml (atoms_spec (ws := ws) B.pre) (ho ▸ findClass_of_methodNamed B.named) B.notSynchronized hX hbl _ hl
theorem q_ed_z {b : Bool} (hP1 : P (some (.int (z_bI b))) w') (hP : va_P Dg vwCl w' H) (hD : va_D (va_A w sz) w') (hS : va_S (va_A w sz) s.heap H locs) (hcs : cells ≤ mc ∧ slots ≤ ms) (hx : p.tables.exec = Jvm.exec) (hb : c.code = cc) (hr : meth.sig.returnType = some .boolean) (hlk : meth.locks = false) (hdg : decode cc pc = .ok (.ireturn, 1)) : W p l e R s m args below meth c H locs cells slots (MQ below (z_Qd P Dg w sz) args s mc ms (va_A w sz)) (F0 m pc ls [.int (z_bI b)]) :=
  W.widen hcs.1 hcs.2 (W.zret hx hb hr (z_nar b) (fun t ht _ => ⟨⟨_, w', rfl, hP1, by rw [ht]; exact hP, hD⟩, hS.F ht⟩) hS.2.2 hdg hlk)
/-- the face's call throws E -/
theorem q_cX {E : String} {post : va_W} (rest : List Value) (hst : l.stackTraces = false) (hx : p.tables.exec = Jvm.exec) (hb : c.code = cc) (hml : c.maxLocals = nL) (hown : s.vm.findClass own = some m.cls) (hts : ∀ w ∈ Ts, w.before args s = true) (hM : z_Mx l y wsy f L (.ref h :: As) Dg cI (z_cW cI h na ta G D G1 D1) E) (hT : GoodIn Ts (wsV own index RX2 y wsy)) (hw : wsy = Cond.code y bytes maxL ret :: wsy') (hd : y.cls = RX2 ∧ y.cls ≠ "java/lang/invoke/MethodHandle" ∧ y.cls ≠ "java/lang/invoke/VarHandle" ∧ (parseMethodDescriptor y.desc).map (fun d => d.parameters.length) = some n) (hR : f + 1 ≤ R.frames ∧ 8 + (maxL + 11) + L ≤ R.locals)
    (hK : va_K Dg vwCl (q_ty cI cR cZ) s) (hN : z_N s) (hE : z_E s) (hTA : q_TA A0 s H0) (hP : va_P Dg vwCl (z_cW cI h na ta G D G1 D1 ++ post) H) (hS : va_S A0 H0 H locs) (hn : As.length = n) (hsize : ls.size = nL) (hst0 : st0 = As.reverse ++ .ref h :: rest) (hW : (rest.map fun v => v.category).sum ≤ 8) (hdg : decode cc pc = .ok (.invokevirtual index, 3)) (hf : cells + 1 ≤ R.cells ∧ slots + 6 ≤ R.slots)
    (kk : ∀ (ce : Cell) (q9 : Addr) (H1 : Heap), va_P Dg vwCl (z_cW cI h na ta G D G1 D1 ++ post) H1 → va_S A0 H0 H1 locs → H1[q9]? = some ce → ce.vm = .none → s.vm.findClass E = some ce.cls → vx_W p l e R s m args below meth c H1 locs (cells + 1) (slots + 6) Q (F0 m pc ls rest) q9) : W p l e R s m args below meth c H locs cells slots Q (F0 m pc ls st0) :=
  z_kx (vx_runV (As := As) (rest := rest) ⟨hx, hb, hml, hown, hts⟩ hM (cwV n hts hT hw rfl rfl hd hR) ⟨z_Px.blind, va_recv (ci := 2) (q0 := 0) hK (z_Pl hP) rfl rfl, fun U hU hW => ⟨rfl, by rw [hU]; exact z_Pl hP, z_K.warm hW ⟨q_KI hK, hN⟩, z_E.warm hW hE, by rw [hU]; exact ((hTA.kept hS.2.1).z).moved hW.alike⟩⟩ rfl hn hsize hst0 (lv_room hW) hdg hf) (fun ce q9 H1 h1 h2 hc1 hc2 hc3 => kk ce q9 H1 (fun k q hk => (hP k q hk).kept (h2 q.1 (hP k q hk).lt)) ⟨Nat.le_trans hS.1 h1, fun q h3 h4 => by rw [h2 q (Nat.lt_of_lt_of_le h3 hS.1)]; exact hS.2.1 q h3 h4, hS.2.2⟩ hc1 hc2 hc3)
theorem q_swIn {dflt lo hi : Int} {offs : Array Int} {len : Nat} {x : Int32} {off : Int} {tgt : Nat} (hx : p.tables.exec = Jvm.exec) (hb : c.code = cc) (hdg : decode cc pc = .ok (.tableswitch dflt lo hi offs, len)) (h1 : ¬ x.toInt < lo) (h2 : ¬ hi < x.toInt) (ho : offs[(x.toInt - lo).toNat]? = some off) (ht : (pc : Int) + off = (tgt : Int)) (k : W p l e R s m args below meth c H locs cells slots Q (F0 m tgt ls rest)) : W p l e R s m args below meth c H locs cells slots Q (F0 m pc ls (.int x :: rest)) := lv_tableIn hx hb hdg h1 h2 ho ht k
theorem q_cellS {v : Int32} {bs Ls : Nat} {xs : Nat → Int32} (rest : List Value) (hx : p.tables.exec = Jvm.exec) (hb : c.code = cc) (hml : c.maxLocals = nL) (hown : s.vm.findClass own = some m.cls) (hts : ∀ w ∈ Ts, w.before args s = true) (hM : q_Ms l y wsy As bs Ls xs (some (.int v))) (hT : GoodIn Ts (va_wsS own index y wsy)) (hw : wsy = Cond.code y bytes maxL ret :: wsy') (hd : y.cls ≠ "java/lang/invoke/MethodHandle" ∧ y.cls ≠ "java/lang/invoke/VarHandle" ∧ (parseMethodDescriptor y.desc).map (fun d => d.parameters.length) = some n) (hR : 0 + 1 ≤ R.frames ∧ 8 + (maxL + 11) + 0 ≤ R.locals)
    (hX : va_X bs Ls xs s H0) (hbl : bs < H0.size) (hbA : ¬ A0 bs) (hS : va_S A0 H0 H locs) (hst : st0 = As.reverse ++ rest) (hn : As.length = n) (hsize : ls.size = nL) (hW : (rest.map fun v => v.category).sum ≤ 8)
    (hdg : decode cc pc = .ok (.invokestatic index, 3)) (hf : cells ≤ R.cells ∧ slots ≤ R.slots) (kk : W p l e R s m args below meth c H locs cells slots Q (F0 m (pc + 3) ls (.int v :: rest))) : W p l e R s m args below meth c H locs cells slots Q (F0 m pc ls st0) :=
  z_kr (va_runS (As := As) (rest := rest) ⟨hx, hb, hml, hown, hts⟩ hM (va_cwS n hts hT hw rfl rfl hd hR) ⟨q_Ps.blind, fun U hU hW => ⟨rfl, by show va_X bs Ls xs U U.heap; rw [hU]; exact (hX.kept (hS.2.1 bs hbl hbA)).moved hW.alike⟩⟩ rfl hn hsize hst (lv_room hW) hdg hf) kk
end QLW
