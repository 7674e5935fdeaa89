/-! THE LAW: what its pieces share -/
section QVD
variable {p : Program} {l : Launch} {e : Env} {R : Room} {s : State} {m : MethodId} {args : Array Value} {below : List Frame} {meth : Method} {c : Code} {H : Heap} {locs : List Loc} {cells slots : Nat} {Q : State → Prop} {pc : Nat} {ls : Array Slot} {st0 : List Value} {cc : ByteArray} {y : MethodName} {bytes : ByteArray} {maxL nL n index f L sz : Nat} {ret : Option FieldType} {wsy wsy' Ts : List Cond} {own host C : String} {b : Addr} {As : List Value} {Dg : va_G} {cI cR cZ : ClassId} {w w' ws : va_W} {A0 : Nat → Prop} {H0 : Heap} {P : Option Value → va_W → Prop}
theorem q_vd {mc ms q0 ci : Nat} {fs : List Value} {vq : vw_C} (rest : List Value) (pre post : va_W) (hx : p.tables.exec = Jvm.exec) (hb : c.code = cc) (hml : c.maxLocals = nL) (hown : s.vm.findClass own = some m.cls) (hts : ∀ w ∈ Ts, w.before args s = true) (hM : q_Md l y wsy f mc ms L (.ref b :: As) Dg cI cR cZ w H.size P) (hT : GoodIn Ts (wsV own index C y wsy)) (hw : wsy = Cond.code y bytes maxL ret :: wsy') (hd : y.cls = C ∧ y.cls ≠ "java/lang/invoke/MethodHandle" ∧ y.cls ≠ "java/lang/invoke/VarHandle" ∧ (parseMethodDescriptor y.desc).map (fun d => d.parameters.length) = some n) (hR : f + 1 ≤ R.frames ∧ 8 + (maxL + 11) + L ≤ R.locals)
    (hK : va_K Dg vwCl (q_ty cI cR cZ) s) (hN : z_N s) (hJ : q_AA s cI cR) (hP : va_P Dg vwCl (pre ++ (w ++ post)) H) (hD : va_D A0 (pre ++ (w ++ post))) (hS : va_S A0 H0 H locs) (hA : ∀ q, H0.size ≤ q → A0 q) (he : w[q0]? = some (b, .inr (ci, fs))) (hc : vwCl[ci]? = some vq) (hCl : vq.1 = C) (hn : As.length = n) (hsize : ls.size = nL) (hst : st0 = As.reverse ++ .ref b :: rest) (hW : (rest.map fun v => v.category).sum ≤ 8) (hdg : decode cc pc = .ok (.invokevirtual index, 3)) (hf : cells + mc ≤ R.cells ∧ slots + ms ≤ R.slots)
    (kk : ∀ (o : Option Value) (w' : va_W) (H1 : Heap) (locs1 : List Loc), P o w' → va_P Dg vwCl (pre ++ (w' ++ post)) H1 → va_D A0 (pre ++ (w' ++ post)) → va_S A0 H0 H1 locs1 → W p l e R s m args below meth c H1 locs1 (cells + mc) (slots + ms) Q (F0 m (pc + 3) ls (o.toList ++ rest))) : W p l e R s m args below meth c H locs cells slots Q (F0 m pc ls st0) :=
  z_kd (va_runV (As := As) (rest := rest) ⟨hx, hb, hml, hown, hts⟩ hM (cwV n hts hT hw rfl rfl hd hR) ⟨q_Pd.blind, by rw [← hCl]; exact va_recv hK (z_Pm hP) hc he, fun U hU hW => ⟨rfl, by rw [hU], by rw [hU]; exact z_Pm hP, q_K.warm hW ⟨hK, hN, hJ⟩, (z_Dl (z_Drr hD)).weaken (fun _ _ _ _ => trivial)⟩⟩ rfl hn hsize hst (lv_room hW) hdg hf) hP hD hS hA kk
theorem q_bS {mc ms bs Ls : Nat} {xs : Nat → Int32} (rest : List Value) (hx : p.tables.exec = Jvm.exec) (hb : c.code = cc) (hml : c.maxLocals = nL) (hown : s.vm.findClass own = some m.cls) (hts : ∀ w ∈ Ts, w.before args s = true) (hM : q_Mb l y wsy f mc ms L As Dg cI cR cZ w H.size bs Ls xs P) (hT : GoodIn Ts (va_wsS own index y wsy)) (hw : wsy = Cond.code y bytes maxL ret :: wsy') (hd : y.cls ≠ "java/lang/invoke/MethodHandle" ∧ y.cls ≠ "java/lang/invoke/VarHandle" ∧ (parseMethodDescriptor y.desc).map (fun d => d.parameters.length) = some n) (hR : f + 1 ≤ R.frames ∧ 8 + (maxL + 11) + L ≤ R.locals)
    (hK : va_K Dg vwCl (q_ty cI cR cZ) s) (hN : z_N s) (hJ : q_AA s cI cR) (hE : z_E s) (hTA : q_TA A0 s H0) (hX : va_X bs Ls xs s H0) (hbl : bs < H0.size) (hbA : ¬ A0 bs) (hP : va_P Dg vwCl w H) (hD : va_D A0 w) (hS : va_S A0 H0 H locs) (hA : ∀ q, H0.size ≤ q → A0 q) (hst : st0 = As.reverse ++ rest) (hn : As.length = n) (hsize : ls.size = nL) (hW : (rest.map fun v => v.category).sum ≤ 8) (hdg : decode cc pc = .ok (.invokestatic index, 3)) (hf : cells + mc ≤ R.cells ∧ slots + ms ≤ R.slots)
    (kk : ∀ (o : Option Value) (w' : va_W) (H1 : Heap) (locs1 : List Loc), P o w' → va_P Dg vwCl w' H1 → va_D A0 w' → va_S A0 H0 H1 locs1 → W p l e R s m args below meth c H1 locs1 (cells + mc) (slots + ms) Q (F0 m (pc + 3) ls (o.toList ++ rest))) : W p l e R s m args below meth c H locs cells slots Q (F0 m pc ls st0) := by
  have hin : ∀ q, va_A w H.size q → A0 q := fun q h => by
    rcases h with ⟨k, e, h⟩ | h
    · exact hD.2 k _ h
    · exact hA q (Nat.le_trans hS.1 h)
  refine z_kd (pre := []) (post := []) (va_runS (As := As) (rest := rest) ⟨hx, hb, hml, hown, hts⟩ hM (va_cwS n hts hT hw rfl rfl hd hR) ⟨q_Pb.blind, fun U hU hW => ⟨rfl, by rw [hU], by rw [hU]; exact hP, ⟨q_K.warm hW ⟨hK, hN, hJ⟩, z_E.warm hW hE, by rw [hU]; exact ((hTA.kept hS.2.1).narrow hin).moved hW.alike⟩, hD.weaken (fun _ _ _ _ => trivial), by rw [hU]; exact (hX.kept (hS.2.1 bs hbl hbA)).moved hW.alike, fun z => hbA (hin bs z)⟩⟩ rfl hn hsize hst (lv_room hW) hdg hf) (q_nilP (pre := []) hP) (q_nilD (pre := []) hD) hS hA (fun o w' H1 locs1 hPo hP hD hS => ?_)
  rw [List.append_nil] at hP hD
  exact kk o w' H1 locs1 hPo hP hD hS
end QVD
/-- what holds at the law's entry and all along -/
def q_CL (p : Program) (l : Launch) (s : State) (m : MethodId) (meth : Method) (c : Code) (b Ls : Nat) (xs : Nat → Int32) (Dg : va_G) (cI cR cZ : ClassId) : Prop :=
  p.tables.exec = Jvm.exec ∧ c.code = code ∧ meth.sig.returnType = ret ∧ c.maxLocals = 23 ∧ s.vm.findClass RL = some m.cls ∧ (∀ w ∈ wsL_law, w.before #[Value.ref b] s = true) ∧ va_X b Ls xs s s.heap ∧ b < s.heap.size ∧ meth.locks = false ∧ va_K Dg vwCl (q_ty cI cR cZ) s ∧ z_N s ∧ q_AA s cI cR ∧ z_E s ∧ q_TA (fun q => s.heap.size ≤ q) s s.heap ∧ Ls ≤ 260 ∧ l.stackTraces = false
/-- the walk goes on at pc, with class and Sim in one state, and cells ex between -/
def q_Go (p : Program) (l : Launch) (e : Env) (s : State) (m : MethodId) (below : List Frame) (meth : Method) (c : Code) (b : Nat) (Q : State → Prop) (Dg : va_G) (cI cR : ClassId) (h : Nat) (na ta : Nat → Nat) (sa rb rt : Nat → Nat) (G : z_GG) (D : z_DD) (ex : va_W) (pc cells slots : Nat) (lv : List (Nat × Value)) : Prop :=
  ∀ (G1 : z_GG) (D1 : z_DD) (H : Heap) (locs : List Loc) (ls : Array Slot), va_P Dg vwCl (z_cW cI h na ta G D G1 D1 ++ (ex ++ q_W cI cR sa rb rt G D)) H → va_D (fun q => s.heap.size ≤ q) (z_cW cI h na ta G D G1 D1 ++ (ex ++ q_W cI cR sa rb rt G D)) → va_S (fun q => s.heap.size ≤ q) s.heap H locs → lv_has ls 23 lv → W p l e room_1 s m #[Value.ref b] below meth c H locs cells slots Q (F0 m pc ls [])
/-! values, named -/
section QVN
variable {G : z_GG} {D : z_DD} {t o : Nat}
theorem q_plb1 (hp : z_pl D t = 1) : z_plb G D o t = nI (z_ah G D o t) := if_pos hp
theorem q_plb0 (hp : ¬ z_pl D t = 1) : z_plb G D o t = -1 := if_neg hp
theorem q_bsh1 (hp : z_pl D t = 1) : z_bsh G D t = nI (z_bsn G D t 3) := if_pos hp
theorem q_bsh0 (hp : ¬ z_pl D t = 1) : z_bsh G D t = -1 := if_neg hp
theorem q_dof1 (hp : z_pl D t = 1) : z_dof G D t = z_un G D t (z_sh G t) := if_pos hp
theorem q_dof0 (hp : ¬ z_pl D t = 1) : z_dof G D t = -1 := if_neg hp
theorem q_is (x y : Nat) (h : x = y) : z_bI (x == y) = 1 := by rw [z_beq h]; rfl
theorem q_isn (x y : Nat) (h : x ≠ y) : z_bI (x == y) = 0 := by rw [z_bne h]; rfl
theorem q_nm {k : Nat} (h : k < 2 ^ 31) : ¬ nI k ≤ -1 := by
  rw [Int32.le_iff_toInt_le, nI_toInt h]
  have e : (-1 : Int32).toInt = -1 := by decide
  omega
theorem q_fi_at {f g : Nat → Int32} {n k : Nat} (h : k < n) : z_fi f g n k = g k := if_pos h
def q_gn (D : z_DD) (t : Nat) : Int32 := if z_pl D t = 1 then 0 else 1
theorem q_gn1 (hp : z_pl D t = 1) : q_gn D t = 0 := if_pos hp
theorem q_gn0 (hp : ¬ z_pl D t = 1) : q_gn D t = 1 := if_neg hp
def q_fr (G : z_GG) (D : z_DD) (t : Nat) : Int32 := if z_pl D t = 1 then z_rt G t (z_sh G t) else 0
theorem q_fr1 (hp : z_pl D t = 1) : q_fr G D t = z_rt G t (z_sh G t) := if_pos hp
theorem q_fr0 (hp : ¬ z_pl D t = 1) : q_fr G D t = 0 := if_neg hp
theorem q_mx0 {x : Int32} (h : 0 ≤ x) : (if 0 < x - 0 then x - 0 else 0) = x := by
  rw [Int32.sub_zero]
  split
  · rfl
  · rename_i c
    exact (z_i32_eq h c).symm
theorem q_lc0 (x : Int64) : lg_cmp x x = 0 := by simp [lg_cmp]
end QVN
