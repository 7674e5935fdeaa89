/-! THE CLAIM OUT OF ONE WALK OF THE LAW'S BODY. Your part is whole_start (and what it stands on); all else here is the same for every law, but numbers. -/
def R_law : String := "TinCellarLaw"
def lw_P (b : Addr) (xs : List Int32) (args : Array Value) (s : State) : Prop := args = #[.ref b] ∧ s.IntsAt b xs ∧ xs.length ≤ 2048 ∧ (Jvm.Cond.and given_1 narrow_1).before args s = true
/-- what a walk over the start with the record d0 says of its end, said of the start itself -/
theorem lw_closed {s t : State} {o : Outcome} {d0 : Drawn} {L : List Loc} {k n : Nat} (hd0 : s.drawn.sameBut d0 lw_cs) (hv : ∃ v, o = .returned v) (hW : (s.setDrawn d0).WarmedH t.vm) (hs : (s.setDrawn d0).sameButNew ({ t with vm := s.vm } : State) L k n) : State.butDraws s t lw_cs (fun t1 => Framed s o t1 L k n) := by
  have h2 : t.drawn = d0 := congrArg State.drawn hs.1
  refine ⟨⟨hv, hW, State.sameButNew.setDrawn hs s.drawn⟩, ?_, by decide⟩
  rw [h2]
  exact hd0
def lw_Q (_ : Array Value) (s : State) (o : Outcome) (t : State) : Prop := o = .returned (some (.int 1)) ∧ State.butDraws s t lw_cs (fun t1 => Framed s o t1 [] 601024 7293034)
def lw_Z (below : List Frame) (a : Array Value) (s : State) : State → Prop := fun t => ∃ o, t.status = .running ∧ Ended t below o ∧ lw_Q a s o t
/-- the law's own end, with 1 on the stack, nothing written that was there before, its room as the claim has it; d0: the record of draws at this point (at the entry s.drawn: begin with 'refine W.base ?_' and 'have hd0 := Drawn.sameBut.refl s.drawn lw_cs') -/
theorem lw_ret {p : Program} {l : Launch} {e : Env} {s : State} {m : MethodId} {below : List Frame} {meth : Method} {c : Code} {b : Nat} {d0 : Drawn} (hd0 : s.drawn.sameBut d0 lw_cs) (hx : p.tables.exec = Jvm.exec) (hb : c.code = code) (hr : meth.sig.returnType = ret) (hlocks : meth.locks = false) {pc : Nat} {H : Heap} {ls : Array Slot} (hdg : decode code pc = .ok (.ireturn, 1)) : W p l e room_1 (s.setDrawn d0) m #[Value.ref b] below meth c H [] 601024 7293034 (lw_Z below #[Value.ref b] s) (F0 m pc ls [.int 1]) := by
  intro T hT X
  obtain ⟨fs, hret, hrun, hended, hW, hframe⟩ := X.leave (v := some (.int 1)) (hlocks := hlocks) (fun h => by rw [hr] at h; cases h)
  have hmeth' : T.vm.method? m = some meth := X.method'
  refine ⟨T.setFrames fs, ?_, .returned (some (.int 1)), hrun, hended, rfl, lw_closed hd0 ⟨_, rfl⟩ hW hframe⟩
  jvm_step X.here [X.here.top, hx, hb, hdg, hmeth', hr, ret, narrow_b1]
  (try refine ⟨rfl, ?_⟩); (try refine ⟨rfl, ?_⟩)
  first | (intro acts; rw [hret _ acts rfl rfl rfl]) | rw [hret _ _ rfl rfl rfl]
  exact Steps.refl _
/-- what holds at the law's entry: the machine, the code, the tables' words (any of lw_tbl by 'hts w (by decide +kernel)'), the script of L ints xs at the cell b, what the Statement gives of the start (any of its parts by flat_of_before) -/
def lw_At (p : Program) (s : State) (m : MethodId) (meth : Method) (c : Code) (b L : Nat) (xs : Nat → Int32) : Prop :=
  p.tables.exec = Jvm.exec ∧ c.code = code ∧ meth.sig.returnType = ret ∧ c.maxLocals = 9 ∧ s.vm.findClass R_law = some m.cls ∧ (∀ w ∈ lw_tbl, w.before #[Value.ref b] s = true) ∧ va_X b L xs s s.heap ∧ b < s.heap.size ∧ meth.locks = false ∧ (Jvm.Cond.and given_1 narrow_1).before #[Value.ref b] s = true
/-! THE LAW -/
abbrev z_Lw (cI cL : ClassId) (mo : Nat → Nat) (h : Nat) (na ta : Nat → Nat) (ob : Nat) (th : Int32) (G : z_GG) (D : z_DD) (K : Nat → Int32) (G1 : z_GG) (D1 : z_DD) (o : Nat → Int64) : va_W := z_mW cI mo th G D K ++ z_oW cI cL h na ta ob G D G1 D1 o
theorem z_lc0 (x : Int64) : lg_cmp x x = 0 := by simp [lg_cmp]
theorem z_X.at {Dg : va_G} {cI cL : ClassId} {s : State} {H : Heap} {locs : List Loc} (h : z_X Dg cI cL s s.heap) (hS : va_S (fun q => s.heap.size ≤ q) s.heap H locs) : z_X Dg cI cL s H := ⟨h.1, h.2.1, h.2.2.1, z_T.kept h.2.2.2.1 (fun a ha => hS.2.1 a ha (Nat.not_le.mpr ha)), h.2.2.2.2⟩
def z_CX (p : Program) (l : Launch) (s : State) (m : MethodId) (meth : Method) (c : Code) (b L : Nat) (xs : Nat → Int32) (Dg : va_G) (cI cL : ClassId) : Prop :=
  p.tables.exec = Jvm.exec ∧ c.code = code ∧ meth.sig.returnType = ret ∧ c.maxLocals = 9 ∧ s.vm.findClass RL = some m.cls ∧ (∀ w ∈ wsL_law, w.before #[Value.ref b] s = true) ∧ va_X b L xs s s.heap ∧ b < s.heap.size ∧ meth.locks = false ∧ z_X Dg cI cL s s.heap ∧ L ≤ 2048 ∧ l.stackTraces = false
def z_Go (p : Program) (l : Launch) (e : Env) (s : State) (m : MethodId) (below : List Frame) (meth : Method) (c : Code) (b : Nat) (Dg : va_G) (cI cL : ClassId) (mo : Nat → Nat) (h : Nat) (na ta : Nat → Nat) (ob : Nat) (pc i cells slots : Nat) : Prop :=
  ∀ (th : Int32) (G : z_GG) (D : z_DD) (K : Nat → Int32) (G1 : z_GG) (D1 : z_DD) (o : Nat → Int64) (H : Heap) (locs : List Loc) (d0 : Drawn) (ls : Array Slot), z_WG G → z_WD G D → va_P Dg vwCl (z_Lw cI cL mo h na ta ob th G D K G1 D1 o) H → va_D (fun q => s.heap.size ≤ q) (z_Lw cI cL mo h na ta ob th G D K G1 D1 o) → va_S (fun q => s.heap.size ≤ q) s.heap H locs → s.drawn.sameBut d0 lw_cs → lv_has ls 9 [(4, .int (nI (4 * i))), (3, .ref ob), (2, .ref (mo 0)), (1, .ref h), (0, .ref b)] → W p l e room_1 (s.setDrawn d0) m #[Value.ref b] below meth c H locs cells slots (lw_Z below #[Value.ref b] s) (F0 m pc ls [])
section ZLL
variable {p : Program} {l : Launch} {e : Env} {R : Room} {s : State} {m : MethodId} {args : Array Value} {below : List Frame} {meth : Method} {c : Code} {H : Heap} {locs : List Loc} {cells slots : Nat} {Q : State → Prop} {pc : Nat} {ls : Array Slot} {rest st0 : List Value} {cc : ByteArray} {y : MethodName} {bytes : ByteArray} {maxL nL n index f L ci q0 : Nat} {ret : Option FieldType} {wsy wsy' Ts : List Cond} {own C : String} {b : Addr} {As : List Value} {Dg : va_G} {cI cL : ClassId} {w w' : va_W} {A0 : Nat → Prop} {H0 : Heap} {P : Option Value → va_W → Prop} {fs : List Value} {vq : vw_C}
theorem z_sld {A : Nat → Prop} (hx : p.tables.exec = Jvm.exec) (hb : c.code = cc) {b9 L9 k : Nat} {xs : Nat → Int32} (hX : va_X b9 L9 xs s H0) (hbl : b9 < H0.size) (hbA : ¬ A b9) (hS : va_S A H0 H locs) (hk : k < L9) (hL : L9 < 2 ^ 31) (hdg : decode cc pc = .ok (.iaload, 1)) (kk : W p l e R s m args below meth c H locs cells slots Q (F0 m (pc + 1) ls (.int (xs k) :: rest))) : W p l e R s m args below meth c H locs cells slots Q (F0 m pc ls (.int (nI k) :: .ref b9 :: rest)) := by
  refine va_sld hx hb hX hbl hbA hS (vp_in_nI hk hL) hdg ?_
  rw [nI_clamp (by omega)]
  exact kk
theorem z_lS {hh : List (Nat × Nat × Nat × Nat)} (rest : List Value) (pre : va_W) (hx : p.tables.exec = Jvm.exec) (hb : c.code = cc) (hml : c.maxLocals = nL) (hown : s.vm.findClass own = some m.cls) (hts : ∀ w ∈ Ts, w.before args s = true) (hM : z_ML l y wsy f L As Dg cI cL w P) (hT : GoodIn Ts (va_wsS own index y wsy)) (hw : wsy = Cond.codeWith y bytes maxL ret hh :: wsy') (hd : y.cls ≠ "java/lang/invoke/MethodHandle" ∧ y.cls ≠ "java/lang/invoke/VarHandle" ∧ (parseMethodDescriptor y.desc).map (fun d => d.parameters.length) = some n) (hR : f + 1 ≤ R.frames ∧ 8 + (maxL + 11) + L ≤ R.locals)
    (hX : z_X Dg cI cL s H) (hP : va_P Dg vwCl (pre ++ w) H) (hD : va_D A0 (pre ++ w)) (hS : va_S A0 H0 H locs) (hn : As.length = n) (hsize : ls.size = nL) (hst : st0 = As.reverse ++ rest) (hW : (rest.map fun v => v.category).sum ≤ 8) (hdg : decode cc pc = .ok (.invokestatic index, 3)) (hf : cells + 1 ≤ R.cells ∧ slots + 6 ≤ R.slots)
    (kk : ∀ (o : Option Value) (w' : va_W) (H1 : Heap) (locs1 : List Loc), P o w' → va_P Dg vwCl (pre ++ w') H1 → va_D A0 (pre ++ w') → va_S A0 H0 H1 locs1 → W p l e R s m args below meth c H1 locs1 (cells + 1) (slots + 6) Q (F0 m (pc + 3) ls (o.toList ++ rest))) : W p l e R s m args below meth c H locs cells slots Q (F0 m pc ls st0) := by
  rw [← List.append_nil w] at hP hD
  have hPw := z_Pm hP
  have hDw := z_Dl (z_Drr hD)
  refine z_kg (vx_runSW (As := As) (rest := rest) ⟨hx, hb, hml, hown, hts⟩ hM (vx_cwSW (hh := hh) n hts hT hw rfl rfl hd hR) ⟨z_PL.blind, fun U hU hW => ⟨rfl, by rw [hU]; exact hPw, by rw [hU]; exact z_X.warm hW hX, hDw.weaken (fun _ _ _ _ => trivial)⟩⟩ rfl hn hsize hst (lv_room hW) hdg hf) (fun _ _ _ q => q) (pre := pre) (post := []) hP hD hS (fun o w' H1 locs1 hPo hP hD hS => ?_)
  rw [List.append_nil] at hP hD
  exact kk o w' H1 locs1 hPo hP hD hS
theorem z_lM {d0 : Drawn} {V : UInt64} (hd0 : s.drawn.sameBut d0 lw_cs) (rest : List Value) (pre post : va_W) (hx : p.tables.exec = Jvm.exec) (hb : c.code = cc) (hml : c.maxLocals = nL) (hown : (s.setDrawn d0).vm.findClass own = some m.cls) (hts : ∀ w ∈ Ts, w.before args (s.setDrawn d0) = true) (hM : z_MM l y wsy f L (.ref b :: As) Dg cI w V w') (hT : GoodIn Ts (wsV own index C y wsy)) (hw : wsy = Cond.code y bytes maxL ret :: wsy') (hd : y.cls = C ∧ y.cls ≠ "java/lang/invoke/MethodHandle" ∧ y.cls ≠ "java/lang/invoke/VarHandle" ∧ (parseMethodDescriptor y.desc).map (fun d => d.parameters.length) = some n) (hR : f + 1 ≤ R.frames ∧ 8 + (maxL + 11) + L ≤ R.locals)
    (hK : va_K Dg vwCl [(cI, .int)] (s.setDrawn d0)) (hN : z_N (s.setDrawn d0)) (hP : va_P Dg vwCl (pre ++ (w ++ post)) H) (hD : va_D A0 (pre ++ (w ++ post))) (hS : va_S A0 H0 H locs) (ha : w'.map Prod.fst = w.map Prod.fst) (he : w[q0]? = some (b, .inr (ci, fs))) (hc : vwCl[ci]? = some vq) (hCl : vq.1 = C) (hn : As.length = n) (hsize : ls.size = nL) (hst : st0 = As.reverse ++ .ref b :: rest) (hW : (rest.map fun v => v.category).sum ≤ 8) (hdg : decode cc pc = .ok (.invokevirtual index, 3)) (hf : cells + 0 ≤ R.cells ∧ slots + 0 ≤ R.slots)
    (kk : ∀ (r : UInt64) (H1 : Heap) (locs1 : List Loc) (d1 : Drawn), alike64 r V = true → va_P Dg vwCl (pre ++ (w' ++ post)) H1 → va_D A0 (pre ++ (w' ++ post)) → va_S A0 H0 H1 locs1 → s.drawn.sameBut d1 lw_cs → W p l e R (s.setDrawn d1) m args below meth c H1 locs1 (cells + 0) (slots + 0) Q (F0 m (pc + 3) ls (.double r :: rest))) : W p l e R (s.setDrawn d0) m args below meth c H locs cells slots Q (F0 m pc ls st0) := by
  have hDw := z_Dl (z_Drr hD)
  have hin : ∀ q, z_in w q → A0 q := fun q ⟨k, e, h⟩ => hDw.2 k _ h
  refine va_calldD hd0 (va_runV_D (As := As) (rest := rest) ⟨hx, hb, hml, hown, hts⟩ hM (cwV n hts hT hw rfl rfl hd hR) ⟨z_Pw.blind, by rw [← hCl]; exact va_recv hK (z_Pm hP) hc he, fun U hU hW => ⟨rfl, by rw [hU]; exact z_Pm hP, z_K.warm hW ⟨hK, hN⟩, hDw.weaken (fun _ _ _ _ => trivial)⟩⟩ rfl hn hsize hst (lv_room hW) hdg hf) hS (fun q _ h => hin q h) hin (fun r u t H1 locs1 ht _ hal hB hz1 hk1 hS1 d1 hd1 => ?_)
  rw [ht] at hB
  obtain ⟨hP2, hD2⟩ := z_blk (H1 := H1) hP hD ha hk1 hB
  exact kk r H1 locs1 d1 hal hP2 hD2 hS1 hd1
end ZLL
