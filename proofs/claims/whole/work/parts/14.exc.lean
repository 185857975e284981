/-! methods that may throw (the class's own exceptions): what their contracts carry beside the world, the throw itself, a call whose exception goes on, a call whose exception is caught -/
abbrev xIAE : String := "java/lang/IllegalArgumentException"
abbrev xIOB : String := "java/lang/IndexOutOfBoundsException"
abbrev xISE : String := "java/lang/IllegalStateException"
abbrev xNSE : String := "java/util/NoSuchElementException"
abbrev xNM : List String := ["java/lang/RuntimeException", "java/lang/Exception"]
def cx_Bw : List Cond := [.castable xIAE xIAE, .castable xIOB xIOB, .castable xISE xISE, .castable xNSE xNSE, .declares ⟨"java/lang/Exception", "<init>", "(Ljava/lang/String;)V"⟩, .declares ⟨"java/lang/RuntimeException", "<init>", "(Ljava/lang/String;)V"⟩, .declares ⟨"java/lang/Throwable", "<init>", "(Ljava/lang/String;)V"⟩]
def cx_sr : List (Nat × String) := [(58, "the number of rows is not 1 to 16"), (210, "there is no such row"), (218, "the value is not 0 to 65520"), (213, "there is no such position"), (151, "the mask has a bit of a row that does not exist"), (215, "there are no factors"), (186, "there is no solution"), (191, "there are 6 levels"), (197, "there is no level")]
def cx_nc : List (String × String) := [(xIOB, xIAE), (xISE, xIAE), (xNSE, xIAE), (xIAE, xIOB), (xISE, xIOB), (xNSE, xIOB), (xIAE, xISE), (xIOB, xISE), (xNSE, xISE), (xIAE, xNSE), (xIOB, xNSE), (xISE, xNSE)]
def cx_X1 (U : State) : Prop := ∀ w ∈ cx_Bw, va_Nw w U
def cx_X2 (U : State) : Prop := ∀ q ∈ cx_sr, ∃ a : Nat, vk_R RX4 q.1 q.2 a U
def cx_X3 (U : State) : Prop := ∀ q ∈ cx_nc, va_Nc q.1 q.2 U
def cx_KX (U : State) : Prop := cx_X1 U ∧ cx_X2 U ∧ cx_X3 U
def cx_Z (A : Nat → Prop) (U : State) (H : Heap) : Prop := vx_Zq Bundle.tN "UNASSIGNED_STACK" Bundle.steD A U H ∧ vx_Zq Bundle.tN "SUPPRESSED_SENTINEL" Bundle.listD A U H
theorem cx_X1.warm {s U : State} (hW : s.WarmedH U.vm) (h : cx_X1 s) : cx_X1 U := by
  intro w hw
  have h1 := h w hw
  simp only [cx_Bw, List.mem_cons, List.not_mem_nil, or_false] at hw
  rcases hw with rfl | rfl | rfl | rfl | rfl | rfl | rfl
  · exact va_Nw.warmC hW h1
  · exact va_Nw.warmC hW h1
  · exact va_Nw.warmC hW h1
  · exact va_Nw.warmC hW h1
  · exact va_Nw.warmD hW h1
  · exact va_Nw.warmD hW h1
  · exact va_Nw.warmD hW h1
theorem cx_Bw_ok : ∀ w ∈ cx_Bw, w.onTables = true := by decide +kernel
theorem cx_KX.warm {s U : State} (hW : s.WarmedH U.vm) (h : cx_KX s) : cx_KX U := ⟨h.1.warm hW, fun q hq => by obtain ⟨a, ha⟩ := h.2.1 q hq; exact ⟨a, ha.warm hW⟩, fun q hq => (h.2.2 q hq).moved hW.alike⟩
theorem cx_KX.calling {U : State} {f : JFrame} {mk : MethodId} {a : Array Value} (h : cx_KX U) : cx_KX (U.calling f mk a) := ⟨fun w hw => va_Nw.same (u := U) (cx_Bw_ok w hw) rfl (h.1 w hw), fun q hq => by obtain ⟨b, hb⟩ := h.2.1 q hq; exact ⟨b, vk_R.same rfl hb⟩, fun q hq => (h.2.2 q hq).moved (Vm.Alike.refl U.vm)⟩
theorem cx_KX.cast {s : State} {args : Array Value} (h : cx_KX s) (k : Nat) {w : Cond} (hk : cx_Bw[k]? = some w) : w.before args s = true := va_Nw.use (cx_Bw_ok w (List.mem_of_getElem? hk)) (h.1 w (List.mem_of_getElem? hk))
theorem cx_Z.go {A B : Nat → Prop} {s U : State} {H : Heap} {locs : List Loc} (h : cx_Z A s s.heap) (hS : va_S A s.heap H locs) (hB : ∀ q, B q → A q) (hvm : s.vm.Alike U.vm) : cx_Z B U H := ⟨((h.1.kept (fun q h1 h2 => hS.2.1 q h1 h2)).narrow hB).moved hvm, ((h.2.kept (fun q h1 h2 => hS.2.1 q h1 h2)).narrow hB).moved hvm⟩
def cx_PX (g : cx_G) (av : List Value) (W0 : va_W) (sz : Nat) : Array Value → State → Prop := va_Pc av (fun U => U.heap.size = sz ∧ va_P g.1 vwCl W0 U.heap ∧ cx_K g U ∧ va_D (fun _ => True) W0 ∧ cx_KX U ∧ cx_Z (va_A W0 sz) U U.heap)
def cx_XC (g : cx_G) (W0 : va_W) (sz : Nat) (X : String → Prop) : String → State → State → Prop := vx_X (S := Unit) (fun _ => True) (fun E _ t => X E ∧ va_P g.1 vwCl W0 t.heap) (va_A W0 sz)
abbrev cx_Ei (l : Launch) (g : cx_G) (y : MethodName) (ws : List Cond) (rm : Room) (av : List Value) (W0 : va_W) {S : Type} (post : Int32 → S → Prop) (W1 : S → va_W) (X : String → Prop) (mc ms : Nat) : Prop := ∀ sz : Nat, vx_Met l y ws rm (cx_PX g av W0 sz) (va_Qi post (cx_B g W0 sz W1) (va_A W0 sz)) (cx_XC g W0 sz X) mc ms (va_A W0 sz)
abbrev cx_Ev (l : Launch) (g : cx_G) (y : MethodName) (ws : List Cond) (rm : Room) (av : List Value) (W0 : va_W) {S : Type} (post : S → Prop) (W1 : S → va_W) (X : String → Prop) (mc ms : Nat) : Prop := ∀ sz : Nat, vx_Met l y ws rm (cx_PX g av W0 sz) (va_Qv post (cx_B g W0 sz W1) (va_A W0 sz)) (cx_XC g W0 sz X) mc ms (va_A W0 sz)
/-- a contract of a method that has a table and lets nothing out, and that needs the throw's premises -/
abbrev cx_Hi (l : Launch) (g : cx_G) (y : MethodName) (ws : List Cond) (rm : Room) (av : List Value) (W0 : va_W) {S : Type} (post : Int32 → S → Prop) (W1 : S → va_W) (mc ms : Nat) : Prop := ∀ sz : Nat, Met l y ws rm (cx_PX g av W0 sz) (va_Qi post (cx_B g W0 sz W1) (va_A W0 sz)) mc ms (va_A W0 sz)
theorem cx_blindX {g : cx_G} {av : List Value} {W0 : va_W} {sz : Nat} : FrameBlind (cx_PX g av W0 sz) := fun a U f mk q => by
  obtain ⟨q0, q1, qP, qK, qD, qX, qZ⟩ := q
  exact ⟨q0, q1, qP, qK.calling, qD, qX.calling, ⟨qZ.1.moved (u := U) (U := U.calling f mk a) (Vm.Alike.refl U.vm), qZ.2.moved (u := U) (U := U.calling f mk a) (Vm.Alike.refl U.vm)⟩⟩
theorem cx_preSX {g : cx_G} {s : State} {H : Heap} {As : List Value} {W0 ws : va_W} {A : Nat → Prop} {locs : List Loc} (hK : cx_K g s) (hKX : cx_KX s) (hZ : cx_Z A s s.heap) (hS : va_S A s.heap H locs) (hA : ∀ q, s.heap.size ≤ q → A q) (hP : va_P g.1 vwCl ws H) (hD : va_D A ws) (isC : List Nat) (hC : isC.map (fun i => ws[i]?) = W0.map some) (hc : va_nd isC = true) : PreS s H (cx_PX g As W0 H.size) As :=
  ⟨cx_blindX, fun U hU hW => ⟨rfl, by rw [hU], by rw [hU]; exact hP.sub isC (cx_fm (W := W0) hC), hK.warm hW, (hD.sub isC hc hC).weaken (fun _ _ _ _ => trivial), hKX.warm hW, by rw [hU]; exact hZ.go hS (va_free (wc := W0) hD hS hA isC hC) hW.alike⟩⟩
theorem cx_preVX {g : cx_G} {s : State} {H : Heap} {C : String} {b : Addr} {As : List Value} {W0 ws : va_W} {A : Nat → Prop} {locs : List Loc} (hK : cx_K g s) (hKX : cx_KX s) (hZ : cx_Z A s s.heap) (hS : va_S A s.heap H locs) (hA : ∀ q, s.heap.size ≤ q → A q) (hP : va_P g.1 vwCl ws H) (hD : va_D A ws) (isC : List Nat) (hC : isC.map (fun i => ws[i]?) = W0.map some) (hc : va_nd isC = true) (q0 ci : Nat) {fs : List Value} {T : u_T} {N : Nat} (hq : vwCl[ci]? = some (C, T, N)) (he : ws[q0]? = some (b, .inr (ci, fs))) : PreV s H C b (cx_PX g (.ref b :: As) W0 H.size) As :=
  ⟨cx_blindX, va_recv hK.1 hP hq he, fun U hU hW => ⟨rfl, by rw [hU], by rw [hU]; exact hP.sub isC (cx_fm (W := W0) hC), hK.warm hW, (hD.sub isC hc hC).weaken (fun _ _ _ _ => trivial), hKX.warm hW, by rw [hU]; exact hZ.go hS (va_free (wc := W0) hD hS hA isC hC) hW.alike⟩⟩
theorem cx_in_IAE : ∀ w ∈ (vx_atS RX4 60 xIAE xNM).filter goodWord, w ∈ lw_tbl := by decide +kernel
theorem cx_bw_IAE : ∀ w ∈ (vx_atS RX4 60 xIAE xNM).filter (fun w => !goodWord w), w ∈ cx_Bw := by decide +kernel
theorem cx_at_IAE {args : Array Value} {s : State} (hts : ∀ w ∈ cx_T, w.before args s = true) (h : cx_KX s) : ∀ w ∈ vx_atS RX4 60 xIAE xNM, w.before args s = true := vx_hat (fun w hw => hts w (List.mem_filter.mpr ⟨cx_in_IAE w hw, (List.mem_filter.mp hw).2⟩)) cx_bw_IAE (fun w hw => va_Nw.use (cx_Bw_ok w hw) (h.1 w hw))
theorem cx_in_IOB : ∀ w ∈ (vx_atS RX4 212 xIOB xNM).filter goodWord, w ∈ lw_tbl := by decide +kernel
theorem cx_bw_IOB : ∀ w ∈ (vx_atS RX4 212 xIOB xNM).filter (fun w => !goodWord w), w ∈ cx_Bw := by decide +kernel
theorem cx_at_IOB {args : Array Value} {s : State} (hts : ∀ w ∈ cx_T, w.before args s = true) (h : cx_KX s) : ∀ w ∈ vx_atS RX4 212 xIOB xNM, w.before args s = true := vx_hat (fun w hw => hts w (List.mem_filter.mpr ⟨cx_in_IOB w hw, (List.mem_filter.mp hw).2⟩)) cx_bw_IOB (fun w hw => va_Nw.use (cx_Bw_ok w hw) (h.1 w hw))
theorem cx_in_ISE : ∀ w ∈ (vx_atS RX4 193 xISE xNM).filter goodWord, w ∈ lw_tbl := by decide +kernel
theorem cx_bw_ISE : ∀ w ∈ (vx_atS RX4 193 xISE xNM).filter (fun w => !goodWord w), w ∈ cx_Bw := by decide +kernel
theorem cx_at_ISE {args : Array Value} {s : State} (hts : ∀ w ∈ cx_T, w.before args s = true) (h : cx_KX s) : ∀ w ∈ vx_atS RX4 193 xISE xNM, w.before args s = true := vx_hat (fun w hw => hts w (List.mem_filter.mpr ⟨cx_in_ISE w hw, (List.mem_filter.mp hw).2⟩)) cx_bw_ISE (fun w hw => va_Nw.use (cx_Bw_ok w hw) (h.1 w hw))
section CXE
variable {p : Program} {l : Launch} {e : Env} {R : Room} {s : State} {m : MethodId} {args : Array Value} {below : List Frame} {meth : Method} {c : Code} {H : Heap} {locs : List Loc} {cells slots : Nat}
variable {pc : Nat} {ls : Array Slot} {rest st0 : List Value} {A : Nat → Prop} {mc ms mcN msN : Nat} {g : cx_G} {ws W0 W0M wr : va_W} {y : MethodName} {bytes cc : ByteArray} {maxL nL n index : Nat} {ret : Option FieldType} {wds : List Cond} {rm : Room} {own C : String} {b : Addr} {As : List Value} {Qc : Array Value → State → Outcome → State → Prop} {X : String → Prop}
theorem cx_throwS {cls text : String} {ik is ic : Nat} (hexec : p.tables.exec = Jvm.exec) (hb : c.code = cc) (hlt : l.stackTraces = false) (hown : s.vm.findClass RX4 = some m.cls) (hcls : Bundle.fit cls = true) (hk : (Cond.classLink RX4 ik cls).before args s = true) (hini : (Cond.initialized cls).before args s = true) (hKX : cx_KX s) (k : Nat) (hstr : cx_sr[k]? = some (is, text)) (hat : ∀ w ∈ vx_atS RX4 ic cls xNM, w.before args s = true) (hgood : ∀ w ∈ Cond.classLink RX4 ik cls :: Cond.initialized cls :: vx_atS RX4 ic cls xNM, vx_ot w = true) (hZ : cx_Z A s s.heap) (hAe : A = va_A W0M s.heap.size) (hS : va_S A s.heap H locs) (hP : va_P g.1 vwCl W0M H) (hsize : ls.size = c.maxLocals)
    (d0 : decode cc pc = .ok (.new ik, 3)) (d3 : decode cc (pc + 3) = .ok (.dup, 1)) (d4 : decode cc (pc + 4) = .ok (.ldc is, 2)) (d6 : decode cc (pc + 6) = .ok (.invokespecial ic, 3)) (d9 : decode cc (pc + 9) = .ok (.athrow, 1)) (htab : ∀ x ∈ c.exceptionTable.toList, False)
    (hRframes : 5 < R.frames) (hRlocals : (rest.map fun v => v.category).sum + 82 ≤ R.locals) (hRcells : cells + 1 ≤ R.cells) (hRslots : slots + 6 ≤ R.slots) (hlocks : meth.locks = false) (hX : X cls) (hc : cells + 1 ≤ mc) (hs : slots + 6 ≤ ms) : W p l e R s m args below meth c H locs cells slots (vx_MQ below Qc (cx_XC g W0M s.heap.size X) args s mc ms (va_A W0M s.heap.size)) (F0 m pc ls rest) := by
  subst hAe
  obtain ⟨sa, hsa⟩ := hKX.2.1 _ (List.mem_of_getElem? hstr)
  refine vx_throwS (names := xNM) hexec hb hlt hown hcls (by decide +kernel) hk hini hsa hat hgood hZ.1 hZ.2 hS hsize d0 d3 d4 d6 d9 (fun x hx => (htab x hx).elim) hRframes hRlocals hRcells hRslots hlocks (fun t ht hz hq => ?_) hS.2.2 hc hs
  exact ⟨(), trivial, ⟨hX, fun k q h => (hP k q h).kept (hq _ (hP k q h).lt)⟩, Nat.le_trans hS.1 hz, fun q h1 h2 => by rw [hq q (Nat.lt_of_lt_of_le h1 hS.1)]; exact hS.2.1 q h1 h2⟩
theorem cx_throwSW {cls text : String} {ik is ic : Nat} (hexec : p.tables.exec = Jvm.exec) (hb : c.code = cc) (hlt : l.stackTraces = false) (hown : s.vm.findClass RX4 = some m.cls) (hcls : Bundle.fit cls = true) (hk : (Cond.classLink RX4 ik cls).before args s = true) (hini : (Cond.initialized cls).before args s = true) (hKX : cx_KX s) (k : Nat) (hstr : cx_sr[k]? = some (is, text)) (hat : ∀ w ∈ vx_atS RX4 ic cls xNM, w.before args s = true) (hgood : ∀ w ∈ Cond.classLink RX4 ik cls :: Cond.initialized cls :: vx_atS RX4 ic cls xNM, vx_ot w = true) (hZ : cx_Z A s s.heap) (hAe : A = va_A W0M s.heap.size) (hS : va_S A s.heap H locs) (hP : va_P g.1 vwCl W0M H) (hsize : ls.size = c.maxLocals)
    (d0 : decode cc pc = .ok (.new ik, 3)) (d3 : decode cc (pc + 3) = .ok (.dup, 1)) (d4 : decode cc (pc + 4) = .ok (.ldc_w is, 3)) (d6 : decode cc (pc + 7) = .ok (.invokespecial ic, 3)) (d9 : decode cc (pc + 10) = .ok (.athrow, 1)) (htab : ∀ x ∈ c.exceptionTable.toList, False)
    (hRframes : 5 < R.frames) (hRlocals : (rest.map fun v => v.category).sum + 82 ≤ R.locals) (hRcells : cells + 1 ≤ R.cells) (hRslots : slots + 6 ≤ R.slots) (hlocks : meth.locks = false) (hX : X cls) (hc : cells + 1 ≤ mc) (hs : slots + 6 ≤ ms) : W p l e R s m args below meth c H locs cells slots (vx_MQ below Qc (cx_XC g W0M s.heap.size X) args s mc ms (va_A W0M s.heap.size)) (F0 m pc ls rest) := by
  subst hAe
  obtain ⟨sa, hsa⟩ := hKX.2.1 _ (List.mem_of_getElem? hstr)
  refine vx_throwSW (names := xNM) hexec hb hlt hown hcls (by decide +kernel) hk hini hsa hat hgood hZ.1 hZ.2 hS hsize d0 d3 d4 d6 d9 (fun x hx => (htab x hx).elim) hRframes hRlocals hRcells hRslots hlocks (fun t ht hz hq => ?_) hS.2.2 hc hs
  exact ⟨(), trivial, ⟨hX, fun k q h => (hP k q h).kept (hq _ (hP k q h).lt)⟩, Nat.le_trans hS.1 hz, fun q h1 h2 => by rw [hq q (Nat.lt_of_lt_of_le h1 hS.1)]; exact hS.2.1 q h1 h2⟩
theorem cx_vVp {post : Unit → Prop} (F : CallFix p m c cc nL s args cx_T own) (hM : cx_Ev l g y wds rm (.ref b :: As) W0 post (fun _ : Unit => W0) X mcN msN) (cw : CallW R s args own C index y bytes maxL ret wds rm mcN msN n) (hK : cx_K g s) (hKX : cx_KX s) (hZ : cx_Z A s s.heap) (hAe : A = va_A W0M s.heap.size) (htab : ∀ x ∈ c.exceptionTable.toList, False) (hlocks : meth.locks = false) (hP : va_P g.1 vwCl W0M H) (hD : va_D A W0M) (hS : va_S A s.heap H locs) (hA : ∀ q, s.heap.size ≤ q → A q) (q0 ci : Nat) {fs : List Value} {T : u_T} {N : Nat} (hq : vwCl[ci]? = some (C, T, N)) (he : W0M[q0]? = some (b, .inr (ci, fs))) (isC : List Nat) (hC : isC.map (fun i => W0M[i]?) = W0.map some) (hc : va_nd isC = true)
    (hAs : As.length = n) (hsize : ls.size = nL) (hstack : st0 = As.reverse ++ .ref b :: rest) (hW : (rest.map fun v => v.category).sum ≤ 8) (hdg : decode cc pc = .ok (.invokevirtual index, 3)) (hf : cells + mcN ≤ R.cells ∧ slots + msN ≤ R.slots) (hmc : cells + mcN ≤ mc) (hms : slots + msN ≤ ms)
    (kk : ∀ (H1 : Heap) (locs1 : List Loc), post () → va_P g.1 vwCl W0M H1 → va_S A s.heap H1 locs1 → W p l e R s m args below meth c H1 locs1 (cells + mcN) (slots + msN) (vx_MQ below Qc (cx_XC g W0M s.heap.size X) args s mc ms (va_A W0M s.heap.size)) (F0 m (pc + 3) ls rest)) : W p l e R s m args below meth c H locs cells slots (vx_MQ below Qc (cx_XC g W0M s.heap.size X) args s mc ms (va_A W0M s.heap.size)) (F0 m pc ls st0) := by
  have hF := va_free (wc := W0) hD hS hA isC hC
  refine vx_callv (vx_runV (As := As) (rest := rest) F (hM H.size) cw (cx_preVX hK hKX hZ hS hA hP hD isC hC hc q0 ci hq he) rfl hAs hsize hstack (lv_room hW) hdg hf) hS (fun q _ h => hF q h) hF (fun q _ h => hF q h) (fun E ce q9 u t H1 locs1 ht hvm hw hB hz hk hS1 hce hcv hcl => ?_) (fun u t H1 locs1 ht hvm hw hB hz hk hS1 => ?_)
  · obtain ⟨hX, hP1⟩ := hB
    rw [ht] at hP1
    have hP2 := cx_same hP hD isC hC hk hP1
    subst hAe
    exact vx_out (fun x hx => (htab x hx).elim) hlocks hce hcv hcl (fun t2 ht2 _ => ⟨(), trivial, ⟨hX, by rw [ht2]; exact hP2⟩, hS1.F ht2⟩) hS1.2.2 hmc hms
  · obtain ⟨hP1, hD1⟩ := hB
    rw [ht] at hP1
    exact kk H1 locs1 hw (cx_same hP hD isC hC hk hP1) hS1
theorem cx_vSp {post : Unit → Prop} (F : CallFix p m c cc nL s args cx_T own) (hM : cx_Ev l g y wds rm As W0 post (fun _ : Unit => W0) X mcN msN) (cw : CallB R s args own index y bytes maxL ret wds rm mcN msN n ∧ (Cond.static y).before args s = true) (hK : cx_K g s) (hKX : cx_KX s) (hZ : cx_Z A s s.heap) (hAe : A = va_A W0M s.heap.size) (htab : ∀ x ∈ c.exceptionTable.toList, False) (hlocks : meth.locks = false) (hP : va_P g.1 vwCl W0M H) (hD : va_D A W0M) (hS : va_S A s.heap H locs) (hA : ∀ q, s.heap.size ≤ q → A q) (isC : List Nat) (hC : isC.map (fun i => W0M[i]?) = W0.map some) (hc : va_nd isC = true)
    (hAs : As.length = n) (hsize : ls.size = nL) (hstack : st0 = As.reverse ++ rest) (hW : (rest.map fun v => v.category).sum ≤ 8) (hdg : decode cc pc = .ok (.invokestatic index, 3)) (hf : cells + mcN ≤ R.cells ∧ slots + msN ≤ R.slots) (hmc : cells + mcN ≤ mc) (hms : slots + msN ≤ ms)
    (kk : ∀ (H1 : Heap) (locs1 : List Loc), post () → va_P g.1 vwCl W0M H1 → va_S A s.heap H1 locs1 → W p l e R s m args below meth c H1 locs1 (cells + mcN) (slots + msN) (vx_MQ below Qc (cx_XC g W0M s.heap.size X) args s mc ms (va_A W0M s.heap.size)) (F0 m (pc + 3) ls rest)) : W p l e R s m args below meth c H locs cells slots (vx_MQ below Qc (cx_XC g W0M s.heap.size X) args s mc ms (va_A W0M s.heap.size)) (F0 m pc ls st0) := by
  have hF := va_free (wc := W0) hD hS hA isC hC
  refine vx_callv (vx_runS (As := As) (rest := rest) F (hM H.size) cw (cx_preSX hK hKX hZ hS hA hP hD isC hC hc) rfl hAs hsize hstack (lv_room hW) hdg hf) hS (fun q _ h => hF q h) hF (fun q _ h => hF q h) (fun E ce q9 u t H1 locs1 ht hvm hw hB hz hk hS1 hce hcv hcl => ?_) (fun u t H1 locs1 ht hvm hw hB hz hk hS1 => ?_)
  · obtain ⟨hX, hP1⟩ := hB
    rw [ht] at hP1
    have hP2 := cx_same hP hD isC hC hk hP1
    subst hAe
    exact vx_out (fun x hx => (htab x hx).elim) hlocks hce hcv hcl (fun t2 ht2 _ => ⟨(), trivial, ⟨hX, by rw [ht2]; exact hP2⟩, hS1.F ht2⟩) hS1.2.2 hmc hms
  · obtain ⟨hP1, hD1⟩ := hB
    rw [ht] at hP1
    exact kk H1 locs1 hw (cx_same hP hD isC hC hk hP1) hS1
end CXE
section CXH
variable {p : Program} {l : Launch} {e : Env} {R : Room} {s : State} {m : MethodId} {args : Array Value} {below : List Frame} {meth : Method} {c : Code} {H : Heap} {locs : List Loc} {cells slots : Nat}
variable {pc : Nat} {ls : Array Slot} {rest st0 : List Value} {A : Nat → Prop} {mc ms mcN msN : Nat} {g : cx_G} {ws W0 W0M wr : va_W} {y : MethodName} {bytes cc : ByteArray} {maxL nL n index : Nat} {ret : Option FieldType} {wds : List Cond} {rm : Room} {own C : String} {b : Addr} {As : List Value} {X : String → Prop} {Q : State → Prop} {X9 : String → Prop}
/-- the law's wrappers: a call of a method of the class that may throw; its exceptions go to kx -/
theorem cx_iVh {S : Type} {post : Int32 → S → Prop} {W1 : S → va_W} (F : CallFix p m c cc nL s args cx_T own) (hM : cx_Ei l g y wds rm (.ref b :: As) W0 post W1 X mcN msN) (cw : CallW R s args own C index y bytes maxL ret wds rm mcN msN n) (hK : cx_K g s) (hKX : cx_KX s) (hZ : cx_Z A s s.heap) (hP : va_P g.1 vwCl ws H) (hD : va_D A ws) (hS : va_S A s.heap H locs) (hA : ∀ q, s.heap.size ≤ q → A q) (q0 ci : Nat) {fs : List Value} {T : u_T} {N : Nat} (hq : vwCl[ci]? = some (C, T, N)) (he : ws[q0]? = some (b, .inr (ci, fs))) (isC isR : List Nat) (hC : isC.map (fun i => ws[i]?) = W0.map some) (hc : va_nd isC = true) (hR : isR.map (fun i => ws[i]?) = wr.map some) (hn : va_nd isR = true) (hdis : ∀ i ∈ isR, i ∉ isC)
    (hAs : As.length = n) (hsize : ls.size = nL) (hstack : st0 = As.reverse ++ .ref b :: rest) (hW : (rest.map fun v => v.category).sum ≤ 8) (hdg : decode cc pc = .ok (.invokevirtual index, 3)) (hf : cells + mcN ≤ R.cells ∧ slots + msN ≤ R.slots)
    (kx : ∀ (E : String) (ce : Cell) (q9 : Addr) (H1 : Heap) (locs1 : List Loc), X E → va_P g.1 vwCl ws H1 → va_S A s.heap H1 locs1 → H1[q9]? = some ce → ce.vm = .none → s.vm.findClass E = some ce.cls → vx_W p l e R s m args below meth c H1 locs1 (cells + mcN) (slots + msN) Q (F0 m pc ls rest) q9)
    (kk : ∀ (r : Int32) (u : S) (H1 : Heap) (locs1 : List Loc), post r u → va_P g.1 vwCl (wr ++ W1 u) H1 → va_D A (wr ++ W1 u) → va_S A s.heap H1 locs1 → W p l e R s m args below meth c H1 locs1 (cells + mcN) (slots + msN) Q (F0 m (pc + 3) ls (.int r :: rest))) : W p l e R s m args below meth c H locs cells slots Q (F0 m pc ls st0) := by
  have hF := va_free (wc := W0) hD hS hA isC hC
  refine vx_calli (vx_runV (As := As) (rest := rest) F (hM H.size) cw (cx_preVX hK hKX hZ hS hA hP hD isC hC hc q0 ci hq he) rfl hAs hsize hstack (lv_room hW) hdg hf) hS (fun q _ h => hF q h) hF (fun q _ h => hF q h) (fun E ce q9 u t H1 locs1 ht hvm hw hB hz hk hS1 hce hcv hcl => ?_) (fun r u t H1 locs1 ht hvm hw hB hz hk hS1 => ?_)
  · obtain ⟨hX, hP1⟩ := hB
    rw [ht] at hP1
    exact kx E ce q9 H1 locs1 hX (cx_same hP hD isC hC hk hP1) hS1 hce hcv hcl
  · obtain ⟨hP1, hD1⟩ := hB
    rw [ht] at hP1
    obtain ⟨hP', hD'⟩ := va_join hP hD isC isR hC hR hn hdis hk hF hP1 hD1
    exact kk r u H1 locs1 hw hP' hD' hS1
end CXH
theorem cx_ofWH {l : Launch} {y : MethodName} {ws ws' : List Cond} {rm : Room} {Pc : Array Value → State → Prop} {Qc : Array Value → State → Outcome → State → Prop} {mc ms : Nat} {free : Addr → Prop} {cc : ByteArray} {maxL : Nat} {ret : Option FieldType} {hh : List (Nat × Nat × Nat × Nat)}
    (hy : plainName y.cls = true) (hw : ws = Cond.codeWith y cc maxL ret hh :: ws')
    (body : ∀ p e s m args below meth c s₁, BodyLoose p l y (headSpec ws rm) cc maxL ret e s m args below meth c s₁ → c.maxLocals = maxL → Pc args s →
      W p l e (headSpec ws rm).room s m args below meth c s.heap [] 0 0 (MQ below Qc args s mc ms free) (entryFrame m args maxL)) : Met l y ws rm Pc Qc mc ms free := by
  refine MetFree.of_bodyS (code := cc) (maxLocals := maxL) (ret := ret) hy ?_ ?_
  · intro args s m h hn
    obtain ⟨m9, meth, c, hn9, h1, h2, h3, h4, -, h5, h6, -⟩ := Cond.codeWith_spec (atoms_spec (ws := ws) h _ (by rw [hw]; exact List.mem_cons_self))
    cases hn.symm.trans hn9
    exact ⟨meth, c, h1, h2, h3, h4, h5, h6⟩
  · intro p e s m args below meth c s₁ B hml hP _
    have hh0 : s₁.heap = s.heap := by rw [B.state]; rfl
    obtain ⟨t, a1, o, b1, b2, b3⟩ := body p e s m args below meth c s₁ B hml hP s₁ hh0 (Stand.of_body B)
    exact ⟨t, o, a1, b1, b2, b3⟩
