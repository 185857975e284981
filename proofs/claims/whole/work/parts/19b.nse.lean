def xn_W : List Cond := xn_L.filter vx_no
theorem xn_in : ∀ w ∈ xn_W.filter goodWord, w ∈ lw_tbl := by decide +kernel
theorem xn_bw : ∀ w ∈ xn_W.filter (fun w => !goodWord w), w ∈ cx_Bw := by decide +kernel
theorem xn_ok : ∀ w ∈ Cond.classLink RX4 184 xNSE :: Cond.initialized xNSE :: xn_W, vx_ot w = true := by decide +kernel
theorem cx_at_NSE {args : Array Value} {s : State} (hts : ∀ w ∈ cx_T, w.before args s = true) (h : cx_KX s) : ∀ w ∈ xn_W, w.before args s = true := vx_hat (fun w hw => hts w (List.mem_filter.mpr ⟨xn_in w hw, (List.mem_filter.mp hw).2⟩)) xn_bw (fun w hw => va_Nw.use (cx_Bw_ok w hw) (h.1 w hw))
set_option maxHeartbeats 4000000 in
/-- 'throw new NoSuchElementException("text")': the kit's vx_throwS with xn_ctor in its place -/
theorem xn_throw {p : Program} {l : Launch} {e : Env} {R : Room} {s : State} {m : MethodId} {args : Array Value} {below : List Frame} {meth : Method} {c : Code} {H : Heap} {locs : List Loc} {cells slots : Nat} {ls : Array Slot} {rest : List Value} {Qc : Array Value → State → Outcome → State → Prop} {XC : String → State → State → Prop} {free : Addr → Prop} {cc : ByteArray} {pc : Nat} (hexec : p.tables.exec = Jvm.exec) (hb : c.code = cc) (hl : l.stackTraces = false) {text : String} {is mc ms sa : Nat} {A : Nat → Prop}
    (hown : s.vm.findClass RX4 = some m.cls) (hk : (Cond.classLink RX4 184 xNSE).before args s = true) (hini : (Cond.initialized xNSE).before args s = true) (hstr : vk_R RX4 is text sa s) (hat : ∀ w ∈ xn_W, w.before args s = true)
    (hU : vx_Zq Bundle.tN "UNASSIGNED_STACK" Bundle.steD A s s.heap) (hN : vx_Zq Bundle.tN "SUPPRESSED_SENTINEL" Bundle.listD A s s.heap) (hS : va_S A s.heap H locs) (hsize : ls.size = c.maxLocals)
    (d0 : decode cc pc = .ok (.new 184, 3)) (d3 : decode cc (pc + 3) = .ok (.dup, 1)) (d4 : decode cc (pc + 4) = .ok (.ldc is, 2)) (d6 : decode cc (pc + 6) = .ok (.invokespecial 188, 3)) (d9 : decode cc (pc + 9) = .ok (.athrow, 1))
    (hout : ∀ x ∈ c.exceptionTable.toList, covers x (pc + 9) = false)
    (hRframes : 5 < R.frames) (hRlocals : (rest.map fun v => v.category).sum + 82 ≤ R.locals) (hRcells : cells + 1 ≤ R.cells) (hRslots : slots + 6 ≤ R.slots) (hlocks : meth.locks = false)
    (hx : ∀ t : State, s.vm.Alike t.vm → H.size ≤ t.heap.size → (∀ q : Nat, q < H.size → t.heap[q]? = H[q]?) → XC xNSE s t)
    (hf : ∀ z ∈ locs, free z.base) (hc : cells + 1 ≤ mc) (hs : slots + 6 ≤ ms) :
    W p l e R s m args below meth c H locs cells slots (vx_MQ below Qc XC args s mc ms free) (F0 m pc ls rest) := by
  intro T hT X
  have htr : e.platform.stackTraces = false := (show e.platform.stackTraces = l.stackTraces by rw [X.admits.platform]).trans hl
  have Y := vx_rebase X (R' := { frames := R.frames, locals := R.locals, cells := 1, slots := 6 }) (Nat.le_refl _) (Nat.le_refl _) hRcells hRslots
  obtain ⟨s', hA⟩ : ∃ z, z = (T.setVm s.vm).setFrames (.invoking m args :: below) := ⟨_, rfl⟩
  rw [← hA] at Y
  have hvm : s'.vm = s.vm := by rw [hA]; rfl
  have hhp : s'.heap = H := by rw [hA]; exact hT
  have hW0 : s.WarmedH s'.vm := by rw [hvm]; exact State.WarmedH.refl s
  have hat' : ∀ w ∈ xn_W, w.before args s' = true := fun w hw => vx_ot_at hW0 hvm.symm (xn_ok w (List.mem_cons_of_mem _ (List.mem_cons_of_mem _ hw))) (hat w hw)
  have hk' : (Cond.classLink RX4 184 xNSE).before args s' = true := vx_ot_at hW0 hvm.symm (xn_ok _ List.mem_cons_self) hk
  have hini' : (Cond.initialized xNSE).before args s' = true := vx_ot_at hW0 hvm.symm (xn_ok _ (List.mem_cons_of_mem _ List.mem_cons_self)) hini
  have hU' : vx_Zq Bundle.tN "UNASSIGNED_STACK" Bundle.steD A s' s'.heap := by rw [hhp]; exact vx_Zq.moved hW0.alike (hU.kept hS.2.1)
  have hN' : vx_Zq Bundle.tN "SUPPRESSED_SENTINEL" Bundle.listD A s' s'.heap := by rw [hhp]; exact vx_Zq.moved hW0.alike (hN.kept hS.2.1)
  have h : ∀ w ∈ xn_L, w.before args s' = true := vx_own hat' (vx_isRefq hU'.1) (vx_isRefq hN'.1) hU'.2.word hN'.2.word
  have hown' : s'.vm.findClass RX4 = some m.cls := by rw [hvm]; exact hown
  have hins : (Cond.instantiable xNSE 6).before args s' = true := h _ (by decide +kernel)
  obtain ⟨vm₁, cX, kX, hfX, hkX, -, -, X₁, st1⟩ := Y.newCold hexec (own := RX4) (C := xNSE) (index := 184) (n := 6) hown' hk' hins hini'
    (g := F0 m pc ls rest) rfl (by rw [hb]; exact d0) (Nat.le_refl _) (Nat.le_refl _)
  generalize hT1 : (T.setVm vm₁).pushCell { cls := cX, slots := kX.instanceTypes.map defaultValue, vm := .none } = T1 at X₁ st1
  have hcat : (Value.ref T.heap.size).category = 1 := rfl
  have hcellA : T1.heap[T.heap.size]? = some (freshCell cX kX) := by rw [← hT1]; exact State.heap_pushCell_size _ _
  have d3' : decode c.code (pc + 3) = .ok (.dup, 1) := by rw [hb]; exact d3
  have d4' : decode c.code (pc + 4) = .ok (.ldc is, 2) := by rw [hb]; exact d4
  have hstr' : vk_R RX4 is text sa s' := vk_R.warm hW0 hstr
  obtain ⟨U, hsteps, hrun, hend, hW, hsame, ce, hce, hcv, hcl9⟩ := xn_ctor X₁ hexec htr hown' h (fun x hx => nomatch hx) hfX hkX hcellA (by rw [hhp, hT]; exact Nat.le_refl _) (msg := .ref sa) rfl
    (g := { method := m, pc := pc + 6, locals := ls, stack := .ref sa :: .ref T.heap.size :: .ref T.heap.size :: rest, locked := none }) rfl hsize rfl rfl (rest := rest) rfl
    (by rw [hb]; exact d6) (by rw [hb]; exact d9) hout hRframes (by simp only [List.map_cons, List.sum_cons, hcat]; omega) hlocks
  obtain ⟨f1, f2⟩ := vx_frame hsame
  rw [hhp] at f1 f2
  have hWs : s.WarmedH U.vm := State.WarmedH.trans hW0 hW
  have hcl : s.vm.findClass xNSE = some ce.cls := by
    rw [hvm] at hcl9
    exact hcl9
  have hall : s.sameButNew ({ U with vm := s.vm } : State) locs mc ms := by
    subst hA
    obtain ⟨e1, e2⟩ := hsame
    rw [State.setFrames_setFrames] at e1
    have h2 : (T.setVm s.vm).sameButNew ({ U with vm := s.vm } : State) [] (0 + 1) (0 + 6) := ⟨e1, e2⟩
    have h3 := X.same.trans h2
    rw [List.append_nil] at h3
    exact h3.mono hc hs
  refine ⟨U, ?_, .threw T.heap.size, hrun, hend, Or.inr ⟨T.heap.size, rfl, xNSE, ce, locs, hx U hWs.alike f1 (fun q hq => f2 q hq (fun z hz => nomatch hz)), hce, hcv, hcl, hWs, hall, hf⟩⟩
  refine st1 _ ?_
  show Steps p.tables e below (T1.setTop { method := m, pc := pc + 3, locals := ls, stack := .ref T.heap.size :: rest, locked := none }) _
  jvm_step X₁.here [X₁.here.top, hexec, d3', Value.category]
  exact X₁.ldcString hexec (own := RX4) (text := text) (index := is) (a := sa) hown' hstr'.1 hstr'.2
    (g := { method := m, pc := pc + 4, locals := ls, stack := .ref T.heap.size :: .ref T.heap.size :: rest, locked := none }) rfl d4' _ hsteps
theorem cx_throwN {p : Program} {l : Launch} {e : Env} {R : Room} {s : State} {m : MethodId} {args : Array Value} {below : List Frame} {meth : Method} {c : Code} {H : Heap} {locs : List Loc} {cells slots pc : Nat} {ls : Array Slot} {rest : List Value} {A : Nat → Prop} {mc ms : Nat} {g : cx_G} {W0M : va_W} {cc : ByteArray} {Qc : Array Value → State → Outcome → State → Prop} {X : String → Prop} {text : String} {is : Nat} (hexec : p.tables.exec = Jvm.exec) (hb : c.code = cc) (hlt : l.stackTraces = false) (hown : s.vm.findClass RX4 = some m.cls) (hk : (Cond.classLink RX4 184 xNSE).before args s = true) (hini : (Cond.initialized xNSE).before args s = true) (hKX : cx_KX s) (k : Nat) (hstr : cx_sr[k]? = some (is, text)) (hat : ∀ w ∈ xn_W, w.before args s = true) (hZ : cx_Z A s s.heap) (hAe : A = va_A W0M s.heap.size) (hS : va_S A s.heap H locs) (hP : va_P g.1 vwCl W0M H) (hsize : ls.size = c.maxLocals)
    (d0 : decode cc pc = .ok (.new 184, 3)) (d3 : decode cc (pc + 3) = .ok (.dup, 1)) (d4 : decode cc (pc + 4) = .ok (.ldc is, 2)) (d6 : decode cc (pc + 6) = .ok (.invokespecial 188, 3)) (d9 : decode cc (pc + 9) = .ok (.athrow, 1)) (htab : ∀ x ∈ c.exceptionTable.toList, False)
    (hRframes : 5 < R.frames) (hRlocals : (rest.map fun v => v.category).sum + 82 ≤ R.locals) (hRcells : cells + 1 ≤ R.cells) (hRslots : slots + 6 ≤ R.slots) (hlocks : meth.locks = false) (hX : X xNSE) (hc : cells + 1 ≤ mc) (hs : slots + 6 ≤ ms) : W p l e R s m args below meth c H locs cells slots (vx_MQ below Qc (cx_XC g W0M s.heap.size X) args s mc ms (va_A W0M s.heap.size)) (F0 m pc ls rest) := by
  subst hAe
  obtain ⟨sa, hsa⟩ := hKX.2.1 _ (List.mem_of_getElem? hstr)
  refine xn_throw hexec hb hlt hown hk hini hsa hat hZ.1 hZ.2 hS hsize d0 d3 d4 d6 d9 (fun x hx => (htab x hx).elim) hRframes hRlocals hRcells hRslots hlocks (fun t ht hz hq => ?_) hS.2.2 hc hs
  exact ⟨(), trivial, ⟨hX, fun k q h => (hP k q h).kept (hq _ (hP k q h).lt)⟩, Nat.le_trans hS.1 hz, fun q h1 h2 => by rw [hq q (Nat.lt_of_lt_of_le h1 hS.1)]; exact hS.2.1 q h1 h2⟩
