def wp_X5_no (i_c : Int32) (M_thrown : Int32) (M_n : Int32) (M_hasFactors : Int32) (M_hasSolution : Int32) (M_levels : Int32) (Q : Int32 → Int32 → Prop)   : Prop := Q 0 i_c
abbrev w0_X5_no (g : cx_G) (a_M a_M_a a_M_rowAt a_M_places a_M_rights a_M_weights a_M_pivots a_M_lower a_M_solution a_M_work a_M_isJoined a_M_stored : Nat) (M_thrown : Int32) (M_n : Int32) (M_hasFactors : Int32) (M_hasSolution : Int32) (M_levels : Int32) : va_W := [(a_M, .inr (5, [.int M_thrown, .int M_n, .ref a_M_a, .ref a_M_rowAt, .ref a_M_places, .ref a_M_rights, .ref a_M_weights, .int M_hasFactors, .ref a_M_pivots, .ref a_M_lower, .int M_hasSolution, .ref a_M_solution, .ref a_M_work, .ref a_M_isJoined, .int M_levels, .ref a_M_stored]))]
abbrev w1_X5_no (g : cx_G) (a_M a_M_a a_M_rowAt a_M_places a_M_rights a_M_weights a_M_pivots a_M_lower a_M_solution a_M_work a_M_isJoined a_M_stored : Nat) (M_thrown : Int32) (M_n : Int32) (M_hasFactors : Int32) (M_hasSolution : Int32) (M_levels : Int32) (u : Int32) : va_W := [(a_M, .inr (5, [.int u, .int M_n, .ref a_M_a, .ref a_M_rowAt, .ref a_M_places, .ref a_M_rights, .ref a_M_weights, .int M_hasFactors, .ref a_M_pivots, .ref a_M_lower, .int M_hasSolution, .ref a_M_solution, .ref a_M_work, .ref a_M_isJoined, .int M_levels, .ref a_M_stored]))]
set_option maxHeartbeats 4000000 in
set_option maxRecDepth 100000 in
theorem c_X5_no (l : Launch) (g : cx_G) (a_M a_M_a a_M_rowAt a_M_places a_M_rights a_M_weights a_M_pivots a_M_lower a_M_solution a_M_work a_M_isJoined a_M_stored : Nat) (i_c : Int32) (M_thrown : Int32) (M_n : Int32) (M_hasFactors : Int32) (M_hasSolution : Int32) (M_levels : Int32) {Q : Int32 → Int32 → Prop} (hv : wp_X5_no i_c M_thrown M_n M_hasFactors M_hasSolution M_levels Q) : cx_Mi l g yX5_no (Cond.code yX5_no cX5_no 2 (some .int) :: cx_T) ({ frames := 0, cells := 0, slots := 0, locals := 0 } : Room) [.ref a_M, .int i_c] (w0_X5_no g a_M a_M_a a_M_rowAt a_M_places a_M_rights a_M_weights a_M_pivots a_M_lower a_M_solution a_M_work a_M_isJoined a_M_stored M_thrown M_n M_hasFactors M_hasSolution M_levels) (fun (r : Int32) (u : Int32) => Q r u) (w1_X5_no g a_M a_M_a a_M_rowAt a_M_places a_M_rights a_M_weights a_M_pivots a_M_lower a_M_solution a_M_work a_M_isJoined a_M_stored M_thrown M_n M_hasFactors M_hasSolution M_levels) 0 0 := by
  intro sz
  refine Met.ofW (cc := cX5_no) (maxL := 2) (ret := (some .int)) (by decide) rfl ?_
  intro p e s m args below meth c s₁ B hml hpre
  obtain ⟨rfl, hsz, hP, hK, hD0⟩ := hpre
  have hx := B.exec
  have hb := B.bytes
  have hr := B.returns
  have hts0 := atoms_spec (ws := (Cond.code yX5_no cX5_no 2 (some .int) :: cx_T)) B.pre
  have hts : ∀ w ∈ cx_T, w.before _ s = true := fun w h => hts0 w (List.mem_cons_of_mem _ h)
  have hown : s.vm.findClass RX5 = some m.cls := findClass_of_methodNamed B.named
  have hlocks := B.notSynchronized
  subst hsz
  have hD := hD0.self (sz := s.heap.size)
  obtain ⟨A, hAe⟩ : ∃ A : Nat → Prop, A = va_A (w0_X5_no g a_M a_M_a a_M_rowAt a_M_places a_M_rights a_M_weights a_M_pivots a_M_lower a_M_solution a_M_work a_M_isJoined a_M_stored M_thrown M_n M_hasFactors M_hasSolution M_levels) s.heap.size := ⟨_, rfl⟩
  rw [← hAe] at hD
  have hA : ∀ q : Nat, s.heap.size ≤ q → A q := fun q h => by rw [hAe]; exact Or.inr h
  have hS : va_S A s.heap s.heap [] := va_S.rf
  have hP : va_P g.1 vwCl [(a_M, .inr (5, [.int M_thrown, .int M_n, .ref a_M_a, .ref a_M_rowAt, .ref a_M_places, .ref a_M_rights, .ref a_M_weights, .int M_hasFactors, .ref a_M_pivots, .ref a_M_lower, .int M_hasSolution, .ref a_M_solution, .ref a_M_work, .ref a_M_isJoined, .int M_levels, .ref a_M_stored]))] s.heap := hP
  have hD : va_D A [(a_M, .inr (5, [.int M_thrown, .int M_n, .ref a_M_a, .ref a_M_rowAt, .ref a_M_places, .ref a_M_rights, .ref a_M_weights, .int M_hasFactors, .ref a_M_pivots, .ref a_M_lower, .int M_hasSolution, .ref a_M_solution, .ref a_M_work, .ref a_M_isJoined, .int M_levels, .ref a_M_stored]))] := hD
  have hl := lv_entry ([.ref a_M, .int i_c]) (n := 2) (Nat.le_of_ble_eq_true rfl)
  rw [lg_entry_eq]
  generalize (lg_sl ([.ref a_M, .int i_c]) ++ List.replicate (2 - (lg_sl ([.ref a_M, .int i_c])).length) Slot.unset).toArray = ls at hl ⊢
  have hl : lv_has ls 2 [(0, .ref a_M), (1, .int i_c)] := hl
  unfold wp_X5_no at hv
  refine lv_aload_n hx hb dX5_no_0 rfl (lv_at hl 0 rfl) ?_
  refine lv_iload_n hx hb dX5_no_1 rfl (lv_at hl 1 rfl) ?_
  refine va_put (D := g.1) (ci := 5) (v := .int i_c) (ty := .int) (C := RX5) (T := TX5) (N := 16) hx hb hts cw_in_X5 tyX5 tyX5_ok nmX5 hown hK.1 hP hD hS 0 rfl rfl 0 (by decide) (hts _ cw_f_X5_51) (fun _ h9 => h9) rfl (by decide +kernel) rfl rfl (Nat.le_of_ble_eq_true rfl) dX5_no_2 (fun H locs hP hD hS => ?_)
  have hP : va_P g.1 vwCl [(a_M, .inr (5, [.int i_c, .int M_n, .ref a_M_a, .ref a_M_rowAt, .ref a_M_places, .ref a_M_rights, .ref a_M_weights, .int M_hasFactors, .ref a_M_pivots, .ref a_M_lower, .int M_hasSolution, .ref a_M_solution, .ref a_M_work, .ref a_M_isJoined, .int M_levels, .ref a_M_stored]))] H := hP
  have hD : va_D A [(a_M, .inr (5, [.int i_c, .int M_n, .ref a_M_a, .ref a_M_rowAt, .ref a_M_places, .ref a_M_rights, .ref a_M_weights, .int M_hasFactors, .ref a_M_pivots, .ref a_M_lower, .int M_hasSolution, .ref a_M_solution, .ref a_M_work, .ref a_M_isJoined, .int M_levels, .ref a_M_stored]))] := hD
  refine lv_iconst (v := 0) hx hb dX5_no_5 (by decide) ?_
  exact cx_iret hx hb hr hlocks hAe hS i_c hv hP hD dX5_no_6
def wp_X5_isRow (i_i : Int32) (M_thrown : Int32) (M_n : Int32) (M_hasFactors : Int32) (M_hasSolution : Int32) (M_levels : Int32) (Q : Int32 → Prop)   : Prop := (i_i < 0 → (Q 0)) ∧ (¬ i_i < 0 → ((M_n ≤ i_i → (Q 0)) ∧ (¬ M_n ≤ i_i → (Q 1))))
abbrev w0_X5_isRow (g : cx_G) (a_M a_M_a a_M_rowAt a_M_places a_M_rights a_M_weights a_M_pivots a_M_lower a_M_solution a_M_work a_M_isJoined a_M_stored : Nat) (M_thrown : Int32) (M_n : Int32) (M_hasFactors : Int32) (M_hasSolution : Int32) (M_levels : Int32) : va_W := [(a_M, .inr (5, [.int M_thrown, .int M_n, .ref a_M_a, .ref a_M_rowAt, .ref a_M_places, .ref a_M_rights, .ref a_M_weights, .int M_hasFactors, .ref a_M_pivots, .ref a_M_lower, .int M_hasSolution, .ref a_M_solution, .ref a_M_work, .ref a_M_isJoined, .int M_levels, .ref a_M_stored]))]
set_option maxHeartbeats 4000000 in
set_option maxRecDepth 100000 in
theorem c_X5_isRow (l : Launch) (g : cx_G) (a_M a_M_a a_M_rowAt a_M_places a_M_rights a_M_weights a_M_pivots a_M_lower a_M_solution a_M_work a_M_isJoined a_M_stored : Nat) (i_i : Int32) (M_thrown : Int32) (M_n : Int32) (M_hasFactors : Int32) (M_hasSolution : Int32) (M_levels : Int32) {Q : Int32 → Prop} (hv : wp_X5_isRow i_i M_thrown M_n M_hasFactors M_hasSolution M_levels Q) : cx_Mi l g yX5_isRow (Cond.code yX5_isRow cX5_isRow 2 (some .boolean) :: cx_T) ({ frames := 0, cells := 0, slots := 0, locals := 0 } : Room) [.ref a_M, .int i_i] (w0_X5_isRow g a_M a_M_a a_M_rowAt a_M_places a_M_rights a_M_weights a_M_pivots a_M_lower a_M_solution a_M_work a_M_isJoined a_M_stored M_thrown M_n M_hasFactors M_hasSolution M_levels) (fun (r : Int32) (_ : Unit) => Q r) (fun _ : Unit => (w0_X5_isRow g a_M a_M_a a_M_rowAt a_M_places a_M_rights a_M_weights a_M_pivots a_M_lower a_M_solution a_M_work a_M_isJoined a_M_stored M_thrown M_n M_hasFactors M_hasSolution M_levels)) 0 0 := by
  intro sz
  refine Met.ofW (cc := cX5_isRow) (maxL := 2) (ret := (some .boolean)) (by decide) rfl ?_
  intro p e s m args below meth c s₁ B hml hpre
  obtain ⟨rfl, hsz, hP, hK, hD0⟩ := hpre
  have hx := B.exec
  have hb := B.bytes
  have hr := B.returns
  have hts0 := atoms_spec (ws := (Cond.code yX5_isRow cX5_isRow 2 (some .boolean) :: cx_T)) B.pre
  have hts : ∀ w ∈ cx_T, w.before _ s = true := fun w h => hts0 w (List.mem_cons_of_mem _ h)
  have hown : s.vm.findClass RX5 = some m.cls := findClass_of_methodNamed B.named
  have hlocks := B.notSynchronized
  subst hsz
  have hD := hD0.self (sz := s.heap.size)
  obtain ⟨A, hAe⟩ : ∃ A : Nat → Prop, A = va_A (w0_X5_isRow g a_M a_M_a a_M_rowAt a_M_places a_M_rights a_M_weights a_M_pivots a_M_lower a_M_solution a_M_work a_M_isJoined a_M_stored M_thrown M_n M_hasFactors M_hasSolution M_levels) s.heap.size := ⟨_, rfl⟩
  rw [← hAe] at hD
  have hA : ∀ q : Nat, s.heap.size ≤ q → A q := fun q h => by rw [hAe]; exact Or.inr h
  have hS : va_S A s.heap s.heap [] := va_S.rf
  have hP : va_P g.1 vwCl [(a_M, .inr (5, [.int M_thrown, .int M_n, .ref a_M_a, .ref a_M_rowAt, .ref a_M_places, .ref a_M_rights, .ref a_M_weights, .int M_hasFactors, .ref a_M_pivots, .ref a_M_lower, .int M_hasSolution, .ref a_M_solution, .ref a_M_work, .ref a_M_isJoined, .int M_levels, .ref a_M_stored]))] s.heap := hP
  have hD : va_D A [(a_M, .inr (5, [.int M_thrown, .int M_n, .ref a_M_a, .ref a_M_rowAt, .ref a_M_places, .ref a_M_rights, .ref a_M_weights, .int M_hasFactors, .ref a_M_pivots, .ref a_M_lower, .int M_hasSolution, .ref a_M_solution, .ref a_M_work, .ref a_M_isJoined, .int M_levels, .ref a_M_stored]))] := hD
  have hl := lv_entry ([.ref a_M, .int i_i]) (n := 2) (Nat.le_of_ble_eq_true rfl)
  rw [lg_entry_eq]
  generalize (lg_sl ([.ref a_M, .int i_i]) ++ List.replicate (2 - (lg_sl ([.ref a_M, .int i_i])).length) Slot.unset).toArray = ls at hl ⊢
  have hl : lv_has ls 2 [(0, .ref a_M), (1, .int i_i)] := hl
  unfold wp_X5_isRow at hv
  refine lv_iload_n hx hb dX5_isRow_0 rfl (lv_at hl 1 rfl) ?_
  refine lv_if_lt (tgt := 16) hx hb dX5_isRow_1 (by decide) (fun hc => ?_) (fun hc => ?_)
  · replace hv := hv.1 hc
    refine lv_iconst (v := 0) hx hb dX5_isRow_16 (by decide) ?_
    exact cx_zret hx hb hr rfl hlocks hAe hS () hv hP hD dX5_isRow_17
  · replace hv := hv.2 hc
    refine lv_iload_n hx hb dX5_isRow_4 rfl (lv_at hl 1 rfl) ?_
    refine lv_aload_n hx hb dX5_isRow_5 rfl (lv_at hl 0 rfl) ?_
    refine va_get (D := g.1) (ci := 5) (v := .int M_n) (C := RX5) (T := TX5) (N := 16) hx hb hts cw_in_X5 hown hK.1 hP 0 rfl rfl 1 (by decide) (hts _ cw_f_X5_9) (fun _ h9 => h9) rfl dX5_isRow_6 ?_
    refine lv_icmp_ge (tgt := 16) hx hb dX5_isRow_9 (by decide) (fun hc => ?_) (fun hc => ?_)
    · replace hv := hv.1 hc
      refine lv_iconst (v := 0) hx hb dX5_isRow_16 (by decide) ?_
      exact cx_zret hx hb hr rfl hlocks hAe hS () hv hP hD dX5_isRow_17
    · replace hv := hv.2 hc
      refine lv_iconst (v := 1) hx hb dX5_isRow_12 (by decide) ?_
      refine lv_goto (tgt := 17) hx hb dX5_isRow_13 (by decide) ?_
      exact cx_zret hx hb hr rfl hlocks hAe hS () hv hP hD dX5_isRow_17
def wp_X5_thrown (M_thrown : Int32) (M_n : Int32) (M_hasFactors : Int32) (M_hasSolution : Int32) (M_levels : Int32) (Q : Int32 → Prop)   : Prop := Q M_thrown
abbrev w0_X5_thrown (g : cx_G) (a_M a_M_a a_M_rowAt a_M_places a_M_rights a_M_weights a_M_pivots a_M_lower a_M_solution a_M_work a_M_isJoined a_M_stored : Nat) (M_thrown : Int32) (M_n : Int32) (M_hasFactors : Int32) (M_hasSolution : Int32) (M_levels : Int32) : va_W := [(a_M, .inr (5, [.int M_thrown, .int M_n, .ref a_M_a, .ref a_M_rowAt, .ref a_M_places, .ref a_M_rights, .ref a_M_weights, .int M_hasFactors, .ref a_M_pivots, .ref a_M_lower, .int M_hasSolution, .ref a_M_solution, .ref a_M_work, .ref a_M_isJoined, .int M_levels, .ref a_M_stored]))]
set_option maxHeartbeats 4000000 in
set_option maxRecDepth 100000 in
theorem c_X5_thrown (l : Launch) (g : cx_G) (a_M a_M_a a_M_rowAt a_M_places a_M_rights a_M_weights a_M_pivots a_M_lower a_M_solution a_M_work a_M_isJoined a_M_stored : Nat) (M_thrown : Int32) (M_n : Int32) (M_hasFactors : Int32) (M_hasSolution : Int32) (M_levels : Int32) {Q : Int32 → Prop} (hv : wp_X5_thrown M_thrown M_n M_hasFactors M_hasSolution M_levels Q) : cx_Mi l g yX5_thrown (Cond.code yX5_thrown cX5_thrown 1 (some .int) :: cx_T) ({ frames := 0, cells := 0, slots := 0, locals := 0 } : Room) [.ref a_M] (w0_X5_thrown g a_M a_M_a a_M_rowAt a_M_places a_M_rights a_M_weights a_M_pivots a_M_lower a_M_solution a_M_work a_M_isJoined a_M_stored M_thrown M_n M_hasFactors M_hasSolution M_levels) (fun (r : Int32) (_ : Unit) => Q r) (fun _ : Unit => (w0_X5_thrown g a_M a_M_a a_M_rowAt a_M_places a_M_rights a_M_weights a_M_pivots a_M_lower a_M_solution a_M_work a_M_isJoined a_M_stored M_thrown M_n M_hasFactors M_hasSolution M_levels)) 0 0 := by
  intro sz
  refine Met.ofW (cc := cX5_thrown) (maxL := 1) (ret := (some .int)) (by decide) rfl ?_
  intro p e s m args below meth c s₁ B hml hpre
  obtain ⟨rfl, hsz, hP, hK, hD0⟩ := hpre
  have hx := B.exec
  have hb := B.bytes
  have hr := B.returns
  have hts0 := atoms_spec (ws := (Cond.code yX5_thrown cX5_thrown 1 (some .int) :: cx_T)) B.pre
  have hts : ∀ w ∈ cx_T, w.before _ s = true := fun w h => hts0 w (List.mem_cons_of_mem _ h)
  have hown : s.vm.findClass RX5 = some m.cls := findClass_of_methodNamed B.named
  have hlocks := B.notSynchronized
  subst hsz
  have hD := hD0.self (sz := s.heap.size)
  obtain ⟨A, hAe⟩ : ∃ A : Nat → Prop, A = va_A (w0_X5_thrown g a_M a_M_a a_M_rowAt a_M_places a_M_rights a_M_weights a_M_pivots a_M_lower a_M_solution a_M_work a_M_isJoined a_M_stored M_thrown M_n M_hasFactors M_hasSolution M_levels) s.heap.size := ⟨_, rfl⟩
  rw [← hAe] at hD
  have hA : ∀ q : Nat, s.heap.size ≤ q → A q := fun q h => by rw [hAe]; exact Or.inr h
  have hS : va_S A s.heap s.heap [] := va_S.rf
  have hP : va_P g.1 vwCl [(a_M, .inr (5, [.int M_thrown, .int M_n, .ref a_M_a, .ref a_M_rowAt, .ref a_M_places, .ref a_M_rights, .ref a_M_weights, .int M_hasFactors, .ref a_M_pivots, .ref a_M_lower, .int M_hasSolution, .ref a_M_solution, .ref a_M_work, .ref a_M_isJoined, .int M_levels, .ref a_M_stored]))] s.heap := hP
  have hD : va_D A [(a_M, .inr (5, [.int M_thrown, .int M_n, .ref a_M_a, .ref a_M_rowAt, .ref a_M_places, .ref a_M_rights, .ref a_M_weights, .int M_hasFactors, .ref a_M_pivots, .ref a_M_lower, .int M_hasSolution, .ref a_M_solution, .ref a_M_work, .ref a_M_isJoined, .int M_levels, .ref a_M_stored]))] := hD
  have hl := lv_entry ([.ref a_M]) (n := 1) (Nat.le_of_ble_eq_true rfl)
  rw [lg_entry_eq]
  generalize (lg_sl ([.ref a_M]) ++ List.replicate (1 - (lg_sl ([.ref a_M])).length) Slot.unset).toArray = ls at hl ⊢
  have hl : lv_has ls 1 [(0, .ref a_M)] := hl
  unfold wp_X5_thrown at hv
  refine lv_aload_n hx hb dX5_thrown_0 rfl (lv_at hl 0 rfl) ?_
  refine va_get (D := g.1) (ci := 5) (v := .int M_thrown) (C := RX5) (T := TX5) (N := 16) hx hb hts cw_in_X5 hown hK.1 hP 0 rfl rfl 0 (by decide) (hts _ cw_f_X5_51) (fun _ h9 => h9) rfl dX5_thrown_1 ?_
  exact cx_iret hx hb hr hlocks hAe hS () hv hP hD dX5_thrown_4
def vc_X5_clear_0 (M_thrown : Int32) (M_n : Int32) (M_hasFactors : Int32) (M_hasSolution : Int32) (M_levels : Int32) (M_rowAt : (Nat → Int32)) (M_places : (Nat → Int32)) (M_rights : (Nat → Int32)) (M_weights : (Nat → Int32)) (M_a : (Nat → Int32)) (Q : Int32 → Int32 → (Nat → Int32) → (Nat → Int32) → (Nat → Int32) → (Nat → Int32) → (Nat → Int32) → Prop) (G1 : Int32 → Int32 → Int32 → (Nat → Int32) → (Nat → Int32) → (Nat → Int32) → (Nat → Int32) → (Nat → Int32) → Prop) (G2 : Int32 → Int32 → Int32 → Int32 → (Nat → Int32) → (Nat → Int32) → (Nat → Int32) → (Nat → Int32) → (Nat → Int32) → Prop)  : Prop := G1 0 M_hasFactors M_hasSolution M_rowAt M_places M_rights M_weights M_a
def vc_X5_clear_1 (M_thrown : Int32) (M_n : Int32) (M_hasFactors : Int32) (M_hasSolution : Int32) (M_levels : Int32) (M_rowAt : (Nat → Int32)) (M_places : (Nat → Int32)) (M_rights : (Nat → Int32)) (M_weights : (Nat → Int32)) (M_a : (Nat → Int32)) (Q : Int32 → Int32 → (Nat → Int32) → (Nat → Int32) → (Nat → Int32) → (Nat → Int32) → (Nat → Int32) → Prop) (G1 : Int32 → Int32 → Int32 → (Nat → Int32) → (Nat → Int32) → (Nat → Int32) → (Nat → Int32) → (Nat → Int32) → Prop) (G2 : Int32 → Int32 → Int32 → Int32 → (Nat → Int32) → (Nat → Int32) → (Nat → Int32) → (Nat → Int32) → (Nat → Int32) → Prop) (x1 : Int32) (v_M_hasFactors : Int32) (v_M_hasSolution : Int32) (v_M_rowAt : (Nat → Int32)) (v_M_places : (Nat → Int32)) (v_M_rights : (Nat → Int32)) (v_M_weights : (Nat → Int32)) (v_M_a : (Nat → Int32)) : Prop := (16 ≤ x1 → (Q 0 0 v_M_rowAt v_M_places v_M_rights v_M_weights v_M_a)) ∧ (¬ 16 ≤ x1 → (vp_in x1 16 ∧ (vp_in x1 16 ∧ (vp_in x1 16 ∧ (vp_in x1 16 ∧ (G2 0 x1 v_M_hasFactors v_M_hasSolution (upd v_M_rowAt (Int32.toNatClampNeg x1) x1) (upd v_M_places (Int32.toNatClampNeg x1) x1) (upd v_M_rights (Int32.toNatClampNeg x1) 0) (upd v_M_weights (Int32.toNatClampNeg x1) 0) v_M_a))))))
def vc_X5_clear_2 (M_thrown : Int32) (M_n : Int32) (M_hasFactors : Int32) (M_hasSolution : Int32) (M_levels : Int32) (M_rowAt : (Nat → Int32)) (M_places : (Nat → Int32)) (M_rights : (Nat → Int32)) (M_weights : (Nat → Int32)) (M_a : (Nat → Int32)) (Q : Int32 → Int32 → (Nat → Int32) → (Nat → Int32) → (Nat → Int32) → (Nat → Int32) → (Nat → Int32) → Prop) (G1 : Int32 → Int32 → Int32 → (Nat → Int32) → (Nat → Int32) → (Nat → Int32) → (Nat → Int32) → (Nat → Int32) → Prop) (G2 : Int32 → Int32 → Int32 → Int32 → (Nat → Int32) → (Nat → Int32) → (Nat → Int32) → (Nat → Int32) → (Nat → Int32) → Prop) (x2 : Int32) (x1 : Int32) (v_M_hasFactors : Int32) (v_M_hasSolution : Int32) (v_M_rowAt : (Nat → Int32)) (v_M_places : (Nat → Int32)) (v_M_rights : (Nat → Int32)) (v_M_weights : (Nat → Int32)) (v_M_a : (Nat → Int32)) : Prop := (16 ≤ x2 → (∀ x1_1 : Int32, x1_1 = x1 + 1 → (G1 x1_1 v_M_hasFactors v_M_hasSolution v_M_rowAt v_M_places v_M_rights v_M_weights v_M_a))) ∧ (¬ 16 ≤ x2 → (vp_in (f_at x1 x2) 256 ∧ (∀ x2_4 : Int32, x2_4 = x2 + 1 → (G2 x2_4 x1 v_M_hasFactors v_M_hasSolution v_M_rowAt v_M_places v_M_rights v_M_weights (upd v_M_a (Int32.toNatClampNeg (f_at x1 x2)) 0)))))
def wp_X5_clear (M_thrown : Int32) (M_n : Int32) (M_hasFactors : Int32) (M_hasSolution : Int32) (M_levels : Int32) (M_rowAt : (Nat → Int32)) (M_places : (Nat → Int32)) (M_rights : (Nat → Int32)) (M_weights : (Nat → Int32)) (M_a : (Nat → Int32)) (Q : Int32 → Int32 → (Nat → Int32) → (Nat → Int32) → (Nat → Int32) → (Nat → Int32) → (Nat → Int32) → Prop) : Prop := ∀ (G1 : Int32 → Int32 → Int32 → (Nat → Int32) → (Nat → Int32) → (Nat → Int32) → (Nat → Int32) → (Nat → Int32) → Prop) (G2 : Int32 → Int32 → Int32 → Int32 → (Nat → Int32) → (Nat → Int32) → (Nat → Int32) → (Nat → Int32) → (Nat → Int32) → Prop), (∀ (x1 : Int32) (v_M_hasFactors : Int32) (v_M_hasSolution : Int32) (v_M_rowAt : (Nat → Int32)) (v_M_places : (Nat → Int32)) (v_M_rights : (Nat → Int32)) (v_M_weights : (Nat → Int32)) (v_M_a : (Nat → Int32)), vc_X5_clear_1 M_thrown M_n M_hasFactors M_hasSolution M_levels M_rowAt M_places M_rights M_weights M_a Q G1 G2 x1 v_M_hasFactors v_M_hasSolution v_M_rowAt v_M_places v_M_rights v_M_weights v_M_a → G1 x1 v_M_hasFactors v_M_hasSolution v_M_rowAt v_M_places v_M_rights v_M_weights v_M_a) → (∀ (x2 : Int32) (x1 : Int32) (v_M_hasFactors : Int32) (v_M_hasSolution : Int32) (v_M_rowAt : (Nat → Int32)) (v_M_places : (Nat → Int32)) (v_M_rights : (Nat → Int32)) (v_M_weights : (Nat → Int32)) (v_M_a : (Nat → Int32)), vc_X5_clear_2 M_thrown M_n M_hasFactors M_hasSolution M_levels M_rowAt M_places M_rights M_weights M_a Q G1 G2 x2 x1 v_M_hasFactors v_M_hasSolution v_M_rowAt v_M_places v_M_rights v_M_weights v_M_a → G2 x2 x1 v_M_hasFactors v_M_hasSolution v_M_rowAt v_M_places v_M_rights v_M_weights v_M_a) → vc_X5_clear_0 M_thrown M_n M_hasFactors M_hasSolution M_levels M_rowAt M_places M_rights M_weights M_a Q G1 G2
abbrev w0_X5_clear (g : cx_G) (a_M a_M_a a_M_rowAt a_M_places a_M_rights a_M_weights a_M_pivots a_M_lower a_M_solution a_M_work a_M_isJoined a_M_stored : Nat) (M_thrown : Int32) (M_n : Int32) (M_hasFactors : Int32) (M_hasSolution : Int32) (M_levels : Int32) (M_rowAt : (Nat → Int32)) (M_places : (Nat → Int32)) (M_rights : (Nat → Int32)) (M_weights : (Nat → Int32)) (M_a : (Nat → Int32)) : va_W := [(a_M, .inr (5, [.int M_thrown, .int M_n, .ref a_M_a, .ref a_M_rowAt, .ref a_M_places, .ref a_M_rights, .ref a_M_weights, .int M_hasFactors, .ref a_M_pivots, .ref a_M_lower, .int M_hasSolution, .ref a_M_solution, .ref a_M_work, .ref a_M_isJoined, .int M_levels, .ref a_M_stored])), (a_M_rowAt, .inl (g.2.1, 16, .inl M_rowAt)), (a_M_places, .inl (g.2.1, 16, .inl M_places)), (a_M_rights, .inl (g.2.1, 16, .inl M_rights)), (a_M_weights, .inl (g.2.1, 16, .inl M_weights)), (a_M_a, .inl (g.2.1, 256, .inl M_a))]
abbrev w1_X5_clear (g : cx_G) (a_M a_M_a a_M_rowAt a_M_places a_M_rights a_M_weights a_M_pivots a_M_lower a_M_solution a_M_work a_M_isJoined a_M_stored : Nat) (M_thrown : Int32) (M_n : Int32) (M_hasFactors : Int32) (M_hasSolution : Int32) (M_levels : Int32) (M_rowAt : (Nat → Int32)) (M_places : (Nat → Int32)) (M_rights : (Nat → Int32)) (M_weights : (Nat → Int32)) (M_a : (Nat → Int32)) (u : Int32 × Int32 × (Nat → Int32) × (Nat → Int32) × (Nat → Int32) × (Nat → Int32) × (Nat → Int32)) : va_W := [(a_M, .inr (5, [.int M_thrown, .int M_n, .ref a_M_a, .ref a_M_rowAt, .ref a_M_places, .ref a_M_rights, .ref a_M_weights, .int u.1, .ref a_M_pivots, .ref a_M_lower, .int u.2.1, .ref a_M_solution, .ref a_M_work, .ref a_M_isJoined, .int M_levels, .ref a_M_stored])), (a_M_rowAt, .inl (g.2.1, 16, .inl u.2.2.1)), (a_M_places, .inl (g.2.1, 16, .inl u.2.2.2.1)), (a_M_rights, .inl (g.2.1, 16, .inl u.2.2.2.2.1)), (a_M_weights, .inl (g.2.1, 16, .inl u.2.2.2.2.2.1)), (a_M_a, .inl (g.2.1, 256, .inl u.2.2.2.2.2.2))]
set_option maxHeartbeats 4000000 in
set_option maxRecDepth 100000 in
theorem c_X5_clear (l : Launch) (g : cx_G) (a_M a_M_a a_M_rowAt a_M_places a_M_rights a_M_weights a_M_pivots a_M_lower a_M_solution a_M_work a_M_isJoined a_M_stored : Nat) (M_thrown : Int32) (M_n : Int32) (M_hasFactors : Int32) (M_hasSolution : Int32) (M_levels : Int32) (M_rowAt : (Nat → Int32)) (M_places : (Nat → Int32)) (M_rights : (Nat → Int32)) (M_weights : (Nat → Int32)) (M_a : (Nat → Int32)) {Q : Int32 → Int32 → (Nat → Int32) → (Nat → Int32) → (Nat → Int32) → (Nat → Int32) → (Nat → Int32) → Prop} (hv : wp_X5_clear M_thrown M_n M_hasFactors M_hasSolution M_levels M_rowAt M_places M_rights M_weights M_a Q) : cx_Mv l g yX5_clear (Cond.code yX5_clear cX5_clear 3 none :: cx_T) ({ frames := 1, cells := 0, slots := 0, locals := 21 } : Room) [.ref a_M] (w0_X5_clear g a_M a_M_a a_M_rowAt a_M_places a_M_rights a_M_weights a_M_pivots a_M_lower a_M_solution a_M_work a_M_isJoined a_M_stored M_thrown M_n M_hasFactors M_hasSolution M_levels M_rowAt M_places M_rights M_weights M_a) (fun (u : Int32 × Int32 × (Nat → Int32) × (Nat → Int32) × (Nat → Int32) × (Nat → Int32) × (Nat → Int32)) => Q u.1 u.2.1 u.2.2.1 u.2.2.2.1 u.2.2.2.2.1 u.2.2.2.2.2.1 u.2.2.2.2.2.2) (w1_X5_clear g a_M a_M_a a_M_rowAt a_M_places a_M_rights a_M_weights a_M_pivots a_M_lower a_M_solution a_M_work a_M_isJoined a_M_stored M_thrown M_n M_hasFactors M_hasSolution M_levels M_rowAt M_places M_rights M_weights M_a) 0 0 := by
  intro sz
  refine Met.ofW (cc := cX5_clear) (maxL := 3) (ret := none) (by decide) rfl ?_
  intro p e s m args below meth c s₁ B hml hpre
  obtain ⟨rfl, hsz, hP, hK, hD0⟩ := hpre
  have hx := B.exec
  have hb := B.bytes
  have hr := B.returns
  have hts0 := atoms_spec (ws := (Cond.code yX5_clear cX5_clear 3 none :: cx_T)) B.pre
  have hts : ∀ w ∈ cx_T, w.before _ s = true := fun w h => hts0 w (List.mem_cons_of_mem _ h)
  have hown : s.vm.findClass RX5 = some m.cls := findClass_of_methodNamed B.named
  have hlocks := B.notSynchronized
  subst hsz
  have hD := hD0.self (sz := s.heap.size)
  obtain ⟨A, hAe⟩ : ∃ A : Nat → Prop, A = va_A (w0_X5_clear g a_M a_M_a a_M_rowAt a_M_places a_M_rights a_M_weights a_M_pivots a_M_lower a_M_solution a_M_work a_M_isJoined a_M_stored M_thrown M_n M_hasFactors M_hasSolution M_levels M_rowAt M_places M_rights M_weights M_a) s.heap.size := ⟨_, rfl⟩
  rw [← hAe] at hD
  have hA : ∀ q : Nat, s.heap.size ≤ q → A q := fun q h => by rw [hAe]; exact Or.inr h
  have hS : va_S A s.heap s.heap [] := va_S.rf
  have hP : va_P g.1 vwCl [(a_M, .inr (5, [.int M_thrown, .int M_n, .ref a_M_a, .ref a_M_rowAt, .ref a_M_places, .ref a_M_rights, .ref a_M_weights, .int M_hasFactors, .ref a_M_pivots, .ref a_M_lower, .int M_hasSolution, .ref a_M_solution, .ref a_M_work, .ref a_M_isJoined, .int M_levels, .ref a_M_stored])), (a_M_rowAt, .inl (g.2.1, 16, .inl M_rowAt)), (a_M_places, .inl (g.2.1, 16, .inl M_places)), (a_M_rights, .inl (g.2.1, 16, .inl M_rights)), (a_M_weights, .inl (g.2.1, 16, .inl M_weights)), (a_M_a, .inl (g.2.1, 256, .inl M_a))] s.heap := hP
  have hD : va_D A [(a_M, .inr (5, [.int M_thrown, .int M_n, .ref a_M_a, .ref a_M_rowAt, .ref a_M_places, .ref a_M_rights, .ref a_M_weights, .int M_hasFactors, .ref a_M_pivots, .ref a_M_lower, .int M_hasSolution, .ref a_M_solution, .ref a_M_work, .ref a_M_isJoined, .int M_levels, .ref a_M_stored])), (a_M_rowAt, .inl (g.2.1, 16, .inl M_rowAt)), (a_M_places, .inl (g.2.1, 16, .inl M_places)), (a_M_rights, .inl (g.2.1, 16, .inl M_rights)), (a_M_weights, .inl (g.2.1, 16, .inl M_weights)), (a_M_a, .inl (g.2.1, 256, .inl M_a))] := hD
  have hl := lv_entry ([.ref a_M]) (n := 3) (Nat.le_of_ble_eq_true rfl)
  rw [lg_entry_eq]
  generalize (lg_sl ([.ref a_M]) ++ List.replicate (3 - (lg_sl ([.ref a_M])).length) Slot.unset).toArray = ls at hl ⊢
  have hl : lv_has ls 3 [(0, .ref a_M)] := hl
  obtain ⟨G1, hG1⟩ : ∃ G : Int32 → Int32 → Int32 → (Nat → Int32) → (Nat → Int32) → (Nat → Int32) → (Nat → Int32) → (Nat → Int32) → Prop, G = (fun (x1 : Int32) (v_M_hasFactors : Int32) (v_M_hasSolution : Int32) (v_M_rowAt : (Nat → Int32)) (v_M_places : (Nat → Int32)) (v_M_rights : (Nat → Int32)) (v_M_weights : (Nat → Int32)) (v_M_a : (Nat → Int32)) => ∀ (H : Heap) (locs : List Loc) (ls : Array Slot), va_P g.1 vwCl [(a_M, .inr (5, [.int M_thrown, .int M_n, .ref a_M_a, .ref a_M_rowAt, .ref a_M_places, .ref a_M_rights, .ref a_M_weights, .int v_M_hasFactors, .ref a_M_pivots, .ref a_M_lower, .int v_M_hasSolution, .ref a_M_solution, .ref a_M_work, .ref a_M_isJoined, .int M_levels, .ref a_M_stored])), (a_M_rowAt, .inl (g.2.1, 16, .inl v_M_rowAt)), (a_M_places, .inl (g.2.1, 16, .inl v_M_places)), (a_M_rights, .inl (g.2.1, 16, .inl v_M_rights)), (a_M_weights, .inl (g.2.1, 16, .inl v_M_weights)), (a_M_a, .inl (g.2.1, 256, .inl v_M_a))] H → va_D A [(a_M, .inr (5, [.int M_thrown, .int M_n, .ref a_M_a, .ref a_M_rowAt, .ref a_M_places, .ref a_M_rights, .ref a_M_weights, .int v_M_hasFactors, .ref a_M_pivots, .ref a_M_lower, .int v_M_hasSolution, .ref a_M_solution, .ref a_M_work, .ref a_M_isJoined, .int M_levels, .ref a_M_stored])), (a_M_rowAt, .inl (g.2.1, 16, .inl v_M_rowAt)), (a_M_places, .inl (g.2.1, 16, .inl v_M_places)), (a_M_rights, .inl (g.2.1, 16, .inl v_M_rights)), (a_M_weights, .inl (g.2.1, 16, .inl v_M_weights)), (a_M_a, .inl (g.2.1, 256, .inl v_M_a))] → va_S A s.heap H locs → lv_has ls 3 [(1, .int x1), (0, .ref a_M)] → W p l e (headSpec (Cond.code yX5_clear cX5_clear 3 none :: cx_T) ({ frames := 1, cells := 0, slots := 0, locals := 21 } : Room)).room s m ([.ref a_M] : List Value).toArray below meth c H locs 0 0 (MQ below (va_Qv (fun (u : Int32 × Int32 × (Nat → Int32) × (Nat → Int32) × (Nat → Int32) × (Nat → Int32) × (Nat → Int32)) => Q u.1 u.2.1 u.2.2.1 u.2.2.2.1 u.2.2.2.2.1 u.2.2.2.2.2.1 u.2.2.2.2.2.2) (cx_B g (w0_X5_clear g a_M a_M_a a_M_rowAt a_M_places a_M_rights a_M_weights a_M_pivots a_M_lower a_M_solution a_M_work a_M_isJoined a_M_stored M_thrown M_n M_hasFactors M_hasSolution M_levels M_rowAt M_places M_rights M_weights M_a) s.heap.size (w1_X5_clear g a_M a_M_a a_M_rowAt a_M_places a_M_rights a_M_weights a_M_pivots a_M_lower a_M_solution a_M_work a_M_isJoined a_M_stored M_thrown M_n M_hasFactors M_hasSolution M_levels M_rowAt M_places M_rights M_weights M_a)) (va_A (w0_X5_clear g a_M a_M_a a_M_rowAt a_M_places a_M_rights a_M_weights a_M_pivots a_M_lower a_M_solution a_M_work a_M_isJoined a_M_stored M_thrown M_n M_hasFactors M_hasSolution M_levels M_rowAt M_places M_rights M_weights M_a) s.heap.size)) ([.ref a_M] : List Value).toArray s 0 0 (va_A (w0_X5_clear g a_M a_M_a a_M_rowAt a_M_places a_M_rights a_M_weights a_M_pivots a_M_lower a_M_solution a_M_work a_M_isJoined a_M_stored M_thrown M_n M_hasFactors M_hasSolution M_levels M_rowAt M_places M_rights M_weights M_a) s.heap.size)) (F0 m 2 ls [])) := ⟨_, rfl⟩
  obtain ⟨G2, hG2⟩ : ∃ G : Int32 → Int32 → Int32 → Int32 → (Nat → Int32) → (Nat → Int32) → (Nat → Int32) → (Nat → Int32) → (Nat → Int32) → Prop, G = (fun (x2 : Int32) (x1 : Int32) (v_M_hasFactors : Int32) (v_M_hasSolution : Int32) (v_M_rowAt : (Nat → Int32)) (v_M_places : (Nat → Int32)) (v_M_rights : (Nat → Int32)) (v_M_weights : (Nat → Int32)) (v_M_a : (Nat → Int32)) => ∀ (H : Heap) (locs : List Loc) (ls : Array Slot), va_P g.1 vwCl [(a_M, .inr (5, [.int M_thrown, .int M_n, .ref a_M_a, .ref a_M_rowAt, .ref a_M_places, .ref a_M_rights, .ref a_M_weights, .int v_M_hasFactors, .ref a_M_pivots, .ref a_M_lower, .int v_M_hasSolution, .ref a_M_solution, .ref a_M_work, .ref a_M_isJoined, .int M_levels, .ref a_M_stored])), (a_M_rowAt, .inl (g.2.1, 16, .inl v_M_rowAt)), (a_M_places, .inl (g.2.1, 16, .inl v_M_places)), (a_M_rights, .inl (g.2.1, 16, .inl v_M_rights)), (a_M_weights, .inl (g.2.1, 16, .inl v_M_weights)), (a_M_a, .inl (g.2.1, 256, .inl v_M_a))] H → va_D A [(a_M, .inr (5, [.int M_thrown, .int M_n, .ref a_M_a, .ref a_M_rowAt, .ref a_M_places, .ref a_M_rights, .ref a_M_weights, .int v_M_hasFactors, .ref a_M_pivots, .ref a_M_lower, .int v_M_hasSolution, .ref a_M_solution, .ref a_M_work, .ref a_M_isJoined, .int M_levels, .ref a_M_stored])), (a_M_rowAt, .inl (g.2.1, 16, .inl v_M_rowAt)), (a_M_places, .inl (g.2.1, 16, .inl v_M_places)), (a_M_rights, .inl (g.2.1, 16, .inl v_M_rights)), (a_M_weights, .inl (g.2.1, 16, .inl v_M_weights)), (a_M_a, .inl (g.2.1, 256, .inl v_M_a))] → va_S A s.heap H locs → lv_has ls 3 [(2, .int x2), (1, .int x1), (0, .ref a_M)] → W p l e (headSpec (Cond.code yX5_clear cX5_clear 3 none :: cx_T) ({ frames := 1, cells := 0, slots := 0, locals := 21 } : Room)).room s m ([.ref a_M] : List Value).toArray below meth c H locs 0 0 (MQ below (va_Qv (fun (u : Int32 × Int32 × (Nat → Int32) × (Nat → Int32) × (Nat → Int32) × (Nat → Int32) × (Nat → Int32)) => Q u.1 u.2.1 u.2.2.1 u.2.2.2.1 u.2.2.2.2.1 u.2.2.2.2.2.1 u.2.2.2.2.2.2) (cx_B g (w0_X5_clear g a_M a_M_a a_M_rowAt a_M_places a_M_rights a_M_weights a_M_pivots a_M_lower a_M_solution a_M_work a_M_isJoined a_M_stored M_thrown M_n M_hasFactors M_hasSolution M_levels M_rowAt M_places M_rights M_weights M_a) s.heap.size (w1_X5_clear g a_M a_M_a a_M_rowAt a_M_places a_M_rights a_M_weights a_M_pivots a_M_lower a_M_solution a_M_work a_M_isJoined a_M_stored M_thrown M_n M_hasFactors M_hasSolution M_levels M_rowAt M_places M_rights M_weights M_a)) (va_A (w0_X5_clear g a_M a_M_a a_M_rowAt a_M_places a_M_rights a_M_weights a_M_pivots a_M_lower a_M_solution a_M_work a_M_isJoined a_M_stored M_thrown M_n M_hasFactors M_hasSolution M_levels M_rowAt M_places M_rights M_weights M_a) s.heap.size)) ([.ref a_M] : List Value).toArray s 0 0 (va_A (w0_X5_clear g a_M a_M_a a_M_rowAt a_M_places a_M_rights a_M_weights a_M_pivots a_M_lower a_M_solution a_M_work a_M_isJoined a_M_stored M_thrown M_n M_hasFactors M_hasSolution M_levels M_rowAt M_places M_rights M_weights M_a) s.heap.size)) (F0 m 38 ls [])) := ⟨_, rfl⟩
  have hs1 : ∀ (x1 : Int32) (v_M_hasFactors : Int32) (v_M_hasSolution : Int32) (v_M_rowAt : (Nat → Int32)) (v_M_places : (Nat → Int32)) (v_M_rights : (Nat → Int32)) (v_M_weights : (Nat → Int32)) (v_M_a : (Nat → Int32)), vc_X5_clear_1 M_thrown M_n M_hasFactors M_hasSolution M_levels M_rowAt M_places M_rights M_weights M_a Q G1 G2 x1 v_M_hasFactors v_M_hasSolution v_M_rowAt v_M_places v_M_rights v_M_weights v_M_a → G1 x1 v_M_hasFactors v_M_hasSolution v_M_rowAt v_M_places v_M_rights v_M_weights v_M_a := by
    rw [hG1, hG2]
    intro x1 v_M_hasFactors v_M_hasSolution v_M_rowAt v_M_places v_M_rights v_M_weights v_M_a hv H locs ls hP hD hS hl
    unfold vc_X5_clear_1 at hv
    refine lv_iload_n hx hb dX5_clear_2 rfl (lv_at hl 0 rfl) ?_
    refine lv_bipush (v := 16) hx hb dX5_clear_3 (by decide) ?_
    refine lv_icmp_ge (tgt := 67) hx hb dX5_clear_5 (by decide) (fun hc => ?_) (fun hc => ?_)
    · replace hv := hv.1 hc
      refine lv_aload_n hx hb dX5_clear_67 rfl (lv_at hl 1 rfl) ?_
      refine lv_iconst (v := 0) hx hb dX5_clear_68 (by decide) ?_
      refine va_put (D := g.1) (ci := 5) (v := .int 0) (ty := .boolean) (C := RX5) (T := TX5) (N := 16) hx hb hts cw_in_X5 tyX5 tyX5_ok nmX5 hown hK.1 hP hD hS 0 rfl rfl 7 (by decide) (hts _ cw_f_X5_65) (fun _ h9 => h9) rfl (by decide +kernel) rfl rfl (Nat.le_of_ble_eq_true rfl) dX5_clear_69 (fun H locs hP hD hS => ?_)
      have hP : va_P g.1 vwCl [(a_M, .inr (5, [.int M_thrown, .int M_n, .ref a_M_a, .ref a_M_rowAt, .ref a_M_places, .ref a_M_rights, .ref a_M_weights, .int 0, .ref a_M_pivots, .ref a_M_lower, .int v_M_hasSolution, .ref a_M_solution, .ref a_M_work, .ref a_M_isJoined, .int M_levels, .ref a_M_stored])), (a_M_rowAt, .inl (g.2.1, 16, .inl v_M_rowAt)), (a_M_places, .inl (g.2.1, 16, .inl v_M_places)), (a_M_rights, .inl (g.2.1, 16, .inl v_M_rights)), (a_M_weights, .inl (g.2.1, 16, .inl v_M_weights)), (a_M_a, .inl (g.2.1, 256, .inl v_M_a))] H := hP
      have hD : va_D A [(a_M, .inr (5, [.int M_thrown, .int M_n, .ref a_M_a, .ref a_M_rowAt, .ref a_M_places, .ref a_M_rights, .ref a_M_weights, .int 0, .ref a_M_pivots, .ref a_M_lower, .int v_M_hasSolution, .ref a_M_solution, .ref a_M_work, .ref a_M_isJoined, .int M_levels, .ref a_M_stored])), (a_M_rowAt, .inl (g.2.1, 16, .inl v_M_rowAt)), (a_M_places, .inl (g.2.1, 16, .inl v_M_places)), (a_M_rights, .inl (g.2.1, 16, .inl v_M_rights)), (a_M_weights, .inl (g.2.1, 16, .inl v_M_weights)), (a_M_a, .inl (g.2.1, 256, .inl v_M_a))] := hD
      refine lv_aload_n hx hb dX5_clear_72 rfl (lv_at hl 1 rfl) ?_
      refine lv_iconst (v := 0) hx hb dX5_clear_73 (by decide) ?_
      refine va_put (D := g.1) (ci := 5) (v := .int 0) (ty := .boolean) (C := RX5) (T := TX5) (N := 16) hx hb hts cw_in_X5 tyX5 tyX5_ok nmX5 hown hK.1 hP hD hS 0 rfl rfl 10 (by decide) (hts _ cw_f_X5_69) (fun _ h9 => h9) rfl (by decide +kernel) rfl rfl (Nat.le_of_ble_eq_true rfl) dX5_clear_74 (fun H locs hP hD hS => ?_)
      have hP : va_P g.1 vwCl [(a_M, .inr (5, [.int M_thrown, .int M_n, .ref a_M_a, .ref a_M_rowAt, .ref a_M_places, .ref a_M_rights, .ref a_M_weights, .int 0, .ref a_M_pivots, .ref a_M_lower, .int 0, .ref a_M_solution, .ref a_M_work, .ref a_M_isJoined, .int M_levels, .ref a_M_stored])), (a_M_rowAt, .inl (g.2.1, 16, .inl v_M_rowAt)), (a_M_places, .inl (g.2.1, 16, .inl v_M_places)), (a_M_rights, .inl (g.2.1, 16, .inl v_M_rights)), (a_M_weights, .inl (g.2.1, 16, .inl v_M_weights)), (a_M_a, .inl (g.2.1, 256, .inl v_M_a))] H := hP
      have hD : va_D A [(a_M, .inr (5, [.int M_thrown, .int M_n, .ref a_M_a, .ref a_M_rowAt, .ref a_M_places, .ref a_M_rights, .ref a_M_weights, .int 0, .ref a_M_pivots, .ref a_M_lower, .int 0, .ref a_M_solution, .ref a_M_work, .ref a_M_isJoined, .int M_levels, .ref a_M_stored])), (a_M_rowAt, .inl (g.2.1, 16, .inl v_M_rowAt)), (a_M_places, .inl (g.2.1, 16, .inl v_M_places)), (a_M_rights, .inl (g.2.1, 16, .inl v_M_rights)), (a_M_weights, .inl (g.2.1, 16, .inl v_M_weights)), (a_M_a, .inl (g.2.1, 256, .inl v_M_a))] := hD
      exact cx_vret hx hb hr hlocks hAe hS (0, 0, v_M_rowAt, v_M_places, v_M_rights, v_M_weights, v_M_a) hv hP hD dX5_clear_77
    · replace hv := hv.2 hc
      refine lv_aload_n hx hb dX5_clear_8 rfl (lv_at hl 1 rfl) ?_
      refine va_get (D := g.1) (ci := 5) (v := .ref a_M_rowAt) (C := RX5) (T := TX5) (N := 16) hx hb hts cw_in_X5 hown hK.1 hP 0 rfl rfl 3 (by decide) (hts _ cw_f_X5_17) (fun _ h9 => h9) rfl dX5_clear_9 ?_
      refine lv_iload_n hx hb dX5_clear_12 rfl (lv_at hl 0 rfl) ?_
      refine lv_iload_n hx hb dX5_clear_13 rfl (lv_at hl 0 rfl) ?_
      obtain ⟨h_1, hv⟩ := hv
      refine va_iast (D := g.1) hx hb hK.1 hP hD hS 1 0 rfl rfl h_1 dX5_clear_14 (fun H locs hP hD hS => ?_)
      have hP : va_P g.1 vwCl [(a_M, .inr (5, [.int M_thrown, .int M_n, .ref a_M_a, .ref a_M_rowAt, .ref a_M_places, .ref a_M_rights, .ref a_M_weights, .int v_M_hasFactors, .ref a_M_pivots, .ref a_M_lower, .int v_M_hasSolution, .ref a_M_solution, .ref a_M_work, .ref a_M_isJoined, .int M_levels, .ref a_M_stored])), (a_M_rowAt, .inl (g.2.1, 16, .inl (upd v_M_rowAt (Int32.toNatClampNeg x1) x1))), (a_M_places, .inl (g.2.1, 16, .inl v_M_places)), (a_M_rights, .inl (g.2.1, 16, .inl v_M_rights)), (a_M_weights, .inl (g.2.1, 16, .inl v_M_weights)), (a_M_a, .inl (g.2.1, 256, .inl v_M_a))] H := hP
      have hD : va_D A [(a_M, .inr (5, [.int M_thrown, .int M_n, .ref a_M_a, .ref a_M_rowAt, .ref a_M_places, .ref a_M_rights, .ref a_M_weights, .int v_M_hasFactors, .ref a_M_pivots, .ref a_M_lower, .int v_M_hasSolution, .ref a_M_solution, .ref a_M_work, .ref a_M_isJoined, .int M_levels, .ref a_M_stored])), (a_M_rowAt, .inl (g.2.1, 16, .inl (upd v_M_rowAt (Int32.toNatClampNeg x1) x1))), (a_M_places, .inl (g.2.1, 16, .inl v_M_places)), (a_M_rights, .inl (g.2.1, 16, .inl v_M_rights)), (a_M_weights, .inl (g.2.1, 16, .inl v_M_weights)), (a_M_a, .inl (g.2.1, 256, .inl v_M_a))] := hD
      refine lv_aload_n hx hb dX5_clear_15 rfl (lv_at hl 1 rfl) ?_
      refine va_get (D := g.1) (ci := 5) (v := .ref a_M_places) (C := RX5) (T := TX5) (N := 16) hx hb hts cw_in_X5 hown hK.1 hP 0 rfl rfl 4 (by decide) (hts _ cw_f_X5_20) (fun _ h9 => h9) rfl dX5_clear_16 ?_
      refine lv_iload_n hx hb dX5_clear_19 rfl (lv_at hl 0 rfl) ?_
      refine lv_iload_n hx hb dX5_clear_20 rfl (lv_at hl 0 rfl) ?_
      obtain ⟨h_2, hv⟩ := hv
      refine va_iast (D := g.1) hx hb hK.1 hP hD hS 2 0 rfl rfl h_2 dX5_clear_21 (fun H locs hP hD hS => ?_)
      have hP : va_P g.1 vwCl [(a_M, .inr (5, [.int M_thrown, .int M_n, .ref a_M_a, .ref a_M_rowAt, .ref a_M_places, .ref a_M_rights, .ref a_M_weights, .int v_M_hasFactors, .ref a_M_pivots, .ref a_M_lower, .int v_M_hasSolution, .ref a_M_solution, .ref a_M_work, .ref a_M_isJoined, .int M_levels, .ref a_M_stored])), (a_M_rowAt, .inl (g.2.1, 16, .inl (upd v_M_rowAt (Int32.toNatClampNeg x1) x1))), (a_M_places, .inl (g.2.1, 16, .inl (upd v_M_places (Int32.toNatClampNeg x1) x1))), (a_M_rights, .inl (g.2.1, 16, .inl v_M_rights)), (a_M_weights, .inl (g.2.1, 16, .inl v_M_weights)), (a_M_a, .inl (g.2.1, 256, .inl v_M_a))] H := hP
      have hD : va_D A [(a_M, .inr (5, [.int M_thrown, .int M_n, .ref a_M_a, .ref a_M_rowAt, .ref a_M_places, .ref a_M_rights, .ref a_M_weights, .int v_M_hasFactors, .ref a_M_pivots, .ref a_M_lower, .int v_M_hasSolution, .ref a_M_solution, .ref a_M_work, .ref a_M_isJoined, .int M_levels, .ref a_M_stored])), (a_M_rowAt, .inl (g.2.1, 16, .inl (upd v_M_rowAt (Int32.toNatClampNeg x1) x1))), (a_M_places, .inl (g.2.1, 16, .inl (upd v_M_places (Int32.toNatClampNeg x1) x1))), (a_M_rights, .inl (g.2.1, 16, .inl v_M_rights)), (a_M_weights, .inl (g.2.1, 16, .inl v_M_weights)), (a_M_a, .inl (g.2.1, 256, .inl v_M_a))] := hD
      refine lv_aload_n hx hb dX5_clear_22 rfl (lv_at hl 1 rfl) ?_
      refine va_get (D := g.1) (ci := 5) (v := .ref a_M_rights) (C := RX5) (T := TX5) (N := 16) hx hb hts cw_in_X5 hown hK.1 hP 0 rfl rfl 5 (by decide) (hts _ cw_f_X5_23) (fun _ h9 => h9) rfl dX5_clear_23 ?_
      refine lv_iload_n hx hb dX5_clear_26 rfl (lv_at hl 0 rfl) ?_
      refine lv_iconst (v := 0) hx hb dX5_clear_27 (by decide) ?_
      obtain ⟨h_3, hv⟩ := hv
      refine va_iast (D := g.1) hx hb hK.1 hP hD hS 3 0 rfl rfl h_3 dX5_clear_28 (fun H locs hP hD hS => ?_)
      have hP : va_P g.1 vwCl [(a_M, .inr (5, [.int M_thrown, .int M_n, .ref a_M_a, .ref a_M_rowAt, .ref a_M_places, .ref a_M_rights, .ref a_M_weights, .int v_M_hasFactors, .ref a_M_pivots, .ref a_M_lower, .int v_M_hasSolution, .ref a_M_solution, .ref a_M_work, .ref a_M_isJoined, .int M_levels, .ref a_M_stored])), (a_M_rowAt, .inl (g.2.1, 16, .inl (upd v_M_rowAt (Int32.toNatClampNeg x1) x1))), (a_M_places, .inl (g.2.1, 16, .inl (upd v_M_places (Int32.toNatClampNeg x1) x1))), (a_M_rights, .inl (g.2.1, 16, .inl (upd v_M_rights (Int32.toNatClampNeg x1) 0))), (a_M_weights, .inl (g.2.1, 16, .inl v_M_weights)), (a_M_a, .inl (g.2.1, 256, .inl v_M_a))] H := hP
      have hD : va_D A [(a_M, .inr (5, [.int M_thrown, .int M_n, .ref a_M_a, .ref a_M_rowAt, .ref a_M_places, .ref a_M_rights, .ref a_M_weights, .int v_M_hasFactors, .ref a_M_pivots, .ref a_M_lower, .int v_M_hasSolution, .ref a_M_solution, .ref a_M_work, .ref a_M_isJoined, .int M_levels, .ref a_M_stored])), (a_M_rowAt, .inl (g.2.1, 16, .inl (upd v_M_rowAt (Int32.toNatClampNeg x1) x1))), (a_M_places, .inl (g.2.1, 16, .inl (upd v_M_places (Int32.toNatClampNeg x1) x1))), (a_M_rights, .inl (g.2.1, 16, .inl (upd v_M_rights (Int32.toNatClampNeg x1) 0))), (a_M_weights, .inl (g.2.1, 16, .inl v_M_weights)), (a_M_a, .inl (g.2.1, 256, .inl v_M_a))] := hD
      refine lv_aload_n hx hb dX5_clear_29 rfl (lv_at hl 1 rfl) ?_
      refine va_get (D := g.1) (ci := 5) (v := .ref a_M_weights) (C := RX5) (T := TX5) (N := 16) hx hb hts cw_in_X5 hown hK.1 hP 0 rfl rfl 6 (by decide) (hts _ cw_f_X5_26) (fun _ h9 => h9) rfl dX5_clear_30 ?_
      refine lv_iload_n hx hb dX5_clear_33 rfl (lv_at hl 0 rfl) ?_
      refine lv_iconst (v := 0) hx hb dX5_clear_34 (by decide) ?_
      obtain ⟨h_4, hv⟩ := hv
      refine va_iast (D := g.1) hx hb hK.1 hP hD hS 4 0 rfl rfl h_4 dX5_clear_35 (fun H locs hP hD hS => ?_)
      have hP : va_P g.1 vwCl [(a_M, .inr (5, [.int M_thrown, .int M_n, .ref a_M_a, .ref a_M_rowAt, .ref a_M_places, .ref a_M_rights, .ref a_M_weights, .int v_M_hasFactors, .ref a_M_pivots, .ref a_M_lower, .int v_M_hasSolution, .ref a_M_solution, .ref a_M_work, .ref a_M_isJoined, .int M_levels, .ref a_M_stored])), (a_M_rowAt, .inl (g.2.1, 16, .inl (upd v_M_rowAt (Int32.toNatClampNeg x1) x1))), (a_M_places, .inl (g.2.1, 16, .inl (upd v_M_places (Int32.toNatClampNeg x1) x1))), (a_M_rights, .inl (g.2.1, 16, .inl (upd v_M_rights (Int32.toNatClampNeg x1) 0))), (a_M_weights, .inl (g.2.1, 16, .inl (upd v_M_weights (Int32.toNatClampNeg x1) 0))), (a_M_a, .inl (g.2.1, 256, .inl v_M_a))] H := hP
      have hD : va_D A [(a_M, .inr (5, [.int M_thrown, .int M_n, .ref a_M_a, .ref a_M_rowAt, .ref a_M_places, .ref a_M_rights, .ref a_M_weights, .int v_M_hasFactors, .ref a_M_pivots, .ref a_M_lower, .int v_M_hasSolution, .ref a_M_solution, .ref a_M_work, .ref a_M_isJoined, .int M_levels, .ref a_M_stored])), (a_M_rowAt, .inl (g.2.1, 16, .inl (upd v_M_rowAt (Int32.toNatClampNeg x1) x1))), (a_M_places, .inl (g.2.1, 16, .inl (upd v_M_places (Int32.toNatClampNeg x1) x1))), (a_M_rights, .inl (g.2.1, 16, .inl (upd v_M_rights (Int32.toNatClampNeg x1) 0))), (a_M_weights, .inl (g.2.1, 16, .inl (upd v_M_weights (Int32.toNatClampNeg x1) 0))), (a_M_a, .inl (g.2.1, 256, .inl v_M_a))] := hD
      refine lv_iconst (v := 0) hx hb dX5_clear_36 (by decide) ?_
      refine lv_istore_n (lv' := [(2, .int 0), (1, .int x1), (0, .ref a_M)]) hx hb dX5_clear_37 rfl hl (by decide) rfl (fun ls hl => ?_)
      exact hv _ _ _ hP hD hS (lv_sub hl [0, 1, 2] rfl)
  have hs2 : ∀ (x2 : Int32) (x1 : Int32) (v_M_hasFactors : Int32) (v_M_hasSolution : Int32) (v_M_rowAt : (Nat → Int32)) (v_M_places : (Nat → Int32)) (v_M_rights : (Nat → Int32)) (v_M_weights : (Nat → Int32)) (v_M_a : (Nat → Int32)), vc_X5_clear_2 M_thrown M_n M_hasFactors M_hasSolution M_levels M_rowAt M_places M_rights M_weights M_a Q G1 G2 x2 x1 v_M_hasFactors v_M_hasSolution v_M_rowAt v_M_places v_M_rights v_M_weights v_M_a → G2 x2 x1 v_M_hasFactors v_M_hasSolution v_M_rowAt v_M_places v_M_rights v_M_weights v_M_a := by
    rw [hG1, hG2]
    intro x2 x1 v_M_hasFactors v_M_hasSolution v_M_rowAt v_M_places v_M_rights v_M_weights v_M_a hv H locs ls hP hD hS hl
    unfold vc_X5_clear_2 at hv
    refine lv_iload_n hx hb dX5_clear_38 rfl (lv_at hl 0 rfl) ?_
    refine lv_bipush (v := 16) hx hb dX5_clear_39 (by decide) ?_
    refine lv_icmp_ge (tgt := 61) hx hb dX5_clear_41 (by decide) (fun hc => ?_) (fun hc => ?_)
    · replace hv := hv.1 hc
      obtain ⟨x1_1, ex1_1⟩ : ∃ y : Int32, y = x1 + 1 := ⟨_, rfl⟩
      replace hv := hv x1_1 ex1_1
      refine lv_iinc (v := x1_1) (lv' := [(1, .int x1_1), (2, .int x2), (0, .ref a_M)]) hx hb dX5_clear_61 hl (k := 1) rfl (by rw [ex1_1]; rfl) (by decide) rfl (fun ls hl => ?_)
      refine lv_goto (tgt := 2) hx hb dX5_clear_64 (by decide) ?_
      exact hv _ _ _ hP hD hS (lv_sub hl [0, 2] rfl)
    · replace hv := hv.2 hc
      refine lv_aload_n hx hb dX5_clear_44 rfl (lv_at hl 2 rfl) ?_
      refine va_get (D := g.1) (ci := 5) (v := .ref a_M_a) (C := RX5) (T := TX5) (N := 16) hx hb hts cw_in_X5 hown hK.1 hP 0 rfl rfl 2 (by decide) (hts _ cw_f_X5_13) (fun _ h9 => h9) rfl dX5_clear_45 ?_
      refine lv_iload_n hx hb dX5_clear_48 rfl (lv_at hl 1 rfl) ?_
      refine lv_iload_n hx hb dX5_clear_49 rfl (lv_at hl 0 rfl) ?_
      refine cx_iSr (As := [.int x1, .int x2]) (rest := [.ref a_M_a]) ⟨hx, hb, hml, hown, hts⟩ (cp_X5_at l g x1 x2) (cx_cwS 2 hts cw_m_X5_62 cw_t_X5_at cw_n_X5 cw_c_X5_at rfl rfl (by decide +kernel) ⟨Nat.le_of_ble_eq_true rfl, Nat.le_of_ble_eq_true rfl⟩) hK hP hD hS hA [] rfl rfl rfl hl.1 rfl (Nat.le_of_ble_eq_true rfl) dX5_clear_50 ⟨Nat.le_of_ble_eq_true rfl, Nat.le_of_ble_eq_true rfl⟩ (fun r_2 H locs hr9 hP hS => ?_)
      replace hr9 : r_2 = (f_at x1 x2) := hr9
      subst hr9
      refine lv_iconst (v := 0) hx hb dX5_clear_53 (by decide) ?_
      obtain ⟨h_3, hv⟩ := hv
      refine va_iast (D := g.1) hx hb hK.1 hP hD hS 5 0 rfl rfl h_3 dX5_clear_54 (fun H locs hP hD hS => ?_)
      have hP : va_P g.1 vwCl [(a_M, .inr (5, [.int M_thrown, .int M_n, .ref a_M_a, .ref a_M_rowAt, .ref a_M_places, .ref a_M_rights, .ref a_M_weights, .int v_M_hasFactors, .ref a_M_pivots, .ref a_M_lower, .int v_M_hasSolution, .ref a_M_solution, .ref a_M_work, .ref a_M_isJoined, .int M_levels, .ref a_M_stored])), (a_M_rowAt, .inl (g.2.1, 16, .inl v_M_rowAt)), (a_M_places, .inl (g.2.1, 16, .inl v_M_places)), (a_M_rights, .inl (g.2.1, 16, .inl v_M_rights)), (a_M_weights, .inl (g.2.1, 16, .inl v_M_weights)), (a_M_a, .inl (g.2.1, 256, .inl (upd v_M_a (Int32.toNatClampNeg (f_at x1 x2)) 0)))] H := hP
      have hD : va_D A [(a_M, .inr (5, [.int M_thrown, .int M_n, .ref a_M_a, .ref a_M_rowAt, .ref a_M_places, .ref a_M_rights, .ref a_M_weights, .int v_M_hasFactors, .ref a_M_pivots, .ref a_M_lower, .int v_M_hasSolution, .ref a_M_solution, .ref a_M_work, .ref a_M_isJoined, .int M_levels, .ref a_M_stored])), (a_M_rowAt, .inl (g.2.1, 16, .inl v_M_rowAt)), (a_M_places, .inl (g.2.1, 16, .inl v_M_places)), (a_M_rights, .inl (g.2.1, 16, .inl v_M_rights)), (a_M_weights, .inl (g.2.1, 16, .inl v_M_weights)), (a_M_a, .inl (g.2.1, 256, .inl (upd v_M_a (Int32.toNatClampNeg (f_at x1 x2)) 0)))] := hD
      obtain ⟨x2_4, ex2_4⟩ : ∃ y : Int32, y = x2 + 1 := ⟨_, rfl⟩
      replace hv := hv x2_4 ex2_4
      refine lv_iinc (v := x2_4) (lv' := [(2, .int x2_4), (1, .int x1), (0, .ref a_M)]) hx hb dX5_clear_55 hl (k := 0) rfl (by rw [ex2_4]; rfl) (by decide) rfl (fun ls hl => ?_)
      refine lv_goto (tgt := 38) hx hb dX5_clear_58 (by decide) ?_
      exact hv _ _ _ hP hD hS (lv_sub hl [0, 1, 2] rfl)
  replace hv := hv G1 G2 hs1 hs2
  rw [hG1, hG2] at hv
  unfold vc_X5_clear_0 at hv
  refine lv_iconst (v := 0) hx hb dX5_clear_0 (by decide) ?_
  refine lv_istore_n (lv' := [(1, .int 0), (0, .ref a_M)]) hx hb dX5_clear_1 rfl hl (by decide) rfl (fun ls hl => ?_)
  exact hv _ _ _ hP hD hS (lv_sub hl [0, 1] rfl)
def wp_X5_setSize (i_n : Int32) (M_thrown : Int32) (M_n : Int32) (M_hasFactors : Int32) (M_hasSolution : Int32) (M_levels : Int32) (M_rowAt : (Nat → Int32)) (M_places : (Nat → Int32)) (M_rights : (Nat → Int32)) (M_weights : (Nat → Int32)) (M_a : (Nat → Int32)) (Q : Int32 → Int32 → Int32 → Int32 → Int32 → (Nat → Int32) → (Nat → Int32) → (Nat → Int32) → (Nat → Int32) → (Nat → Int32) → Prop)   : Prop := (i_n < 1 → (wp_X5_no 1 0 M_n M_hasFactors M_hasSolution M_levels (fun r_1 u_2 => Q r_1 u_2 M_n M_hasFactors M_hasSolution M_rowAt M_places M_rights M_weights M_a))) ∧ (¬ i_n < 1 → ((i_n ≤ 16 → (wp_X5_clear 0 i_n M_hasFactors M_hasSolution M_levels M_rowAt M_places M_rights M_weights M_a (fun u_5 u_6 u_7 u_8 u_9 u_10 u_11 => Q i_n 0 i_n u_5 u_6 u_7 u_8 u_9 u_10 u_11))) ∧ (¬ i_n ≤ 16 → (wp_X5_no 1 0 M_n M_hasFactors M_hasSolution M_levels (fun r_13 u_14 => Q r_13 u_14 M_n M_hasFactors M_hasSolution M_rowAt M_places M_rights M_weights M_a)))))
abbrev w0_X5_setSize (g : cx_G) (a_M a_M_a a_M_rowAt a_M_places a_M_rights a_M_weights a_M_pivots a_M_lower a_M_solution a_M_work a_M_isJoined a_M_stored : Nat) (M_thrown : Int32) (M_n : Int32) (M_hasFactors : Int32) (M_hasSolution : Int32) (M_levels : Int32) (M_rowAt : (Nat → Int32)) (M_places : (Nat → Int32)) (M_rights : (Nat → Int32)) (M_weights : (Nat → Int32)) (M_a : (Nat → Int32)) : va_W := [(a_M, .inr (5, [.int M_thrown, .int M_n, .ref a_M_a, .ref a_M_rowAt, .ref a_M_places, .ref a_M_rights, .ref a_M_weights, .int M_hasFactors, .ref a_M_pivots, .ref a_M_lower, .int M_hasSolution, .ref a_M_solution, .ref a_M_work, .ref a_M_isJoined, .int M_levels, .ref a_M_stored])), (a_M_rowAt, .inl (g.2.1, 16, .inl M_rowAt)), (a_M_places, .inl (g.2.1, 16, .inl M_places)), (a_M_rights, .inl (g.2.1, 16, .inl M_rights)), (a_M_weights, .inl (g.2.1, 16, .inl M_weights)), (a_M_a, .inl (g.2.1, 256, .inl M_a))]
abbrev w1_X5_setSize (g : cx_G) (a_M a_M_a a_M_rowAt a_M_places a_M_rights a_M_weights a_M_pivots a_M_lower a_M_solution a_M_work a_M_isJoined a_M_stored : Nat) (M_thrown : Int32) (M_n : Int32) (M_hasFactors : Int32) (M_hasSolution : Int32) (M_levels : Int32) (M_rowAt : (Nat → Int32)) (M_places : (Nat → Int32)) (M_rights : (Nat → Int32)) (M_weights : (Nat → Int32)) (M_a : (Nat → Int32)) (u : Int32 × Int32 × Int32 × Int32 × (Nat → Int32) × (Nat → Int32) × (Nat → Int32) × (Nat → Int32) × (Nat → Int32)) : va_W := [(a_M, .inr (5, [.int u.1, .int u.2.1, .ref a_M_a, .ref a_M_rowAt, .ref a_M_places, .ref a_M_rights, .ref a_M_weights, .int u.2.2.1, .ref a_M_pivots, .ref a_M_lower, .int u.2.2.2.1, .ref a_M_solution, .ref a_M_work, .ref a_M_isJoined, .int M_levels, .ref a_M_stored])), (a_M_rowAt, .inl (g.2.1, 16, .inl u.2.2.2.2.1)), (a_M_places, .inl (g.2.1, 16, .inl u.2.2.2.2.2.1)), (a_M_rights, .inl (g.2.1, 16, .inl u.2.2.2.2.2.2.1)), (a_M_weights, .inl (g.2.1, 16, .inl u.2.2.2.2.2.2.2.1)), (a_M_a, .inl (g.2.1, 256, .inl u.2.2.2.2.2.2.2.2))]
set_option maxHeartbeats 4000000 in
set_option maxRecDepth 100000 in
theorem c_X5_setSize (l : Launch) (g : cx_G) (a_M a_M_a a_M_rowAt a_M_places a_M_rights a_M_weights a_M_pivots a_M_lower a_M_solution a_M_work a_M_isJoined a_M_stored : Nat) (i_n : Int32) (M_thrown : Int32) (M_n : Int32) (M_hasFactors : Int32) (M_hasSolution : Int32) (M_levels : Int32) (M_rowAt : (Nat → Int32)) (M_places : (Nat → Int32)) (M_rights : (Nat → Int32)) (M_weights : (Nat → Int32)) (M_a : (Nat → Int32)) {Q : Int32 → Int32 → Int32 → Int32 → Int32 → (Nat → Int32) → (Nat → Int32) → (Nat → Int32) → (Nat → Int32) → (Nat → Int32) → Prop} (hv : wp_X5_setSize i_n M_thrown M_n M_hasFactors M_hasSolution M_levels M_rowAt M_places M_rights M_weights M_a Q) : cx_Mi l g yX5_setSize (Cond.code yX5_setSize cX5_setSize 2 (some .int) :: cx_T) ({ frames := 2, cells := 0, slots := 0, locals := 43 } : Room) [.ref a_M, .int i_n] (w0_X5_setSize g a_M a_M_a a_M_rowAt a_M_places a_M_rights a_M_weights a_M_pivots a_M_lower a_M_solution a_M_work a_M_isJoined a_M_stored M_thrown M_n M_hasFactors M_hasSolution M_levels M_rowAt M_places M_rights M_weights M_a) (fun (r : Int32) (u : Int32 × Int32 × Int32 × Int32 × (Nat → Int32) × (Nat → Int32) × (Nat → Int32) × (Nat → Int32) × (Nat → Int32)) => Q r u.1 u.2.1 u.2.2.1 u.2.2.2.1 u.2.2.2.2.1 u.2.2.2.2.2.1 u.2.2.2.2.2.2.1 u.2.2.2.2.2.2.2.1 u.2.2.2.2.2.2.2.2) (w1_X5_setSize g a_M a_M_a a_M_rowAt a_M_places a_M_rights a_M_weights a_M_pivots a_M_lower a_M_solution a_M_work a_M_isJoined a_M_stored M_thrown M_n M_hasFactors M_hasSolution M_levels M_rowAt M_places M_rights M_weights M_a) 0 0 := by
  intro sz
  refine Met.ofW (cc := cX5_setSize) (maxL := 2) (ret := (some .int)) (by decide) rfl ?_
  intro p e s m args below meth c s₁ B hml hpre
  obtain ⟨rfl, hsz, hP, hK, hD0⟩ := hpre
  have hx := B.exec
  have hb := B.bytes
  have hr := B.returns
  have hts0 := atoms_spec (ws := (Cond.code yX5_setSize cX5_setSize 2 (some .int) :: cx_T)) B.pre
  have hts : ∀ w ∈ cx_T, w.before _ s = true := fun w h => hts0 w (List.mem_cons_of_mem _ h)
  have hown : s.vm.findClass RX5 = some m.cls := findClass_of_methodNamed B.named
  have hlocks := B.notSynchronized
  subst hsz
  have hD := hD0.self (sz := s.heap.size)
  obtain ⟨A, hAe⟩ : ∃ A : Nat → Prop, A = va_A (w0_X5_setSize g a_M a_M_a a_M_rowAt a_M_places a_M_rights a_M_weights a_M_pivots a_M_lower a_M_solution a_M_work a_M_isJoined a_M_stored M_thrown M_n M_hasFactors M_hasSolution M_levels M_rowAt M_places M_rights M_weights M_a) s.heap.size := ⟨_, rfl⟩
  rw [← hAe] at hD
  have hA : ∀ q : Nat, s.heap.size ≤ q → A q := fun q h => by rw [hAe]; exact Or.inr h
  have hS : va_S A s.heap s.heap [] := va_S.rf
  have hP : va_P g.1 vwCl [(a_M, .inr (5, [.int M_thrown, .int M_n, .ref a_M_a, .ref a_M_rowAt, .ref a_M_places, .ref a_M_rights, .ref a_M_weights, .int M_hasFactors, .ref a_M_pivots, .ref a_M_lower, .int M_hasSolution, .ref a_M_solution, .ref a_M_work, .ref a_M_isJoined, .int M_levels, .ref a_M_stored])), (a_M_rowAt, .inl (g.2.1, 16, .inl M_rowAt)), (a_M_places, .inl (g.2.1, 16, .inl M_places)), (a_M_rights, .inl (g.2.1, 16, .inl M_rights)), (a_M_weights, .inl (g.2.1, 16, .inl M_weights)), (a_M_a, .inl (g.2.1, 256, .inl M_a))] s.heap := hP
  have hD : va_D A [(a_M, .inr (5, [.int M_thrown, .int M_n, .ref a_M_a, .ref a_M_rowAt, .ref a_M_places, .ref a_M_rights, .ref a_M_weights, .int M_hasFactors, .ref a_M_pivots, .ref a_M_lower, .int M_hasSolution, .ref a_M_solution, .ref a_M_work, .ref a_M_isJoined, .int M_levels, .ref a_M_stored])), (a_M_rowAt, .inl (g.2.1, 16, .inl M_rowAt)), (a_M_places, .inl (g.2.1, 16, .inl M_places)), (a_M_rights, .inl (g.2.1, 16, .inl M_rights)), (a_M_weights, .inl (g.2.1, 16, .inl M_weights)), (a_M_a, .inl (g.2.1, 256, .inl M_a))] := hD
  have hl := lv_entry ([.ref a_M, .int i_n]) (n := 2) (Nat.le_of_ble_eq_true rfl)
  rw [lg_entry_eq]
  generalize (lg_sl ([.ref a_M, .int i_n]) ++ List.replicate (2 - (lg_sl ([.ref a_M, .int i_n])).length) Slot.unset).toArray = ls at hl ⊢
  have hl : lv_has ls 2 [(0, .ref a_M), (1, .int i_n)] := hl
  unfold wp_X5_setSize at hv
  refine lv_aload_n hx hb dX5_setSize_0 rfl (lv_at hl 0 rfl) ?_
  refine lv_iconst (v := 0) hx hb dX5_setSize_1 (by decide) ?_
  refine va_put (D := g.1) (ci := 5) (v := .int 0) (ty := .int) (C := RX5) (T := TX5) (N := 16) hx hb hts cw_in_X5 tyX5 tyX5_ok nmX5 hown hK.1 hP hD hS 0 rfl rfl 0 (by decide) (hts _ cw_f_X5_51) (fun _ h9 => h9) rfl (by decide +kernel) rfl rfl (Nat.le_of_ble_eq_true rfl) dX5_setSize_2 (fun H locs hP hD hS => ?_)
  have hP : va_P g.1 vwCl [(a_M, .inr (5, [.int 0, .int M_n, .ref a_M_a, .ref a_M_rowAt, .ref a_M_places, .ref a_M_rights, .ref a_M_weights, .int M_hasFactors, .ref a_M_pivots, .ref a_M_lower, .int M_hasSolution, .ref a_M_solution, .ref a_M_work, .ref a_M_isJoined, .int M_levels, .ref a_M_stored])), (a_M_rowAt, .inl (g.2.1, 16, .inl M_rowAt)), (a_M_places, .inl (g.2.1, 16, .inl M_places)), (a_M_rights, .inl (g.2.1, 16, .inl M_rights)), (a_M_weights, .inl (g.2.1, 16, .inl M_weights)), (a_M_a, .inl (g.2.1, 256, .inl M_a))] H := hP
  have hD : va_D A [(a_M, .inr (5, [.int 0, .int M_n, .ref a_M_a, .ref a_M_rowAt, .ref a_M_places, .ref a_M_rights, .ref a_M_weights, .int M_hasFactors, .ref a_M_pivots, .ref a_M_lower, .int M_hasSolution, .ref a_M_solution, .ref a_M_work, .ref a_M_isJoined, .int M_levels, .ref a_M_stored])), (a_M_rowAt, .inl (g.2.1, 16, .inl M_rowAt)), (a_M_places, .inl (g.2.1, 16, .inl M_places)), (a_M_rights, .inl (g.2.1, 16, .inl M_rights)), (a_M_weights, .inl (g.2.1, 16, .inl M_weights)), (a_M_a, .inl (g.2.1, 256, .inl M_a))] := hD
  refine lv_iload_n hx hb dX5_setSize_5 rfl (lv_at hl 1 rfl) ?_
  refine lv_iconst (v := 1) hx hb dX5_setSize_6 (by decide) ?_
  refine lv_icmp_lt (tgt := 16) hx hb dX5_setSize_7 (by decide) (fun hc => ?_) (fun hc => ?_)
  · replace hv := hv.1 hc
    refine lv_aload_n hx hb dX5_setSize_16 rfl (lv_at hl 0 rfl) ?_
    refine lv_iconst (v := 1) hx hb dX5_setSize_17 (by decide) ?_
    refine cx_iV (wr := [(a_M_rowAt, .inl (g.2.1, 16, .inl M_rowAt)), (a_M_places, .inl (g.2.1, 16, .inl M_places)), (a_M_rights, .inl (g.2.1, 16, .inl M_rights)), (a_M_weights, .inl (g.2.1, 16, .inl M_weights)), (a_M_a, .inl (g.2.1, 256, .inl M_a))]) (As := [.int 1]) (rest := []) ⟨hx, hb, hml, hown, hts⟩ (c_X5_no l g a_M a_M_a a_M_rowAt a_M_places a_M_rights a_M_weights a_M_pivots a_M_lower a_M_solution a_M_work a_M_isJoined a_M_stored 1 0 M_n M_hasFactors M_hasSolution M_levels hv) (cx_cwV 1 hts cw_m_X5_72 cw_i_X5_no cw_s_X5_no cw_n_X5 cw_c_X5_no rfl rfl (by decide +kernel) ⟨Nat.le_of_ble_eq_true rfl, Nat.le_of_ble_eq_true rfl⟩) hK hP hD hS hA 0 5 rfl rfl [0] [1, 2, 3, 4, 5] rfl rfl rfl rfl (by decide) rfl hl.1 rfl (Nat.le_of_ble_eq_true rfl) dX5_setSize_18 ⟨Nat.le_of_ble_eq_true rfl, Nat.le_of_ble_eq_true rfl⟩ (fun r_1 w_3 H locs hv hP hD hS => ?_)
    obtain ⟨u_2, rfl⟩ : ∃ z, z = w_3 := ⟨_, rfl⟩
    have hP : va_P g.1 vwCl [(a_M, .inr (5, [.int u_2, .int M_n, .ref a_M_a, .ref a_M_rowAt, .ref a_M_places, .ref a_M_rights, .ref a_M_weights, .int M_hasFactors, .ref a_M_pivots, .ref a_M_lower, .int M_hasSolution, .ref a_M_solution, .ref a_M_work, .ref a_M_isJoined, .int M_levels, .ref a_M_stored])), (a_M_rowAt, .inl (g.2.1, 16, .inl M_rowAt)), (a_M_places, .inl (g.2.1, 16, .inl M_places)), (a_M_rights, .inl (g.2.1, 16, .inl M_rights)), (a_M_weights, .inl (g.2.1, 16, .inl M_weights)), (a_M_a, .inl (g.2.1, 256, .inl M_a))] H := hP.sub [5, 0, 1, 2, 3, 4] rfl
    have hD : va_D A [(a_M, .inr (5, [.int u_2, .int M_n, .ref a_M_a, .ref a_M_rowAt, .ref a_M_places, .ref a_M_rights, .ref a_M_weights, .int M_hasFactors, .ref a_M_pivots, .ref a_M_lower, .int M_hasSolution, .ref a_M_solution, .ref a_M_work, .ref a_M_isJoined, .int M_levels, .ref a_M_stored])), (a_M_rowAt, .inl (g.2.1, 16, .inl M_rowAt)), (a_M_places, .inl (g.2.1, 16, .inl M_places)), (a_M_rights, .inl (g.2.1, 16, .inl M_rights)), (a_M_weights, .inl (g.2.1, 16, .inl M_weights)), (a_M_a, .inl (g.2.1, 256, .inl M_a))] := hD.sub [5, 0, 1, 2, 3, 4] (by decide) rfl
    exact cx_iret hx hb hr hlocks hAe hS (u_2, M_n, M_hasFactors, M_hasSolution, M_rowAt, M_places, M_rights, M_weights, M_a) hv hP hD dX5_setSize_21
  · replace hv := hv.2 hc
    refine lv_iload_n hx hb dX5_setSize_10 rfl (lv_at hl 1 rfl) ?_
    refine lv_bipush (v := 16) hx hb dX5_setSize_11 (by decide) ?_
    refine lv_icmp_le (tgt := 22) hx hb dX5_setSize_13 (by decide) (fun hc => ?_) (fun hc => ?_)
    · replace hv := hv.1 hc
      refine lv_aload_n hx hb dX5_setSize_22 rfl (lv_at hl 0 rfl) ?_
      refine lv_iload_n hx hb dX5_setSize_23 rfl (lv_at hl 1 rfl) ?_
      refine va_put (D := g.1) (ci := 5) (v := .int i_n) (ty := .int) (C := RX5) (T := TX5) (N := 16) hx hb hts cw_in_X5 tyX5 tyX5_ok nmX5 hown hK.1 hP hD hS 0 rfl rfl 1 (by decide) (hts _ cw_f_X5_9) (fun _ h9 => h9) rfl (by decide +kernel) rfl rfl (Nat.le_of_ble_eq_true rfl) dX5_setSize_24 (fun H locs hP hD hS => ?_)
      have hP : va_P g.1 vwCl [(a_M, .inr (5, [.int 0, .int i_n, .ref a_M_a, .ref a_M_rowAt, .ref a_M_places, .ref a_M_rights, .ref a_M_weights, .int M_hasFactors, .ref a_M_pivots, .ref a_M_lower, .int M_hasSolution, .ref a_M_solution, .ref a_M_work, .ref a_M_isJoined, .int M_levels, .ref a_M_stored])), (a_M_rowAt, .inl (g.2.1, 16, .inl M_rowAt)), (a_M_places, .inl (g.2.1, 16, .inl M_places)), (a_M_rights, .inl (g.2.1, 16, .inl M_rights)), (a_M_weights, .inl (g.2.1, 16, .inl M_weights)), (a_M_a, .inl (g.2.1, 256, .inl M_a))] H := hP
      have hD : va_D A [(a_M, .inr (5, [.int 0, .int i_n, .ref a_M_a, .ref a_M_rowAt, .ref a_M_places, .ref a_M_rights, .ref a_M_weights, .int M_hasFactors, .ref a_M_pivots, .ref a_M_lower, .int M_hasSolution, .ref a_M_solution, .ref a_M_work, .ref a_M_isJoined, .int M_levels, .ref a_M_stored])), (a_M_rowAt, .inl (g.2.1, 16, .inl M_rowAt)), (a_M_places, .inl (g.2.1, 16, .inl M_places)), (a_M_rights, .inl (g.2.1, 16, .inl M_rights)), (a_M_weights, .inl (g.2.1, 16, .inl M_weights)), (a_M_a, .inl (g.2.1, 256, .inl M_a))] := hD
      refine lv_aload_n hx hb dX5_setSize_27 rfl (lv_at hl 0 rfl) ?_
      refine cx_vV (wr := []) (As := []) (rest := []) ⟨hx, hb, hml, hown, hts⟩ (c_X5_clear l g a_M a_M_a a_M_rowAt a_M_places a_M_rights a_M_weights a_M_pivots a_M_lower a_M_solution a_M_work a_M_isJoined a_M_stored 0 i_n M_hasFactors M_hasSolution M_levels M_rowAt M_places M_rights M_weights M_a hv) (cx_cwV 0 hts cw_m_X5_48 cw_i_X5_clear cw_s_X5_clear cw_n_X5 cw_c_X5_clear rfl rfl (by decide +kernel) ⟨Nat.le_of_ble_eq_true rfl, Nat.le_of_ble_eq_true rfl⟩) hK hP hD hS hA 0 5 rfl rfl [0, 1, 2, 3, 4, 5] [] rfl rfl rfl rfl (by decide) rfl hl.1 rfl (Nat.le_of_ble_eq_true rfl) dX5_setSize_28 ⟨Nat.le_of_ble_eq_true rfl, Nat.le_of_ble_eq_true rfl⟩ (fun w_12 H locs hv hP hD hS => ?_)
      obtain ⟨u_5, u_6, u_7, u_8, u_9, u_10, u_11⟩ := w_12
      have hP : va_P g.1 vwCl [(a_M, .inr (5, [.int 0, .int i_n, .ref a_M_a, .ref a_M_rowAt, .ref a_M_places, .ref a_M_rights, .ref a_M_weights, .int u_5, .ref a_M_pivots, .ref a_M_lower, .int u_6, .ref a_M_solution, .ref a_M_work, .ref a_M_isJoined, .int M_levels, .ref a_M_stored])), (a_M_rowAt, .inl (g.2.1, 16, .inl u_7)), (a_M_places, .inl (g.2.1, 16, .inl u_8)), (a_M_rights, .inl (g.2.1, 16, .inl u_9)), (a_M_weights, .inl (g.2.1, 16, .inl u_10)), (a_M_a, .inl (g.2.1, 256, .inl u_11))] H := hP.sub [0, 1, 2, 3, 4, 5] rfl
      have hD : va_D A [(a_M, .inr (5, [.int 0, .int i_n, .ref a_M_a, .ref a_M_rowAt, .ref a_M_places, .ref a_M_rights, .ref a_M_weights, .int u_5, .ref a_M_pivots, .ref a_M_lower, .int u_6, .ref a_M_solution, .ref a_M_work, .ref a_M_isJoined, .int M_levels, .ref a_M_stored])), (a_M_rowAt, .inl (g.2.1, 16, .inl u_7)), (a_M_places, .inl (g.2.1, 16, .inl u_8)), (a_M_rights, .inl (g.2.1, 16, .inl u_9)), (a_M_weights, .inl (g.2.1, 16, .inl u_10)), (a_M_a, .inl (g.2.1, 256, .inl u_11))] := hD.sub [0, 1, 2, 3, 4, 5] (by decide) rfl
      refine lv_aload_n hx hb dX5_setSize_31 rfl (lv_at hl 0 rfl) ?_
      refine va_get (D := g.1) (ci := 5) (v := .int i_n) (C := RX5) (T := TX5) (N := 16) hx hb hts cw_in_X5 hown hK.1 hP 0 rfl rfl 1 (by decide) (hts _ cw_f_X5_9) (fun _ h9 => h9) rfl dX5_setSize_32 ?_
      exact cx_iret hx hb hr hlocks hAe hS (0, i_n, u_5, u_6, u_7, u_8, u_9, u_10, u_11) hv hP hD dX5_setSize_35
    · replace hv := hv.2 hc
      refine lv_aload_n hx hb dX5_setSize_16 rfl (lv_at hl 0 rfl) ?_
      refine lv_iconst (v := 1) hx hb dX5_setSize_17 (by decide) ?_
      refine cx_iV (wr := [(a_M_rowAt, .inl (g.2.1, 16, .inl M_rowAt)), (a_M_places, .inl (g.2.1, 16, .inl M_places)), (a_M_rights, .inl (g.2.1, 16, .inl M_rights)), (a_M_weights, .inl (g.2.1, 16, .inl M_weights)), (a_M_a, .inl (g.2.1, 256, .inl M_a))]) (As := [.int 1]) (rest := []) ⟨hx, hb, hml, hown, hts⟩ (c_X5_no l g a_M a_M_a a_M_rowAt a_M_places a_M_rights a_M_weights a_M_pivots a_M_lower a_M_solution a_M_work a_M_isJoined a_M_stored 1 0 M_n M_hasFactors M_hasSolution M_levels hv) (cx_cwV 1 hts cw_m_X5_72 cw_i_X5_no cw_s_X5_no cw_n_X5 cw_c_X5_no rfl rfl (by decide +kernel) ⟨Nat.le_of_ble_eq_true rfl, Nat.le_of_ble_eq_true rfl⟩) hK hP hD hS hA 0 5 rfl rfl [0] [1, 2, 3, 4, 5] rfl rfl rfl rfl (by decide) rfl hl.1 rfl (Nat.le_of_ble_eq_true rfl) dX5_setSize_18 ⟨Nat.le_of_ble_eq_true rfl, Nat.le_of_ble_eq_true rfl⟩ (fun r_13 w_15 H locs hv hP hD hS => ?_)
      obtain ⟨u_14, rfl⟩ : ∃ z, z = w_15 := ⟨_, rfl⟩
      have hP : va_P g.1 vwCl [(a_M, .inr (5, [.int u_14, .int M_n, .ref a_M_a, .ref a_M_rowAt, .ref a_M_places, .ref a_M_rights, .ref a_M_weights, .int M_hasFactors, .ref a_M_pivots, .ref a_M_lower, .int M_hasSolution, .ref a_M_solution, .ref a_M_work, .ref a_M_isJoined, .int M_levels, .ref a_M_stored])), (a_M_rowAt, .inl (g.2.1, 16, .inl M_rowAt)), (a_M_places, .inl (g.2.1, 16, .inl M_places)), (a_M_rights, .inl (g.2.1, 16, .inl M_rights)), (a_M_weights, .inl (g.2.1, 16, .inl M_weights)), (a_M_a, .inl (g.2.1, 256, .inl M_a))] H := hP.sub [5, 0, 1, 2, 3, 4] rfl
      have hD : va_D A [(a_M, .inr (5, [.int u_14, .int M_n, .ref a_M_a, .ref a_M_rowAt, .ref a_M_places, .ref a_M_rights, .ref a_M_weights, .int M_hasFactors, .ref a_M_pivots, .ref a_M_lower, .int M_hasSolution, .ref a_M_solution, .ref a_M_work, .ref a_M_isJoined, .int M_levels, .ref a_M_stored])), (a_M_rowAt, .inl (g.2.1, 16, .inl M_rowAt)), (a_M_places, .inl (g.2.1, 16, .inl M_places)), (a_M_rights, .inl (g.2.1, 16, .inl M_rights)), (a_M_weights, .inl (g.2.1, 16, .inl M_weights)), (a_M_a, .inl (g.2.1, 256, .inl M_a))] := hD.sub [5, 0, 1, 2, 3, 4] (by decide) rfl
      exact cx_iret hx hb hr hlocks hAe hS (u_14, M_n, M_hasFactors, M_hasSolution, M_rowAt, M_places, M_rights, M_weights, M_a) hv hP hD dX5_setSize_21
def wp_X5_size (M_thrown : Int32) (M_n : Int32) (M_hasFactors : Int32) (M_hasSolution : Int32) (M_levels : Int32) (Q : Int32 → Int32 → Prop)   : Prop := Q M_n 0
abbrev w0_X5_size (g : cx_G) (a_M a_M_a a_M_rowAt a_M_places a_M_rights a_M_weights a_M_pivots a_M_lower a_M_solution a_M_work a_M_isJoined a_M_stored : Nat) (M_thrown : Int32) (M_n : Int32) (M_hasFactors : Int32) (M_hasSolution : Int32) (M_levels : Int32) : va_W := [(a_M, .inr (5, [.int M_thrown, .int M_n, .ref a_M_a, .ref a_M_rowAt, .ref a_M_places, .ref a_M_rights, .ref a_M_weights, .int M_hasFactors, .ref a_M_pivots, .ref a_M_lower, .int M_hasSolution, .ref a_M_solution, .ref a_M_work, .ref a_M_isJoined, .int M_levels, .ref a_M_stored]))]
abbrev w1_X5_size (g : cx_G) (a_M a_M_a a_M_rowAt a_M_places a_M_rights a_M_weights a_M_pivots a_M_lower a_M_solution a_M_work a_M_isJoined a_M_stored : Nat) (M_thrown : Int32) (M_n : Int32) (M_hasFactors : Int32) (M_hasSolution : Int32) (M_levels : Int32) (u : Int32) : va_W := [(a_M, .inr (5, [.int u, .int M_n, .ref a_M_a, .ref a_M_rowAt, .ref a_M_places, .ref a_M_rights, .ref a_M_weights, .int M_hasFactors, .ref a_M_pivots, .ref a_M_lower, .int M_hasSolution, .ref a_M_solution, .ref a_M_work, .ref a_M_isJoined, .int M_levels, .ref a_M_stored]))]
set_option maxHeartbeats 4000000 in
set_option maxRecDepth 100000 in
theorem c_X5_size (l : Launch) (g : cx_G) (a_M a_M_a a_M_rowAt a_M_places a_M_rights a_M_weights a_M_pivots a_M_lower a_M_solution a_M_work a_M_isJoined a_M_stored : Nat) (M_thrown : Int32) (M_n : Int32) (M_hasFactors : Int32) (M_hasSolution : Int32) (M_levels : Int32) {Q : Int32 → Int32 → Prop} (hv : wp_X5_size M_thrown M_n M_hasFactors M_hasSolution M_levels Q) : cx_Mi l g yX5_size (Cond.code yX5_size cX5_size 1 (some .int) :: cx_T) ({ frames := 0, cells := 0, slots := 0, locals := 0 } : Room) [.ref a_M] (w0_X5_size g a_M a_M_a a_M_rowAt a_M_places a_M_rights a_M_weights a_M_pivots a_M_lower a_M_solution a_M_work a_M_isJoined a_M_stored M_thrown M_n M_hasFactors M_hasSolution M_levels) (fun (r : Int32) (u : Int32) => Q r u) (w1_X5_size g a_M a_M_a a_M_rowAt a_M_places a_M_rights a_M_weights a_M_pivots a_M_lower a_M_solution a_M_work a_M_isJoined a_M_stored M_thrown M_n M_hasFactors M_hasSolution M_levels) 0 0 := by
  intro sz
  refine Met.ofW (cc := cX5_size) (maxL := 1) (ret := (some .int)) (by decide) rfl ?_
  intro p e s m args below meth c s₁ B hml hpre
  obtain ⟨rfl, hsz, hP, hK, hD0⟩ := hpre
  have hx := B.exec
  have hb := B.bytes
  have hr := B.returns
  have hts0 := atoms_spec (ws := (Cond.code yX5_size cX5_size 1 (some .int) :: cx_T)) B.pre
  have hts : ∀ w ∈ cx_T, w.before _ s = true := fun w h => hts0 w (List.mem_cons_of_mem _ h)
  have hown : s.vm.findClass RX5 = some m.cls := findClass_of_methodNamed B.named
  have hlocks := B.notSynchronized
  subst hsz
  have hD := hD0.self (sz := s.heap.size)
  obtain ⟨A, hAe⟩ : ∃ A : Nat → Prop, A = va_A (w0_X5_size g a_M a_M_a a_M_rowAt a_M_places a_M_rights a_M_weights a_M_pivots a_M_lower a_M_solution a_M_work a_M_isJoined a_M_stored M_thrown M_n M_hasFactors M_hasSolution M_levels) s.heap.size := ⟨_, rfl⟩
  rw [← hAe] at hD
  have hA : ∀ q : Nat, s.heap.size ≤ q → A q := fun q h => by rw [hAe]; exact Or.inr h
  have hS : va_S A s.heap s.heap [] := va_S.rf
  have hP : va_P g.1 vwCl [(a_M, .inr (5, [.int M_thrown, .int M_n, .ref a_M_a, .ref a_M_rowAt, .ref a_M_places, .ref a_M_rights, .ref a_M_weights, .int M_hasFactors, .ref a_M_pivots, .ref a_M_lower, .int M_hasSolution, .ref a_M_solution, .ref a_M_work, .ref a_M_isJoined, .int M_levels, .ref a_M_stored]))] s.heap := hP
  have hD : va_D A [(a_M, .inr (5, [.int M_thrown, .int M_n, .ref a_M_a, .ref a_M_rowAt, .ref a_M_places, .ref a_M_rights, .ref a_M_weights, .int M_hasFactors, .ref a_M_pivots, .ref a_M_lower, .int M_hasSolution, .ref a_M_solution, .ref a_M_work, .ref a_M_isJoined, .int M_levels, .ref a_M_stored]))] := hD
  have hl := lv_entry ([.ref a_M]) (n := 1) (Nat.le_of_ble_eq_true rfl)
  rw [lg_entry_eq]
  generalize (lg_sl ([.ref a_M]) ++ List.replicate (1 - (lg_sl ([.ref a_M])).length) Slot.unset).toArray = ls at hl ⊢
  have hl : lv_has ls 1 [(0, .ref a_M)] := hl
  unfold wp_X5_size at hv
  refine lv_aload_n hx hb dX5_size_0 rfl (lv_at hl 0 rfl) ?_
  refine lv_iconst (v := 0) hx hb dX5_size_1 (by decide) ?_
  refine va_put (D := g.1) (ci := 5) (v := .int 0) (ty := .int) (C := RX5) (T := TX5) (N := 16) hx hb hts cw_in_X5 tyX5 tyX5_ok nmX5 hown hK.1 hP hD hS 0 rfl rfl 0 (by decide) (hts _ cw_f_X5_51) (fun _ h9 => h9) rfl (by decide +kernel) rfl rfl (Nat.le_of_ble_eq_true rfl) dX5_size_2 (fun H locs hP hD hS => ?_)
  have hP : va_P g.1 vwCl [(a_M, .inr (5, [.int 0, .int M_n, .ref a_M_a, .ref a_M_rowAt, .ref a_M_places, .ref a_M_rights, .ref a_M_weights, .int M_hasFactors, .ref a_M_pivots, .ref a_M_lower, .int M_hasSolution, .ref a_M_solution, .ref a_M_work, .ref a_M_isJoined, .int M_levels, .ref a_M_stored]))] H := hP
  have hD : va_D A [(a_M, .inr (5, [.int 0, .int M_n, .ref a_M_a, .ref a_M_rowAt, .ref a_M_places, .ref a_M_rights, .ref a_M_weights, .int M_hasFactors, .ref a_M_pivots, .ref a_M_lower, .int M_hasSolution, .ref a_M_solution, .ref a_M_work, .ref a_M_isJoined, .int M_levels, .ref a_M_stored]))] := hD
  refine lv_aload_n hx hb dX5_size_5 rfl (lv_at hl 0 rfl) ?_
  refine va_get (D := g.1) (ci := 5) (v := .int M_n) (C := RX5) (T := TX5) (N := 16) hx hb hts cw_in_X5 hown hK.1 hP 0 rfl rfl 1 (by decide) (hts _ cw_f_X5_9) (fun _ h9 => h9) rfl dX5_size_6 ?_
  exact cx_iret hx hb hr hlocks hAe hS 0 hv hP hD dX5_size_9
def wp_X5_setEntry (i_i : Int32) (i_j : Int32) (i_v : Int32) (M_thrown : Int32) (M_n : Int32) (M_hasFactors : Int32) (M_hasSolution : Int32) (M_levels : Int32) (M_a : (Nat → Int32)) (Q : Int32 → Int32 → Int32 → (Nat → Int32) → Prop)   : Prop := wp_X5_isRow i_i 0 M_n M_hasFactors M_hasSolution M_levels (fun r_1 => (r_1 = 0 → (wp_X5_no 1 0 M_n M_hasFactors M_hasSolution M_levels (fun r_2 u_3 => Q r_2 u_3 M_hasFactors M_a))) ∧ (¬ r_1 = 0 → (wp_X5_isRow i_j 0 M_n M_hasFactors M_hasSolution M_levels (fun r_5 => (r_5 = 0 → (wp_X5_no 1 0 M_n M_hasFactors M_hasSolution M_levels (fun r_17 u_18 => Q r_17 u_18 M_hasFactors M_a))) ∧ (¬ r_5 = 0 → (((f_res i_v) = 0 → (wp_X5_no 2 0 M_n M_hasFactors M_hasSolution M_levels (fun r_14 u_15 => Q r_14 u_15 M_hasFactors M_a))) ∧ (¬ (f_res i_v) = 0 → (vp_in (f_at i_i i_j) 256 ∧ (∀ x4_9 : Int32, x4_9 = (M_a (Int32.toNatClampNeg (f_at i_i i_j))) → (vp_in (f_at i_i i_j) 256 ∧ (vp_in (f_at i_j i_i) 256 ∧ (Q x4_9 0 0 (upd (upd M_a (Int32.toNatClampNeg (f_at i_i i_j)) i_v) (Int32.toNatClampNeg (f_at i_j i_i)) i_v)))))))))))))
abbrev w0_X5_setEntry (g : cx_G) (a_M a_M_a a_M_rowAt a_M_places a_M_rights a_M_weights a_M_pivots a_M_lower a_M_solution a_M_work a_M_isJoined a_M_stored : Nat) (M_thrown : Int32) (M_n : Int32) (M_hasFactors : Int32) (M_hasSolution : Int32) (M_levels : Int32) (M_a : (Nat → Int32)) : va_W := [(a_M, .inr (5, [.int M_thrown, .int M_n, .ref a_M_a, .ref a_M_rowAt, .ref a_M_places, .ref a_M_rights, .ref a_M_weights, .int M_hasFactors, .ref a_M_pivots, .ref a_M_lower, .int M_hasSolution, .ref a_M_solution, .ref a_M_work, .ref a_M_isJoined, .int M_levels, .ref a_M_stored])), (a_M_a, .inl (g.2.1, 256, .inl M_a))]
abbrev w1_X5_setEntry (g : cx_G) (a_M a_M_a a_M_rowAt a_M_places a_M_rights a_M_weights a_M_pivots a_M_lower a_M_solution a_M_work a_M_isJoined a_M_stored : Nat) (M_thrown : Int32) (M_n : Int32) (M_hasFactors : Int32) (M_hasSolution : Int32) (M_levels : Int32) (M_a : (Nat → Int32)) (u : Int32 × Int32 × (Nat → Int32)) : va_W := [(a_M, .inr (5, [.int u.1, .int M_n, .ref a_M_a, .ref a_M_rowAt, .ref a_M_places, .ref a_M_rights, .ref a_M_weights, .int u.2.1, .ref a_M_pivots, .ref a_M_lower, .int M_hasSolution, .ref a_M_solution, .ref a_M_work, .ref a_M_isJoined, .int M_levels, .ref a_M_stored])), (a_M_a, .inl (g.2.1, 256, .inl u.2.2))]
set_option maxHeartbeats 4000000 in
set_option maxRecDepth 100000 in
theorem c_X5_setEntry (l : Launch) (g : cx_G) (a_M a_M_a a_M_rowAt a_M_places a_M_rights a_M_weights a_M_pivots a_M_lower a_M_solution a_M_work a_M_isJoined a_M_stored : Nat) (i_i : Int32) (i_j : Int32) (i_v : Int32) (M_thrown : Int32) (M_n : Int32) (M_hasFactors : Int32) (M_hasSolution : Int32) (M_levels : Int32) (M_a : (Nat → Int32)) {Q : Int32 → Int32 → Int32 → (Nat → Int32) → Prop} (hv : wp_X5_setEntry i_i i_j i_v M_thrown M_n M_hasFactors M_hasSolution M_levels M_a Q) : cx_Mi l g yX5_setEntry (Cond.code yX5_setEntry cX5_setEntry 5 (some .int) :: cx_T) ({ frames := 1, cells := 0, slots := 0, locals := 21 } : Room) [.ref a_M, .int i_i, .int i_j, .int i_v] (w0_X5_setEntry g a_M a_M_a a_M_rowAt a_M_places a_M_rights a_M_weights a_M_pivots a_M_lower a_M_solution a_M_work a_M_isJoined a_M_stored M_thrown M_n M_hasFactors M_hasSolution M_levels M_a) (fun (r : Int32) (u : Int32 × Int32 × (Nat → Int32)) => Q r u.1 u.2.1 u.2.2) (w1_X5_setEntry g a_M a_M_a a_M_rowAt a_M_places a_M_rights a_M_weights a_M_pivots a_M_lower a_M_solution a_M_work a_M_isJoined a_M_stored M_thrown M_n M_hasFactors M_hasSolution M_levels M_a) 0 0 := by
  intro sz
  refine Met.ofW (cc := cX5_setEntry) (maxL := 5) (ret := (some .int)) (by decide) rfl ?_
  intro p e s m args below meth c s₁ B hml hpre
  obtain ⟨rfl, hsz, hP, hK, hD0⟩ := hpre
  have hx := B.exec
  have hb := B.bytes
  have hr := B.returns
  have hts0 := atoms_spec (ws := (Cond.code yX5_setEntry cX5_setEntry 5 (some .int) :: cx_T)) B.pre
  have hts : ∀ w ∈ cx_T, w.before _ s = true := fun w h => hts0 w (List.mem_cons_of_mem _ h)
  have hown : s.vm.findClass RX5 = some m.cls := findClass_of_methodNamed B.named
  have hlocks := B.notSynchronized
  subst hsz
  have hD := hD0.self (sz := s.heap.size)
  obtain ⟨A, hAe⟩ : ∃ A : Nat → Prop, A = va_A (w0_X5_setEntry g a_M a_M_a a_M_rowAt a_M_places a_M_rights a_M_weights a_M_pivots a_M_lower a_M_solution a_M_work a_M_isJoined a_M_stored M_thrown M_n M_hasFactors M_hasSolution M_levels M_a) s.heap.size := ⟨_, rfl⟩
  rw [← hAe] at hD
  have hA : ∀ q : Nat, s.heap.size ≤ q → A q := fun q h => by rw [hAe]; exact Or.inr h
  have hS : va_S A s.heap s.heap [] := va_S.rf
  have hP : va_P g.1 vwCl [(a_M, .inr (5, [.int M_thrown, .int M_n, .ref a_M_a, .ref a_M_rowAt, .ref a_M_places, .ref a_M_rights, .ref a_M_weights, .int M_hasFactors, .ref a_M_pivots, .ref a_M_lower, .int M_hasSolution, .ref a_M_solution, .ref a_M_work, .ref a_M_isJoined, .int M_levels, .ref a_M_stored])), (a_M_a, .inl (g.2.1, 256, .inl M_a))] s.heap := hP
  have hD : va_D A [(a_M, .inr (5, [.int M_thrown, .int M_n, .ref a_M_a, .ref a_M_rowAt, .ref a_M_places, .ref a_M_rights, .ref a_M_weights, .int M_hasFactors, .ref a_M_pivots, .ref a_M_lower, .int M_hasSolution, .ref a_M_solution, .ref a_M_work, .ref a_M_isJoined, .int M_levels, .ref a_M_stored])), (a_M_a, .inl (g.2.1, 256, .inl M_a))] := hD
  have hl := lv_entry ([.ref a_M, .int i_i, .int i_j, .int i_v]) (n := 5) (Nat.le_of_ble_eq_true rfl)
  rw [lg_entry_eq]
  generalize (lg_sl ([.ref a_M, .int i_i, .int i_j, .int i_v]) ++ List.replicate (5 - (lg_sl ([.ref a_M, .int i_i, .int i_j, .int i_v])).length) Slot.unset).toArray = ls at hl ⊢
  have hl : lv_has ls 5 [(0, .ref a_M), (1, .int i_i), (2, .int i_j), (3, .int i_v)] := hl
  unfold wp_X5_setEntry at hv
  refine lv_aload_n hx hb dX5_setEntry_0 rfl (lv_at hl 0 rfl) ?_
  refine lv_iconst (v := 0) hx hb dX5_setEntry_1 (by decide) ?_
  refine va_put (D := g.1) (ci := 5) (v := .int 0) (ty := .int) (C := RX5) (T := TX5) (N := 16) hx hb hts cw_in_X5 tyX5 tyX5_ok nmX5 hown hK.1 hP hD hS 0 rfl rfl 0 (by decide) (hts _ cw_f_X5_51) (fun _ h9 => h9) rfl (by decide +kernel) rfl rfl (Nat.le_of_ble_eq_true rfl) dX5_setEntry_2 (fun H locs hP hD hS => ?_)
  have hP : va_P g.1 vwCl [(a_M, .inr (5, [.int 0, .int M_n, .ref a_M_a, .ref a_M_rowAt, .ref a_M_places, .ref a_M_rights, .ref a_M_weights, .int M_hasFactors, .ref a_M_pivots, .ref a_M_lower, .int M_hasSolution, .ref a_M_solution, .ref a_M_work, .ref a_M_isJoined, .int M_levels, .ref a_M_stored])), (a_M_a, .inl (g.2.1, 256, .inl M_a))] H := hP
  have hD : va_D A [(a_M, .inr (5, [.int 0, .int M_n, .ref a_M_a, .ref a_M_rowAt, .ref a_M_places, .ref a_M_rights, .ref a_M_weights, .int M_hasFactors, .ref a_M_pivots, .ref a_M_lower, .int M_hasSolution, .ref a_M_solution, .ref a_M_work, .ref a_M_isJoined, .int M_levels, .ref a_M_stored])), (a_M_a, .inl (g.2.1, 256, .inl M_a))] := hD
  refine lv_aload_n hx hb dX5_setEntry_5 rfl (lv_at hl 0 rfl) ?_
  refine lv_iload_n hx hb dX5_setEntry_6 rfl (lv_at hl 1 rfl) ?_
  refine cx_iVr (As := [.int i_i]) (rest := []) ⟨hx, hb, hml, hown, hts⟩ (c_X5_isRow l g a_M a_M_a a_M_rowAt a_M_places a_M_rights a_M_weights a_M_pivots a_M_lower a_M_solution a_M_work a_M_isJoined a_M_stored i_i 0 M_n M_hasFactors M_hasSolution M_levels hv) (cx_cwV 1 hts cw_m_X5_76 cw_i_X5_isRow cw_s_X5_isRow cw_n_X5 cw_c_X5_isRow rfl rfl (by decide +kernel) ⟨Nat.le_of_ble_eq_true rfl, Nat.le_of_ble_eq_true rfl⟩) hK hP hD hS hA 0 5 rfl rfl [0] rfl rfl rfl hl.1 rfl (Nat.le_of_ble_eq_true rfl) dX5_setEntry_7 ⟨Nat.le_of_ble_eq_true rfl, Nat.le_of_ble_eq_true rfl⟩ (fun r_1 H locs hv hP hS => ?_)
  refine lv_if_eq (tgt := 21) hx hb dX5_setEntry_10 (by decide) (fun hc => ?_) (fun hc => ?_)
  · replace hv := hv.1 hc
    refine lv_aload_n hx hb dX5_setEntry_21 rfl (lv_at hl 0 rfl) ?_
    refine lv_iconst (v := 1) hx hb dX5_setEntry_22 (by decide) ?_
    refine cx_iV (wr := [(a_M_a, .inl (g.2.1, 256, .inl M_a))]) (As := [.int 1]) (rest := []) ⟨hx, hb, hml, hown, hts⟩ (c_X5_no l g a_M a_M_a a_M_rowAt a_M_places a_M_rights a_M_weights a_M_pivots a_M_lower a_M_solution a_M_work a_M_isJoined a_M_stored 1 0 M_n M_hasFactors M_hasSolution M_levels hv) (cx_cwV 1 hts cw_m_X5_72 cw_i_X5_no cw_s_X5_no cw_n_X5 cw_c_X5_no rfl rfl (by decide +kernel) ⟨Nat.le_of_ble_eq_true rfl, Nat.le_of_ble_eq_true rfl⟩) hK hP hD hS hA 0 5 rfl rfl [0] [1] rfl rfl rfl rfl (by decide) rfl hl.1 rfl (Nat.le_of_ble_eq_true rfl) dX5_setEntry_23 ⟨Nat.le_of_ble_eq_true rfl, Nat.le_of_ble_eq_true rfl⟩ (fun r_2 w_4 H locs hv hP hD hS => ?_)
    obtain ⟨u_3, rfl⟩ : ∃ z, z = w_4 := ⟨_, rfl⟩
    have hP : va_P g.1 vwCl [(a_M, .inr (5, [.int u_3, .int M_n, .ref a_M_a, .ref a_M_rowAt, .ref a_M_places, .ref a_M_rights, .ref a_M_weights, .int M_hasFactors, .ref a_M_pivots, .ref a_M_lower, .int M_hasSolution, .ref a_M_solution, .ref a_M_work, .ref a_M_isJoined, .int M_levels, .ref a_M_stored])), (a_M_a, .inl (g.2.1, 256, .inl M_a))] H := hP.sub [1, 0] rfl
    have hD : va_D A [(a_M, .inr (5, [.int u_3, .int M_n, .ref a_M_a, .ref a_M_rowAt, .ref a_M_places, .ref a_M_rights, .ref a_M_weights, .int M_hasFactors, .ref a_M_pivots, .ref a_M_lower, .int M_hasSolution, .ref a_M_solution, .ref a_M_work, .ref a_M_isJoined, .int M_levels, .ref a_M_stored])), (a_M_a, .inl (g.2.1, 256, .inl M_a))] := hD.sub [1, 0] (by decide) rfl
    exact cx_iret hx hb hr hlocks hAe hS (u_3, M_hasFactors, M_a) hv hP hD dX5_setEntry_26
  · replace hv := hv.2 hc
    refine lv_aload_n hx hb dX5_setEntry_13 rfl (lv_at hl 0 rfl) ?_
    refine lv_iload_n hx hb dX5_setEntry_14 rfl (lv_at hl 2 rfl) ?_
    refine cx_iVr (As := [.int i_j]) (rest := []) ⟨hx, hb, hml, hown, hts⟩ (c_X5_isRow l g a_M a_M_a a_M_rowAt a_M_places a_M_rights a_M_weights a_M_pivots a_M_lower a_M_solution a_M_work a_M_isJoined a_M_stored i_j 0 M_n M_hasFactors M_hasSolution M_levels hv) (cx_cwV 1 hts cw_m_X5_76 cw_i_X5_isRow cw_s_X5_isRow cw_n_X5 cw_c_X5_isRow rfl rfl (by decide +kernel) ⟨Nat.le_of_ble_eq_true rfl, Nat.le_of_ble_eq_true rfl⟩) hK hP hD hS hA 0 5 rfl rfl [0] rfl rfl rfl hl.1 rfl (Nat.le_of_ble_eq_true rfl) dX5_setEntry_15 ⟨Nat.le_of_ble_eq_true rfl, Nat.le_of_ble_eq_true rfl⟩ (fun r_5 H locs hv hP hS => ?_)
    refine lv_if_ne (tgt := 27) hx hb dX5_setEntry_18 (by decide) (fun hc => ?_) (fun hc => ?_)
    · replace hv := hv.2 hc
      refine lv_iload_n hx hb dX5_setEntry_27 rfl (lv_at hl 3 rfl) ?_
      refine cx_iSr (As := [.int i_v]) (rest := []) ⟨hx, hb, hml, hown, hts⟩ (cp_X5_isResidue l g i_v) (cx_cwS 1 hts cw_m_X5_80 cw_t_X5_isResidue cw_n_X5 cw_c_X5_isResidue rfl rfl (by decide +kernel) ⟨Nat.le_of_ble_eq_true rfl, Nat.le_of_ble_eq_true rfl⟩) hK hP hD hS hA [] rfl rfl rfl hl.1 rfl (Nat.le_of_ble_eq_true rfl) dX5_setEntry_28 ⟨Nat.le_of_ble_eq_true rfl, Nat.le_of_ble_eq_true rfl⟩ (fun r_6 H locs hr9 hP hS => ?_)
      replace hr9 : r_6 = (f_res i_v) := hr9
      subst hr9
      refine lv_if_ne (tgt := 40) hx hb dX5_setEntry_31 (by decide) (fun hc => ?_) (fun hc => ?_)
      · replace hv := hv.2 hc
        refine lv_aload_n hx hb dX5_setEntry_40 rfl (lv_at hl 0 rfl) ?_
        refine va_get (D := g.1) (ci := 5) (v := .ref a_M_a) (C := RX5) (T := TX5) (N := 16) hx hb hts cw_in_X5 hown hK.1 hP 0 rfl rfl 2 (by decide) (hts _ cw_f_X5_13) (fun _ h9 => h9) rfl dX5_setEntry_41 ?_
        refine lv_iload_n hx hb dX5_setEntry_44 rfl (lv_at hl 1 rfl) ?_
        refine lv_iload_n hx hb dX5_setEntry_45 rfl (lv_at hl 2 rfl) ?_
        refine cx_iSr (As := [.int i_i, .int i_j]) (rest := [.ref a_M_a]) ⟨hx, hb, hml, hown, hts⟩ (cp_X5_at l g i_i i_j) (cx_cwS 2 hts cw_m_X5_62 cw_t_X5_at cw_n_X5 cw_c_X5_at rfl rfl (by decide +kernel) ⟨Nat.le_of_ble_eq_true rfl, Nat.le_of_ble_eq_true rfl⟩) hK hP hD hS hA [] rfl rfl rfl hl.1 rfl (Nat.le_of_ble_eq_true rfl) dX5_setEntry_46 ⟨Nat.le_of_ble_eq_true rfl, Nat.le_of_ble_eq_true rfl⟩ (fun r_7 H locs hr9 hP hS => ?_)
        replace hr9 : r_7 = (f_at i_i i_j) := hr9
        subst hr9
        obtain ⟨h_8, hv⟩ := hv
        refine va_iald (D := g.1) hx hb hK.1 hP 1 0 rfl rfl h_8 dX5_setEntry_49 ?_
        refine lv_topi (fun x4_9 ex4_9 => ?_)
        replace hv := hv x4_9 ex4_9
        refine lv_istore (lv' := [(4, .int x4_9), (0, .ref a_M), (1, .int i_i), (2, .int i_j), (3, .int i_v)]) hx hb dX5_setEntry_50 hl (by decide) rfl (fun ls hl => ?_)
        refine lv_aload_n hx hb dX5_setEntry_52 rfl (lv_at hl 1 rfl) ?_
        refine va_get (D := g.1) (ci := 5) (v := .ref a_M_a) (C := RX5) (T := TX5) (N := 16) hx hb hts cw_in_X5 hown hK.1 hP 0 rfl rfl 2 (by decide) (hts _ cw_f_X5_13) (fun _ h9 => h9) rfl dX5_setEntry_53 ?_
        refine lv_iload_n hx hb dX5_setEntry_56 rfl (lv_at hl 2 rfl) ?_
        refine lv_iload_n hx hb dX5_setEntry_57 rfl (lv_at hl 3 rfl) ?_
        refine cx_iSr (As := [.int i_i, .int i_j]) (rest := [.ref a_M_a]) ⟨hx, hb, hml, hown, hts⟩ (cp_X5_at l g i_i i_j) (cx_cwS 2 hts cw_m_X5_62 cw_t_X5_at cw_n_X5 cw_c_X5_at rfl rfl (by decide +kernel) ⟨Nat.le_of_ble_eq_true rfl, Nat.le_of_ble_eq_true rfl⟩) hK hP hD hS hA [] rfl rfl rfl hl.1 rfl (Nat.le_of_ble_eq_true rfl) dX5_setEntry_58 ⟨Nat.le_of_ble_eq_true rfl, Nat.le_of_ble_eq_true rfl⟩ (fun r_10 H locs hr9 hP hS => ?_)
        replace hr9 : r_10 = (f_at i_i i_j) := hr9
        subst hr9
        refine lv_iload_n hx hb dX5_setEntry_61 rfl (lv_at hl 4 rfl) ?_
        obtain ⟨h_11, hv⟩ := hv
        refine va_iast (D := g.1) hx hb hK.1 hP hD hS 1 0 rfl rfl h_11 dX5_setEntry_62 (fun H locs hP hD hS => ?_)
        have hP : va_P g.1 vwCl [(a_M, .inr (5, [.int 0, .int M_n, .ref a_M_a, .ref a_M_rowAt, .ref a_M_places, .ref a_M_rights, .ref a_M_weights, .int M_hasFactors, .ref a_M_pivots, .ref a_M_lower, .int M_hasSolution, .ref a_M_solution, .ref a_M_work, .ref a_M_isJoined, .int M_levels, .ref a_M_stored])), (a_M_a, .inl (g.2.1, 256, .inl (upd M_a (Int32.toNatClampNeg (f_at i_i i_j)) i_v)))] H := hP
        have hD : va_D A [(a_M, .inr (5, [.int 0, .int M_n, .ref a_M_a, .ref a_M_rowAt, .ref a_M_places, .ref a_M_rights, .ref a_M_weights, .int M_hasFactors, .ref a_M_pivots, .ref a_M_lower, .int M_hasSolution, .ref a_M_solution, .ref a_M_work, .ref a_M_isJoined, .int M_levels, .ref a_M_stored])), (a_M_a, .inl (g.2.1, 256, .inl (upd M_a (Int32.toNatClampNeg (f_at i_i i_j)) i_v)))] := hD
        refine lv_aload_n hx hb dX5_setEntry_63 rfl (lv_at hl 1 rfl) ?_
        refine va_get (D := g.1) (ci := 5) (v := .ref a_M_a) (C := RX5) (T := TX5) (N := 16) hx hb hts cw_in_X5 hown hK.1 hP 0 rfl rfl 2 (by decide) (hts _ cw_f_X5_13) (fun _ h9 => h9) rfl dX5_setEntry_64 ?_
        refine lv_iload_n hx hb dX5_setEntry_67 rfl (lv_at hl 3 rfl) ?_
        refine lv_iload_n hx hb dX5_setEntry_68 rfl (lv_at hl 2 rfl) ?_
        refine cx_iSr (As := [.int i_j, .int i_i]) (rest := [.ref a_M_a]) ⟨hx, hb, hml, hown, hts⟩ (cp_X5_at l g i_j i_i) (cx_cwS 2 hts cw_m_X5_62 cw_t_X5_at cw_n_X5 cw_c_X5_at rfl rfl (by decide +kernel) ⟨Nat.le_of_ble_eq_true rfl, Nat.le_of_ble_eq_true rfl⟩) hK hP hD hS hA [] rfl rfl rfl hl.1 rfl (Nat.le_of_ble_eq_true rfl) dX5_setEntry_69 ⟨Nat.le_of_ble_eq_true rfl, Nat.le_of_ble_eq_true rfl⟩ (fun r_12 H locs hr9 hP hS => ?_)
        replace hr9 : r_12 = (f_at i_j i_i) := hr9
        subst hr9
        refine lv_iload_n hx hb dX5_setEntry_72 rfl (lv_at hl 4 rfl) ?_
        obtain ⟨h_13, hv⟩ := hv
        refine va_iast (D := g.1) hx hb hK.1 hP hD hS 1 0 rfl rfl h_13 dX5_setEntry_73 (fun H locs hP hD hS => ?_)
        have hP : va_P g.1 vwCl [(a_M, .inr (5, [.int 0, .int M_n, .ref a_M_a, .ref a_M_rowAt, .ref a_M_places, .ref a_M_rights, .ref a_M_weights, .int M_hasFactors, .ref a_M_pivots, .ref a_M_lower, .int M_hasSolution, .ref a_M_solution, .ref a_M_work, .ref a_M_isJoined, .int M_levels, .ref a_M_stored])), (a_M_a, .inl (g.2.1, 256, .inl (upd (upd M_a (Int32.toNatClampNeg (f_at i_i i_j)) i_v) (Int32.toNatClampNeg (f_at i_j i_i)) i_v)))] H := hP
        have hD : va_D A [(a_M, .inr (5, [.int 0, .int M_n, .ref a_M_a, .ref a_M_rowAt, .ref a_M_places, .ref a_M_rights, .ref a_M_weights, .int M_hasFactors, .ref a_M_pivots, .ref a_M_lower, .int M_hasSolution, .ref a_M_solution, .ref a_M_work, .ref a_M_isJoined, .int M_levels, .ref a_M_stored])), (a_M_a, .inl (g.2.1, 256, .inl (upd (upd M_a (Int32.toNatClampNeg (f_at i_i i_j)) i_v) (Int32.toNatClampNeg (f_at i_j i_i)) i_v)))] := hD
        refine lv_aload_n hx hb dX5_setEntry_74 rfl (lv_at hl 1 rfl) ?_
        refine lv_iconst (v := 0) hx hb dX5_setEntry_75 (by decide) ?_
        refine va_put (D := g.1) (ci := 5) (v := .int 0) (ty := .boolean) (C := RX5) (T := TX5) (N := 16) hx hb hts cw_in_X5 tyX5 tyX5_ok nmX5 hown hK.1 hP hD hS 0 rfl rfl 7 (by decide) (hts _ cw_f_X5_65) (fun _ h9 => h9) rfl (by decide +kernel) rfl rfl (Nat.le_of_ble_eq_true rfl) dX5_setEntry_76 (fun H locs hP hD hS => ?_)
        have hP : va_P g.1 vwCl [(a_M, .inr (5, [.int 0, .int M_n, .ref a_M_a, .ref a_M_rowAt, .ref a_M_places, .ref a_M_rights, .ref a_M_weights, .int 0, .ref a_M_pivots, .ref a_M_lower, .int M_hasSolution, .ref a_M_solution, .ref a_M_work, .ref a_M_isJoined, .int M_levels, .ref a_M_stored])), (a_M_a, .inl (g.2.1, 256, .inl (upd (upd M_a (Int32.toNatClampNeg (f_at i_i i_j)) i_v) (Int32.toNatClampNeg (f_at i_j i_i)) i_v)))] H := hP
        have hD : va_D A [(a_M, .inr (5, [.int 0, .int M_n, .ref a_M_a, .ref a_M_rowAt, .ref a_M_places, .ref a_M_rights, .ref a_M_weights, .int 0, .ref a_M_pivots, .ref a_M_lower, .int M_hasSolution, .ref a_M_solution, .ref a_M_work, .ref a_M_isJoined, .int M_levels, .ref a_M_stored])), (a_M_a, .inl (g.2.1, 256, .inl (upd (upd M_a (Int32.toNatClampNeg (f_at i_i i_j)) i_v) (Int32.toNatClampNeg (f_at i_j i_i)) i_v)))] := hD
        refine lv_iload hx hb dX5_setEntry_79 (lv_at hl 0 rfl) ?_
        exact cx_iret hx hb hr hlocks hAe hS (0, 0, (upd (upd M_a (Int32.toNatClampNeg (f_at i_i i_j)) i_v) (Int32.toNatClampNeg (f_at i_j i_i)) i_v)) hv hP hD dX5_setEntry_81
      · replace hv := hv.1 hc
        refine lv_aload_n hx hb dX5_setEntry_34 rfl (lv_at hl 0 rfl) ?_
        refine lv_iconst (v := 2) hx hb dX5_setEntry_35 (by decide) ?_
        refine cx_iV (wr := [(a_M_a, .inl (g.2.1, 256, .inl M_a))]) (As := [.int 2]) (rest := []) ⟨hx, hb, hml, hown, hts⟩ (c_X5_no l g a_M a_M_a a_M_rowAt a_M_places a_M_rights a_M_weights a_M_pivots a_M_lower a_M_solution a_M_work a_M_isJoined a_M_stored 2 0 M_n M_hasFactors M_hasSolution M_levels hv) (cx_cwV 1 hts cw_m_X5_72 cw_i_X5_no cw_s_X5_no cw_n_X5 cw_c_X5_no rfl rfl (by decide +kernel) ⟨Nat.le_of_ble_eq_true rfl, Nat.le_of_ble_eq_true rfl⟩) hK hP hD hS hA 0 5 rfl rfl [0] [1] rfl rfl rfl rfl (by decide) rfl hl.1 rfl (Nat.le_of_ble_eq_true rfl) dX5_setEntry_36 ⟨Nat.le_of_ble_eq_true rfl, Nat.le_of_ble_eq_true rfl⟩ (fun r_14 w_16 H locs hv hP hD hS => ?_)
        obtain ⟨u_15, rfl⟩ : ∃ z, z = w_16 := ⟨_, rfl⟩
        have hP : va_P g.1 vwCl [(a_M, .inr (5, [.int u_15, .int M_n, .ref a_M_a, .ref a_M_rowAt, .ref a_M_places, .ref a_M_rights, .ref a_M_weights, .int M_hasFactors, .ref a_M_pivots, .ref a_M_lower, .int M_hasSolution, .ref a_M_solution, .ref a_M_work, .ref a_M_isJoined, .int M_levels, .ref a_M_stored])), (a_M_a, .inl (g.2.1, 256, .inl M_a))] H := hP.sub [1, 0] rfl
        have hD : va_D A [(a_M, .inr (5, [.int u_15, .int M_n, .ref a_M_a, .ref a_M_rowAt, .ref a_M_places, .ref a_M_rights, .ref a_M_weights, .int M_hasFactors, .ref a_M_pivots, .ref a_M_lower, .int M_hasSolution, .ref a_M_solution, .ref a_M_work, .ref a_M_isJoined, .int M_levels, .ref a_M_stored])), (a_M_a, .inl (g.2.1, 256, .inl M_a))] := hD.sub [1, 0] (by decide) rfl
        exact cx_iret hx hb hr hlocks hAe hS (u_15, M_hasFactors, M_a) hv hP hD dX5_setEntry_39
    · replace hv := hv.1 hc
      refine lv_aload_n hx hb dX5_setEntry_21 rfl (lv_at hl 0 rfl) ?_
      refine lv_iconst (v := 1) hx hb dX5_setEntry_22 (by decide) ?_
      refine cx_iV (wr := [(a_M_a, .inl (g.2.1, 256, .inl M_a))]) (As := [.int 1]) (rest := []) ⟨hx, hb, hml, hown, hts⟩ (c_X5_no l g a_M a_M_a a_M_rowAt a_M_places a_M_rights a_M_weights a_M_pivots a_M_lower a_M_solution a_M_work a_M_isJoined a_M_stored 1 0 M_n M_hasFactors M_hasSolution M_levels hv) (cx_cwV 1 hts cw_m_X5_72 cw_i_X5_no cw_s_X5_no cw_n_X5 cw_c_X5_no rfl rfl (by decide +kernel) ⟨Nat.le_of_ble_eq_true rfl, Nat.le_of_ble_eq_true rfl⟩) hK hP hD hS hA 0 5 rfl rfl [0] [1] rfl rfl rfl rfl (by decide) rfl hl.1 rfl (Nat.le_of_ble_eq_true rfl) dX5_setEntry_23 ⟨Nat.le_of_ble_eq_true rfl, Nat.le_of_ble_eq_true rfl⟩ (fun r_17 w_19 H locs hv hP hD hS => ?_)
      obtain ⟨u_18, rfl⟩ : ∃ z, z = w_19 := ⟨_, rfl⟩
      have hP : va_P g.1 vwCl [(a_M, .inr (5, [.int u_18, .int M_n, .ref a_M_a, .ref a_M_rowAt, .ref a_M_places, .ref a_M_rights, .ref a_M_weights, .int M_hasFactors, .ref a_M_pivots, .ref a_M_lower, .int M_hasSolution, .ref a_M_solution, .ref a_M_work, .ref a_M_isJoined, .int M_levels, .ref a_M_stored])), (a_M_a, .inl (g.2.1, 256, .inl M_a))] H := hP.sub [1, 0] rfl
      have hD : va_D A [(a_M, .inr (5, [.int u_18, .int M_n, .ref a_M_a, .ref a_M_rowAt, .ref a_M_places, .ref a_M_rights, .ref a_M_weights, .int M_hasFactors, .ref a_M_pivots, .ref a_M_lower, .int M_hasSolution, .ref a_M_solution, .ref a_M_work, .ref a_M_isJoined, .int M_levels, .ref a_M_stored])), (a_M_a, .inl (g.2.1, 256, .inl M_a))] := hD.sub [1, 0] (by decide) rfl
      exact cx_iret hx hb hr hlocks hAe hS (u_18, M_hasFactors, M_a) hv hP hD dX5_setEntry_26
def wp_X5_entry (i_i : Int32) (i_j : Int32) (M_thrown : Int32) (M_n : Int32) (M_hasFactors : Int32) (M_hasSolution : Int32) (M_levels : Int32) (M_a : (Nat → Int32)) (Q : Int32 → Int32 → Prop)   : Prop := wp_X5_isRow i_i 0 M_n M_hasFactors M_hasSolution M_levels (fun r_1 => (r_1 = 0 → (wp_X5_no 1 0 M_n M_hasFactors M_hasSolution M_levels (fun r_2 u_3 => Q r_2 u_3))) ∧ (¬ r_1 = 0 → (wp_X5_isRow i_j 0 M_n M_hasFactors M_hasSolution M_levels (fun r_5 => (r_5 = 0 → (wp_X5_no 1 0 M_n M_hasFactors M_hasSolution M_levels (fun r_6 u_7 => Q r_6 u_7))) ∧ (¬ r_5 = 0 → (vp_in (f_at i_i i_j) 256 ∧ (Q (M_a (Int32.toNatClampNeg (f_at i_i i_j))) 0)))))))
abbrev w0_X5_entry (g : cx_G) (a_M a_M_a a_M_rowAt a_M_places a_M_rights a_M_weights a_M_pivots a_M_lower a_M_solution a_M_work a_M_isJoined a_M_stored : Nat) (M_thrown : Int32) (M_n : Int32) (M_hasFactors : Int32) (M_hasSolution : Int32) (M_levels : Int32) (M_a : (Nat → Int32)) : va_W := [(a_M, .inr (5, [.int M_thrown, .int M_n, .ref a_M_a, .ref a_M_rowAt, .ref a_M_places, .ref a_M_rights, .ref a_M_weights, .int M_hasFactors, .ref a_M_pivots, .ref a_M_lower, .int M_hasSolution, .ref a_M_solution, .ref a_M_work, .ref a_M_isJoined, .int M_levels, .ref a_M_stored])), (a_M_a, .inl (g.2.1, 256, .inl M_a))]
abbrev w1_X5_entry (g : cx_G) (a_M a_M_a a_M_rowAt a_M_places a_M_rights a_M_weights a_M_pivots a_M_lower a_M_solution a_M_work a_M_isJoined a_M_stored : Nat) (M_thrown : Int32) (M_n : Int32) (M_hasFactors : Int32) (M_hasSolution : Int32) (M_levels : Int32) (M_a : (Nat → Int32)) (u : Int32) : va_W := [(a_M, .inr (5, [.int u, .int M_n, .ref a_M_a, .ref a_M_rowAt, .ref a_M_places, .ref a_M_rights, .ref a_M_weights, .int M_hasFactors, .ref a_M_pivots, .ref a_M_lower, .int M_hasSolution, .ref a_M_solution, .ref a_M_work, .ref a_M_isJoined, .int M_levels, .ref a_M_stored])), (a_M_a, .inl (g.2.1, 256, .inl M_a))]
set_option maxHeartbeats 4000000 in
set_option maxRecDepth 100000 in
theorem c_X5_entry (l : Launch) (g : cx_G) (a_M a_M_a a_M_rowAt a_M_places a_M_rights a_M_weights a_M_pivots a_M_lower a_M_solution a_M_work a_M_isJoined a_M_stored : Nat) (i_i : Int32) (i_j : Int32) (M_thrown : Int32) (M_n : Int32) (M_hasFactors : Int32) (M_hasSolution : Int32) (M_levels : Int32) (M_a : (Nat → Int32)) {Q : Int32 → Int32 → Prop} (hv : wp_X5_entry i_i i_j M_thrown M_n M_hasFactors M_hasSolution M_levels M_a Q) : cx_Mi l g yX5_entry (Cond.code yX5_entry cX5_entry 3 (some .int) :: cx_T) ({ frames := 1, cells := 0, slots := 0, locals := 21 } : Room) [.ref a_M, .int i_i, .int i_j] (w0_X5_entry g a_M a_M_a a_M_rowAt a_M_places a_M_rights a_M_weights a_M_pivots a_M_lower a_M_solution a_M_work a_M_isJoined a_M_stored M_thrown M_n M_hasFactors M_hasSolution M_levels M_a) (fun (r : Int32) (u : Int32) => Q r u) (w1_X5_entry g a_M a_M_a a_M_rowAt a_M_places a_M_rights a_M_weights a_M_pivots a_M_lower a_M_solution a_M_work a_M_isJoined a_M_stored M_thrown M_n M_hasFactors M_hasSolution M_levels M_a) 0 0 := by
  intro sz
  refine Met.ofW (cc := cX5_entry) (maxL := 3) (ret := (some .int)) (by decide) rfl ?_
  intro p e s m args below meth c s₁ B hml hpre
  obtain ⟨rfl, hsz, hP, hK, hD0⟩ := hpre
  have hx := B.exec
  have hb := B.bytes
  have hr := B.returns
  have hts0 := atoms_spec (ws := (Cond.code yX5_entry cX5_entry 3 (some .int) :: cx_T)) B.pre
  have hts : ∀ w ∈ cx_T, w.before _ s = true := fun w h => hts0 w (List.mem_cons_of_mem _ h)
  have hown : s.vm.findClass RX5 = some m.cls := findClass_of_methodNamed B.named
  have hlocks := B.notSynchronized
  subst hsz
  have hD := hD0.self (sz := s.heap.size)
  obtain ⟨A, hAe⟩ : ∃ A : Nat → Prop, A = va_A (w0_X5_entry g a_M a_M_a a_M_rowAt a_M_places a_M_rights a_M_weights a_M_pivots a_M_lower a_M_solution a_M_work a_M_isJoined a_M_stored M_thrown M_n M_hasFactors M_hasSolution M_levels M_a) s.heap.size := ⟨_, rfl⟩
  rw [← hAe] at hD
  have hA : ∀ q : Nat, s.heap.size ≤ q → A q := fun q h => by rw [hAe]; exact Or.inr h
  have hS : va_S A s.heap s.heap [] := va_S.rf
  have hP : va_P g.1 vwCl [(a_M, .inr (5, [.int M_thrown, .int M_n, .ref a_M_a, .ref a_M_rowAt, .ref a_M_places, .ref a_M_rights, .ref a_M_weights, .int M_hasFactors, .ref a_M_pivots, .ref a_M_lower, .int M_hasSolution, .ref a_M_solution, .ref a_M_work, .ref a_M_isJoined, .int M_levels, .ref a_M_stored])), (a_M_a, .inl (g.2.1, 256, .inl M_a))] s.heap := hP
  have hD : va_D A [(a_M, .inr (5, [.int M_thrown, .int M_n, .ref a_M_a, .ref a_M_rowAt, .ref a_M_places, .ref a_M_rights, .ref a_M_weights, .int M_hasFactors, .ref a_M_pivots, .ref a_M_lower, .int M_hasSolution, .ref a_M_solution, .ref a_M_work, .ref a_M_isJoined, .int M_levels, .ref a_M_stored])), (a_M_a, .inl (g.2.1, 256, .inl M_a))] := hD
  have hl := lv_entry ([.ref a_M, .int i_i, .int i_j]) (n := 3) (Nat.le_of_ble_eq_true rfl)
  rw [lg_entry_eq]
  generalize (lg_sl ([.ref a_M, .int i_i, .int i_j]) ++ List.replicate (3 - (lg_sl ([.ref a_M, .int i_i, .int i_j])).length) Slot.unset).toArray = ls at hl ⊢
  have hl : lv_has ls 3 [(0, .ref a_M), (1, .int i_i), (2, .int i_j)] := hl
  unfold wp_X5_entry at hv
  refine lv_aload_n hx hb dX5_entry_0 rfl (lv_at hl 0 rfl) ?_
  refine lv_iconst (v := 0) hx hb dX5_entry_1 (by decide) ?_
  refine va_put (D := g.1) (ci := 5) (v := .int 0) (ty := .int) (C := RX5) (T := TX5) (N := 16) hx hb hts cw_in_X5 tyX5 tyX5_ok nmX5 hown hK.1 hP hD hS 0 rfl rfl 0 (by decide) (hts _ cw_f_X5_51) (fun _ h9 => h9) rfl (by decide +kernel) rfl rfl (Nat.le_of_ble_eq_true rfl) dX5_entry_2 (fun H locs hP hD hS => ?_)
  have hP : va_P g.1 vwCl [(a_M, .inr (5, [.int 0, .int M_n, .ref a_M_a, .ref a_M_rowAt, .ref a_M_places, .ref a_M_rights, .ref a_M_weights, .int M_hasFactors, .ref a_M_pivots, .ref a_M_lower, .int M_hasSolution, .ref a_M_solution, .ref a_M_work, .ref a_M_isJoined, .int M_levels, .ref a_M_stored])), (a_M_a, .inl (g.2.1, 256, .inl M_a))] H := hP
  have hD : va_D A [(a_M, .inr (5, [.int 0, .int M_n, .ref a_M_a, .ref a_M_rowAt, .ref a_M_places, .ref a_M_rights, .ref a_M_weights, .int M_hasFactors, .ref a_M_pivots, .ref a_M_lower, .int M_hasSolution, .ref a_M_solution, .ref a_M_work, .ref a_M_isJoined, .int M_levels, .ref a_M_stored])), (a_M_a, .inl (g.2.1, 256, .inl M_a))] := hD
  refine lv_aload_n hx hb dX5_entry_5 rfl (lv_at hl 0 rfl) ?_
  refine lv_iload_n hx hb dX5_entry_6 rfl (lv_at hl 1 rfl) ?_
  refine cx_iVr (As := [.int i_i]) (rest := []) ⟨hx, hb, hml, hown, hts⟩ (c_X5_isRow l g a_M a_M_a a_M_rowAt a_M_places a_M_rights a_M_weights a_M_pivots a_M_lower a_M_solution a_M_work a_M_isJoined a_M_stored i_i 0 M_n M_hasFactors M_hasSolution M_levels hv) (cx_cwV 1 hts cw_m_X5_76 cw_i_X5_isRow cw_s_X5_isRow cw_n_X5 cw_c_X5_isRow rfl rfl (by decide +kernel) ⟨Nat.le_of_ble_eq_true rfl, Nat.le_of_ble_eq_true rfl⟩) hK hP hD hS hA 0 5 rfl rfl [0] rfl rfl rfl hl.1 rfl (Nat.le_of_ble_eq_true rfl) dX5_entry_7 ⟨Nat.le_of_ble_eq_true rfl, Nat.le_of_ble_eq_true rfl⟩ (fun r_1 H locs hv hP hS => ?_)
  refine lv_if_eq (tgt := 34) hx hb dX5_entry_10 (by decide) (fun hc => ?_) (fun hc => ?_)
  · replace hv := hv.1 hc
    refine lv_aload_n hx hb dX5_entry_34 rfl (lv_at hl 0 rfl) ?_
    refine lv_iconst (v := 1) hx hb dX5_entry_35 (by decide) ?_
    refine cx_iV (wr := [(a_M_a, .inl (g.2.1, 256, .inl M_a))]) (As := [.int 1]) (rest := []) ⟨hx, hb, hml, hown, hts⟩ (c_X5_no l g a_M a_M_a a_M_rowAt a_M_places a_M_rights a_M_weights a_M_pivots a_M_lower a_M_solution a_M_work a_M_isJoined a_M_stored 1 0 M_n M_hasFactors M_hasSolution M_levels hv) (cx_cwV 1 hts cw_m_X5_72 cw_i_X5_no cw_s_X5_no cw_n_X5 cw_c_X5_no rfl rfl (by decide +kernel) ⟨Nat.le_of_ble_eq_true rfl, Nat.le_of_ble_eq_true rfl⟩) hK hP hD hS hA 0 5 rfl rfl [0] [1] rfl rfl rfl rfl (by decide) rfl hl.1 rfl (Nat.le_of_ble_eq_true rfl) dX5_entry_36 ⟨Nat.le_of_ble_eq_true rfl, Nat.le_of_ble_eq_true rfl⟩ (fun r_2 w_4 H locs hv hP hD hS => ?_)
    obtain ⟨u_3, rfl⟩ : ∃ z, z = w_4 := ⟨_, rfl⟩
    have hP : va_P g.1 vwCl [(a_M, .inr (5, [.int u_3, .int M_n, .ref a_M_a, .ref a_M_rowAt, .ref a_M_places, .ref a_M_rights, .ref a_M_weights, .int M_hasFactors, .ref a_M_pivots, .ref a_M_lower, .int M_hasSolution, .ref a_M_solution, .ref a_M_work, .ref a_M_isJoined, .int M_levels, .ref a_M_stored])), (a_M_a, .inl (g.2.1, 256, .inl M_a))] H := hP.sub [1, 0] rfl
    have hD : va_D A [(a_M, .inr (5, [.int u_3, .int M_n, .ref a_M_a, .ref a_M_rowAt, .ref a_M_places, .ref a_M_rights, .ref a_M_weights, .int M_hasFactors, .ref a_M_pivots, .ref a_M_lower, .int M_hasSolution, .ref a_M_solution, .ref a_M_work, .ref a_M_isJoined, .int M_levels, .ref a_M_stored])), (a_M_a, .inl (g.2.1, 256, .inl M_a))] := hD.sub [1, 0] (by decide) rfl
    exact cx_iret hx hb hr hlocks hAe hS u_3 hv hP hD dX5_entry_39
  · replace hv := hv.2 hc
    refine lv_aload_n hx hb dX5_entry_13 rfl (lv_at hl 0 rfl) ?_
    refine lv_iload_n hx hb dX5_entry_14 rfl (lv_at hl 2 rfl) ?_
    refine cx_iVr (As := [.int i_j]) (rest := []) ⟨hx, hb, hml, hown, hts⟩ (c_X5_isRow l g a_M a_M_a a_M_rowAt a_M_places a_M_rights a_M_weights a_M_pivots a_M_lower a_M_solution a_M_work a_M_isJoined a_M_stored i_j 0 M_n M_hasFactors M_hasSolution M_levels hv) (cx_cwV 1 hts cw_m_X5_76 cw_i_X5_isRow cw_s_X5_isRow cw_n_X5 cw_c_X5_isRow rfl rfl (by decide +kernel) ⟨Nat.le_of_ble_eq_true rfl, Nat.le_of_ble_eq_true rfl⟩) hK hP hD hS hA 0 5 rfl rfl [0] rfl rfl rfl hl.1 rfl (Nat.le_of_ble_eq_true rfl) dX5_entry_15 ⟨Nat.le_of_ble_eq_true rfl, Nat.le_of_ble_eq_true rfl⟩ (fun r_5 H locs hv hP hS => ?_)
    refine lv_if_eq (tgt := 34) hx hb dX5_entry_18 (by decide) (fun hc => ?_) (fun hc => ?_)
    · replace hv := hv.1 hc
      refine lv_aload_n hx hb dX5_entry_34 rfl (lv_at hl 0 rfl) ?_
      refine lv_iconst (v := 1) hx hb dX5_entry_35 (by decide) ?_
      refine cx_iV (wr := [(a_M_a, .inl (g.2.1, 256, .inl M_a))]) (As := [.int 1]) (rest := []) ⟨hx, hb, hml, hown, hts⟩ (c_X5_no l g a_M a_M_a a_M_rowAt a_M_places a_M_rights a_M_weights a_M_pivots a_M_lower a_M_solution a_M_work a_M_isJoined a_M_stored 1 0 M_n M_hasFactors M_hasSolution M_levels hv) (cx_cwV 1 hts cw_m_X5_72 cw_i_X5_no cw_s_X5_no cw_n_X5 cw_c_X5_no rfl rfl (by decide +kernel) ⟨Nat.le_of_ble_eq_true rfl, Nat.le_of_ble_eq_true rfl⟩) hK hP hD hS hA 0 5 rfl rfl [0] [1] rfl rfl rfl rfl (by decide) rfl hl.1 rfl (Nat.le_of_ble_eq_true rfl) dX5_entry_36 ⟨Nat.le_of_ble_eq_true rfl, Nat.le_of_ble_eq_true rfl⟩ (fun r_6 w_8 H locs hv hP hD hS => ?_)
      obtain ⟨u_7, rfl⟩ : ∃ z, z = w_8 := ⟨_, rfl⟩
      have hP : va_P g.1 vwCl [(a_M, .inr (5, [.int u_7, .int M_n, .ref a_M_a, .ref a_M_rowAt, .ref a_M_places, .ref a_M_rights, .ref a_M_weights, .int M_hasFactors, .ref a_M_pivots, .ref a_M_lower, .int M_hasSolution, .ref a_M_solution, .ref a_M_work, .ref a_M_isJoined, .int M_levels, .ref a_M_stored])), (a_M_a, .inl (g.2.1, 256, .inl M_a))] H := hP.sub [1, 0] rfl
      have hD : va_D A [(a_M, .inr (5, [.int u_7, .int M_n, .ref a_M_a, .ref a_M_rowAt, .ref a_M_places, .ref a_M_rights, .ref a_M_weights, .int M_hasFactors, .ref a_M_pivots, .ref a_M_lower, .int M_hasSolution, .ref a_M_solution, .ref a_M_work, .ref a_M_isJoined, .int M_levels, .ref a_M_stored])), (a_M_a, .inl (g.2.1, 256, .inl M_a))] := hD.sub [1, 0] (by decide) rfl
      exact cx_iret hx hb hr hlocks hAe hS u_7 hv hP hD dX5_entry_39
    · replace hv := hv.2 hc
      refine lv_aload_n hx hb dX5_entry_21 rfl (lv_at hl 0 rfl) ?_
      refine va_get (D := g.1) (ci := 5) (v := .ref a_M_a) (C := RX5) (T := TX5) (N := 16) hx hb hts cw_in_X5 hown hK.1 hP 0 rfl rfl 2 (by decide) (hts _ cw_f_X5_13) (fun _ h9 => h9) rfl dX5_entry_22 ?_
      refine lv_iload_n hx hb dX5_entry_25 rfl (lv_at hl 1 rfl) ?_
      refine lv_iload_n hx hb dX5_entry_26 rfl (lv_at hl 2 rfl) ?_
      refine cx_iSr (As := [.int i_i, .int i_j]) (rest := [.ref a_M_a]) ⟨hx, hb, hml, hown, hts⟩ (cp_X5_at l g i_i i_j) (cx_cwS 2 hts cw_m_X5_62 cw_t_X5_at cw_n_X5 cw_c_X5_at rfl rfl (by decide +kernel) ⟨Nat.le_of_ble_eq_true rfl, Nat.le_of_ble_eq_true rfl⟩) hK hP hD hS hA [] rfl rfl rfl hl.1 rfl (Nat.le_of_ble_eq_true rfl) dX5_entry_27 ⟨Nat.le_of_ble_eq_true rfl, Nat.le_of_ble_eq_true rfl⟩ (fun r_9 H locs hr9 hP hS => ?_)
      replace hr9 : r_9 = (f_at i_i i_j) := hr9
      subst hr9
      obtain ⟨h_10, hv⟩ := hv
      refine va_iald (D := g.1) hx hb hK.1 hP 1 0 rfl rfl h_10 dX5_entry_30 ?_
      refine lv_goto (tgt := 39) hx hb dX5_entry_31 (by decide) ?_
      exact cx_iret hx hb hr hlocks hAe hS 0 hv hP hD dX5_entry_39
def wp_X5_isLinked (i_i : Int32) (i_j : Int32) (M_thrown : Int32) (M_n : Int32) (M_hasFactors : Int32) (M_hasSolution : Int32) (M_levels : Int32) (M_a : (Nat → Int32)) (Q : Int32 → Prop)   : Prop := (i_i = i_j → (Q 0)) ∧ (¬ i_i = i_j → (vp_in (f_at i_i i_j) 256 ∧ (((M_a (Int32.toNatClampNeg (f_at i_i i_j))) = 0 → (Q 0)) ∧ (¬ (M_a (Int32.toNatClampNeg (f_at i_i i_j))) = 0 → (Q 1)))))
abbrev w0_X5_isLinked (g : cx_G) (a_M a_M_a a_M_rowAt a_M_places a_M_rights a_M_weights a_M_pivots a_M_lower a_M_solution a_M_work a_M_isJoined a_M_stored : Nat) (M_thrown : Int32) (M_n : Int32) (M_hasFactors : Int32) (M_hasSolution : Int32) (M_levels : Int32) (M_a : (Nat → Int32)) : va_W := [(a_M, .inr (5, [.int M_thrown, .int M_n, .ref a_M_a, .ref a_M_rowAt, .ref a_M_places, .ref a_M_rights, .ref a_M_weights, .int M_hasFactors, .ref a_M_pivots, .ref a_M_lower, .int M_hasSolution, .ref a_M_solution, .ref a_M_work, .ref a_M_isJoined, .int M_levels, .ref a_M_stored])), (a_M_a, .inl (g.2.1, 256, .inl M_a))]
set_option maxHeartbeats 4000000 in
set_option maxRecDepth 100000 in
theorem c_X5_isLinked (l : Launch) (g : cx_G) (a_M a_M_a a_M_rowAt a_M_places a_M_rights a_M_weights a_M_pivots a_M_lower a_M_solution a_M_work a_M_isJoined a_M_stored : Nat) (i_i : Int32) (i_j : Int32) (M_thrown : Int32) (M_n : Int32) (M_hasFactors : Int32) (M_hasSolution : Int32) (M_levels : Int32) (M_a : (Nat → Int32)) {Q : Int32 → Prop} (hv : wp_X5_isLinked i_i i_j M_thrown M_n M_hasFactors M_hasSolution M_levels M_a Q) : cx_Mi l g yX5_isLinked (Cond.code yX5_isLinked cX5_isLinked 3 (some .boolean) :: cx_T) ({ frames := 1, cells := 0, slots := 0, locals := 21 } : Room) [.ref a_M, .int i_i, .int i_j] (w0_X5_isLinked g a_M a_M_a a_M_rowAt a_M_places a_M_rights a_M_weights a_M_pivots a_M_lower a_M_solution a_M_work a_M_isJoined a_M_stored M_thrown M_n M_hasFactors M_hasSolution M_levels M_a) (fun (r : Int32) (_ : Unit) => Q r) (fun _ : Unit => (w0_X5_isLinked g a_M a_M_a a_M_rowAt a_M_places a_M_rights a_M_weights a_M_pivots a_M_lower a_M_solution a_M_work a_M_isJoined a_M_stored M_thrown M_n M_hasFactors M_hasSolution M_levels M_a)) 0 0 := by
  intro sz
  refine Met.ofW (cc := cX5_isLinked) (maxL := 3) (ret := (some .boolean)) (by decide) rfl ?_
  intro p e s m args below meth c s₁ B hml hpre
  obtain ⟨rfl, hsz, hP, hK, hD0⟩ := hpre
  have hx := B.exec
  have hb := B.bytes
  have hr := B.returns
  have hts0 := atoms_spec (ws := (Cond.code yX5_isLinked cX5_isLinked 3 (some .boolean) :: cx_T)) B.pre
  have hts : ∀ w ∈ cx_T, w.before _ s = true := fun w h => hts0 w (List.mem_cons_of_mem _ h)
  have hown : s.vm.findClass RX5 = some m.cls := findClass_of_methodNamed B.named
  have hlocks := B.notSynchronized
  subst hsz
  have hD := hD0.self (sz := s.heap.size)
  obtain ⟨A, hAe⟩ : ∃ A : Nat → Prop, A = va_A (w0_X5_isLinked g a_M a_M_a a_M_rowAt a_M_places a_M_rights a_M_weights a_M_pivots a_M_lower a_M_solution a_M_work a_M_isJoined a_M_stored M_thrown M_n M_hasFactors M_hasSolution M_levels M_a) s.heap.size := ⟨_, rfl⟩
  rw [← hAe] at hD
  have hA : ∀ q : Nat, s.heap.size ≤ q → A q := fun q h => by rw [hAe]; exact Or.inr h
  have hS : va_S A s.heap s.heap [] := va_S.rf
  have hP : va_P g.1 vwCl [(a_M, .inr (5, [.int M_thrown, .int M_n, .ref a_M_a, .ref a_M_rowAt, .ref a_M_places, .ref a_M_rights, .ref a_M_weights, .int M_hasFactors, .ref a_M_pivots, .ref a_M_lower, .int M_hasSolution, .ref a_M_solution, .ref a_M_work, .ref a_M_isJoined, .int M_levels, .ref a_M_stored])), (a_M_a, .inl (g.2.1, 256, .inl M_a))] s.heap := hP
  have hD : va_D A [(a_M, .inr (5, [.int M_thrown, .int M_n, .ref a_M_a, .ref a_M_rowAt, .ref a_M_places, .ref a_M_rights, .ref a_M_weights, .int M_hasFactors, .ref a_M_pivots, .ref a_M_lower, .int M_hasSolution, .ref a_M_solution, .ref a_M_work, .ref a_M_isJoined, .int M_levels, .ref a_M_stored])), (a_M_a, .inl (g.2.1, 256, .inl M_a))] := hD
  have hl := lv_entry ([.ref a_M, .int i_i, .int i_j]) (n := 3) (Nat.le_of_ble_eq_true rfl)
  rw [lg_entry_eq]
  generalize (lg_sl ([.ref a_M, .int i_i, .int i_j]) ++ List.replicate (3 - (lg_sl ([.ref a_M, .int i_i, .int i_j])).length) Slot.unset).toArray = ls at hl ⊢
  have hl : lv_has ls 3 [(0, .ref a_M), (1, .int i_i), (2, .int i_j)] := hl
  unfold wp_X5_isLinked at hv
  refine lv_iload_n hx hb dX5_isLinked_0 rfl (lv_at hl 1 rfl) ?_
  refine lv_iload_n hx hb dX5_isLinked_1 rfl (lv_at hl 2 rfl) ?_
  refine lv_icmp_eq (tgt := 22) hx hb dX5_isLinked_2 (by decide) (fun hc => ?_) (fun hc => ?_)
  · replace hv := hv.1 hc
    refine lv_iconst (v := 0) hx hb dX5_isLinked_22 (by decide) ?_
    exact cx_zret hx hb hr rfl hlocks hAe hS () hv hP hD dX5_isLinked_23
  · replace hv := hv.2 hc
    refine lv_aload_n hx hb dX5_isLinked_5 rfl (lv_at hl 0 rfl) ?_
    refine va_get (D := g.1) (ci := 5) (v := .ref a_M_a) (C := RX5) (T := TX5) (N := 16) hx hb hts cw_in_X5 hown hK.1 hP 0 rfl rfl 2 (by decide) (hts _ cw_f_X5_13) (fun _ h9 => h9) rfl dX5_isLinked_6 ?_
    refine lv_iload_n hx hb dX5_isLinked_9 rfl (lv_at hl 1 rfl) ?_
    refine lv_iload_n hx hb dX5_isLinked_10 rfl (lv_at hl 2 rfl) ?_
    refine cx_iSr (As := [.int i_i, .int i_j]) (rest := [.ref a_M_a]) ⟨hx, hb, hml, hown, hts⟩ (cp_X5_at l g i_i i_j) (cx_cwS 2 hts cw_m_X5_62 cw_t_X5_at cw_n_X5 cw_c_X5_at rfl rfl (by decide +kernel) ⟨Nat.le_of_ble_eq_true rfl, Nat.le_of_ble_eq_true rfl⟩) hK hP hD hS hA [] rfl rfl rfl hl.1 rfl (Nat.le_of_ble_eq_true rfl) dX5_isLinked_11 ⟨Nat.le_of_ble_eq_true rfl, Nat.le_of_ble_eq_true rfl⟩ (fun r_1 H locs hr9 hP hS => ?_)
    replace hr9 : r_1 = (f_at i_i i_j) := hr9
    subst hr9
    obtain ⟨h_2, hv⟩ := hv
    refine va_iald (D := g.1) hx hb hK.1 hP 1 0 rfl rfl h_2 dX5_isLinked_14 ?_
    refine lv_if_eq (tgt := 22) hx hb dX5_isLinked_15 (by decide) (fun hc => ?_) (fun hc => ?_)
    · replace hv := hv.1 hc
      refine lv_iconst (v := 0) hx hb dX5_isLinked_22 (by decide) ?_
      exact cx_zret hx hb hr rfl hlocks hAe hS () hv hP hD dX5_isLinked_23
    · replace hv := hv.2 hc
      refine lv_iconst (v := 1) hx hb dX5_isLinked_18 (by decide) ?_
      refine lv_goto (tgt := 23) hx hb dX5_isLinked_19 (by decide) ?_
      exact cx_zret hx hb hr rfl hlocks hAe hS () hv hP hD dX5_isLinked_23
def vc_X5_links_0 (M_thrown : Int32) (M_n : Int32) (M_hasFactors : Int32) (M_hasSolution : Int32) (M_levels : Int32) (M_a : (Nat → Int32)) (Q : Int32 → Prop) (G1 : Int32 → Int32 → Prop) (G2 : Int32 → Int32 → Int32 → Prop)  : Prop := G1 0 0
def vc_X5_links_1 (M_thrown : Int32) (M_n : Int32) (M_hasFactors : Int32) (M_hasSolution : Int32) (M_levels : Int32) (M_a : (Nat → Int32)) (Q : Int32 → Prop) (G1 : Int32 → Int32 → Prop) (G2 : Int32 → Int32 → Int32 → Prop) (x2 : Int32) (x1 : Int32) : Prop := (M_n ≤ x2 → (Q x1)) ∧ (¬ M_n ≤ x2 → (G2 0 x2 x1))
def vc_X5_links_2 (M_thrown : Int32) (M_n : Int32) (M_hasFactors : Int32) (M_hasSolution : Int32) (M_levels : Int32) (M_a : (Nat → Int32)) (Q : Int32 → Prop) (G1 : Int32 → Int32 → Prop) (G2 : Int32 → Int32 → Int32 → Prop) (x3 : Int32) (x2 : Int32) (x1 : Int32) : Prop := (x2 ≤ x3 → (∀ x2_1 : Int32, x2_1 = x2 + 1 → (G1 x2_1 x1))) ∧ (¬ x2 ≤ x3 → (wp_X5_isLinked x2 x3 M_thrown M_n M_hasFactors M_hasSolution M_levels M_a (fun r_2 => (r_2 = 0 → (∀ x1_3 : Int32, x1_3 = (x1 + 0) → (∀ x3_4 : Int32, x3_4 = x3 + 1 → (G2 x3_4 x2 x1_3)))) ∧ (¬ r_2 = 0 → (∀ x1_5 : Int32, x1_5 = (x1 + 1) → (∀ x3_6 : Int32, x3_6 = x3 + 1 → (G2 x3_6 x2 x1_5)))))))
def wp_X5_links (M_thrown : Int32) (M_n : Int32) (M_hasFactors : Int32) (M_hasSolution : Int32) (M_levels : Int32) (M_a : (Nat → Int32)) (Q : Int32 → Prop) : Prop := ∀ (G1 : Int32 → Int32 → Prop) (G2 : Int32 → Int32 → Int32 → Prop), (∀ (x2 : Int32) (x1 : Int32), vc_X5_links_1 M_thrown M_n M_hasFactors M_hasSolution M_levels M_a Q G1 G2 x2 x1 → G1 x2 x1) → (∀ (x3 : Int32) (x2 : Int32) (x1 : Int32), vc_X5_links_2 M_thrown M_n M_hasFactors M_hasSolution M_levels M_a Q G1 G2 x3 x2 x1 → G2 x3 x2 x1) → vc_X5_links_0 M_thrown M_n M_hasFactors M_hasSolution M_levels M_a Q G1 G2
abbrev w0_X5_links (g : cx_G) (a_M a_M_a a_M_rowAt a_M_places a_M_rights a_M_weights a_M_pivots a_M_lower a_M_solution a_M_work a_M_isJoined a_M_stored : Nat) (M_thrown : Int32) (M_n : Int32) (M_hasFactors : Int32) (M_hasSolution : Int32) (M_levels : Int32) (M_a : (Nat → Int32)) : va_W := [(a_M, .inr (5, [.int M_thrown, .int M_n, .ref a_M_a, .ref a_M_rowAt, .ref a_M_places, .ref a_M_rights, .ref a_M_weights, .int M_hasFactors, .ref a_M_pivots, .ref a_M_lower, .int M_hasSolution, .ref a_M_solution, .ref a_M_work, .ref a_M_isJoined, .int M_levels, .ref a_M_stored])), (a_M_a, .inl (g.2.1, 256, .inl M_a))]
set_option maxHeartbeats 4000000 in
set_option maxRecDepth 100000 in
theorem c_X5_links (l : Launch) (g : cx_G) (a_M a_M_a a_M_rowAt a_M_places a_M_rights a_M_weights a_M_pivots a_M_lower a_M_solution a_M_work a_M_isJoined a_M_stored : Nat) (M_thrown : Int32) (M_n : Int32) (M_hasFactors : Int32) (M_hasSolution : Int32) (M_levels : Int32) (M_a : (Nat → Int32)) {Q : Int32 → Prop} (hv : wp_X5_links M_thrown M_n M_hasFactors M_hasSolution M_levels M_a Q) : cx_Mi l g yX5_links (Cond.code yX5_links cX5_links 4 (some .int) :: cx_T) ({ frames := 2, cells := 0, slots := 0, locals := 43 } : Room) [.ref a_M] (w0_X5_links g a_M a_M_a a_M_rowAt a_M_places a_M_rights a_M_weights a_M_pivots a_M_lower a_M_solution a_M_work a_M_isJoined a_M_stored M_thrown M_n M_hasFactors M_hasSolution M_levels M_a) (fun (r : Int32) (_ : Unit) => Q r) (fun _ : Unit => (w0_X5_links g a_M a_M_a a_M_rowAt a_M_places a_M_rights a_M_weights a_M_pivots a_M_lower a_M_solution a_M_work a_M_isJoined a_M_stored M_thrown M_n M_hasFactors M_hasSolution M_levels M_a)) 0 0 := by
  intro sz
  refine Met.ofW (cc := cX5_links) (maxL := 4) (ret := (some .int)) (by decide) rfl ?_
  intro p e s m args below meth c s₁ B hml hpre
  obtain ⟨rfl, hsz, hP, hK, hD0⟩ := hpre
  have hx := B.exec
  have hb := B.bytes
  have hr := B.returns
  have hts0 := atoms_spec (ws := (Cond.code yX5_links cX5_links 4 (some .int) :: cx_T)) B.pre
  have hts : ∀ w ∈ cx_T, w.before _ s = true := fun w h => hts0 w (List.mem_cons_of_mem _ h)
  have hown : s.vm.findClass RX5 = some m.cls := findClass_of_methodNamed B.named
  have hlocks := B.notSynchronized
  subst hsz
  have hD := hD0.self (sz := s.heap.size)
  obtain ⟨A, hAe⟩ : ∃ A : Nat → Prop, A = va_A (w0_X5_links g a_M a_M_a a_M_rowAt a_M_places a_M_rights a_M_weights a_M_pivots a_M_lower a_M_solution a_M_work a_M_isJoined a_M_stored M_thrown M_n M_hasFactors M_hasSolution M_levels M_a) s.heap.size := ⟨_, rfl⟩
  rw [← hAe] at hD
  have hA : ∀ q : Nat, s.heap.size ≤ q → A q := fun q h => by rw [hAe]; exact Or.inr h
  have hS : va_S A s.heap s.heap [] := va_S.rf
  have hP : va_P g.1 vwCl [(a_M, .inr (5, [.int M_thrown, .int M_n, .ref a_M_a, .ref a_M_rowAt, .ref a_M_places, .ref a_M_rights, .ref a_M_weights, .int M_hasFactors, .ref a_M_pivots, .ref a_M_lower, .int M_hasSolution, .ref a_M_solution, .ref a_M_work, .ref a_M_isJoined, .int M_levels, .ref a_M_stored])), (a_M_a, .inl (g.2.1, 256, .inl M_a))] s.heap := hP
  have hD : va_D A [(a_M, .inr (5, [.int M_thrown, .int M_n, .ref a_M_a, .ref a_M_rowAt, .ref a_M_places, .ref a_M_rights, .ref a_M_weights, .int M_hasFactors, .ref a_M_pivots, .ref a_M_lower, .int M_hasSolution, .ref a_M_solution, .ref a_M_work, .ref a_M_isJoined, .int M_levels, .ref a_M_stored])), (a_M_a, .inl (g.2.1, 256, .inl M_a))] := hD
  have hl := lv_entry ([.ref a_M]) (n := 4) (Nat.le_of_ble_eq_true rfl)
  rw [lg_entry_eq]
  generalize (lg_sl ([.ref a_M]) ++ List.replicate (4 - (lg_sl ([.ref a_M])).length) Slot.unset).toArray = ls at hl ⊢
  have hl : lv_has ls 4 [(0, .ref a_M)] := hl
  obtain ⟨G1, hG1⟩ : ∃ G : Int32 → Int32 → Prop, G = (fun (x2 : Int32) (x1 : Int32) => ∀ (H : Heap) (locs : List Loc) (ls : Array Slot), va_P g.1 vwCl [(a_M, .inr (5, [.int M_thrown, .int M_n, .ref a_M_a, .ref a_M_rowAt, .ref a_M_places, .ref a_M_rights, .ref a_M_weights, .int M_hasFactors, .ref a_M_pivots, .ref a_M_lower, .int M_hasSolution, .ref a_M_solution, .ref a_M_work, .ref a_M_isJoined, .int M_levels, .ref a_M_stored])), (a_M_a, .inl (g.2.1, 256, .inl M_a))] H → va_D A [(a_M, .inr (5, [.int M_thrown, .int M_n, .ref a_M_a, .ref a_M_rowAt, .ref a_M_places, .ref a_M_rights, .ref a_M_weights, .int M_hasFactors, .ref a_M_pivots, .ref a_M_lower, .int M_hasSolution, .ref a_M_solution, .ref a_M_work, .ref a_M_isJoined, .int M_levels, .ref a_M_stored])), (a_M_a, .inl (g.2.1, 256, .inl M_a))] → va_S A s.heap H locs → lv_has ls 4 [(2, .int x2), (1, .int x1), (0, .ref a_M)] → W p l e (headSpec (Cond.code yX5_links cX5_links 4 (some .int) :: cx_T) ({ frames := 2, cells := 0, slots := 0, locals := 43 } : Room)).room s m ([.ref a_M] : List Value).toArray below meth c H locs 0 0 (MQ below (va_Qi (fun (r : Int32) (_ : Unit) => Q r) (cx_B g (w0_X5_links g a_M a_M_a a_M_rowAt a_M_places a_M_rights a_M_weights a_M_pivots a_M_lower a_M_solution a_M_work a_M_isJoined a_M_stored M_thrown M_n M_hasFactors M_hasSolution M_levels M_a) s.heap.size (fun _ : Unit => (w0_X5_links g a_M a_M_a a_M_rowAt a_M_places a_M_rights a_M_weights a_M_pivots a_M_lower a_M_solution a_M_work a_M_isJoined a_M_stored M_thrown M_n M_hasFactors M_hasSolution M_levels M_a))) (va_A (w0_X5_links g a_M a_M_a a_M_rowAt a_M_places a_M_rights a_M_weights a_M_pivots a_M_lower a_M_solution a_M_work a_M_isJoined a_M_stored M_thrown M_n M_hasFactors M_hasSolution M_levels M_a) s.heap.size)) ([.ref a_M] : List Value).toArray s 0 0 (va_A (w0_X5_links g a_M a_M_a a_M_rowAt a_M_places a_M_rights a_M_weights a_M_pivots a_M_lower a_M_solution a_M_work a_M_isJoined a_M_stored M_thrown M_n M_hasFactors M_hasSolution M_levels M_a) s.heap.size)) (F0 m 4 ls [])) := ⟨_, rfl⟩
  obtain ⟨G2, hG2⟩ : ∃ G : Int32 → Int32 → Int32 → Prop, G = (fun (x3 : Int32) (x2 : Int32) (x1 : Int32) => ∀ (H : Heap) (locs : List Loc) (ls : Array Slot), va_P g.1 vwCl [(a_M, .inr (5, [.int M_thrown, .int M_n, .ref a_M_a, .ref a_M_rowAt, .ref a_M_places, .ref a_M_rights, .ref a_M_weights, .int M_hasFactors, .ref a_M_pivots, .ref a_M_lower, .int M_hasSolution, .ref a_M_solution, .ref a_M_work, .ref a_M_isJoined, .int M_levels, .ref a_M_stored])), (a_M_a, .inl (g.2.1, 256, .inl M_a))] H → va_D A [(a_M, .inr (5, [.int M_thrown, .int M_n, .ref a_M_a, .ref a_M_rowAt, .ref a_M_places, .ref a_M_rights, .ref a_M_weights, .int M_hasFactors, .ref a_M_pivots, .ref a_M_lower, .int M_hasSolution, .ref a_M_solution, .ref a_M_work, .ref a_M_isJoined, .int M_levels, .ref a_M_stored])), (a_M_a, .inl (g.2.1, 256, .inl M_a))] → va_S A s.heap H locs → lv_has ls 4 [(3, .int x3), (2, .int x2), (1, .int x1), (0, .ref a_M)] → W p l e (headSpec (Cond.code yX5_links cX5_links 4 (some .int) :: cx_T) ({ frames := 2, cells := 0, slots := 0, locals := 43 } : Room)).room s m ([.ref a_M] : List Value).toArray below meth c H locs 0 0 (MQ below (va_Qi (fun (r : Int32) (_ : Unit) => Q r) (cx_B g (w0_X5_links g a_M a_M_a a_M_rowAt a_M_places a_M_rights a_M_weights a_M_pivots a_M_lower a_M_solution a_M_work a_M_isJoined a_M_stored M_thrown M_n M_hasFactors M_hasSolution M_levels M_a) s.heap.size (fun _ : Unit => (w0_X5_links g a_M a_M_a a_M_rowAt a_M_places a_M_rights a_M_weights a_M_pivots a_M_lower a_M_solution a_M_work a_M_isJoined a_M_stored M_thrown M_n M_hasFactors M_hasSolution M_levels M_a))) (va_A (w0_X5_links g a_M a_M_a a_M_rowAt a_M_places a_M_rights a_M_weights a_M_pivots a_M_lower a_M_solution a_M_work a_M_isJoined a_M_stored M_thrown M_n M_hasFactors M_hasSolution M_levels M_a) s.heap.size)) ([.ref a_M] : List Value).toArray s 0 0 (va_A (w0_X5_links g a_M a_M_a a_M_rowAt a_M_places a_M_rights a_M_weights a_M_pivots a_M_lower a_M_solution a_M_work a_M_isJoined a_M_stored M_thrown M_n M_hasFactors M_hasSolution M_levels M_a) s.heap.size)) (F0 m 14 ls [])) := ⟨_, rfl⟩
  have hs1 : ∀ (x2 : Int32) (x1 : Int32), vc_X5_links_1 M_thrown M_n M_hasFactors M_hasSolution M_levels M_a Q G1 G2 x2 x1 → G1 x2 x1 := by
    rw [hG1, hG2]
    intro x2 x1 hv H locs ls hP hD hS hl
    unfold vc_X5_links_1 at hv
    refine lv_iload_n hx hb dX5_links_4 rfl (lv_at hl 0 rfl) ?_
    refine lv_aload_n hx hb dX5_links_5 rfl (lv_at hl 2 rfl) ?_
    refine va_get (D := g.1) (ci := 5) (v := .int M_n) (C := RX5) (T := TX5) (N := 16) hx hb hts cw_in_X5 hown hK.1 hP 0 rfl rfl 1 (by decide) (hts _ cw_f_X5_9) (fun _ h9 => h9) rfl dX5_links_6 ?_
    refine lv_icmp_ge (tgt := 48) hx hb dX5_links_9 (by decide) (fun hc => ?_) (fun hc => ?_)
    · replace hv := hv.1 hc
      refine lv_iload_n hx hb dX5_links_48 rfl (lv_at hl 1 rfl) ?_
      exact cx_iret hx hb hr hlocks hAe hS () hv hP hD dX5_links_49
    · replace hv := hv.2 hc
      refine lv_iconst (v := 0) hx hb dX5_links_12 (by decide) ?_
      refine lv_istore_n (lv' := [(3, .int 0), (2, .int x2), (1, .int x1), (0, .ref a_M)]) hx hb dX5_links_13 rfl hl (by decide) rfl (fun ls hl => ?_)
      exact hv _ _ _ hP hD hS (lv_sub hl [0, 1, 2, 3] rfl)
  have hs2 : ∀ (x3 : Int32) (x2 : Int32) (x1 : Int32), vc_X5_links_2 M_thrown M_n M_hasFactors M_hasSolution M_levels M_a Q G1 G2 x3 x2 x1 → G2 x3 x2 x1 := by
    rw [hG1, hG2]
    intro x3 x2 x1 hv H locs ls hP hD hS hl
    unfold vc_X5_links_2 at hv
    refine lv_iload_n hx hb dX5_links_14 rfl (lv_at hl 0 rfl) ?_
    refine lv_iload_n hx hb dX5_links_15 rfl (lv_at hl 1 rfl) ?_
    refine lv_icmp_ge (tgt := 42) hx hb dX5_links_16 (by decide) (fun hc => ?_) (fun hc => ?_)
    · replace hv := hv.1 hc
      obtain ⟨x2_1, ex2_1⟩ : ∃ y : Int32, y = x2 + 1 := ⟨_, rfl⟩
      replace hv := hv x2_1 ex2_1
      refine lv_iinc (v := x2_1) (lv' := [(2, .int x2_1), (3, .int x3), (1, .int x1), (0, .ref a_M)]) hx hb dX5_links_42 hl (k := 1) rfl (by rw [ex2_1]; rfl) (by decide) rfl (fun ls hl => ?_)
      refine lv_goto (tgt := 4) hx hb dX5_links_45 (by decide) ?_
      exact hv _ _ _ hP hD hS (lv_sub hl [0, 2, 3] rfl)
    · replace hv := hv.2 hc
      refine lv_iload_n hx hb dX5_links_19 rfl (lv_at hl 2 rfl) ?_
      refine lv_aload_n hx hb dX5_links_20 rfl (lv_at hl 3 rfl) ?_
      refine lv_iload_n hx hb dX5_links_21 rfl (lv_at hl 1 rfl) ?_
      refine lv_iload_n hx hb dX5_links_22 rfl (lv_at hl 0 rfl) ?_
      refine cx_iVr (As := [.int x2, .int x3]) (rest := [.int x1]) ⟨hx, hb, hml, hown, hts⟩ (c_X5_isLinked l g a_M a_M_a a_M_rowAt a_M_places a_M_rights a_M_weights a_M_pivots a_M_lower a_M_solution a_M_work a_M_isJoined a_M_stored x2 x3 M_thrown M_n M_hasFactors M_hasSolution M_levels M_a hv) (cx_cwV 2 hts cw_m_X5_83 cw_i_X5_isLinked cw_s_X5_isLinked cw_n_X5 cw_c_X5_isLinked rfl rfl (by decide +kernel) ⟨Nat.le_of_ble_eq_true rfl, Nat.le_of_ble_eq_true rfl⟩) hK hP hD hS hA 0 5 rfl rfl [0, 1] rfl rfl rfl hl.1 rfl (Nat.le_of_ble_eq_true rfl) dX5_links_23 ⟨Nat.le_of_ble_eq_true rfl, Nat.le_of_ble_eq_true rfl⟩ (fun r_2 H locs hv hP hS => ?_)
      refine lv_if_eq (tgt := 33) hx hb dX5_links_26 (by decide) (fun hc => ?_) (fun hc => ?_)
      · replace hv := hv.1 hc
        refine lv_iconst (v := 0) hx hb dX5_links_33 (by decide) ?_
        refine lv_iadd hx hb dX5_links_34 ?_
        refine lv_topi (fun x1_3 ex1_3 => ?_)
        replace hv := hv x1_3 ex1_3
        refine lv_istore_n (lv' := [(1, .int x1_3), (3, .int x3), (2, .int x2), (0, .ref a_M)]) hx hb dX5_links_35 rfl hl (by decide) rfl (fun ls hl => ?_)
        obtain ⟨x3_4, ex3_4⟩ : ∃ y : Int32, y = x3 + 1 := ⟨_, rfl⟩
        replace hv := hv x3_4 ex3_4
        refine lv_iinc (v := x3_4) (lv' := [(3, .int x3_4), (1, .int x1_3), (2, .int x2), (0, .ref a_M)]) hx hb dX5_links_36 hl (k := 1) rfl (by rw [ex3_4]; rfl) (by decide) rfl (fun ls hl => ?_)
        refine lv_goto (tgt := 14) hx hb dX5_links_39 (by decide) ?_
        exact hv _ _ _ hP hD hS (lv_sub hl [0, 2, 1, 3] rfl)
      · replace hv := hv.2 hc
        refine lv_iconst (v := 1) hx hb dX5_links_29 (by decide) ?_
        refine lv_goto (tgt := 34) hx hb dX5_links_30 (by decide) ?_
        refine lv_iadd hx hb dX5_links_34 ?_
        refine lv_topi (fun x1_5 ex1_5 => ?_)
        replace hv := hv x1_5 ex1_5
        refine lv_istore_n (lv' := [(1, .int x1_5), (3, .int x3), (2, .int x2), (0, .ref a_M)]) hx hb dX5_links_35 rfl hl (by decide) rfl (fun ls hl => ?_)
        obtain ⟨x3_6, ex3_6⟩ : ∃ y : Int32, y = x3 + 1 := ⟨_, rfl⟩
        replace hv := hv x3_6 ex3_6
        refine lv_iinc (v := x3_6) (lv' := [(3, .int x3_6), (1, .int x1_5), (2, .int x2), (0, .ref a_M)]) hx hb dX5_links_36 hl (k := 1) rfl (by rw [ex3_6]; rfl) (by decide) rfl (fun ls hl => ?_)
        refine lv_goto (tgt := 14) hx hb dX5_links_39 (by decide) ?_
        exact hv _ _ _ hP hD hS (lv_sub hl [0, 2, 1, 3] rfl)
  replace hv := hv G1 G2 hs1 hs2
  rw [hG1, hG2] at hv
  unfold vc_X5_links_0 at hv
  refine lv_iconst (v := 0) hx hb dX5_links_0 (by decide) ?_
  refine lv_istore_n (lv' := [(1, .int 0), (0, .ref a_M)]) hx hb dX5_links_1 rfl hl (by decide) rfl (fun ls hl => ?_)
  refine lv_iconst (v := 0) hx hb dX5_links_2 (by decide) ?_
  refine lv_istore_n (lv' := [(2, .int 0), (1, .int 0), (0, .ref a_M)]) hx hb dX5_links_3 rfl hl (by decide) rfl (fun ls hl => ?_)
  exact hv _ _ _ hP hD hS (lv_sub hl [0, 1, 2] rfl)
def wp_X5_linkCount (M_thrown : Int32) (M_n : Int32) (M_hasFactors : Int32) (M_hasSolution : Int32) (M_levels : Int32) (M_a : (Nat → Int32)) (Q : Int32 → Int32 → Prop)   : Prop := wp_X5_links 0 M_n M_hasFactors M_hasSolution M_levels M_a (fun r_1 => Q r_1 0)
abbrev w0_X5_linkCount (g : cx_G) (a_M a_M_a a_M_rowAt a_M_places a_M_rights a_M_weights a_M_pivots a_M_lower a_M_solution a_M_work a_M_isJoined a_M_stored : Nat) (M_thrown : Int32) (M_n : Int32) (M_hasFactors : Int32) (M_hasSolution : Int32) (M_levels : Int32) (M_a : (Nat → Int32)) : va_W := [(a_M, .inr (5, [.int M_thrown, .int M_n, .ref a_M_a, .ref a_M_rowAt, .ref a_M_places, .ref a_M_rights, .ref a_M_weights, .int M_hasFactors, .ref a_M_pivots, .ref a_M_lower, .int M_hasSolution, .ref a_M_solution, .ref a_M_work, .ref a_M_isJoined, .int M_levels, .ref a_M_stored])), (a_M_a, .inl (g.2.1, 256, .inl M_a))]
abbrev w1_X5_linkCount (g : cx_G) (a_M a_M_a a_M_rowAt a_M_places a_M_rights a_M_weights a_M_pivots a_M_lower a_M_solution a_M_work a_M_isJoined a_M_stored : Nat) (M_thrown : Int32) (M_n : Int32) (M_hasFactors : Int32) (M_hasSolution : Int32) (M_levels : Int32) (M_a : (Nat → Int32)) (u : Int32) : va_W := [(a_M, .inr (5, [.int u, .int M_n, .ref a_M_a, .ref a_M_rowAt, .ref a_M_places, .ref a_M_rights, .ref a_M_weights, .int M_hasFactors, .ref a_M_pivots, .ref a_M_lower, .int M_hasSolution, .ref a_M_solution, .ref a_M_work, .ref a_M_isJoined, .int M_levels, .ref a_M_stored])), (a_M_a, .inl (g.2.1, 256, .inl M_a))]
set_option maxHeartbeats 4000000 in
set_option maxRecDepth 100000 in
theorem c_X5_linkCount (l : Launch) (g : cx_G) (a_M a_M_a a_M_rowAt a_M_places a_M_rights a_M_weights a_M_pivots a_M_lower a_M_solution a_M_work a_M_isJoined a_M_stored : Nat) (M_thrown : Int32) (M_n : Int32) (M_hasFactors : Int32) (M_hasSolution : Int32) (M_levels : Int32) (M_a : (Nat → Int32)) {Q : Int32 → Int32 → Prop} (hv : wp_X5_linkCount M_thrown M_n M_hasFactors M_hasSolution M_levels M_a Q) : cx_Mi l g yX5_linkCount (Cond.code yX5_linkCount cX5_linkCount 1 (some .int) :: cx_T) ({ frames := 3, cells := 0, slots := 0, locals := 66 } : Room) [.ref a_M] (w0_X5_linkCount g a_M a_M_a a_M_rowAt a_M_places a_M_rights a_M_weights a_M_pivots a_M_lower a_M_solution a_M_work a_M_isJoined a_M_stored M_thrown M_n M_hasFactors M_hasSolution M_levels M_a) (fun (r : Int32) (u : Int32) => Q r u) (w1_X5_linkCount g a_M a_M_a a_M_rowAt a_M_places a_M_rights a_M_weights a_M_pivots a_M_lower a_M_solution a_M_work a_M_isJoined a_M_stored M_thrown M_n M_hasFactors M_hasSolution M_levels M_a) 0 0 := by
  intro sz
  refine Met.ofW (cc := cX5_linkCount) (maxL := 1) (ret := (some .int)) (by decide) rfl ?_
  intro p e s m args below meth c s₁ B hml hpre
  obtain ⟨rfl, hsz, hP, hK, hD0⟩ := hpre
  have hx := B.exec
  have hb := B.bytes
  have hr := B.returns
  have hts0 := atoms_spec (ws := (Cond.code yX5_linkCount cX5_linkCount 1 (some .int) :: cx_T)) B.pre
  have hts : ∀ w ∈ cx_T, w.before _ s = true := fun w h => hts0 w (List.mem_cons_of_mem _ h)
  have hown : s.vm.findClass RX5 = some m.cls := findClass_of_methodNamed B.named
  have hlocks := B.notSynchronized
  subst hsz
  have hD := hD0.self (sz := s.heap.size)
  obtain ⟨A, hAe⟩ : ∃ A : Nat → Prop, A = va_A (w0_X5_linkCount g a_M a_M_a a_M_rowAt a_M_places a_M_rights a_M_weights a_M_pivots a_M_lower a_M_solution a_M_work a_M_isJoined a_M_stored M_thrown M_n M_hasFactors M_hasSolution M_levels M_a) s.heap.size := ⟨_, rfl⟩
  rw [← hAe] at hD
  have hA : ∀ q : Nat, s.heap.size ≤ q → A q := fun q h => by rw [hAe]; exact Or.inr h
  have hS : va_S A s.heap s.heap [] := va_S.rf
  have hP : va_P g.1 vwCl [(a_M, .inr (5, [.int M_thrown, .int M_n, .ref a_M_a, .ref a_M_rowAt, .ref a_M_places, .ref a_M_rights, .ref a_M_weights, .int M_hasFactors, .ref a_M_pivots, .ref a_M_lower, .int M_hasSolution, .ref a_M_solution, .ref a_M_work, .ref a_M_isJoined, .int M_levels, .ref a_M_stored])), (a_M_a, .inl (g.2.1, 256, .inl M_a))] s.heap := hP
  have hD : va_D A [(a_M, .inr (5, [.int M_thrown, .int M_n, .ref a_M_a, .ref a_M_rowAt, .ref a_M_places, .ref a_M_rights, .ref a_M_weights, .int M_hasFactors, .ref a_M_pivots, .ref a_M_lower, .int M_hasSolution, .ref a_M_solution, .ref a_M_work, .ref a_M_isJoined, .int M_levels, .ref a_M_stored])), (a_M_a, .inl (g.2.1, 256, .inl M_a))] := hD
  have hl := lv_entry ([.ref a_M]) (n := 1) (Nat.le_of_ble_eq_true rfl)
  rw [lg_entry_eq]
  generalize (lg_sl ([.ref a_M]) ++ List.replicate (1 - (lg_sl ([.ref a_M])).length) Slot.unset).toArray = ls at hl ⊢
  have hl : lv_has ls 1 [(0, .ref a_M)] := hl
  unfold wp_X5_linkCount at hv
  refine lv_aload_n hx hb dX5_linkCount_0 rfl (lv_at hl 0 rfl) ?_
  refine lv_iconst (v := 0) hx hb dX5_linkCount_1 (by decide) ?_
  refine va_put (D := g.1) (ci := 5) (v := .int 0) (ty := .int) (C := RX5) (T := TX5) (N := 16) hx hb hts cw_in_X5 tyX5 tyX5_ok nmX5 hown hK.1 hP hD hS 0 rfl rfl 0 (by decide) (hts _ cw_f_X5_51) (fun _ h9 => h9) rfl (by decide +kernel) rfl rfl (Nat.le_of_ble_eq_true rfl) dX5_linkCount_2 (fun H locs hP hD hS => ?_)
  have hP : va_P g.1 vwCl [(a_M, .inr (5, [.int 0, .int M_n, .ref a_M_a, .ref a_M_rowAt, .ref a_M_places, .ref a_M_rights, .ref a_M_weights, .int M_hasFactors, .ref a_M_pivots, .ref a_M_lower, .int M_hasSolution, .ref a_M_solution, .ref a_M_work, .ref a_M_isJoined, .int M_levels, .ref a_M_stored])), (a_M_a, .inl (g.2.1, 256, .inl M_a))] H := hP
  have hD : va_D A [(a_M, .inr (5, [.int 0, .int M_n, .ref a_M_a, .ref a_M_rowAt, .ref a_M_places, .ref a_M_rights, .ref a_M_weights, .int M_hasFactors, .ref a_M_pivots, .ref a_M_lower, .int M_hasSolution, .ref a_M_solution, .ref a_M_work, .ref a_M_isJoined, .int M_levels, .ref a_M_stored])), (a_M_a, .inl (g.2.1, 256, .inl M_a))] := hD
  refine lv_aload_n hx hb dX5_linkCount_5 rfl (lv_at hl 0 rfl) ?_
  refine cx_iVr (As := []) (rest := []) ⟨hx, hb, hml, hown, hts⟩ (c_X5_links l g a_M a_M_a a_M_rowAt a_M_places a_M_rights a_M_weights a_M_pivots a_M_lower a_M_solution a_M_work a_M_isJoined a_M_stored 0 M_n M_hasFactors M_hasSolution M_levels M_a hv) (cx_cwV 0 hts cw_m_X5_87 cw_i_X5_links cw_s_X5_links cw_n_X5 cw_c_X5_links rfl rfl (by decide +kernel) ⟨Nat.le_of_ble_eq_true rfl, Nat.le_of_ble_eq_true rfl⟩) hK hP hD hS hA 0 5 rfl rfl [0, 1] rfl rfl rfl hl.1 rfl (Nat.le_of_ble_eq_true rfl) dX5_linkCount_6 ⟨Nat.le_of_ble_eq_true rfl, Nat.le_of_ble_eq_true rfl⟩ (fun r_1 H locs hv hP hS => ?_)
  exact cx_iret hx hb hr hlocks hAe hS 0 hv hP hD dX5_linkCount_9
def vc_X5_copy_0 (M_thrown : Int32) (M_n : Int32) (M_hasFactors : Int32) (M_hasSolution : Int32) (M_levels : Int32) (M_a : (Nat → Int32)) (M_work : (Nat → Int32)) (Q : (Nat → Int32) → Prop) (G1 : Int32 → (Nat → Int32) → Prop) (G2 : Int32 → Int32 → (Nat → Int32) → Prop)  : Prop := G1 0 M_work
def vc_X5_copy_1 (M_thrown : Int32) (M_n : Int32) (M_hasFactors : Int32) (M_hasSolution : Int32) (M_levels : Int32) (M_a : (Nat → Int32)) (M_work : (Nat → Int32)) (Q : (Nat → Int32) → Prop) (G1 : Int32 → (Nat → Int32) → Prop) (G2 : Int32 → Int32 → (Nat → Int32) → Prop) (x1 : Int32) (v_M_work : (Nat → Int32)) : Prop := (M_n ≤ x1 → (Q v_M_work)) ∧ (¬ M_n ≤ x1 → (G2 0 x1 v_M_work))
def vc_X5_copy_2 (M_thrown : Int32) (M_n : Int32) (M_hasFactors : Int32) (M_hasSolution : Int32) (M_levels : Int32) (M_a : (Nat → Int32)) (M_work : (Nat → Int32)) (Q : (Nat → Int32) → Prop) (G1 : Int32 → (Nat → Int32) → Prop) (G2 : Int32 → Int32 → (Nat → Int32) → Prop) (x2 : Int32) (x1 : Int32) (v_M_work : (Nat → Int32)) : Prop := (M_n ≤ x2 → (∀ x1_1 : Int32, x1_1 = x1 + 1 → (G1 x1_1 v_M_work))) ∧ (¬ M_n ≤ x2 → (vp_in (f_at x1 x2) 256 ∧ (vp_in (f_at17 x1 x2) 272 ∧ (∀ x2_6 : Int32, x2_6 = x2 + 1 → (G2 x2_6 x1 (upd v_M_work (Int32.toNatClampNeg (f_at17 x1 x2)) (M_a (Int32.toNatClampNeg (f_at x1 x2)))))))))
def wp_X5_copy (M_thrown : Int32) (M_n : Int32) (M_hasFactors : Int32) (M_hasSolution : Int32) (M_levels : Int32) (M_a : (Nat → Int32)) (M_work : (Nat → Int32)) (Q : (Nat → Int32) → Prop) : Prop := ∀ (G1 : Int32 → (Nat → Int32) → Prop) (G2 : Int32 → Int32 → (Nat → Int32) → Prop), (∀ (x1 : Int32) (v_M_work : (Nat → Int32)), vc_X5_copy_1 M_thrown M_n M_hasFactors M_hasSolution M_levels M_a M_work Q G1 G2 x1 v_M_work → G1 x1 v_M_work) → (∀ (x2 : Int32) (x1 : Int32) (v_M_work : (Nat → Int32)), vc_X5_copy_2 M_thrown M_n M_hasFactors M_hasSolution M_levels M_a M_work Q G1 G2 x2 x1 v_M_work → G2 x2 x1 v_M_work) → vc_X5_copy_0 M_thrown M_n M_hasFactors M_hasSolution M_levels M_a M_work Q G1 G2
abbrev w0_X5_copy (g : cx_G) (a_M a_M_a a_M_rowAt a_M_places a_M_rights a_M_weights a_M_pivots a_M_lower a_M_solution a_M_work a_M_isJoined a_M_stored : Nat) (M_thrown : Int32) (M_n : Int32) (M_hasFactors : Int32) (M_hasSolution : Int32) (M_levels : Int32) (M_a : (Nat → Int32)) (M_work : (Nat → Int32)) : va_W := [(a_M, .inr (5, [.int M_thrown, .int M_n, .ref a_M_a, .ref a_M_rowAt, .ref a_M_places, .ref a_M_rights, .ref a_M_weights, .int M_hasFactors, .ref a_M_pivots, .ref a_M_lower, .int M_hasSolution, .ref a_M_solution, .ref a_M_work, .ref a_M_isJoined, .int M_levels, .ref a_M_stored])), (a_M_a, .inl (g.2.1, 256, .inl M_a)), (a_M_work, .inl (g.2.1, 272, .inl M_work))]
abbrev w1_X5_copy (g : cx_G) (a_M a_M_a a_M_rowAt a_M_places a_M_rights a_M_weights a_M_pivots a_M_lower a_M_solution a_M_work a_M_isJoined a_M_stored : Nat) (M_thrown : Int32) (M_n : Int32) (M_hasFactors : Int32) (M_hasSolution : Int32) (M_levels : Int32) (M_a : (Nat → Int32)) (M_work : (Nat → Int32)) (u : (Nat → Int32)) : va_W := [(a_M, .inr (5, [.int M_thrown, .int M_n, .ref a_M_a, .ref a_M_rowAt, .ref a_M_places, .ref a_M_rights, .ref a_M_weights, .int M_hasFactors, .ref a_M_pivots, .ref a_M_lower, .int M_hasSolution, .ref a_M_solution, .ref a_M_work, .ref a_M_isJoined, .int M_levels, .ref a_M_stored])), (a_M_a, .inl (g.2.1, 256, .inl M_a)), (a_M_work, .inl (g.2.1, 272, .inl u))]
set_option maxHeartbeats 4000000 in
set_option maxRecDepth 100000 in
theorem c_X5_copy (l : Launch) (g : cx_G) (a_M a_M_a a_M_rowAt a_M_places a_M_rights a_M_weights a_M_pivots a_M_lower a_M_solution a_M_work a_M_isJoined a_M_stored : Nat) (M_thrown : Int32) (M_n : Int32) (M_hasFactors : Int32) (M_hasSolution : Int32) (M_levels : Int32) (M_a : (Nat → Int32)) (M_work : (Nat → Int32)) {Q : (Nat → Int32) → Prop} (hv : wp_X5_copy M_thrown M_n M_hasFactors M_hasSolution M_levels M_a M_work Q) : cx_Mv l g yX5_copy (Cond.code yX5_copy cX5_copy 3 none :: cx_T) ({ frames := 1, cells := 0, slots := 0, locals := 21 } : Room) [.ref a_M] (w0_X5_copy g a_M a_M_a a_M_rowAt a_M_places a_M_rights a_M_weights a_M_pivots a_M_lower a_M_solution a_M_work a_M_isJoined a_M_stored M_thrown M_n M_hasFactors M_hasSolution M_levels M_a M_work) (fun (u : (Nat → Int32)) => Q u) (w1_X5_copy g a_M a_M_a a_M_rowAt a_M_places a_M_rights a_M_weights a_M_pivots a_M_lower a_M_solution a_M_work a_M_isJoined a_M_stored M_thrown M_n M_hasFactors M_hasSolution M_levels M_a M_work) 0 0 := by
  intro sz
  refine Met.ofW (cc := cX5_copy) (maxL := 3) (ret := none) (by decide) rfl ?_
  intro p e s m args below meth c s₁ B hml hpre
  obtain ⟨rfl, hsz, hP, hK, hD0⟩ := hpre
  have hx := B.exec
  have hb := B.bytes
  have hr := B.returns
  have hts0 := atoms_spec (ws := (Cond.code yX5_copy cX5_copy 3 none :: cx_T)) B.pre
  have hts : ∀ w ∈ cx_T, w.before _ s = true := fun w h => hts0 w (List.mem_cons_of_mem _ h)
  have hown : s.vm.findClass RX5 = some m.cls := findClass_of_methodNamed B.named
  have hlocks := B.notSynchronized
  subst hsz
  have hD := hD0.self (sz := s.heap.size)
  obtain ⟨A, hAe⟩ : ∃ A : Nat → Prop, A = va_A (w0_X5_copy g a_M a_M_a a_M_rowAt a_M_places a_M_rights a_M_weights a_M_pivots a_M_lower a_M_solution a_M_work a_M_isJoined a_M_stored M_thrown M_n M_hasFactors M_hasSolution M_levels M_a M_work) s.heap.size := ⟨_, rfl⟩
  rw [← hAe] at hD
  have hA : ∀ q : Nat, s.heap.size ≤ q → A q := fun q h => by rw [hAe]; exact Or.inr h
  have hS : va_S A s.heap s.heap [] := va_S.rf
  have hP : va_P g.1 vwCl [(a_M, .inr (5, [.int M_thrown, .int M_n, .ref a_M_a, .ref a_M_rowAt, .ref a_M_places, .ref a_M_rights, .ref a_M_weights, .int M_hasFactors, .ref a_M_pivots, .ref a_M_lower, .int M_hasSolution, .ref a_M_solution, .ref a_M_work, .ref a_M_isJoined, .int M_levels, .ref a_M_stored])), (a_M_a, .inl (g.2.1, 256, .inl M_a)), (a_M_work, .inl (g.2.1, 272, .inl M_work))] s.heap := hP
  have hD : va_D A [(a_M, .inr (5, [.int M_thrown, .int M_n, .ref a_M_a, .ref a_M_rowAt, .ref a_M_places, .ref a_M_rights, .ref a_M_weights, .int M_hasFactors, .ref a_M_pivots, .ref a_M_lower, .int M_hasSolution, .ref a_M_solution, .ref a_M_work, .ref a_M_isJoined, .int M_levels, .ref a_M_stored])), (a_M_a, .inl (g.2.1, 256, .inl M_a)), (a_M_work, .inl (g.2.1, 272, .inl M_work))] := hD
  have hl := lv_entry ([.ref a_M]) (n := 3) (Nat.le_of_ble_eq_true rfl)
  rw [lg_entry_eq]
  generalize (lg_sl ([.ref a_M]) ++ List.replicate (3 - (lg_sl ([.ref a_M])).length) Slot.unset).toArray = ls at hl ⊢
  have hl : lv_has ls 3 [(0, .ref a_M)] := hl
  obtain ⟨G1, hG1⟩ : ∃ G : Int32 → (Nat → Int32) → Prop, G = (fun (x1 : Int32) (v_M_work : (Nat → Int32)) => ∀ (H : Heap) (locs : List Loc) (ls : Array Slot), va_P g.1 vwCl [(a_M, .inr (5, [.int M_thrown, .int M_n, .ref a_M_a, .ref a_M_rowAt, .ref a_M_places, .ref a_M_rights, .ref a_M_weights, .int M_hasFactors, .ref a_M_pivots, .ref a_M_lower, .int M_hasSolution, .ref a_M_solution, .ref a_M_work, .ref a_M_isJoined, .int M_levels, .ref a_M_stored])), (a_M_a, .inl (g.2.1, 256, .inl M_a)), (a_M_work, .inl (g.2.1, 272, .inl v_M_work))] H → va_D A [(a_M, .inr (5, [.int M_thrown, .int M_n, .ref a_M_a, .ref a_M_rowAt, .ref a_M_places, .ref a_M_rights, .ref a_M_weights, .int M_hasFactors, .ref a_M_pivots, .ref a_M_lower, .int M_hasSolution, .ref a_M_solution, .ref a_M_work, .ref a_M_isJoined, .int M_levels, .ref a_M_stored])), (a_M_a, .inl (g.2.1, 256, .inl M_a)), (a_M_work, .inl (g.2.1, 272, .inl v_M_work))] → va_S A s.heap H locs → lv_has ls 3 [(1, .int x1), (0, .ref a_M)] → W p l e (headSpec (Cond.code yX5_copy cX5_copy 3 none :: cx_T) ({ frames := 1, cells := 0, slots := 0, locals := 21 } : Room)).room s m ([.ref a_M] : List Value).toArray below meth c H locs 0 0 (MQ below (va_Qv (fun (u : (Nat → Int32)) => Q u) (cx_B g (w0_X5_copy g a_M a_M_a a_M_rowAt a_M_places a_M_rights a_M_weights a_M_pivots a_M_lower a_M_solution a_M_work a_M_isJoined a_M_stored M_thrown M_n M_hasFactors M_hasSolution M_levels M_a M_work) s.heap.size (w1_X5_copy g a_M a_M_a a_M_rowAt a_M_places a_M_rights a_M_weights a_M_pivots a_M_lower a_M_solution a_M_work a_M_isJoined a_M_stored M_thrown M_n M_hasFactors M_hasSolution M_levels M_a M_work)) (va_A (w0_X5_copy g a_M a_M_a a_M_rowAt a_M_places a_M_rights a_M_weights a_M_pivots a_M_lower a_M_solution a_M_work a_M_isJoined a_M_stored M_thrown M_n M_hasFactors M_hasSolution M_levels M_a M_work) s.heap.size)) ([.ref a_M] : List Value).toArray s 0 0 (va_A (w0_X5_copy g a_M a_M_a a_M_rowAt a_M_places a_M_rights a_M_weights a_M_pivots a_M_lower a_M_solution a_M_work a_M_isJoined a_M_stored M_thrown M_n M_hasFactors M_hasSolution M_levels M_a M_work) s.heap.size)) (F0 m 2 ls [])) := ⟨_, rfl⟩
  obtain ⟨G2, hG2⟩ : ∃ G : Int32 → Int32 → (Nat → Int32) → Prop, G = (fun (x2 : Int32) (x1 : Int32) (v_M_work : (Nat → Int32)) => ∀ (H : Heap) (locs : List Loc) (ls : Array Slot), va_P g.1 vwCl [(a_M, .inr (5, [.int M_thrown, .int M_n, .ref a_M_a, .ref a_M_rowAt, .ref a_M_places, .ref a_M_rights, .ref a_M_weights, .int M_hasFactors, .ref a_M_pivots, .ref a_M_lower, .int M_hasSolution, .ref a_M_solution, .ref a_M_work, .ref a_M_isJoined, .int M_levels, .ref a_M_stored])), (a_M_a, .inl (g.2.1, 256, .inl M_a)), (a_M_work, .inl (g.2.1, 272, .inl v_M_work))] H → va_D A [(a_M, .inr (5, [.int M_thrown, .int M_n, .ref a_M_a, .ref a_M_rowAt, .ref a_M_places, .ref a_M_rights, .ref a_M_weights, .int M_hasFactors, .ref a_M_pivots, .ref a_M_lower, .int M_hasSolution, .ref a_M_solution, .ref a_M_work, .ref a_M_isJoined, .int M_levels, .ref a_M_stored])), (a_M_a, .inl (g.2.1, 256, .inl M_a)), (a_M_work, .inl (g.2.1, 272, .inl v_M_work))] → va_S A s.heap H locs → lv_has ls 3 [(2, .int x2), (1, .int x1), (0, .ref a_M)] → W p l e (headSpec (Cond.code yX5_copy cX5_copy 3 none :: cx_T) ({ frames := 1, cells := 0, slots := 0, locals := 21 } : Room)).room s m ([.ref a_M] : List Value).toArray below meth c H locs 0 0 (MQ below (va_Qv (fun (u : (Nat → Int32)) => Q u) (cx_B g (w0_X5_copy g a_M a_M_a a_M_rowAt a_M_places a_M_rights a_M_weights a_M_pivots a_M_lower a_M_solution a_M_work a_M_isJoined a_M_stored M_thrown M_n M_hasFactors M_hasSolution M_levels M_a M_work) s.heap.size (w1_X5_copy g a_M a_M_a a_M_rowAt a_M_places a_M_rights a_M_weights a_M_pivots a_M_lower a_M_solution a_M_work a_M_isJoined a_M_stored M_thrown M_n M_hasFactors M_hasSolution M_levels M_a M_work)) (va_A (w0_X5_copy g a_M a_M_a a_M_rowAt a_M_places a_M_rights a_M_weights a_M_pivots a_M_lower a_M_solution a_M_work a_M_isJoined a_M_stored M_thrown M_n M_hasFactors M_hasSolution M_levels M_a M_work) s.heap.size)) ([.ref a_M] : List Value).toArray s 0 0 (va_A (w0_X5_copy g a_M a_M_a a_M_rowAt a_M_places a_M_rights a_M_weights a_M_pivots a_M_lower a_M_solution a_M_work a_M_isJoined a_M_stored M_thrown M_n M_hasFactors M_hasSolution M_levels M_a M_work) s.heap.size)) (F0 m 12 ls [])) := ⟨_, rfl⟩
  have hs1 : ∀ (x1 : Int32) (v_M_work : (Nat → Int32)), vc_X5_copy_1 M_thrown M_n M_hasFactors M_hasSolution M_levels M_a M_work Q G1 G2 x1 v_M_work → G1 x1 v_M_work := by
    rw [hG1, hG2]
    intro x1 v_M_work hv H locs ls hP hD hS hl
    unfold vc_X5_copy_1 at hv
    refine lv_iload_n hx hb dX5_copy_2 rfl (lv_at hl 0 rfl) ?_
    refine lv_aload_n hx hb dX5_copy_3 rfl (lv_at hl 1 rfl) ?_
    refine va_get (D := g.1) (ci := 5) (v := .int M_n) (C := RX5) (T := TX5) (N := 16) hx hb hts cw_in_X5 hown hK.1 hP 0 rfl rfl 1 (by decide) (hts _ cw_f_X5_9) (fun _ h9 => h9) rfl dX5_copy_4 ?_
    refine lv_icmp_ge (tgt := 52) hx hb dX5_copy_7 (by decide) (fun hc => ?_) (fun hc => ?_)
    · replace hv := hv.1 hc
      exact cx_vret hx hb hr hlocks hAe hS v_M_work hv hP hD dX5_copy_52
    · replace hv := hv.2 hc
      refine lv_iconst (v := 0) hx hb dX5_copy_10 (by decide) ?_
      refine lv_istore_n (lv' := [(2, .int 0), (1, .int x1), (0, .ref a_M)]) hx hb dX5_copy_11 rfl hl (by decide) rfl (fun ls hl => ?_)
      exact hv _ _ _ hP hD hS (lv_sub hl [0, 1, 2] rfl)
  have hs2 : ∀ (x2 : Int32) (x1 : Int32) (v_M_work : (Nat → Int32)), vc_X5_copy_2 M_thrown M_n M_hasFactors M_hasSolution M_levels M_a M_work Q G1 G2 x2 x1 v_M_work → G2 x2 x1 v_M_work := by
    rw [hG1, hG2]
    intro x2 x1 v_M_work hv H locs ls hP hD hS hl
    unfold vc_X5_copy_2 at hv
    refine lv_iload_n hx hb dX5_copy_12 rfl (lv_at hl 0 rfl) ?_
    refine lv_aload_n hx hb dX5_copy_13 rfl (lv_at hl 2 rfl) ?_
    refine va_get (D := g.1) (ci := 5) (v := .int M_n) (C := RX5) (T := TX5) (N := 16) hx hb hts cw_in_X5 hown hK.1 hP 0 rfl rfl 1 (by decide) (hts _ cw_f_X5_9) (fun _ h9 => h9) rfl dX5_copy_14 ?_
    refine lv_icmp_ge (tgt := 46) hx hb dX5_copy_17 (by decide) (fun hc => ?_) (fun hc => ?_)
    · replace hv := hv.1 hc
      obtain ⟨x1_1, ex1_1⟩ : ∃ y : Int32, y = x1 + 1 := ⟨_, rfl⟩
      replace hv := hv x1_1 ex1_1
      refine lv_iinc (v := x1_1) (lv' := [(1, .int x1_1), (2, .int x2), (0, .ref a_M)]) hx hb dX5_copy_46 hl (k := 1) rfl (by rw [ex1_1]; rfl) (by decide) rfl (fun ls hl => ?_)
      refine lv_goto (tgt := 2) hx hb dX5_copy_49 (by decide) ?_
      exact hv _ _ _ hP hD hS (lv_sub hl [0, 2] rfl)
    · replace hv := hv.2 hc
      refine lv_aload_n hx hb dX5_copy_20 rfl (lv_at hl 2 rfl) ?_
      refine va_get (D := g.1) (ci := 5) (v := .ref a_M_work) (C := RX5) (T := TX5) (N := 16) hx hb hts cw_in_X5 hown hK.1 hP 0 rfl rfl 12 (by decide) (hts _ cw_f_X5_38) (fun _ h9 => h9) rfl dX5_copy_21 ?_
      refine lv_iload_n hx hb dX5_copy_24 rfl (lv_at hl 1 rfl) ?_
      refine lv_iload_n hx hb dX5_copy_25 rfl (lv_at hl 0 rfl) ?_
      refine cx_iSr (As := [.int x1, .int x2]) (rest := [.ref a_M_work]) ⟨hx, hb, hml, hown, hts⟩ (cp_X5_cell l g x1 x2) (cx_cwS 2 hts cw_m_X5_91 cw_t_X5_cell cw_n_X5 cw_c_X5_cell rfl rfl (by decide +kernel) ⟨Nat.le_of_ble_eq_true rfl, Nat.le_of_ble_eq_true rfl⟩) hK hP hD hS hA [] rfl rfl rfl hl.1 rfl (Nat.le_of_ble_eq_true rfl) dX5_copy_26 ⟨Nat.le_of_ble_eq_true rfl, Nat.le_of_ble_eq_true rfl⟩ (fun r_2 H locs hr9 hP hS => ?_)
      replace hr9 : r_2 = (f_at17 x1 x2) := hr9
      subst hr9
      refine lv_aload_n hx hb dX5_copy_29 rfl (lv_at hl 2 rfl) ?_
      refine va_get (D := g.1) (ci := 5) (v := .ref a_M_a) (C := RX5) (T := TX5) (N := 16) hx hb hts cw_in_X5 hown hK.1 hP 0 rfl rfl 2 (by decide) (hts _ cw_f_X5_13) (fun _ h9 => h9) rfl dX5_copy_30 ?_
      refine lv_iload_n hx hb dX5_copy_33 rfl (lv_at hl 1 rfl) ?_
      refine lv_iload_n hx hb dX5_copy_34 rfl (lv_at hl 0 rfl) ?_
      refine cx_iSr (As := [.int x1, .int x2]) (rest := [.ref a_M_a, .int (f_at17 x1 x2), .ref a_M_work]) ⟨hx, hb, hml, hown, hts⟩ (cp_X5_at l g x1 x2) (cx_cwS 2 hts cw_m_X5_62 cw_t_X5_at cw_n_X5 cw_c_X5_at rfl rfl (by decide +kernel) ⟨Nat.le_of_ble_eq_true rfl, Nat.le_of_ble_eq_true rfl⟩) hK hP hD hS hA [] rfl rfl rfl hl.1 rfl (Nat.le_of_ble_eq_true rfl) dX5_copy_35 ⟨Nat.le_of_ble_eq_true rfl, Nat.le_of_ble_eq_true rfl⟩ (fun r_3 H locs hr9 hP hS => ?_)
      replace hr9 : r_3 = (f_at x1 x2) := hr9
      subst hr9
      obtain ⟨h_4, hv⟩ := hv
      refine va_iald (D := g.1) hx hb hK.1 hP 1 0 rfl rfl h_4 dX5_copy_38 ?_
      obtain ⟨h_5, hv⟩ := hv
      refine va_iast (D := g.1) hx hb hK.1 hP hD hS 2 0 rfl rfl h_5 dX5_copy_39 (fun H locs hP hD hS => ?_)
      have hP : va_P g.1 vwCl [(a_M, .inr (5, [.int M_thrown, .int M_n, .ref a_M_a, .ref a_M_rowAt, .ref a_M_places, .ref a_M_rights, .ref a_M_weights, .int M_hasFactors, .ref a_M_pivots, .ref a_M_lower, .int M_hasSolution, .ref a_M_solution, .ref a_M_work, .ref a_M_isJoined, .int M_levels, .ref a_M_stored])), (a_M_a, .inl (g.2.1, 256, .inl M_a)), (a_M_work, .inl (g.2.1, 272, .inl (upd v_M_work (Int32.toNatClampNeg (f_at17 x1 x2)) (M_a (Int32.toNatClampNeg (f_at x1 x2))))))] H := hP
      have hD : va_D A [(a_M, .inr (5, [.int M_thrown, .int M_n, .ref a_M_a, .ref a_M_rowAt, .ref a_M_places, .ref a_M_rights, .ref a_M_weights, .int M_hasFactors, .ref a_M_pivots, .ref a_M_lower, .int M_hasSolution, .ref a_M_solution, .ref a_M_work, .ref a_M_isJoined, .int M_levels, .ref a_M_stored])), (a_M_a, .inl (g.2.1, 256, .inl M_a)), (a_M_work, .inl (g.2.1, 272, .inl (upd v_M_work (Int32.toNatClampNeg (f_at17 x1 x2)) (M_a (Int32.toNatClampNeg (f_at x1 x2))))))] := hD
      obtain ⟨x2_6, ex2_6⟩ : ∃ y : Int32, y = x2 + 1 := ⟨_, rfl⟩
      replace hv := hv x2_6 ex2_6
      refine lv_iinc (v := x2_6) (lv' := [(2, .int x2_6), (1, .int x1), (0, .ref a_M)]) hx hb dX5_copy_40 hl (k := 0) rfl (by rw [ex2_6]; rfl) (by decide) rfl (fun ls hl => ?_)
      refine lv_goto (tgt := 12) hx hb dX5_copy_43 (by decide) ?_
      exact hv _ _ _ hP hD hS (lv_sub hl [0, 1, 2] rfl)
  replace hv := hv G1 G2 hs1 hs2
  rw [hG1, hG2] at hv
  unfold vc_X5_copy_0 at hv
  refine lv_iconst (v := 0) hx hb dX5_copy_0 (by decide) ?_
  refine lv_istore_n (lv' := [(1, .int 0), (0, .ref a_M)]) hx hb dX5_copy_1 rfl hl (by decide) rfl (fun ls hl => ?_)
  exact hv _ _ _ hP hD hS (lv_sub hl [0, 1] rfl)
def vc_X5_eliminate_0 (M_thrown : Int32) (M_n : Int32) (M_hasFactors : Int32) (M_hasSolution : Int32) (M_levels : Int32) (M_work : (Nat → Int32)) (Q : Int32 → (Nat → Int32) → Prop) (G1 : Int32 → Int32 → (Nat → Int32) → Prop) (G2 : Int32 → Int32 → Int32 → (Nat → Int32) → Prop) (G3 : Int32 → Int32 → Int32 → Int32 → (Nat → Int32) → Prop) (G4 : Int32 → Int32 → Int32 → Int32 → Int32 → (Nat → Int32) → Prop) (G5 : Int32 → Int32 → Int32 → Int32 → Int32 → (Nat → Int32) → Prop) (G6 : Int32 → Int32 → Int32 → Int32 → Int32 → Int32 → Int32 → (Nat → Int32) → Prop)  : Prop := G1 0 1 M_work
def vc_X5_eliminate_1 (M_thrown : Int32) (M_n : Int32) (M_hasFactors : Int32) (M_hasSolution : Int32) (M_levels : Int32) (M_work : (Nat → Int32)) (Q : Int32 → (Nat → Int32) → Prop) (G1 : Int32 → Int32 → (Nat → Int32) → Prop) (G2 : Int32 → Int32 → Int32 → (Nat → Int32) → Prop) (G3 : Int32 → Int32 → Int32 → Int32 → (Nat → Int32) → Prop) (G4 : Int32 → Int32 → Int32 → Int32 → Int32 → (Nat → Int32) → Prop) (G5 : Int32 → Int32 → Int32 → Int32 → Int32 → (Nat → Int32) → Prop) (G6 : Int32 → Int32 → Int32 → Int32 → Int32 → Int32 → Int32 → (Nat → Int32) → Prop) (x2 : Int32) (x1 : Int32) (v_M_work : (Nat → Int32)) : Prop := (M_n ≤ x2 → (Q x1 v_M_work)) ∧ (¬ M_n ≤ x2 → (G2 x2 x2 x1 v_M_work))
def vc_X5_eliminate_2 (M_thrown : Int32) (M_n : Int32) (M_hasFactors : Int32) (M_hasSolution : Int32) (M_levels : Int32) (M_work : (Nat → Int32)) (Q : Int32 → (Nat → Int32) → Prop) (G1 : Int32 → Int32 → (Nat → Int32) → Prop) (G2 : Int32 → Int32 → Int32 → (Nat → Int32) → Prop) (G3 : Int32 → Int32 → Int32 → Int32 → (Nat → Int32) → Prop) (G4 : Int32 → Int32 → Int32 → Int32 → Int32 → (Nat → Int32) → Prop) (G5 : Int32 → Int32 → Int32 → Int32 → Int32 → (Nat → Int32) → Prop) (G6 : Int32 → Int32 → Int32 → Int32 → Int32 → Int32 → Int32 → (Nat → Int32) → Prop) (x3 : Int32) (x2 : Int32) (x1 : Int32) (v_M_work : (Nat → Int32)) : Prop := (M_n ≤ x3 → ((x3 = M_n → (Q 0 v_M_work)) ∧ (¬ x3 = M_n → ((x3 = x2 → (vp_in (f_at17 x2 x2) 272 ∧ (∀ x1_4 : Int32, x1_4 = (f_times x1 (v_M_work (Int32.toNatClampNeg (f_at17 x2 x2)))) → (vp_in (f_at17 x2 x2) 272 ∧ (∀ x4_8 : Int32, x4_8 = (f_rec (v_M_work (Int32.toNatClampNeg (f_at17 x2 x2)))) → (G4 0 x4_8 x1_4 x3 x2 v_M_work)))))) ∧ (¬ x3 = x2 → (∀ x1_10 : Int32, x1_10 = (g_minus 0 x1) → (G3 0 x1_10 x3 x2 v_M_work))))))) ∧ (¬ M_n ≤ x3 → (vp_in (f_at17 x3 x2) 272 ∧ (((v_M_work (Int32.toNatClampNeg (f_at17 x3 x2))) = 0 → (∀ x3_23 : Int32, x3_23 = x3 + 1 → (G2 x3_23 x2 x1 v_M_work))) ∧ (¬ (v_M_work (Int32.toNatClampNeg (f_at17 x3 x2))) = 0 → ((x3 = M_n → (Q 0 v_M_work)) ∧ (¬ x3 = M_n → ((x3 = x2 → (vp_in (f_at17 x2 x2) 272 ∧ (∀ x1_16 : Int32, x1_16 = (f_times x1 (v_M_work (Int32.toNatClampNeg (f_at17 x2 x2)))) → (vp_in (f_at17 x2 x2) 272 ∧ (∀ x4_20 : Int32, x4_20 = (f_rec (v_M_work (Int32.toNatClampNeg (f_at17 x2 x2)))) → (G4 0 x4_20 x1_16 x3 x2 v_M_work)))))) ∧ (¬ x3 = x2 → (∀ x1_22 : Int32, x1_22 = (g_minus 0 x1) → (G3 0 x1_22 x3 x2 v_M_work))))))))))
def vc_X5_eliminate_3 (M_thrown : Int32) (M_n : Int32) (M_hasFactors : Int32) (M_hasSolution : Int32) (M_levels : Int32) (M_work : (Nat → Int32)) (Q : Int32 → (Nat → Int32) → Prop) (G1 : Int32 → Int32 → (Nat → Int32) → Prop) (G2 : Int32 → Int32 → Int32 → (Nat → Int32) → Prop) (G3 : Int32 → Int32 → Int32 → Int32 → (Nat → Int32) → Prop) (G4 : Int32 → Int32 → Int32 → Int32 → Int32 → (Nat → Int32) → Prop) (G5 : Int32 → Int32 → Int32 → Int32 → Int32 → (Nat → Int32) → Prop) (G6 : Int32 → Int32 → Int32 → Int32 → Int32 → Int32 → Int32 → (Nat → Int32) → Prop) (x4 : Int32) (x1 : Int32) (x3 : Int32) (x2 : Int32) (v_M_work : (Nat → Int32)) : Prop := (16 < x4 → (vp_in (f_at17 x2 x2) 272 ∧ (∀ x1_4 : Int32, x1_4 = (f_times x1 (v_M_work (Int32.toNatClampNeg (f_at17 x2 x2)))) → (vp_in (f_at17 x2 x2) 272 ∧ (∀ x4_8 : Int32, x4_8 = (f_rec (v_M_work (Int32.toNatClampNeg (f_at17 x2 x2)))) → (G4 0 x4_8 x1_4 x3 x2 v_M_work)))))) ∧ (¬ 16 < x4 → (vp_in (f_at17 x2 x4) 272 ∧ (∀ x5_11 : Int32, x5_11 = (v_M_work (Int32.toNatClampNeg (f_at17 x2 x4))) → (vp_in (f_at17 x3 x4) 272 ∧ (vp_in (f_at17 x2 x4) 272 ∧ (vp_in (f_at17 x3 x4) 272 ∧ (∀ x4_18 : Int32, x4_18 = x4 + 1 → (G3 x4_18 x1 x3 x2 (upd (upd v_M_work (Int32.toNatClampNeg (f_at17 x2 x4)) (v_M_work (Int32.toNatClampNeg (f_at17 x3 x4)))) (Int32.toNatClampNeg (f_at17 x3 x4)) x5_11)))))))))
def vc_X5_eliminate_4 (M_thrown : Int32) (M_n : Int32) (M_hasFactors : Int32) (M_hasSolution : Int32) (M_levels : Int32) (M_work : (Nat → Int32)) (Q : Int32 → (Nat → Int32) → Prop) (G1 : Int32 → Int32 → (Nat → Int32) → Prop) (G2 : Int32 → Int32 → Int32 → (Nat → Int32) → Prop) (G3 : Int32 → Int32 → Int32 → Int32 → (Nat → Int32) → Prop) (G4 : Int32 → Int32 → Int32 → Int32 → Int32 → (Nat → Int32) → Prop) (G5 : Int32 → Int32 → Int32 → Int32 → Int32 → (Nat → Int32) → Prop) (G6 : Int32 → Int32 → Int32 → Int32 → Int32 → Int32 → Int32 → (Nat → Int32) → Prop) (x5 : Int32) (x4 : Int32) (x1 : Int32) (x3 : Int32) (x2 : Int32) (v_M_work : (Nat → Int32)) : Prop := (16 < x5 → (G5 0 x4 x1 x3 x2 v_M_work)) ∧ (¬ 16 < x5 → (vp_in (f_at17 x2 x5) 272 ∧ (vp_in (f_at17 x2 x5) 272 ∧ (∀ x5_6 : Int32, x5_6 = x5 + 1 → (G4 x5_6 x4 x1 x3 x2 (upd v_M_work (Int32.toNatClampNeg (f_at17 x2 x5)) (f_times (v_M_work (Int32.toNatClampNeg (f_at17 x2 x5))) x4)))))))
def vc_X5_eliminate_5 (M_thrown : Int32) (M_n : Int32) (M_hasFactors : Int32) (M_hasSolution : Int32) (M_levels : Int32) (M_work : (Nat → Int32)) (Q : Int32 → (Nat → Int32) → Prop) (G1 : Int32 → Int32 → (Nat → Int32) → Prop) (G2 : Int32 → Int32 → Int32 → (Nat → Int32) → Prop) (G3 : Int32 → Int32 → Int32 → Int32 → (Nat → Int32) → Prop) (G4 : Int32 → Int32 → Int32 → Int32 → Int32 → (Nat → Int32) → Prop) (G5 : Int32 → Int32 → Int32 → Int32 → Int32 → (Nat → Int32) → Prop) (G6 : Int32 → Int32 → Int32 → Int32 → Int32 → Int32 → Int32 → (Nat → Int32) → Prop) (x5 : Int32) (x4 : Int32) (x1 : Int32) (x3 : Int32) (x2 : Int32) (v_M_work : (Nat → Int32)) : Prop := (M_n ≤ x5 → (∀ x2_1 : Int32, x2_1 = x2 + 1 → (G1 x2_1 x1 v_M_work))) ∧ (¬ M_n ≤ x5 → (vp_in (f_at17 x5 x2) 272 ∧ (∀ x6_4 : Int32, x6_4 = (v_M_work (Int32.toNatClampNeg (f_at17 x5 x2))) → (G6 0 x6_4 x5 x4 x1 x3 x2 v_M_work))))
def vc_X5_eliminate_6 (M_thrown : Int32) (M_n : Int32) (M_hasFactors : Int32) (M_hasSolution : Int32) (M_levels : Int32) (M_work : (Nat → Int32)) (Q : Int32 → (Nat → Int32) → Prop) (G1 : Int32 → Int32 → (Nat → Int32) → Prop) (G2 : Int32 → Int32 → Int32 → (Nat → Int32) → Prop) (G3 : Int32 → Int32 → Int32 → Int32 → (Nat → Int32) → Prop) (G4 : Int32 → Int32 → Int32 → Int32 → Int32 → (Nat → Int32) → Prop) (G5 : Int32 → Int32 → Int32 → Int32 → Int32 → (Nat → Int32) → Prop) (G6 : Int32 → Int32 → Int32 → Int32 → Int32 → Int32 → Int32 → (Nat → Int32) → Prop) (x7 : Int32) (x6 : Int32) (x5 : Int32) (x4 : Int32) (x1 : Int32) (x3 : Int32) (x2 : Int32) (v_M_work : (Nat → Int32)) : Prop := (16 < x7 → (∀ x5_1 : Int32, x5_1 = x5 + 1 → (G5 x5_1 x4 x1 x3 x2 v_M_work))) ∧ (¬ 16 < x7 → ((x5 = x2 → (∀ x5_2 : Int32, x5_2 = x5 + 1 → (G5 x5_2 x4 x1 x3 x2 v_M_work))) ∧ (¬ x5 = x2 → (vp_in (f_at17 x5 x7) 272 ∧ (vp_in (f_at17 x2 x7) 272 ∧ (vp_in (f_at17 x5 x7) 272 ∧ (∀ x7_11 : Int32, x7_11 = x7 + 1 → (G6 x7_11 x6 x5 x4 x1 x3 x2 (upd v_M_work (Int32.toNatClampNeg (f_at17 x5 x7)) (g_minus (v_M_work (Int32.toNatClampNeg (f_at17 x5 x7))) (f_times x6 (v_M_work (Int32.toNatClampNeg (f_at17 x2 x7))))))))))))))
def wp_X5_eliminate (M_thrown : Int32) (M_n : Int32) (M_hasFactors : Int32) (M_hasSolution : Int32) (M_levels : Int32) (M_work : (Nat → Int32)) (Q : Int32 → (Nat → Int32) → Prop) : Prop := ∀ (G1 : Int32 → Int32 → (Nat → Int32) → Prop) (G2 : Int32 → Int32 → Int32 → (Nat → Int32) → Prop) (G3 : Int32 → Int32 → Int32 → Int32 → (Nat → Int32) → Prop) (G4 : Int32 → Int32 → Int32 → Int32 → Int32 → (Nat → Int32) → Prop) (G5 : Int32 → Int32 → Int32 → Int32 → Int32 → (Nat → Int32) → Prop) (G6 : Int32 → Int32 → Int32 → Int32 → Int32 → Int32 → Int32 → (Nat → Int32) → Prop), (∀ (x2 : Int32) (x1 : Int32) (v_M_work : (Nat → Int32)), vc_X5_eliminate_1 M_thrown M_n M_hasFactors M_hasSolution M_levels M_work Q G1 G2 G3 G4 G5 G6 x2 x1 v_M_work → G1 x2 x1 v_M_work) → (∀ (x3 : Int32) (x2 : Int32) (x1 : Int32) (v_M_work : (Nat → Int32)), vc_X5_eliminate_2 M_thrown M_n M_hasFactors M_hasSolution M_levels M_work Q G1 G2 G3 G4 G5 G6 x3 x2 x1 v_M_work → G2 x3 x2 x1 v_M_work) → (∀ (x4 : Int32) (x1 : Int32) (x3 : Int32) (x2 : Int32) (v_M_work : (Nat → Int32)), vc_X5_eliminate_3 M_thrown M_n M_hasFactors M_hasSolution M_levels M_work Q G1 G2 G3 G4 G5 G6 x4 x1 x3 x2 v_M_work → G3 x4 x1 x3 x2 v_M_work) → (∀ (x5 : Int32) (x4 : Int32) (x1 : Int32) (x3 : Int32) (x2 : Int32) (v_M_work : (Nat → Int32)), vc_X5_eliminate_4 M_thrown M_n M_hasFactors M_hasSolution M_levels M_work Q G1 G2 G3 G4 G5 G6 x5 x4 x1 x3 x2 v_M_work → G4 x5 x4 x1 x3 x2 v_M_work) → (∀ (x5 : Int32) (x4 : Int32) (x1 : Int32) (x3 : Int32) (x2 : Int32) (v_M_work : (Nat → Int32)), vc_X5_eliminate_5 M_thrown M_n M_hasFactors M_hasSolution M_levels M_work Q G1 G2 G3 G4 G5 G6 x5 x4 x1 x3 x2 v_M_work → G5 x5 x4 x1 x3 x2 v_M_work) → (∀ (x7 : Int32) (x6 : Int32) (x5 : Int32) (x4 : Int32) (x1 : Int32) (x3 : Int32) (x2 : Int32) (v_M_work : (Nat → Int32)), vc_X5_eliminate_6 M_thrown M_n M_hasFactors M_hasSolution M_levels M_work Q G1 G2 G3 G4 G5 G6 x7 x6 x5 x4 x1 x3 x2 v_M_work → G6 x7 x6 x5 x4 x1 x3 x2 v_M_work) → vc_X5_eliminate_0 M_thrown M_n M_hasFactors M_hasSolution M_levels M_work Q G1 G2 G3 G4 G5 G6
abbrev w0_X5_eliminate (g : cx_G) (a_M a_M_a a_M_rowAt a_M_places a_M_rights a_M_weights a_M_pivots a_M_lower a_M_solution a_M_work a_M_isJoined a_M_stored : Nat) (M_thrown : Int32) (M_n : Int32) (M_hasFactors : Int32) (M_hasSolution : Int32) (M_levels : Int32) (M_work : (Nat → Int32)) : va_W := [(a_M, .inr (5, [.int M_thrown, .int M_n, .ref a_M_a, .ref a_M_rowAt, .ref a_M_places, .ref a_M_rights, .ref a_M_weights, .int M_hasFactors, .ref a_M_pivots, .ref a_M_lower, .int M_hasSolution, .ref a_M_solution, .ref a_M_work, .ref a_M_isJoined, .int M_levels, .ref a_M_stored])), (a_M_work, .inl (g.2.1, 272, .inl M_work))]
abbrev w1_X5_eliminate (g : cx_G) (a_M a_M_a a_M_rowAt a_M_places a_M_rights a_M_weights a_M_pivots a_M_lower a_M_solution a_M_work a_M_isJoined a_M_stored : Nat) (M_thrown : Int32) (M_n : Int32) (M_hasFactors : Int32) (M_hasSolution : Int32) (M_levels : Int32) (M_work : (Nat → Int32)) (u : (Nat → Int32)) : va_W := [(a_M, .inr (5, [.int M_thrown, .int M_n, .ref a_M_a, .ref a_M_rowAt, .ref a_M_places, .ref a_M_rights, .ref a_M_weights, .int M_hasFactors, .ref a_M_pivots, .ref a_M_lower, .int M_hasSolution, .ref a_M_solution, .ref a_M_work, .ref a_M_isJoined, .int M_levels, .ref a_M_stored])), (a_M_work, .inl (g.2.1, 272, .inl u))]
set_option maxHeartbeats 4000000 in
set_option maxRecDepth 100000 in
theorem c_X5_eliminate (l : Launch) (g : cx_G) (a_M a_M_a a_M_rowAt a_M_places a_M_rights a_M_weights a_M_pivots a_M_lower a_M_solution a_M_work a_M_isJoined a_M_stored : Nat) (M_thrown : Int32) (M_n : Int32) (M_hasFactors : Int32) (M_hasSolution : Int32) (M_levels : Int32) (M_work : (Nat → Int32)) {Q : Int32 → (Nat → Int32) → Prop} (hv : wp_X5_eliminate M_thrown M_n M_hasFactors M_hasSolution M_levels M_work Q) : cx_Mi l g yX5_eliminate (Cond.code yX5_eliminate cX5_eliminate 8 (some .int) :: cx_T) ({ frames := 2, cells := 0, slots := 0, locals := 44 } : Room) [.ref a_M] (w0_X5_eliminate g a_M a_M_a a_M_rowAt a_M_places a_M_rights a_M_weights a_M_pivots a_M_lower a_M_solution a_M_work a_M_isJoined a_M_stored M_thrown M_n M_hasFactors M_hasSolution M_levels M_work) (fun (r : Int32) (u : (Nat → Int32)) => Q r u) (w1_X5_eliminate g a_M a_M_a a_M_rowAt a_M_places a_M_rights a_M_weights a_M_pivots a_M_lower a_M_solution a_M_work a_M_isJoined a_M_stored M_thrown M_n M_hasFactors M_hasSolution M_levels M_work) 0 0 := by
  intro sz
  refine Met.ofW (cc := cX5_eliminate) (maxL := 8) (ret := (some .int)) (by decide) rfl ?_
  intro p e s m args below meth c s₁ B hml hpre
  obtain ⟨rfl, hsz, hP, hK, hD0⟩ := hpre
  have hx := B.exec
  have hb := B.bytes
  have hr := B.returns
  have hts0 := atoms_spec (ws := (Cond.code yX5_eliminate cX5_eliminate 8 (some .int) :: cx_T)) B.pre
  have hts : ∀ w ∈ cx_T, w.before _ s = true := fun w h => hts0 w (List.mem_cons_of_mem _ h)
  have hown : s.vm.findClass RX5 = some m.cls := findClass_of_methodNamed B.named
  have hlocks := B.notSynchronized
  subst hsz
  have hD := hD0.self (sz := s.heap.size)
  obtain ⟨A, hAe⟩ : ∃ A : Nat → Prop, A = va_A (w0_X5_eliminate g a_M a_M_a a_M_rowAt a_M_places a_M_rights a_M_weights a_M_pivots a_M_lower a_M_solution a_M_work a_M_isJoined a_M_stored M_thrown M_n M_hasFactors M_hasSolution M_levels M_work) s.heap.size := ⟨_, rfl⟩
  rw [← hAe] at hD
  have hA : ∀ q : Nat, s.heap.size ≤ q → A q := fun q h => by rw [hAe]; exact Or.inr h
  have hS : va_S A s.heap s.heap [] := va_S.rf
  have hP : va_P g.1 vwCl [(a_M, .inr (5, [.int M_thrown, .int M_n, .ref a_M_a, .ref a_M_rowAt, .ref a_M_places, .ref a_M_rights, .ref a_M_weights, .int M_hasFactors, .ref a_M_pivots, .ref a_M_lower, .int M_hasSolution, .ref a_M_solution, .ref a_M_work, .ref a_M_isJoined, .int M_levels, .ref a_M_stored])), (a_M_work, .inl (g.2.1, 272, .inl M_work))] s.heap := hP
  have hD : va_D A [(a_M, .inr (5, [.int M_thrown, .int M_n, .ref a_M_a, .ref a_M_rowAt, .ref a_M_places, .ref a_M_rights, .ref a_M_weights, .int M_hasFactors, .ref a_M_pivots, .ref a_M_lower, .int M_hasSolution, .ref a_M_solution, .ref a_M_work, .ref a_M_isJoined, .int M_levels, .ref a_M_stored])), (a_M_work, .inl (g.2.1, 272, .inl M_work))] := hD
  have hl := lv_entry ([.ref a_M]) (n := 8) (Nat.le_of_ble_eq_true rfl)
  rw [lg_entry_eq]
  generalize (lg_sl ([.ref a_M]) ++ List.replicate (8 - (lg_sl ([.ref a_M])).length) Slot.unset).toArray = ls at hl ⊢
  have hl : lv_has ls 8 [(0, .ref a_M)] := hl
  obtain ⟨G1, hG1⟩ : ∃ G : Int32 → Int32 → (Nat → Int32) → Prop, G = (fun (x2 : Int32) (x1 : Int32) (v_M_work : (Nat → Int32)) => ∀ (H : Heap) (locs : List Loc) (ls : Array Slot), va_P g.1 vwCl [(a_M, .inr (5, [.int M_thrown, .int M_n, .ref a_M_a, .ref a_M_rowAt, .ref a_M_places, .ref a_M_rights, .ref a_M_weights, .int M_hasFactors, .ref a_M_pivots, .ref a_M_lower, .int M_hasSolution, .ref a_M_solution, .ref a_M_work, .ref a_M_isJoined, .int M_levels, .ref a_M_stored])), (a_M_work, .inl (g.2.1, 272, .inl v_M_work))] H → va_D A [(a_M, .inr (5, [.int M_thrown, .int M_n, .ref a_M_a, .ref a_M_rowAt, .ref a_M_places, .ref a_M_rights, .ref a_M_weights, .int M_hasFactors, .ref a_M_pivots, .ref a_M_lower, .int M_hasSolution, .ref a_M_solution, .ref a_M_work, .ref a_M_isJoined, .int M_levels, .ref a_M_stored])), (a_M_work, .inl (g.2.1, 272, .inl v_M_work))] → va_S A s.heap H locs → lv_has ls 8 [(2, .int x2), (1, .int x1), (0, .ref a_M)] → W p l e (headSpec (Cond.code yX5_eliminate cX5_eliminate 8 (some .int) :: cx_T) ({ frames := 2, cells := 0, slots := 0, locals := 44 } : Room)).room s m ([.ref a_M] : List Value).toArray below meth c H locs 0 0 (MQ below (va_Qi (fun (r : Int32) (u : (Nat → Int32)) => Q r u) (cx_B g (w0_X5_eliminate g a_M a_M_a a_M_rowAt a_M_places a_M_rights a_M_weights a_M_pivots a_M_lower a_M_solution a_M_work a_M_isJoined a_M_stored M_thrown M_n M_hasFactors M_hasSolution M_levels M_work) s.heap.size (w1_X5_eliminate g a_M a_M_a a_M_rowAt a_M_places a_M_rights a_M_weights a_M_pivots a_M_lower a_M_solution a_M_work a_M_isJoined a_M_stored M_thrown M_n M_hasFactors M_hasSolution M_levels M_work)) (va_A (w0_X5_eliminate g a_M a_M_a a_M_rowAt a_M_places a_M_rights a_M_weights a_M_pivots a_M_lower a_M_solution a_M_work a_M_isJoined a_M_stored M_thrown M_n M_hasFactors M_hasSolution M_levels M_work) s.heap.size)) ([.ref a_M] : List Value).toArray s 0 0 (va_A (w0_X5_eliminate g a_M a_M_a a_M_rowAt a_M_places a_M_rights a_M_weights a_M_pivots a_M_lower a_M_solution a_M_work a_M_isJoined a_M_stored M_thrown M_n M_hasFactors M_hasSolution M_levels M_work) s.heap.size)) (F0 m 4 ls [])) := ⟨_, rfl⟩
  obtain ⟨G2, hG2⟩ : ∃ G : Int32 → Int32 → Int32 → (Nat → Int32) → Prop, G = (fun (x3 : Int32) (x2 : Int32) (x1 : Int32) (v_M_work : (Nat → Int32)) => ∀ (H : Heap) (locs : List Loc) (ls : Array Slot), va_P g.1 vwCl [(a_M, .inr (5, [.int M_thrown, .int M_n, .ref a_M_a, .ref a_M_rowAt, .ref a_M_places, .ref a_M_rights, .ref a_M_weights, .int M_hasFactors, .ref a_M_pivots, .ref a_M_lower, .int M_hasSolution, .ref a_M_solution, .ref a_M_work, .ref a_M_isJoined, .int M_levels, .ref a_M_stored])), (a_M_work, .inl (g.2.1, 272, .inl v_M_work))] H → va_D A [(a_M, .inr (5, [.int M_thrown, .int M_n, .ref a_M_a, .ref a_M_rowAt, .ref a_M_places, .ref a_M_rights, .ref a_M_weights, .int M_hasFactors, .ref a_M_pivots, .ref a_M_lower, .int M_hasSolution, .ref a_M_solution, .ref a_M_work, .ref a_M_isJoined, .int M_levels, .ref a_M_stored])), (a_M_work, .inl (g.2.1, 272, .inl v_M_work))] → va_S A s.heap H locs → lv_has ls 8 [(3, .int x3), (2, .int x2), (1, .int x1), (0, .ref a_M)] → W p l e (headSpec (Cond.code yX5_eliminate cX5_eliminate 8 (some .int) :: cx_T) ({ frames := 2, cells := 0, slots := 0, locals := 44 } : Room)).room s m ([.ref a_M] : List Value).toArray below meth c H locs 0 0 (MQ below (va_Qi (fun (r : Int32) (u : (Nat → Int32)) => Q r u) (cx_B g (w0_X5_eliminate g a_M a_M_a a_M_rowAt a_M_places a_M_rights a_M_weights a_M_pivots a_M_lower a_M_solution a_M_work a_M_isJoined a_M_stored M_thrown M_n M_hasFactors M_hasSolution M_levels M_work) s.heap.size (w1_X5_eliminate g a_M a_M_a a_M_rowAt a_M_places a_M_rights a_M_weights a_M_pivots a_M_lower a_M_solution a_M_work a_M_isJoined a_M_stored M_thrown M_n M_hasFactors M_hasSolution M_levels M_work)) (va_A (w0_X5_eliminate g a_M a_M_a a_M_rowAt a_M_places a_M_rights a_M_weights a_M_pivots a_M_lower a_M_solution a_M_work a_M_isJoined a_M_stored M_thrown M_n M_hasFactors M_hasSolution M_levels M_work) s.heap.size)) ([.ref a_M] : List Value).toArray s 0 0 (va_A (w0_X5_eliminate g a_M a_M_a a_M_rowAt a_M_places a_M_rights a_M_weights a_M_pivots a_M_lower a_M_solution a_M_work a_M_isJoined a_M_stored M_thrown M_n M_hasFactors M_hasSolution M_levels M_work) s.heap.size)) (F0 m 14 ls [])) := ⟨_, rfl⟩
  obtain ⟨G3, hG3⟩ : ∃ G : Int32 → Int32 → Int32 → Int32 → (Nat → Int32) → Prop, G = (fun (x4 : Int32) (x1 : Int32) (x3 : Int32) (x2 : Int32) (v_M_work : (Nat → Int32)) => ∀ (H : Heap) (locs : List Loc) (ls : Array Slot), va_P g.1 vwCl [(a_M, .inr (5, [.int M_thrown, .int M_n, .ref a_M_a, .ref a_M_rowAt, .ref a_M_places, .ref a_M_rights, .ref a_M_weights, .int M_hasFactors, .ref a_M_pivots, .ref a_M_lower, .int M_hasSolution, .ref a_M_solution, .ref a_M_work, .ref a_M_isJoined, .int M_levels, .ref a_M_stored])), (a_M_work, .inl (g.2.1, 272, .inl v_M_work))] H → va_D A [(a_M, .inr (5, [.int M_thrown, .int M_n, .ref a_M_a, .ref a_M_rowAt, .ref a_M_places, .ref a_M_rights, .ref a_M_weights, .int M_hasFactors, .ref a_M_pivots, .ref a_M_lower, .int M_hasSolution, .ref a_M_solution, .ref a_M_work, .ref a_M_isJoined, .int M_levels, .ref a_M_stored])), (a_M_work, .inl (g.2.1, 272, .inl v_M_work))] → va_S A s.heap H locs → lv_has ls 8 [(4, .int x4), (1, .int x1), (3, .int x3), (2, .int x2), (0, .ref a_M)] → W p l e (headSpec (Cond.code yX5_eliminate cX5_eliminate 8 (some .int) :: cx_T) ({ frames := 2, cells := 0, slots := 0, locals := 44 } : Room)).room s m ([.ref a_M] : List Value).toArray below meth c H locs 0 0 (MQ below (va_Qi (fun (r : Int32) (u : (Nat → Int32)) => Q r u) (cx_B g (w0_X5_eliminate g a_M a_M_a a_M_rowAt a_M_places a_M_rights a_M_weights a_M_pivots a_M_lower a_M_solution a_M_work a_M_isJoined a_M_stored M_thrown M_n M_hasFactors M_hasSolution M_levels M_work) s.heap.size (w1_X5_eliminate g a_M a_M_a a_M_rowAt a_M_places a_M_rights a_M_weights a_M_pivots a_M_lower a_M_solution a_M_work a_M_isJoined a_M_stored M_thrown M_n M_hasFactors M_hasSolution M_levels M_work)) (va_A (w0_X5_eliminate g a_M a_M_a a_M_rowAt a_M_places a_M_rights a_M_weights a_M_pivots a_M_lower a_M_solution a_M_work a_M_isJoined a_M_stored M_thrown M_n M_hasFactors M_hasSolution M_levels M_work) s.heap.size)) ([.ref a_M] : List Value).toArray s 0 0 (va_A (w0_X5_eliminate g a_M a_M_a a_M_rowAt a_M_places a_M_rights a_M_weights a_M_pivots a_M_lower a_M_solution a_M_work a_M_isJoined a_M_stored M_thrown M_n M_hasFactors M_hasSolution M_levels M_work) s.heap.size)) (F0 m 65 ls [])) := ⟨_, rfl⟩
  obtain ⟨G4, hG4⟩ : ∃ G : Int32 → Int32 → Int32 → Int32 → Int32 → (Nat → Int32) → Prop, G = (fun (x5 : Int32) (x4 : Int32) (x1 : Int32) (x3 : Int32) (x2 : Int32) (v_M_work : (Nat → Int32)) => ∀ (H : Heap) (locs : List Loc) (ls : Array Slot), va_P g.1 vwCl [(a_M, .inr (5, [.int M_thrown, .int M_n, .ref a_M_a, .ref a_M_rowAt, .ref a_M_places, .ref a_M_rights, .ref a_M_weights, .int M_hasFactors, .ref a_M_pivots, .ref a_M_lower, .int M_hasSolution, .ref a_M_solution, .ref a_M_work, .ref a_M_isJoined, .int M_levels, .ref a_M_stored])), (a_M_work, .inl (g.2.1, 272, .inl v_M_work))] H → va_D A [(a_M, .inr (5, [.int M_thrown, .int M_n, .ref a_M_a, .ref a_M_rowAt, .ref a_M_places, .ref a_M_rights, .ref a_M_weights, .int M_hasFactors, .ref a_M_pivots, .ref a_M_lower, .int M_hasSolution, .ref a_M_solution, .ref a_M_work, .ref a_M_isJoined, .int M_levels, .ref a_M_stored])), (a_M_work, .inl (g.2.1, 272, .inl v_M_work))] → va_S A s.heap H locs → lv_has ls 8 [(5, .int x5), (4, .int x4), (1, .int x1), (3, .int x3), (2, .int x2), (0, .ref a_M)] → W p l e (headSpec (Cond.code yX5_eliminate cX5_eliminate 8 (some .int) :: cx_T) ({ frames := 2, cells := 0, slots := 0, locals := 44 } : Room)).room s m ([.ref a_M] : List Value).toArray below meth c H locs 0 0 (MQ below (va_Qi (fun (r : Int32) (u : (Nat → Int32)) => Q r u) (cx_B g (w0_X5_eliminate g a_M a_M_a a_M_rowAt a_M_places a_M_rights a_M_weights a_M_pivots a_M_lower a_M_solution a_M_work a_M_isJoined a_M_stored M_thrown M_n M_hasFactors M_hasSolution M_levels M_work) s.heap.size (w1_X5_eliminate g a_M a_M_a a_M_rowAt a_M_places a_M_rights a_M_weights a_M_pivots a_M_lower a_M_solution a_M_work a_M_isJoined a_M_stored M_thrown M_n M_hasFactors M_hasSolution M_levels M_work)) (va_A (w0_X5_eliminate g a_M a_M_a a_M_rowAt a_M_places a_M_rights a_M_weights a_M_pivots a_M_lower a_M_solution a_M_work a_M_isJoined a_M_stored M_thrown M_n M_hasFactors M_hasSolution M_levels M_work) s.heap.size)) ([.ref a_M] : List Value).toArray s 0 0 (va_A (w0_X5_eliminate g a_M a_M_a a_M_rowAt a_M_places a_M_rights a_M_weights a_M_pivots a_M_lower a_M_solution a_M_work a_M_isJoined a_M_stored M_thrown M_n M_hasFactors M_hasSolution M_levels M_work) s.heap.size)) (F0 m 159 ls [])) := ⟨_, rfl⟩
  obtain ⟨G5, hG5⟩ : ∃ G : Int32 → Int32 → Int32 → Int32 → Int32 → (Nat → Int32) → Prop, G = (fun (x5 : Int32) (x4 : Int32) (x1 : Int32) (x3 : Int32) (x2 : Int32) (v_M_work : (Nat → Int32)) => ∀ (H : Heap) (locs : List Loc) (ls : Array Slot), va_P g.1 vwCl [(a_M, .inr (5, [.int M_thrown, .int M_n, .ref a_M_a, .ref a_M_rowAt, .ref a_M_places, .ref a_M_rights, .ref a_M_weights, .int M_hasFactors, .ref a_M_pivots, .ref a_M_lower, .int M_hasSolution, .ref a_M_solution, .ref a_M_work, .ref a_M_isJoined, .int M_levels, .ref a_M_stored])), (a_M_work, .inl (g.2.1, 272, .inl v_M_work))] H → va_D A [(a_M, .inr (5, [.int M_thrown, .int M_n, .ref a_M_a, .ref a_M_rowAt, .ref a_M_places, .ref a_M_rights, .ref a_M_weights, .int M_hasFactors, .ref a_M_pivots, .ref a_M_lower, .int M_hasSolution, .ref a_M_solution, .ref a_M_work, .ref a_M_isJoined, .int M_levels, .ref a_M_stored])), (a_M_work, .inl (g.2.1, 272, .inl v_M_work))] → va_S A s.heap H locs → lv_has ls 8 [(5, .int x5), (4, .int x4), (1, .int x1), (3, .int x3), (2, .int x2), (0, .ref a_M)] → W p l e (headSpec (Cond.code yX5_eliminate cX5_eliminate 8 (some .int) :: cx_T) ({ frames := 2, cells := 0, slots := 0, locals := 44 } : Room)).room s m ([.ref a_M] : List Value).toArray below meth c H locs 0 0 (MQ below (va_Qi (fun (r : Int32) (u : (Nat → Int32)) => Q r u) (cx_B g (w0_X5_eliminate g a_M a_M_a a_M_rowAt a_M_places a_M_rights a_M_weights a_M_pivots a_M_lower a_M_solution a_M_work a_M_isJoined a_M_stored M_thrown M_n M_hasFactors M_hasSolution M_levels M_work) s.heap.size (w1_X5_eliminate g a_M a_M_a a_M_rowAt a_M_places a_M_rights a_M_weights a_M_pivots a_M_lower a_M_solution a_M_work a_M_isJoined a_M_stored M_thrown M_n M_hasFactors M_hasSolution M_levels M_work)) (va_A (w0_X5_eliminate g a_M a_M_a a_M_rowAt a_M_places a_M_rights a_M_weights a_M_pivots a_M_lower a_M_solution a_M_work a_M_isJoined a_M_stored M_thrown M_n M_hasFactors M_hasSolution M_levels M_work) s.heap.size)) ([.ref a_M] : List Value).toArray s 0 0 (va_A (w0_X5_eliminate g a_M a_M_a a_M_rowAt a_M_places a_M_rights a_M_weights a_M_pivots a_M_lower a_M_solution a_M_work a_M_isJoined a_M_stored M_thrown M_n M_hasFactors M_hasSolution M_levels M_work) s.heap.size)) (F0 m 202 ls [])) := ⟨_, rfl⟩
  obtain ⟨G6, hG6⟩ : ∃ G : Int32 → Int32 → Int32 → Int32 → Int32 → Int32 → Int32 → (Nat → Int32) → Prop, G = (fun (x7 : Int32) (x6 : Int32) (x5 : Int32) (x4 : Int32) (x1 : Int32) (x3 : Int32) (x2 : Int32) (v_M_work : (Nat → Int32)) => ∀ (H : Heap) (locs : List Loc) (ls : Array Slot), va_P g.1 vwCl [(a_M, .inr (5, [.int M_thrown, .int M_n, .ref a_M_a, .ref a_M_rowAt, .ref a_M_places, .ref a_M_rights, .ref a_M_weights, .int M_hasFactors, .ref a_M_pivots, .ref a_M_lower, .int M_hasSolution, .ref a_M_solution, .ref a_M_work, .ref a_M_isJoined, .int M_levels, .ref a_M_stored])), (a_M_work, .inl (g.2.1, 272, .inl v_M_work))] H → va_D A [(a_M, .inr (5, [.int M_thrown, .int M_n, .ref a_M_a, .ref a_M_rowAt, .ref a_M_places, .ref a_M_rights, .ref a_M_weights, .int M_hasFactors, .ref a_M_pivots, .ref a_M_lower, .int M_hasSolution, .ref a_M_solution, .ref a_M_work, .ref a_M_isJoined, .int M_levels, .ref a_M_stored])), (a_M_work, .inl (g.2.1, 272, .inl v_M_work))] → va_S A s.heap H locs → lv_has ls 8 [(7, .int x7), (6, .int x6), (5, .int x5), (4, .int x4), (1, .int x1), (3, .int x3), (2, .int x2), (0, .ref a_M)] → W p l e (headSpec (Cond.code yX5_eliminate cX5_eliminate 8 (some .int) :: cx_T) ({ frames := 2, cells := 0, slots := 0, locals := 44 } : Room)).room s m ([.ref a_M] : List Value).toArray below meth c H locs 0 0 (MQ below (va_Qi (fun (r : Int32) (u : (Nat → Int32)) => Q r u) (cx_B g (w0_X5_eliminate g a_M a_M_a a_M_rowAt a_M_places a_M_rights a_M_weights a_M_pivots a_M_lower a_M_solution a_M_work a_M_isJoined a_M_stored M_thrown M_n M_hasFactors M_hasSolution M_levels M_work) s.heap.size (w1_X5_eliminate g a_M a_M_a a_M_rowAt a_M_places a_M_rights a_M_weights a_M_pivots a_M_lower a_M_solution a_M_work a_M_isJoined a_M_stored M_thrown M_n M_hasFactors M_hasSolution M_levels M_work)) (va_A (w0_X5_eliminate g a_M a_M_a a_M_rowAt a_M_places a_M_rights a_M_weights a_M_pivots a_M_lower a_M_solution a_M_work a_M_isJoined a_M_stored M_thrown M_n M_hasFactors M_hasSolution M_levels M_work) s.heap.size)) ([.ref a_M] : List Value).toArray s 0 0 (va_A (w0_X5_eliminate g a_M a_M_a a_M_rowAt a_M_places a_M_rights a_M_weights a_M_pivots a_M_lower a_M_solution a_M_work a_M_isJoined a_M_stored M_thrown M_n M_hasFactors M_hasSolution M_levels M_work) s.heap.size)) (F0 m 227 ls [])) := ⟨_, rfl⟩
  have hs1 : ∀ (x2 : Int32) (x1 : Int32) (v_M_work : (Nat → Int32)), vc_X5_eliminate_1 M_thrown M_n M_hasFactors M_hasSolution M_levels M_work Q G1 G2 G3 G4 G5 G6 x2 x1 v_M_work → G1 x2 x1 v_M_work := by
    rw [hG1, hG2, hG3, hG4, hG5, hG6]
    intro x2 x1 v_M_work hv H locs ls hP hD hS hl
    unfold vc_X5_eliminate_1 at hv
    refine lv_iload_n hx hb dX5_eliminate_4 rfl (lv_at hl 0 rfl) ?_
    refine lv_aload_n hx hb dX5_eliminate_5 rfl (lv_at hl 2 rfl) ?_
    refine va_get (D := g.1) (ci := 5) (v := .int M_n) (C := RX5) (T := TX5) (N := 16) hx hb hts cw_in_X5 hown hK.1 hP 0 rfl rfl 1 (by decide) (hts _ cw_f_X5_9) (fun _ h9 => h9) rfl dX5_eliminate_6 ?_
    refine lv_icmp_ge (tgt := 301) hx hb dX5_eliminate_9 (by decide) (fun hc => ?_) (fun hc => ?_)
    · replace hv := hv.1 hc
      refine lv_iload_n hx hb dX5_eliminate_301 rfl (lv_at hl 1 rfl) ?_
      exact cx_iret hx hb hr hlocks hAe hS v_M_work hv hP hD dX5_eliminate_302
    · replace hv := hv.2 hc
      refine lv_iload_n hx hb dX5_eliminate_12 rfl (lv_at hl 0 rfl) ?_
      refine lv_istore_n (lv' := [(3, .int x2), (2, .int x2), (1, .int x1), (0, .ref a_M)]) hx hb dX5_eliminate_13 rfl hl (by decide) rfl (fun ls hl => ?_)
      exact hv _ _ _ hP hD hS (lv_sub hl [0, 1, 2, 3] rfl)
  have hs2 : ∀ (x3 : Int32) (x2 : Int32) (x1 : Int32) (v_M_work : (Nat → Int32)), vc_X5_eliminate_2 M_thrown M_n M_hasFactors M_hasSolution M_levels M_work Q G1 G2 G3 G4 G5 G6 x3 x2 x1 v_M_work → G2 x3 x2 x1 v_M_work := by
    rw [hG1, hG2, hG3, hG4, hG5, hG6]
    intro x3 x2 x1 v_M_work hv H locs ls hP hD hS hl
    unfold vc_X5_eliminate_2 at hv
    refine lv_iload_n hx hb dX5_eliminate_14 rfl (lv_at hl 0 rfl) ?_
    refine lv_aload_n hx hb dX5_eliminate_15 rfl (lv_at hl 3 rfl) ?_
    refine va_get (D := g.1) (ci := 5) (v := .int M_n) (C := RX5) (T := TX5) (N := 16) hx hb hts cw_in_X5 hown hK.1 hP 0 rfl rfl 1 (by decide) (hts _ cw_f_X5_9) (fun _ h9 => h9) rfl dX5_eliminate_16 ?_
    refine lv_icmp_ge (tgt := 41) hx hb dX5_eliminate_19 (by decide) (fun hc => ?_) (fun hc => ?_)
    · replace hv := hv.1 hc
      refine lv_iload_n hx hb dX5_eliminate_41 rfl (lv_at hl 0 rfl) ?_
      refine lv_aload_n hx hb dX5_eliminate_42 rfl (lv_at hl 3 rfl) ?_
      refine va_get (D := g.1) (ci := 5) (v := .int M_n) (C := RX5) (T := TX5) (N := 16) hx hb hts cw_in_X5 hown hK.1 hP 0 rfl rfl 1 (by decide) (hts _ cw_f_X5_9) (fun _ h9 => h9) rfl dX5_eliminate_43 ?_
      refine lv_icmp_ne (tgt := 51) hx hb dX5_eliminate_46 (by decide) (fun hc => ?_) (fun hc => ?_)
      · replace hv := hv.2 hc
        refine lv_iload_n hx hb dX5_eliminate_51 rfl (lv_at hl 0 rfl) ?_
        refine lv_iload_n hx hb dX5_eliminate_52 rfl (lv_at hl 1 rfl) ?_
        refine lv_icmp_eq (tgt := 126) hx hb dX5_eliminate_53 (by decide) (fun hc => ?_) (fun hc => ?_)
        · replace hv := hv.1 hc
          refine lv_iload_n hx hb dX5_eliminate_126 rfl (lv_at hl 2 rfl) ?_
          refine lv_aload_n hx hb dX5_eliminate_127 rfl (lv_at hl 3 rfl) ?_
          refine va_get (D := g.1) (ci := 5) (v := .ref a_M_work) (C := RX5) (T := TX5) (N := 16) hx hb hts cw_in_X5 hown hK.1 hP 0 rfl rfl 12 (by decide) (hts _ cw_f_X5_38) (fun _ h9 => h9) rfl dX5_eliminate_128 ?_
          refine lv_iload_n hx hb dX5_eliminate_131 rfl (lv_at hl 1 rfl) ?_
          refine lv_iload_n hx hb dX5_eliminate_132 rfl (lv_at hl 1 rfl) ?_
          refine cx_iSr (As := [.int x2, .int x2]) (rest := [.ref a_M_work, .int x1]) ⟨hx, hb, hml, hown, hts⟩ (cp_X5_cell l g x2 x2) (cx_cwS 2 hts cw_m_X5_91 cw_t_X5_cell cw_n_X5 cw_c_X5_cell rfl rfl (by decide +kernel) ⟨Nat.le_of_ble_eq_true rfl, Nat.le_of_ble_eq_true rfl⟩) hK hP hD hS hA [] rfl rfl rfl hl.1 rfl (Nat.le_of_ble_eq_true rfl) dX5_eliminate_133 ⟨Nat.le_of_ble_eq_true rfl, Nat.le_of_ble_eq_true rfl⟩ (fun r_1 H locs hr9 hP hS => ?_)
          replace hr9 : r_1 = (f_at17 x2 x2) := hr9
          subst hr9
          obtain ⟨h_2, hv⟩ := hv
          refine va_iald (D := g.1) hx hb hK.1 hP 1 0 rfl rfl h_2 dX5_eliminate_136 ?_
          refine cx_iSr (As := [.int x1, .int (v_M_work (Int32.toNatClampNeg (f_at17 x2 x2)))]) (rest := []) ⟨hx, hb, hml, hown, hts⟩ (cp_X5_times l g x1 (v_M_work (Int32.toNatClampNeg (f_at17 x2 x2)))) (cx_cwS 2 hts cw_m_X5_58 cw_t_X5_times cw_n_X5 cw_c_X5_times rfl rfl (by decide +kernel) ⟨Nat.le_of_ble_eq_true rfl, Nat.le_of_ble_eq_true rfl⟩) hK hP hD hS hA [] rfl rfl rfl hl.1 rfl (Nat.le_of_ble_eq_true rfl) dX5_eliminate_137 ⟨Nat.le_of_ble_eq_true rfl, Nat.le_of_ble_eq_true rfl⟩ (fun r_3 H locs hr9 hP hS => ?_)
          replace hr9 : r_3 = (f_times x1 (v_M_work (Int32.toNatClampNeg (f_at17 x2 x2)))) := hr9
          subst hr9
          refine lv_topi (fun x1_4 ex1_4 => ?_)
          replace hv := hv x1_4 ex1_4
          refine lv_istore_n (lv' := [(1, .int x1_4), (3, .int x3), (2, .int x2), (0, .ref a_M)]) hx hb dX5_eliminate_140 rfl hl (by decide) rfl (fun ls hl => ?_)
          refine lv_aload_n hx hb dX5_eliminate_141 rfl (lv_at hl 3 rfl) ?_
          refine va_get (D := g.1) (ci := 5) (v := .ref a_M_work) (C := RX5) (T := TX5) (N := 16) hx hb hts cw_in_X5 hown hK.1 hP 0 rfl rfl 12 (by decide) (hts _ cw_f_X5_38) (fun _ h9 => h9) rfl dX5_eliminate_142 ?_
          refine lv_iload_n hx hb dX5_eliminate_145 rfl (lv_at hl 2 rfl) ?_
          refine lv_iload_n hx hb dX5_eliminate_146 rfl (lv_at hl 2 rfl) ?_
          refine cx_iSr (As := [.int x2, .int x2]) (rest := [.ref a_M_work]) ⟨hx, hb, hml, hown, hts⟩ (cp_X5_cell l g x2 x2) (cx_cwS 2 hts cw_m_X5_91 cw_t_X5_cell cw_n_X5 cw_c_X5_cell rfl rfl (by decide +kernel) ⟨Nat.le_of_ble_eq_true rfl, Nat.le_of_ble_eq_true rfl⟩) hK hP hD hS hA [] rfl rfl rfl hl.1 rfl (Nat.le_of_ble_eq_true rfl) dX5_eliminate_147 ⟨Nat.le_of_ble_eq_true rfl, Nat.le_of_ble_eq_true rfl⟩ (fun r_5 H locs hr9 hP hS => ?_)
          replace hr9 : r_5 = (f_at17 x2 x2) := hr9
          subst hr9
          obtain ⟨h_6, hv⟩ := hv
          refine va_iald (D := g.1) hx hb hK.1 hP 1 0 rfl rfl h_6 dX5_eliminate_150 ?_
          refine cx_iSr (As := [.int (v_M_work (Int32.toNatClampNeg (f_at17 x2 x2)))]) (rest := []) ⟨hx, hb, hml, hown, hts⟩ (cp_X5_over l g (v_M_work (Int32.toNatClampNeg (f_at17 x2 x2)))) (cx_cwS 1 hts cw_m_X5_97 cw_t_X5_over cw_n_X5 cw_c_X5_over rfl rfl (by decide +kernel) ⟨Nat.le_of_ble_eq_true rfl, Nat.le_of_ble_eq_true rfl⟩) hK hP hD hS hA [] rfl rfl rfl hl.1 rfl (Nat.le_of_ble_eq_true rfl) dX5_eliminate_151 ⟨Nat.le_of_ble_eq_true rfl, Nat.le_of_ble_eq_true rfl⟩ (fun r_7 H locs hr9 hP hS => ?_)
          replace hr9 : r_7 = (f_rec (v_M_work (Int32.toNatClampNeg (f_at17 x2 x2)))) := hr9
          subst hr9
          refine lv_topi (fun x4_8 ex4_8 => ?_)
          replace hv := hv x4_8 ex4_8
          refine lv_istore (lv' := [(4, .int x4_8), (1, .int x1_4), (3, .int x3), (2, .int x2), (0, .ref a_M)]) hx hb dX5_eliminate_154 hl (by decide) rfl (fun ls hl => ?_)
          refine lv_iconst (v := 0) hx hb dX5_eliminate_156 (by decide) ?_
          refine lv_istore (lv' := [(5, .int 0), (4, .int x4_8), (1, .int x1_4), (3, .int x3), (2, .int x2), (0, .ref a_M)]) hx hb dX5_eliminate_157 hl (by decide) rfl (fun ls hl => ?_)
          exact hv _ _ _ hP hD hS (lv_sub hl [0, 1, 2, 3, 4, 5] rfl)
        · replace hv := hv.2 hc
          refine lv_iconst (v := 0) hx hb dX5_eliminate_56 (by decide) ?_
          refine lv_iload_n hx hb dX5_eliminate_57 rfl (lv_at hl 2 rfl) ?_
          refine cx_iSr (As := [.int 0, .int x1]) (rest := []) ⟨hx, hb, hml, hown, hts⟩ (cp_X5_minus l g 0 x1) (cx_cwS 2 hts cw_m_X5_94 cw_t_X5_minus cw_n_X5 cw_c_X5_minus rfl rfl (by decide +kernel) ⟨Nat.le_of_ble_eq_true rfl, Nat.le_of_ble_eq_true rfl⟩) hK hP hD hS hA [] rfl rfl rfl hl.1 rfl (Nat.le_of_ble_eq_true rfl) dX5_eliminate_58 ⟨Nat.le_of_ble_eq_true rfl, Nat.le_of_ble_eq_true rfl⟩ (fun r_9 H locs hr9 hP hS => ?_)
          replace hr9 : r_9 = (g_minus 0 x1) := hr9
          subst hr9
          refine lv_topi (fun x1_10 ex1_10 => ?_)
          replace hv := hv x1_10 ex1_10
          refine lv_istore_n (lv' := [(1, .int x1_10), (3, .int x3), (2, .int x2), (0, .ref a_M)]) hx hb dX5_eliminate_61 rfl hl (by decide) rfl (fun ls hl => ?_)
          refine lv_iconst (v := 0) hx hb dX5_eliminate_62 (by decide) ?_
          refine lv_istore (lv' := [(4, .int 0), (1, .int x1_10), (3, .int x3), (2, .int x2), (0, .ref a_M)]) hx hb dX5_eliminate_63 hl (by decide) rfl (fun ls hl => ?_)
          exact hv _ _ _ hP hD hS (lv_sub hl [0, 1, 2, 3, 4] rfl)
      · replace hv := hv.1 hc
        refine lv_iconst (v := 0) hx hb dX5_eliminate_49 (by decide) ?_
        exact cx_iret hx hb hr hlocks hAe hS v_M_work hv hP hD dX5_eliminate_50
    · replace hv := hv.2 hc
      refine lv_aload_n hx hb dX5_eliminate_22 rfl (lv_at hl 3 rfl) ?_
      refine va_get (D := g.1) (ci := 5) (v := .ref a_M_work) (C := RX5) (T := TX5) (N := 16) hx hb hts cw_in_X5 hown hK.1 hP 0 rfl rfl 12 (by decide) (hts _ cw_f_X5_38) (fun _ h9 => h9) rfl dX5_eliminate_23 ?_
      refine lv_iload_n hx hb dX5_eliminate_26 rfl (lv_at hl 0 rfl) ?_
      refine lv_iload_n hx hb dX5_eliminate_27 rfl (lv_at hl 1 rfl) ?_
      refine cx_iSr (As := [.int x3, .int x2]) (rest := [.ref a_M_work]) ⟨hx, hb, hml, hown, hts⟩ (cp_X5_cell l g x3 x2) (cx_cwS 2 hts cw_m_X5_91 cw_t_X5_cell cw_n_X5 cw_c_X5_cell rfl rfl (by decide +kernel) ⟨Nat.le_of_ble_eq_true rfl, Nat.le_of_ble_eq_true rfl⟩) hK hP hD hS hA [] rfl rfl rfl hl.1 rfl (Nat.le_of_ble_eq_true rfl) dX5_eliminate_28 ⟨Nat.le_of_ble_eq_true rfl, Nat.le_of_ble_eq_true rfl⟩ (fun r_11 H locs hr9 hP hS => ?_)
      replace hr9 : r_11 = (f_at17 x3 x2) := hr9
      subst hr9
      obtain ⟨h_12, hv⟩ := hv
      refine va_iald (D := g.1) hx hb hK.1 hP 1 0 rfl rfl h_12 dX5_eliminate_31 ?_
      refine lv_if_ne (tgt := 41) hx hb dX5_eliminate_32 (by decide) (fun hc => ?_) (fun hc => ?_)
      · replace hv := hv.2 hc
        refine lv_iload_n hx hb dX5_eliminate_41 rfl (lv_at hl 0 rfl) ?_
        refine lv_aload_n hx hb dX5_eliminate_42 rfl (lv_at hl 3 rfl) ?_
        refine va_get (D := g.1) (ci := 5) (v := .int M_n) (C := RX5) (T := TX5) (N := 16) hx hb hts cw_in_X5 hown hK.1 hP 0 rfl rfl 1 (by decide) (hts _ cw_f_X5_9) (fun _ h9 => h9) rfl dX5_eliminate_43 ?_
        refine lv_icmp_ne (tgt := 51) hx hb dX5_eliminate_46 (by decide) (fun hc => ?_) (fun hc => ?_)
        · replace hv := hv.2 hc
          refine lv_iload_n hx hb dX5_eliminate_51 rfl (lv_at hl 0 rfl) ?_
          refine lv_iload_n hx hb dX5_eliminate_52 rfl (lv_at hl 1 rfl) ?_
          refine lv_icmp_eq (tgt := 126) hx hb dX5_eliminate_53 (by decide) (fun hc => ?_) (fun hc => ?_)
          · replace hv := hv.1 hc
            refine lv_iload_n hx hb dX5_eliminate_126 rfl (lv_at hl 2 rfl) ?_
            refine lv_aload_n hx hb dX5_eliminate_127 rfl (lv_at hl 3 rfl) ?_
            refine va_get (D := g.1) (ci := 5) (v := .ref a_M_work) (C := RX5) (T := TX5) (N := 16) hx hb hts cw_in_X5 hown hK.1 hP 0 rfl rfl 12 (by decide) (hts _ cw_f_X5_38) (fun _ h9 => h9) rfl dX5_eliminate_128 ?_
            refine lv_iload_n hx hb dX5_eliminate_131 rfl (lv_at hl 1 rfl) ?_
            refine lv_iload_n hx hb dX5_eliminate_132 rfl (lv_at hl 1 rfl) ?_
            refine cx_iSr (As := [.int x2, .int x2]) (rest := [.ref a_M_work, .int x1]) ⟨hx, hb, hml, hown, hts⟩ (cp_X5_cell l g x2 x2) (cx_cwS 2 hts cw_m_X5_91 cw_t_X5_cell cw_n_X5 cw_c_X5_cell rfl rfl (by decide +kernel) ⟨Nat.le_of_ble_eq_true rfl, Nat.le_of_ble_eq_true rfl⟩) hK hP hD hS hA [] rfl rfl rfl hl.1 rfl (Nat.le_of_ble_eq_true rfl) dX5_eliminate_133 ⟨Nat.le_of_ble_eq_true rfl, Nat.le_of_ble_eq_true rfl⟩ (fun r_13 H locs hr9 hP hS => ?_)
            replace hr9 : r_13 = (f_at17 x2 x2) := hr9
            subst hr9
            obtain ⟨h_14, hv⟩ := hv
            refine va_iald (D := g.1) hx hb hK.1 hP 1 0 rfl rfl h_14 dX5_eliminate_136 ?_
            refine cx_iSr (As := [.int x1, .int (v_M_work (Int32.toNatClampNeg (f_at17 x2 x2)))]) (rest := []) ⟨hx, hb, hml, hown, hts⟩ (cp_X5_times l g x1 (v_M_work (Int32.toNatClampNeg (f_at17 x2 x2)))) (cx_cwS 2 hts cw_m_X5_58 cw_t_X5_times cw_n_X5 cw_c_X5_times rfl rfl (by decide +kernel) ⟨Nat.le_of_ble_eq_true rfl, Nat.le_of_ble_eq_true rfl⟩) hK hP hD hS hA [] rfl rfl rfl hl.1 rfl (Nat.le_of_ble_eq_true rfl) dX5_eliminate_137 ⟨Nat.le_of_ble_eq_true rfl, Nat.le_of_ble_eq_true rfl⟩ (fun r_15 H locs hr9 hP hS => ?_)
            replace hr9 : r_15 = (f_times x1 (v_M_work (Int32.toNatClampNeg (f_at17 x2 x2)))) := hr9
            subst hr9
            refine lv_topi (fun x1_16 ex1_16 => ?_)
            replace hv := hv x1_16 ex1_16
            refine lv_istore_n (lv' := [(1, .int x1_16), (3, .int x3), (2, .int x2), (0, .ref a_M)]) hx hb dX5_eliminate_140 rfl hl (by decide) rfl (fun ls hl => ?_)
            refine lv_aload_n hx hb dX5_eliminate_141 rfl (lv_at hl 3 rfl) ?_
            refine va_get (D := g.1) (ci := 5) (v := .ref a_M_work) (C := RX5) (T := TX5) (N := 16) hx hb hts cw_in_X5 hown hK.1 hP 0 rfl rfl 12 (by decide) (hts _ cw_f_X5_38) (fun _ h9 => h9) rfl dX5_eliminate_142 ?_
            refine lv_iload_n hx hb dX5_eliminate_145 rfl (lv_at hl 2 rfl) ?_
            refine lv_iload_n hx hb dX5_eliminate_146 rfl (lv_at hl 2 rfl) ?_
            refine cx_iSr (As := [.int x2, .int x2]) (rest := [.ref a_M_work]) ⟨hx, hb, hml, hown, hts⟩ (cp_X5_cell l g x2 x2) (cx_cwS 2 hts cw_m_X5_91 cw_t_X5_cell cw_n_X5 cw_c_X5_cell rfl rfl (by decide +kernel) ⟨Nat.le_of_ble_eq_true rfl, Nat.le_of_ble_eq_true rfl⟩) hK hP hD hS hA [] rfl rfl rfl hl.1 rfl (Nat.le_of_ble_eq_true rfl) dX5_eliminate_147 ⟨Nat.le_of_ble_eq_true rfl, Nat.le_of_ble_eq_true rfl⟩ (fun r_17 H locs hr9 hP hS => ?_)
            replace hr9 : r_17 = (f_at17 x2 x2) := hr9
            subst hr9
            obtain ⟨h_18, hv⟩ := hv
            refine va_iald (D := g.1) hx hb hK.1 hP 1 0 rfl rfl h_18 dX5_eliminate_150 ?_
            refine cx_iSr (As := [.int (v_M_work (Int32.toNatClampNeg (f_at17 x2 x2)))]) (rest := []) ⟨hx, hb, hml, hown, hts⟩ (cp_X5_over l g (v_M_work (Int32.toNatClampNeg (f_at17 x2 x2)))) (cx_cwS 1 hts cw_m_X5_97 cw_t_X5_over cw_n_X5 cw_c_X5_over rfl rfl (by decide +kernel) ⟨Nat.le_of_ble_eq_true rfl, Nat.le_of_ble_eq_true rfl⟩) hK hP hD hS hA [] rfl rfl rfl hl.1 rfl (Nat.le_of_ble_eq_true rfl) dX5_eliminate_151 ⟨Nat.le_of_ble_eq_true rfl, Nat.le_of_ble_eq_true rfl⟩ (fun r_19 H locs hr9 hP hS => ?_)
            replace hr9 : r_19 = (f_rec (v_M_work (Int32.toNatClampNeg (f_at17 x2 x2)))) := hr9
            subst hr9
            refine lv_topi (fun x4_20 ex4_20 => ?_)
            replace hv := hv x4_20 ex4_20
            refine lv_istore (lv' := [(4, .int x4_20), (1, .int x1_16), (3, .int x3), (2, .int x2), (0, .ref a_M)]) hx hb dX5_eliminate_154 hl (by decide) rfl (fun ls hl => ?_)
            refine lv_iconst (v := 0) hx hb dX5_eliminate_156 (by decide) ?_
            refine lv_istore (lv' := [(5, .int 0), (4, .int x4_20), (1, .int x1_16), (3, .int x3), (2, .int x2), (0, .ref a_M)]) hx hb dX5_eliminate_157 hl (by decide) rfl (fun ls hl => ?_)
            exact hv _ _ _ hP hD hS (lv_sub hl [0, 1, 2, 3, 4, 5] rfl)
          · replace hv := hv.2 hc
            refine lv_iconst (v := 0) hx hb dX5_eliminate_56 (by decide) ?_
            refine lv_iload_n hx hb dX5_eliminate_57 rfl (lv_at hl 2 rfl) ?_
            refine cx_iSr (As := [.int 0, .int x1]) (rest := []) ⟨hx, hb, hml, hown, hts⟩ (cp_X5_minus l g 0 x1) (cx_cwS 2 hts cw_m_X5_94 cw_t_X5_minus cw_n_X5 cw_c_X5_minus rfl rfl (by decide +kernel) ⟨Nat.le_of_ble_eq_true rfl, Nat.le_of_ble_eq_true rfl⟩) hK hP hD hS hA [] rfl rfl rfl hl.1 rfl (Nat.le_of_ble_eq_true rfl) dX5_eliminate_58 ⟨Nat.le_of_ble_eq_true rfl, Nat.le_of_ble_eq_true rfl⟩ (fun r_21 H locs hr9 hP hS => ?_)
            replace hr9 : r_21 = (g_minus 0 x1) := hr9
            subst hr9
            refine lv_topi (fun x1_22 ex1_22 => ?_)
            replace hv := hv x1_22 ex1_22
            refine lv_istore_n (lv' := [(1, .int x1_22), (3, .int x3), (2, .int x2), (0, .ref a_M)]) hx hb dX5_eliminate_61 rfl hl (by decide) rfl (fun ls hl => ?_)
            refine lv_iconst (v := 0) hx hb dX5_eliminate_62 (by decide) ?_
            refine lv_istore (lv' := [(4, .int 0), (1, .int x1_22), (3, .int x3), (2, .int x2), (0, .ref a_M)]) hx hb dX5_eliminate_63 hl (by decide) rfl (fun ls hl => ?_)
            exact hv _ _ _ hP hD hS (lv_sub hl [0, 1, 2, 3, 4] rfl)
        · replace hv := hv.1 hc
          refine lv_iconst (v := 0) hx hb dX5_eliminate_49 (by decide) ?_
          exact cx_iret hx hb hr hlocks hAe hS v_M_work hv hP hD dX5_eliminate_50
      · replace hv := hv.1 hc
        obtain ⟨x3_23, ex3_23⟩ : ∃ y : Int32, y = x3 + 1 := ⟨_, rfl⟩
        replace hv := hv x3_23 ex3_23
        refine lv_iinc (v := x3_23) (lv' := [(3, .int x3_23), (2, .int x2), (1, .int x1), (0, .ref a_M)]) hx hb dX5_eliminate_35 hl (k := 0) rfl (by rw [ex3_23]; rfl) (by decide) rfl (fun ls hl => ?_)
        refine lv_goto (tgt := 14) hx hb dX5_eliminate_38 (by decide) ?_
        exact hv _ _ _ hP hD hS (lv_sub hl [0, 1, 2, 3] rfl)
  have hs3 : ∀ (x4 : Int32) (x1 : Int32) (x3 : Int32) (x2 : Int32) (v_M_work : (Nat → Int32)), vc_X5_eliminate_3 M_thrown M_n M_hasFactors M_hasSolution M_levels M_work Q G1 G2 G3 G4 G5 G6 x4 x1 x3 x2 v_M_work → G3 x4 x1 x3 x2 v_M_work := by
    rw [hG1, hG2, hG3, hG4, hG5, hG6]
    intro x4 x1 x3 x2 v_M_work hv H locs ls hP hD hS hl
    unfold vc_X5_eliminate_3 at hv
    refine lv_iload hx hb dX5_eliminate_65 (lv_at hl 0 rfl) ?_
    refine lv_bipush (v := 16) hx hb dX5_eliminate_67 (by decide) ?_
    refine lv_icmp_gt (tgt := 126) hx hb dX5_eliminate_69 (by decide) (fun hc => ?_) (fun hc => ?_)
    · replace hv := hv.1 hc
      refine lv_iload_n hx hb dX5_eliminate_126 rfl (lv_at hl 1 rfl) ?_
      refine lv_aload_n hx hb dX5_eliminate_127 rfl (lv_at hl 4 rfl) ?_
      refine va_get (D := g.1) (ci := 5) (v := .ref a_M_work) (C := RX5) (T := TX5) (N := 16) hx hb hts cw_in_X5 hown hK.1 hP 0 rfl rfl 12 (by decide) (hts _ cw_f_X5_38) (fun _ h9 => h9) rfl dX5_eliminate_128 ?_
      refine lv_iload_n hx hb dX5_eliminate_131 rfl (lv_at hl 3 rfl) ?_
      refine lv_iload_n hx hb dX5_eliminate_132 rfl (lv_at hl 3 rfl) ?_
      refine cx_iSr (As := [.int x2, .int x2]) (rest := [.ref a_M_work, .int x1]) ⟨hx, hb, hml, hown, hts⟩ (cp_X5_cell l g x2 x2) (cx_cwS 2 hts cw_m_X5_91 cw_t_X5_cell cw_n_X5 cw_c_X5_cell rfl rfl (by decide +kernel) ⟨Nat.le_of_ble_eq_true rfl, Nat.le_of_ble_eq_true rfl⟩) hK hP hD hS hA [] rfl rfl rfl hl.1 rfl (Nat.le_of_ble_eq_true rfl) dX5_eliminate_133 ⟨Nat.le_of_ble_eq_true rfl, Nat.le_of_ble_eq_true rfl⟩ (fun r_1 H locs hr9 hP hS => ?_)
      replace hr9 : r_1 = (f_at17 x2 x2) := hr9
      subst hr9
      obtain ⟨h_2, hv⟩ := hv
      refine va_iald (D := g.1) hx hb hK.1 hP 1 0 rfl rfl h_2 dX5_eliminate_136 ?_
      refine cx_iSr (As := [.int x1, .int (v_M_work (Int32.toNatClampNeg (f_at17 x2 x2)))]) (rest := []) ⟨hx, hb, hml, hown, hts⟩ (cp_X5_times l g x1 (v_M_work (Int32.toNatClampNeg (f_at17 x2 x2)))) (cx_cwS 2 hts cw_m_X5_58 cw_t_X5_times cw_n_X5 cw_c_X5_times rfl rfl (by decide +kernel) ⟨Nat.le_of_ble_eq_true rfl, Nat.le_of_ble_eq_true rfl⟩) hK hP hD hS hA [] rfl rfl rfl hl.1 rfl (Nat.le_of_ble_eq_true rfl) dX5_eliminate_137 ⟨Nat.le_of_ble_eq_true rfl, Nat.le_of_ble_eq_true rfl⟩ (fun r_3 H locs hr9 hP hS => ?_)
      replace hr9 : r_3 = (f_times x1 (v_M_work (Int32.toNatClampNeg (f_at17 x2 x2)))) := hr9
      subst hr9
      refine lv_topi (fun x1_4 ex1_4 => ?_)
      replace hv := hv x1_4 ex1_4
      refine lv_istore_n (lv' := [(1, .int x1_4), (4, .int x4), (3, .int x3), (2, .int x2), (0, .ref a_M)]) hx hb dX5_eliminate_140 rfl hl (by decide) rfl (fun ls hl => ?_)
      refine lv_aload_n hx hb dX5_eliminate_141 rfl (lv_at hl 4 rfl) ?_
      refine va_get (D := g.1) (ci := 5) (v := .ref a_M_work) (C := RX5) (T := TX5) (N := 16) hx hb hts cw_in_X5 hown hK.1 hP 0 rfl rfl 12 (by decide) (hts _ cw_f_X5_38) (fun _ h9 => h9) rfl dX5_eliminate_142 ?_
      refine lv_iload_n hx hb dX5_eliminate_145 rfl (lv_at hl 3 rfl) ?_
      refine lv_iload_n hx hb dX5_eliminate_146 rfl (lv_at hl 3 rfl) ?_
      refine cx_iSr (As := [.int x2, .int x2]) (rest := [.ref a_M_work]) ⟨hx, hb, hml, hown, hts⟩ (cp_X5_cell l g x2 x2) (cx_cwS 2 hts cw_m_X5_91 cw_t_X5_cell cw_n_X5 cw_c_X5_cell rfl rfl (by decide +kernel) ⟨Nat.le_of_ble_eq_true rfl, Nat.le_of_ble_eq_true rfl⟩) hK hP hD hS hA [] rfl rfl rfl hl.1 rfl (Nat.le_of_ble_eq_true rfl) dX5_eliminate_147 ⟨Nat.le_of_ble_eq_true rfl, Nat.le_of_ble_eq_true rfl⟩ (fun r_5 H locs hr9 hP hS => ?_)
      replace hr9 : r_5 = (f_at17 x2 x2) := hr9
      subst hr9
      obtain ⟨h_6, hv⟩ := hv
      refine va_iald (D := g.1) hx hb hK.1 hP 1 0 rfl rfl h_6 dX5_eliminate_150 ?_
      refine cx_iSr (As := [.int (v_M_work (Int32.toNatClampNeg (f_at17 x2 x2)))]) (rest := []) ⟨hx, hb, hml, hown, hts⟩ (cp_X5_over l g (v_M_work (Int32.toNatClampNeg (f_at17 x2 x2)))) (cx_cwS 1 hts cw_m_X5_97 cw_t_X5_over cw_n_X5 cw_c_X5_over rfl rfl (by decide +kernel) ⟨Nat.le_of_ble_eq_true rfl, Nat.le_of_ble_eq_true rfl⟩) hK hP hD hS hA [] rfl rfl rfl hl.1 rfl (Nat.le_of_ble_eq_true rfl) dX5_eliminate_151 ⟨Nat.le_of_ble_eq_true rfl, Nat.le_of_ble_eq_true rfl⟩ (fun r_7 H locs hr9 hP hS => ?_)
      replace hr9 : r_7 = (f_rec (v_M_work (Int32.toNatClampNeg (f_at17 x2 x2)))) := hr9
      subst hr9
      refine lv_topi (fun x4_8 ex4_8 => ?_)
      replace hv := hv x4_8 ex4_8
      refine lv_istore (lv' := [(4, .int x4_8), (1, .int x1_4), (3, .int x3), (2, .int x2), (0, .ref a_M)]) hx hb dX5_eliminate_154 hl (by decide) rfl (fun ls hl => ?_)
      refine lv_iconst (v := 0) hx hb dX5_eliminate_156 (by decide) ?_
      refine lv_istore (lv' := [(5, .int 0), (4, .int x4_8), (1, .int x1_4), (3, .int x3), (2, .int x2), (0, .ref a_M)]) hx hb dX5_eliminate_157 hl (by decide) rfl (fun ls hl => ?_)
      exact hv _ _ _ hP hD hS (lv_sub hl [0, 1, 2, 3, 4, 5] rfl)
    · replace hv := hv.2 hc
      refine lv_aload_n hx hb dX5_eliminate_72 rfl (lv_at hl 4 rfl) ?_
      refine va_get (D := g.1) (ci := 5) (v := .ref a_M_work) (C := RX5) (T := TX5) (N := 16) hx hb hts cw_in_X5 hown hK.1 hP 0 rfl rfl 12 (by decide) (hts _ cw_f_X5_38) (fun _ h9 => h9) rfl dX5_eliminate_73 ?_
      refine lv_iload_n hx hb dX5_eliminate_76 rfl (lv_at hl 3 rfl) ?_
      refine lv_iload hx hb dX5_eliminate_77 (lv_at hl 0 rfl) ?_
      refine cx_iSr (As := [.int x2, .int x4]) (rest := [.ref a_M_work]) ⟨hx, hb, hml, hown, hts⟩ (cp_X5_cell l g x2 x4) (cx_cwS 2 hts cw_m_X5_91 cw_t_X5_cell cw_n_X5 cw_c_X5_cell rfl rfl (by decide +kernel) ⟨Nat.le_of_ble_eq_true rfl, Nat.le_of_ble_eq_true rfl⟩) hK hP hD hS hA [] rfl rfl rfl hl.1 rfl (Nat.le_of_ble_eq_true rfl) dX5_eliminate_79 ⟨Nat.le_of_ble_eq_true rfl, Nat.le_of_ble_eq_true rfl⟩ (fun r_9 H locs hr9 hP hS => ?_)
      replace hr9 : r_9 = (f_at17 x2 x4) := hr9
      subst hr9
      obtain ⟨h_10, hv⟩ := hv
      refine va_iald (D := g.1) hx hb hK.1 hP 1 0 rfl rfl h_10 dX5_eliminate_82 ?_
      refine lv_topi (fun x5_11 ex5_11 => ?_)
      replace hv := hv x5_11 ex5_11
      refine lv_istore (lv' := [(5, .int x5_11), (4, .int x4), (1, .int x1), (3, .int x3), (2, .int x2), (0, .ref a_M)]) hx hb dX5_eliminate_83 hl (by decide) rfl (fun ls hl => ?_)
      refine lv_aload_n hx hb dX5_eliminate_85 rfl (lv_at hl 5 rfl) ?_
      refine va_get (D := g.1) (ci := 5) (v := .ref a_M_work) (C := RX5) (T := TX5) (N := 16) hx hb hts cw_in_X5 hown hK.1 hP 0 rfl rfl 12 (by decide) (hts _ cw_f_X5_38) (fun _ h9 => h9) rfl dX5_eliminate_86 ?_
      refine lv_iload_n hx hb dX5_eliminate_89 rfl (lv_at hl 4 rfl) ?_
      refine lv_iload hx hb dX5_eliminate_90 (lv_at hl 1 rfl) ?_
      refine cx_iSr (As := [.int x2, .int x4]) (rest := [.ref a_M_work]) ⟨hx, hb, hml, hown, hts⟩ (cp_X5_cell l g x2 x4) (cx_cwS 2 hts cw_m_X5_91 cw_t_X5_cell cw_n_X5 cw_c_X5_cell rfl rfl (by decide +kernel) ⟨Nat.le_of_ble_eq_true rfl, Nat.le_of_ble_eq_true rfl⟩) hK hP hD hS hA [] rfl rfl rfl hl.1 rfl (Nat.le_of_ble_eq_true rfl) dX5_eliminate_92 ⟨Nat.le_of_ble_eq_true rfl, Nat.le_of_ble_eq_true rfl⟩ (fun r_12 H locs hr9 hP hS => ?_)
      replace hr9 : r_12 = (f_at17 x2 x4) := hr9
      subst hr9
      refine lv_aload_n hx hb dX5_eliminate_95 rfl (lv_at hl 5 rfl) ?_
      refine va_get (D := g.1) (ci := 5) (v := .ref a_M_work) (C := RX5) (T := TX5) (N := 16) hx hb hts cw_in_X5 hown hK.1 hP 0 rfl rfl 12 (by decide) (hts _ cw_f_X5_38) (fun _ h9 => h9) rfl dX5_eliminate_96 ?_
      refine lv_iload_n hx hb dX5_eliminate_99 rfl (lv_at hl 3 rfl) ?_
      refine lv_iload hx hb dX5_eliminate_100 (lv_at hl 1 rfl) ?_
      refine cx_iSr (As := [.int x3, .int x4]) (rest := [.ref a_M_work, .int (f_at17 x2 x4), .ref a_M_work]) ⟨hx, hb, hml, hown, hts⟩ (cp_X5_cell l g x3 x4) (cx_cwS 2 hts cw_m_X5_91 cw_t_X5_cell cw_n_X5 cw_c_X5_cell rfl rfl (by decide +kernel) ⟨Nat.le_of_ble_eq_true rfl, Nat.le_of_ble_eq_true rfl⟩) hK hP hD hS hA [] rfl rfl rfl hl.1 rfl (Nat.le_of_ble_eq_true rfl) dX5_eliminate_102 ⟨Nat.le_of_ble_eq_true rfl, Nat.le_of_ble_eq_true rfl⟩ (fun r_13 H locs hr9 hP hS => ?_)
      replace hr9 : r_13 = (f_at17 x3 x4) := hr9
      subst hr9
      obtain ⟨h_14, hv⟩ := hv
      refine va_iald (D := g.1) hx hb hK.1 hP 1 0 rfl rfl h_14 dX5_eliminate_105 ?_
      obtain ⟨h_15, hv⟩ := hv
      refine va_iast (D := g.1) hx hb hK.1 hP hD hS 1 0 rfl rfl h_15 dX5_eliminate_106 (fun H locs hP hD hS => ?_)
      have hP : va_P g.1 vwCl [(a_M, .inr (5, [.int M_thrown, .int M_n, .ref a_M_a, .ref a_M_rowAt, .ref a_M_places, .ref a_M_rights, .ref a_M_weights, .int M_hasFactors, .ref a_M_pivots, .ref a_M_lower, .int M_hasSolution, .ref a_M_solution, .ref a_M_work, .ref a_M_isJoined, .int M_levels, .ref a_M_stored])), (a_M_work, .inl (g.2.1, 272, .inl (upd v_M_work (Int32.toNatClampNeg (f_at17 x2 x4)) (v_M_work (Int32.toNatClampNeg (f_at17 x3 x4))))))] H := hP
      have hD : va_D A [(a_M, .inr (5, [.int M_thrown, .int M_n, .ref a_M_a, .ref a_M_rowAt, .ref a_M_places, .ref a_M_rights, .ref a_M_weights, .int M_hasFactors, .ref a_M_pivots, .ref a_M_lower, .int M_hasSolution, .ref a_M_solution, .ref a_M_work, .ref a_M_isJoined, .int M_levels, .ref a_M_stored])), (a_M_work, .inl (g.2.1, 272, .inl (upd v_M_work (Int32.toNatClampNeg (f_at17 x2 x4)) (v_M_work (Int32.toNatClampNeg (f_at17 x3 x4))))))] := hD
      refine lv_aload_n hx hb dX5_eliminate_107 rfl (lv_at hl 5 rfl) ?_
      refine va_get (D := g.1) (ci := 5) (v := .ref a_M_work) (C := RX5) (T := TX5) (N := 16) hx hb hts cw_in_X5 hown hK.1 hP 0 rfl rfl 12 (by decide) (hts _ cw_f_X5_38) (fun _ h9 => h9) rfl dX5_eliminate_108 ?_
      refine lv_iload_n hx hb dX5_eliminate_111 rfl (lv_at hl 3 rfl) ?_
      refine lv_iload hx hb dX5_eliminate_112 (lv_at hl 1 rfl) ?_
      refine cx_iSr (As := [.int x3, .int x4]) (rest := [.ref a_M_work]) ⟨hx, hb, hml, hown, hts⟩ (cp_X5_cell l g x3 x4) (cx_cwS 2 hts cw_m_X5_91 cw_t_X5_cell cw_n_X5 cw_c_X5_cell rfl rfl (by decide +kernel) ⟨Nat.le_of_ble_eq_true rfl, Nat.le_of_ble_eq_true rfl⟩) hK hP hD hS hA [] rfl rfl rfl hl.1 rfl (Nat.le_of_ble_eq_true rfl) dX5_eliminate_114 ⟨Nat.le_of_ble_eq_true rfl, Nat.le_of_ble_eq_true rfl⟩ (fun r_16 H locs hr9 hP hS => ?_)
      replace hr9 : r_16 = (f_at17 x3 x4) := hr9
      subst hr9
      refine lv_iload hx hb dX5_eliminate_117 (lv_at hl 0 rfl) ?_
      obtain ⟨h_17, hv⟩ := hv
      refine va_iast (D := g.1) hx hb hK.1 hP hD hS 1 0 rfl rfl h_17 dX5_eliminate_119 (fun H locs hP hD hS => ?_)
      have hP : va_P g.1 vwCl [(a_M, .inr (5, [.int M_thrown, .int M_n, .ref a_M_a, .ref a_M_rowAt, .ref a_M_places, .ref a_M_rights, .ref a_M_weights, .int M_hasFactors, .ref a_M_pivots, .ref a_M_lower, .int M_hasSolution, .ref a_M_solution, .ref a_M_work, .ref a_M_isJoined, .int M_levels, .ref a_M_stored])), (a_M_work, .inl (g.2.1, 272, .inl (upd (upd v_M_work (Int32.toNatClampNeg (f_at17 x2 x4)) (v_M_work (Int32.toNatClampNeg (f_at17 x3 x4)))) (Int32.toNatClampNeg (f_at17 x3 x4)) x5_11)))] H := hP
      have hD : va_D A [(a_M, .inr (5, [.int M_thrown, .int M_n, .ref a_M_a, .ref a_M_rowAt, .ref a_M_places, .ref a_M_rights, .ref a_M_weights, .int M_hasFactors, .ref a_M_pivots, .ref a_M_lower, .int M_hasSolution, .ref a_M_solution, .ref a_M_work, .ref a_M_isJoined, .int M_levels, .ref a_M_stored])), (a_M_work, .inl (g.2.1, 272, .inl (upd (upd v_M_work (Int32.toNatClampNeg (f_at17 x2 x4)) (v_M_work (Int32.toNatClampNeg (f_at17 x3 x4)))) (Int32.toNatClampNeg (f_at17 x3 x4)) x5_11)))] := hD
      obtain ⟨x4_18, ex4_18⟩ : ∃ y : Int32, y = x4 + 1 := ⟨_, rfl⟩
      replace hv := hv x4_18 ex4_18
      refine lv_iinc (v := x4_18) (lv' := [(4, .int x4_18), (5, .int x5_11), (1, .int x1), (3, .int x3), (2, .int x2), (0, .ref a_M)]) hx hb dX5_eliminate_120 hl (k := 1) rfl (by rw [ex4_18]; rfl) (by decide) rfl (fun ls hl => ?_)
      refine lv_goto (tgt := 65) hx hb dX5_eliminate_123 (by decide) ?_
      exact hv _ _ _ hP hD hS (lv_sub hl [0, 2, 3, 4, 5] rfl)
  have hs4 : ∀ (x5 : Int32) (x4 : Int32) (x1 : Int32) (x3 : Int32) (x2 : Int32) (v_M_work : (Nat → Int32)), vc_X5_eliminate_4 M_thrown M_n M_hasFactors M_hasSolution M_levels M_work Q G1 G2 G3 G4 G5 G6 x5 x4 x1 x3 x2 v_M_work → G4 x5 x4 x1 x3 x2 v_M_work := by
    rw [hG1, hG2, hG3, hG4, hG5, hG6]
    intro x5 x4 x1 x3 x2 v_M_work hv H locs ls hP hD hS hl
    unfold vc_X5_eliminate_4 at hv
    refine lv_iload hx hb dX5_eliminate_159 (lv_at hl 0 rfl) ?_
    refine lv_bipush (v := 16) hx hb dX5_eliminate_161 (by decide) ?_
    refine lv_icmp_gt (tgt := 199) hx hb dX5_eliminate_163 (by decide) (fun hc => ?_) (fun hc => ?_)
    · replace hv := hv.1 hc
      refine lv_iconst (v := 0) hx hb dX5_eliminate_199 (by decide) ?_
      refine lv_istore (lv' := [(5, .int 0), (4, .int x4), (1, .int x1), (3, .int x3), (2, .int x2), (0, .ref a_M)]) hx hb dX5_eliminate_200 hl (by decide) rfl (fun ls hl => ?_)
      exact hv _ _ _ hP hD hS (lv_sub hl [0, 1, 2, 3, 4, 5] rfl)
    · replace hv := hv.2 hc
      refine lv_aload_n hx hb dX5_eliminate_166 rfl (lv_at hl 5 rfl) ?_
      refine va_get (D := g.1) (ci := 5) (v := .ref a_M_work) (C := RX5) (T := TX5) (N := 16) hx hb hts cw_in_X5 hown hK.1 hP 0 rfl rfl 12 (by decide) (hts _ cw_f_X5_38) (fun _ h9 => h9) rfl dX5_eliminate_167 ?_
      refine lv_iload_n hx hb dX5_eliminate_170 rfl (lv_at hl 4 rfl) ?_
      refine lv_iload hx hb dX5_eliminate_171 (lv_at hl 0 rfl) ?_
      refine cx_iSr (As := [.int x2, .int x5]) (rest := [.ref a_M_work]) ⟨hx, hb, hml, hown, hts⟩ (cp_X5_cell l g x2 x5) (cx_cwS 2 hts cw_m_X5_91 cw_t_X5_cell cw_n_X5 cw_c_X5_cell rfl rfl (by decide +kernel) ⟨Nat.le_of_ble_eq_true rfl, Nat.le_of_ble_eq_true rfl⟩) hK hP hD hS hA [] rfl rfl rfl hl.1 rfl (Nat.le_of_ble_eq_true rfl) dX5_eliminate_173 ⟨Nat.le_of_ble_eq_true rfl, Nat.le_of_ble_eq_true rfl⟩ (fun r_1 H locs hr9 hP hS => ?_)
      replace hr9 : r_1 = (f_at17 x2 x5) := hr9
      subst hr9
      refine lv_aload_n hx hb dX5_eliminate_176 rfl (lv_at hl 5 rfl) ?_
      refine va_get (D := g.1) (ci := 5) (v := .ref a_M_work) (C := RX5) (T := TX5) (N := 16) hx hb hts cw_in_X5 hown hK.1 hP 0 rfl rfl 12 (by decide) (hts _ cw_f_X5_38) (fun _ h9 => h9) rfl dX5_eliminate_177 ?_
      refine lv_iload_n hx hb dX5_eliminate_180 rfl (lv_at hl 4 rfl) ?_
      refine lv_iload hx hb dX5_eliminate_181 (lv_at hl 0 rfl) ?_
      refine cx_iSr (As := [.int x2, .int x5]) (rest := [.ref a_M_work, .int (f_at17 x2 x5), .ref a_M_work]) ⟨hx, hb, hml, hown, hts⟩ (cp_X5_cell l g x2 x5) (cx_cwS 2 hts cw_m_X5_91 cw_t_X5_cell cw_n_X5 cw_c_X5_cell rfl rfl (by decide +kernel) ⟨Nat.le_of_ble_eq_true rfl, Nat.le_of_ble_eq_true rfl⟩) hK hP hD hS hA [] rfl rfl rfl hl.1 rfl (Nat.le_of_ble_eq_true rfl) dX5_eliminate_183 ⟨Nat.le_of_ble_eq_true rfl, Nat.le_of_ble_eq_true rfl⟩ (fun r_2 H locs hr9 hP hS => ?_)
      replace hr9 : r_2 = (f_at17 x2 x5) := hr9
      subst hr9
      obtain ⟨h_3, hv⟩ := hv
      refine va_iald (D := g.1) hx hb hK.1 hP 1 0 rfl rfl h_3 dX5_eliminate_186 ?_
      refine lv_iload hx hb dX5_eliminate_187 (lv_at hl 1 rfl) ?_
      refine cx_iSr (As := [.int (v_M_work (Int32.toNatClampNeg (f_at17 x2 x5))), .int x4]) (rest := [.int (f_at17 x2 x5), .ref a_M_work]) ⟨hx, hb, hml, hown, hts⟩ (cp_X5_times l g (v_M_work (Int32.toNatClampNeg (f_at17 x2 x5))) x4) (cx_cwS 2 hts cw_m_X5_58 cw_t_X5_times cw_n_X5 cw_c_X5_times rfl rfl (by decide +kernel) ⟨Nat.le_of_ble_eq_true rfl, Nat.le_of_ble_eq_true rfl⟩) hK hP hD hS hA [] rfl rfl rfl hl.1 rfl (Nat.le_of_ble_eq_true rfl) dX5_eliminate_189 ⟨Nat.le_of_ble_eq_true rfl, Nat.le_of_ble_eq_true rfl⟩ (fun r_4 H locs hr9 hP hS => ?_)
      replace hr9 : r_4 = (f_times (v_M_work (Int32.toNatClampNeg (f_at17 x2 x5))) x4) := hr9
      subst hr9
      obtain ⟨h_5, hv⟩ := hv
      refine va_iast (D := g.1) hx hb hK.1 hP hD hS 1 0 rfl rfl h_5 dX5_eliminate_192 (fun H locs hP hD hS => ?_)
      have hP : va_P g.1 vwCl [(a_M, .inr (5, [.int M_thrown, .int M_n, .ref a_M_a, .ref a_M_rowAt, .ref a_M_places, .ref a_M_rights, .ref a_M_weights, .int M_hasFactors, .ref a_M_pivots, .ref a_M_lower, .int M_hasSolution, .ref a_M_solution, .ref a_M_work, .ref a_M_isJoined, .int M_levels, .ref a_M_stored])), (a_M_work, .inl (g.2.1, 272, .inl (upd v_M_work (Int32.toNatClampNeg (f_at17 x2 x5)) (f_times (v_M_work (Int32.toNatClampNeg (f_at17 x2 x5))) x4))))] H := hP
      have hD : va_D A [(a_M, .inr (5, [.int M_thrown, .int M_n, .ref a_M_a, .ref a_M_rowAt, .ref a_M_places, .ref a_M_rights, .ref a_M_weights, .int M_hasFactors, .ref a_M_pivots, .ref a_M_lower, .int M_hasSolution, .ref a_M_solution, .ref a_M_work, .ref a_M_isJoined, .int M_levels, .ref a_M_stored])), (a_M_work, .inl (g.2.1, 272, .inl (upd v_M_work (Int32.toNatClampNeg (f_at17 x2 x5)) (f_times (v_M_work (Int32.toNatClampNeg (f_at17 x2 x5))) x4))))] := hD
      obtain ⟨x5_6, ex5_6⟩ : ∃ y : Int32, y = x5 + 1 := ⟨_, rfl⟩
      replace hv := hv x5_6 ex5_6
      refine lv_iinc (v := x5_6) (lv' := [(5, .int x5_6), (4, .int x4), (1, .int x1), (3, .int x3), (2, .int x2), (0, .ref a_M)]) hx hb dX5_eliminate_193 hl (k := 0) rfl (by rw [ex5_6]; rfl) (by decide) rfl (fun ls hl => ?_)
      refine lv_goto (tgt := 159) hx hb dX5_eliminate_196 (by decide) ?_
      exact hv _ _ _ hP hD hS (lv_sub hl [0, 1, 2, 3, 4, 5] rfl)
  have hs5 : ∀ (x5 : Int32) (x4 : Int32) (x1 : Int32) (x3 : Int32) (x2 : Int32) (v_M_work : (Nat → Int32)), vc_X5_eliminate_5 M_thrown M_n M_hasFactors M_hasSolution M_levels M_work Q G1 G2 G3 G4 G5 G6 x5 x4 x1 x3 x2 v_M_work → G5 x5 x4 x1 x3 x2 v_M_work := by
    rw [hG1, hG2, hG3, hG4, hG5, hG6]
    intro x5 x4 x1 x3 x2 v_M_work hv H locs ls hP hD hS hl
    unfold vc_X5_eliminate_5 at hv
    refine lv_iload hx hb dX5_eliminate_202 (lv_at hl 0 rfl) ?_
    refine lv_aload_n hx hb dX5_eliminate_204 rfl (lv_at hl 5 rfl) ?_
    refine va_get (D := g.1) (ci := 5) (v := .int M_n) (C := RX5) (T := TX5) (N := 16) hx hb hts cw_in_X5 hown hK.1 hP 0 rfl rfl 1 (by decide) (hts _ cw_f_X5_9) (fun _ h9 => h9) rfl dX5_eliminate_205 ?_
    refine lv_icmp_ge (tgt := 295) hx hb dX5_eliminate_208 (by decide) (fun hc => ?_) (fun hc => ?_)
    · replace hv := hv.1 hc
      obtain ⟨x2_1, ex2_1⟩ : ∃ y : Int32, y = x2 + 1 := ⟨_, rfl⟩
      replace hv := hv x2_1 ex2_1
      refine lv_iinc (v := x2_1) (lv' := [(2, .int x2_1), (5, .int x5), (4, .int x4), (1, .int x1), (3, .int x3), (0, .ref a_M)]) hx hb dX5_eliminate_295 hl (k := 4) rfl (by rw [ex2_1]; rfl) (by decide) rfl (fun ls hl => ?_)
      refine lv_goto (tgt := 4) hx hb dX5_eliminate_298 (by decide) ?_
      exact hv _ _ _ hP hD hS (lv_sub hl [0, 3, 5] rfl)
    · replace hv := hv.2 hc
      refine lv_aload_n hx hb dX5_eliminate_211 rfl (lv_at hl 5 rfl) ?_
      refine va_get (D := g.1) (ci := 5) (v := .ref a_M_work) (C := RX5) (T := TX5) (N := 16) hx hb hts cw_in_X5 hown hK.1 hP 0 rfl rfl 12 (by decide) (hts _ cw_f_X5_38) (fun _ h9 => h9) rfl dX5_eliminate_212 ?_
      refine lv_iload hx hb dX5_eliminate_215 (lv_at hl 0 rfl) ?_
      refine lv_iload_n hx hb dX5_eliminate_217 rfl (lv_at hl 4 rfl) ?_
      refine cx_iSr (As := [.int x5, .int x2]) (rest := [.ref a_M_work]) ⟨hx, hb, hml, hown, hts⟩ (cp_X5_cell l g x5 x2) (cx_cwS 2 hts cw_m_X5_91 cw_t_X5_cell cw_n_X5 cw_c_X5_cell rfl rfl (by decide +kernel) ⟨Nat.le_of_ble_eq_true rfl, Nat.le_of_ble_eq_true rfl⟩) hK hP hD hS hA [] rfl rfl rfl hl.1 rfl (Nat.le_of_ble_eq_true rfl) dX5_eliminate_218 ⟨Nat.le_of_ble_eq_true rfl, Nat.le_of_ble_eq_true rfl⟩ (fun r_2 H locs hr9 hP hS => ?_)
      replace hr9 : r_2 = (f_at17 x5 x2) := hr9
      subst hr9
      obtain ⟨h_3, hv⟩ := hv
      refine va_iald (D := g.1) hx hb hK.1 hP 1 0 rfl rfl h_3 dX5_eliminate_221 ?_
      refine lv_topi (fun x6_4 ex6_4 => ?_)
      replace hv := hv x6_4 ex6_4
      refine lv_istore (lv' := [(6, .int x6_4), (5, .int x5), (4, .int x4), (1, .int x1), (3, .int x3), (2, .int x2), (0, .ref a_M)]) hx hb dX5_eliminate_222 hl (by decide) rfl (fun ls hl => ?_)
      refine lv_iconst (v := 0) hx hb dX5_eliminate_224 (by decide) ?_
      refine lv_istore (lv' := [(7, .int 0), (6, .int x6_4), (5, .int x5), (4, .int x4), (1, .int x1), (3, .int x3), (2, .int x2), (0, .ref a_M)]) hx hb dX5_eliminate_225 hl (by decide) rfl (fun ls hl => ?_)
      exact hv _ _ _ hP hD hS (lv_sub hl [0, 1, 2, 3, 4, 5, 6, 7] rfl)
  have hs6 : ∀ (x7 : Int32) (x6 : Int32) (x5 : Int32) (x4 : Int32) (x1 : Int32) (x3 : Int32) (x2 : Int32) (v_M_work : (Nat → Int32)), vc_X5_eliminate_6 M_thrown M_n M_hasFactors M_hasSolution M_levels M_work Q G1 G2 G3 G4 G5 G6 x7 x6 x5 x4 x1 x3 x2 v_M_work → G6 x7 x6 x5 x4 x1 x3 x2 v_M_work := by
    rw [hG1, hG2, hG3, hG4, hG5, hG6]
    intro x7 x6 x5 x4 x1 x3 x2 v_M_work hv H locs ls hP hD hS hl
    unfold vc_X5_eliminate_6 at hv
    refine lv_iload hx hb dX5_eliminate_227 (lv_at hl 0 rfl) ?_
    refine lv_bipush (v := 16) hx hb dX5_eliminate_229 (by decide) ?_
    refine lv_icmp_gt (tgt := 289) hx hb dX5_eliminate_231 (by decide) (fun hc => ?_) (fun hc => ?_)
    · replace hv := hv.1 hc
      obtain ⟨x5_1, ex5_1⟩ : ∃ y : Int32, y = x5 + 1 := ⟨_, rfl⟩
      replace hv := hv x5_1 ex5_1
      refine lv_iinc (v := x5_1) (lv' := [(5, .int x5_1), (7, .int x7), (6, .int x6), (4, .int x4), (1, .int x1), (3, .int x3), (2, .int x2), (0, .ref a_M)]) hx hb dX5_eliminate_289 hl (k := 2) rfl (by rw [ex5_1]; rfl) (by decide) rfl (fun ls hl => ?_)
      refine lv_goto (tgt := 202) hx hb dX5_eliminate_292 (by decide) ?_
      exact hv _ _ _ hP hD hS (lv_sub hl [0, 3, 4, 5, 6, 7] rfl)
    · replace hv := hv.2 hc
      refine lv_iload hx hb dX5_eliminate_234 (lv_at hl 2 rfl) ?_
      refine lv_iload_n hx hb dX5_eliminate_236 rfl (lv_at hl 6 rfl) ?_
      refine lv_icmp_eq (tgt := 289) hx hb dX5_eliminate_237 (by decide) (fun hc => ?_) (fun hc => ?_)
      · replace hv := hv.1 hc
        obtain ⟨x5_2, ex5_2⟩ : ∃ y : Int32, y = x5 + 1 := ⟨_, rfl⟩
        replace hv := hv x5_2 ex5_2
        refine lv_iinc (v := x5_2) (lv' := [(5, .int x5_2), (7, .int x7), (6, .int x6), (4, .int x4), (1, .int x1), (3, .int x3), (2, .int x2), (0, .ref a_M)]) hx hb dX5_eliminate_289 hl (k := 2) rfl (by rw [ex5_2]; rfl) (by decide) rfl (fun ls hl => ?_)
        refine lv_goto (tgt := 202) hx hb dX5_eliminate_292 (by decide) ?_
        exact hv _ _ _ hP hD hS (lv_sub hl [0, 3, 4, 5, 6, 7] rfl)
      · replace hv := hv.2 hc
        refine lv_aload_n hx hb dX5_eliminate_240 rfl (lv_at hl 7 rfl) ?_
        refine va_get (D := g.1) (ci := 5) (v := .ref a_M_work) (C := RX5) (T := TX5) (N := 16) hx hb hts cw_in_X5 hown hK.1 hP 0 rfl rfl 12 (by decide) (hts _ cw_f_X5_38) (fun _ h9 => h9) rfl dX5_eliminate_241 ?_
        refine lv_iload hx hb dX5_eliminate_244 (lv_at hl 2 rfl) ?_
        refine lv_iload hx hb dX5_eliminate_246 (lv_at hl 0 rfl) ?_
        refine cx_iSr (As := [.int x5, .int x7]) (rest := [.ref a_M_work]) ⟨hx, hb, hml, hown, hts⟩ (cp_X5_cell l g x5 x7) (cx_cwS 2 hts cw_m_X5_91 cw_t_X5_cell cw_n_X5 cw_c_X5_cell rfl rfl (by decide +kernel) ⟨Nat.le_of_ble_eq_true rfl, Nat.le_of_ble_eq_true rfl⟩) hK hP hD hS hA [] rfl rfl rfl hl.1 rfl (Nat.le_of_ble_eq_true rfl) dX5_eliminate_248 ⟨Nat.le_of_ble_eq_true rfl, Nat.le_of_ble_eq_true rfl⟩ (fun r_3 H locs hr9 hP hS => ?_)
        replace hr9 : r_3 = (f_at17 x5 x7) := hr9
        subst hr9
        refine lv_aload_n hx hb dX5_eliminate_251 rfl (lv_at hl 7 rfl) ?_
        refine va_get (D := g.1) (ci := 5) (v := .ref a_M_work) (C := RX5) (T := TX5) (N := 16) hx hb hts cw_in_X5 hown hK.1 hP 0 rfl rfl 12 (by decide) (hts _ cw_f_X5_38) (fun _ h9 => h9) rfl dX5_eliminate_252 ?_
        refine lv_iload hx hb dX5_eliminate_255 (lv_at hl 2 rfl) ?_
        refine lv_iload hx hb dX5_eliminate_257 (lv_at hl 0 rfl) ?_
        refine cx_iSr (As := [.int x5, .int x7]) (rest := [.ref a_M_work, .int (f_at17 x5 x7), .ref a_M_work]) ⟨hx, hb, hml, hown, hts⟩ (cp_X5_cell l g x5 x7) (cx_cwS 2 hts cw_m_X5_91 cw_t_X5_cell cw_n_X5 cw_c_X5_cell rfl rfl (by decide +kernel) ⟨Nat.le_of_ble_eq_true rfl, Nat.le_of_ble_eq_true rfl⟩) hK hP hD hS hA [] rfl rfl rfl hl.1 rfl (Nat.le_of_ble_eq_true rfl) dX5_eliminate_259 ⟨Nat.le_of_ble_eq_true rfl, Nat.le_of_ble_eq_true rfl⟩ (fun r_4 H locs hr9 hP hS => ?_)
        replace hr9 : r_4 = (f_at17 x5 x7) := hr9
        subst hr9
        obtain ⟨h_5, hv⟩ := hv
        refine va_iald (D := g.1) hx hb hK.1 hP 1 0 rfl rfl h_5 dX5_eliminate_262 ?_
        refine lv_iload hx hb dX5_eliminate_263 (lv_at hl 1 rfl) ?_
        refine lv_aload_n hx hb dX5_eliminate_265 rfl (lv_at hl 7 rfl) ?_
        refine va_get (D := g.1) (ci := 5) (v := .ref a_M_work) (C := RX5) (T := TX5) (N := 16) hx hb hts cw_in_X5 hown hK.1 hP 0 rfl rfl 12 (by decide) (hts _ cw_f_X5_38) (fun _ h9 => h9) rfl dX5_eliminate_266 ?_
        refine lv_iload_n hx hb dX5_eliminate_269 rfl (lv_at hl 6 rfl) ?_
        refine lv_iload hx hb dX5_eliminate_270 (lv_at hl 0 rfl) ?_
        refine cx_iSr (As := [.int x2, .int x7]) (rest := [.ref a_M_work, .int x6, .int (v_M_work (Int32.toNatClampNeg (f_at17 x5 x7))), .int (f_at17 x5 x7), .ref a_M_work]) ⟨hx, hb, hml, hown, hts⟩ (cp_X5_cell l g x2 x7) (cx_cwS 2 hts cw_m_X5_91 cw_t_X5_cell cw_n_X5 cw_c_X5_cell rfl rfl (by decide +kernel) ⟨Nat.le_of_ble_eq_true rfl, Nat.le_of_ble_eq_true rfl⟩) hK hP hD hS hA [] rfl rfl rfl hl.1 rfl (Nat.le_of_ble_eq_true rfl) dX5_eliminate_272 ⟨Nat.le_of_ble_eq_true rfl, Nat.le_of_ble_eq_true rfl⟩ (fun r_6 H locs hr9 hP hS => ?_)
        replace hr9 : r_6 = (f_at17 x2 x7) := hr9
        subst hr9
        obtain ⟨h_7, hv⟩ := hv
        refine va_iald (D := g.1) hx hb hK.1 hP 1 0 rfl rfl h_7 dX5_eliminate_275 ?_
        refine cx_iSr (As := [.int x6, .int (v_M_work (Int32.toNatClampNeg (f_at17 x2 x7)))]) (rest := [.int (v_M_work (Int32.toNatClampNeg (f_at17 x5 x7))), .int (f_at17 x5 x7), .ref a_M_work]) ⟨hx, hb, hml, hown, hts⟩ (cp_X5_times l g x6 (v_M_work (Int32.toNatClampNeg (f_at17 x2 x7)))) (cx_cwS 2 hts cw_m_X5_58 cw_t_X5_times cw_n_X5 cw_c_X5_times rfl rfl (by decide +kernel) ⟨Nat.le_of_ble_eq_true rfl, Nat.le_of_ble_eq_true rfl⟩) hK hP hD hS hA [] rfl rfl rfl hl.1 rfl (Nat.le_of_ble_eq_true rfl) dX5_eliminate_276 ⟨Nat.le_of_ble_eq_true rfl, Nat.le_of_ble_eq_true rfl⟩ (fun r_8 H locs hr9 hP hS => ?_)
        replace hr9 : r_8 = (f_times x6 (v_M_work (Int32.toNatClampNeg (f_at17 x2 x7)))) := hr9
        subst hr9
        refine cx_iSr (As := [.int (v_M_work (Int32.toNatClampNeg (f_at17 x5 x7))), .int (f_times x6 (v_M_work (Int32.toNatClampNeg (f_at17 x2 x7))))]) (rest := [.int (f_at17 x5 x7), .ref a_M_work]) ⟨hx, hb, hml, hown, hts⟩ (cp_X5_minus l g (v_M_work (Int32.toNatClampNeg (f_at17 x5 x7))) (f_times x6 (v_M_work (Int32.toNatClampNeg (f_at17 x2 x7))))) (cx_cwS 2 hts cw_m_X5_94 cw_t_X5_minus cw_n_X5 cw_c_X5_minus rfl rfl (by decide +kernel) ⟨Nat.le_of_ble_eq_true rfl, Nat.le_of_ble_eq_true rfl⟩) hK hP hD hS hA [] rfl rfl rfl hl.1 rfl (Nat.le_of_ble_eq_true rfl) dX5_eliminate_279 ⟨Nat.le_of_ble_eq_true rfl, Nat.le_of_ble_eq_true rfl⟩ (fun r_9 H locs hr9 hP hS => ?_)
        replace hr9 : r_9 = (g_minus (v_M_work (Int32.toNatClampNeg (f_at17 x5 x7))) (f_times x6 (v_M_work (Int32.toNatClampNeg (f_at17 x2 x7))))) := hr9
        subst hr9
        obtain ⟨h_10, hv⟩ := hv
        refine va_iast (D := g.1) hx hb hK.1 hP hD hS 1 0 rfl rfl h_10 dX5_eliminate_282 (fun H locs hP hD hS => ?_)
        have hP : va_P g.1 vwCl [(a_M, .inr (5, [.int M_thrown, .int M_n, .ref a_M_a, .ref a_M_rowAt, .ref a_M_places, .ref a_M_rights, .ref a_M_weights, .int M_hasFactors, .ref a_M_pivots, .ref a_M_lower, .int M_hasSolution, .ref a_M_solution, .ref a_M_work, .ref a_M_isJoined, .int M_levels, .ref a_M_stored])), (a_M_work, .inl (g.2.1, 272, .inl (upd v_M_work (Int32.toNatClampNeg (f_at17 x5 x7)) (g_minus (v_M_work (Int32.toNatClampNeg (f_at17 x5 x7))) (f_times x6 (v_M_work (Int32.toNatClampNeg (f_at17 x2 x7))))))))] H := hP
        have hD : va_D A [(a_M, .inr (5, [.int M_thrown, .int M_n, .ref a_M_a, .ref a_M_rowAt, .ref a_M_places, .ref a_M_rights, .ref a_M_weights, .int M_hasFactors, .ref a_M_pivots, .ref a_M_lower, .int M_hasSolution, .ref a_M_solution, .ref a_M_work, .ref a_M_isJoined, .int M_levels, .ref a_M_stored])), (a_M_work, .inl (g.2.1, 272, .inl (upd v_M_work (Int32.toNatClampNeg (f_at17 x5 x7)) (g_minus (v_M_work (Int32.toNatClampNeg (f_at17 x5 x7))) (f_times x6 (v_M_work (Int32.toNatClampNeg (f_at17 x2 x7))))))))] := hD
        obtain ⟨x7_11, ex7_11⟩ : ∃ y : Int32, y = x7 + 1 := ⟨_, rfl⟩
        replace hv := hv x7_11 ex7_11
        refine lv_iinc (v := x7_11) (lv' := [(7, .int x7_11), (6, .int x6), (5, .int x5), (4, .int x4), (1, .int x1), (3, .int x3), (2, .int x2), (0, .ref a_M)]) hx hb dX5_eliminate_283 hl (k := 0) rfl (by rw [ex7_11]; rfl) (by decide) rfl (fun ls hl => ?_)
        refine lv_goto (tgt := 227) hx hb dX5_eliminate_286 (by decide) ?_
        exact hv _ _ _ hP hD hS (lv_sub hl [0, 1, 2, 3, 4, 5, 6, 7] rfl)
  replace hv := hv G1 G2 G3 G4 G5 G6 hs1 hs2 hs3 hs4 hs5 hs6
  rw [hG1, hG2, hG3, hG4, hG5, hG6] at hv
  unfold vc_X5_eliminate_0 at hv
  refine lv_iconst (v := 1) hx hb dX5_eliminate_0 (by decide) ?_
  refine lv_istore_n (lv' := [(1, .int 1), (0, .ref a_M)]) hx hb dX5_eliminate_1 rfl hl (by decide) rfl (fun ls hl => ?_)
  refine lv_iconst (v := 0) hx hb dX5_eliminate_2 (by decide) ?_
  refine lv_istore_n (lv' := [(2, .int 0), (1, .int 1), (0, .ref a_M)]) hx hb dX5_eliminate_3 rfl hl (by decide) rfl (fun ls hl => ?_)
  exact hv _ _ _ hP hD hS (lv_sub hl [0, 1, 2] rfl)
def wp_X5_determinant (M_thrown : Int32) (M_n : Int32) (M_hasFactors : Int32) (M_hasSolution : Int32) (M_levels : Int32) (M_a : (Nat → Int32)) (M_work : (Nat → Int32)) (Q : Int32 → Int32 → (Nat → Int32) → Prop)   : Prop := wp_X5_copy 0 M_n M_hasFactors M_hasSolution M_levels M_a M_work (fun u_2 => wp_X5_eliminate 0 M_n M_hasFactors M_hasSolution M_levels u_2 (fun r_4 u_5 => Q r_4 0 u_5))
abbrev w0_X5_determinant (g : cx_G) (a_M a_M_a a_M_rowAt a_M_places a_M_rights a_M_weights a_M_pivots a_M_lower a_M_solution a_M_work a_M_isJoined a_M_stored : Nat) (M_thrown : Int32) (M_n : Int32) (M_hasFactors : Int32) (M_hasSolution : Int32) (M_levels : Int32) (M_a : (Nat → Int32)) (M_work : (Nat → Int32)) : va_W := [(a_M, .inr (5, [.int M_thrown, .int M_n, .ref a_M_a, .ref a_M_rowAt, .ref a_M_places, .ref a_M_rights, .ref a_M_weights, .int M_hasFactors, .ref a_M_pivots, .ref a_M_lower, .int M_hasSolution, .ref a_M_solution, .ref a_M_work, .ref a_M_isJoined, .int M_levels, .ref a_M_stored])), (a_M_a, .inl (g.2.1, 256, .inl M_a)), (a_M_work, .inl (g.2.1, 272, .inl M_work))]
abbrev w1_X5_determinant (g : cx_G) (a_M a_M_a a_M_rowAt a_M_places a_M_rights a_M_weights a_M_pivots a_M_lower a_M_solution a_M_work a_M_isJoined a_M_stored : Nat) (M_thrown : Int32) (M_n : Int32) (M_hasFactors : Int32) (M_hasSolution : Int32) (M_levels : Int32) (M_a : (Nat → Int32)) (M_work : (Nat → Int32)) (u : Int32 × (Nat → Int32)) : va_W := [(a_M, .inr (5, [.int u.1, .int M_n, .ref a_M_a, .ref a_M_rowAt, .ref a_M_places, .ref a_M_rights, .ref a_M_weights, .int M_hasFactors, .ref a_M_pivots, .ref a_M_lower, .int M_hasSolution, .ref a_M_solution, .ref a_M_work, .ref a_M_isJoined, .int M_levels, .ref a_M_stored])), (a_M_a, .inl (g.2.1, 256, .inl M_a)), (a_M_work, .inl (g.2.1, 272, .inl u.2))]
set_option maxHeartbeats 4000000 in
set_option maxRecDepth 100000 in
theorem c_X5_determinant (l : Launch) (g : cx_G) (a_M a_M_a a_M_rowAt a_M_places a_M_rights a_M_weights a_M_pivots a_M_lower a_M_solution a_M_work a_M_isJoined a_M_stored : Nat) (M_thrown : Int32) (M_n : Int32) (M_hasFactors : Int32) (M_hasSolution : Int32) (M_levels : Int32) (M_a : (Nat → Int32)) (M_work : (Nat → Int32)) {Q : Int32 → Int32 → (Nat → Int32) → Prop} (hv : wp_X5_determinant M_thrown M_n M_hasFactors M_hasSolution M_levels M_a M_work Q) : cx_Mi l g yX5_determinant (Cond.code yX5_determinant cX5_determinant 1 (some .int) :: cx_T) ({ frames := 3, cells := 0, slots := 0, locals := 71 } : Room) [.ref a_M] (w0_X5_determinant g a_M a_M_a a_M_rowAt a_M_places a_M_rights a_M_weights a_M_pivots a_M_lower a_M_solution a_M_work a_M_isJoined a_M_stored M_thrown M_n M_hasFactors M_hasSolution M_levels M_a M_work) (fun (r : Int32) (u : Int32 × (Nat → Int32)) => Q r u.1 u.2) (w1_X5_determinant g a_M a_M_a a_M_rowAt a_M_places a_M_rights a_M_weights a_M_pivots a_M_lower a_M_solution a_M_work a_M_isJoined a_M_stored M_thrown M_n M_hasFactors M_hasSolution M_levels M_a M_work) 0 0 := by
  intro sz
  refine Met.ofW (cc := cX5_determinant) (maxL := 1) (ret := (some .int)) (by decide) rfl ?_
  intro p e s m args below meth c s₁ B hml hpre
  obtain ⟨rfl, hsz, hP, hK, hD0⟩ := hpre
  have hx := B.exec
  have hb := B.bytes
  have hr := B.returns
  have hts0 := atoms_spec (ws := (Cond.code yX5_determinant cX5_determinant 1 (some .int) :: cx_T)) B.pre
  have hts : ∀ w ∈ cx_T, w.before _ s = true := fun w h => hts0 w (List.mem_cons_of_mem _ h)
  have hown : s.vm.findClass RX5 = some m.cls := findClass_of_methodNamed B.named
  have hlocks := B.notSynchronized
  subst hsz
  have hD := hD0.self (sz := s.heap.size)
  obtain ⟨A, hAe⟩ : ∃ A : Nat → Prop, A = va_A (w0_X5_determinant g a_M a_M_a a_M_rowAt a_M_places a_M_rights a_M_weights a_M_pivots a_M_lower a_M_solution a_M_work a_M_isJoined a_M_stored M_thrown M_n M_hasFactors M_hasSolution M_levels M_a M_work) s.heap.size := ⟨_, rfl⟩
  rw [← hAe] at hD
  have hA : ∀ q : Nat, s.heap.size ≤ q → A q := fun q h => by rw [hAe]; exact Or.inr h
  have hS : va_S A s.heap s.heap [] := va_S.rf
  have hP : va_P g.1 vwCl [(a_M, .inr (5, [.int M_thrown, .int M_n, .ref a_M_a, .ref a_M_rowAt, .ref a_M_places, .ref a_M_rights, .ref a_M_weights, .int M_hasFactors, .ref a_M_pivots, .ref a_M_lower, .int M_hasSolution, .ref a_M_solution, .ref a_M_work, .ref a_M_isJoined, .int M_levels, .ref a_M_stored])), (a_M_a, .inl (g.2.1, 256, .inl M_a)), (a_M_work, .inl (g.2.1, 272, .inl M_work))] s.heap := hP
  have hD : va_D A [(a_M, .inr (5, [.int M_thrown, .int M_n, .ref a_M_a, .ref a_M_rowAt, .ref a_M_places, .ref a_M_rights, .ref a_M_weights, .int M_hasFactors, .ref a_M_pivots, .ref a_M_lower, .int M_hasSolution, .ref a_M_solution, .ref a_M_work, .ref a_M_isJoined, .int M_levels, .ref a_M_stored])), (a_M_a, .inl (g.2.1, 256, .inl M_a)), (a_M_work, .inl (g.2.1, 272, .inl M_work))] := hD
  have hl := lv_entry ([.ref a_M]) (n := 1) (Nat.le_of_ble_eq_true rfl)
  rw [lg_entry_eq]
  generalize (lg_sl ([.ref a_M]) ++ List.replicate (1 - (lg_sl ([.ref a_M])).length) Slot.unset).toArray = ls at hl ⊢
  have hl : lv_has ls 1 [(0, .ref a_M)] := hl
  unfold wp_X5_determinant at hv
  refine lv_aload_n hx hb dX5_determinant_0 rfl (lv_at hl 0 rfl) ?_
  refine lv_iconst (v := 0) hx hb dX5_determinant_1 (by decide) ?_
  refine va_put (D := g.1) (ci := 5) (v := .int 0) (ty := .int) (C := RX5) (T := TX5) (N := 16) hx hb hts cw_in_X5 tyX5 tyX5_ok nmX5 hown hK.1 hP hD hS 0 rfl rfl 0 (by decide) (hts _ cw_f_X5_51) (fun _ h9 => h9) rfl (by decide +kernel) rfl rfl (Nat.le_of_ble_eq_true rfl) dX5_determinant_2 (fun H locs hP hD hS => ?_)
  have hP : va_P g.1 vwCl [(a_M, .inr (5, [.int 0, .int M_n, .ref a_M_a, .ref a_M_rowAt, .ref a_M_places, .ref a_M_rights, .ref a_M_weights, .int M_hasFactors, .ref a_M_pivots, .ref a_M_lower, .int M_hasSolution, .ref a_M_solution, .ref a_M_work, .ref a_M_isJoined, .int M_levels, .ref a_M_stored])), (a_M_a, .inl (g.2.1, 256, .inl M_a)), (a_M_work, .inl (g.2.1, 272, .inl M_work))] H := hP
  have hD : va_D A [(a_M, .inr (5, [.int 0, .int M_n, .ref a_M_a, .ref a_M_rowAt, .ref a_M_places, .ref a_M_rights, .ref a_M_weights, .int M_hasFactors, .ref a_M_pivots, .ref a_M_lower, .int M_hasSolution, .ref a_M_solution, .ref a_M_work, .ref a_M_isJoined, .int M_levels, .ref a_M_stored])), (a_M_a, .inl (g.2.1, 256, .inl M_a)), (a_M_work, .inl (g.2.1, 272, .inl M_work))] := hD
  refine lv_aload_n hx hb dX5_determinant_5 rfl (lv_at hl 0 rfl) ?_
  refine cx_vV (wr := []) (As := []) (rest := []) ⟨hx, hb, hml, hown, hts⟩ (c_X5_copy l g a_M a_M_a a_M_rowAt a_M_places a_M_rights a_M_weights a_M_pivots a_M_lower a_M_solution a_M_work a_M_isJoined a_M_stored 0 M_n M_hasFactors M_hasSolution M_levels M_a M_work hv) (cx_cwV 0 hts cw_m_X5_100 cw_i_X5_copy cw_s_X5_copy cw_n_X5 cw_c_X5_copy rfl rfl (by decide +kernel) ⟨Nat.le_of_ble_eq_true rfl, Nat.le_of_ble_eq_true rfl⟩) hK hP hD hS hA 0 5 rfl rfl [0, 1, 2] [] rfl rfl rfl rfl (by decide) rfl hl.1 rfl (Nat.le_of_ble_eq_true rfl) dX5_determinant_6 ⟨Nat.le_of_ble_eq_true rfl, Nat.le_of_ble_eq_true rfl⟩ (fun w_3 H locs hv hP hD hS => ?_)
  obtain ⟨u_2, rfl⟩ : ∃ z, z = w_3 := ⟨_, rfl⟩
  have hP : va_P g.1 vwCl [(a_M, .inr (5, [.int 0, .int M_n, .ref a_M_a, .ref a_M_rowAt, .ref a_M_places, .ref a_M_rights, .ref a_M_weights, .int M_hasFactors, .ref a_M_pivots, .ref a_M_lower, .int M_hasSolution, .ref a_M_solution, .ref a_M_work, .ref a_M_isJoined, .int M_levels, .ref a_M_stored])), (a_M_a, .inl (g.2.1, 256, .inl M_a)), (a_M_work, .inl (g.2.1, 272, .inl u_2))] H := hP.sub [0, 1, 2] rfl
  have hD : va_D A [(a_M, .inr (5, [.int 0, .int M_n, .ref a_M_a, .ref a_M_rowAt, .ref a_M_places, .ref a_M_rights, .ref a_M_weights, .int M_hasFactors, .ref a_M_pivots, .ref a_M_lower, .int M_hasSolution, .ref a_M_solution, .ref a_M_work, .ref a_M_isJoined, .int M_levels, .ref a_M_stored])), (a_M_a, .inl (g.2.1, 256, .inl M_a)), (a_M_work, .inl (g.2.1, 272, .inl u_2))] := hD.sub [0, 1, 2] (by decide) rfl
  refine lv_aload_n hx hb dX5_determinant_9 rfl (lv_at hl 0 rfl) ?_
  refine cx_iV (wr := [(a_M_a, .inl (g.2.1, 256, .inl M_a))]) (As := []) (rest := []) ⟨hx, hb, hml, hown, hts⟩ (c_X5_eliminate l g a_M a_M_a a_M_rowAt a_M_places a_M_rights a_M_weights a_M_pivots a_M_lower a_M_solution a_M_work a_M_isJoined a_M_stored 0 M_n M_hasFactors M_hasSolution M_levels u_2 hv) (cx_cwV 0 hts cw_m_X5_103 cw_i_X5_eliminate cw_s_X5_eliminate cw_n_X5 cw_c_X5_eliminate rfl rfl (by decide +kernel) ⟨Nat.le_of_ble_eq_true rfl, Nat.le_of_ble_eq_true rfl⟩) hK hP hD hS hA 0 5 rfl rfl [0, 2] [1] rfl rfl rfl rfl (by decide) rfl hl.1 rfl (Nat.le_of_ble_eq_true rfl) dX5_determinant_10 ⟨Nat.le_of_ble_eq_true rfl, Nat.le_of_ble_eq_true rfl⟩ (fun r_4 w_6 H locs hv hP hD hS => ?_)
  obtain ⟨u_5, rfl⟩ : ∃ z, z = w_6 := ⟨_, rfl⟩
  have hP : va_P g.1 vwCl [(a_M, .inr (5, [.int 0, .int M_n, .ref a_M_a, .ref a_M_rowAt, .ref a_M_places, .ref a_M_rights, .ref a_M_weights, .int M_hasFactors, .ref a_M_pivots, .ref a_M_lower, .int M_hasSolution, .ref a_M_solution, .ref a_M_work, .ref a_M_isJoined, .int M_levels, .ref a_M_stored])), (a_M_a, .inl (g.2.1, 256, .inl M_a)), (a_M_work, .inl (g.2.1, 272, .inl u_5))] H := hP.sub [1, 0, 2] rfl
  have hD : va_D A [(a_M, .inr (5, [.int 0, .int M_n, .ref a_M_a, .ref a_M_rowAt, .ref a_M_places, .ref a_M_rights, .ref a_M_weights, .int M_hasFactors, .ref a_M_pivots, .ref a_M_lower, .int M_hasSolution, .ref a_M_solution, .ref a_M_work, .ref a_M_isJoined, .int M_levels, .ref a_M_stored])), (a_M_a, .inl (g.2.1, 256, .inl M_a)), (a_M_work, .inl (g.2.1, 272, .inl u_5))] := hD.sub [1, 0, 2] (by decide) rfl
  exact cx_iret hx hb hr hlocks hAe hS (0, u_5) hv hP hD dX5_determinant_13
def wp_X5_exchange (i_p : Int32) (i_q : Int32) (M_thrown : Int32) (M_n : Int32) (M_hasFactors : Int32) (M_hasSolution : Int32) (M_levels : Int32) (M_rowAt : (Nat → Int32)) (M_places : (Nat → Int32)) (Q : (Nat → Int32) → (Nat → Int32) → Prop)   : Prop := vp_in i_p 16 ∧ (∀ x3_2 : Int32, x3_2 = (M_rowAt (Int32.toNatClampNeg i_p)) → (vp_in i_q 16 ∧ (vp_in i_p 16 ∧ (vp_in i_q 16 ∧ (vp_in i_p 16 ∧ (vp_in ((upd (upd M_rowAt (Int32.toNatClampNeg i_p) (M_rowAt (Int32.toNatClampNeg i_q))) (Int32.toNatClampNeg i_q) x3_2) (Int32.toNatClampNeg i_p)) 16 ∧ (vp_in i_q 16 ∧ (vp_in ((upd (upd M_rowAt (Int32.toNatClampNeg i_p) (M_rowAt (Int32.toNatClampNeg i_q))) (Int32.toNatClampNeg i_q) x3_2) (Int32.toNatClampNeg i_q)) 16 ∧ (Q (upd (upd M_rowAt (Int32.toNatClampNeg i_p) (M_rowAt (Int32.toNatClampNeg i_q))) (Int32.toNatClampNeg i_q) x3_2) (upd (upd M_places (Int32.toNatClampNeg ((upd (upd M_rowAt (Int32.toNatClampNeg i_p) (M_rowAt (Int32.toNatClampNeg i_q))) (Int32.toNatClampNeg i_q) x3_2) (Int32.toNatClampNeg i_p))) i_p) (Int32.toNatClampNeg ((upd (upd M_rowAt (Int32.toNatClampNeg i_p) (M_rowAt (Int32.toNatClampNeg i_q))) (Int32.toNatClampNeg i_q) x3_2) (Int32.toNatClampNeg i_q))) i_q))))))))))
abbrev w0_X5_exchange (g : cx_G) (a_M a_M_a a_M_rowAt a_M_places a_M_rights a_M_weights a_M_pivots a_M_lower a_M_solution a_M_work a_M_isJoined a_M_stored : Nat) (M_thrown : Int32) (M_n : Int32) (M_hasFactors : Int32) (M_hasSolution : Int32) (M_levels : Int32) (M_rowAt : (Nat → Int32)) (M_places : (Nat → Int32)) : va_W := [(a_M, .inr (5, [.int M_thrown, .int M_n, .ref a_M_a, .ref a_M_rowAt, .ref a_M_places, .ref a_M_rights, .ref a_M_weights, .int M_hasFactors, .ref a_M_pivots, .ref a_M_lower, .int M_hasSolution, .ref a_M_solution, .ref a_M_work, .ref a_M_isJoined, .int M_levels, .ref a_M_stored])), (a_M_rowAt, .inl (g.2.1, 16, .inl M_rowAt)), (a_M_places, .inl (g.2.1, 16, .inl M_places))]
abbrev w1_X5_exchange (g : cx_G) (a_M a_M_a a_M_rowAt a_M_places a_M_rights a_M_weights a_M_pivots a_M_lower a_M_solution a_M_work a_M_isJoined a_M_stored : Nat) (M_thrown : Int32) (M_n : Int32) (M_hasFactors : Int32) (M_hasSolution : Int32) (M_levels : Int32) (M_rowAt : (Nat → Int32)) (M_places : (Nat → Int32)) (u : (Nat → Int32) × (Nat → Int32)) : va_W := [(a_M, .inr (5, [.int M_thrown, .int M_n, .ref a_M_a, .ref a_M_rowAt, .ref a_M_places, .ref a_M_rights, .ref a_M_weights, .int M_hasFactors, .ref a_M_pivots, .ref a_M_lower, .int M_hasSolution, .ref a_M_solution, .ref a_M_work, .ref a_M_isJoined, .int M_levels, .ref a_M_stored])), (a_M_rowAt, .inl (g.2.1, 16, .inl u.1)), (a_M_places, .inl (g.2.1, 16, .inl u.2))]
set_option maxHeartbeats 4000000 in
set_option maxRecDepth 100000 in
theorem c_X5_exchange (l : Launch) (g : cx_G) (a_M a_M_a a_M_rowAt a_M_places a_M_rights a_M_weights a_M_pivots a_M_lower a_M_solution a_M_work a_M_isJoined a_M_stored : Nat) (i_p : Int32) (i_q : Int32) (M_thrown : Int32) (M_n : Int32) (M_hasFactors : Int32) (M_hasSolution : Int32) (M_levels : Int32) (M_rowAt : (Nat → Int32)) (M_places : (Nat → Int32)) {Q : (Nat → Int32) → (Nat → Int32) → Prop} (hv : wp_X5_exchange i_p i_q M_thrown M_n M_hasFactors M_hasSolution M_levels M_rowAt M_places Q) : cx_Mv l g yX5_exchange (Cond.code yX5_exchange cX5_exchange 4 none :: cx_T) ({ frames := 0, cells := 0, slots := 0, locals := 0 } : Room) [.ref a_M, .int i_p, .int i_q] (w0_X5_exchange g a_M a_M_a a_M_rowAt a_M_places a_M_rights a_M_weights a_M_pivots a_M_lower a_M_solution a_M_work a_M_isJoined a_M_stored M_thrown M_n M_hasFactors M_hasSolution M_levels M_rowAt M_places) (fun (u : (Nat → Int32) × (Nat → Int32)) => Q u.1 u.2) (w1_X5_exchange g a_M a_M_a a_M_rowAt a_M_places a_M_rights a_M_weights a_M_pivots a_M_lower a_M_solution a_M_work a_M_isJoined a_M_stored M_thrown M_n M_hasFactors M_hasSolution M_levels M_rowAt M_places) 0 0 := by
  intro sz
  refine Met.ofW (cc := cX5_exchange) (maxL := 4) (ret := none) (by decide) rfl ?_
  intro p e s m args below meth c s₁ B hml hpre
  obtain ⟨rfl, hsz, hP, hK, hD0⟩ := hpre
  have hx := B.exec
  have hb := B.bytes
  have hr := B.returns
  have hts0 := atoms_spec (ws := (Cond.code yX5_exchange cX5_exchange 4 none :: cx_T)) B.pre
  have hts : ∀ w ∈ cx_T, w.before _ s = true := fun w h => hts0 w (List.mem_cons_of_mem _ h)
  have hown : s.vm.findClass RX5 = some m.cls := findClass_of_methodNamed B.named
  have hlocks := B.notSynchronized
  subst hsz
  have hD := hD0.self (sz := s.heap.size)
  obtain ⟨A, hAe⟩ : ∃ A : Nat → Prop, A = va_A (w0_X5_exchange g a_M a_M_a a_M_rowAt a_M_places a_M_rights a_M_weights a_M_pivots a_M_lower a_M_solution a_M_work a_M_isJoined a_M_stored M_thrown M_n M_hasFactors M_hasSolution M_levels M_rowAt M_places) s.heap.size := ⟨_, rfl⟩
  rw [← hAe] at hD
  have hA : ∀ q : Nat, s.heap.size ≤ q → A q := fun q h => by rw [hAe]; exact Or.inr h
  have hS : va_S A s.heap s.heap [] := va_S.rf
  have hP : va_P g.1 vwCl [(a_M, .inr (5, [.int M_thrown, .int M_n, .ref a_M_a, .ref a_M_rowAt, .ref a_M_places, .ref a_M_rights, .ref a_M_weights, .int M_hasFactors, .ref a_M_pivots, .ref a_M_lower, .int M_hasSolution, .ref a_M_solution, .ref a_M_work, .ref a_M_isJoined, .int M_levels, .ref a_M_stored])), (a_M_rowAt, .inl (g.2.1, 16, .inl M_rowAt)), (a_M_places, .inl (g.2.1, 16, .inl M_places))] s.heap := hP
  have hD : va_D A [(a_M, .inr (5, [.int M_thrown, .int M_n, .ref a_M_a, .ref a_M_rowAt, .ref a_M_places, .ref a_M_rights, .ref a_M_weights, .int M_hasFactors, .ref a_M_pivots, .ref a_M_lower, .int M_hasSolution, .ref a_M_solution, .ref a_M_work, .ref a_M_isJoined, .int M_levels, .ref a_M_stored])), (a_M_rowAt, .inl (g.2.1, 16, .inl M_rowAt)), (a_M_places, .inl (g.2.1, 16, .inl M_places))] := hD
  have hl := lv_entry ([.ref a_M, .int i_p, .int i_q]) (n := 4) (Nat.le_of_ble_eq_true rfl)
  rw [lg_entry_eq]
  generalize (lg_sl ([.ref a_M, .int i_p, .int i_q]) ++ List.replicate (4 - (lg_sl ([.ref a_M, .int i_p, .int i_q])).length) Slot.unset).toArray = ls at hl ⊢
  have hl : lv_has ls 4 [(0, .ref a_M), (1, .int i_p), (2, .int i_q)] := hl
  unfold wp_X5_exchange at hv
  refine lv_aload_n hx hb dX5_exchange_0 rfl (lv_at hl 0 rfl) ?_
  refine va_get (D := g.1) (ci := 5) (v := .ref a_M_rowAt) (C := RX5) (T := TX5) (N := 16) hx hb hts cw_in_X5 hown hK.1 hP 0 rfl rfl 3 (by decide) (hts _ cw_f_X5_17) (fun _ h9 => h9) rfl dX5_exchange_1 ?_
  refine lv_iload_n hx hb dX5_exchange_4 rfl (lv_at hl 1 rfl) ?_
  obtain ⟨h_1, hv⟩ := hv
  refine va_iald (D := g.1) hx hb hK.1 hP 1 0 rfl rfl h_1 dX5_exchange_5 ?_
  refine lv_topi (fun x3_2 ex3_2 => ?_)
  replace hv := hv x3_2 ex3_2
  refine lv_istore_n (lv' := [(3, .int x3_2), (0, .ref a_M), (1, .int i_p), (2, .int i_q)]) hx hb dX5_exchange_6 rfl hl (by decide) rfl (fun ls hl => ?_)
  refine lv_aload_n hx hb dX5_exchange_7 rfl (lv_at hl 1 rfl) ?_
  refine va_get (D := g.1) (ci := 5) (v := .ref a_M_rowAt) (C := RX5) (T := TX5) (N := 16) hx hb hts cw_in_X5 hown hK.1 hP 0 rfl rfl 3 (by decide) (hts _ cw_f_X5_17) (fun _ h9 => h9) rfl dX5_exchange_8 ?_
  refine lv_iload_n hx hb dX5_exchange_11 rfl (lv_at hl 2 rfl) ?_
  refine lv_aload_n hx hb dX5_exchange_12 rfl (lv_at hl 1 rfl) ?_
  refine va_get (D := g.1) (ci := 5) (v := .ref a_M_rowAt) (C := RX5) (T := TX5) (N := 16) hx hb hts cw_in_X5 hown hK.1 hP 0 rfl rfl 3 (by decide) (hts _ cw_f_X5_17) (fun _ h9 => h9) rfl dX5_exchange_13 ?_
  refine lv_iload_n hx hb dX5_exchange_16 rfl (lv_at hl 3 rfl) ?_
  obtain ⟨h_3, hv⟩ := hv
  refine va_iald (D := g.1) hx hb hK.1 hP 1 0 rfl rfl h_3 dX5_exchange_17 ?_
  obtain ⟨h_4, hv⟩ := hv
  refine va_iast (D := g.1) hx hb hK.1 hP hD hS 1 0 rfl rfl h_4 dX5_exchange_18 (fun H locs hP hD hS => ?_)
  have hP : va_P g.1 vwCl [(a_M, .inr (5, [.int M_thrown, .int M_n, .ref a_M_a, .ref a_M_rowAt, .ref a_M_places, .ref a_M_rights, .ref a_M_weights, .int M_hasFactors, .ref a_M_pivots, .ref a_M_lower, .int M_hasSolution, .ref a_M_solution, .ref a_M_work, .ref a_M_isJoined, .int M_levels, .ref a_M_stored])), (a_M_rowAt, .inl (g.2.1, 16, .inl (upd M_rowAt (Int32.toNatClampNeg i_p) (M_rowAt (Int32.toNatClampNeg i_q))))), (a_M_places, .inl (g.2.1, 16, .inl M_places))] H := hP
  have hD : va_D A [(a_M, .inr (5, [.int M_thrown, .int M_n, .ref a_M_a, .ref a_M_rowAt, .ref a_M_places, .ref a_M_rights, .ref a_M_weights, .int M_hasFactors, .ref a_M_pivots, .ref a_M_lower, .int M_hasSolution, .ref a_M_solution, .ref a_M_work, .ref a_M_isJoined, .int M_levels, .ref a_M_stored])), (a_M_rowAt, .inl (g.2.1, 16, .inl (upd M_rowAt (Int32.toNatClampNeg i_p) (M_rowAt (Int32.toNatClampNeg i_q))))), (a_M_places, .inl (g.2.1, 16, .inl M_places))] := hD
  refine lv_aload_n hx hb dX5_exchange_19 rfl (lv_at hl 1 rfl) ?_
  refine va_get (D := g.1) (ci := 5) (v := .ref a_M_rowAt) (C := RX5) (T := TX5) (N := 16) hx hb hts cw_in_X5 hown hK.1 hP 0 rfl rfl 3 (by decide) (hts _ cw_f_X5_17) (fun _ h9 => h9) rfl dX5_exchange_20 ?_
  refine lv_iload_n hx hb dX5_exchange_23 rfl (lv_at hl 3 rfl) ?_
  refine lv_iload_n hx hb dX5_exchange_24 rfl (lv_at hl 0 rfl) ?_
  obtain ⟨h_5, hv⟩ := hv
  refine va_iast (D := g.1) hx hb hK.1 hP hD hS 1 0 rfl rfl h_5 dX5_exchange_25 (fun H locs hP hD hS => ?_)
  have hP : va_P g.1 vwCl [(a_M, .inr (5, [.int M_thrown, .int M_n, .ref a_M_a, .ref a_M_rowAt, .ref a_M_places, .ref a_M_rights, .ref a_M_weights, .int M_hasFactors, .ref a_M_pivots, .ref a_M_lower, .int M_hasSolution, .ref a_M_solution, .ref a_M_work, .ref a_M_isJoined, .int M_levels, .ref a_M_stored])), (a_M_rowAt, .inl (g.2.1, 16, .inl (upd (upd M_rowAt (Int32.toNatClampNeg i_p) (M_rowAt (Int32.toNatClampNeg i_q))) (Int32.toNatClampNeg i_q) x3_2))), (a_M_places, .inl (g.2.1, 16, .inl M_places))] H := hP
  have hD : va_D A [(a_M, .inr (5, [.int M_thrown, .int M_n, .ref a_M_a, .ref a_M_rowAt, .ref a_M_places, .ref a_M_rights, .ref a_M_weights, .int M_hasFactors, .ref a_M_pivots, .ref a_M_lower, .int M_hasSolution, .ref a_M_solution, .ref a_M_work, .ref a_M_isJoined, .int M_levels, .ref a_M_stored])), (a_M_rowAt, .inl (g.2.1, 16, .inl (upd (upd M_rowAt (Int32.toNatClampNeg i_p) (M_rowAt (Int32.toNatClampNeg i_q))) (Int32.toNatClampNeg i_q) x3_2))), (a_M_places, .inl (g.2.1, 16, .inl M_places))] := hD
  refine lv_aload_n hx hb dX5_exchange_26 rfl (lv_at hl 1 rfl) ?_
  refine va_get (D := g.1) (ci := 5) (v := .ref a_M_places) (C := RX5) (T := TX5) (N := 16) hx hb hts cw_in_X5 hown hK.1 hP 0 rfl rfl 4 (by decide) (hts _ cw_f_X5_20) (fun _ h9 => h9) rfl dX5_exchange_27 ?_
  refine lv_aload_n hx hb dX5_exchange_30 rfl (lv_at hl 1 rfl) ?_
  refine va_get (D := g.1) (ci := 5) (v := .ref a_M_rowAt) (C := RX5) (T := TX5) (N := 16) hx hb hts cw_in_X5 hown hK.1 hP 0 rfl rfl 3 (by decide) (hts _ cw_f_X5_17) (fun _ h9 => h9) rfl dX5_exchange_31 ?_
  refine lv_iload_n hx hb dX5_exchange_34 rfl (lv_at hl 2 rfl) ?_
  obtain ⟨h_6, hv⟩ := hv
  refine va_iald (D := g.1) hx hb hK.1 hP 1 0 rfl rfl h_6 dX5_exchange_35 ?_
  refine lv_iload_n hx hb dX5_exchange_36 rfl (lv_at hl 2 rfl) ?_
  obtain ⟨h_7, hv⟩ := hv
  refine va_iast (D := g.1) hx hb hK.1 hP hD hS 2 0 rfl rfl h_7 dX5_exchange_37 (fun H locs hP hD hS => ?_)
  have hP : va_P g.1 vwCl [(a_M, .inr (5, [.int M_thrown, .int M_n, .ref a_M_a, .ref a_M_rowAt, .ref a_M_places, .ref a_M_rights, .ref a_M_weights, .int M_hasFactors, .ref a_M_pivots, .ref a_M_lower, .int M_hasSolution, .ref a_M_solution, .ref a_M_work, .ref a_M_isJoined, .int M_levels, .ref a_M_stored])), (a_M_rowAt, .inl (g.2.1, 16, .inl (upd (upd M_rowAt (Int32.toNatClampNeg i_p) (M_rowAt (Int32.toNatClampNeg i_q))) (Int32.toNatClampNeg i_q) x3_2))), (a_M_places, .inl (g.2.1, 16, .inl (upd M_places (Int32.toNatClampNeg ((upd (upd M_rowAt (Int32.toNatClampNeg i_p) (M_rowAt (Int32.toNatClampNeg i_q))) (Int32.toNatClampNeg i_q) x3_2) (Int32.toNatClampNeg i_p))) i_p)))] H := hP
  have hD : va_D A [(a_M, .inr (5, [.int M_thrown, .int M_n, .ref a_M_a, .ref a_M_rowAt, .ref a_M_places, .ref a_M_rights, .ref a_M_weights, .int M_hasFactors, .ref a_M_pivots, .ref a_M_lower, .int M_hasSolution, .ref a_M_solution, .ref a_M_work, .ref a_M_isJoined, .int M_levels, .ref a_M_stored])), (a_M_rowAt, .inl (g.2.1, 16, .inl (upd (upd M_rowAt (Int32.toNatClampNeg i_p) (M_rowAt (Int32.toNatClampNeg i_q))) (Int32.toNatClampNeg i_q) x3_2))), (a_M_places, .inl (g.2.1, 16, .inl (upd M_places (Int32.toNatClampNeg ((upd (upd M_rowAt (Int32.toNatClampNeg i_p) (M_rowAt (Int32.toNatClampNeg i_q))) (Int32.toNatClampNeg i_q) x3_2) (Int32.toNatClampNeg i_p))) i_p)))] := hD
  refine lv_aload_n hx hb dX5_exchange_38 rfl (lv_at hl 1 rfl) ?_
  refine va_get (D := g.1) (ci := 5) (v := .ref a_M_places) (C := RX5) (T := TX5) (N := 16) hx hb hts cw_in_X5 hown hK.1 hP 0 rfl rfl 4 (by decide) (hts _ cw_f_X5_20) (fun _ h9 => h9) rfl dX5_exchange_39 ?_
  refine lv_aload_n hx hb dX5_exchange_42 rfl (lv_at hl 1 rfl) ?_
  refine va_get (D := g.1) (ci := 5) (v := .ref a_M_rowAt) (C := RX5) (T := TX5) (N := 16) hx hb hts cw_in_X5 hown hK.1 hP 0 rfl rfl 3 (by decide) (hts _ cw_f_X5_17) (fun _ h9 => h9) rfl dX5_exchange_43 ?_
  refine lv_iload_n hx hb dX5_exchange_46 rfl (lv_at hl 3 rfl) ?_
  obtain ⟨h_8, hv⟩ := hv
  refine va_iald (D := g.1) hx hb hK.1 hP 1 0 rfl rfl h_8 dX5_exchange_47 ?_
  refine lv_iload_n hx hb dX5_exchange_48 rfl (lv_at hl 3 rfl) ?_
  obtain ⟨h_9, hv⟩ := hv
  refine va_iast (D := g.1) hx hb hK.1 hP hD hS 2 0 rfl rfl h_9 dX5_exchange_49 (fun H locs hP hD hS => ?_)
  have hP : va_P g.1 vwCl [(a_M, .inr (5, [.int M_thrown, .int M_n, .ref a_M_a, .ref a_M_rowAt, .ref a_M_places, .ref a_M_rights, .ref a_M_weights, .int M_hasFactors, .ref a_M_pivots, .ref a_M_lower, .int M_hasSolution, .ref a_M_solution, .ref a_M_work, .ref a_M_isJoined, .int M_levels, .ref a_M_stored])), (a_M_rowAt, .inl (g.2.1, 16, .inl (upd (upd M_rowAt (Int32.toNatClampNeg i_p) (M_rowAt (Int32.toNatClampNeg i_q))) (Int32.toNatClampNeg i_q) x3_2))), (a_M_places, .inl (g.2.1, 16, .inl (upd (upd M_places (Int32.toNatClampNeg ((upd (upd M_rowAt (Int32.toNatClampNeg i_p) (M_rowAt (Int32.toNatClampNeg i_q))) (Int32.toNatClampNeg i_q) x3_2) (Int32.toNatClampNeg i_p))) i_p) (Int32.toNatClampNeg ((upd (upd M_rowAt (Int32.toNatClampNeg i_p) (M_rowAt (Int32.toNatClampNeg i_q))) (Int32.toNatClampNeg i_q) x3_2) (Int32.toNatClampNeg i_q))) i_q)))] H := hP
  have hD : va_D A [(a_M, .inr (5, [.int M_thrown, .int M_n, .ref a_M_a, .ref a_M_rowAt, .ref a_M_places, .ref a_M_rights, .ref a_M_weights, .int M_hasFactors, .ref a_M_pivots, .ref a_M_lower, .int M_hasSolution, .ref a_M_solution, .ref a_M_work, .ref a_M_isJoined, .int M_levels, .ref a_M_stored])), (a_M_rowAt, .inl (g.2.1, 16, .inl (upd (upd M_rowAt (Int32.toNatClampNeg i_p) (M_rowAt (Int32.toNatClampNeg i_q))) (Int32.toNatClampNeg i_q) x3_2))), (a_M_places, .inl (g.2.1, 16, .inl (upd (upd M_places (Int32.toNatClampNeg ((upd (upd M_rowAt (Int32.toNatClampNeg i_p) (M_rowAt (Int32.toNatClampNeg i_q))) (Int32.toNatClampNeg i_q) x3_2) (Int32.toNatClampNeg i_p))) i_p) (Int32.toNatClampNeg ((upd (upd M_rowAt (Int32.toNatClampNeg i_p) (M_rowAt (Int32.toNatClampNeg i_q))) (Int32.toNatClampNeg i_q) x3_2) (Int32.toNatClampNeg i_q))) i_q)))] := hD
  exact cx_vret hx hb hr hlocks hAe hS ((upd (upd M_rowAt (Int32.toNatClampNeg i_p) (M_rowAt (Int32.toNatClampNeg i_q))) (Int32.toNatClampNeg i_q) x3_2), (upd (upd M_places (Int32.toNatClampNeg ((upd (upd M_rowAt (Int32.toNatClampNeg i_p) (M_rowAt (Int32.toNatClampNeg i_q))) (Int32.toNatClampNeg i_q) x3_2) (Int32.toNatClampNeg i_p))) i_p) (Int32.toNatClampNeg ((upd (upd M_rowAt (Int32.toNatClampNeg i_p) (M_rowAt (Int32.toNatClampNeg i_q))) (Int32.toNatClampNeg i_q) x3_2) (Int32.toNatClampNeg i_q))) i_q)) hv hP hD dX5_exchange_50
def wp_X5_swap (i_p : Int32) (i_q : Int32) (M_thrown : Int32) (M_n : Int32) (M_hasFactors : Int32) (M_hasSolution : Int32) (M_levels : Int32) (M_rowAt : (Nat → Int32)) (M_places : (Nat → Int32)) (Q : Int32 → Int32 → Int32 → (Nat → Int32) → (Nat → Int32) → Prop)   : Prop := wp_X5_isRow i_p 0 M_n M_hasFactors M_hasSolution M_levels (fun r_1 => (r_1 = 0 → (wp_X5_no 1 0 M_n M_hasFactors M_hasSolution M_levels (fun r_2 u_3 => (r_2 ≤ 0 → (Q 0 u_3 M_hasFactors M_rowAt M_places)) ∧ (¬ r_2 ≤ 0 → (Q 1 u_3 M_hasFactors M_rowAt M_places))))) ∧ (¬ r_1 = 0 → (wp_X5_isRow i_q 0 M_n M_hasFactors M_hasSolution M_levels (fun r_5 => (r_5 = 0 → (wp_X5_no 1 0 M_n M_hasFactors M_hasSolution M_levels (fun r_10 u_11 => (r_10 ≤ 0 → (Q 0 u_11 M_hasFactors M_rowAt M_places)) ∧ (¬ r_10 ≤ 0 → (Q 1 u_11 M_hasFactors M_rowAt M_places))))) ∧ (¬ r_5 = 0 → (wp_X5_exchange i_p i_q 0 M_n M_hasFactors M_hasSolution M_levels M_rowAt M_places (fun u_7 u_8 => (i_p = i_q → (Q 0 0 0 u_7 u_8)) ∧ (¬ i_p = i_q → (Q 1 0 0 u_7 u_8)))))))))
abbrev w0_X5_swap (g : cx_G) (a_M a_M_a a_M_rowAt a_M_places a_M_rights a_M_weights a_M_pivots a_M_lower a_M_solution a_M_work a_M_isJoined a_M_stored : Nat) (M_thrown : Int32) (M_n : Int32) (M_hasFactors : Int32) (M_hasSolution : Int32) (M_levels : Int32) (M_rowAt : (Nat → Int32)) (M_places : (Nat → Int32)) : va_W := [(a_M, .inr (5, [.int M_thrown, .int M_n, .ref a_M_a, .ref a_M_rowAt, .ref a_M_places, .ref a_M_rights, .ref a_M_weights, .int M_hasFactors, .ref a_M_pivots, .ref a_M_lower, .int M_hasSolution, .ref a_M_solution, .ref a_M_work, .ref a_M_isJoined, .int M_levels, .ref a_M_stored])), (a_M_rowAt, .inl (g.2.1, 16, .inl M_rowAt)), (a_M_places, .inl (g.2.1, 16, .inl M_places))]
abbrev w1_X5_swap (g : cx_G) (a_M a_M_a a_M_rowAt a_M_places a_M_rights a_M_weights a_M_pivots a_M_lower a_M_solution a_M_work a_M_isJoined a_M_stored : Nat) (M_thrown : Int32) (M_n : Int32) (M_hasFactors : Int32) (M_hasSolution : Int32) (M_levels : Int32) (M_rowAt : (Nat → Int32)) (M_places : (Nat → Int32)) (u : Int32 × Int32 × (Nat → Int32) × (Nat → Int32)) : va_W := [(a_M, .inr (5, [.int u.1, .int M_n, .ref a_M_a, .ref a_M_rowAt, .ref a_M_places, .ref a_M_rights, .ref a_M_weights, .int u.2.1, .ref a_M_pivots, .ref a_M_lower, .int M_hasSolution, .ref a_M_solution, .ref a_M_work, .ref a_M_isJoined, .int M_levels, .ref a_M_stored])), (a_M_rowAt, .inl (g.2.1, 16, .inl u.2.2.1)), (a_M_places, .inl (g.2.1, 16, .inl u.2.2.2))]
set_option maxHeartbeats 4000000 in
set_option maxRecDepth 100000 in
theorem c_X5_swap (l : Launch) (g : cx_G) (a_M a_M_a a_M_rowAt a_M_places a_M_rights a_M_weights a_M_pivots a_M_lower a_M_solution a_M_work a_M_isJoined a_M_stored : Nat) (i_p : Int32) (i_q : Int32) (M_thrown : Int32) (M_n : Int32) (M_hasFactors : Int32) (M_hasSolution : Int32) (M_levels : Int32) (M_rowAt : (Nat → Int32)) (M_places : (Nat → Int32)) {Q : Int32 → Int32 → Int32 → (Nat → Int32) → (Nat → Int32) → Prop} (hv : wp_X5_swap i_p i_q M_thrown M_n M_hasFactors M_hasSolution M_levels M_rowAt M_places Q) : cx_Mi l g yX5_swap (Cond.code yX5_swap cX5_swap 3 (some .boolean) :: cx_T) ({ frames := 1, cells := 0, slots := 0, locals := 23 } : Room) [.ref a_M, .int i_p, .int i_q] (w0_X5_swap g a_M a_M_a a_M_rowAt a_M_places a_M_rights a_M_weights a_M_pivots a_M_lower a_M_solution a_M_work a_M_isJoined a_M_stored M_thrown M_n M_hasFactors M_hasSolution M_levels M_rowAt M_places) (fun (r : Int32) (u : Int32 × Int32 × (Nat → Int32) × (Nat → Int32)) => Q r u.1 u.2.1 u.2.2.1 u.2.2.2) (w1_X5_swap g a_M a_M_a a_M_rowAt a_M_places a_M_rights a_M_weights a_M_pivots a_M_lower a_M_solution a_M_work a_M_isJoined a_M_stored M_thrown M_n M_hasFactors M_hasSolution M_levels M_rowAt M_places) 0 0 := by
  intro sz
  refine Met.ofW (cc := cX5_swap) (maxL := 3) (ret := (some .boolean)) (by decide) rfl ?_
  intro p e s m args below meth c s₁ B hml hpre
  obtain ⟨rfl, hsz, hP, hK, hD0⟩ := hpre
  have hx := B.exec
  have hb := B.bytes
  have hr := B.returns
  have hts0 := atoms_spec (ws := (Cond.code yX5_swap cX5_swap 3 (some .boolean) :: cx_T)) B.pre
  have hts : ∀ w ∈ cx_T, w.before _ s = true := fun w h => hts0 w (List.mem_cons_of_mem _ h)
  have hown : s.vm.findClass RX5 = some m.cls := findClass_of_methodNamed B.named
  have hlocks := B.notSynchronized
  subst hsz
  have hD := hD0.self (sz := s.heap.size)
  obtain ⟨A, hAe⟩ : ∃ A : Nat → Prop, A = va_A (w0_X5_swap g a_M a_M_a a_M_rowAt a_M_places a_M_rights a_M_weights a_M_pivots a_M_lower a_M_solution a_M_work a_M_isJoined a_M_stored M_thrown M_n M_hasFactors M_hasSolution M_levels M_rowAt M_places) s.heap.size := ⟨_, rfl⟩
  rw [← hAe] at hD
  have hA : ∀ q : Nat, s.heap.size ≤ q → A q := fun q h => by rw [hAe]; exact Or.inr h
  have hS : va_S A s.heap s.heap [] := va_S.rf
  have hP : va_P g.1 vwCl [(a_M, .inr (5, [.int M_thrown, .int M_n, .ref a_M_a, .ref a_M_rowAt, .ref a_M_places, .ref a_M_rights, .ref a_M_weights, .int M_hasFactors, .ref a_M_pivots, .ref a_M_lower, .int M_hasSolution, .ref a_M_solution, .ref a_M_work, .ref a_M_isJoined, .int M_levels, .ref a_M_stored])), (a_M_rowAt, .inl (g.2.1, 16, .inl M_rowAt)), (a_M_places, .inl (g.2.1, 16, .inl M_places))] s.heap := hP
  have hD : va_D A [(a_M, .inr (5, [.int M_thrown, .int M_n, .ref a_M_a, .ref a_M_rowAt, .ref a_M_places, .ref a_M_rights, .ref a_M_weights, .int M_hasFactors, .ref a_M_pivots, .ref a_M_lower, .int M_hasSolution, .ref a_M_solution, .ref a_M_work, .ref a_M_isJoined, .int M_levels, .ref a_M_stored])), (a_M_rowAt, .inl (g.2.1, 16, .inl M_rowAt)), (a_M_places, .inl (g.2.1, 16, .inl M_places))] := hD
  have hl := lv_entry ([.ref a_M, .int i_p, .int i_q]) (n := 3) (Nat.le_of_ble_eq_true rfl)
  rw [lg_entry_eq]
  generalize (lg_sl ([.ref a_M, .int i_p, .int i_q]) ++ List.replicate (3 - (lg_sl ([.ref a_M, .int i_p, .int i_q])).length) Slot.unset).toArray = ls at hl ⊢
  have hl : lv_has ls 3 [(0, .ref a_M), (1, .int i_p), (2, .int i_q)] := hl
  unfold wp_X5_swap at hv
  refine lv_aload_n hx hb dX5_swap_0 rfl (lv_at hl 0 rfl) ?_
  refine lv_iconst (v := 0) hx hb dX5_swap_1 (by decide) ?_
  refine va_put (D := g.1) (ci := 5) (v := .int 0) (ty := .int) (C := RX5) (T := TX5) (N := 16) hx hb hts cw_in_X5 tyX5 tyX5_ok nmX5 hown hK.1 hP hD hS 0 rfl rfl 0 (by decide) (hts _ cw_f_X5_51) (fun _ h9 => h9) rfl (by decide +kernel) rfl rfl (Nat.le_of_ble_eq_true rfl) dX5_swap_2 (fun H locs hP hD hS => ?_)
  have hP : va_P g.1 vwCl [(a_M, .inr (5, [.int 0, .int M_n, .ref a_M_a, .ref a_M_rowAt, .ref a_M_places, .ref a_M_rights, .ref a_M_weights, .int M_hasFactors, .ref a_M_pivots, .ref a_M_lower, .int M_hasSolution, .ref a_M_solution, .ref a_M_work, .ref a_M_isJoined, .int M_levels, .ref a_M_stored])), (a_M_rowAt, .inl (g.2.1, 16, .inl M_rowAt)), (a_M_places, .inl (g.2.1, 16, .inl M_places))] H := hP
  have hD : va_D A [(a_M, .inr (5, [.int 0, .int M_n, .ref a_M_a, .ref a_M_rowAt, .ref a_M_places, .ref a_M_rights, .ref a_M_weights, .int M_hasFactors, .ref a_M_pivots, .ref a_M_lower, .int M_hasSolution, .ref a_M_solution, .ref a_M_work, .ref a_M_isJoined, .int M_levels, .ref a_M_stored])), (a_M_rowAt, .inl (g.2.1, 16, .inl M_rowAt)), (a_M_places, .inl (g.2.1, 16, .inl M_places))] := hD
  refine lv_aload_n hx hb dX5_swap_5 rfl (lv_at hl 0 rfl) ?_
  refine lv_iload_n hx hb dX5_swap_6 rfl (lv_at hl 1 rfl) ?_
  refine cx_iVr (As := [.int i_p]) (rest := []) ⟨hx, hb, hml, hown, hts⟩ (c_X5_isRow l g a_M a_M_a a_M_rowAt a_M_places a_M_rights a_M_weights a_M_pivots a_M_lower a_M_solution a_M_work a_M_isJoined a_M_stored i_p 0 M_n M_hasFactors M_hasSolution M_levels hv) (cx_cwV 1 hts cw_m_X5_76 cw_i_X5_isRow cw_s_X5_isRow cw_n_X5 cw_c_X5_isRow rfl rfl (by decide +kernel) ⟨Nat.le_of_ble_eq_true rfl, Nat.le_of_ble_eq_true rfl⟩) hK hP hD hS hA 0 5 rfl rfl [0] rfl rfl rfl hl.1 rfl (Nat.le_of_ble_eq_true rfl) dX5_swap_7 ⟨Nat.le_of_ble_eq_true rfl, Nat.le_of_ble_eq_true rfl⟩ (fun r_1 H locs hv hP hS => ?_)
  refine lv_if_eq (tgt := 21) hx hb dX5_swap_10 (by decide) (fun hc => ?_) (fun hc => ?_)
  · replace hv := hv.1 hc
    refine lv_aload_n hx hb dX5_swap_21 rfl (lv_at hl 0 rfl) ?_
    refine lv_iconst (v := 1) hx hb dX5_swap_22 (by decide) ?_
    refine cx_iV (wr := [(a_M_rowAt, .inl (g.2.1, 16, .inl M_rowAt)), (a_M_places, .inl (g.2.1, 16, .inl M_places))]) (As := [.int 1]) (rest := []) ⟨hx, hb, hml, hown, hts⟩ (c_X5_no l g a_M a_M_a a_M_rowAt a_M_places a_M_rights a_M_weights a_M_pivots a_M_lower a_M_solution a_M_work a_M_isJoined a_M_stored 1 0 M_n M_hasFactors M_hasSolution M_levels hv) (cx_cwV 1 hts cw_m_X5_72 cw_i_X5_no cw_s_X5_no cw_n_X5 cw_c_X5_no rfl rfl (by decide +kernel) ⟨Nat.le_of_ble_eq_true rfl, Nat.le_of_ble_eq_true rfl⟩) hK hP hD hS hA 0 5 rfl rfl [0] [1, 2] rfl rfl rfl rfl (by decide) rfl hl.1 rfl (Nat.le_of_ble_eq_true rfl) dX5_swap_23 ⟨Nat.le_of_ble_eq_true rfl, Nat.le_of_ble_eq_true rfl⟩ (fun r_2 w_4 H locs hv hP hD hS => ?_)
    obtain ⟨u_3, rfl⟩ : ∃ z, z = w_4 := ⟨_, rfl⟩
    have hP : va_P g.1 vwCl [(a_M, .inr (5, [.int u_3, .int M_n, .ref a_M_a, .ref a_M_rowAt, .ref a_M_places, .ref a_M_rights, .ref a_M_weights, .int M_hasFactors, .ref a_M_pivots, .ref a_M_lower, .int M_hasSolution, .ref a_M_solution, .ref a_M_work, .ref a_M_isJoined, .int M_levels, .ref a_M_stored])), (a_M_rowAt, .inl (g.2.1, 16, .inl M_rowAt)), (a_M_places, .inl (g.2.1, 16, .inl M_places))] H := hP.sub [2, 0, 1] rfl
    have hD : va_D A [(a_M, .inr (5, [.int u_3, .int M_n, .ref a_M_a, .ref a_M_rowAt, .ref a_M_places, .ref a_M_rights, .ref a_M_weights, .int M_hasFactors, .ref a_M_pivots, .ref a_M_lower, .int M_hasSolution, .ref a_M_solution, .ref a_M_work, .ref a_M_isJoined, .int M_levels, .ref a_M_stored])), (a_M_rowAt, .inl (g.2.1, 16, .inl M_rowAt)), (a_M_places, .inl (g.2.1, 16, .inl M_places))] := hD.sub [2, 0, 1] (by decide) rfl
    refine lv_if_le (tgt := 33) hx hb dX5_swap_26 (by decide) (fun hc => ?_) (fun hc => ?_)
    · replace hv := hv.1 hc
      refine lv_iconst (v := 0) hx hb dX5_swap_33 (by decide) ?_
      exact cx_zret hx hb hr rfl hlocks hAe hS (u_3, M_hasFactors, M_rowAt, M_places) hv hP hD dX5_swap_34
    · replace hv := hv.2 hc
      refine lv_iconst (v := 1) hx hb dX5_swap_29 (by decide) ?_
      refine lv_goto (tgt := 34) hx hb dX5_swap_30 (by decide) ?_
      exact cx_zret hx hb hr rfl hlocks hAe hS (u_3, M_hasFactors, M_rowAt, M_places) hv hP hD dX5_swap_34
  · replace hv := hv.2 hc
    refine lv_aload_n hx hb dX5_swap_13 rfl (lv_at hl 0 rfl) ?_
    refine lv_iload_n hx hb dX5_swap_14 rfl (lv_at hl 2 rfl) ?_
    refine cx_iVr (As := [.int i_q]) (rest := []) ⟨hx, hb, hml, hown, hts⟩ (c_X5_isRow l g a_M a_M_a a_M_rowAt a_M_places a_M_rights a_M_weights a_M_pivots a_M_lower a_M_solution a_M_work a_M_isJoined a_M_stored i_q 0 M_n M_hasFactors M_hasSolution M_levels hv) (cx_cwV 1 hts cw_m_X5_76 cw_i_X5_isRow cw_s_X5_isRow cw_n_X5 cw_c_X5_isRow rfl rfl (by decide +kernel) ⟨Nat.le_of_ble_eq_true rfl, Nat.le_of_ble_eq_true rfl⟩) hK hP hD hS hA 0 5 rfl rfl [0] rfl rfl rfl hl.1 rfl (Nat.le_of_ble_eq_true rfl) dX5_swap_15 ⟨Nat.le_of_ble_eq_true rfl, Nat.le_of_ble_eq_true rfl⟩ (fun r_5 H locs hv hP hS => ?_)
    refine lv_if_ne (tgt := 35) hx hb dX5_swap_18 (by decide) (fun hc => ?_) (fun hc => ?_)
    · replace hv := hv.2 hc
      refine lv_aload_n hx hb dX5_swap_35 rfl (lv_at hl 0 rfl) ?_
      refine lv_iload_n hx hb dX5_swap_36 rfl (lv_at hl 1 rfl) ?_
      refine lv_iload_n hx hb dX5_swap_37 rfl (lv_at hl 2 rfl) ?_
      refine cx_vV (wr := []) (As := [.int i_p, .int i_q]) (rest := []) ⟨hx, hb, hml, hown, hts⟩ (c_X5_exchange l g a_M a_M_a a_M_rowAt a_M_places a_M_rights a_M_weights a_M_pivots a_M_lower a_M_solution a_M_work a_M_isJoined a_M_stored i_p i_q 0 M_n M_hasFactors M_hasSolution M_levels M_rowAt M_places hv) (cx_cwV 2 hts cw_m_X5_106 cw_i_X5_exchange cw_s_X5_exchange cw_n_X5 cw_c_X5_exchange rfl rfl (by decide +kernel) ⟨Nat.le_of_ble_eq_true rfl, Nat.le_of_ble_eq_true rfl⟩) hK hP hD hS hA 0 5 rfl rfl [0, 1, 2] [] rfl rfl rfl rfl (by decide) rfl hl.1 rfl (Nat.le_of_ble_eq_true rfl) dX5_swap_38 ⟨Nat.le_of_ble_eq_true rfl, Nat.le_of_ble_eq_true rfl⟩ (fun w_9 H locs hv hP hD hS => ?_)
      obtain ⟨u_7, u_8⟩ := w_9
      have hP : va_P g.1 vwCl [(a_M, .inr (5, [.int 0, .int M_n, .ref a_M_a, .ref a_M_rowAt, .ref a_M_places, .ref a_M_rights, .ref a_M_weights, .int M_hasFactors, .ref a_M_pivots, .ref a_M_lower, .int M_hasSolution, .ref a_M_solution, .ref a_M_work, .ref a_M_isJoined, .int M_levels, .ref a_M_stored])), (a_M_rowAt, .inl (g.2.1, 16, .inl u_7)), (a_M_places, .inl (g.2.1, 16, .inl u_8))] H := hP.sub [0, 1, 2] rfl
      have hD : va_D A [(a_M, .inr (5, [.int 0, .int M_n, .ref a_M_a, .ref a_M_rowAt, .ref a_M_places, .ref a_M_rights, .ref a_M_weights, .int M_hasFactors, .ref a_M_pivots, .ref a_M_lower, .int M_hasSolution, .ref a_M_solution, .ref a_M_work, .ref a_M_isJoined, .int M_levels, .ref a_M_stored])), (a_M_rowAt, .inl (g.2.1, 16, .inl u_7)), (a_M_places, .inl (g.2.1, 16, .inl u_8))] := hD.sub [0, 1, 2] (by decide) rfl
      refine lv_aload_n hx hb dX5_swap_41 rfl (lv_at hl 0 rfl) ?_
      refine lv_iconst (v := 0) hx hb dX5_swap_42 (by decide) ?_
      refine va_put (D := g.1) (ci := 5) (v := .int 0) (ty := .boolean) (C := RX5) (T := TX5) (N := 16) hx hb hts cw_in_X5 tyX5 tyX5_ok nmX5 hown hK.1 hP hD hS 0 rfl rfl 7 (by decide) (hts _ cw_f_X5_65) (fun _ h9 => h9) rfl (by decide +kernel) rfl rfl (Nat.le_of_ble_eq_true rfl) dX5_swap_43 (fun H locs hP hD hS => ?_)
      have hP : va_P g.1 vwCl [(a_M, .inr (5, [.int 0, .int M_n, .ref a_M_a, .ref a_M_rowAt, .ref a_M_places, .ref a_M_rights, .ref a_M_weights, .int 0, .ref a_M_pivots, .ref a_M_lower, .int M_hasSolution, .ref a_M_solution, .ref a_M_work, .ref a_M_isJoined, .int M_levels, .ref a_M_stored])), (a_M_rowAt, .inl (g.2.1, 16, .inl u_7)), (a_M_places, .inl (g.2.1, 16, .inl u_8))] H := hP
      have hD : va_D A [(a_M, .inr (5, [.int 0, .int M_n, .ref a_M_a, .ref a_M_rowAt, .ref a_M_places, .ref a_M_rights, .ref a_M_weights, .int 0, .ref a_M_pivots, .ref a_M_lower, .int M_hasSolution, .ref a_M_solution, .ref a_M_work, .ref a_M_isJoined, .int M_levels, .ref a_M_stored])), (a_M_rowAt, .inl (g.2.1, 16, .inl u_7)), (a_M_places, .inl (g.2.1, 16, .inl u_8))] := hD
      refine lv_iload_n hx hb dX5_swap_46 rfl (lv_at hl 1 rfl) ?_
      refine lv_iload_n hx hb dX5_swap_47 rfl (lv_at hl 2 rfl) ?_
      refine lv_icmp_eq (tgt := 55) hx hb dX5_swap_48 (by decide) (fun hc => ?_) (fun hc => ?_)
      · replace hv := hv.1 hc
        refine lv_iconst (v := 0) hx hb dX5_swap_55 (by decide) ?_
        exact cx_zret hx hb hr rfl hlocks hAe hS (0, 0, u_7, u_8) hv hP hD dX5_swap_56
      · replace hv := hv.2 hc
        refine lv_iconst (v := 1) hx hb dX5_swap_51 (by decide) ?_
        refine lv_goto (tgt := 56) hx hb dX5_swap_52 (by decide) ?_
        exact cx_zret hx hb hr rfl hlocks hAe hS (0, 0, u_7, u_8) hv hP hD dX5_swap_56
    · replace hv := hv.1 hc
      refine lv_aload_n hx hb dX5_swap_21 rfl (lv_at hl 0 rfl) ?_
      refine lv_iconst (v := 1) hx hb dX5_swap_22 (by decide) ?_
      refine cx_iV (wr := [(a_M_rowAt, .inl (g.2.1, 16, .inl M_rowAt)), (a_M_places, .inl (g.2.1, 16, .inl M_places))]) (As := [.int 1]) (rest := []) ⟨hx, hb, hml, hown, hts⟩ (c_X5_no l g a_M a_M_a a_M_rowAt a_M_places a_M_rights a_M_weights a_M_pivots a_M_lower a_M_solution a_M_work a_M_isJoined a_M_stored 1 0 M_n M_hasFactors M_hasSolution M_levels hv) (cx_cwV 1 hts cw_m_X5_72 cw_i_X5_no cw_s_X5_no cw_n_X5 cw_c_X5_no rfl rfl (by decide +kernel) ⟨Nat.le_of_ble_eq_true rfl, Nat.le_of_ble_eq_true rfl⟩) hK hP hD hS hA 0 5 rfl rfl [0] [1, 2] rfl rfl rfl rfl (by decide) rfl hl.1 rfl (Nat.le_of_ble_eq_true rfl) dX5_swap_23 ⟨Nat.le_of_ble_eq_true rfl, Nat.le_of_ble_eq_true rfl⟩ (fun r_10 w_12 H locs hv hP hD hS => ?_)
      obtain ⟨u_11, rfl⟩ : ∃ z, z = w_12 := ⟨_, rfl⟩
      have hP : va_P g.1 vwCl [(a_M, .inr (5, [.int u_11, .int M_n, .ref a_M_a, .ref a_M_rowAt, .ref a_M_places, .ref a_M_rights, .ref a_M_weights, .int M_hasFactors, .ref a_M_pivots, .ref a_M_lower, .int M_hasSolution, .ref a_M_solution, .ref a_M_work, .ref a_M_isJoined, .int M_levels, .ref a_M_stored])), (a_M_rowAt, .inl (g.2.1, 16, .inl M_rowAt)), (a_M_places, .inl (g.2.1, 16, .inl M_places))] H := hP.sub [2, 0, 1] rfl
      have hD : va_D A [(a_M, .inr (5, [.int u_11, .int M_n, .ref a_M_a, .ref a_M_rowAt, .ref a_M_places, .ref a_M_rights, .ref a_M_weights, .int M_hasFactors, .ref a_M_pivots, .ref a_M_lower, .int M_hasSolution, .ref a_M_solution, .ref a_M_work, .ref a_M_isJoined, .int M_levels, .ref a_M_stored])), (a_M_rowAt, .inl (g.2.1, 16, .inl M_rowAt)), (a_M_places, .inl (g.2.1, 16, .inl M_places))] := hD.sub [2, 0, 1] (by decide) rfl
      refine lv_if_le (tgt := 33) hx hb dX5_swap_26 (by decide) (fun hc => ?_) (fun hc => ?_)
      · replace hv := hv.1 hc
        refine lv_iconst (v := 0) hx hb dX5_swap_33 (by decide) ?_
        exact cx_zret hx hb hr rfl hlocks hAe hS (u_11, M_hasFactors, M_rowAt, M_places) hv hP hD dX5_swap_34
      · replace hv := hv.2 hc
        refine lv_iconst (v := 1) hx hb dX5_swap_29 (by decide) ?_
        refine lv_goto (tgt := 34) hx hb dX5_swap_30 (by decide) ?_
        exact cx_zret hx hb hr rfl hlocks hAe hS (u_11, M_hasFactors, M_rowAt, M_places) hv hP hD dX5_swap_34
def vc_X5_join_0 (M_thrown : Int32) (M_n : Int32) (M_hasFactors : Int32) (M_hasSolution : Int32) (M_levels : Int32) (M_a : (Nat → Int32)) (M_isJoined : (Nat → Int32)) (Q : (Nat → Int32) → Prop) (G1 : Int32 → (Nat → Int32) → Prop) (G2 : Int32 → Int32 → (Nat → Int32) → Prop)  : Prop := G1 0 M_isJoined
def vc_X5_join_1 (M_thrown : Int32) (M_n : Int32) (M_hasFactors : Int32) (M_hasSolution : Int32) (M_levels : Int32) (M_a : (Nat → Int32)) (M_isJoined : (Nat → Int32)) (Q : (Nat → Int32) → Prop) (G1 : Int32 → (Nat → Int32) → Prop) (G2 : Int32 → Int32 → (Nat → Int32) → Prop) (x1 : Int32) (v_M_isJoined : (Nat → Int32)) : Prop := (M_n ≤ x1 → (Q v_M_isJoined)) ∧ (¬ M_n ≤ x1 → (G2 0 x1 v_M_isJoined))
def vc_X5_join_2 (M_thrown : Int32) (M_n : Int32) (M_hasFactors : Int32) (M_hasSolution : Int32) (M_levels : Int32) (M_a : (Nat → Int32)) (M_isJoined : (Nat → Int32)) (Q : (Nat → Int32) → Prop) (G1 : Int32 → (Nat → Int32) → Prop) (G2 : Int32 → Int32 → (Nat → Int32) → Prop) (x2 : Int32) (x1 : Int32) (v_M_isJoined : (Nat → Int32)) : Prop := (M_n ≤ x2 → (∀ x1_1 : Int32, x1_1 = x1 + 1 → (G1 x1_1 v_M_isJoined))) ∧ (¬ M_n ≤ x2 → (wp_X5_isLinked x1 x2 M_thrown M_n M_hasFactors M_hasSolution M_levels M_a (fun r_3 => vp_in (f_at x1 x2) 256 ∧ (∀ x2_5 : Int32, x2_5 = x2 + 1 → (G2 x2_5 x1 (upd v_M_isJoined (Int32.toNatClampNeg (f_at x1 x2)) (vp_nar .boolean r_3)))))))
def wp_X5_join (M_thrown : Int32) (M_n : Int32) (M_hasFactors : Int32) (M_hasSolution : Int32) (M_levels : Int32) (M_a : (Nat → Int32)) (M_isJoined : (Nat → Int32)) (Q : (Nat → Int32) → Prop) : Prop := ∀ (G1 : Int32 → (Nat → Int32) → Prop) (G2 : Int32 → Int32 → (Nat → Int32) → Prop), (∀ (x1 : Int32) (v_M_isJoined : (Nat → Int32)), vc_X5_join_1 M_thrown M_n M_hasFactors M_hasSolution M_levels M_a M_isJoined Q G1 G2 x1 v_M_isJoined → G1 x1 v_M_isJoined) → (∀ (x2 : Int32) (x1 : Int32) (v_M_isJoined : (Nat → Int32)), vc_X5_join_2 M_thrown M_n M_hasFactors M_hasSolution M_levels M_a M_isJoined Q G1 G2 x2 x1 v_M_isJoined → G2 x2 x1 v_M_isJoined) → vc_X5_join_0 M_thrown M_n M_hasFactors M_hasSolution M_levels M_a M_isJoined Q G1 G2
abbrev w0_X5_join (g : cx_G) (a_M a_M_a a_M_rowAt a_M_places a_M_rights a_M_weights a_M_pivots a_M_lower a_M_solution a_M_work a_M_isJoined a_M_stored : Nat) (M_thrown : Int32) (M_n : Int32) (M_hasFactors : Int32) (M_hasSolution : Int32) (M_levels : Int32) (M_a : (Nat → Int32)) (M_isJoined : (Nat → Int32)) : va_W := [(a_M, .inr (5, [.int M_thrown, .int M_n, .ref a_M_a, .ref a_M_rowAt, .ref a_M_places, .ref a_M_rights, .ref a_M_weights, .int M_hasFactors, .ref a_M_pivots, .ref a_M_lower, .int M_hasSolution, .ref a_M_solution, .ref a_M_work, .ref a_M_isJoined, .int M_levels, .ref a_M_stored])), (a_M_a, .inl (g.2.1, 256, .inl M_a)), (a_M_isJoined, .inl (g.2.2.1, 256, .inl M_isJoined))]
abbrev w1_X5_join (g : cx_G) (a_M a_M_a a_M_rowAt a_M_places a_M_rights a_M_weights a_M_pivots a_M_lower a_M_solution a_M_work a_M_isJoined a_M_stored : Nat) (M_thrown : Int32) (M_n : Int32) (M_hasFactors : Int32) (M_hasSolution : Int32) (M_levels : Int32) (M_a : (Nat → Int32)) (M_isJoined : (Nat → Int32)) (u : (Nat → Int32)) : va_W := [(a_M, .inr (5, [.int M_thrown, .int M_n, .ref a_M_a, .ref a_M_rowAt, .ref a_M_places, .ref a_M_rights, .ref a_M_weights, .int M_hasFactors, .ref a_M_pivots, .ref a_M_lower, .int M_hasSolution, .ref a_M_solution, .ref a_M_work, .ref a_M_isJoined, .int M_levels, .ref a_M_stored])), (a_M_a, .inl (g.2.1, 256, .inl M_a)), (a_M_isJoined, .inl (g.2.2.1, 256, .inl u))]
set_option maxHeartbeats 4000000 in
set_option maxRecDepth 100000 in
theorem c_X5_join (l : Launch) (g : cx_G) (a_M a_M_a a_M_rowAt a_M_places a_M_rights a_M_weights a_M_pivots a_M_lower a_M_solution a_M_work a_M_isJoined a_M_stored : Nat) (M_thrown : Int32) (M_n : Int32) (M_hasFactors : Int32) (M_hasSolution : Int32) (M_levels : Int32) (M_a : (Nat → Int32)) (M_isJoined : (Nat → Int32)) {Q : (Nat → Int32) → Prop} (hv : wp_X5_join M_thrown M_n M_hasFactors M_hasSolution M_levels M_a M_isJoined Q) : cx_Mv l g yX5_join (Cond.code yX5_join cX5_join 3 none :: cx_T) ({ frames := 2, cells := 0, slots := 0, locals := 43 } : Room) [.ref a_M] (w0_X5_join g a_M a_M_a a_M_rowAt a_M_places a_M_rights a_M_weights a_M_pivots a_M_lower a_M_solution a_M_work a_M_isJoined a_M_stored M_thrown M_n M_hasFactors M_hasSolution M_levels M_a M_isJoined) (fun (u : (Nat → Int32)) => Q u) (w1_X5_join g a_M a_M_a a_M_rowAt a_M_places a_M_rights a_M_weights a_M_pivots a_M_lower a_M_solution a_M_work a_M_isJoined a_M_stored M_thrown M_n M_hasFactors M_hasSolution M_levels M_a M_isJoined) 0 0 := by
  intro sz
  refine Met.ofW (cc := cX5_join) (maxL := 3) (ret := none) (by decide) rfl ?_
  intro p e s m args below meth c s₁ B hml hpre
  obtain ⟨rfl, hsz, hP, hK, hD0⟩ := hpre
  have hx := B.exec
  have hb := B.bytes
  have hr := B.returns
  have hts0 := atoms_spec (ws := (Cond.code yX5_join cX5_join 3 none :: cx_T)) B.pre
  have hts : ∀ w ∈ cx_T, w.before _ s = true := fun w h => hts0 w (List.mem_cons_of_mem _ h)
  have hown : s.vm.findClass RX5 = some m.cls := findClass_of_methodNamed B.named
  have hlocks := B.notSynchronized
  subst hsz
  have hD := hD0.self (sz := s.heap.size)
  obtain ⟨A, hAe⟩ : ∃ A : Nat → Prop, A = va_A (w0_X5_join g a_M a_M_a a_M_rowAt a_M_places a_M_rights a_M_weights a_M_pivots a_M_lower a_M_solution a_M_work a_M_isJoined a_M_stored M_thrown M_n M_hasFactors M_hasSolution M_levels M_a M_isJoined) s.heap.size := ⟨_, rfl⟩
  rw [← hAe] at hD
  have hA : ∀ q : Nat, s.heap.size ≤ q → A q := fun q h => by rw [hAe]; exact Or.inr h
  have hS : va_S A s.heap s.heap [] := va_S.rf
  have hP : va_P g.1 vwCl [(a_M, .inr (5, [.int M_thrown, .int M_n, .ref a_M_a, .ref a_M_rowAt, .ref a_M_places, .ref a_M_rights, .ref a_M_weights, .int M_hasFactors, .ref a_M_pivots, .ref a_M_lower, .int M_hasSolution, .ref a_M_solution, .ref a_M_work, .ref a_M_isJoined, .int M_levels, .ref a_M_stored])), (a_M_a, .inl (g.2.1, 256, .inl M_a)), (a_M_isJoined, .inl (g.2.2.1, 256, .inl M_isJoined))] s.heap := hP
  have hD : va_D A [(a_M, .inr (5, [.int M_thrown, .int M_n, .ref a_M_a, .ref a_M_rowAt, .ref a_M_places, .ref a_M_rights, .ref a_M_weights, .int M_hasFactors, .ref a_M_pivots, .ref a_M_lower, .int M_hasSolution, .ref a_M_solution, .ref a_M_work, .ref a_M_isJoined, .int M_levels, .ref a_M_stored])), (a_M_a, .inl (g.2.1, 256, .inl M_a)), (a_M_isJoined, .inl (g.2.2.1, 256, .inl M_isJoined))] := hD
  have hl := lv_entry ([.ref a_M]) (n := 3) (Nat.le_of_ble_eq_true rfl)
  rw [lg_entry_eq]
  generalize (lg_sl ([.ref a_M]) ++ List.replicate (3 - (lg_sl ([.ref a_M])).length) Slot.unset).toArray = ls at hl ⊢
  have hl : lv_has ls 3 [(0, .ref a_M)] := hl
  obtain ⟨G1, hG1⟩ : ∃ G : Int32 → (Nat → Int32) → Prop, G = (fun (x1 : Int32) (v_M_isJoined : (Nat → Int32)) => ∀ (H : Heap) (locs : List Loc) (ls : Array Slot), va_P g.1 vwCl [(a_M, .inr (5, [.int M_thrown, .int M_n, .ref a_M_a, .ref a_M_rowAt, .ref a_M_places, .ref a_M_rights, .ref a_M_weights, .int M_hasFactors, .ref a_M_pivots, .ref a_M_lower, .int M_hasSolution, .ref a_M_solution, .ref a_M_work, .ref a_M_isJoined, .int M_levels, .ref a_M_stored])), (a_M_a, .inl (g.2.1, 256, .inl M_a)), (a_M_isJoined, .inl (g.2.2.1, 256, .inl v_M_isJoined))] H → va_D A [(a_M, .inr (5, [.int M_thrown, .int M_n, .ref a_M_a, .ref a_M_rowAt, .ref a_M_places, .ref a_M_rights, .ref a_M_weights, .int M_hasFactors, .ref a_M_pivots, .ref a_M_lower, .int M_hasSolution, .ref a_M_solution, .ref a_M_work, .ref a_M_isJoined, .int M_levels, .ref a_M_stored])), (a_M_a, .inl (g.2.1, 256, .inl M_a)), (a_M_isJoined, .inl (g.2.2.1, 256, .inl v_M_isJoined))] → va_S A s.heap H locs → lv_has ls 3 [(1, .int x1), (0, .ref a_M)] → W p l e (headSpec (Cond.code yX5_join cX5_join 3 none :: cx_T) ({ frames := 2, cells := 0, slots := 0, locals := 43 } : Room)).room s m ([.ref a_M] : List Value).toArray below meth c H locs 0 0 (MQ below (va_Qv (fun (u : (Nat → Int32)) => Q u) (cx_B g (w0_X5_join g a_M a_M_a a_M_rowAt a_M_places a_M_rights a_M_weights a_M_pivots a_M_lower a_M_solution a_M_work a_M_isJoined a_M_stored M_thrown M_n M_hasFactors M_hasSolution M_levels M_a M_isJoined) s.heap.size (w1_X5_join g a_M a_M_a a_M_rowAt a_M_places a_M_rights a_M_weights a_M_pivots a_M_lower a_M_solution a_M_work a_M_isJoined a_M_stored M_thrown M_n M_hasFactors M_hasSolution M_levels M_a M_isJoined)) (va_A (w0_X5_join g a_M a_M_a a_M_rowAt a_M_places a_M_rights a_M_weights a_M_pivots a_M_lower a_M_solution a_M_work a_M_isJoined a_M_stored M_thrown M_n M_hasFactors M_hasSolution M_levels M_a M_isJoined) s.heap.size)) ([.ref a_M] : List Value).toArray s 0 0 (va_A (w0_X5_join g a_M a_M_a a_M_rowAt a_M_places a_M_rights a_M_weights a_M_pivots a_M_lower a_M_solution a_M_work a_M_isJoined a_M_stored M_thrown M_n M_hasFactors M_hasSolution M_levels M_a M_isJoined) s.heap.size)) (F0 m 2 ls [])) := ⟨_, rfl⟩
  obtain ⟨G2, hG2⟩ : ∃ G : Int32 → Int32 → (Nat → Int32) → Prop, G = (fun (x2 : Int32) (x1 : Int32) (v_M_isJoined : (Nat → Int32)) => ∀ (H : Heap) (locs : List Loc) (ls : Array Slot), va_P g.1 vwCl [(a_M, .inr (5, [.int M_thrown, .int M_n, .ref a_M_a, .ref a_M_rowAt, .ref a_M_places, .ref a_M_rights, .ref a_M_weights, .int M_hasFactors, .ref a_M_pivots, .ref a_M_lower, .int M_hasSolution, .ref a_M_solution, .ref a_M_work, .ref a_M_isJoined, .int M_levels, .ref a_M_stored])), (a_M_a, .inl (g.2.1, 256, .inl M_a)), (a_M_isJoined, .inl (g.2.2.1, 256, .inl v_M_isJoined))] H → va_D A [(a_M, .inr (5, [.int M_thrown, .int M_n, .ref a_M_a, .ref a_M_rowAt, .ref a_M_places, .ref a_M_rights, .ref a_M_weights, .int M_hasFactors, .ref a_M_pivots, .ref a_M_lower, .int M_hasSolution, .ref a_M_solution, .ref a_M_work, .ref a_M_isJoined, .int M_levels, .ref a_M_stored])), (a_M_a, .inl (g.2.1, 256, .inl M_a)), (a_M_isJoined, .inl (g.2.2.1, 256, .inl v_M_isJoined))] → va_S A s.heap H locs → lv_has ls 3 [(2, .int x2), (1, .int x1), (0, .ref a_M)] → W p l e (headSpec (Cond.code yX5_join cX5_join 3 none :: cx_T) ({ frames := 2, cells := 0, slots := 0, locals := 43 } : Room)).room s m ([.ref a_M] : List Value).toArray below meth c H locs 0 0 (MQ below (va_Qv (fun (u : (Nat → Int32)) => Q u) (cx_B g (w0_X5_join g a_M a_M_a a_M_rowAt a_M_places a_M_rights a_M_weights a_M_pivots a_M_lower a_M_solution a_M_work a_M_isJoined a_M_stored M_thrown M_n M_hasFactors M_hasSolution M_levels M_a M_isJoined) s.heap.size (w1_X5_join g a_M a_M_a a_M_rowAt a_M_places a_M_rights a_M_weights a_M_pivots a_M_lower a_M_solution a_M_work a_M_isJoined a_M_stored M_thrown M_n M_hasFactors M_hasSolution M_levels M_a M_isJoined)) (va_A (w0_X5_join g a_M a_M_a a_M_rowAt a_M_places a_M_rights a_M_weights a_M_pivots a_M_lower a_M_solution a_M_work a_M_isJoined a_M_stored M_thrown M_n M_hasFactors M_hasSolution M_levels M_a M_isJoined) s.heap.size)) ([.ref a_M] : List Value).toArray s 0 0 (va_A (w0_X5_join g a_M a_M_a a_M_rowAt a_M_places a_M_rights a_M_weights a_M_pivots a_M_lower a_M_solution a_M_work a_M_isJoined a_M_stored M_thrown M_n M_hasFactors M_hasSolution M_levels M_a M_isJoined) s.heap.size)) (F0 m 12 ls [])) := ⟨_, rfl⟩
  have hs1 : ∀ (x1 : Int32) (v_M_isJoined : (Nat → Int32)), vc_X5_join_1 M_thrown M_n M_hasFactors M_hasSolution M_levels M_a M_isJoined Q G1 G2 x1 v_M_isJoined → G1 x1 v_M_isJoined := by
    rw [hG1, hG2]
    intro x1 v_M_isJoined hv H locs ls hP hD hS hl
    unfold vc_X5_join_1 at hv
    refine lv_iload_n hx hb dX5_join_2 rfl (lv_at hl 0 rfl) ?_
    refine lv_aload_n hx hb dX5_join_3 rfl (lv_at hl 1 rfl) ?_
    refine va_get (D := g.1) (ci := 5) (v := .int M_n) (C := RX5) (T := TX5) (N := 16) hx hb hts cw_in_X5 hown hK.1 hP 0 rfl rfl 1 (by decide) (hts _ cw_f_X5_9) (fun _ h9 => h9) rfl dX5_join_4 ?_
    refine lv_icmp_ge (tgt := 48) hx hb dX5_join_7 (by decide) (fun hc => ?_) (fun hc => ?_)
    · replace hv := hv.1 hc
      exact cx_vret hx hb hr hlocks hAe hS v_M_isJoined hv hP hD dX5_join_48
    · replace hv := hv.2 hc
      refine lv_iconst (v := 0) hx hb dX5_join_10 (by decide) ?_
      refine lv_istore_n (lv' := [(2, .int 0), (1, .int x1), (0, .ref a_M)]) hx hb dX5_join_11 rfl hl (by decide) rfl (fun ls hl => ?_)
      exact hv _ _ _ hP hD hS (lv_sub hl [0, 1, 2] rfl)
  have hs2 : ∀ (x2 : Int32) (x1 : Int32) (v_M_isJoined : (Nat → Int32)), vc_X5_join_2 M_thrown M_n M_hasFactors M_hasSolution M_levels M_a M_isJoined Q G1 G2 x2 x1 v_M_isJoined → G2 x2 x1 v_M_isJoined := by
    rw [hG1, hG2]
    intro x2 x1 v_M_isJoined hv H locs ls hP hD hS hl
    unfold vc_X5_join_2 at hv
    refine lv_iload_n hx hb dX5_join_12 rfl (lv_at hl 0 rfl) ?_
    refine lv_aload_n hx hb dX5_join_13 rfl (lv_at hl 2 rfl) ?_
    refine va_get (D := g.1) (ci := 5) (v := .int M_n) (C := RX5) (T := TX5) (N := 16) hx hb hts cw_in_X5 hown hK.1 hP 0 rfl rfl 1 (by decide) (hts _ cw_f_X5_9) (fun _ h9 => h9) rfl dX5_join_14 ?_
    refine lv_icmp_ge (tgt := 42) hx hb dX5_join_17 (by decide) (fun hc => ?_) (fun hc => ?_)
    · replace hv := hv.1 hc
      obtain ⟨x1_1, ex1_1⟩ : ∃ y : Int32, y = x1 + 1 := ⟨_, rfl⟩
      replace hv := hv x1_1 ex1_1
      refine lv_iinc (v := x1_1) (lv' := [(1, .int x1_1), (2, .int x2), (0, .ref a_M)]) hx hb dX5_join_42 hl (k := 1) rfl (by rw [ex1_1]; rfl) (by decide) rfl (fun ls hl => ?_)
      refine lv_goto (tgt := 2) hx hb dX5_join_45 (by decide) ?_
      exact hv _ _ _ hP hD hS (lv_sub hl [0, 2] rfl)
    · replace hv := hv.2 hc
      refine lv_aload_n hx hb dX5_join_20 rfl (lv_at hl 2 rfl) ?_
      refine va_get (D := g.1) (ci := 5) (v := .ref a_M_isJoined) (C := RX5) (T := TX5) (N := 16) hx hb hts cw_in_X5 hown hK.1 hP 0 rfl rfl 13 (by decide) (hts _ cw_f_X5_41) (fun _ h9 => h9) rfl dX5_join_21 ?_
      refine lv_iload_n hx hb dX5_join_24 rfl (lv_at hl 1 rfl) ?_
      refine lv_iload_n hx hb dX5_join_25 rfl (lv_at hl 0 rfl) ?_
      refine cx_iSr (As := [.int x1, .int x2]) (rest := [.ref a_M_isJoined]) ⟨hx, hb, hml, hown, hts⟩ (cp_X5_at l g x1 x2) (cx_cwS 2 hts cw_m_X5_62 cw_t_X5_at cw_n_X5 cw_c_X5_at rfl rfl (by decide +kernel) ⟨Nat.le_of_ble_eq_true rfl, Nat.le_of_ble_eq_true rfl⟩) hK hP hD hS hA [] rfl rfl rfl hl.1 rfl (Nat.le_of_ble_eq_true rfl) dX5_join_26 ⟨Nat.le_of_ble_eq_true rfl, Nat.le_of_ble_eq_true rfl⟩ (fun r_2 H locs hr9 hP hS => ?_)
      replace hr9 : r_2 = (f_at x1 x2) := hr9
      subst hr9
      refine lv_aload_n hx hb dX5_join_29 rfl (lv_at hl 2 rfl) ?_
      refine lv_iload_n hx hb dX5_join_30 rfl (lv_at hl 1 rfl) ?_
      refine lv_iload_n hx hb dX5_join_31 rfl (lv_at hl 0 rfl) ?_
      refine cx_iVr (As := [.int x1, .int x2]) (rest := [.int (f_at x1 x2), .ref a_M_isJoined]) ⟨hx, hb, hml, hown, hts⟩ (c_X5_isLinked l g a_M a_M_a a_M_rowAt a_M_places a_M_rights a_M_weights a_M_pivots a_M_lower a_M_solution a_M_work a_M_isJoined a_M_stored x1 x2 M_thrown M_n M_hasFactors M_hasSolution M_levels M_a hv) (cx_cwV 2 hts cw_m_X5_83 cw_i_X5_isLinked cw_s_X5_isLinked cw_n_X5 cw_c_X5_isLinked rfl rfl (by decide +kernel) ⟨Nat.le_of_ble_eq_true rfl, Nat.le_of_ble_eq_true rfl⟩) hK hP hD hS hA 0 5 rfl rfl [0, 1] rfl rfl rfl hl.1 rfl (Nat.le_of_ble_eq_true rfl) dX5_join_32 ⟨Nat.le_of_ble_eq_true rfl, Nat.le_of_ble_eq_true rfl⟩ (fun r_3 H locs hv hP hS => ?_)
      obtain ⟨h_4, hv⟩ := hv
      refine va_zast (D := g.1) hx hb hK.1 hP hD hS 2 1 rfl rfl h_4 dX5_join_35 (fun H locs hP hD hS => ?_)
      have hP : va_P g.1 vwCl [(a_M, .inr (5, [.int M_thrown, .int M_n, .ref a_M_a, .ref a_M_rowAt, .ref a_M_places, .ref a_M_rights, .ref a_M_weights, .int M_hasFactors, .ref a_M_pivots, .ref a_M_lower, .int M_hasSolution, .ref a_M_solution, .ref a_M_work, .ref a_M_isJoined, .int M_levels, .ref a_M_stored])), (a_M_a, .inl (g.2.1, 256, .inl M_a)), (a_M_isJoined, .inl (g.2.2.1, 256, .inl (upd v_M_isJoined (Int32.toNatClampNeg (f_at x1 x2)) (vp_nar .boolean r_3))))] H := hP
      have hD : va_D A [(a_M, .inr (5, [.int M_thrown, .int M_n, .ref a_M_a, .ref a_M_rowAt, .ref a_M_places, .ref a_M_rights, .ref a_M_weights, .int M_hasFactors, .ref a_M_pivots, .ref a_M_lower, .int M_hasSolution, .ref a_M_solution, .ref a_M_work, .ref a_M_isJoined, .int M_levels, .ref a_M_stored])), (a_M_a, .inl (g.2.1, 256, .inl M_a)), (a_M_isJoined, .inl (g.2.2.1, 256, .inl (upd v_M_isJoined (Int32.toNatClampNeg (f_at x1 x2)) (vp_nar .boolean r_3))))] := hD
      obtain ⟨x2_5, ex2_5⟩ : ∃ y : Int32, y = x2 + 1 := ⟨_, rfl⟩
      replace hv := hv x2_5 ex2_5
      refine lv_iinc (v := x2_5) (lv' := [(2, .int x2_5), (1, .int x1), (0, .ref a_M)]) hx hb dX5_join_36 hl (k := 0) rfl (by rw [ex2_5]; rfl) (by decide) rfl (fun ls hl => ?_)
      refine lv_goto (tgt := 12) hx hb dX5_join_39 (by decide) ?_
      exact hv _ _ _ hP hD hS (lv_sub hl [0, 1, 2] rfl)
  replace hv := hv G1 G2 hs1 hs2
  rw [hG1, hG2] at hv
  unfold vc_X5_join_0 at hv
  refine lv_iconst (v := 0) hx hb dX5_join_0 (by decide) ?_
  refine lv_istore_n (lv' := [(1, .int 0), (0, .ref a_M)]) hx hb dX5_join_1 rfl hl (by decide) rfl (fun ls hl => ?_)
  exact hv _ _ _ hP hD hS (lv_sub hl [0, 1] rfl)
def vc_X5_eliminate__0 (i_p : Int32) (M_thrown : Int32) (M_n : Int32) (M_hasFactors : Int32) (M_hasSolution : Int32) (M_levels : Int32) (M_rowAt : (Nat → Int32)) (M_isJoined : (Nat → Int32)) (Q : (Nat → Int32) → Prop) (G1 : Int32 → Int32 → (Nat → Int32) → Prop) (G2 : Int32 → Int32 → Int32 → (Nat → Int32) → Prop)  : Prop := vp_in i_p 16 ∧ (∀ x2_2 : Int32, x2_2 = (M_rowAt (Int32.toNatClampNeg i_p)) → (∀ x3_3 : Int32, x3_3 = (i_p + 1) → (G1 x3_3 x2_2 M_isJoined)))
def vc_X5_eliminate__1 (i_p : Int32) (M_thrown : Int32) (M_n : Int32) (M_hasFactors : Int32) (M_hasSolution : Int32) (M_levels : Int32) (M_rowAt : (Nat → Int32)) (M_isJoined : (Nat → Int32)) (Q : (Nat → Int32) → Prop) (G1 : Int32 → Int32 → (Nat → Int32) → Prop) (G2 : Int32 → Int32 → Int32 → (Nat → Int32) → Prop) (x3 : Int32) (x2 : Int32) (v_M_isJoined : (Nat → Int32)) : Prop := (M_n ≤ x3 → (Q v_M_isJoined)) ∧ (¬ M_n ≤ x3 → (∀ x4_1 : Int32, x4_1 = (i_p + 1) → (G2 x4_1 x3 x2 v_M_isJoined)))
def vc_X5_eliminate__2 (i_p : Int32) (M_thrown : Int32) (M_n : Int32) (M_hasFactors : Int32) (M_hasSolution : Int32) (M_levels : Int32) (M_rowAt : (Nat → Int32)) (M_isJoined : (Nat → Int32)) (Q : (Nat → Int32) → Prop) (G1 : Int32 → Int32 → (Nat → Int32) → Prop) (G2 : Int32 → Int32 → Int32 → (Nat → Int32) → Prop) (x4 : Int32) (x3 : Int32) (x2 : Int32) (v_M_isJoined : (Nat → Int32)) : Prop := (M_n ≤ x4 → (∀ x3_1 : Int32, x3_1 = x3 + 1 → (G1 x3_1 x2 v_M_isJoined))) ∧ (¬ M_n ≤ x4 → ((x3 = x4 → (∀ x4_2 : Int32, x4_2 = x4 + 1 → (G2 x4_2 x3 x2 v_M_isJoined))) ∧ (¬ x3 = x4 → (vp_in x3 16 ∧ (vp_in (f_at x2 (M_rowAt (Int32.toNatClampNeg x3))) 256 ∧ (((v_M_isJoined (Int32.toNatClampNeg (f_at x2 (M_rowAt (Int32.toNatClampNeg x3))))) = 0 → (∀ x4_6 : Int32, x4_6 = x4 + 1 → (G2 x4_6 x3 x2 v_M_isJoined))) ∧ (¬ (v_M_isJoined (Int32.toNatClampNeg (f_at x2 (M_rowAt (Int32.toNatClampNeg x3))))) = 0 → (vp_in x4 16 ∧ (vp_in (f_at x2 (M_rowAt (Int32.toNatClampNeg x4))) 256 ∧ (((v_M_isJoined (Int32.toNatClampNeg (f_at x2 (M_rowAt (Int32.toNatClampNeg x4))))) = 0 → (∀ x4_10 : Int32, x4_10 = x4 + 1 → (G2 x4_10 x3 x2 v_M_isJoined))) ∧ (¬ (v_M_isJoined (Int32.toNatClampNeg (f_at x2 (M_rowAt (Int32.toNatClampNeg x4))))) = 0 → (vp_in x3 16 ∧ (vp_in x4 16 ∧ (vp_in (f_at (M_rowAt (Int32.toNatClampNeg x3)) (M_rowAt (Int32.toNatClampNeg x4))) 256 ∧ (∀ x4_15 : Int32, x4_15 = x4 + 1 → (G2 x4_15 x3 x2 (upd v_M_isJoined (Int32.toNatClampNeg (f_at (M_rowAt (Int32.toNatClampNeg x3)) (M_rowAt (Int32.toNatClampNeg x4)))) (vp_nar .boolean 1))))))))))))))))))
def wp_X5_eliminate_ (i_p : Int32) (M_thrown : Int32) (M_n : Int32) (M_hasFactors : Int32) (M_hasSolution : Int32) (M_levels : Int32) (M_rowAt : (Nat → Int32)) (M_isJoined : (Nat → Int32)) (Q : (Nat → Int32) → Prop) : Prop := ∀ (G1 : Int32 → Int32 → (Nat → Int32) → Prop) (G2 : Int32 → Int32 → Int32 → (Nat → Int32) → Prop), (∀ (x3 : Int32) (x2 : Int32) (v_M_isJoined : (Nat → Int32)), vc_X5_eliminate__1 i_p M_thrown M_n M_hasFactors M_hasSolution M_levels M_rowAt M_isJoined Q G1 G2 x3 x2 v_M_isJoined → G1 x3 x2 v_M_isJoined) → (∀ (x4 : Int32) (x3 : Int32) (x2 : Int32) (v_M_isJoined : (Nat → Int32)), vc_X5_eliminate__2 i_p M_thrown M_n M_hasFactors M_hasSolution M_levels M_rowAt M_isJoined Q G1 G2 x4 x3 x2 v_M_isJoined → G2 x4 x3 x2 v_M_isJoined) → vc_X5_eliminate__0 i_p M_thrown M_n M_hasFactors M_hasSolution M_levels M_rowAt M_isJoined Q G1 G2
abbrev w0_X5_eliminate_ (g : cx_G) (a_M a_M_a a_M_rowAt a_M_places a_M_rights a_M_weights a_M_pivots a_M_lower a_M_solution a_M_work a_M_isJoined a_M_stored : Nat) (M_thrown : Int32) (M_n : Int32) (M_hasFactors : Int32) (M_hasSolution : Int32) (M_levels : Int32) (M_rowAt : (Nat → Int32)) (M_isJoined : (Nat → Int32)) : va_W := [(a_M, .inr (5, [.int M_thrown, .int M_n, .ref a_M_a, .ref a_M_rowAt, .ref a_M_places, .ref a_M_rights, .ref a_M_weights, .int M_hasFactors, .ref a_M_pivots, .ref a_M_lower, .int M_hasSolution, .ref a_M_solution, .ref a_M_work, .ref a_M_isJoined, .int M_levels, .ref a_M_stored])), (a_M_rowAt, .inl (g.2.1, 16, .inl M_rowAt)), (a_M_isJoined, .inl (g.2.2.1, 256, .inl M_isJoined))]
abbrev w1_X5_eliminate_ (g : cx_G) (a_M a_M_a a_M_rowAt a_M_places a_M_rights a_M_weights a_M_pivots a_M_lower a_M_solution a_M_work a_M_isJoined a_M_stored : Nat) (M_thrown : Int32) (M_n : Int32) (M_hasFactors : Int32) (M_hasSolution : Int32) (M_levels : Int32) (M_rowAt : (Nat → Int32)) (M_isJoined : (Nat → Int32)) (u : (Nat → Int32)) : va_W := [(a_M, .inr (5, [.int M_thrown, .int M_n, .ref a_M_a, .ref a_M_rowAt, .ref a_M_places, .ref a_M_rights, .ref a_M_weights, .int M_hasFactors, .ref a_M_pivots, .ref a_M_lower, .int M_hasSolution, .ref a_M_solution, .ref a_M_work, .ref a_M_isJoined, .int M_levels, .ref a_M_stored])), (a_M_rowAt, .inl (g.2.1, 16, .inl M_rowAt)), (a_M_isJoined, .inl (g.2.2.1, 256, .inl u))]
set_option maxHeartbeats 4000000 in
set_option maxRecDepth 100000 in
theorem c_X5_eliminate_ (l : Launch) (g : cx_G) (a_M a_M_a a_M_rowAt a_M_places a_M_rights a_M_weights a_M_pivots a_M_lower a_M_solution a_M_work a_M_isJoined a_M_stored : Nat) (i_p : Int32) (M_thrown : Int32) (M_n : Int32) (M_hasFactors : Int32) (M_hasSolution : Int32) (M_levels : Int32) (M_rowAt : (Nat → Int32)) (M_isJoined : (Nat → Int32)) {Q : (Nat → Int32) → Prop} (hv : wp_X5_eliminate_ i_p M_thrown M_n M_hasFactors M_hasSolution M_levels M_rowAt M_isJoined Q) : cx_Mv l g yX5_eliminate_ (Cond.code yX5_eliminate_ cX5_eliminate_ 5 none :: cx_T) ({ frames := 1, cells := 0, slots := 0, locals := 21 } : Room) [.ref a_M, .int i_p] (w0_X5_eliminate_ g a_M a_M_a a_M_rowAt a_M_places a_M_rights a_M_weights a_M_pivots a_M_lower a_M_solution a_M_work a_M_isJoined a_M_stored M_thrown M_n M_hasFactors M_hasSolution M_levels M_rowAt M_isJoined) (fun (u : (Nat → Int32)) => Q u) (w1_X5_eliminate_ g a_M a_M_a a_M_rowAt a_M_places a_M_rights a_M_weights a_M_pivots a_M_lower a_M_solution a_M_work a_M_isJoined a_M_stored M_thrown M_n M_hasFactors M_hasSolution M_levels M_rowAt M_isJoined) 0 0 := by
  intro sz
  refine Met.ofW (cc := cX5_eliminate_) (maxL := 5) (ret := none) (by decide) rfl ?_
  intro p e s m args below meth c s₁ B hml hpre
  obtain ⟨rfl, hsz, hP, hK, hD0⟩ := hpre
  have hx := B.exec
  have hb := B.bytes
  have hr := B.returns
  have hts0 := atoms_spec (ws := (Cond.code yX5_eliminate_ cX5_eliminate_ 5 none :: cx_T)) B.pre
  have hts : ∀ w ∈ cx_T, w.before _ s = true := fun w h => hts0 w (List.mem_cons_of_mem _ h)
  have hown : s.vm.findClass RX5 = some m.cls := findClass_of_methodNamed B.named
  have hlocks := B.notSynchronized
  subst hsz
  have hD := hD0.self (sz := s.heap.size)
  obtain ⟨A, hAe⟩ : ∃ A : Nat → Prop, A = va_A (w0_X5_eliminate_ g a_M a_M_a a_M_rowAt a_M_places a_M_rights a_M_weights a_M_pivots a_M_lower a_M_solution a_M_work a_M_isJoined a_M_stored M_thrown M_n M_hasFactors M_hasSolution M_levels M_rowAt M_isJoined) s.heap.size := ⟨_, rfl⟩
  rw [← hAe] at hD
  have hA : ∀ q : Nat, s.heap.size ≤ q → A q := fun q h => by rw [hAe]; exact Or.inr h
  have hS : va_S A s.heap s.heap [] := va_S.rf
  have hP : va_P g.1 vwCl [(a_M, .inr (5, [.int M_thrown, .int M_n, .ref a_M_a, .ref a_M_rowAt, .ref a_M_places, .ref a_M_rights, .ref a_M_weights, .int M_hasFactors, .ref a_M_pivots, .ref a_M_lower, .int M_hasSolution, .ref a_M_solution, .ref a_M_work, .ref a_M_isJoined, .int M_levels, .ref a_M_stored])), (a_M_rowAt, .inl (g.2.1, 16, .inl M_rowAt)), (a_M_isJoined, .inl (g.2.2.1, 256, .inl M_isJoined))] s.heap := hP
  have hD : va_D A [(a_M, .inr (5, [.int M_thrown, .int M_n, .ref a_M_a, .ref a_M_rowAt, .ref a_M_places, .ref a_M_rights, .ref a_M_weights, .int M_hasFactors, .ref a_M_pivots, .ref a_M_lower, .int M_hasSolution, .ref a_M_solution, .ref a_M_work, .ref a_M_isJoined, .int M_levels, .ref a_M_stored])), (a_M_rowAt, .inl (g.2.1, 16, .inl M_rowAt)), (a_M_isJoined, .inl (g.2.2.1, 256, .inl M_isJoined))] := hD
  have hl := lv_entry ([.ref a_M, .int i_p]) (n := 5) (Nat.le_of_ble_eq_true rfl)
  rw [lg_entry_eq]
  generalize (lg_sl ([.ref a_M, .int i_p]) ++ List.replicate (5 - (lg_sl ([.ref a_M, .int i_p])).length) Slot.unset).toArray = ls at hl ⊢
  have hl : lv_has ls 5 [(0, .ref a_M), (1, .int i_p)] := hl
  obtain ⟨G1, hG1⟩ : ∃ G : Int32 → Int32 → (Nat → Int32) → Prop, G = (fun (x3 : Int32) (x2 : Int32) (v_M_isJoined : (Nat → Int32)) => ∀ (H : Heap) (locs : List Loc) (ls : Array Slot), va_P g.1 vwCl [(a_M, .inr (5, [.int M_thrown, .int M_n, .ref a_M_a, .ref a_M_rowAt, .ref a_M_places, .ref a_M_rights, .ref a_M_weights, .int M_hasFactors, .ref a_M_pivots, .ref a_M_lower, .int M_hasSolution, .ref a_M_solution, .ref a_M_work, .ref a_M_isJoined, .int M_levels, .ref a_M_stored])), (a_M_rowAt, .inl (g.2.1, 16, .inl M_rowAt)), (a_M_isJoined, .inl (g.2.2.1, 256, .inl v_M_isJoined))] H → va_D A [(a_M, .inr (5, [.int M_thrown, .int M_n, .ref a_M_a, .ref a_M_rowAt, .ref a_M_places, .ref a_M_rights, .ref a_M_weights, .int M_hasFactors, .ref a_M_pivots, .ref a_M_lower, .int M_hasSolution, .ref a_M_solution, .ref a_M_work, .ref a_M_isJoined, .int M_levels, .ref a_M_stored])), (a_M_rowAt, .inl (g.2.1, 16, .inl M_rowAt)), (a_M_isJoined, .inl (g.2.2.1, 256, .inl v_M_isJoined))] → va_S A s.heap H locs → lv_has ls 5 [(3, .int x3), (2, .int x2), (0, .ref a_M), (1, .int i_p)] → W p l e (headSpec (Cond.code yX5_eliminate_ cX5_eliminate_ 5 none :: cx_T) ({ frames := 1, cells := 0, slots := 0, locals := 21 } : Room)).room s m ([.ref a_M, .int i_p] : List Value).toArray below meth c H locs 0 0 (MQ below (va_Qv (fun (u : (Nat → Int32)) => Q u) (cx_B g (w0_X5_eliminate_ g a_M a_M_a a_M_rowAt a_M_places a_M_rights a_M_weights a_M_pivots a_M_lower a_M_solution a_M_work a_M_isJoined a_M_stored M_thrown M_n M_hasFactors M_hasSolution M_levels M_rowAt M_isJoined) s.heap.size (w1_X5_eliminate_ g a_M a_M_a a_M_rowAt a_M_places a_M_rights a_M_weights a_M_pivots a_M_lower a_M_solution a_M_work a_M_isJoined a_M_stored M_thrown M_n M_hasFactors M_hasSolution M_levels M_rowAt M_isJoined)) (va_A (w0_X5_eliminate_ g a_M a_M_a a_M_rowAt a_M_places a_M_rights a_M_weights a_M_pivots a_M_lower a_M_solution a_M_work a_M_isJoined a_M_stored M_thrown M_n M_hasFactors M_hasSolution M_levels M_rowAt M_isJoined) s.heap.size)) ([.ref a_M, .int i_p] : List Value).toArray s 0 0 (va_A (w0_X5_eliminate_ g a_M a_M_a a_M_rowAt a_M_places a_M_rights a_M_weights a_M_pivots a_M_lower a_M_solution a_M_work a_M_isJoined a_M_stored M_thrown M_n M_hasFactors M_hasSolution M_levels M_rowAt M_isJoined) s.heap.size)) (F0 m 11 ls [])) := ⟨_, rfl⟩
  obtain ⟨G2, hG2⟩ : ∃ G : Int32 → Int32 → Int32 → (Nat → Int32) → Prop, G = (fun (x4 : Int32) (x3 : Int32) (x2 : Int32) (v_M_isJoined : (Nat → Int32)) => ∀ (H : Heap) (locs : List Loc) (ls : Array Slot), va_P g.1 vwCl [(a_M, .inr (5, [.int M_thrown, .int M_n, .ref a_M_a, .ref a_M_rowAt, .ref a_M_places, .ref a_M_rights, .ref a_M_weights, .int M_hasFactors, .ref a_M_pivots, .ref a_M_lower, .int M_hasSolution, .ref a_M_solution, .ref a_M_work, .ref a_M_isJoined, .int M_levels, .ref a_M_stored])), (a_M_rowAt, .inl (g.2.1, 16, .inl M_rowAt)), (a_M_isJoined, .inl (g.2.2.1, 256, .inl v_M_isJoined))] H → va_D A [(a_M, .inr (5, [.int M_thrown, .int M_n, .ref a_M_a, .ref a_M_rowAt, .ref a_M_places, .ref a_M_rights, .ref a_M_weights, .int M_hasFactors, .ref a_M_pivots, .ref a_M_lower, .int M_hasSolution, .ref a_M_solution, .ref a_M_work, .ref a_M_isJoined, .int M_levels, .ref a_M_stored])), (a_M_rowAt, .inl (g.2.1, 16, .inl M_rowAt)), (a_M_isJoined, .inl (g.2.2.1, 256, .inl v_M_isJoined))] → va_S A s.heap H locs → lv_has ls 5 [(4, .int x4), (3, .int x3), (2, .int x2), (0, .ref a_M), (1, .int i_p)] → W p l e (headSpec (Cond.code yX5_eliminate_ cX5_eliminate_ 5 none :: cx_T) ({ frames := 1, cells := 0, slots := 0, locals := 21 } : Room)).room s m ([.ref a_M, .int i_p] : List Value).toArray below meth c H locs 0 0 (MQ below (va_Qv (fun (u : (Nat → Int32)) => Q u) (cx_B g (w0_X5_eliminate_ g a_M a_M_a a_M_rowAt a_M_places a_M_rights a_M_weights a_M_pivots a_M_lower a_M_solution a_M_work a_M_isJoined a_M_stored M_thrown M_n M_hasFactors M_hasSolution M_levels M_rowAt M_isJoined) s.heap.size (w1_X5_eliminate_ g a_M a_M_a a_M_rowAt a_M_places a_M_rights a_M_weights a_M_pivots a_M_lower a_M_solution a_M_work a_M_isJoined a_M_stored M_thrown M_n M_hasFactors M_hasSolution M_levels M_rowAt M_isJoined)) (va_A (w0_X5_eliminate_ g a_M a_M_a a_M_rowAt a_M_places a_M_rights a_M_weights a_M_pivots a_M_lower a_M_solution a_M_work a_M_isJoined a_M_stored M_thrown M_n M_hasFactors M_hasSolution M_levels M_rowAt M_isJoined) s.heap.size)) ([.ref a_M, .int i_p] : List Value).toArray s 0 0 (va_A (w0_X5_eliminate_ g a_M a_M_a a_M_rowAt a_M_places a_M_rights a_M_weights a_M_pivots a_M_lower a_M_solution a_M_work a_M_isJoined a_M_stored M_thrown M_n M_hasFactors M_hasSolution M_levels M_rowAt M_isJoined) s.heap.size)) (F0 m 24 ls [])) := ⟨_, rfl⟩
  have hs1 : ∀ (x3 : Int32) (x2 : Int32) (v_M_isJoined : (Nat → Int32)), vc_X5_eliminate__1 i_p M_thrown M_n M_hasFactors M_hasSolution M_levels M_rowAt M_isJoined Q G1 G2 x3 x2 v_M_isJoined → G1 x3 x2 v_M_isJoined := by
    rw [hG1, hG2]
    intro x3 x2 v_M_isJoined hv H locs ls hP hD hS hl
    unfold vc_X5_eliminate__1 at hv
    refine lv_iload_n hx hb dX5_eliminate__11 rfl (lv_at hl 0 rfl) ?_
    refine lv_aload_n hx hb dX5_eliminate__12 rfl (lv_at hl 2 rfl) ?_
    refine va_get (D := g.1) (ci := 5) (v := .int M_n) (C := RX5) (T := TX5) (N := 16) hx hb hts cw_in_X5 hown hK.1 hP 0 rfl rfl 1 (by decide) (hts _ cw_f_X5_9) (fun _ h9 => h9) rfl dX5_eliminate__13 ?_
    refine lv_icmp_ge (tgt := 110) hx hb dX5_eliminate__16 (by decide) (fun hc => ?_) (fun hc => ?_)
    · replace hv := hv.1 hc
      exact cx_vret hx hb hr hlocks hAe hS v_M_isJoined hv hP hD dX5_eliminate__110
    · replace hv := hv.2 hc
      refine lv_iload_n hx hb dX5_eliminate__19 rfl (lv_at hl 3 rfl) ?_
      refine lv_iconst (v := 1) hx hb dX5_eliminate__20 (by decide) ?_
      refine lv_iadd hx hb dX5_eliminate__21 ?_
      refine lv_topi (fun x4_1 ex4_1 => ?_)
      replace hv := hv x4_1 ex4_1
      refine lv_istore (lv' := [(4, .int x4_1), (3, .int x3), (2, .int x2), (0, .ref a_M), (1, .int i_p)]) hx hb dX5_eliminate__22 hl (by decide) rfl (fun ls hl => ?_)
      exact hv _ _ _ hP hD hS (lv_sub hl [0, 1, 2, 3, 4] rfl)
  have hs2 : ∀ (x4 : Int32) (x3 : Int32) (x2 : Int32) (v_M_isJoined : (Nat → Int32)), vc_X5_eliminate__2 i_p M_thrown M_n M_hasFactors M_hasSolution M_levels M_rowAt M_isJoined Q G1 G2 x4 x3 x2 v_M_isJoined → G2 x4 x3 x2 v_M_isJoined := by
    rw [hG1, hG2]
    intro x4 x3 x2 v_M_isJoined hv H locs ls hP hD hS hl
    unfold vc_X5_eliminate__2 at hv
    refine lv_iload hx hb dX5_eliminate__24 (lv_at hl 0 rfl) ?_
    refine lv_aload_n hx hb dX5_eliminate__26 rfl (lv_at hl 3 rfl) ?_
    refine va_get (D := g.1) (ci := 5) (v := .int M_n) (C := RX5) (T := TX5) (N := 16) hx hb hts cw_in_X5 hown hK.1 hP 0 rfl rfl 1 (by decide) (hts _ cw_f_X5_9) (fun _ h9 => h9) rfl dX5_eliminate__27 ?_
    refine lv_icmp_ge (tgt := 104) hx hb dX5_eliminate__30 (by decide) (fun hc => ?_) (fun hc => ?_)
    · replace hv := hv.1 hc
      obtain ⟨x3_1, ex3_1⟩ : ∃ y : Int32, y = x3 + 1 := ⟨_, rfl⟩
      replace hv := hv x3_1 ex3_1
      refine lv_iinc (v := x3_1) (lv' := [(3, .int x3_1), (4, .int x4), (2, .int x2), (0, .ref a_M), (1, .int i_p)]) hx hb dX5_eliminate__104 hl (k := 1) rfl (by rw [ex3_1]; rfl) (by decide) rfl (fun ls hl => ?_)
      refine lv_goto (tgt := 11) hx hb dX5_eliminate__107 (by decide) ?_
      exact hv _ _ _ hP hD hS (lv_sub hl [0, 2, 3, 4] rfl)
    · replace hv := hv.2 hc
      refine lv_iload_n hx hb dX5_eliminate__33 rfl (lv_at hl 1 rfl) ?_
      refine lv_iload hx hb dX5_eliminate__34 (lv_at hl 0 rfl) ?_
      refine lv_icmp_eq (tgt := 98) hx hb dX5_eliminate__36 (by decide) (fun hc => ?_) (fun hc => ?_)
      · replace hv := hv.1 hc
        obtain ⟨x4_2, ex4_2⟩ : ∃ y : Int32, y = x4 + 1 := ⟨_, rfl⟩
        replace hv := hv x4_2 ex4_2
        refine lv_iinc (v := x4_2) (lv' := [(4, .int x4_2), (3, .int x3), (2, .int x2), (0, .ref a_M), (1, .int i_p)]) hx hb dX5_eliminate__98 hl (k := 0) rfl (by rw [ex4_2]; rfl) (by decide) rfl (fun ls hl => ?_)
        refine lv_goto (tgt := 24) hx hb dX5_eliminate__101 (by decide) ?_
        exact hv _ _ _ hP hD hS (lv_sub hl [0, 1, 2, 3, 4] rfl)
      · replace hv := hv.2 hc
        refine lv_aload_n hx hb dX5_eliminate__39 rfl (lv_at hl 3 rfl) ?_
        refine va_get (D := g.1) (ci := 5) (v := .ref a_M_isJoined) (C := RX5) (T := TX5) (N := 16) hx hb hts cw_in_X5 hown hK.1 hP 0 rfl rfl 13 (by decide) (hts _ cw_f_X5_41) (fun _ h9 => h9) rfl dX5_eliminate__40 ?_
        refine lv_iload_n hx hb dX5_eliminate__43 rfl (lv_at hl 2 rfl) ?_
        refine lv_aload_n hx hb dX5_eliminate__44 rfl (lv_at hl 3 rfl) ?_
        refine va_get (D := g.1) (ci := 5) (v := .ref a_M_rowAt) (C := RX5) (T := TX5) (N := 16) hx hb hts cw_in_X5 hown hK.1 hP 0 rfl rfl 3 (by decide) (hts _ cw_f_X5_17) (fun _ h9 => h9) rfl dX5_eliminate__45 ?_
        refine lv_iload_n hx hb dX5_eliminate__48 rfl (lv_at hl 1 rfl) ?_
        obtain ⟨h_3, hv⟩ := hv
        refine va_iald (D := g.1) hx hb hK.1 hP 1 0 rfl rfl h_3 dX5_eliminate__49 ?_
        refine cx_iSr (As := [.int x2, .int (M_rowAt (Int32.toNatClampNeg x3))]) (rest := [.ref a_M_isJoined]) ⟨hx, hb, hml, hown, hts⟩ (cp_X5_at l g x2 (M_rowAt (Int32.toNatClampNeg x3))) (cx_cwS 2 hts cw_m_X5_62 cw_t_X5_at cw_n_X5 cw_c_X5_at rfl rfl (by decide +kernel) ⟨Nat.le_of_ble_eq_true rfl, Nat.le_of_ble_eq_true rfl⟩) hK hP hD hS hA [] rfl rfl rfl hl.1 rfl (Nat.le_of_ble_eq_true rfl) dX5_eliminate__50 ⟨Nat.le_of_ble_eq_true rfl, Nat.le_of_ble_eq_true rfl⟩ (fun r_4 H locs hr9 hP hS => ?_)
        replace hr9 : r_4 = (f_at x2 (M_rowAt (Int32.toNatClampNeg x3))) := hr9
        subst hr9
        obtain ⟨h_5, hv⟩ := hv
        refine va_zald (D := g.1) hx hb hK.1 hP 2 1 rfl rfl h_5 dX5_eliminate__53 ?_
        refine lv_if_eq (tgt := 98) hx hb dX5_eliminate__54 (by decide) (fun hc => ?_) (fun hc => ?_)
        · replace hv := hv.1 hc
          obtain ⟨x4_6, ex4_6⟩ : ∃ y : Int32, y = x4 + 1 := ⟨_, rfl⟩
          replace hv := hv x4_6 ex4_6
          refine lv_iinc (v := x4_6) (lv' := [(4, .int x4_6), (3, .int x3), (2, .int x2), (0, .ref a_M), (1, .int i_p)]) hx hb dX5_eliminate__98 hl (k := 0) rfl (by rw [ex4_6]; rfl) (by decide) rfl (fun ls hl => ?_)
          refine lv_goto (tgt := 24) hx hb dX5_eliminate__101 (by decide) ?_
          exact hv _ _ _ hP hD hS (lv_sub hl [0, 1, 2, 3, 4] rfl)
        · replace hv := hv.2 hc
          refine lv_aload_n hx hb dX5_eliminate__57 rfl (lv_at hl 3 rfl) ?_
          refine va_get (D := g.1) (ci := 5) (v := .ref a_M_isJoined) (C := RX5) (T := TX5) (N := 16) hx hb hts cw_in_X5 hown hK.1 hP 0 rfl rfl 13 (by decide) (hts _ cw_f_X5_41) (fun _ h9 => h9) rfl dX5_eliminate__58 ?_
          refine lv_iload_n hx hb dX5_eliminate__61 rfl (lv_at hl 2 rfl) ?_
          refine lv_aload_n hx hb dX5_eliminate__62 rfl (lv_at hl 3 rfl) ?_
          refine va_get (D := g.1) (ci := 5) (v := .ref a_M_rowAt) (C := RX5) (T := TX5) (N := 16) hx hb hts cw_in_X5 hown hK.1 hP 0 rfl rfl 3 (by decide) (hts _ cw_f_X5_17) (fun _ h9 => h9) rfl dX5_eliminate__63 ?_
          refine lv_iload hx hb dX5_eliminate__66 (lv_at hl 0 rfl) ?_
          obtain ⟨h_7, hv⟩ := hv
          refine va_iald (D := g.1) hx hb hK.1 hP 1 0 rfl rfl h_7 dX5_eliminate__68 ?_
          refine cx_iSr (As := [.int x2, .int (M_rowAt (Int32.toNatClampNeg x4))]) (rest := [.ref a_M_isJoined]) ⟨hx, hb, hml, hown, hts⟩ (cp_X5_at l g x2 (M_rowAt (Int32.toNatClampNeg x4))) (cx_cwS 2 hts cw_m_X5_62 cw_t_X5_at cw_n_X5 cw_c_X5_at rfl rfl (by decide +kernel) ⟨Nat.le_of_ble_eq_true rfl, Nat.le_of_ble_eq_true rfl⟩) hK hP hD hS hA [] rfl rfl rfl hl.1 rfl (Nat.le_of_ble_eq_true rfl) dX5_eliminate__69 ⟨Nat.le_of_ble_eq_true rfl, Nat.le_of_ble_eq_true rfl⟩ (fun r_8 H locs hr9 hP hS => ?_)
          replace hr9 : r_8 = (f_at x2 (M_rowAt (Int32.toNatClampNeg x4))) := hr9
          subst hr9
          obtain ⟨h_9, hv⟩ := hv
          refine va_zald (D := g.1) hx hb hK.1 hP 2 1 rfl rfl h_9 dX5_eliminate__72 ?_
          refine lv_if_eq (tgt := 98) hx hb dX5_eliminate__73 (by decide) (fun hc => ?_) (fun hc => ?_)
          · replace hv := hv.1 hc
            obtain ⟨x4_10, ex4_10⟩ : ∃ y : Int32, y = x4 + 1 := ⟨_, rfl⟩
            replace hv := hv x4_10 ex4_10
            refine lv_iinc (v := x4_10) (lv' := [(4, .int x4_10), (3, .int x3), (2, .int x2), (0, .ref a_M), (1, .int i_p)]) hx hb dX5_eliminate__98 hl (k := 0) rfl (by rw [ex4_10]; rfl) (by decide) rfl (fun ls hl => ?_)
            refine lv_goto (tgt := 24) hx hb dX5_eliminate__101 (by decide) ?_
            exact hv _ _ _ hP hD hS (lv_sub hl [0, 1, 2, 3, 4] rfl)
          · replace hv := hv.2 hc
            refine lv_aload_n hx hb dX5_eliminate__76 rfl (lv_at hl 3 rfl) ?_
            refine va_get (D := g.1) (ci := 5) (v := .ref a_M_isJoined) (C := RX5) (T := TX5) (N := 16) hx hb hts cw_in_X5 hown hK.1 hP 0 rfl rfl 13 (by decide) (hts _ cw_f_X5_41) (fun _ h9 => h9) rfl dX5_eliminate__77 ?_
            refine lv_aload_n hx hb dX5_eliminate__80 rfl (lv_at hl 3 rfl) ?_
            refine va_get (D := g.1) (ci := 5) (v := .ref a_M_rowAt) (C := RX5) (T := TX5) (N := 16) hx hb hts cw_in_X5 hown hK.1 hP 0 rfl rfl 3 (by decide) (hts _ cw_f_X5_17) (fun _ h9 => h9) rfl dX5_eliminate__81 ?_
            refine lv_iload_n hx hb dX5_eliminate__84 rfl (lv_at hl 1 rfl) ?_
            obtain ⟨h_11, hv⟩ := hv
            refine va_iald (D := g.1) hx hb hK.1 hP 1 0 rfl rfl h_11 dX5_eliminate__85 ?_
            refine lv_aload_n hx hb dX5_eliminate__86 rfl (lv_at hl 3 rfl) ?_
            refine va_get (D := g.1) (ci := 5) (v := .ref a_M_rowAt) (C := RX5) (T := TX5) (N := 16) hx hb hts cw_in_X5 hown hK.1 hP 0 rfl rfl 3 (by decide) (hts _ cw_f_X5_17) (fun _ h9 => h9) rfl dX5_eliminate__87 ?_
            refine lv_iload hx hb dX5_eliminate__90 (lv_at hl 0 rfl) ?_
            obtain ⟨h_12, hv⟩ := hv
            refine va_iald (D := g.1) hx hb hK.1 hP 1 0 rfl rfl h_12 dX5_eliminate__92 ?_
            refine cx_iSr (As := [.int (M_rowAt (Int32.toNatClampNeg x3)), .int (M_rowAt (Int32.toNatClampNeg x4))]) (rest := [.ref a_M_isJoined]) ⟨hx, hb, hml, hown, hts⟩ (cp_X5_at l g (M_rowAt (Int32.toNatClampNeg x3)) (M_rowAt (Int32.toNatClampNeg x4))) (cx_cwS 2 hts cw_m_X5_62 cw_t_X5_at cw_n_X5 cw_c_X5_at rfl rfl (by decide +kernel) ⟨Nat.le_of_ble_eq_true rfl, Nat.le_of_ble_eq_true rfl⟩) hK hP hD hS hA [] rfl rfl rfl hl.1 rfl (Nat.le_of_ble_eq_true rfl) dX5_eliminate__93 ⟨Nat.le_of_ble_eq_true rfl, Nat.le_of_ble_eq_true rfl⟩ (fun r_13 H locs hr9 hP hS => ?_)
            replace hr9 : r_13 = (f_at (M_rowAt (Int32.toNatClampNeg x3)) (M_rowAt (Int32.toNatClampNeg x4))) := hr9
            subst hr9
            refine lv_iconst (v := 1) hx hb dX5_eliminate__96 (by decide) ?_
            obtain ⟨h_14, hv⟩ := hv
            refine va_zast (D := g.1) hx hb hK.1 hP hD hS 2 1 rfl rfl h_14 dX5_eliminate__97 (fun H locs hP hD hS => ?_)
            have hP : va_P g.1 vwCl [(a_M, .inr (5, [.int M_thrown, .int M_n, .ref a_M_a, .ref a_M_rowAt, .ref a_M_places, .ref a_M_rights, .ref a_M_weights, .int M_hasFactors, .ref a_M_pivots, .ref a_M_lower, .int M_hasSolution, .ref a_M_solution, .ref a_M_work, .ref a_M_isJoined, .int M_levels, .ref a_M_stored])), (a_M_rowAt, .inl (g.2.1, 16, .inl M_rowAt)), (a_M_isJoined, .inl (g.2.2.1, 256, .inl (upd v_M_isJoined (Int32.toNatClampNeg (f_at (M_rowAt (Int32.toNatClampNeg x3)) (M_rowAt (Int32.toNatClampNeg x4)))) (vp_nar .boolean 1))))] H := hP
            have hD : va_D A [(a_M, .inr (5, [.int M_thrown, .int M_n, .ref a_M_a, .ref a_M_rowAt, .ref a_M_places, .ref a_M_rights, .ref a_M_weights, .int M_hasFactors, .ref a_M_pivots, .ref a_M_lower, .int M_hasSolution, .ref a_M_solution, .ref a_M_work, .ref a_M_isJoined, .int M_levels, .ref a_M_stored])), (a_M_rowAt, .inl (g.2.1, 16, .inl M_rowAt)), (a_M_isJoined, .inl (g.2.2.1, 256, .inl (upd v_M_isJoined (Int32.toNatClampNeg (f_at (M_rowAt (Int32.toNatClampNeg x3)) (M_rowAt (Int32.toNatClampNeg x4)))) (vp_nar .boolean 1))))] := hD
            obtain ⟨x4_15, ex4_15⟩ : ∃ y : Int32, y = x4 + 1 := ⟨_, rfl⟩
            replace hv := hv x4_15 ex4_15
            refine lv_iinc (v := x4_15) (lv' := [(4, .int x4_15), (3, .int x3), (2, .int x2), (0, .ref a_M), (1, .int i_p)]) hx hb dX5_eliminate__98 hl (k := 0) rfl (by rw [ex4_15]; rfl) (by decide) rfl (fun ls hl => ?_)
            refine lv_goto (tgt := 24) hx hb dX5_eliminate__101 (by decide) ?_
            exact hv _ _ _ hP hD hS (lv_sub hl [0, 1, 2, 3, 4] rfl)
  replace hv := hv G1 G2 hs1 hs2
  rw [hG1, hG2] at hv
  unfold vc_X5_eliminate__0 at hv
  refine lv_aload_n hx hb dX5_eliminate__0 rfl (lv_at hl 0 rfl) ?_
  refine va_get (D := g.1) (ci := 5) (v := .ref a_M_rowAt) (C := RX5) (T := TX5) (N := 16) hx hb hts cw_in_X5 hown hK.1 hP 0 rfl rfl 3 (by decide) (hts _ cw_f_X5_17) (fun _ h9 => h9) rfl dX5_eliminate__1 ?_
  refine lv_iload_n hx hb dX5_eliminate__4 rfl (lv_at hl 1 rfl) ?_
  obtain ⟨h_1, hv⟩ := hv
  refine va_iald (D := g.1) hx hb hK.1 hP 1 0 rfl rfl h_1 dX5_eliminate__5 ?_
  refine lv_topi (fun x2_2 ex2_2 => ?_)
  replace hv := hv x2_2 ex2_2
  refine lv_istore_n (lv' := [(2, .int x2_2), (0, .ref a_M), (1, .int i_p)]) hx hb dX5_eliminate__6 rfl hl (by decide) rfl (fun ls hl => ?_)
  refine lv_iload_n hx hb dX5_eliminate__7 rfl (lv_at hl 2 rfl) ?_
  refine lv_iconst (v := 1) hx hb dX5_eliminate__8 (by decide) ?_
  refine lv_iadd hx hb dX5_eliminate__9 ?_
  refine lv_topi (fun x3_3 ex3_3 => ?_)
  replace hv := hv x3_3 ex3_3
  refine lv_istore_n (lv' := [(3, .int x3_3), (2, .int x2_2), (0, .ref a_M), (1, .int i_p)]) hx hb dX5_eliminate__10 rfl hl (by decide) rfl (fun ls hl => ?_)
  exact hv _ _ _ hP hD hS (lv_sub hl [0, 1, 2, 3] rfl)
def vc_X5_fill_0 (M_thrown : Int32) (M_n : Int32) (M_hasFactors : Int32) (M_hasSolution : Int32) (M_levels : Int32) (M_a : (Nat → Int32)) (M_isJoined : (Nat → Int32)) (M_rowAt : (Nat → Int32)) (Q : (Nat → Int32) → Prop) (G1 : Int32 → (Nat → Int32) → Prop)  : Prop := wp_X5_join M_thrown M_n M_hasFactors M_hasSolution M_levels M_a M_isJoined (fun u_2 => G1 0 u_2)
def vc_X5_fill_1 (M_thrown : Int32) (M_n : Int32) (M_hasFactors : Int32) (M_hasSolution : Int32) (M_levels : Int32) (M_a : (Nat → Int32)) (M_isJoined : (Nat → Int32)) (M_rowAt : (Nat → Int32)) (Q : (Nat → Int32) → Prop) (G1 : Int32 → (Nat → Int32) → Prop) (x1 : Int32) (v_M_isJoined : (Nat → Int32)) : Prop := (M_n ≤ x1 → (Q v_M_isJoined)) ∧ (¬ M_n ≤ x1 → (wp_X5_eliminate_ x1 M_thrown M_n M_hasFactors M_hasSolution M_levels M_rowAt v_M_isJoined (fun u_2 => ∀ x1_4 : Int32, x1_4 = x1 + 1 → (G1 x1_4 u_2))))
def wp_X5_fill (M_thrown : Int32) (M_n : Int32) (M_hasFactors : Int32) (M_hasSolution : Int32) (M_levels : Int32) (M_a : (Nat → Int32)) (M_isJoined : (Nat → Int32)) (M_rowAt : (Nat → Int32)) (Q : (Nat → Int32) → Prop) : Prop := ∀ (G1 : Int32 → (Nat → Int32) → Prop), (∀ (x1 : Int32) (v_M_isJoined : (Nat → Int32)), vc_X5_fill_1 M_thrown M_n M_hasFactors M_hasSolution M_levels M_a M_isJoined M_rowAt Q G1 x1 v_M_isJoined → G1 x1 v_M_isJoined) → vc_X5_fill_0 M_thrown M_n M_hasFactors M_hasSolution M_levels M_a M_isJoined M_rowAt Q G1
abbrev w0_X5_fill (g : cx_G) (a_M a_M_a a_M_rowAt a_M_places a_M_rights a_M_weights a_M_pivots a_M_lower a_M_solution a_M_work a_M_isJoined a_M_stored : Nat) (M_thrown : Int32) (M_n : Int32) (M_hasFactors : Int32) (M_hasSolution : Int32) (M_levels : Int32) (M_a : (Nat → Int32)) (M_isJoined : (Nat → Int32)) (M_rowAt : (Nat → Int32)) : va_W := [(a_M, .inr (5, [.int M_thrown, .int M_n, .ref a_M_a, .ref a_M_rowAt, .ref a_M_places, .ref a_M_rights, .ref a_M_weights, .int M_hasFactors, .ref a_M_pivots, .ref a_M_lower, .int M_hasSolution, .ref a_M_solution, .ref a_M_work, .ref a_M_isJoined, .int M_levels, .ref a_M_stored])), (a_M_a, .inl (g.2.1, 256, .inl M_a)), (a_M_isJoined, .inl (g.2.2.1, 256, .inl M_isJoined)), (a_M_rowAt, .inl (g.2.1, 16, .inl M_rowAt))]
abbrev w1_X5_fill (g : cx_G) (a_M a_M_a a_M_rowAt a_M_places a_M_rights a_M_weights a_M_pivots a_M_lower a_M_solution a_M_work a_M_isJoined a_M_stored : Nat) (M_thrown : Int32) (M_n : Int32) (M_hasFactors : Int32) (M_hasSolution : Int32) (M_levels : Int32) (M_a : (Nat → Int32)) (M_isJoined : (Nat → Int32)) (M_rowAt : (Nat → Int32)) (u : (Nat → Int32)) : va_W := [(a_M, .inr (5, [.int M_thrown, .int M_n, .ref a_M_a, .ref a_M_rowAt, .ref a_M_places, .ref a_M_rights, .ref a_M_weights, .int M_hasFactors, .ref a_M_pivots, .ref a_M_lower, .int M_hasSolution, .ref a_M_solution, .ref a_M_work, .ref a_M_isJoined, .int M_levels, .ref a_M_stored])), (a_M_a, .inl (g.2.1, 256, .inl M_a)), (a_M_isJoined, .inl (g.2.2.1, 256, .inl u)), (a_M_rowAt, .inl (g.2.1, 16, .inl M_rowAt))]
set_option maxHeartbeats 4000000 in
set_option maxRecDepth 100000 in
theorem c_X5_fill (l : Launch) (g : cx_G) (a_M a_M_a a_M_rowAt a_M_places a_M_rights a_M_weights a_M_pivots a_M_lower a_M_solution a_M_work a_M_isJoined a_M_stored : Nat) (M_thrown : Int32) (M_n : Int32) (M_hasFactors : Int32) (M_hasSolution : Int32) (M_levels : Int32) (M_a : (Nat → Int32)) (M_isJoined : (Nat → Int32)) (M_rowAt : (Nat → Int32)) {Q : (Nat → Int32) → Prop} (hv : wp_X5_fill M_thrown M_n M_hasFactors M_hasSolution M_levels M_a M_isJoined M_rowAt Q) : cx_Mv l g yX5_fill (Cond.code yX5_fill cX5_fill 2 none :: cx_T) ({ frames := 3, cells := 0, slots := 0, locals := 65 } : Room) [.ref a_M] (w0_X5_fill g a_M a_M_a a_M_rowAt a_M_places a_M_rights a_M_weights a_M_pivots a_M_lower a_M_solution a_M_work a_M_isJoined a_M_stored M_thrown M_n M_hasFactors M_hasSolution M_levels M_a M_isJoined M_rowAt) (fun (u : (Nat → Int32)) => Q u) (w1_X5_fill g a_M a_M_a a_M_rowAt a_M_places a_M_rights a_M_weights a_M_pivots a_M_lower a_M_solution a_M_work a_M_isJoined a_M_stored M_thrown M_n M_hasFactors M_hasSolution M_levels M_a M_isJoined M_rowAt) 0 0 := by
  intro sz
  refine Met.ofW (cc := cX5_fill) (maxL := 2) (ret := none) (by decide) rfl ?_
  intro p e s m args below meth c s₁ B hml hpre
  obtain ⟨rfl, hsz, hP, hK, hD0⟩ := hpre
  have hx := B.exec
  have hb := B.bytes
  have hr := B.returns
  have hts0 := atoms_spec (ws := (Cond.code yX5_fill cX5_fill 2 none :: cx_T)) B.pre
  have hts : ∀ w ∈ cx_T, w.before _ s = true := fun w h => hts0 w (List.mem_cons_of_mem _ h)
  have hown : s.vm.findClass RX5 = some m.cls := findClass_of_methodNamed B.named
  have hlocks := B.notSynchronized
  subst hsz
  have hD := hD0.self (sz := s.heap.size)
  obtain ⟨A, hAe⟩ : ∃ A : Nat → Prop, A = va_A (w0_X5_fill g a_M a_M_a a_M_rowAt a_M_places a_M_rights a_M_weights a_M_pivots a_M_lower a_M_solution a_M_work a_M_isJoined a_M_stored M_thrown M_n M_hasFactors M_hasSolution M_levels M_a M_isJoined M_rowAt) s.heap.size := ⟨_, rfl⟩
  rw [← hAe] at hD
  have hA : ∀ q : Nat, s.heap.size ≤ q → A q := fun q h => by rw [hAe]; exact Or.inr h
  have hS : va_S A s.heap s.heap [] := va_S.rf
  have hP : va_P g.1 vwCl [(a_M, .inr (5, [.int M_thrown, .int M_n, .ref a_M_a, .ref a_M_rowAt, .ref a_M_places, .ref a_M_rights, .ref a_M_weights, .int M_hasFactors, .ref a_M_pivots, .ref a_M_lower, .int M_hasSolution, .ref a_M_solution, .ref a_M_work, .ref a_M_isJoined, .int M_levels, .ref a_M_stored])), (a_M_a, .inl (g.2.1, 256, .inl M_a)), (a_M_isJoined, .inl (g.2.2.1, 256, .inl M_isJoined)), (a_M_rowAt, .inl (g.2.1, 16, .inl M_rowAt))] s.heap := hP
  have hD : va_D A [(a_M, .inr (5, [.int M_thrown, .int M_n, .ref a_M_a, .ref a_M_rowAt, .ref a_M_places, .ref a_M_rights, .ref a_M_weights, .int M_hasFactors, .ref a_M_pivots, .ref a_M_lower, .int M_hasSolution, .ref a_M_solution, .ref a_M_work, .ref a_M_isJoined, .int M_levels, .ref a_M_stored])), (a_M_a, .inl (g.2.1, 256, .inl M_a)), (a_M_isJoined, .inl (g.2.2.1, 256, .inl M_isJoined)), (a_M_rowAt, .inl (g.2.1, 16, .inl M_rowAt))] := hD
  have hl := lv_entry ([.ref a_M]) (n := 2) (Nat.le_of_ble_eq_true rfl)
  rw [lg_entry_eq]
  generalize (lg_sl ([.ref a_M]) ++ List.replicate (2 - (lg_sl ([.ref a_M])).length) Slot.unset).toArray = ls at hl ⊢
  have hl : lv_has ls 2 [(0, .ref a_M)] := hl
  obtain ⟨G1, hG1⟩ : ∃ G : Int32 → (Nat → Int32) → Prop, G = (fun (x1 : Int32) (v_M_isJoined : (Nat → Int32)) => ∀ (H : Heap) (locs : List Loc) (ls : Array Slot), va_P g.1 vwCl [(a_M, .inr (5, [.int M_thrown, .int M_n, .ref a_M_a, .ref a_M_rowAt, .ref a_M_places, .ref a_M_rights, .ref a_M_weights, .int M_hasFactors, .ref a_M_pivots, .ref a_M_lower, .int M_hasSolution, .ref a_M_solution, .ref a_M_work, .ref a_M_isJoined, .int M_levels, .ref a_M_stored])), (a_M_a, .inl (g.2.1, 256, .inl M_a)), (a_M_isJoined, .inl (g.2.2.1, 256, .inl v_M_isJoined)), (a_M_rowAt, .inl (g.2.1, 16, .inl M_rowAt))] H → va_D A [(a_M, .inr (5, [.int M_thrown, .int M_n, .ref a_M_a, .ref a_M_rowAt, .ref a_M_places, .ref a_M_rights, .ref a_M_weights, .int M_hasFactors, .ref a_M_pivots, .ref a_M_lower, .int M_hasSolution, .ref a_M_solution, .ref a_M_work, .ref a_M_isJoined, .int M_levels, .ref a_M_stored])), (a_M_a, .inl (g.2.1, 256, .inl M_a)), (a_M_isJoined, .inl (g.2.2.1, 256, .inl v_M_isJoined)), (a_M_rowAt, .inl (g.2.1, 16, .inl M_rowAt))] → va_S A s.heap H locs → lv_has ls 2 [(1, .int x1), (0, .ref a_M)] → W p l e (headSpec (Cond.code yX5_fill cX5_fill 2 none :: cx_T) ({ frames := 3, cells := 0, slots := 0, locals := 65 } : Room)).room s m ([.ref a_M] : List Value).toArray below meth c H locs 0 0 (MQ below (va_Qv (fun (u : (Nat → Int32)) => Q u) (cx_B g (w0_X5_fill g a_M a_M_a a_M_rowAt a_M_places a_M_rights a_M_weights a_M_pivots a_M_lower a_M_solution a_M_work a_M_isJoined a_M_stored M_thrown M_n M_hasFactors M_hasSolution M_levels M_a M_isJoined M_rowAt) s.heap.size (w1_X5_fill g a_M a_M_a a_M_rowAt a_M_places a_M_rights a_M_weights a_M_pivots a_M_lower a_M_solution a_M_work a_M_isJoined a_M_stored M_thrown M_n M_hasFactors M_hasSolution M_levels M_a M_isJoined M_rowAt)) (va_A (w0_X5_fill g a_M a_M_a a_M_rowAt a_M_places a_M_rights a_M_weights a_M_pivots a_M_lower a_M_solution a_M_work a_M_isJoined a_M_stored M_thrown M_n M_hasFactors M_hasSolution M_levels M_a M_isJoined M_rowAt) s.heap.size)) ([.ref a_M] : List Value).toArray s 0 0 (va_A (w0_X5_fill g a_M a_M_a a_M_rowAt a_M_places a_M_rights a_M_weights a_M_pivots a_M_lower a_M_solution a_M_work a_M_isJoined a_M_stored M_thrown M_n M_hasFactors M_hasSolution M_levels M_a M_isJoined M_rowAt) s.heap.size)) (F0 m 6 ls [])) := ⟨_, rfl⟩
  have hs1 : ∀ (x1 : Int32) (v_M_isJoined : (Nat → Int32)), vc_X5_fill_1 M_thrown M_n M_hasFactors M_hasSolution M_levels M_a M_isJoined M_rowAt Q G1 x1 v_M_isJoined → G1 x1 v_M_isJoined := by
    rw [hG1]
    intro x1 v_M_isJoined hv H locs ls hP hD hS hl
    unfold vc_X5_fill_1 at hv
    refine lv_iload_n hx hb dX5_fill_6 rfl (lv_at hl 0 rfl) ?_
    refine lv_aload_n hx hb dX5_fill_7 rfl (lv_at hl 1 rfl) ?_
    refine va_get (D := g.1) (ci := 5) (v := .int M_n) (C := RX5) (T := TX5) (N := 16) hx hb hts cw_in_X5 hown hK.1 hP 0 rfl rfl 1 (by decide) (hts _ cw_f_X5_9) (fun _ h9 => h9) rfl dX5_fill_8 ?_
    refine lv_icmp_ge (tgt := 25) hx hb dX5_fill_11 (by decide) (fun hc => ?_) (fun hc => ?_)
    · replace hv := hv.1 hc
      exact cx_vret hx hb hr hlocks hAe hS v_M_isJoined hv hP hD dX5_fill_25
    · replace hv := hv.2 hc
      refine lv_aload_n hx hb dX5_fill_14 rfl (lv_at hl 1 rfl) ?_
      refine lv_iload_n hx hb dX5_fill_15 rfl (lv_at hl 0 rfl) ?_
      refine cx_vV (wr := [(a_M_a, .inl (g.2.1, 256, .inl M_a))]) (As := [.int x1]) (rest := []) ⟨hx, hb, hml, hown, hts⟩ (c_X5_eliminate_ l g a_M a_M_a a_M_rowAt a_M_places a_M_rights a_M_weights a_M_pivots a_M_lower a_M_solution a_M_work a_M_isJoined a_M_stored x1 M_thrown M_n M_hasFactors M_hasSolution M_levels M_rowAt v_M_isJoined hv) (cx_cwV 1 hts cw_m_X5_113 cw_i_X5_eliminate_ cw_s_X5_eliminate_ cw_n_X5 cw_c_X5_eliminate_ rfl rfl (by decide +kernel) ⟨Nat.le_of_ble_eq_true rfl, Nat.le_of_ble_eq_true rfl⟩) hK hP hD hS hA 0 5 rfl rfl [0, 3, 2] [1] rfl rfl rfl rfl (by decide) rfl hl.1 rfl (Nat.le_of_ble_eq_true rfl) dX5_fill_16 ⟨Nat.le_of_ble_eq_true rfl, Nat.le_of_ble_eq_true rfl⟩ (fun w_3 H locs hv hP hD hS => ?_)
      obtain ⟨u_2, rfl⟩ : ∃ z, z = w_3 := ⟨_, rfl⟩
      have hP : va_P g.1 vwCl [(a_M, .inr (5, [.int M_thrown, .int M_n, .ref a_M_a, .ref a_M_rowAt, .ref a_M_places, .ref a_M_rights, .ref a_M_weights, .int M_hasFactors, .ref a_M_pivots, .ref a_M_lower, .int M_hasSolution, .ref a_M_solution, .ref a_M_work, .ref a_M_isJoined, .int M_levels, .ref a_M_stored])), (a_M_a, .inl (g.2.1, 256, .inl M_a)), (a_M_isJoined, .inl (g.2.2.1, 256, .inl u_2)), (a_M_rowAt, .inl (g.2.1, 16, .inl M_rowAt))] H := hP.sub [1, 0, 3, 2] rfl
      have hD : va_D A [(a_M, .inr (5, [.int M_thrown, .int M_n, .ref a_M_a, .ref a_M_rowAt, .ref a_M_places, .ref a_M_rights, .ref a_M_weights, .int M_hasFactors, .ref a_M_pivots, .ref a_M_lower, .int M_hasSolution, .ref a_M_solution, .ref a_M_work, .ref a_M_isJoined, .int M_levels, .ref a_M_stored])), (a_M_a, .inl (g.2.1, 256, .inl M_a)), (a_M_isJoined, .inl (g.2.2.1, 256, .inl u_2)), (a_M_rowAt, .inl (g.2.1, 16, .inl M_rowAt))] := hD.sub [1, 0, 3, 2] (by decide) rfl
      obtain ⟨x1_4, ex1_4⟩ : ∃ y : Int32, y = x1 + 1 := ⟨_, rfl⟩
      replace hv := hv x1_4 ex1_4
      refine lv_iinc (v := x1_4) (lv' := [(1, .int x1_4), (0, .ref a_M)]) hx hb dX5_fill_19 hl (k := 0) rfl (by rw [ex1_4]; rfl) (by decide) rfl (fun ls hl => ?_)
      refine lv_goto (tgt := 6) hx hb dX5_fill_22 (by decide) ?_
      exact hv _ _ _ hP hD hS (lv_sub hl [0, 1] rfl)
  replace hv := hv G1 hs1
  rw [hG1] at hv
  unfold vc_X5_fill_0 at hv
  refine lv_aload_n hx hb dX5_fill_0 rfl (lv_at hl 0 rfl) ?_
  refine cx_vV (wr := [(a_M_rowAt, .inl (g.2.1, 16, .inl M_rowAt))]) (As := []) (rest := []) ⟨hx, hb, hml, hown, hts⟩ (c_X5_join l g a_M a_M_a a_M_rowAt a_M_places a_M_rights a_M_weights a_M_pivots a_M_lower a_M_solution a_M_work a_M_isJoined a_M_stored M_thrown M_n M_hasFactors M_hasSolution M_levels M_a M_isJoined hv) (cx_cwV 0 hts cw_m_X5_110 cw_i_X5_join cw_s_X5_join cw_n_X5 cw_c_X5_join rfl rfl (by decide +kernel) ⟨Nat.le_of_ble_eq_true rfl, Nat.le_of_ble_eq_true rfl⟩) hK hP hD hS hA 0 5 rfl rfl [0, 1, 2] [3] rfl rfl rfl rfl (by decide) rfl hl.1 rfl (Nat.le_of_ble_eq_true rfl) dX5_fill_1 ⟨Nat.le_of_ble_eq_true rfl, Nat.le_of_ble_eq_true rfl⟩ (fun w_3 H locs hv hP hD hS => ?_)
  obtain ⟨u_2, rfl⟩ : ∃ z, z = w_3 := ⟨_, rfl⟩
  have hP : va_P g.1 vwCl [(a_M, .inr (5, [.int M_thrown, .int M_n, .ref a_M_a, .ref a_M_rowAt, .ref a_M_places, .ref a_M_rights, .ref a_M_weights, .int M_hasFactors, .ref a_M_pivots, .ref a_M_lower, .int M_hasSolution, .ref a_M_solution, .ref a_M_work, .ref a_M_isJoined, .int M_levels, .ref a_M_stored])), (a_M_a, .inl (g.2.1, 256, .inl M_a)), (a_M_isJoined, .inl (g.2.2.1, 256, .inl u_2)), (a_M_rowAt, .inl (g.2.1, 16, .inl M_rowAt))] H := hP.sub [1, 2, 3, 0] rfl
  have hD : va_D A [(a_M, .inr (5, [.int M_thrown, .int M_n, .ref a_M_a, .ref a_M_rowAt, .ref a_M_places, .ref a_M_rights, .ref a_M_weights, .int M_hasFactors, .ref a_M_pivots, .ref a_M_lower, .int M_hasSolution, .ref a_M_solution, .ref a_M_work, .ref a_M_isJoined, .int M_levels, .ref a_M_stored])), (a_M_a, .inl (g.2.1, 256, .inl M_a)), (a_M_isJoined, .inl (g.2.2.1, 256, .inl u_2)), (a_M_rowAt, .inl (g.2.1, 16, .inl M_rowAt))] := hD.sub [1, 2, 3, 0] (by decide) rfl
  refine lv_iconst (v := 0) hx hb dX5_fill_4 (by decide) ?_
  refine lv_istore_n (lv' := [(1, .int 0), (0, .ref a_M)]) hx hb dX5_fill_5 rfl hl (by decide) rfl (fun ls hl => ?_)
  exact hv _ _ _ hP hD hS (lv_sub hl [0, 1] rfl)
def vc_X5_fills_0 (M_thrown : Int32) (M_n : Int32) (M_hasFactors : Int32) (M_hasSolution : Int32) (M_levels : Int32) (M_a : (Nat → Int32)) (M_isJoined : (Nat → Int32)) (M_rowAt : (Nat → Int32)) (Q : Int32 → (Nat → Int32) → Prop) (G1 : Int32 → Int32 → (Nat → Int32) → Prop) (G2 : Int32 → Int32 → Int32 → (Nat → Int32) → Prop)  : Prop := wp_X5_fill M_thrown M_n M_hasFactors M_hasSolution M_levels M_a M_isJoined M_rowAt (fun u_2 => G1 0 0 u_2)
def vc_X5_fills_1 (M_thrown : Int32) (M_n : Int32) (M_hasFactors : Int32) (M_hasSolution : Int32) (M_levels : Int32) (M_a : (Nat → Int32)) (M_isJoined : (Nat → Int32)) (M_rowAt : (Nat → Int32)) (Q : Int32 → (Nat → Int32) → Prop) (G1 : Int32 → Int32 → (Nat → Int32) → Prop) (G2 : Int32 → Int32 → Int32 → (Nat → Int32) → Prop) (x2 : Int32) (x1 : Int32) (v_M_isJoined : (Nat → Int32)) : Prop := (M_n ≤ x2 → (Q x1 v_M_isJoined)) ∧ (¬ M_n ≤ x2 → (G2 0 x2 x1 v_M_isJoined))
def vc_X5_fills_2 (M_thrown : Int32) (M_n : Int32) (M_hasFactors : Int32) (M_hasSolution : Int32) (M_levels : Int32) (M_a : (Nat → Int32)) (M_isJoined : (Nat → Int32)) (M_rowAt : (Nat → Int32)) (Q : Int32 → (Nat → Int32) → Prop) (G1 : Int32 → Int32 → (Nat → Int32) → Prop) (G2 : Int32 → Int32 → Int32 → (Nat → Int32) → Prop) (x3 : Int32) (x2 : Int32) (x1 : Int32) (v_M_isJoined : (Nat → Int32)) : Prop := (x2 ≤ x3 → (∀ x2_1 : Int32, x2_1 = x2 + 1 → (G1 x2_1 x1 v_M_isJoined))) ∧ (¬ x2 ≤ x3 → (vp_in (f_at x2 x3) 256 ∧ (((v_M_isJoined (Int32.toNatClampNeg (f_at x2 x3))) = 0 → (∀ x1_4 : Int32, x1_4 = (x1 + 0) → (∀ x3_5 : Int32, x3_5 = x3 + 1 → (G2 x3_5 x2 x1_4 v_M_isJoined)))) ∧ (¬ (v_M_isJoined (Int32.toNatClampNeg (f_at x2 x3))) = 0 → (wp_X5_isLinked x2 x3 M_thrown M_n M_hasFactors M_hasSolution M_levels M_a (fun r_6 => (r_6 = 0 → (∀ x1_9 : Int32, x1_9 = (x1 + 1) → (∀ x3_10 : Int32, x3_10 = x3 + 1 → (G2 x3_10 x2 x1_9 v_M_isJoined)))) ∧ (¬ r_6 = 0 → (∀ x1_7 : Int32, x1_7 = (x1 + 0) → (∀ x3_8 : Int32, x3_8 = x3 + 1 → (G2 x3_8 x2 x1_7 v_M_isJoined))))))))))
def wp_X5_fills (M_thrown : Int32) (M_n : Int32) (M_hasFactors : Int32) (M_hasSolution : Int32) (M_levels : Int32) (M_a : (Nat → Int32)) (M_isJoined : (Nat → Int32)) (M_rowAt : (Nat → Int32)) (Q : Int32 → (Nat → Int32) → Prop) : Prop := ∀ (G1 : Int32 → Int32 → (Nat → Int32) → Prop) (G2 : Int32 → Int32 → Int32 → (Nat → Int32) → Prop), (∀ (x2 : Int32) (x1 : Int32) (v_M_isJoined : (Nat → Int32)), vc_X5_fills_1 M_thrown M_n M_hasFactors M_hasSolution M_levels M_a M_isJoined M_rowAt Q G1 G2 x2 x1 v_M_isJoined → G1 x2 x1 v_M_isJoined) → (∀ (x3 : Int32) (x2 : Int32) (x1 : Int32) (v_M_isJoined : (Nat → Int32)), vc_X5_fills_2 M_thrown M_n M_hasFactors M_hasSolution M_levels M_a M_isJoined M_rowAt Q G1 G2 x3 x2 x1 v_M_isJoined → G2 x3 x2 x1 v_M_isJoined) → vc_X5_fills_0 M_thrown M_n M_hasFactors M_hasSolution M_levels M_a M_isJoined M_rowAt Q G1 G2
abbrev w0_X5_fills (g : cx_G) (a_M a_M_a a_M_rowAt a_M_places a_M_rights a_M_weights a_M_pivots a_M_lower a_M_solution a_M_work a_M_isJoined a_M_stored : Nat) (M_thrown : Int32) (M_n : Int32) (M_hasFactors : Int32) (M_hasSolution : Int32) (M_levels : Int32) (M_a : (Nat → Int32)) (M_isJoined : (Nat → Int32)) (M_rowAt : (Nat → Int32)) : va_W := [(a_M, .inr (5, [.int M_thrown, .int M_n, .ref a_M_a, .ref a_M_rowAt, .ref a_M_places, .ref a_M_rights, .ref a_M_weights, .int M_hasFactors, .ref a_M_pivots, .ref a_M_lower, .int M_hasSolution, .ref a_M_solution, .ref a_M_work, .ref a_M_isJoined, .int M_levels, .ref a_M_stored])), (a_M_a, .inl (g.2.1, 256, .inl M_a)), (a_M_isJoined, .inl (g.2.2.1, 256, .inl M_isJoined)), (a_M_rowAt, .inl (g.2.1, 16, .inl M_rowAt))]
abbrev w1_X5_fills (g : cx_G) (a_M a_M_a a_M_rowAt a_M_places a_M_rights a_M_weights a_M_pivots a_M_lower a_M_solution a_M_work a_M_isJoined a_M_stored : Nat) (M_thrown : Int32) (M_n : Int32) (M_hasFactors : Int32) (M_hasSolution : Int32) (M_levels : Int32) (M_a : (Nat → Int32)) (M_isJoined : (Nat → Int32)) (M_rowAt : (Nat → Int32)) (u : (Nat → Int32)) : va_W := [(a_M, .inr (5, [.int M_thrown, .int M_n, .ref a_M_a, .ref a_M_rowAt, .ref a_M_places, .ref a_M_rights, .ref a_M_weights, .int M_hasFactors, .ref a_M_pivots, .ref a_M_lower, .int M_hasSolution, .ref a_M_solution, .ref a_M_work, .ref a_M_isJoined, .int M_levels, .ref a_M_stored])), (a_M_a, .inl (g.2.1, 256, .inl M_a)), (a_M_isJoined, .inl (g.2.2.1, 256, .inl u)), (a_M_rowAt, .inl (g.2.1, 16, .inl M_rowAt))]
set_option maxHeartbeats 4000000 in
set_option maxRecDepth 100000 in
theorem c_X5_fills (l : Launch) (g : cx_G) (a_M a_M_a a_M_rowAt a_M_places a_M_rights a_M_weights a_M_pivots a_M_lower a_M_solution a_M_work a_M_isJoined a_M_stored : Nat) (M_thrown : Int32) (M_n : Int32) (M_hasFactors : Int32) (M_hasSolution : Int32) (M_levels : Int32) (M_a : (Nat → Int32)) (M_isJoined : (Nat → Int32)) (M_rowAt : (Nat → Int32)) {Q : Int32 → (Nat → Int32) → Prop} (hv : wp_X5_fills M_thrown M_n M_hasFactors M_hasSolution M_levels M_a M_isJoined M_rowAt Q) : cx_Mi l g yX5_fills (Cond.code yX5_fills cX5_fills 4 (some .int) :: cx_T) ({ frames := 4, cells := 0, slots := 0, locals := 86 } : Room) [.ref a_M] (w0_X5_fills g a_M a_M_a a_M_rowAt a_M_places a_M_rights a_M_weights a_M_pivots a_M_lower a_M_solution a_M_work a_M_isJoined a_M_stored M_thrown M_n M_hasFactors M_hasSolution M_levels M_a M_isJoined M_rowAt) (fun (r : Int32) (u : (Nat → Int32)) => Q r u) (w1_X5_fills g a_M a_M_a a_M_rowAt a_M_places a_M_rights a_M_weights a_M_pivots a_M_lower a_M_solution a_M_work a_M_isJoined a_M_stored M_thrown M_n M_hasFactors M_hasSolution M_levels M_a M_isJoined M_rowAt) 0 0 := by
  intro sz
  refine Met.ofW (cc := cX5_fills) (maxL := 4) (ret := (some .int)) (by decide) rfl ?_
  intro p e s m args below meth c s₁ B hml hpre
  obtain ⟨rfl, hsz, hP, hK, hD0⟩ := hpre
  have hx := B.exec
  have hb := B.bytes
  have hr := B.returns
  have hts0 := atoms_spec (ws := (Cond.code yX5_fills cX5_fills 4 (some .int) :: cx_T)) B.pre
  have hts : ∀ w ∈ cx_T, w.before _ s = true := fun w h => hts0 w (List.mem_cons_of_mem _ h)
  have hown : s.vm.findClass RX5 = some m.cls := findClass_of_methodNamed B.named
  have hlocks := B.notSynchronized
  subst hsz
  have hD := hD0.self (sz := s.heap.size)
  obtain ⟨A, hAe⟩ : ∃ A : Nat → Prop, A = va_A (w0_X5_fills g a_M a_M_a a_M_rowAt a_M_places a_M_rights a_M_weights a_M_pivots a_M_lower a_M_solution a_M_work a_M_isJoined a_M_stored M_thrown M_n M_hasFactors M_hasSolution M_levels M_a M_isJoined M_rowAt) s.heap.size := ⟨_, rfl⟩
  rw [← hAe] at hD
  have hA : ∀ q : Nat, s.heap.size ≤ q → A q := fun q h => by rw [hAe]; exact Or.inr h
  have hS : va_S A s.heap s.heap [] := va_S.rf
  have hP : va_P g.1 vwCl [(a_M, .inr (5, [.int M_thrown, .int M_n, .ref a_M_a, .ref a_M_rowAt, .ref a_M_places, .ref a_M_rights, .ref a_M_weights, .int M_hasFactors, .ref a_M_pivots, .ref a_M_lower, .int M_hasSolution, .ref a_M_solution, .ref a_M_work, .ref a_M_isJoined, .int M_levels, .ref a_M_stored])), (a_M_a, .inl (g.2.1, 256, .inl M_a)), (a_M_isJoined, .inl (g.2.2.1, 256, .inl M_isJoined)), (a_M_rowAt, .inl (g.2.1, 16, .inl M_rowAt))] s.heap := hP
  have hD : va_D A [(a_M, .inr (5, [.int M_thrown, .int M_n, .ref a_M_a, .ref a_M_rowAt, .ref a_M_places, .ref a_M_rights, .ref a_M_weights, .int M_hasFactors, .ref a_M_pivots, .ref a_M_lower, .int M_hasSolution, .ref a_M_solution, .ref a_M_work, .ref a_M_isJoined, .int M_levels, .ref a_M_stored])), (a_M_a, .inl (g.2.1, 256, .inl M_a)), (a_M_isJoined, .inl (g.2.2.1, 256, .inl M_isJoined)), (a_M_rowAt, .inl (g.2.1, 16, .inl M_rowAt))] := hD
  have hl := lv_entry ([.ref a_M]) (n := 4) (Nat.le_of_ble_eq_true rfl)
  rw [lg_entry_eq]
  generalize (lg_sl ([.ref a_M]) ++ List.replicate (4 - (lg_sl ([.ref a_M])).length) Slot.unset).toArray = ls at hl ⊢
  have hl : lv_has ls 4 [(0, .ref a_M)] := hl
  obtain ⟨G1, hG1⟩ : ∃ G : Int32 → Int32 → (Nat → Int32) → Prop, G = (fun (x2 : Int32) (x1 : Int32) (v_M_isJoined : (Nat → Int32)) => ∀ (H : Heap) (locs : List Loc) (ls : Array Slot), va_P g.1 vwCl [(a_M, .inr (5, [.int M_thrown, .int M_n, .ref a_M_a, .ref a_M_rowAt, .ref a_M_places, .ref a_M_rights, .ref a_M_weights, .int M_hasFactors, .ref a_M_pivots, .ref a_M_lower, .int M_hasSolution, .ref a_M_solution, .ref a_M_work, .ref a_M_isJoined, .int M_levels, .ref a_M_stored])), (a_M_a, .inl (g.2.1, 256, .inl M_a)), (a_M_isJoined, .inl (g.2.2.1, 256, .inl v_M_isJoined)), (a_M_rowAt, .inl (g.2.1, 16, .inl M_rowAt))] H → va_D A [(a_M, .inr (5, [.int M_thrown, .int M_n, .ref a_M_a, .ref a_M_rowAt, .ref a_M_places, .ref a_M_rights, .ref a_M_weights, .int M_hasFactors, .ref a_M_pivots, .ref a_M_lower, .int M_hasSolution, .ref a_M_solution, .ref a_M_work, .ref a_M_isJoined, .int M_levels, .ref a_M_stored])), (a_M_a, .inl (g.2.1, 256, .inl M_a)), (a_M_isJoined, .inl (g.2.2.1, 256, .inl v_M_isJoined)), (a_M_rowAt, .inl (g.2.1, 16, .inl M_rowAt))] → va_S A s.heap H locs → lv_has ls 4 [(2, .int x2), (1, .int x1), (0, .ref a_M)] → W p l e (headSpec (Cond.code yX5_fills cX5_fills 4 (some .int) :: cx_T) ({ frames := 4, cells := 0, slots := 0, locals := 86 } : Room)).room s m ([.ref a_M] : List Value).toArray below meth c H locs 0 0 (MQ below (va_Qi (fun (r : Int32) (u : (Nat → Int32)) => Q r u) (cx_B g (w0_X5_fills g a_M a_M_a a_M_rowAt a_M_places a_M_rights a_M_weights a_M_pivots a_M_lower a_M_solution a_M_work a_M_isJoined a_M_stored M_thrown M_n M_hasFactors M_hasSolution M_levels M_a M_isJoined M_rowAt) s.heap.size (w1_X5_fills g a_M a_M_a a_M_rowAt a_M_places a_M_rights a_M_weights a_M_pivots a_M_lower a_M_solution a_M_work a_M_isJoined a_M_stored M_thrown M_n M_hasFactors M_hasSolution M_levels M_a M_isJoined M_rowAt)) (va_A (w0_X5_fills g a_M a_M_a a_M_rowAt a_M_places a_M_rights a_M_weights a_M_pivots a_M_lower a_M_solution a_M_work a_M_isJoined a_M_stored M_thrown M_n M_hasFactors M_hasSolution M_levels M_a M_isJoined M_rowAt) s.heap.size)) ([.ref a_M] : List Value).toArray s 0 0 (va_A (w0_X5_fills g a_M a_M_a a_M_rowAt a_M_places a_M_rights a_M_weights a_M_pivots a_M_lower a_M_solution a_M_work a_M_isJoined a_M_stored M_thrown M_n M_hasFactors M_hasSolution M_levels M_a M_isJoined M_rowAt) s.heap.size)) (F0 m 8 ls [])) := ⟨_, rfl⟩
  obtain ⟨G2, hG2⟩ : ∃ G : Int32 → Int32 → Int32 → (Nat → Int32) → Prop, G = (fun (x3 : Int32) (x2 : Int32) (x1 : Int32) (v_M_isJoined : (Nat → Int32)) => ∀ (H : Heap) (locs : List Loc) (ls : Array Slot), va_P g.1 vwCl [(a_M, .inr (5, [.int M_thrown, .int M_n, .ref a_M_a, .ref a_M_rowAt, .ref a_M_places, .ref a_M_rights, .ref a_M_weights, .int M_hasFactors, .ref a_M_pivots, .ref a_M_lower, .int M_hasSolution, .ref a_M_solution, .ref a_M_work, .ref a_M_isJoined, .int M_levels, .ref a_M_stored])), (a_M_a, .inl (g.2.1, 256, .inl M_a)), (a_M_isJoined, .inl (g.2.2.1, 256, .inl v_M_isJoined)), (a_M_rowAt, .inl (g.2.1, 16, .inl M_rowAt))] H → va_D A [(a_M, .inr (5, [.int M_thrown, .int M_n, .ref a_M_a, .ref a_M_rowAt, .ref a_M_places, .ref a_M_rights, .ref a_M_weights, .int M_hasFactors, .ref a_M_pivots, .ref a_M_lower, .int M_hasSolution, .ref a_M_solution, .ref a_M_work, .ref a_M_isJoined, .int M_levels, .ref a_M_stored])), (a_M_a, .inl (g.2.1, 256, .inl M_a)), (a_M_isJoined, .inl (g.2.2.1, 256, .inl v_M_isJoined)), (a_M_rowAt, .inl (g.2.1, 16, .inl M_rowAt))] → va_S A s.heap H locs → lv_has ls 4 [(3, .int x3), (2, .int x2), (1, .int x1), (0, .ref a_M)] → W p l e (headSpec (Cond.code yX5_fills cX5_fills 4 (some .int) :: cx_T) ({ frames := 4, cells := 0, slots := 0, locals := 86 } : Room)).room s m ([.ref a_M] : List Value).toArray below meth c H locs 0 0 (MQ below (va_Qi (fun (r : Int32) (u : (Nat → Int32)) => Q r u) (cx_B g (w0_X5_fills g a_M a_M_a a_M_rowAt a_M_places a_M_rights a_M_weights a_M_pivots a_M_lower a_M_solution a_M_work a_M_isJoined a_M_stored M_thrown M_n M_hasFactors M_hasSolution M_levels M_a M_isJoined M_rowAt) s.heap.size (w1_X5_fills g a_M a_M_a a_M_rowAt a_M_places a_M_rights a_M_weights a_M_pivots a_M_lower a_M_solution a_M_work a_M_isJoined a_M_stored M_thrown M_n M_hasFactors M_hasSolution M_levels M_a M_isJoined M_rowAt)) (va_A (w0_X5_fills g a_M a_M_a a_M_rowAt a_M_places a_M_rights a_M_weights a_M_pivots a_M_lower a_M_solution a_M_work a_M_isJoined a_M_stored M_thrown M_n M_hasFactors M_hasSolution M_levels M_a M_isJoined M_rowAt) s.heap.size)) ([.ref a_M] : List Value).toArray s 0 0 (va_A (w0_X5_fills g a_M a_M_a a_M_rowAt a_M_places a_M_rights a_M_weights a_M_pivots a_M_lower a_M_solution a_M_work a_M_isJoined a_M_stored M_thrown M_n M_hasFactors M_hasSolution M_levels M_a M_isJoined M_rowAt) s.heap.size)) (F0 m 18 ls [])) := ⟨_, rfl⟩
  have hs1 : ∀ (x2 : Int32) (x1 : Int32) (v_M_isJoined : (Nat → Int32)), vc_X5_fills_1 M_thrown M_n M_hasFactors M_hasSolution M_levels M_a M_isJoined M_rowAt Q G1 G2 x2 x1 v_M_isJoined → G1 x2 x1 v_M_isJoined := by
    rw [hG1, hG2]
    intro x2 x1 v_M_isJoined hv H locs ls hP hD hS hl
    unfold vc_X5_fills_1 at hv
    refine lv_iload_n hx hb dX5_fills_8 rfl (lv_at hl 0 rfl) ?_
    refine lv_aload_n hx hb dX5_fills_9 rfl (lv_at hl 2 rfl) ?_
    refine va_get (D := g.1) (ci := 5) (v := .int M_n) (C := RX5) (T := TX5) (N := 16) hx hb hts cw_in_X5 hown hK.1 hP 0 rfl rfl 1 (by decide) (hts _ cw_f_X5_9) (fun _ h9 => h9) rfl dX5_fills_10 ?_
    refine lv_icmp_ge (tgt := 65) hx hb dX5_fills_13 (by decide) (fun hc => ?_) (fun hc => ?_)
    · replace hv := hv.1 hc
      refine lv_iload_n hx hb dX5_fills_65 rfl (lv_at hl 1 rfl) ?_
      exact cx_iret hx hb hr hlocks hAe hS v_M_isJoined hv hP hD dX5_fills_66
    · replace hv := hv.2 hc
      refine lv_iconst (v := 0) hx hb dX5_fills_16 (by decide) ?_
      refine lv_istore_n (lv' := [(3, .int 0), (2, .int x2), (1, .int x1), (0, .ref a_M)]) hx hb dX5_fills_17 rfl hl (by decide) rfl (fun ls hl => ?_)
      exact hv _ _ _ hP hD hS (lv_sub hl [0, 1, 2, 3] rfl)
  have hs2 : ∀ (x3 : Int32) (x2 : Int32) (x1 : Int32) (v_M_isJoined : (Nat → Int32)), vc_X5_fills_2 M_thrown M_n M_hasFactors M_hasSolution M_levels M_a M_isJoined M_rowAt Q G1 G2 x3 x2 x1 v_M_isJoined → G2 x3 x2 x1 v_M_isJoined := by
    rw [hG1, hG2]
    intro x3 x2 x1 v_M_isJoined hv H locs ls hP hD hS hl
    unfold vc_X5_fills_2 at hv
    refine lv_iload_n hx hb dX5_fills_18 rfl (lv_at hl 0 rfl) ?_
    refine lv_iload_n hx hb dX5_fills_19 rfl (lv_at hl 1 rfl) ?_
    refine lv_icmp_ge (tgt := 59) hx hb dX5_fills_20 (by decide) (fun hc => ?_) (fun hc => ?_)
    · replace hv := hv.1 hc
      obtain ⟨x2_1, ex2_1⟩ : ∃ y : Int32, y = x2 + 1 := ⟨_, rfl⟩
      replace hv := hv x2_1 ex2_1
      refine lv_iinc (v := x2_1) (lv' := [(2, .int x2_1), (3, .int x3), (1, .int x1), (0, .ref a_M)]) hx hb dX5_fills_59 hl (k := 1) rfl (by rw [ex2_1]; rfl) (by decide) rfl (fun ls hl => ?_)
      refine lv_goto (tgt := 8) hx hb dX5_fills_62 (by decide) ?_
      exact hv _ _ _ hP hD hS (lv_sub hl [0, 2, 3] rfl)
    · replace hv := hv.2 hc
      refine lv_iload_n hx hb dX5_fills_23 rfl (lv_at hl 2 rfl) ?_
      refine lv_aload_n hx hb dX5_fills_24 rfl (lv_at hl 3 rfl) ?_
      refine va_get (D := g.1) (ci := 5) (v := .ref a_M_isJoined) (C := RX5) (T := TX5) (N := 16) hx hb hts cw_in_X5 hown hK.1 hP 0 rfl rfl 13 (by decide) (hts _ cw_f_X5_41) (fun _ h9 => h9) rfl dX5_fills_25 ?_
      refine lv_iload_n hx hb dX5_fills_28 rfl (lv_at hl 1 rfl) ?_
      refine lv_iload_n hx hb dX5_fills_29 rfl (lv_at hl 0 rfl) ?_
      refine cx_iSr (As := [.int x2, .int x3]) (rest := [.ref a_M_isJoined, .int x1]) ⟨hx, hb, hml, hown, hts⟩ (cp_X5_at l g x2 x3) (cx_cwS 2 hts cw_m_X5_62 cw_t_X5_at cw_n_X5 cw_c_X5_at rfl rfl (by decide +kernel) ⟨Nat.le_of_ble_eq_true rfl, Nat.le_of_ble_eq_true rfl⟩) hK hP hD hS hA [] rfl rfl rfl hl.1 rfl (Nat.le_of_ble_eq_true rfl) dX5_fills_30 ⟨Nat.le_of_ble_eq_true rfl, Nat.le_of_ble_eq_true rfl⟩ (fun r_2 H locs hr9 hP hS => ?_)
      replace hr9 : r_2 = (f_at x2 x3) := hr9
      subst hr9
      obtain ⟨h_3, hv⟩ := hv
      refine va_zald (D := g.1) hx hb hK.1 hP 2 1 rfl rfl h_3 dX5_fills_33 ?_
      refine lv_if_eq (tgt := 50) hx hb dX5_fills_34 (by decide) (fun hc => ?_) (fun hc => ?_)
      · replace hv := hv.1 hc
        refine lv_iconst (v := 0) hx hb dX5_fills_50 (by decide) ?_
        refine lv_iadd hx hb dX5_fills_51 ?_
        refine lv_topi (fun x1_4 ex1_4 => ?_)
        replace hv := hv x1_4 ex1_4
        refine lv_istore_n (lv' := [(1, .int x1_4), (3, .int x3), (2, .int x2), (0, .ref a_M)]) hx hb dX5_fills_52 rfl hl (by decide) rfl (fun ls hl => ?_)
        obtain ⟨x3_5, ex3_5⟩ : ∃ y : Int32, y = x3 + 1 := ⟨_, rfl⟩
        replace hv := hv x3_5 ex3_5
        refine lv_iinc (v := x3_5) (lv' := [(3, .int x3_5), (1, .int x1_4), (2, .int x2), (0, .ref a_M)]) hx hb dX5_fills_53 hl (k := 1) rfl (by rw [ex3_5]; rfl) (by decide) rfl (fun ls hl => ?_)
        refine lv_goto (tgt := 18) hx hb dX5_fills_56 (by decide) ?_
        exact hv _ _ _ hP hD hS (lv_sub hl [0, 2, 1, 3] rfl)
      · replace hv := hv.2 hc
        refine lv_aload_n hx hb dX5_fills_37 rfl (lv_at hl 3 rfl) ?_
        refine lv_iload_n hx hb dX5_fills_38 rfl (lv_at hl 1 rfl) ?_
        refine lv_iload_n hx hb dX5_fills_39 rfl (lv_at hl 0 rfl) ?_
        refine cx_iVr (As := [.int x2, .int x3]) (rest := [.int x1]) ⟨hx, hb, hml, hown, hts⟩ (c_X5_isLinked l g a_M a_M_a a_M_rowAt a_M_places a_M_rights a_M_weights a_M_pivots a_M_lower a_M_solution a_M_work a_M_isJoined a_M_stored x2 x3 M_thrown M_n M_hasFactors M_hasSolution M_levels M_a hv) (cx_cwV 2 hts cw_m_X5_83 cw_i_X5_isLinked cw_s_X5_isLinked cw_n_X5 cw_c_X5_isLinked rfl rfl (by decide +kernel) ⟨Nat.le_of_ble_eq_true rfl, Nat.le_of_ble_eq_true rfl⟩) hK hP hD hS hA 0 5 rfl rfl [0, 1] rfl rfl rfl hl.1 rfl (Nat.le_of_ble_eq_true rfl) dX5_fills_40 ⟨Nat.le_of_ble_eq_true rfl, Nat.le_of_ble_eq_true rfl⟩ (fun r_6 H locs hv hP hS => ?_)
        refine lv_if_ne (tgt := 50) hx hb dX5_fills_43 (by decide) (fun hc => ?_) (fun hc => ?_)
        · replace hv := hv.2 hc
          refine lv_iconst (v := 0) hx hb dX5_fills_50 (by decide) ?_
          refine lv_iadd hx hb dX5_fills_51 ?_
          refine lv_topi (fun x1_7 ex1_7 => ?_)
          replace hv := hv x1_7 ex1_7
          refine lv_istore_n (lv' := [(1, .int x1_7), (3, .int x3), (2, .int x2), (0, .ref a_M)]) hx hb dX5_fills_52 rfl hl (by decide) rfl (fun ls hl => ?_)
          obtain ⟨x3_8, ex3_8⟩ : ∃ y : Int32, y = x3 + 1 := ⟨_, rfl⟩
          replace hv := hv x3_8 ex3_8
          refine lv_iinc (v := x3_8) (lv' := [(3, .int x3_8), (1, .int x1_7), (2, .int x2), (0, .ref a_M)]) hx hb dX5_fills_53 hl (k := 1) rfl (by rw [ex3_8]; rfl) (by decide) rfl (fun ls hl => ?_)
          refine lv_goto (tgt := 18) hx hb dX5_fills_56 (by decide) ?_
          exact hv _ _ _ hP hD hS (lv_sub hl [0, 2, 1, 3] rfl)
        · replace hv := hv.1 hc
          refine lv_iconst (v := 1) hx hb dX5_fills_46 (by decide) ?_
          refine lv_goto (tgt := 51) hx hb dX5_fills_47 (by decide) ?_
          refine lv_iadd hx hb dX5_fills_51 ?_
          refine lv_topi (fun x1_9 ex1_9 => ?_)
          replace hv := hv x1_9 ex1_9
          refine lv_istore_n (lv' := [(1, .int x1_9), (3, .int x3), (2, .int x2), (0, .ref a_M)]) hx hb dX5_fills_52 rfl hl (by decide) rfl (fun ls hl => ?_)
          obtain ⟨x3_10, ex3_10⟩ : ∃ y : Int32, y = x3 + 1 := ⟨_, rfl⟩
          replace hv := hv x3_10 ex3_10
          refine lv_iinc (v := x3_10) (lv' := [(3, .int x3_10), (1, .int x1_9), (2, .int x2), (0, .ref a_M)]) hx hb dX5_fills_53 hl (k := 1) rfl (by rw [ex3_10]; rfl) (by decide) rfl (fun ls hl => ?_)
          refine lv_goto (tgt := 18) hx hb dX5_fills_56 (by decide) ?_
          exact hv _ _ _ hP hD hS (lv_sub hl [0, 2, 1, 3] rfl)
  replace hv := hv G1 G2 hs1 hs2
  rw [hG1, hG2] at hv
  unfold vc_X5_fills_0 at hv
  refine lv_aload_n hx hb dX5_fills_0 rfl (lv_at hl 0 rfl) ?_
  refine cx_vV (wr := []) (As := []) (rest := []) ⟨hx, hb, hml, hown, hts⟩ (c_X5_fill l g a_M a_M_a a_M_rowAt a_M_places a_M_rights a_M_weights a_M_pivots a_M_lower a_M_solution a_M_work a_M_isJoined a_M_stored M_thrown M_n M_hasFactors M_hasSolution M_levels M_a M_isJoined M_rowAt hv) (cx_cwV 0 hts cw_m_X5_116 cw_i_X5_fill cw_s_X5_fill cw_n_X5 cw_c_X5_fill rfl rfl (by decide +kernel) ⟨Nat.le_of_ble_eq_true rfl, Nat.le_of_ble_eq_true rfl⟩) hK hP hD hS hA 0 5 rfl rfl [0, 1, 2, 3] [] rfl rfl rfl rfl (by decide) rfl hl.1 rfl (Nat.le_of_ble_eq_true rfl) dX5_fills_1 ⟨Nat.le_of_ble_eq_true rfl, Nat.le_of_ble_eq_true rfl⟩ (fun w_3 H locs hv hP hD hS => ?_)
  obtain ⟨u_2, rfl⟩ : ∃ z, z = w_3 := ⟨_, rfl⟩
  have hP : va_P g.1 vwCl [(a_M, .inr (5, [.int M_thrown, .int M_n, .ref a_M_a, .ref a_M_rowAt, .ref a_M_places, .ref a_M_rights, .ref a_M_weights, .int M_hasFactors, .ref a_M_pivots, .ref a_M_lower, .int M_hasSolution, .ref a_M_solution, .ref a_M_work, .ref a_M_isJoined, .int M_levels, .ref a_M_stored])), (a_M_a, .inl (g.2.1, 256, .inl M_a)), (a_M_isJoined, .inl (g.2.2.1, 256, .inl u_2)), (a_M_rowAt, .inl (g.2.1, 16, .inl M_rowAt))] H := hP.sub [0, 1, 2, 3] rfl
  have hD : va_D A [(a_M, .inr (5, [.int M_thrown, .int M_n, .ref a_M_a, .ref a_M_rowAt, .ref a_M_places, .ref a_M_rights, .ref a_M_weights, .int M_hasFactors, .ref a_M_pivots, .ref a_M_lower, .int M_hasSolution, .ref a_M_solution, .ref a_M_work, .ref a_M_isJoined, .int M_levels, .ref a_M_stored])), (a_M_a, .inl (g.2.1, 256, .inl M_a)), (a_M_isJoined, .inl (g.2.2.1, 256, .inl u_2)), (a_M_rowAt, .inl (g.2.1, 16, .inl M_rowAt))] := hD.sub [0, 1, 2, 3] (by decide) rfl
  refine lv_iconst (v := 0) hx hb dX5_fills_4 (by decide) ?_
  refine lv_istore_n (lv' := [(1, .int 0), (0, .ref a_M)]) hx hb dX5_fills_5 rfl hl (by decide) rfl (fun ls hl => ?_)
  refine lv_iconst (v := 0) hx hb dX5_fills_6 (by decide) ?_
  refine lv_istore_n (lv' := [(2, .int 0), (1, .int 0), (0, .ref a_M)]) hx hb dX5_fills_7 rfl hl (by decide) rfl (fun ls hl => ?_)
  exact hv _ _ _ hP hD hS (lv_sub hl [0, 1, 2] rfl)
