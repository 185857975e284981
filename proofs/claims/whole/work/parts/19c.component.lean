def wp_X4_component (i_i : Int32) (X_solved : Int32) (X_levelCount : Int32) (P_rows : Int32) (X_solution : (Nat → Int32)) (Q : Int32 → Prop) (X : String → Prop)   : Prop := wp_X4_needRow i_i X_solved X_levelCount P_rows ((X_solved = 0 → (X xNSE)) ∧ (¬ X_solved = 0 → (vp_in i_i 16 ∧ (Q (X_solution (Int32.toNatClampNeg i_i)))))) X
abbrev w0_X4_component (g : cx_G) (a_X a_P a_X_levels a_E a_F a_R a_X_vector a_X_solution a_P_entries a_P_order a_P_places a_P_rights a_P_weights : Nat) (X_solved : Int32) (X_levelCount : Int32) (P_rows : Int32) (X_solution : (Nat → Int32)) : va_W := [(a_X, .inr (4, [.ref a_P, .ref a_X_levels, .ref a_E, .ref a_F, .ref a_R, .ref a_X_vector, .ref a_X_solution, .int X_solved, .int X_levelCount])), (a_P, .inr (2, [.int P_rows, .ref a_P_entries, .ref a_P_order, .ref a_P_places, .ref a_P_rights, .ref a_P_weights])), (a_X_solution, .inl (g.2.1, 16, .inl X_solution))]
set_option maxHeartbeats 4000000 in
set_option maxRecDepth 100000 in
theorem c_X4_component (l : Launch) (hlt : l.stackTraces = false) (g : cx_G) (a_X a_P a_X_levels a_E a_F a_R a_X_vector a_X_solution a_P_entries a_P_order a_P_places a_P_rights a_P_weights : Nat) (i_i : Int32) (X_solved : Int32) (X_levelCount : Int32) (P_rows : Int32) (X_solution : (Nat → Int32)) {Q : Int32 → Prop} {X : String → Prop} (hv : wp_X4_component i_i X_solved X_levelCount P_rows X_solution Q X) : cx_Ei l g yX4_component (Cond.code yX4_component cX4_component 2 (some .int) :: cx_T) ({ frames := 7, cells := 2, slots := 12, locals := 111 } : Room) [.ref a_X, .int i_i] (w0_X4_component g a_X a_P a_X_levels a_E a_F a_R a_X_vector a_X_solution a_P_entries a_P_order a_P_places a_P_rights a_P_weights X_solved X_levelCount P_rows X_solution) (fun (r : Int32) (_ : Unit) => Q r) (fun _ : Unit => (w0_X4_component g a_X a_P a_X_levels a_E a_F a_R a_X_vector a_X_solution a_P_entries a_P_order a_P_places a_P_rights a_P_weights X_solved X_levelCount P_rows X_solution)) X 2 12 := by
  intro sz
  refine vx_ofW (cc := cX4_component) (maxL := 2) (ret := (some .int)) (by decide) rfl ?_
  intro p e s m args below meth c s₁ B hml htab hpre
  obtain ⟨rfl, hsz, hP, hK, hD0, hKX, hZ⟩ := hpre
  have hx := B.exec
  have hb := B.bytes
  have hr := B.returns
  have hts0 := atoms_spec (ws := (Cond.code yX4_component cX4_component 2 (some .int) :: cx_T)) B.pre
  have hts : ∀ w ∈ cx_T, w.before _ s = true := fun w h => hts0 w (List.mem_cons_of_mem _ h)
  have hown : s.vm.findClass RX4 = some m.cls := findClass_of_methodNamed B.named
  have hlocks := B.notSynchronized
  subst hsz
  have hD := hD0.self (sz := s.heap.size)
  obtain ⟨A, hAe⟩ : ∃ A : Nat → Prop, A = va_A (w0_X4_component g a_X a_P a_X_levels a_E a_F a_R a_X_vector a_X_solution a_P_entries a_P_order a_P_places a_P_rights a_P_weights X_solved X_levelCount P_rows X_solution) s.heap.size := ⟨_, rfl⟩
  rw [← hAe] at hD hZ
  have hA : ∀ q : Nat, s.heap.size ≤ q → A q := fun q h => by rw [hAe]; exact Or.inr h
  have hS : va_S A s.heap s.heap [] := va_S.rf
  have hP : va_P g.1 vwCl [(a_X, .inr (4, [.ref a_P, .ref a_X_levels, .ref a_E, .ref a_F, .ref a_R, .ref a_X_vector, .ref a_X_solution, .int X_solved, .int X_levelCount])), (a_P, .inr (2, [.int P_rows, .ref a_P_entries, .ref a_P_order, .ref a_P_places, .ref a_P_rights, .ref a_P_weights])), (a_X_solution, .inl (g.2.1, 16, .inl X_solution))] s.heap := hP
  have hD : va_D A [(a_X, .inr (4, [.ref a_P, .ref a_X_levels, .ref a_E, .ref a_F, .ref a_R, .ref a_X_vector, .ref a_X_solution, .int X_solved, .int X_levelCount])), (a_P, .inr (2, [.int P_rows, .ref a_P_entries, .ref a_P_order, .ref a_P_places, .ref a_P_rights, .ref a_P_weights])), (a_X_solution, .inl (g.2.1, 16, .inl X_solution))] := hD
  have hl := lv_entry ([.ref a_X, .int i_i]) (n := 2) (Nat.le_of_ble_eq_true rfl)
  rw [lg_entry_eq]
  generalize (lg_sl ([.ref a_X, .int i_i]) ++ List.replicate (2 - (lg_sl ([.ref a_X, .int i_i])).length) Slot.unset).toArray = ls at hl ⊢
  have hl : lv_has ls 2 [(0, .ref a_X), (1, .int i_i)] := hl
  unfold wp_X4_component at hv
  refine lv_aload_n hx hb dX4_component_0 rfl (lv_at hl 0 rfl) ?_
  refine lv_iload_n hx hb dX4_component_1 rfl (lv_at hl 1 rfl) ?_
  refine cx_vVp (As := [.int i_i]) (rest := []) ⟨hx, hb, hml, hown, hts⟩ (c_X4_needRow l hlt g a_X a_P a_X_levels a_E a_F a_R a_X_vector a_X_solution a_P_entries a_P_order a_P_places a_P_rights a_P_weights i_i X_solved X_levelCount P_rows hv) (cx_cwV 1 hts cw_m_X4_73 cw_i_X4_needRow cw_s_X4_needRow cw_n_X4 cw_c_X4_needRow rfl rfl (by decide +kernel) ⟨Nat.le_of_ble_eq_true rfl, Nat.le_of_ble_eq_true rfl⟩) hK hKX hZ hAe htab hlocks hP hD hS hA 0 4 rfl rfl [0, 1] rfl rfl rfl hl.1 rfl (Nat.le_of_ble_eq_true rfl) dX4_component_2 ⟨Nat.le_of_ble_eq_true rfl, Nat.le_of_ble_eq_true rfl⟩ (Nat.le_of_ble_eq_true rfl) (Nat.le_of_ble_eq_true rfl) (fun H locs hv hP hS => ?_)
  refine W.widen (k := 1) (n := 6) (Nat.le_of_ble_eq_true rfl) (Nat.le_of_ble_eq_true rfl) ?_
  refine lv_aload_n hx hb dX4_component_5 rfl (lv_at hl 0 rfl) ?_
  refine va_get (D := g.1) (ci := 4) (v := .int X_solved) (C := RX4) (T := TX4) (N := 9) hx hb hts cw_in_X4 hown hK.1 hP 0 rfl rfl 7 (by decide) (hts _ cw_f_X4_48) (fun _ h9 => h9) rfl dX4_component_6 ?_
  refine lv_if_ne (tgt := 22) hx hb dX4_component_9 (by decide) (fun hc => ?_) (fun hc => ?_)
  · replace hv := hv.2 hc
    refine lv_aload_n hx hb dX4_component_22 rfl (lv_at hl 0 rfl) ?_
    refine va_get (D := g.1) (ci := 4) (v := .ref a_X_solution) (C := RX4) (T := TX4) (N := 9) hx hb hts cw_in_X4 hown hK.1 hP 0 rfl rfl 6 (by decide) (hts _ cw_f_X4_45) (fun _ h9 => h9) rfl dX4_component_23 ?_
    refine lv_iload_n hx hb dX4_component_26 rfl (lv_at hl 1 rfl) ?_
    obtain ⟨h_1, hv⟩ := hv
    refine va_iald (D := g.1) hx hb hK.1 hP 2 0 rfl rfl h_1 dX4_component_27 ?_
    refine W.widen (k := 2) (n := 12) (Nat.le_of_ble_eq_true rfl) (Nat.le_of_ble_eq_true rfl) ?_
    exact vx_ret (cx_iret hx hb hr hlocks hAe hS () hv hP hD dX4_component_28)
  · replace hv := hv.1 hc
    exact cx_throwN hx hb hlt hown (hts _ cw_y_X4_184) (hts _ cw_n_NoSuchElementException) hKX 6 rfl (cx_at_NSE hts hKX) hZ hAe hS hP (hl.1.trans hml.symm) dX4_component_12 dX4_component_15 dX4_component_16 dX4_component_18 dX4_component_21 htab (Nat.le_of_ble_eq_true rfl) (Nat.le_of_ble_eq_true rfl) (Nat.le_of_ble_eq_true rfl) (Nat.le_of_ble_eq_true rfl) hlocks hv (Nat.le_of_ble_eq_true rfl) (Nat.le_of_ble_eq_true rfl)
def wp_L_component (i_a : Int32) (X_solved : Int32) (X_levelCount : Int32) (P_rows : Int32) (X_solution : (Nat → Int32)) (out : (Nat → Int64)) (Q : Int32 → (Nat → Int64) → Prop)   : Prop := wp_X4_component i_a X_solved X_levelCount P_rows X_solution (fun r_1 => Q 0 (vp_updL out (Int32.toNatClampNeg 0) (Int32.toInt64 r_1))) (fun E => (E = xIOB ∧ (Q 1 out)) ∨ (E = xNSE ∧ (Q 2 out)))
abbrev w0_L_component (g : cx_G) (a_X a_out a_P a_X_levels a_E a_F a_R a_X_vector a_X_solution a_P_entries a_P_order a_P_places a_P_rights a_P_weights : Nat) (X_solved : Int32) (X_levelCount : Int32) (P_rows : Int32) (X_solution : (Nat → Int32)) (out : (Nat → Int64)) : va_W := [(a_X, .inr (4, [.ref a_P, .ref a_X_levels, .ref a_E, .ref a_F, .ref a_R, .ref a_X_vector, .ref a_X_solution, .int X_solved, .int X_levelCount])), (a_P, .inr (2, [.int P_rows, .ref a_P_entries, .ref a_P_order, .ref a_P_places, .ref a_P_rights, .ref a_P_weights])), (a_X_solution, .inl (g.2.1, 16, .inl X_solution)), (a_out, .inl (g.2.2.2.1, 1, .inr (.inl out)))]
abbrev w1_L_component (g : cx_G) (a_X a_out a_P a_X_levels a_E a_F a_R a_X_vector a_X_solution a_P_entries a_P_order a_P_places a_P_rights a_P_weights : Nat) (X_solved : Int32) (X_levelCount : Int32) (P_rows : Int32) (X_solution : (Nat → Int32)) (out : (Nat → Int64)) (u : (Nat → Int64)) : va_W := [(a_X, .inr (4, [.ref a_P, .ref a_X_levels, .ref a_E, .ref a_F, .ref a_R, .ref a_X_vector, .ref a_X_solution, .int X_solved, .int X_levelCount])), (a_P, .inr (2, [.int P_rows, .ref a_P_entries, .ref a_P_order, .ref a_P_places, .ref a_P_rights, .ref a_P_weights])), (a_X_solution, .inl (g.2.1, 16, .inl X_solution)), (a_out, .inl (g.2.2.2.1, 1, .inr (.inl u)))]
set_option maxHeartbeats 4000000 in
set_option maxRecDepth 100000 in
theorem c_L_component (l : Launch) (hlt : l.stackTraces = false) (g : cx_G) (a_X a_out a_P a_X_levels a_E a_F a_R a_X_vector a_X_solution a_P_entries a_P_order a_P_places a_P_rights a_P_weights : Nat) (i_a : Int32) (X_solved : Int32) (X_levelCount : Int32) (P_rows : Int32) (X_solution : (Nat → Int32)) (out : (Nat → Int64)) {Q : Int32 → (Nat → Int64) → Prop} (hv : wp_L_component i_a X_solved X_levelCount P_rows X_solution out Q) : cx_Hi l g yL_component (Cond.codeWith yL_component cL_component 4 (some .int) [(0, 9, 12, 19), (0, 9, 15, 80)] :: cx_T) ({ frames := 8, cells := 2, slots := 12, locals := 132 } : Room) [.ref a_X, .int i_a, .ref a_out] (w0_L_component g a_X a_out a_P a_X_levels a_E a_F a_R a_X_vector a_X_solution a_P_entries a_P_order a_P_places a_P_rights a_P_weights X_solved X_levelCount P_rows X_solution out) (fun (r : Int32) (u : (Nat → Int64)) => Q r u) (w1_L_component g a_X a_out a_P a_X_levels a_E a_F a_R a_X_vector a_X_solution a_P_entries a_P_order a_P_places a_P_rights a_P_weights X_solved X_levelCount P_rows X_solution out) 2 12 := by
  intro sz
  refine cx_ofWH (hh := [(0, 9, 12, 19), (0, 9, 15, 80)]) (cc := cL_component) (maxL := 4) (ret := (some .int)) (by decide) rfl ?_
  intro p e s m args below meth c s₁ B hml hpre
  obtain ⟨rfl, hsz, hP, hK, hD0, hKX, hZ⟩ := hpre
  have hx := B.exec
  have hb := B.bytes
  have hr := B.returns
  have hts0 := atoms_spec (ws := (Cond.codeWith yL_component cL_component 4 (some .int) [(0, 9, 12, 19), (0, 9, 15, 80)] :: cx_T)) B.pre
  have hts : ∀ w ∈ cx_T, w.before _ s = true := fun w h => hts0 w (List.mem_cons_of_mem _ h)
  have hown : s.vm.findClass RL = some m.cls := findClass_of_methodNamed B.named
  have hlocks := B.notSynchronized
  subst hsz
  have htabl : c.exceptionTable.toList = tableOf [(0, 9, 12, 19), (0, 9, 15, 80)] := vx_table (x := yL_component) B (hts0 _ List.mem_cons_self)
  have hD := hD0.self (sz := s.heap.size)
  obtain ⟨A, hAe⟩ : ∃ A : Nat → Prop, A = va_A (w0_L_component g a_X a_out a_P a_X_levels a_E a_F a_R a_X_vector a_X_solution a_P_entries a_P_order a_P_places a_P_rights a_P_weights X_solved X_levelCount P_rows X_solution out) s.heap.size := ⟨_, rfl⟩
  rw [← hAe] at hD hZ
  have hA : ∀ q : Nat, s.heap.size ≤ q → A q := fun q h => by rw [hAe]; exact Or.inr h
  have hS : va_S A s.heap s.heap [] := va_S.rf
  have hP : va_P g.1 vwCl [(a_X, .inr (4, [.ref a_P, .ref a_X_levels, .ref a_E, .ref a_F, .ref a_R, .ref a_X_vector, .ref a_X_solution, .int X_solved, .int X_levelCount])), (a_P, .inr (2, [.int P_rows, .ref a_P_entries, .ref a_P_order, .ref a_P_places, .ref a_P_rights, .ref a_P_weights])), (a_X_solution, .inl (g.2.1, 16, .inl X_solution)), (a_out, .inl (g.2.2.2.1, 1, .inr (.inl out)))] s.heap := hP
  have hD : va_D A [(a_X, .inr (4, [.ref a_P, .ref a_X_levels, .ref a_E, .ref a_F, .ref a_R, .ref a_X_vector, .ref a_X_solution, .int X_solved, .int X_levelCount])), (a_P, .inr (2, [.int P_rows, .ref a_P_entries, .ref a_P_order, .ref a_P_places, .ref a_P_rights, .ref a_P_weights])), (a_X_solution, .inl (g.2.1, 16, .inl X_solution)), (a_out, .inl (g.2.2.2.1, 1, .inr (.inl out)))] := hD
  have hl := lv_entry ([.ref a_X, .int i_a, .ref a_out]) (n := 4) (Nat.le_of_ble_eq_true rfl)
  rw [lg_entry_eq]
  generalize (lg_sl ([.ref a_X, .int i_a, .ref a_out]) ++ List.replicate (4 - (lg_sl ([.ref a_X, .int i_a, .ref a_out])).length) Slot.unset).toArray = ls at hl ⊢
  have hl : lv_has ls 4 [(0, .ref a_X), (1, .int i_a), (2, .ref a_out)] := hl
  unfold wp_L_component at hv
  refine lv_aload_n hx hb dL_component_0 rfl (lv_at hl 2 rfl) ?_
  refine lv_iconst (v := 0) hx hb dL_component_1 (by decide) ?_
  refine lv_aload_n hx hb dL_component_2 rfl (lv_at hl 0 rfl) ?_
  refine lv_iload_n hx hb dL_component_3 rfl (lv_at hl 1 rfl) ?_
  refine cx_iVh (wr := [(a_out, .inl (g.2.2.2.1, 1, .inr (.inl out)))]) (As := [.int i_a]) (rest := [.int 0, .ref a_out]) ⟨hx, hb, hml, hown, hts⟩ (c_X4_component l hlt g a_X a_P a_X_levels a_E a_F a_R a_X_vector a_X_solution a_P_entries a_P_order a_P_places a_P_rights a_P_weights i_a X_solved X_levelCount P_rows X_solution hv) (cx_cwV 1 hts cw_m_L_77 cw_i_X4_component cw_s_X4_component cw_n_X4 cw_c_X4_component rfl rfl (by decide +kernel) ⟨Nat.le_of_ble_eq_true rfl, Nat.le_of_ble_eq_true rfl⟩) hK hKX hZ hP hD hS hA 0 4 rfl rfl [0, 1, 2] [3] rfl rfl rfl rfl (by decide) rfl hl.1 rfl (Nat.le_of_ble_eq_true rfl) dL_component_4 ⟨Nat.le_of_ble_eq_true rfl, Nat.le_of_ble_eq_true rfl⟩ (fun E ce q9 H locs hv hP hS hce hcv hcl => ?_) (fun r_1 w_2 H locs hv hP hD hS => ?_)
  · rcases hv with ⟨rfl, hv⟩ | ⟨rfl, hv⟩
    · refine vx_catch hown [] ⟨0, 9, 12, 19⟩ [⟨0, 9, 15, 80⟩] (htabl.trans rfl) (fun z hz => nomatch hz) (by decide) (by decide) (hts _ cw_y_L_19) (hKX.cast 1 rfl) hce hcv hcl ?_
      refine W.widen (k := 2) (n := 12) (Nat.le_of_ble_eq_true rfl) (Nat.le_of_ble_eq_true rfl) ?_
      refine lv_astore_n (lv' := [(3, .ref q9), (0, .ref a_X), (1, .int i_a), (2, .ref a_out)]) hx hb dL_component_12 rfl hl (by decide) rfl (fun ls hl => ?_)
      refine lv_iconst (v := 1) hx hb dL_component_13 (by decide) ?_
      exact cx_iret hx hb hr hlocks hAe hS out hv hP hD dL_component_14
    · refine vx_catch hown [⟨0, 9, 12, 19⟩] ⟨0, 9, 15, 80⟩ [] (htabl.trans rfl) (fun z hz => by simp only [List.mem_cons, List.not_mem_nil, or_false] at hz; subst hz; exact Or.inr ⟨by decide, xIOB, hts _ cw_y_L_19, hKX.2.2 (xNSE, xIOB) (by decide)⟩) (by decide) (by decide) (hts _ cw_y_L_80) (hKX.cast 3 rfl) hce hcv hcl ?_
      refine W.widen (k := 2) (n := 12) (Nat.le_of_ble_eq_true rfl) (Nat.le_of_ble_eq_true rfl) ?_
      refine lv_astore_n (lv' := [(3, .ref q9), (0, .ref a_X), (1, .int i_a), (2, .ref a_out)]) hx hb dL_component_15 rfl hl (by decide) rfl (fun ls hl => ?_)
      refine lv_iconst (v := 2) hx hb dL_component_16 (by decide) ?_
      exact cx_iret hx hb hr hlocks hAe hS out hv hP hD dL_component_17
  · refine W.widen (k := 2) (n := 12) (Nat.le_of_ble_eq_true rfl) (Nat.le_of_ble_eq_true rfl) ?_
    have hP : va_P g.1 vwCl [(a_X, .inr (4, [.ref a_P, .ref a_X_levels, .ref a_E, .ref a_F, .ref a_R, .ref a_X_vector, .ref a_X_solution, .int X_solved, .int X_levelCount])), (a_P, .inr (2, [.int P_rows, .ref a_P_entries, .ref a_P_order, .ref a_P_places, .ref a_P_rights, .ref a_P_weights])), (a_X_solution, .inl (g.2.1, 16, .inl X_solution)), (a_out, .inl (g.2.2.2.1, 1, .inr (.inl out)))] H := hP.sub [1, 2, 3, 0] rfl
    have hD : va_D A [(a_X, .inr (4, [.ref a_P, .ref a_X_levels, .ref a_E, .ref a_F, .ref a_R, .ref a_X_vector, .ref a_X_solution, .int X_solved, .int X_levelCount])), (a_P, .inr (2, [.int P_rows, .ref a_P_entries, .ref a_P_order, .ref a_P_places, .ref a_P_rights, .ref a_P_weights])), (a_X_solution, .inl (g.2.1, 16, .inl X_solution)), (a_out, .inl (g.2.2.2.1, 1, .inr (.inl out)))] := hD.sub [1, 2, 3, 0] (by decide +kernel) rfl
    refine lv_i2l hx hb dL_component_7 rfl ?_
    have h_3 : vp_in 0 1 := by unfold vp_in; decide +kernel
    refine va_last (D := g.1) hx hb hK.1 hP hD hS 3 2 rfl rfl h_3 dL_component_8 (fun H locs hP hD hS => ?_)
    have hP : va_P g.1 vwCl [(a_X, .inr (4, [.ref a_P, .ref a_X_levels, .ref a_E, .ref a_F, .ref a_R, .ref a_X_vector, .ref a_X_solution, .int X_solved, .int X_levelCount])), (a_P, .inr (2, [.int P_rows, .ref a_P_entries, .ref a_P_order, .ref a_P_places, .ref a_P_rights, .ref a_P_weights])), (a_X_solution, .inl (g.2.1, 16, .inl X_solution)), (a_out, .inl (g.2.2.2.1, 1, .inr (.inl (vp_updL out (Int32.toNatClampNeg 0) (Int32.toInt64 r_1)))))] H := hP
    have hD : va_D A [(a_X, .inr (4, [.ref a_P, .ref a_X_levels, .ref a_E, .ref a_F, .ref a_R, .ref a_X_vector, .ref a_X_solution, .int X_solved, .int X_levelCount])), (a_P, .inr (2, [.int P_rows, .ref a_P_entries, .ref a_P_order, .ref a_P_places, .ref a_P_rights, .ref a_P_weights])), (a_X_solution, .inl (g.2.1, 16, .inl X_solution)), (a_out, .inl (g.2.2.2.1, 1, .inr (.inl (vp_updL out (Int32.toNatClampNeg 0) (Int32.toInt64 r_1)))))] := hD
    refine lv_goto (tgt := 18) hx hb dL_component_9 (by decide) ?_
    refine lv_iconst (v := 0) hx hb dL_component_18 (by decide) ?_
    exact cx_iret hx hb hr hlocks hAe hS (vp_updL out (Int32.toNatClampNeg 0) (Int32.toInt64 r_1)) hv hP hD dL_component_19
