def wp_X4_needRow (i_i : Int32) (X_solved : Int32) (X_levelCount : Int32) (P_rows : Int32) (Q : Prop) (X : String → Prop)   : Prop := (i_i < 0 → (X xIOB)) ∧ (¬ i_i < 0 → ((i_i < P_rows → (Q)) ∧ (¬ i_i < P_rows → (X xIOB))))
abbrev w0_X4_needRow (g : cx_G) (a_X a_P a_X_levels a_E a_F a_R a_X_vector a_X_solution a_P_entries a_P_order a_P_places a_P_rights a_P_weights : Nat) (X_solved : Int32) (X_levelCount : Int32) (P_rows : Int32) : va_W := [(a_X, .inr (4, [.ref a_P, .ref a_X_levels, .ref a_E, .ref a_F, .ref a_R, .ref a_X_vector, .ref a_X_solution, .int X_solved, .int X_levelCount])), (a_P, .inr (2, [.int P_rows, .ref a_P_entries, .ref a_P_order, .ref a_P_places, .ref a_P_rights, .ref a_P_weights]))]
set_option maxHeartbeats 4000000 in
set_option maxRecDepth 100000 in
theorem c_X4_needRow (l : Launch) (hlt : l.stackTraces = false) (g : cx_G) (a_X a_P a_X_levels a_E a_F a_R a_X_vector a_X_solution a_P_entries a_P_order a_P_places a_P_rights a_P_weights : Nat) (i_i : Int32) (X_solved : Int32) (X_levelCount : Int32) (P_rows : Int32) {Q : Prop} {X : String → Prop} (hv : wp_X4_needRow i_i X_solved X_levelCount P_rows Q X) : cx_Ev l g yX4_needRow (Cond.code yX4_needRow cX4_needRow 2 none :: cx_T) ({ frames := 6, cells := 1, slots := 6, locals := 90 } : Room) [.ref a_X, .int i_i] (w0_X4_needRow g a_X a_P a_X_levels a_E a_F a_R a_X_vector a_X_solution a_P_entries a_P_order a_P_places a_P_rights a_P_weights X_solved X_levelCount P_rows) (fun (_ : Unit) => Q) (fun _ : Unit => (w0_X4_needRow g a_X a_P a_X_levels a_E a_F a_R a_X_vector a_X_solution a_P_entries a_P_order a_P_places a_P_rights a_P_weights X_solved X_levelCount P_rows)) X 1 6 := by
  intro sz
  refine vx_ofW (cc := cX4_needRow) (maxL := 2) (ret := none) (by decide) rfl ?_
  intro p e s m args below meth c s₁ B hml htab hpre
  obtain ⟨rfl, hsz, hP, hK, hD0, hKX, hZ⟩ := hpre
  have hx := B.exec
  have hb := B.bytes
  have hr := B.returns
  have hts0 := atoms_spec (ws := (Cond.code yX4_needRow cX4_needRow 2 none :: cx_T)) B.pre
  have hts : ∀ w ∈ cx_T, w.before _ s = true := fun w h => hts0 w (List.mem_cons_of_mem _ h)
  have hown : s.vm.findClass RX4 = some m.cls := findClass_of_methodNamed B.named
  have hlocks := B.notSynchronized
  subst hsz
  have hD := hD0.self (sz := s.heap.size)
  obtain ⟨A, hAe⟩ : ∃ A : Nat → Prop, A = va_A (w0_X4_needRow g a_X a_P a_X_levels a_E a_F a_R a_X_vector a_X_solution a_P_entries a_P_order a_P_places a_P_rights a_P_weights X_solved X_levelCount P_rows) s.heap.size := ⟨_, rfl⟩
  rw [← hAe] at hD hZ
  have hA : ∀ q : Nat, s.heap.size ≤ q → A q := fun q h => by rw [hAe]; exact Or.inr h
  have hS : va_S A s.heap s.heap [] := va_S.rf
  have hP : va_P g.1 vwCl [(a_X, .inr (4, [.ref a_P, .ref a_X_levels, .ref a_E, .ref a_F, .ref a_R, .ref a_X_vector, .ref a_X_solution, .int X_solved, .int X_levelCount])), (a_P, .inr (2, [.int P_rows, .ref a_P_entries, .ref a_P_order, .ref a_P_places, .ref a_P_rights, .ref a_P_weights]))] s.heap := hP
  have hD : va_D A [(a_X, .inr (4, [.ref a_P, .ref a_X_levels, .ref a_E, .ref a_F, .ref a_R, .ref a_X_vector, .ref a_X_solution, .int X_solved, .int X_levelCount])), (a_P, .inr (2, [.int P_rows, .ref a_P_entries, .ref a_P_order, .ref a_P_places, .ref a_P_rights, .ref a_P_weights]))] := hD
  have hl := lv_entry ([.ref a_X, .int i_i]) (n := 2) (Nat.le_of_ble_eq_true rfl)
  rw [lg_entry_eq]
  generalize (lg_sl ([.ref a_X, .int i_i]) ++ List.replicate (2 - (lg_sl ([.ref a_X, .int i_i])).length) Slot.unset).toArray = ls at hl ⊢
  have hl : lv_has ls 2 [(0, .ref a_X), (1, .int i_i)] := hl
  unfold wp_X4_needRow at hv
  refine lv_iload_n hx hb dX4_needRow_0 rfl (lv_at hl 1 rfl) ?_
  refine lv_if_lt (tgt := 15) hx hb dX4_needRow_1 (by decide) (fun hc => ?_) (fun hc => ?_)
  · replace hv := hv.1 hc
    exact cx_throwS hx hb hlt hown (by decide +kernel) (hts _ cw_y_X4_208) (hts _ cw_n_IndexOutOfBoundsException) hKX 1 rfl (cx_at_IOB hts hKX) (by decide +kernel) hZ hAe hS hP (hl.1.trans hml.symm) dX4_needRow_15 dX4_needRow_18 dX4_needRow_19 dX4_needRow_21 dX4_needRow_24 htab (Nat.le_of_ble_eq_true rfl) (Nat.le_of_ble_eq_true rfl) (Nat.le_of_ble_eq_true rfl) (Nat.le_of_ble_eq_true rfl) hlocks hv (Nat.le_of_ble_eq_true rfl) (Nat.le_of_ble_eq_true rfl)
  · replace hv := hv.2 hc
    refine lv_iload_n hx hb dX4_needRow_4 rfl (lv_at hl 1 rfl) ?_
    refine lv_aload_n hx hb dX4_needRow_5 rfl (lv_at hl 0 rfl) ?_
    refine va_get (D := g.1) (ci := 4) (v := .ref a_P) (C := RX4) (T := TX4) (N := 9) hx hb hts cw_in_X4 hown hK.1 hP 0 rfl rfl 0 (by decide) (hts _ cw_f_X4_10) (fun _ h9 => h9) rfl dX4_needRow_6 ?_
    refine va_get (D := g.1) (ci := 2) (v := .int P_rows) (C := RX2) (T := TX2) (N := 6) hx hb hts cw_in_X2 hown hK.1 hP 1 rfl rfl 0 (by decide) (hts _ cw_f_X4_70) (fun _ h9 => h9) rfl dX4_needRow_9 ?_
    refine lv_icmp_lt (tgt := 25) hx hb dX4_needRow_12 (by decide) (fun hc => ?_) (fun hc => ?_)
    · replace hv := hv.1 hc
      refine W.widen (k := 1) (n := 6) (Nat.le_of_ble_eq_true rfl) (Nat.le_of_ble_eq_true rfl) ?_
      exact vx_ret (cx_vret hx hb hr hlocks hAe hS () hv hP hD dX4_needRow_25)
    · replace hv := hv.2 hc
      exact cx_throwS hx hb hlt hown (by decide +kernel) (hts _ cw_y_X4_208) (hts _ cw_n_IndexOutOfBoundsException) hKX 1 rfl (cx_at_IOB hts hKX) (by decide +kernel) hZ hAe hS hP (hl.1.trans hml.symm) dX4_needRow_15 dX4_needRow_18 dX4_needRow_19 dX4_needRow_21 dX4_needRow_24 htab (Nat.le_of_ble_eq_true rfl) (Nat.le_of_ble_eq_true rfl) (Nat.le_of_ble_eq_true rfl) (Nat.le_of_ble_eq_true rfl) hlocks hv (Nat.le_of_ble_eq_true rfl) (Nat.le_of_ble_eq_true rfl)
def wp_X4_needPosition (i_p : Int32) (X_solved : Int32) (X_levelCount : Int32) (P_rows : Int32) (Q : Prop) (X : String → Prop)   : Prop := (i_p < 0 → (X xIOB)) ∧ (¬ i_p < 0 → ((i_p < P_rows → (Q)) ∧ (¬ i_p < P_rows → (X xIOB))))
abbrev w0_X4_needPosition (g : cx_G) (a_X a_P a_X_levels a_E a_F a_R a_X_vector a_X_solution a_P_entries a_P_order a_P_places a_P_rights a_P_weights : Nat) (X_solved : Int32) (X_levelCount : Int32) (P_rows : Int32) : va_W := [(a_X, .inr (4, [.ref a_P, .ref a_X_levels, .ref a_E, .ref a_F, .ref a_R, .ref a_X_vector, .ref a_X_solution, .int X_solved, .int X_levelCount])), (a_P, .inr (2, [.int P_rows, .ref a_P_entries, .ref a_P_order, .ref a_P_places, .ref a_P_rights, .ref a_P_weights]))]
set_option maxHeartbeats 4000000 in
set_option maxRecDepth 100000 in
theorem c_X4_needPosition (l : Launch) (hlt : l.stackTraces = false) (g : cx_G) (a_X a_P a_X_levels a_E a_F a_R a_X_vector a_X_solution a_P_entries a_P_order a_P_places a_P_rights a_P_weights : Nat) (i_p : Int32) (X_solved : Int32) (X_levelCount : Int32) (P_rows : Int32) {Q : Prop} {X : String → Prop} (hv : wp_X4_needPosition i_p X_solved X_levelCount P_rows Q X) : cx_Ev l g yX4_needPosition (Cond.code yX4_needPosition cX4_needPosition 2 none :: cx_T) ({ frames := 6, cells := 1, slots := 6, locals := 90 } : Room) [.ref a_X, .int i_p] (w0_X4_needPosition g a_X a_P a_X_levels a_E a_F a_R a_X_vector a_X_solution a_P_entries a_P_order a_P_places a_P_rights a_P_weights X_solved X_levelCount P_rows) (fun (_ : Unit) => Q) (fun _ : Unit => (w0_X4_needPosition g a_X a_P a_X_levels a_E a_F a_R a_X_vector a_X_solution a_P_entries a_P_order a_P_places a_P_rights a_P_weights X_solved X_levelCount P_rows)) X 1 6 := by
  intro sz
  refine vx_ofW (cc := cX4_needPosition) (maxL := 2) (ret := none) (by decide) rfl ?_
  intro p e s m args below meth c s₁ B hml htab hpre
  obtain ⟨rfl, hsz, hP, hK, hD0, hKX, hZ⟩ := hpre
  have hx := B.exec
  have hb := B.bytes
  have hr := B.returns
  have hts0 := atoms_spec (ws := (Cond.code yX4_needPosition cX4_needPosition 2 none :: cx_T)) B.pre
  have hts : ∀ w ∈ cx_T, w.before _ s = true := fun w h => hts0 w (List.mem_cons_of_mem _ h)
  have hown : s.vm.findClass RX4 = some m.cls := findClass_of_methodNamed B.named
  have hlocks := B.notSynchronized
  subst hsz
  have hD := hD0.self (sz := s.heap.size)
  obtain ⟨A, hAe⟩ : ∃ A : Nat → Prop, A = va_A (w0_X4_needPosition g a_X a_P a_X_levels a_E a_F a_R a_X_vector a_X_solution a_P_entries a_P_order a_P_places a_P_rights a_P_weights X_solved X_levelCount P_rows) s.heap.size := ⟨_, rfl⟩
  rw [← hAe] at hD hZ
  have hA : ∀ q : Nat, s.heap.size ≤ q → A q := fun q h => by rw [hAe]; exact Or.inr h
  have hS : va_S A s.heap s.heap [] := va_S.rf
  have hP : va_P g.1 vwCl [(a_X, .inr (4, [.ref a_P, .ref a_X_levels, .ref a_E, .ref a_F, .ref a_R, .ref a_X_vector, .ref a_X_solution, .int X_solved, .int X_levelCount])), (a_P, .inr (2, [.int P_rows, .ref a_P_entries, .ref a_P_order, .ref a_P_places, .ref a_P_rights, .ref a_P_weights]))] s.heap := hP
  have hD : va_D A [(a_X, .inr (4, [.ref a_P, .ref a_X_levels, .ref a_E, .ref a_F, .ref a_R, .ref a_X_vector, .ref a_X_solution, .int X_solved, .int X_levelCount])), (a_P, .inr (2, [.int P_rows, .ref a_P_entries, .ref a_P_order, .ref a_P_places, .ref a_P_rights, .ref a_P_weights]))] := hD
  have hl := lv_entry ([.ref a_X, .int i_p]) (n := 2) (Nat.le_of_ble_eq_true rfl)
  rw [lg_entry_eq]
  generalize (lg_sl ([.ref a_X, .int i_p]) ++ List.replicate (2 - (lg_sl ([.ref a_X, .int i_p])).length) Slot.unset).toArray = ls at hl ⊢
  have hl : lv_has ls 2 [(0, .ref a_X), (1, .int i_p)] := hl
  unfold wp_X4_needPosition at hv
  refine lv_iload_n hx hb dX4_needPosition_0 rfl (lv_at hl 1 rfl) ?_
  refine lv_if_lt (tgt := 15) hx hb dX4_needPosition_1 (by decide) (fun hc => ?_) (fun hc => ?_)
  · replace hv := hv.1 hc
    exact cx_throwS hx hb hlt hown (by decide +kernel) (hts _ cw_y_X4_208) (hts _ cw_n_IndexOutOfBoundsException) hKX 3 rfl (cx_at_IOB hts hKX) (by decide +kernel) hZ hAe hS hP (hl.1.trans hml.symm) dX4_needPosition_15 dX4_needPosition_18 dX4_needPosition_19 dX4_needPosition_21 dX4_needPosition_24 htab (Nat.le_of_ble_eq_true rfl) (Nat.le_of_ble_eq_true rfl) (Nat.le_of_ble_eq_true rfl) (Nat.le_of_ble_eq_true rfl) hlocks hv (Nat.le_of_ble_eq_true rfl) (Nat.le_of_ble_eq_true rfl)
  · replace hv := hv.2 hc
    refine lv_iload_n hx hb dX4_needPosition_4 rfl (lv_at hl 1 rfl) ?_
    refine lv_aload_n hx hb dX4_needPosition_5 rfl (lv_at hl 0 rfl) ?_
    refine va_get (D := g.1) (ci := 4) (v := .ref a_P) (C := RX4) (T := TX4) (N := 9) hx hb hts cw_in_X4 hown hK.1 hP 0 rfl rfl 0 (by decide) (hts _ cw_f_X4_10) (fun _ h9 => h9) rfl dX4_needPosition_6 ?_
    refine va_get (D := g.1) (ci := 2) (v := .int P_rows) (C := RX2) (T := TX2) (N := 6) hx hb hts cw_in_X2 hown hK.1 hP 1 rfl rfl 0 (by decide) (hts _ cw_f_X4_70) (fun _ h9 => h9) rfl dX4_needPosition_9 ?_
    refine lv_icmp_lt (tgt := 25) hx hb dX4_needPosition_12 (by decide) (fun hc => ?_) (fun hc => ?_)
    · replace hv := hv.1 hc
      refine W.widen (k := 1) (n := 6) (Nat.le_of_ble_eq_true rfl) (Nat.le_of_ble_eq_true rfl) ?_
      exact vx_ret (cx_vret hx hb hr hlocks hAe hS () hv hP hD dX4_needPosition_25)
    · replace hv := hv.2 hc
      exact cx_throwS hx hb hlt hown (by decide +kernel) (hts _ cw_y_X4_208) (hts _ cw_n_IndexOutOfBoundsException) hKX 3 rfl (cx_at_IOB hts hKX) (by decide +kernel) hZ hAe hS hP (hl.1.trans hml.symm) dX4_needPosition_15 dX4_needPosition_18 dX4_needPosition_19 dX4_needPosition_21 dX4_needPosition_24 htab (Nat.le_of_ble_eq_true rfl) (Nat.le_of_ble_eq_true rfl) (Nat.le_of_ble_eq_true rfl) (Nat.le_of_ble_eq_true rfl) hlocks hv (Nat.le_of_ble_eq_true rfl) (Nat.le_of_ble_eq_true rfl)
def wp_X4_needFactors (X_solved : Int32) (X_levelCount : Int32) (F_known : Int32) (F_rows : Int32) (Q : Prop) (X : String → Prop)   : Prop := (F_known = 0 → (X xISE)) ∧ (¬ F_known = 0 → (Q))
abbrev w0_X4_needFactors (g : cx_G) (a_X a_P a_X_levels a_E a_F a_R a_X_vector a_X_solution a_F_pivots a_F_reciprocals a_F_below : Nat) (X_solved : Int32) (X_levelCount : Int32) (F_known : Int32) (F_rows : Int32) : va_W := [(a_X, .inr (4, [.ref a_P, .ref a_X_levels, .ref a_E, .ref a_F, .ref a_R, .ref a_X_vector, .ref a_X_solution, .int X_solved, .int X_levelCount])), (a_F, .inr (1, [.int F_known, .int F_rows, .ref a_F_pivots, .ref a_F_reciprocals, .ref a_F_below]))]
set_option maxHeartbeats 4000000 in
set_option maxRecDepth 100000 in
theorem c_X4_needFactors (l : Launch) (hlt : l.stackTraces = false) (g : cx_G) (a_X a_P a_X_levels a_E a_F a_R a_X_vector a_X_solution a_F_pivots a_F_reciprocals a_F_below : Nat) (X_solved : Int32) (X_levelCount : Int32) (F_known : Int32) (F_rows : Int32) {Q : Prop} {X : String → Prop} (hv : wp_X4_needFactors X_solved X_levelCount F_known F_rows Q X) : cx_Ev l g yX4_needFactors (Cond.code yX4_needFactors cX4_needFactors 1 none :: cx_T) ({ frames := 6, cells := 1, slots := 6, locals := 90 } : Room) [.ref a_X] (w0_X4_needFactors g a_X a_P a_X_levels a_E a_F a_R a_X_vector a_X_solution a_F_pivots a_F_reciprocals a_F_below X_solved X_levelCount F_known F_rows) (fun (_ : Unit) => Q) (fun _ : Unit => (w0_X4_needFactors g a_X a_P a_X_levels a_E a_F a_R a_X_vector a_X_solution a_F_pivots a_F_reciprocals a_F_below X_solved X_levelCount F_known F_rows)) X 1 6 := by
  intro sz
  refine vx_ofW (cc := cX4_needFactors) (maxL := 1) (ret := none) (by decide) rfl ?_
  intro p e s m args below meth c s₁ B hml htab hpre
  obtain ⟨rfl, hsz, hP, hK, hD0, hKX, hZ⟩ := hpre
  have hx := B.exec
  have hb := B.bytes
  have hr := B.returns
  have hts0 := atoms_spec (ws := (Cond.code yX4_needFactors cX4_needFactors 1 none :: cx_T)) B.pre
  have hts : ∀ w ∈ cx_T, w.before _ s = true := fun w h => hts0 w (List.mem_cons_of_mem _ h)
  have hown : s.vm.findClass RX4 = some m.cls := findClass_of_methodNamed B.named
  have hlocks := B.notSynchronized
  subst hsz
  have hD := hD0.self (sz := s.heap.size)
  obtain ⟨A, hAe⟩ : ∃ A : Nat → Prop, A = va_A (w0_X4_needFactors g a_X a_P a_X_levels a_E a_F a_R a_X_vector a_X_solution a_F_pivots a_F_reciprocals a_F_below X_solved X_levelCount F_known F_rows) s.heap.size := ⟨_, rfl⟩
  rw [← hAe] at hD hZ
  have hA : ∀ q : Nat, s.heap.size ≤ q → A q := fun q h => by rw [hAe]; exact Or.inr h
  have hS : va_S A s.heap s.heap [] := va_S.rf
  have hP : va_P g.1 vwCl [(a_X, .inr (4, [.ref a_P, .ref a_X_levels, .ref a_E, .ref a_F, .ref a_R, .ref a_X_vector, .ref a_X_solution, .int X_solved, .int X_levelCount])), (a_F, .inr (1, [.int F_known, .int F_rows, .ref a_F_pivots, .ref a_F_reciprocals, .ref a_F_below]))] s.heap := hP
  have hD : va_D A [(a_X, .inr (4, [.ref a_P, .ref a_X_levels, .ref a_E, .ref a_F, .ref a_R, .ref a_X_vector, .ref a_X_solution, .int X_solved, .int X_levelCount])), (a_F, .inr (1, [.int F_known, .int F_rows, .ref a_F_pivots, .ref a_F_reciprocals, .ref a_F_below]))] := hD
  have hl := lv_entry ([.ref a_X]) (n := 1) (Nat.le_of_ble_eq_true rfl)
  rw [lg_entry_eq]
  generalize (lg_sl ([.ref a_X]) ++ List.replicate (1 - (lg_sl ([.ref a_X])).length) Slot.unset).toArray = ls at hl ⊢
  have hl : lv_has ls 1 [(0, .ref a_X)] := hl
  unfold wp_X4_needFactors at hv
  refine lv_aload_n hx hb dX4_needFactors_0 rfl (lv_at hl 0 rfl) ?_
  refine va_get (D := g.1) (ci := 4) (v := .ref a_F) (C := RX4) (T := TX4) (N := 9) hx hb hts cw_in_X4 hown hK.1 hP 0 rfl rfl 3 (by decide) (hts _ cw_f_X4_30) (fun _ h9 => h9) rfl dX4_needFactors_1 ?_
  refine va_get (D := g.1) (ci := 1) (v := .int F_known) (C := RX1) (T := TX1) (N := 5) hx hb hts cw_in_X1 hown hK.1 hP 1 rfl rfl 0 (by decide) (hts _ cw_f_X4_156) (fun _ h9 => h9) rfl dX4_needFactors_4 ?_
  refine lv_if_ne (tgt := 20) hx hb dX4_needFactors_7 (by decide) (fun hc => ?_) (fun hc => ?_)
  · replace hv := hv.2 hc
    refine W.widen (k := 1) (n := 6) (Nat.le_of_ble_eq_true rfl) (Nat.le_of_ble_eq_true rfl) ?_
    exact vx_ret (cx_vret hx hb hr hlocks hAe hS () hv hP hD dX4_needFactors_20)
  · replace hv := hv.1 hc
    exact cx_throwS hx hb hlt hown (by decide +kernel) (hts _ cw_y_X4_189) (hts _ cw_n_IllegalStateException) hKX 5 rfl (cx_at_ISE hts hKX) (by decide +kernel) hZ hAe hS hP (hl.1.trans hml.symm) dX4_needFactors_10 dX4_needFactors_13 dX4_needFactors_14 dX4_needFactors_16 dX4_needFactors_19 htab (Nat.le_of_ble_eq_true rfl) (Nat.le_of_ble_eq_true rfl) (Nat.le_of_ble_eq_true rfl) (Nat.le_of_ble_eq_true rfl) hlocks hv (Nat.le_of_ble_eq_true rfl) (Nat.le_of_ble_eq_true rfl)
def wp_X4_needResidue (i_v : Int32) (Q : Prop) (X : String → Prop)   : Prop := (i_v < 0 → (X xIAE)) ∧ (¬ i_v < 0 → ((i_v < 65521 → (Q)) ∧ (¬ i_v < 65521 → (X xIAE))))
abbrev w0_X4_needResidue (g : cx_G)  : va_W := []
set_option maxHeartbeats 4000000 in
set_option maxRecDepth 100000 in
theorem c_X4_needResidue (l : Launch) (hlt : l.stackTraces = false) (g : cx_G) (i_v : Int32) {Q : Prop} {X : String → Prop} (hv : wp_X4_needResidue i_v Q X) : cx_Ev l g yX4_needResidue (Cond.code yX4_needResidue cX4_needResidue 1 none :: cx_T) ({ frames := 6, cells := 1, slots := 6, locals := 90 } : Room) [.int i_v] (w0_X4_needResidue g  ) (fun (_ : Unit) => Q) (fun _ : Unit => (w0_X4_needResidue g  )) X 1 6 := by
  intro sz
  refine vx_ofW (cc := cX4_needResidue) (maxL := 1) (ret := none) (by decide) rfl ?_
  intro p e s m args below meth c s₁ B hml htab hpre
  obtain ⟨rfl, hsz, hP, hK, hD0, hKX, hZ⟩ := hpre
  have hx := B.exec
  have hb := B.bytes
  have hr := B.returns
  have hts0 := atoms_spec (ws := (Cond.code yX4_needResidue cX4_needResidue 1 none :: cx_T)) B.pre
  have hts : ∀ w ∈ cx_T, w.before _ s = true := fun w h => hts0 w (List.mem_cons_of_mem _ h)
  have hown : s.vm.findClass RX4 = some m.cls := findClass_of_methodNamed B.named
  have hlocks := B.notSynchronized
  subst hsz
  have hD := hD0.self (sz := s.heap.size)
  obtain ⟨A, hAe⟩ : ∃ A : Nat → Prop, A = va_A (w0_X4_needResidue g  ) s.heap.size := ⟨_, rfl⟩
  rw [← hAe] at hD hZ
  have hA : ∀ q : Nat, s.heap.size ≤ q → A q := fun q h => by rw [hAe]; exact Or.inr h
  have hS : va_S A s.heap s.heap [] := va_S.rf
  have hP : va_P g.1 vwCl [] s.heap := hP
  have hD : va_D A [] := hD
  have hl := lv_entry ([.int i_v]) (n := 1) (Nat.le_of_ble_eq_true rfl)
  rw [lg_entry_eq]
  generalize (lg_sl ([.int i_v]) ++ List.replicate (1 - (lg_sl ([.int i_v])).length) Slot.unset).toArray = ls at hl ⊢
  have hl : lv_has ls 1 [(0, .int i_v)] := hl
  unfold wp_X4_needResidue at hv
  refine lv_iload_n hx hb dX4_needResidue_0 rfl (lv_at hl 0 rfl) ?_
  refine lv_if_lt (tgt := 10) hx hb dX4_needResidue_1 (by decide) (fun hc => ?_) (fun hc => ?_)
  · replace hv := hv.1 hc
    exact cx_throwS hx hb hlt hown (by decide +kernel) (hts _ cw_y_X4_56) (hts _ cw_n_IllegalArgumentException) hKX 2 rfl (cx_at_IAE hts hKX) (by decide +kernel) hZ hAe hS hP (hl.1.trans hml.symm) dX4_needResidue_10 dX4_needResidue_13 dX4_needResidue_14 dX4_needResidue_16 dX4_needResidue_19 htab (Nat.le_of_ble_eq_true rfl) (Nat.le_of_ble_eq_true rfl) (Nat.le_of_ble_eq_true rfl) (Nat.le_of_ble_eq_true rfl) hlocks hv (Nat.le_of_ble_eq_true rfl) (Nat.le_of_ble_eq_true rfl)
  · replace hv := hv.2 hc
    refine lv_iload_n hx hb dX4_needResidue_4 rfl (lv_at hl 0 rfl) ?_
    refine lv_ldc hx hb hown (hts _ cw_k_X4_217) dX4_needResidue_5 ?_
    refine lv_icmp_lt (tgt := 20) hx hb dX4_needResidue_7 (by decide) (fun hc => ?_) (fun hc => ?_)
    · replace hv := hv.1 hc
      refine W.widen (k := 1) (n := 6) (Nat.le_of_ble_eq_true rfl) (Nat.le_of_ble_eq_true rfl) ?_
      exact vx_ret (cx_vret hx hb hr hlocks hAe hS () hv hP hD dX4_needResidue_20)
    · replace hv := hv.2 hc
      exact cx_throwS hx hb hlt hown (by decide +kernel) (hts _ cw_y_X4_56) (hts _ cw_n_IllegalArgumentException) hKX 2 rfl (cx_at_IAE hts hKX) (by decide +kernel) hZ hAe hS hP (hl.1.trans hml.symm) dX4_needResidue_10 dX4_needResidue_13 dX4_needResidue_14 dX4_needResidue_16 dX4_needResidue_19 htab (Nat.le_of_ble_eq_true rfl) (Nat.le_of_ble_eq_true rfl) (Nat.le_of_ble_eq_true rfl) (Nat.le_of_ble_eq_true rfl) hlocks hv (Nat.le_of_ble_eq_true rfl) (Nat.le_of_ble_eq_true rfl)
def wp_X4_setSize (i_n : Int32) (X_solved : Int32) (X_levelCount : Int32) (P_rows : Int32) (P_order : (Nat → Int32)) (P_places : (Nat → Int32)) (P_rights : (Nat → Int32)) (P_weights : (Nat → Int32)) (P_entries : (Nat → Int32)) (F_known : Int32) (F_rows : Int32) (Q : Int32 → Int32 → Int32 → (Nat → Int32) → (Nat → Int32) → (Nat → Int32) → (Nat → Int32) → (Nat → Int32) → Int32 → Prop) (X : String → Prop)   : Prop := (i_n < 1 → (X xIAE)) ∧ (¬ i_n < 1 → ((i_n ≤ 16 → (wp_X2_begin i_n P_rows P_order P_places P_rights P_weights P_entries (fun u_2 u_3 u_4 u_5 u_6 u_7 => wp_X1_forget F_known F_rows (fun u_10 => Q i_n 0 u_2 u_3 u_4 u_5 u_6 u_7 u_10)))) ∧ (¬ i_n ≤ 16 → (X xIAE))))
abbrev w0_X4_setSize (g : cx_G) (a_X a_P a_X_levels a_E a_F a_R a_X_vector a_X_solution a_P_entries a_P_order a_P_places a_P_rights a_P_weights a_F_pivots a_F_reciprocals a_F_below : Nat) (X_solved : Int32) (X_levelCount : Int32) (P_rows : Int32) (P_order : (Nat → Int32)) (P_places : (Nat → Int32)) (P_rights : (Nat → Int32)) (P_weights : (Nat → Int32)) (P_entries : (Nat → Int32)) (F_known : Int32) (F_rows : Int32) : va_W := [(a_X, .inr (4, [.ref a_P, .ref a_X_levels, .ref a_E, .ref a_F, .ref a_R, .ref a_X_vector, .ref a_X_solution, .int X_solved, .int X_levelCount])), (a_P, .inr (2, [.int P_rows, .ref a_P_entries, .ref a_P_order, .ref a_P_places, .ref a_P_rights, .ref a_P_weights])), (a_P_order, .inl (g.2.1, 16, .inl P_order)), (a_P_places, .inl (g.2.1, 16, .inl P_places)), (a_P_rights, .inl (g.2.1, 16, .inl P_rights)), (a_P_weights, .inl (g.2.1, 16, .inl P_weights)), (a_P_entries, .inl (g.2.1, 256, .inl P_entries)), (a_F, .inr (1, [.int F_known, .int F_rows, .ref a_F_pivots, .ref a_F_reciprocals, .ref a_F_below]))]
abbrev w1_X4_setSize (g : cx_G) (a_X a_P a_X_levels a_E a_F a_R a_X_vector a_X_solution a_P_entries a_P_order a_P_places a_P_rights a_P_weights a_F_pivots a_F_reciprocals a_F_below : Nat) (X_solved : Int32) (X_levelCount : Int32) (P_rows : Int32) (P_order : (Nat → Int32)) (P_places : (Nat → Int32)) (P_rights : (Nat → Int32)) (P_weights : (Nat → Int32)) (P_entries : (Nat → Int32)) (F_known : Int32) (F_rows : Int32) (u : Int32 × Int32 × (Nat → Int32) × (Nat → Int32) × (Nat → Int32) × (Nat → Int32) × (Nat → Int32) × Int32) : va_W := [(a_X, .inr (4, [.ref a_P, .ref a_X_levels, .ref a_E, .ref a_F, .ref a_R, .ref a_X_vector, .ref a_X_solution, .int u.1, .int X_levelCount])), (a_P, .inr (2, [.int u.2.1, .ref a_P_entries, .ref a_P_order, .ref a_P_places, .ref a_P_rights, .ref a_P_weights])), (a_P_order, .inl (g.2.1, 16, .inl u.2.2.1)), (a_P_places, .inl (g.2.1, 16, .inl u.2.2.2.1)), (a_P_rights, .inl (g.2.1, 16, .inl u.2.2.2.2.1)), (a_P_weights, .inl (g.2.1, 16, .inl u.2.2.2.2.2.1)), (a_P_entries, .inl (g.2.1, 256, .inl u.2.2.2.2.2.2.1)), (a_F, .inr (1, [.int u.2.2.2.2.2.2.2, .int F_rows, .ref a_F_pivots, .ref a_F_reciprocals, .ref a_F_below]))]
set_option maxHeartbeats 4000000 in
set_option maxRecDepth 100000 in
theorem c_X4_setSize (l : Launch) (hlt : l.stackTraces = false) (g : cx_G) (a_X a_P a_X_levels a_E a_F a_R a_X_vector a_X_solution a_P_entries a_P_order a_P_places a_P_rights a_P_weights a_F_pivots a_F_reciprocals a_F_below : Nat) (i_n : Int32) (X_solved : Int32) (X_levelCount : Int32) (P_rows : Int32) (P_order : (Nat → Int32)) (P_places : (Nat → Int32)) (P_rights : (Nat → Int32)) (P_weights : (Nat → Int32)) (P_entries : (Nat → Int32)) (F_known : Int32) (F_rows : Int32) {Q : Int32 → Int32 → Int32 → (Nat → Int32) → (Nat → Int32) → (Nat → Int32) → (Nat → Int32) → (Nat → Int32) → Int32 → Prop} {X : String → Prop} (hv : wp_X4_setSize i_n X_solved X_levelCount P_rows P_order P_places P_rights P_weights P_entries F_known F_rows Q X) : cx_Ei l g yX4_setSize (Cond.code yX4_setSize cX4_setSize 2 (some .int) :: cx_T) ({ frames := 6, cells := 1, slots := 6, locals := 90 } : Room) [.ref a_X, .int i_n] (w0_X4_setSize g a_X a_P a_X_levels a_E a_F a_R a_X_vector a_X_solution a_P_entries a_P_order a_P_places a_P_rights a_P_weights a_F_pivots a_F_reciprocals a_F_below X_solved X_levelCount P_rows P_order P_places P_rights P_weights P_entries F_known F_rows) (fun (r : Int32) (u : Int32 × Int32 × (Nat → Int32) × (Nat → Int32) × (Nat → Int32) × (Nat → Int32) × (Nat → Int32) × Int32) => Q r u.1 u.2.1 u.2.2.1 u.2.2.2.1 u.2.2.2.2.1 u.2.2.2.2.2.1 u.2.2.2.2.2.2.1 u.2.2.2.2.2.2.2) (w1_X4_setSize g a_X a_P a_X_levels a_E a_F a_R a_X_vector a_X_solution a_P_entries a_P_order a_P_places a_P_rights a_P_weights a_F_pivots a_F_reciprocals a_F_below X_solved X_levelCount P_rows P_order P_places P_rights P_weights P_entries F_known F_rows) X 1 6 := by
  intro sz
  refine vx_ofW (cc := cX4_setSize) (maxL := 2) (ret := (some .int)) (by decide) rfl ?_
  intro p e s m args below meth c s₁ B hml htab hpre
  obtain ⟨rfl, hsz, hP, hK, hD0, hKX, hZ⟩ := hpre
  have hx := B.exec
  have hb := B.bytes
  have hr := B.returns
  have hts0 := atoms_spec (ws := (Cond.code yX4_setSize cX4_setSize 2 (some .int) :: cx_T)) B.pre
  have hts : ∀ w ∈ cx_T, w.before _ s = true := fun w h => hts0 w (List.mem_cons_of_mem _ h)
  have hown : s.vm.findClass RX4 = some m.cls := findClass_of_methodNamed B.named
  have hlocks := B.notSynchronized
  subst hsz
  have hD := hD0.self (sz := s.heap.size)
  obtain ⟨A, hAe⟩ : ∃ A : Nat → Prop, A = va_A (w0_X4_setSize g a_X a_P a_X_levels a_E a_F a_R a_X_vector a_X_solution a_P_entries a_P_order a_P_places a_P_rights a_P_weights a_F_pivots a_F_reciprocals a_F_below X_solved X_levelCount P_rows P_order P_places P_rights P_weights P_entries F_known F_rows) s.heap.size := ⟨_, rfl⟩
  rw [← hAe] at hD hZ
  have hA : ∀ q : Nat, s.heap.size ≤ q → A q := fun q h => by rw [hAe]; exact Or.inr h
  have hS : va_S A s.heap s.heap [] := va_S.rf
  have hP : va_P g.1 vwCl [(a_X, .inr (4, [.ref a_P, .ref a_X_levels, .ref a_E, .ref a_F, .ref a_R, .ref a_X_vector, .ref a_X_solution, .int X_solved, .int X_levelCount])), (a_P, .inr (2, [.int P_rows, .ref a_P_entries, .ref a_P_order, .ref a_P_places, .ref a_P_rights, .ref a_P_weights])), (a_P_order, .inl (g.2.1, 16, .inl P_order)), (a_P_places, .inl (g.2.1, 16, .inl P_places)), (a_P_rights, .inl (g.2.1, 16, .inl P_rights)), (a_P_weights, .inl (g.2.1, 16, .inl P_weights)), (a_P_entries, .inl (g.2.1, 256, .inl P_entries)), (a_F, .inr (1, [.int F_known, .int F_rows, .ref a_F_pivots, .ref a_F_reciprocals, .ref a_F_below]))] s.heap := hP
  have hD : va_D A [(a_X, .inr (4, [.ref a_P, .ref a_X_levels, .ref a_E, .ref a_F, .ref a_R, .ref a_X_vector, .ref a_X_solution, .int X_solved, .int X_levelCount])), (a_P, .inr (2, [.int P_rows, .ref a_P_entries, .ref a_P_order, .ref a_P_places, .ref a_P_rights, .ref a_P_weights])), (a_P_order, .inl (g.2.1, 16, .inl P_order)), (a_P_places, .inl (g.2.1, 16, .inl P_places)), (a_P_rights, .inl (g.2.1, 16, .inl P_rights)), (a_P_weights, .inl (g.2.1, 16, .inl P_weights)), (a_P_entries, .inl (g.2.1, 256, .inl P_entries)), (a_F, .inr (1, [.int F_known, .int F_rows, .ref a_F_pivots, .ref a_F_reciprocals, .ref a_F_below]))] := hD
  have hl := lv_entry ([.ref a_X, .int i_n]) (n := 2) (Nat.le_of_ble_eq_true rfl)
  rw [lg_entry_eq]
  generalize (lg_sl ([.ref a_X, .int i_n]) ++ List.replicate (2 - (lg_sl ([.ref a_X, .int i_n])).length) Slot.unset).toArray = ls at hl ⊢
  have hl : lv_has ls 2 [(0, .ref a_X), (1, .int i_n)] := hl
  unfold wp_X4_setSize at hv
  refine lv_iload_n hx hb dX4_setSize_0 rfl (lv_at hl 1 rfl) ?_
  refine lv_iconst (v := 1) hx hb dX4_setSize_1 (by decide) ?_
  refine lv_icmp_lt (tgt := 11) hx hb dX4_setSize_2 (by decide) (fun hc => ?_) (fun hc => ?_)
  · replace hv := hv.1 hc
    exact cx_throwS hx hb hlt hown (by decide +kernel) (hts _ cw_y_X4_56) (hts _ cw_n_IllegalArgumentException) hKX 0 rfl (cx_at_IAE hts hKX) (by decide +kernel) hZ hAe hS hP (hl.1.trans hml.symm) dX4_setSize_11 dX4_setSize_14 dX4_setSize_15 dX4_setSize_17 dX4_setSize_20 htab (Nat.le_of_ble_eq_true rfl) (Nat.le_of_ble_eq_true rfl) (Nat.le_of_ble_eq_true rfl) (Nat.le_of_ble_eq_true rfl) hlocks hv (Nat.le_of_ble_eq_true rfl) (Nat.le_of_ble_eq_true rfl)
  · replace hv := hv.2 hc
    refine lv_iload_n hx hb dX4_setSize_5 rfl (lv_at hl 1 rfl) ?_
    refine lv_bipush (v := 16) hx hb dX4_setSize_6 (by decide) ?_
    refine lv_icmp_le (tgt := 21) hx hb dX4_setSize_8 (by decide) (fun hc => ?_) (fun hc => ?_)
    · replace hv := hv.1 hc
      refine lv_aload_n hx hb dX4_setSize_21 rfl (lv_at hl 0 rfl) ?_
      refine va_get (D := g.1) (ci := 4) (v := .ref a_P) (C := RX4) (T := TX4) (N := 9) hx hb hts cw_in_X4 hown hK.1 hP 0 rfl rfl 0 (by decide) (hts _ cw_f_X4_10) (fun _ h9 => h9) rfl dX4_setSize_22 ?_
      refine lv_iload_n hx hb dX4_setSize_25 rfl (lv_at hl 1 rfl) ?_
      refine cx_vV (wr := [(a_X, .inr (4, [.ref a_P, .ref a_X_levels, .ref a_E, .ref a_F, .ref a_R, .ref a_X_vector, .ref a_X_solution, .int X_solved, .int X_levelCount])), (a_F, .inr (1, [.int F_known, .int F_rows, .ref a_F_pivots, .ref a_F_reciprocals, .ref a_F_below]))]) (As := [.int i_n]) (rest := []) ⟨hx, hb, hml, hown, hts⟩ (c_X2_begin l g a_P a_P_entries a_P_order a_P_places a_P_rights a_P_weights i_n P_rows P_order P_places P_rights P_weights P_entries hv) (cx_cwV 1 hts cw_m_X4_63 cw_i_X2_begin cw_s_X2_begin cw_n_X2 cw_c_X2_begin rfl rfl (by decide +kernel) ⟨Nat.le_of_ble_eq_true rfl, Nat.le_of_ble_eq_true rfl⟩) hK hP hD hS hA 1 2 rfl rfl [1, 2, 3, 4, 5, 6] [0, 7] rfl rfl rfl rfl (by decide) rfl hl.1 rfl (Nat.le_of_ble_eq_true rfl) dX4_setSize_26 ⟨Nat.le_of_ble_eq_true rfl, Nat.le_of_ble_eq_true rfl⟩ (fun w_8 H locs hv hP hD hS => ?_)
      obtain ⟨u_2, u_3, u_4, u_5, u_6, u_7⟩ := w_8
      have hP : va_P g.1 vwCl [(a_X, .inr (4, [.ref a_P, .ref a_X_levels, .ref a_E, .ref a_F, .ref a_R, .ref a_X_vector, .ref a_X_solution, .int X_solved, .int X_levelCount])), (a_P, .inr (2, [.int u_2, .ref a_P_entries, .ref a_P_order, .ref a_P_places, .ref a_P_rights, .ref a_P_weights])), (a_P_order, .inl (g.2.1, 16, .inl u_3)), (a_P_places, .inl (g.2.1, 16, .inl u_4)), (a_P_rights, .inl (g.2.1, 16, .inl u_5)), (a_P_weights, .inl (g.2.1, 16, .inl u_6)), (a_P_entries, .inl (g.2.1, 256, .inl u_7)), (a_F, .inr (1, [.int F_known, .int F_rows, .ref a_F_pivots, .ref a_F_reciprocals, .ref a_F_below]))] H := hP.sub [0, 2, 3, 4, 5, 6, 7, 1] rfl
      have hD : va_D A [(a_X, .inr (4, [.ref a_P, .ref a_X_levels, .ref a_E, .ref a_F, .ref a_R, .ref a_X_vector, .ref a_X_solution, .int X_solved, .int X_levelCount])), (a_P, .inr (2, [.int u_2, .ref a_P_entries, .ref a_P_order, .ref a_P_places, .ref a_P_rights, .ref a_P_weights])), (a_P_order, .inl (g.2.1, 16, .inl u_3)), (a_P_places, .inl (g.2.1, 16, .inl u_4)), (a_P_rights, .inl (g.2.1, 16, .inl u_5)), (a_P_weights, .inl (g.2.1, 16, .inl u_6)), (a_P_entries, .inl (g.2.1, 256, .inl u_7)), (a_F, .inr (1, [.int F_known, .int F_rows, .ref a_F_pivots, .ref a_F_reciprocals, .ref a_F_below]))] := hD.sub [0, 2, 3, 4, 5, 6, 7, 1] (by decide) rfl
      refine lv_aload_n hx hb dX4_setSize_29 rfl (lv_at hl 0 rfl) ?_
      refine va_get (D := g.1) (ci := 4) (v := .ref a_F) (C := RX4) (T := TX4) (N := 9) hx hb hts cw_in_X4 hown hK.1 hP 0 rfl rfl 3 (by decide) (hts _ cw_f_X4_30) (fun _ h9 => h9) rfl dX4_setSize_30 ?_
      refine cx_vV (wr := [(a_X, .inr (4, [.ref a_P, .ref a_X_levels, .ref a_E, .ref a_F, .ref a_R, .ref a_X_vector, .ref a_X_solution, .int X_solved, .int X_levelCount])), (a_P, .inr (2, [.int u_2, .ref a_P_entries, .ref a_P_order, .ref a_P_places, .ref a_P_rights, .ref a_P_weights])), (a_P_order, .inl (g.2.1, 16, .inl u_3)), (a_P_places, .inl (g.2.1, 16, .inl u_4)), (a_P_rights, .inl (g.2.1, 16, .inl u_5)), (a_P_weights, .inl (g.2.1, 16, .inl u_6)), (a_P_entries, .inl (g.2.1, 256, .inl u_7))]) (As := []) (rest := []) ⟨hx, hb, hml, hown, hts⟩ (c_X1_forget l g a_F a_F_pivots a_F_reciprocals a_F_below F_known F_rows hv) (cx_cwV 0 hts cw_m_X4_67 cw_i_X1_forget cw_s_X1_forget cw_n_X1 cw_c_X1_forget rfl rfl (by decide +kernel) ⟨Nat.le_of_ble_eq_true rfl, Nat.le_of_ble_eq_true rfl⟩) hK hP hD hS hA 7 1 rfl rfl [7] [0, 1, 2, 3, 4, 5, 6] rfl rfl rfl rfl (by decide) rfl hl.1 rfl (Nat.le_of_ble_eq_true rfl) dX4_setSize_33 ⟨Nat.le_of_ble_eq_true rfl, Nat.le_of_ble_eq_true rfl⟩ (fun w_11 H locs hv hP hD hS => ?_)
      obtain ⟨u_10, rfl⟩ : ∃ z, z = w_11 := ⟨_, rfl⟩
      have hP : va_P g.1 vwCl [(a_X, .inr (4, [.ref a_P, .ref a_X_levels, .ref a_E, .ref a_F, .ref a_R, .ref a_X_vector, .ref a_X_solution, .int X_solved, .int X_levelCount])), (a_P, .inr (2, [.int u_2, .ref a_P_entries, .ref a_P_order, .ref a_P_places, .ref a_P_rights, .ref a_P_weights])), (a_P_order, .inl (g.2.1, 16, .inl u_3)), (a_P_places, .inl (g.2.1, 16, .inl u_4)), (a_P_rights, .inl (g.2.1, 16, .inl u_5)), (a_P_weights, .inl (g.2.1, 16, .inl u_6)), (a_P_entries, .inl (g.2.1, 256, .inl u_7)), (a_F, .inr (1, [.int u_10, .int F_rows, .ref a_F_pivots, .ref a_F_reciprocals, .ref a_F_below]))] H := hP.sub [0, 1, 2, 3, 4, 5, 6, 7] rfl
      have hD : va_D A [(a_X, .inr (4, [.ref a_P, .ref a_X_levels, .ref a_E, .ref a_F, .ref a_R, .ref a_X_vector, .ref a_X_solution, .int X_solved, .int X_levelCount])), (a_P, .inr (2, [.int u_2, .ref a_P_entries, .ref a_P_order, .ref a_P_places, .ref a_P_rights, .ref a_P_weights])), (a_P_order, .inl (g.2.1, 16, .inl u_3)), (a_P_places, .inl (g.2.1, 16, .inl u_4)), (a_P_rights, .inl (g.2.1, 16, .inl u_5)), (a_P_weights, .inl (g.2.1, 16, .inl u_6)), (a_P_entries, .inl (g.2.1, 256, .inl u_7)), (a_F, .inr (1, [.int u_10, .int F_rows, .ref a_F_pivots, .ref a_F_reciprocals, .ref a_F_below]))] := hD.sub [0, 1, 2, 3, 4, 5, 6, 7] (by decide) rfl
      refine lv_aload_n hx hb dX4_setSize_36 rfl (lv_at hl 0 rfl) ?_
      refine lv_iconst (v := 0) hx hb dX4_setSize_37 (by decide) ?_
      refine va_put (D := g.1) (ci := 4) (v := .int 0) (ty := .boolean) (C := RX4) (T := TX4) (N := 9) hx hb hts cw_in_X4 tyX4 tyX4_ok nmX4 hown hK.1 hP hD hS 0 rfl rfl 7 (by decide) (hts _ cw_f_X4_48) (fun _ h9 => h9) rfl (by decide +kernel) rfl rfl (Nat.le_of_ble_eq_true rfl) dX4_setSize_38 (fun H locs hP hD hS => ?_)
      have hP : va_P g.1 vwCl [(a_X, .inr (4, [.ref a_P, .ref a_X_levels, .ref a_E, .ref a_F, .ref a_R, .ref a_X_vector, .ref a_X_solution, .int 0, .int X_levelCount])), (a_P, .inr (2, [.int u_2, .ref a_P_entries, .ref a_P_order, .ref a_P_places, .ref a_P_rights, .ref a_P_weights])), (a_P_order, .inl (g.2.1, 16, .inl u_3)), (a_P_places, .inl (g.2.1, 16, .inl u_4)), (a_P_rights, .inl (g.2.1, 16, .inl u_5)), (a_P_weights, .inl (g.2.1, 16, .inl u_6)), (a_P_entries, .inl (g.2.1, 256, .inl u_7)), (a_F, .inr (1, [.int u_10, .int F_rows, .ref a_F_pivots, .ref a_F_reciprocals, .ref a_F_below]))] H := hP
      have hD : va_D A [(a_X, .inr (4, [.ref a_P, .ref a_X_levels, .ref a_E, .ref a_F, .ref a_R, .ref a_X_vector, .ref a_X_solution, .int 0, .int X_levelCount])), (a_P, .inr (2, [.int u_2, .ref a_P_entries, .ref a_P_order, .ref a_P_places, .ref a_P_rights, .ref a_P_weights])), (a_P_order, .inl (g.2.1, 16, .inl u_3)), (a_P_places, .inl (g.2.1, 16, .inl u_4)), (a_P_rights, .inl (g.2.1, 16, .inl u_5)), (a_P_weights, .inl (g.2.1, 16, .inl u_6)), (a_P_entries, .inl (g.2.1, 256, .inl u_7)), (a_F, .inr (1, [.int u_10, .int F_rows, .ref a_F_pivots, .ref a_F_reciprocals, .ref a_F_below]))] := hD
      refine lv_iload_n hx hb dX4_setSize_41 rfl (lv_at hl 1 rfl) ?_
      refine W.widen (k := 1) (n := 6) (Nat.le_of_ble_eq_true rfl) (Nat.le_of_ble_eq_true rfl) ?_
      exact vx_ret (cx_iret hx hb hr hlocks hAe hS (0, u_2, u_3, u_4, u_5, u_6, u_7, u_10) hv hP hD dX4_setSize_42)
    · replace hv := hv.2 hc
      exact cx_throwS hx hb hlt hown (by decide +kernel) (hts _ cw_y_X4_56) (hts _ cw_n_IllegalArgumentException) hKX 0 rfl (cx_at_IAE hts hKX) (by decide +kernel) hZ hAe hS hP (hl.1.trans hml.symm) dX4_setSize_11 dX4_setSize_14 dX4_setSize_15 dX4_setSize_17 dX4_setSize_20 htab (Nat.le_of_ble_eq_true rfl) (Nat.le_of_ble_eq_true rfl) (Nat.le_of_ble_eq_true rfl) (Nat.le_of_ble_eq_true rfl) hlocks hv (Nat.le_of_ble_eq_true rfl) (Nat.le_of_ble_eq_true rfl)
def wp_X4_setEntry (i_i : Int32) (i_j : Int32) (i_v : Int32) (X_solved : Int32) (X_levelCount : Int32) (P_rows : Int32) (P_entries : (Nat → Int32)) (F_known : Int32) (F_rows : Int32) (Q : Int32 → (Nat → Int32) → Int32 → Prop) (X : String → Prop)   : Prop := wp_X4_needRow i_i X_solved X_levelCount P_rows (wp_X4_needRow i_j X_solved X_levelCount P_rows (wp_X4_needResidue i_v (wp_X2_entryAt i_i i_j P_rows P_entries (fun r_1 => wp_X2_putEntry i_i i_j i_v P_rows P_entries (fun u_3 => wp_X1_forget F_known F_rows (fun u_6 => Q r_1 u_3 u_6)))) X) X) X
abbrev w0_X4_setEntry (g : cx_G) (a_X a_P a_X_levels a_E a_F a_R a_X_vector a_X_solution a_P_entries a_P_order a_P_places a_P_rights a_P_weights a_F_pivots a_F_reciprocals a_F_below : Nat) (X_solved : Int32) (X_levelCount : Int32) (P_rows : Int32) (P_entries : (Nat → Int32)) (F_known : Int32) (F_rows : Int32) : va_W := [(a_X, .inr (4, [.ref a_P, .ref a_X_levels, .ref a_E, .ref a_F, .ref a_R, .ref a_X_vector, .ref a_X_solution, .int X_solved, .int X_levelCount])), (a_P, .inr (2, [.int P_rows, .ref a_P_entries, .ref a_P_order, .ref a_P_places, .ref a_P_rights, .ref a_P_weights])), (a_P_entries, .inl (g.2.1, 256, .inl P_entries)), (a_F, .inr (1, [.int F_known, .int F_rows, .ref a_F_pivots, .ref a_F_reciprocals, .ref a_F_below]))]
abbrev w1_X4_setEntry (g : cx_G) (a_X a_P a_X_levels a_E a_F a_R a_X_vector a_X_solution a_P_entries a_P_order a_P_places a_P_rights a_P_weights a_F_pivots a_F_reciprocals a_F_below : Nat) (X_solved : Int32) (X_levelCount : Int32) (P_rows : Int32) (P_entries : (Nat → Int32)) (F_known : Int32) (F_rows : Int32) (u : (Nat → Int32) × Int32) : va_W := [(a_X, .inr (4, [.ref a_P, .ref a_X_levels, .ref a_E, .ref a_F, .ref a_R, .ref a_X_vector, .ref a_X_solution, .int X_solved, .int X_levelCount])), (a_P, .inr (2, [.int P_rows, .ref a_P_entries, .ref a_P_order, .ref a_P_places, .ref a_P_rights, .ref a_P_weights])), (a_P_entries, .inl (g.2.1, 256, .inl u.1)), (a_F, .inr (1, [.int u.2, .int F_rows, .ref a_F_pivots, .ref a_F_reciprocals, .ref a_F_below]))]
set_option maxHeartbeats 4000000 in
set_option maxRecDepth 100000 in
theorem c_X4_setEntry (l : Launch) (hlt : l.stackTraces = false) (g : cx_G) (a_X a_P a_X_levels a_E a_F a_R a_X_vector a_X_solution a_P_entries a_P_order a_P_places a_P_rights a_P_weights a_F_pivots a_F_reciprocals a_F_below : Nat) (i_i : Int32) (i_j : Int32) (i_v : Int32) (X_solved : Int32) (X_levelCount : Int32) (P_rows : Int32) (P_entries : (Nat → Int32)) (F_known : Int32) (F_rows : Int32) {Q : Int32 → (Nat → Int32) → Int32 → Prop} {X : String → Prop} (hv : wp_X4_setEntry i_i i_j i_v X_solved X_levelCount P_rows P_entries F_known F_rows Q X) : cx_Ei l g yX4_setEntry (Cond.code yX4_setEntry cX4_setEntry 5 (some .int) :: cx_T) ({ frames := 7, cells := 3, slots := 18, locals := 111 } : Room) [.ref a_X, .int i_i, .int i_j, .int i_v] (w0_X4_setEntry g a_X a_P a_X_levels a_E a_F a_R a_X_vector a_X_solution a_P_entries a_P_order a_P_places a_P_rights a_P_weights a_F_pivots a_F_reciprocals a_F_below X_solved X_levelCount P_rows P_entries F_known F_rows) (fun (r : Int32) (u : (Nat → Int32) × Int32) => Q r u.1 u.2) (w1_X4_setEntry g a_X a_P a_X_levels a_E a_F a_R a_X_vector a_X_solution a_P_entries a_P_order a_P_places a_P_rights a_P_weights a_F_pivots a_F_reciprocals a_F_below X_solved X_levelCount P_rows P_entries F_known F_rows) X 3 18 := by
  intro sz
  refine vx_ofW (cc := cX4_setEntry) (maxL := 5) (ret := (some .int)) (by decide) rfl ?_
  intro p e s m args below meth c s₁ B hml htab hpre
  obtain ⟨rfl, hsz, hP, hK, hD0, hKX, hZ⟩ := hpre
  have hx := B.exec
  have hb := B.bytes
  have hr := B.returns
  have hts0 := atoms_spec (ws := (Cond.code yX4_setEntry cX4_setEntry 5 (some .int) :: cx_T)) B.pre
  have hts : ∀ w ∈ cx_T, w.before _ s = true := fun w h => hts0 w (List.mem_cons_of_mem _ h)
  have hown : s.vm.findClass RX4 = some m.cls := findClass_of_methodNamed B.named
  have hlocks := B.notSynchronized
  subst hsz
  have hD := hD0.self (sz := s.heap.size)
  obtain ⟨A, hAe⟩ : ∃ A : Nat → Prop, A = va_A (w0_X4_setEntry g a_X a_P a_X_levels a_E a_F a_R a_X_vector a_X_solution a_P_entries a_P_order a_P_places a_P_rights a_P_weights a_F_pivots a_F_reciprocals a_F_below X_solved X_levelCount P_rows P_entries F_known F_rows) s.heap.size := ⟨_, rfl⟩
  rw [← hAe] at hD hZ
  have hA : ∀ q : Nat, s.heap.size ≤ q → A q := fun q h => by rw [hAe]; exact Or.inr h
  have hS : va_S A s.heap s.heap [] := va_S.rf
  have hP : va_P g.1 vwCl [(a_X, .inr (4, [.ref a_P, .ref a_X_levels, .ref a_E, .ref a_F, .ref a_R, .ref a_X_vector, .ref a_X_solution, .int X_solved, .int X_levelCount])), (a_P, .inr (2, [.int P_rows, .ref a_P_entries, .ref a_P_order, .ref a_P_places, .ref a_P_rights, .ref a_P_weights])), (a_P_entries, .inl (g.2.1, 256, .inl P_entries)), (a_F, .inr (1, [.int F_known, .int F_rows, .ref a_F_pivots, .ref a_F_reciprocals, .ref a_F_below]))] s.heap := hP
  have hD : va_D A [(a_X, .inr (4, [.ref a_P, .ref a_X_levels, .ref a_E, .ref a_F, .ref a_R, .ref a_X_vector, .ref a_X_solution, .int X_solved, .int X_levelCount])), (a_P, .inr (2, [.int P_rows, .ref a_P_entries, .ref a_P_order, .ref a_P_places, .ref a_P_rights, .ref a_P_weights])), (a_P_entries, .inl (g.2.1, 256, .inl P_entries)), (a_F, .inr (1, [.int F_known, .int F_rows, .ref a_F_pivots, .ref a_F_reciprocals, .ref a_F_below]))] := hD
  have hl := lv_entry ([.ref a_X, .int i_i, .int i_j, .int i_v]) (n := 5) (Nat.le_of_ble_eq_true rfl)
  rw [lg_entry_eq]
  generalize (lg_sl ([.ref a_X, .int i_i, .int i_j, .int i_v]) ++ List.replicate (5 - (lg_sl ([.ref a_X, .int i_i, .int i_j, .int i_v])).length) Slot.unset).toArray = ls at hl ⊢
  have hl : lv_has ls 5 [(0, .ref a_X), (1, .int i_i), (2, .int i_j), (3, .int i_v)] := hl
  unfold wp_X4_setEntry at hv
  refine lv_aload_n hx hb dX4_setEntry_0 rfl (lv_at hl 0 rfl) ?_
  refine lv_iload_n hx hb dX4_setEntry_1 rfl (lv_at hl 1 rfl) ?_
  refine cx_vVp (As := [.int i_i]) (rest := []) ⟨hx, hb, hml, hown, hts⟩ (c_X4_needRow l hlt g a_X a_P a_X_levels a_E a_F a_R a_X_vector a_X_solution a_P_entries a_P_order a_P_places a_P_rights a_P_weights i_i X_solved X_levelCount P_rows hv) (cx_cwV 1 hts cw_m_X4_73 cw_i_X4_needRow cw_s_X4_needRow cw_n_X4 cw_c_X4_needRow rfl rfl (by decide +kernel) ⟨Nat.le_of_ble_eq_true rfl, Nat.le_of_ble_eq_true rfl⟩) hK hKX hZ hAe htab hlocks hP hD hS hA 0 4 rfl rfl [0, 1] rfl rfl rfl hl.1 rfl (Nat.le_of_ble_eq_true rfl) dX4_setEntry_2 ⟨Nat.le_of_ble_eq_true rfl, Nat.le_of_ble_eq_true rfl⟩ (Nat.le_of_ble_eq_true rfl) (Nat.le_of_ble_eq_true rfl) (fun H locs hv hP hS => ?_)
  refine W.widen (k := 1) (n := 6) (Nat.le_of_ble_eq_true rfl) (Nat.le_of_ble_eq_true rfl) ?_
  refine lv_aload_n hx hb dX4_setEntry_5 rfl (lv_at hl 0 rfl) ?_
  refine lv_iload_n hx hb dX4_setEntry_6 rfl (lv_at hl 2 rfl) ?_
  refine cx_vVp (As := [.int i_j]) (rest := []) ⟨hx, hb, hml, hown, hts⟩ (c_X4_needRow l hlt g a_X a_P a_X_levels a_E a_F a_R a_X_vector a_X_solution a_P_entries a_P_order a_P_places a_P_rights a_P_weights i_j X_solved X_levelCount P_rows hv) (cx_cwV 1 hts cw_m_X4_73 cw_i_X4_needRow cw_s_X4_needRow cw_n_X4 cw_c_X4_needRow rfl rfl (by decide +kernel) ⟨Nat.le_of_ble_eq_true rfl, Nat.le_of_ble_eq_true rfl⟩) hK hKX hZ hAe htab hlocks hP hD hS hA 0 4 rfl rfl [0, 1] rfl rfl rfl hl.1 rfl (Nat.le_of_ble_eq_true rfl) dX4_setEntry_7 ⟨Nat.le_of_ble_eq_true rfl, Nat.le_of_ble_eq_true rfl⟩ (Nat.le_of_ble_eq_true rfl) (Nat.le_of_ble_eq_true rfl) (fun H locs hv hP hS => ?_)
  refine W.widen (k := 2) (n := 12) (Nat.le_of_ble_eq_true rfl) (Nat.le_of_ble_eq_true rfl) ?_
  refine lv_iload_n hx hb dX4_setEntry_10 rfl (lv_at hl 3 rfl) ?_
  refine cx_vSp (As := [.int i_v]) (rest := []) ⟨hx, hb, hml, hown, hts⟩ (c_X4_needResidue l hlt g i_v hv) (cx_cwS 1 hts cw_m_X4_76 cw_t_X4_needResidue cw_n_X4 cw_c_X4_needResidue rfl rfl (by decide +kernel) ⟨Nat.le_of_ble_eq_true rfl, Nat.le_of_ble_eq_true rfl⟩) hK hKX hZ hAe htab hlocks hP hD hS hA [] rfl rfl rfl hl.1 rfl (Nat.le_of_ble_eq_true rfl) dX4_setEntry_11 ⟨Nat.le_of_ble_eq_true rfl, Nat.le_of_ble_eq_true rfl⟩ (Nat.le_of_ble_eq_true rfl) (Nat.le_of_ble_eq_true rfl) (fun H locs hv hP hS => ?_)
  refine W.widen (k := 3) (n := 18) (Nat.le_of_ble_eq_true rfl) (Nat.le_of_ble_eq_true rfl) ?_
  refine lv_aload_n hx hb dX4_setEntry_14 rfl (lv_at hl 0 rfl) ?_
  refine va_get (D := g.1) (ci := 4) (v := .ref a_P) (C := RX4) (T := TX4) (N := 9) hx hb hts cw_in_X4 hown hK.1 hP 0 rfl rfl 0 (by decide) (hts _ cw_f_X4_10) (fun _ h9 => h9) rfl dX4_setEntry_15 ?_
  refine lv_iload_n hx hb dX4_setEntry_18 rfl (lv_at hl 1 rfl) ?_
  refine lv_iload_n hx hb dX4_setEntry_19 rfl (lv_at hl 2 rfl) ?_
  refine cx_iVr (As := [.int i_i, .int i_j]) (rest := []) ⟨hx, hb, hml, hown, hts⟩ (c_X2_entryAt l g a_P a_P_entries a_P_order a_P_places a_P_rights a_P_weights i_i i_j P_rows P_entries hv) (cx_cwV 2 hts cw_m_X4_79 cw_i_X2_entryAt cw_s_X2_entryAt cw_n_X2 cw_c_X2_entryAt rfl rfl (by decide +kernel) ⟨Nat.le_of_ble_eq_true rfl, Nat.le_of_ble_eq_true rfl⟩) hK hP hD hS hA 1 2 rfl rfl [1, 2] rfl rfl rfl hl.1 rfl (Nat.le_of_ble_eq_true rfl) dX4_setEntry_20 ⟨Nat.le_of_ble_eq_true rfl, Nat.le_of_ble_eq_true rfl⟩ (fun r_1 H locs hv hP hS => ?_)
  refine lv_istore (lv' := [(4, .int r_1), (0, .ref a_X), (1, .int i_i), (2, .int i_j), (3, .int i_v)]) hx hb dX4_setEntry_23 hl (by decide) rfl (fun ls hl => ?_)
  refine lv_aload_n hx hb dX4_setEntry_25 rfl (lv_at hl 1 rfl) ?_
  refine va_get (D := g.1) (ci := 4) (v := .ref a_P) (C := RX4) (T := TX4) (N := 9) hx hb hts cw_in_X4 hown hK.1 hP 0 rfl rfl 0 (by decide) (hts _ cw_f_X4_10) (fun _ h9 => h9) rfl dX4_setEntry_26 ?_
  refine lv_iload_n hx hb dX4_setEntry_29 rfl (lv_at hl 2 rfl) ?_
  refine lv_iload_n hx hb dX4_setEntry_30 rfl (lv_at hl 3 rfl) ?_
  refine lv_iload_n hx hb dX4_setEntry_31 rfl (lv_at hl 4 rfl) ?_
  refine cx_vV (wr := [(a_X, .inr (4, [.ref a_P, .ref a_X_levels, .ref a_E, .ref a_F, .ref a_R, .ref a_X_vector, .ref a_X_solution, .int X_solved, .int X_levelCount])), (a_F, .inr (1, [.int F_known, .int F_rows, .ref a_F_pivots, .ref a_F_reciprocals, .ref a_F_below]))]) (As := [.int i_i, .int i_j, .int i_v]) (rest := []) ⟨hx, hb, hml, hown, hts⟩ (c_X2_putEntry l g a_P a_P_entries a_P_order a_P_places a_P_rights a_P_weights i_i i_j i_v P_rows P_entries hv) (cx_cwV 3 hts cw_m_X4_83 cw_i_X2_putEntry cw_s_X2_putEntry cw_n_X2 cw_c_X2_putEntry rfl rfl (by decide +kernel) ⟨Nat.le_of_ble_eq_true rfl, Nat.le_of_ble_eq_true rfl⟩) hK hP hD hS hA 1 2 rfl rfl [1, 2] [0, 3] rfl rfl rfl rfl (by decide) rfl hl.1 rfl (Nat.le_of_ble_eq_true rfl) dX4_setEntry_32 ⟨Nat.le_of_ble_eq_true rfl, Nat.le_of_ble_eq_true rfl⟩ (fun w_4 H locs hv hP hD hS => ?_)
  obtain ⟨u_3, rfl⟩ : ∃ z, z = w_4 := ⟨_, rfl⟩
  have hP : va_P g.1 vwCl [(a_X, .inr (4, [.ref a_P, .ref a_X_levels, .ref a_E, .ref a_F, .ref a_R, .ref a_X_vector, .ref a_X_solution, .int X_solved, .int X_levelCount])), (a_P, .inr (2, [.int P_rows, .ref a_P_entries, .ref a_P_order, .ref a_P_places, .ref a_P_rights, .ref a_P_weights])), (a_P_entries, .inl (g.2.1, 256, .inl u_3)), (a_F, .inr (1, [.int F_known, .int F_rows, .ref a_F_pivots, .ref a_F_reciprocals, .ref a_F_below]))] H := hP.sub [0, 2, 3, 1] rfl
  have hD : va_D A [(a_X, .inr (4, [.ref a_P, .ref a_X_levels, .ref a_E, .ref a_F, .ref a_R, .ref a_X_vector, .ref a_X_solution, .int X_solved, .int X_levelCount])), (a_P, .inr (2, [.int P_rows, .ref a_P_entries, .ref a_P_order, .ref a_P_places, .ref a_P_rights, .ref a_P_weights])), (a_P_entries, .inl (g.2.1, 256, .inl u_3)), (a_F, .inr (1, [.int F_known, .int F_rows, .ref a_F_pivots, .ref a_F_reciprocals, .ref a_F_below]))] := hD.sub [0, 2, 3, 1] (by decide) rfl
  refine lv_aload_n hx hb dX4_setEntry_35 rfl (lv_at hl 1 rfl) ?_
  refine va_get (D := g.1) (ci := 4) (v := .ref a_F) (C := RX4) (T := TX4) (N := 9) hx hb hts cw_in_X4 hown hK.1 hP 0 rfl rfl 3 (by decide) (hts _ cw_f_X4_30) (fun _ h9 => h9) rfl dX4_setEntry_36 ?_
  refine cx_vV (wr := [(a_X, .inr (4, [.ref a_P, .ref a_X_levels, .ref a_E, .ref a_F, .ref a_R, .ref a_X_vector, .ref a_X_solution, .int X_solved, .int X_levelCount])), (a_P, .inr (2, [.int P_rows, .ref a_P_entries, .ref a_P_order, .ref a_P_places, .ref a_P_rights, .ref a_P_weights])), (a_P_entries, .inl (g.2.1, 256, .inl u_3))]) (As := []) (rest := []) ⟨hx, hb, hml, hown, hts⟩ (c_X1_forget l g a_F a_F_pivots a_F_reciprocals a_F_below F_known F_rows hv) (cx_cwV 0 hts cw_m_X4_67 cw_i_X1_forget cw_s_X1_forget cw_n_X1 cw_c_X1_forget rfl rfl (by decide +kernel) ⟨Nat.le_of_ble_eq_true rfl, Nat.le_of_ble_eq_true rfl⟩) hK hP hD hS hA 3 1 rfl rfl [3] [0, 1, 2] rfl rfl rfl rfl (by decide) rfl hl.1 rfl (Nat.le_of_ble_eq_true rfl) dX4_setEntry_39 ⟨Nat.le_of_ble_eq_true rfl, Nat.le_of_ble_eq_true rfl⟩ (fun w_7 H locs hv hP hD hS => ?_)
  obtain ⟨u_6, rfl⟩ : ∃ z, z = w_7 := ⟨_, rfl⟩
  have hP : va_P g.1 vwCl [(a_X, .inr (4, [.ref a_P, .ref a_X_levels, .ref a_E, .ref a_F, .ref a_R, .ref a_X_vector, .ref a_X_solution, .int X_solved, .int X_levelCount])), (a_P, .inr (2, [.int P_rows, .ref a_P_entries, .ref a_P_order, .ref a_P_places, .ref a_P_rights, .ref a_P_weights])), (a_P_entries, .inl (g.2.1, 256, .inl u_3)), (a_F, .inr (1, [.int u_6, .int F_rows, .ref a_F_pivots, .ref a_F_reciprocals, .ref a_F_below]))] H := hP.sub [0, 1, 2, 3] rfl
  have hD : va_D A [(a_X, .inr (4, [.ref a_P, .ref a_X_levels, .ref a_E, .ref a_F, .ref a_R, .ref a_X_vector, .ref a_X_solution, .int X_solved, .int X_levelCount])), (a_P, .inr (2, [.int P_rows, .ref a_P_entries, .ref a_P_order, .ref a_P_places, .ref a_P_rights, .ref a_P_weights])), (a_P_entries, .inl (g.2.1, 256, .inl u_3)), (a_F, .inr (1, [.int u_6, .int F_rows, .ref a_F_pivots, .ref a_F_reciprocals, .ref a_F_below]))] := hD.sub [0, 1, 2, 3] (by decide) rfl
  refine lv_iload hx hb dX4_setEntry_42 (lv_at hl 0 rfl) ?_
  exact vx_ret (cx_iret hx hb hr hlocks hAe hS (u_3, u_6) hv hP hD dX4_setEntry_44)
def wp_X4_entry (i_i : Int32) (i_j : Int32) (X_solved : Int32) (X_levelCount : Int32) (P_rows : Int32) (P_entries : (Nat → Int32)) (Q : Int32 → Prop) (X : String → Prop)   : Prop := wp_X4_needRow i_i X_solved X_levelCount P_rows (wp_X4_needRow i_j X_solved X_levelCount P_rows (wp_X2_entryAt i_i i_j P_rows P_entries (fun r_1 => Q r_1)) X) X
abbrev w0_X4_entry (g : cx_G) (a_X a_P a_X_levels a_E a_F a_R a_X_vector a_X_solution a_P_entries a_P_order a_P_places a_P_rights a_P_weights : Nat) (X_solved : Int32) (X_levelCount : Int32) (P_rows : Int32) (P_entries : (Nat → Int32)) : va_W := [(a_X, .inr (4, [.ref a_P, .ref a_X_levels, .ref a_E, .ref a_F, .ref a_R, .ref a_X_vector, .ref a_X_solution, .int X_solved, .int X_levelCount])), (a_P, .inr (2, [.int P_rows, .ref a_P_entries, .ref a_P_order, .ref a_P_places, .ref a_P_rights, .ref a_P_weights])), (a_P_entries, .inl (g.2.1, 256, .inl P_entries))]
set_option maxHeartbeats 4000000 in
set_option maxRecDepth 100000 in
theorem c_X4_entry (l : Launch) (hlt : l.stackTraces = false) (g : cx_G) (a_X a_P a_X_levels a_E a_F a_R a_X_vector a_X_solution a_P_entries a_P_order a_P_places a_P_rights a_P_weights : Nat) (i_i : Int32) (i_j : Int32) (X_solved : Int32) (X_levelCount : Int32) (P_rows : Int32) (P_entries : (Nat → Int32)) {Q : Int32 → Prop} {X : String → Prop} (hv : wp_X4_entry i_i i_j X_solved X_levelCount P_rows P_entries Q X) : cx_Ei l g yX4_entry (Cond.code yX4_entry cX4_entry 3 (some .int) :: cx_T) ({ frames := 7, cells := 2, slots := 12, locals := 111 } : Room) [.ref a_X, .int i_i, .int i_j] (w0_X4_entry g a_X a_P a_X_levels a_E a_F a_R a_X_vector a_X_solution a_P_entries a_P_order a_P_places a_P_rights a_P_weights X_solved X_levelCount P_rows P_entries) (fun (r : Int32) (_ : Unit) => Q r) (fun _ : Unit => (w0_X4_entry g a_X a_P a_X_levels a_E a_F a_R a_X_vector a_X_solution a_P_entries a_P_order a_P_places a_P_rights a_P_weights X_solved X_levelCount P_rows P_entries)) X 2 12 := by
  intro sz
  refine vx_ofW (cc := cX4_entry) (maxL := 3) (ret := (some .int)) (by decide) rfl ?_
  intro p e s m args below meth c s₁ B hml htab hpre
  obtain ⟨rfl, hsz, hP, hK, hD0, hKX, hZ⟩ := hpre
  have hx := B.exec
  have hb := B.bytes
  have hr := B.returns
  have hts0 := atoms_spec (ws := (Cond.code yX4_entry cX4_entry 3 (some .int) :: cx_T)) B.pre
  have hts : ∀ w ∈ cx_T, w.before _ s = true := fun w h => hts0 w (List.mem_cons_of_mem _ h)
  have hown : s.vm.findClass RX4 = some m.cls := findClass_of_methodNamed B.named
  have hlocks := B.notSynchronized
  subst hsz
  have hD := hD0.self (sz := s.heap.size)
  obtain ⟨A, hAe⟩ : ∃ A : Nat → Prop, A = va_A (w0_X4_entry g a_X a_P a_X_levels a_E a_F a_R a_X_vector a_X_solution a_P_entries a_P_order a_P_places a_P_rights a_P_weights X_solved X_levelCount P_rows P_entries) s.heap.size := ⟨_, rfl⟩
  rw [← hAe] at hD hZ
  have hA : ∀ q : Nat, s.heap.size ≤ q → A q := fun q h => by rw [hAe]; exact Or.inr h
  have hS : va_S A s.heap s.heap [] := va_S.rf
  have hP : va_P g.1 vwCl [(a_X, .inr (4, [.ref a_P, .ref a_X_levels, .ref a_E, .ref a_F, .ref a_R, .ref a_X_vector, .ref a_X_solution, .int X_solved, .int X_levelCount])), (a_P, .inr (2, [.int P_rows, .ref a_P_entries, .ref a_P_order, .ref a_P_places, .ref a_P_rights, .ref a_P_weights])), (a_P_entries, .inl (g.2.1, 256, .inl P_entries))] s.heap := hP
  have hD : va_D A [(a_X, .inr (4, [.ref a_P, .ref a_X_levels, .ref a_E, .ref a_F, .ref a_R, .ref a_X_vector, .ref a_X_solution, .int X_solved, .int X_levelCount])), (a_P, .inr (2, [.int P_rows, .ref a_P_entries, .ref a_P_order, .ref a_P_places, .ref a_P_rights, .ref a_P_weights])), (a_P_entries, .inl (g.2.1, 256, .inl P_entries))] := hD
  have hl := lv_entry ([.ref a_X, .int i_i, .int i_j]) (n := 3) (Nat.le_of_ble_eq_true rfl)
  rw [lg_entry_eq]
  generalize (lg_sl ([.ref a_X, .int i_i, .int i_j]) ++ List.replicate (3 - (lg_sl ([.ref a_X, .int i_i, .int i_j])).length) Slot.unset).toArray = ls at hl ⊢
  have hl : lv_has ls 3 [(0, .ref a_X), (1, .int i_i), (2, .int i_j)] := hl
  unfold wp_X4_entry at hv
  refine lv_aload_n hx hb dX4_entry_0 rfl (lv_at hl 0 rfl) ?_
  refine lv_iload_n hx hb dX4_entry_1 rfl (lv_at hl 1 rfl) ?_
  refine cx_vVp (As := [.int i_i]) (rest := []) ⟨hx, hb, hml, hown, hts⟩ (c_X4_needRow l hlt g a_X a_P a_X_levels a_E a_F a_R a_X_vector a_X_solution a_P_entries a_P_order a_P_places a_P_rights a_P_weights i_i X_solved X_levelCount P_rows hv) (cx_cwV 1 hts cw_m_X4_73 cw_i_X4_needRow cw_s_X4_needRow cw_n_X4 cw_c_X4_needRow rfl rfl (by decide +kernel) ⟨Nat.le_of_ble_eq_true rfl, Nat.le_of_ble_eq_true rfl⟩) hK hKX hZ hAe htab hlocks hP hD hS hA 0 4 rfl rfl [0, 1] rfl rfl rfl hl.1 rfl (Nat.le_of_ble_eq_true rfl) dX4_entry_2 ⟨Nat.le_of_ble_eq_true rfl, Nat.le_of_ble_eq_true rfl⟩ (Nat.le_of_ble_eq_true rfl) (Nat.le_of_ble_eq_true rfl) (fun H locs hv hP hS => ?_)
  refine W.widen (k := 1) (n := 6) (Nat.le_of_ble_eq_true rfl) (Nat.le_of_ble_eq_true rfl) ?_
  refine lv_aload_n hx hb dX4_entry_5 rfl (lv_at hl 0 rfl) ?_
  refine lv_iload_n hx hb dX4_entry_6 rfl (lv_at hl 2 rfl) ?_
  refine cx_vVp (As := [.int i_j]) (rest := []) ⟨hx, hb, hml, hown, hts⟩ (c_X4_needRow l hlt g a_X a_P a_X_levels a_E a_F a_R a_X_vector a_X_solution a_P_entries a_P_order a_P_places a_P_rights a_P_weights i_j X_solved X_levelCount P_rows hv) (cx_cwV 1 hts cw_m_X4_73 cw_i_X4_needRow cw_s_X4_needRow cw_n_X4 cw_c_X4_needRow rfl rfl (by decide +kernel) ⟨Nat.le_of_ble_eq_true rfl, Nat.le_of_ble_eq_true rfl⟩) hK hKX hZ hAe htab hlocks hP hD hS hA 0 4 rfl rfl [0, 1] rfl rfl rfl hl.1 rfl (Nat.le_of_ble_eq_true rfl) dX4_entry_7 ⟨Nat.le_of_ble_eq_true rfl, Nat.le_of_ble_eq_true rfl⟩ (Nat.le_of_ble_eq_true rfl) (Nat.le_of_ble_eq_true rfl) (fun H locs hv hP hS => ?_)
  refine W.widen (k := 2) (n := 12) (Nat.le_of_ble_eq_true rfl) (Nat.le_of_ble_eq_true rfl) ?_
  refine lv_aload_n hx hb dX4_entry_10 rfl (lv_at hl 0 rfl) ?_
  refine va_get (D := g.1) (ci := 4) (v := .ref a_P) (C := RX4) (T := TX4) (N := 9) hx hb hts cw_in_X4 hown hK.1 hP 0 rfl rfl 0 (by decide) (hts _ cw_f_X4_10) (fun _ h9 => h9) rfl dX4_entry_11 ?_
  refine lv_iload_n hx hb dX4_entry_14 rfl (lv_at hl 1 rfl) ?_
  refine lv_iload_n hx hb dX4_entry_15 rfl (lv_at hl 2 rfl) ?_
  refine cx_iVr (As := [.int i_i, .int i_j]) (rest := []) ⟨hx, hb, hml, hown, hts⟩ (c_X2_entryAt l g a_P a_P_entries a_P_order a_P_places a_P_rights a_P_weights i_i i_j P_rows P_entries hv) (cx_cwV 2 hts cw_m_X4_79 cw_i_X2_entryAt cw_s_X2_entryAt cw_n_X2 cw_c_X2_entryAt rfl rfl (by decide +kernel) ⟨Nat.le_of_ble_eq_true rfl, Nat.le_of_ble_eq_true rfl⟩) hK hP hD hS hA 1 2 rfl rfl [1, 2] rfl rfl rfl hl.1 rfl (Nat.le_of_ble_eq_true rfl) dX4_entry_16 ⟨Nat.le_of_ble_eq_true rfl, Nat.le_of_ble_eq_true rfl⟩ (fun r_1 H locs hv hP hS => ?_)
  exact vx_ret (cx_iret hx hb hr hlocks hAe hS () hv hP hD dX4_entry_19)
def wp_X4_swap (i_p : Int32) (i_q : Int32) (X_solved : Int32) (X_levelCount : Int32) (P_rows : Int32) (P_order : (Nat → Int32)) (P_places : (Nat → Int32)) (F_known : Int32) (F_rows : Int32) (Q : Int32 → (Nat → Int32) → (Nat → Int32) → Int32 → Prop) (X : String → Prop)   : Prop := wp_X4_needPosition i_p X_solved X_levelCount P_rows (wp_X4_needPosition i_q X_solved X_levelCount P_rows (wp_X2_exchange i_p i_q P_rows P_order P_places (fun u_2 u_3 => wp_X1_forget F_known F_rows (fun u_6 => (i_p = i_q → (Q 0 u_2 u_3 u_6)) ∧ (¬ i_p = i_q → (Q 1 u_2 u_3 u_6))))) X) X
abbrev w0_X4_swap (g : cx_G) (a_X a_P a_X_levels a_E a_F a_R a_X_vector a_X_solution a_P_entries a_P_order a_P_places a_P_rights a_P_weights a_F_pivots a_F_reciprocals a_F_below : Nat) (X_solved : Int32) (X_levelCount : Int32) (P_rows : Int32) (P_order : (Nat → Int32)) (P_places : (Nat → Int32)) (F_known : Int32) (F_rows : Int32) : va_W := [(a_X, .inr (4, [.ref a_P, .ref a_X_levels, .ref a_E, .ref a_F, .ref a_R, .ref a_X_vector, .ref a_X_solution, .int X_solved, .int X_levelCount])), (a_P, .inr (2, [.int P_rows, .ref a_P_entries, .ref a_P_order, .ref a_P_places, .ref a_P_rights, .ref a_P_weights])), (a_P_order, .inl (g.2.1, 16, .inl P_order)), (a_P_places, .inl (g.2.1, 16, .inl P_places)), (a_F, .inr (1, [.int F_known, .int F_rows, .ref a_F_pivots, .ref a_F_reciprocals, .ref a_F_below]))]
abbrev w1_X4_swap (g : cx_G) (a_X a_P a_X_levels a_E a_F a_R a_X_vector a_X_solution a_P_entries a_P_order a_P_places a_P_rights a_P_weights a_F_pivots a_F_reciprocals a_F_below : Nat) (X_solved : Int32) (X_levelCount : Int32) (P_rows : Int32) (P_order : (Nat → Int32)) (P_places : (Nat → Int32)) (F_known : Int32) (F_rows : Int32) (u : (Nat → Int32) × (Nat → Int32) × Int32) : va_W := [(a_X, .inr (4, [.ref a_P, .ref a_X_levels, .ref a_E, .ref a_F, .ref a_R, .ref a_X_vector, .ref a_X_solution, .int X_solved, .int X_levelCount])), (a_P, .inr (2, [.int P_rows, .ref a_P_entries, .ref a_P_order, .ref a_P_places, .ref a_P_rights, .ref a_P_weights])), (a_P_order, .inl (g.2.1, 16, .inl u.1)), (a_P_places, .inl (g.2.1, 16, .inl u.2.1)), (a_F, .inr (1, [.int u.2.2, .int F_rows, .ref a_F_pivots, .ref a_F_reciprocals, .ref a_F_below]))]
set_option maxHeartbeats 4000000 in
set_option maxRecDepth 100000 in
theorem c_X4_swap (l : Launch) (hlt : l.stackTraces = false) (g : cx_G) (a_X a_P a_X_levels a_E a_F a_R a_X_vector a_X_solution a_P_entries a_P_order a_P_places a_P_rights a_P_weights a_F_pivots a_F_reciprocals a_F_below : Nat) (i_p : Int32) (i_q : Int32) (X_solved : Int32) (X_levelCount : Int32) (P_rows : Int32) (P_order : (Nat → Int32)) (P_places : (Nat → Int32)) (F_known : Int32) (F_rows : Int32) {Q : Int32 → (Nat → Int32) → (Nat → Int32) → Int32 → Prop} {X : String → Prop} (hv : wp_X4_swap i_p i_q X_solved X_levelCount P_rows P_order P_places F_known F_rows Q X) : cx_Ei l g yX4_swap (Cond.code yX4_swap cX4_swap 3 (some .boolean) :: cx_T) ({ frames := 7, cells := 2, slots := 12, locals := 111 } : Room) [.ref a_X, .int i_p, .int i_q] (w0_X4_swap g a_X a_P a_X_levels a_E a_F a_R a_X_vector a_X_solution a_P_entries a_P_order a_P_places a_P_rights a_P_weights a_F_pivots a_F_reciprocals a_F_below X_solved X_levelCount P_rows P_order P_places F_known F_rows) (fun (r : Int32) (u : (Nat → Int32) × (Nat → Int32) × Int32) => Q r u.1 u.2.1 u.2.2) (w1_X4_swap g a_X a_P a_X_levels a_E a_F a_R a_X_vector a_X_solution a_P_entries a_P_order a_P_places a_P_rights a_P_weights a_F_pivots a_F_reciprocals a_F_below X_solved X_levelCount P_rows P_order P_places F_known F_rows) X 2 12 := by
  intro sz
  refine vx_ofW (cc := cX4_swap) (maxL := 3) (ret := (some .boolean)) (by decide) rfl ?_
  intro p e s m args below meth c s₁ B hml htab hpre
  obtain ⟨rfl, hsz, hP, hK, hD0, hKX, hZ⟩ := hpre
  have hx := B.exec
  have hb := B.bytes
  have hr := B.returns
  have hts0 := atoms_spec (ws := (Cond.code yX4_swap cX4_swap 3 (some .boolean) :: cx_T)) B.pre
  have hts : ∀ w ∈ cx_T, w.before _ s = true := fun w h => hts0 w (List.mem_cons_of_mem _ h)
  have hown : s.vm.findClass RX4 = some m.cls := findClass_of_methodNamed B.named
  have hlocks := B.notSynchronized
  subst hsz
  have hD := hD0.self (sz := s.heap.size)
  obtain ⟨A, hAe⟩ : ∃ A : Nat → Prop, A = va_A (w0_X4_swap g a_X a_P a_X_levels a_E a_F a_R a_X_vector a_X_solution a_P_entries a_P_order a_P_places a_P_rights a_P_weights a_F_pivots a_F_reciprocals a_F_below X_solved X_levelCount P_rows P_order P_places F_known F_rows) s.heap.size := ⟨_, rfl⟩
  rw [← hAe] at hD hZ
  have hA : ∀ q : Nat, s.heap.size ≤ q → A q := fun q h => by rw [hAe]; exact Or.inr h
  have hS : va_S A s.heap s.heap [] := va_S.rf
  have hP : va_P g.1 vwCl [(a_X, .inr (4, [.ref a_P, .ref a_X_levels, .ref a_E, .ref a_F, .ref a_R, .ref a_X_vector, .ref a_X_solution, .int X_solved, .int X_levelCount])), (a_P, .inr (2, [.int P_rows, .ref a_P_entries, .ref a_P_order, .ref a_P_places, .ref a_P_rights, .ref a_P_weights])), (a_P_order, .inl (g.2.1, 16, .inl P_order)), (a_P_places, .inl (g.2.1, 16, .inl P_places)), (a_F, .inr (1, [.int F_known, .int F_rows, .ref a_F_pivots, .ref a_F_reciprocals, .ref a_F_below]))] s.heap := hP
  have hD : va_D A [(a_X, .inr (4, [.ref a_P, .ref a_X_levels, .ref a_E, .ref a_F, .ref a_R, .ref a_X_vector, .ref a_X_solution, .int X_solved, .int X_levelCount])), (a_P, .inr (2, [.int P_rows, .ref a_P_entries, .ref a_P_order, .ref a_P_places, .ref a_P_rights, .ref a_P_weights])), (a_P_order, .inl (g.2.1, 16, .inl P_order)), (a_P_places, .inl (g.2.1, 16, .inl P_places)), (a_F, .inr (1, [.int F_known, .int F_rows, .ref a_F_pivots, .ref a_F_reciprocals, .ref a_F_below]))] := hD
  have hl := lv_entry ([.ref a_X, .int i_p, .int i_q]) (n := 3) (Nat.le_of_ble_eq_true rfl)
  rw [lg_entry_eq]
  generalize (lg_sl ([.ref a_X, .int i_p, .int i_q]) ++ List.replicate (3 - (lg_sl ([.ref a_X, .int i_p, .int i_q])).length) Slot.unset).toArray = ls at hl ⊢
  have hl : lv_has ls 3 [(0, .ref a_X), (1, .int i_p), (2, .int i_q)] := hl
  unfold wp_X4_swap at hv
  refine lv_aload_n hx hb dX4_swap_0 rfl (lv_at hl 0 rfl) ?_
  refine lv_iload_n hx hb dX4_swap_1 rfl (lv_at hl 1 rfl) ?_
  refine cx_vVp (As := [.int i_p]) (rest := []) ⟨hx, hb, hml, hown, hts⟩ (c_X4_needPosition l hlt g a_X a_P a_X_levels a_E a_F a_R a_X_vector a_X_solution a_P_entries a_P_order a_P_places a_P_rights a_P_weights i_p X_solved X_levelCount P_rows hv) (cx_cwV 1 hts cw_m_X4_95 cw_i_X4_needPosition cw_s_X4_needPosition cw_n_X4 cw_c_X4_needPosition rfl rfl (by decide +kernel) ⟨Nat.le_of_ble_eq_true rfl, Nat.le_of_ble_eq_true rfl⟩) hK hKX hZ hAe htab hlocks hP hD hS hA 0 4 rfl rfl [0, 1] rfl rfl rfl hl.1 rfl (Nat.le_of_ble_eq_true rfl) dX4_swap_2 ⟨Nat.le_of_ble_eq_true rfl, Nat.le_of_ble_eq_true rfl⟩ (Nat.le_of_ble_eq_true rfl) (Nat.le_of_ble_eq_true rfl) (fun H locs hv hP hS => ?_)
  refine W.widen (k := 1) (n := 6) (Nat.le_of_ble_eq_true rfl) (Nat.le_of_ble_eq_true rfl) ?_
  refine lv_aload_n hx hb dX4_swap_5 rfl (lv_at hl 0 rfl) ?_
  refine lv_iload_n hx hb dX4_swap_6 rfl (lv_at hl 2 rfl) ?_
  refine cx_vVp (As := [.int i_q]) (rest := []) ⟨hx, hb, hml, hown, hts⟩ (c_X4_needPosition l hlt g a_X a_P a_X_levels a_E a_F a_R a_X_vector a_X_solution a_P_entries a_P_order a_P_places a_P_rights a_P_weights i_q X_solved X_levelCount P_rows hv) (cx_cwV 1 hts cw_m_X4_95 cw_i_X4_needPosition cw_s_X4_needPosition cw_n_X4 cw_c_X4_needPosition rfl rfl (by decide +kernel) ⟨Nat.le_of_ble_eq_true rfl, Nat.le_of_ble_eq_true rfl⟩) hK hKX hZ hAe htab hlocks hP hD hS hA 0 4 rfl rfl [0, 1] rfl rfl rfl hl.1 rfl (Nat.le_of_ble_eq_true rfl) dX4_swap_7 ⟨Nat.le_of_ble_eq_true rfl, Nat.le_of_ble_eq_true rfl⟩ (Nat.le_of_ble_eq_true rfl) (Nat.le_of_ble_eq_true rfl) (fun H locs hv hP hS => ?_)
  refine W.widen (k := 2) (n := 12) (Nat.le_of_ble_eq_true rfl) (Nat.le_of_ble_eq_true rfl) ?_
  refine lv_aload_n hx hb dX4_swap_10 rfl (lv_at hl 0 rfl) ?_
  refine va_get (D := g.1) (ci := 4) (v := .ref a_P) (C := RX4) (T := TX4) (N := 9) hx hb hts cw_in_X4 hown hK.1 hP 0 rfl rfl 0 (by decide) (hts _ cw_f_X4_10) (fun _ h9 => h9) rfl dX4_swap_11 ?_
  refine lv_iload_n hx hb dX4_swap_14 rfl (lv_at hl 1 rfl) ?_
  refine lv_iload_n hx hb dX4_swap_15 rfl (lv_at hl 2 rfl) ?_
  refine cx_vV (wr := [(a_X, .inr (4, [.ref a_P, .ref a_X_levels, .ref a_E, .ref a_F, .ref a_R, .ref a_X_vector, .ref a_X_solution, .int X_solved, .int X_levelCount])), (a_F, .inr (1, [.int F_known, .int F_rows, .ref a_F_pivots, .ref a_F_reciprocals, .ref a_F_below]))]) (As := [.int i_p, .int i_q]) (rest := []) ⟨hx, hb, hml, hown, hts⟩ (c_X2_exchange l g a_P a_P_entries a_P_order a_P_places a_P_rights a_P_weights i_p i_q P_rows P_order P_places hv) (cx_cwV 2 hts cw_m_X4_98 cw_i_X2_exchange cw_s_X2_exchange cw_n_X2 cw_c_X2_exchange rfl rfl (by decide +kernel) ⟨Nat.le_of_ble_eq_true rfl, Nat.le_of_ble_eq_true rfl⟩) hK hP hD hS hA 1 2 rfl rfl [1, 2, 3] [0, 4] rfl rfl rfl rfl (by decide) rfl hl.1 rfl (Nat.le_of_ble_eq_true rfl) dX4_swap_16 ⟨Nat.le_of_ble_eq_true rfl, Nat.le_of_ble_eq_true rfl⟩ (fun w_4 H locs hv hP hD hS => ?_)
  obtain ⟨u_2, u_3⟩ := w_4
  have hP : va_P g.1 vwCl [(a_X, .inr (4, [.ref a_P, .ref a_X_levels, .ref a_E, .ref a_F, .ref a_R, .ref a_X_vector, .ref a_X_solution, .int X_solved, .int X_levelCount])), (a_P, .inr (2, [.int P_rows, .ref a_P_entries, .ref a_P_order, .ref a_P_places, .ref a_P_rights, .ref a_P_weights])), (a_P_order, .inl (g.2.1, 16, .inl u_2)), (a_P_places, .inl (g.2.1, 16, .inl u_3)), (a_F, .inr (1, [.int F_known, .int F_rows, .ref a_F_pivots, .ref a_F_reciprocals, .ref a_F_below]))] H := hP.sub [0, 2, 3, 4, 1] rfl
  have hD : va_D A [(a_X, .inr (4, [.ref a_P, .ref a_X_levels, .ref a_E, .ref a_F, .ref a_R, .ref a_X_vector, .ref a_X_solution, .int X_solved, .int X_levelCount])), (a_P, .inr (2, [.int P_rows, .ref a_P_entries, .ref a_P_order, .ref a_P_places, .ref a_P_rights, .ref a_P_weights])), (a_P_order, .inl (g.2.1, 16, .inl u_2)), (a_P_places, .inl (g.2.1, 16, .inl u_3)), (a_F, .inr (1, [.int F_known, .int F_rows, .ref a_F_pivots, .ref a_F_reciprocals, .ref a_F_below]))] := hD.sub [0, 2, 3, 4, 1] (by decide) rfl
  refine lv_aload_n hx hb dX4_swap_19 rfl (lv_at hl 0 rfl) ?_
  refine va_get (D := g.1) (ci := 4) (v := .ref a_F) (C := RX4) (T := TX4) (N := 9) hx hb hts cw_in_X4 hown hK.1 hP 0 rfl rfl 3 (by decide) (hts _ cw_f_X4_30) (fun _ h9 => h9) rfl dX4_swap_20 ?_
  refine cx_vV (wr := [(a_X, .inr (4, [.ref a_P, .ref a_X_levels, .ref a_E, .ref a_F, .ref a_R, .ref a_X_vector, .ref a_X_solution, .int X_solved, .int X_levelCount])), (a_P, .inr (2, [.int P_rows, .ref a_P_entries, .ref a_P_order, .ref a_P_places, .ref a_P_rights, .ref a_P_weights])), (a_P_order, .inl (g.2.1, 16, .inl u_2)), (a_P_places, .inl (g.2.1, 16, .inl u_3))]) (As := []) (rest := []) ⟨hx, hb, hml, hown, hts⟩ (c_X1_forget l g a_F a_F_pivots a_F_reciprocals a_F_below F_known F_rows hv) (cx_cwV 0 hts cw_m_X4_67 cw_i_X1_forget cw_s_X1_forget cw_n_X1 cw_c_X1_forget rfl rfl (by decide +kernel) ⟨Nat.le_of_ble_eq_true rfl, Nat.le_of_ble_eq_true rfl⟩) hK hP hD hS hA 4 1 rfl rfl [4] [0, 1, 2, 3] rfl rfl rfl rfl (by decide) rfl hl.1 rfl (Nat.le_of_ble_eq_true rfl) dX4_swap_23 ⟨Nat.le_of_ble_eq_true rfl, Nat.le_of_ble_eq_true rfl⟩ (fun w_7 H locs hv hP hD hS => ?_)
  obtain ⟨u_6, rfl⟩ : ∃ z, z = w_7 := ⟨_, rfl⟩
  have hP : va_P g.1 vwCl [(a_X, .inr (4, [.ref a_P, .ref a_X_levels, .ref a_E, .ref a_F, .ref a_R, .ref a_X_vector, .ref a_X_solution, .int X_solved, .int X_levelCount])), (a_P, .inr (2, [.int P_rows, .ref a_P_entries, .ref a_P_order, .ref a_P_places, .ref a_P_rights, .ref a_P_weights])), (a_P_order, .inl (g.2.1, 16, .inl u_2)), (a_P_places, .inl (g.2.1, 16, .inl u_3)), (a_F, .inr (1, [.int u_6, .int F_rows, .ref a_F_pivots, .ref a_F_reciprocals, .ref a_F_below]))] H := hP.sub [0, 1, 2, 3, 4] rfl
  have hD : va_D A [(a_X, .inr (4, [.ref a_P, .ref a_X_levels, .ref a_E, .ref a_F, .ref a_R, .ref a_X_vector, .ref a_X_solution, .int X_solved, .int X_levelCount])), (a_P, .inr (2, [.int P_rows, .ref a_P_entries, .ref a_P_order, .ref a_P_places, .ref a_P_rights, .ref a_P_weights])), (a_P_order, .inl (g.2.1, 16, .inl u_2)), (a_P_places, .inl (g.2.1, 16, .inl u_3)), (a_F, .inr (1, [.int u_6, .int F_rows, .ref a_F_pivots, .ref a_F_reciprocals, .ref a_F_below]))] := hD.sub [0, 1, 2, 3, 4] (by decide) rfl
  refine lv_iload_n hx hb dX4_swap_26 rfl (lv_at hl 1 rfl) ?_
  refine lv_iload_n hx hb dX4_swap_27 rfl (lv_at hl 2 rfl) ?_
  refine lv_icmp_eq (tgt := 35) hx hb dX4_swap_28 (by decide) (fun hc => ?_) (fun hc => ?_)
  · replace hv := hv.1 hc
    refine lv_iconst (v := 0) hx hb dX4_swap_35 (by decide) ?_
    exact vx_ret (cx_zret hx hb hr rfl hlocks hAe hS (u_2, u_3, u_6) hv hP hD dX4_swap_36)
  · replace hv := hv.2 hc
    refine lv_iconst (v := 1) hx hb dX4_swap_31 (by decide) ?_
    refine lv_goto (tgt := 36) hx hb dX4_swap_32 (by decide) ?_
    exact vx_ret (cx_zret hx hb hr rfl hlocks hAe hS (u_2, u_3, u_6) hv hP hD dX4_swap_36)
def wp_X4_position (i_i : Int32) (X_solved : Int32) (X_levelCount : Int32) (P_rows : Int32) (P_places : (Nat → Int32)) (Q : Int32 → Prop) (X : String → Prop)   : Prop := wp_X4_needRow i_i X_solved X_levelCount P_rows (vp_in i_i 16 ∧ (Q (P_places (Int32.toNatClampNeg i_i)))) X
abbrev w0_X4_position (g : cx_G) (a_X a_P a_X_levels a_E a_F a_R a_X_vector a_X_solution a_P_entries a_P_order a_P_places a_P_rights a_P_weights : Nat) (X_solved : Int32) (X_levelCount : Int32) (P_rows : Int32) (P_places : (Nat → Int32)) : va_W := [(a_X, .inr (4, [.ref a_P, .ref a_X_levels, .ref a_E, .ref a_F, .ref a_R, .ref a_X_vector, .ref a_X_solution, .int X_solved, .int X_levelCount])), (a_P, .inr (2, [.int P_rows, .ref a_P_entries, .ref a_P_order, .ref a_P_places, .ref a_P_rights, .ref a_P_weights])), (a_P_places, .inl (g.2.1, 16, .inl P_places))]
set_option maxHeartbeats 4000000 in
set_option maxRecDepth 100000 in
theorem c_X4_position (l : Launch) (hlt : l.stackTraces = false) (g : cx_G) (a_X a_P a_X_levels a_E a_F a_R a_X_vector a_X_solution a_P_entries a_P_order a_P_places a_P_rights a_P_weights : Nat) (i_i : Int32) (X_solved : Int32) (X_levelCount : Int32) (P_rows : Int32) (P_places : (Nat → Int32)) {Q : Int32 → Prop} {X : String → Prop} (hv : wp_X4_position i_i X_solved X_levelCount P_rows P_places Q X) : cx_Ei l g yX4_position (Cond.code yX4_position cX4_position 2 (some .int) :: cx_T) ({ frames := 7, cells := 1, slots := 6, locals := 111 } : Room) [.ref a_X, .int i_i] (w0_X4_position g a_X a_P a_X_levels a_E a_F a_R a_X_vector a_X_solution a_P_entries a_P_order a_P_places a_P_rights a_P_weights X_solved X_levelCount P_rows P_places) (fun (r : Int32) (_ : Unit) => Q r) (fun _ : Unit => (w0_X4_position g a_X a_P a_X_levels a_E a_F a_R a_X_vector a_X_solution a_P_entries a_P_order a_P_places a_P_rights a_P_weights X_solved X_levelCount P_rows P_places)) X 1 6 := by
  intro sz
  refine vx_ofW (cc := cX4_position) (maxL := 2) (ret := (some .int)) (by decide) rfl ?_
  intro p e s m args below meth c s₁ B hml htab hpre
  obtain ⟨rfl, hsz, hP, hK, hD0, hKX, hZ⟩ := hpre
  have hx := B.exec
  have hb := B.bytes
  have hr := B.returns
  have hts0 := atoms_spec (ws := (Cond.code yX4_position cX4_position 2 (some .int) :: cx_T)) B.pre
  have hts : ∀ w ∈ cx_T, w.before _ s = true := fun w h => hts0 w (List.mem_cons_of_mem _ h)
  have hown : s.vm.findClass RX4 = some m.cls := findClass_of_methodNamed B.named
  have hlocks := B.notSynchronized
  subst hsz
  have hD := hD0.self (sz := s.heap.size)
  obtain ⟨A, hAe⟩ : ∃ A : Nat → Prop, A = va_A (w0_X4_position g a_X a_P a_X_levels a_E a_F a_R a_X_vector a_X_solution a_P_entries a_P_order a_P_places a_P_rights a_P_weights X_solved X_levelCount P_rows P_places) s.heap.size := ⟨_, rfl⟩
  rw [← hAe] at hD hZ
  have hA : ∀ q : Nat, s.heap.size ≤ q → A q := fun q h => by rw [hAe]; exact Or.inr h
  have hS : va_S A s.heap s.heap [] := va_S.rf
  have hP : va_P g.1 vwCl [(a_X, .inr (4, [.ref a_P, .ref a_X_levels, .ref a_E, .ref a_F, .ref a_R, .ref a_X_vector, .ref a_X_solution, .int X_solved, .int X_levelCount])), (a_P, .inr (2, [.int P_rows, .ref a_P_entries, .ref a_P_order, .ref a_P_places, .ref a_P_rights, .ref a_P_weights])), (a_P_places, .inl (g.2.1, 16, .inl P_places))] s.heap := hP
  have hD : va_D A [(a_X, .inr (4, [.ref a_P, .ref a_X_levels, .ref a_E, .ref a_F, .ref a_R, .ref a_X_vector, .ref a_X_solution, .int X_solved, .int X_levelCount])), (a_P, .inr (2, [.int P_rows, .ref a_P_entries, .ref a_P_order, .ref a_P_places, .ref a_P_rights, .ref a_P_weights])), (a_P_places, .inl (g.2.1, 16, .inl P_places))] := hD
  have hl := lv_entry ([.ref a_X, .int i_i]) (n := 2) (Nat.le_of_ble_eq_true rfl)
  rw [lg_entry_eq]
  generalize (lg_sl ([.ref a_X, .int i_i]) ++ List.replicate (2 - (lg_sl ([.ref a_X, .int i_i])).length) Slot.unset).toArray = ls at hl ⊢
  have hl : lv_has ls 2 [(0, .ref a_X), (1, .int i_i)] := hl
  unfold wp_X4_position at hv
  refine lv_aload_n hx hb dX4_position_0 rfl (lv_at hl 0 rfl) ?_
  refine lv_iload_n hx hb dX4_position_1 rfl (lv_at hl 1 rfl) ?_
  refine cx_vVp (As := [.int i_i]) (rest := []) ⟨hx, hb, hml, hown, hts⟩ (c_X4_needRow l hlt g a_X a_P a_X_levels a_E a_F a_R a_X_vector a_X_solution a_P_entries a_P_order a_P_places a_P_rights a_P_weights i_i X_solved X_levelCount P_rows hv) (cx_cwV 1 hts cw_m_X4_73 cw_i_X4_needRow cw_s_X4_needRow cw_n_X4 cw_c_X4_needRow rfl rfl (by decide +kernel) ⟨Nat.le_of_ble_eq_true rfl, Nat.le_of_ble_eq_true rfl⟩) hK hKX hZ hAe htab hlocks hP hD hS hA 0 4 rfl rfl [0, 1] rfl rfl rfl hl.1 rfl (Nat.le_of_ble_eq_true rfl) dX4_position_2 ⟨Nat.le_of_ble_eq_true rfl, Nat.le_of_ble_eq_true rfl⟩ (Nat.le_of_ble_eq_true rfl) (Nat.le_of_ble_eq_true rfl) (fun H locs hv hP hS => ?_)
  refine W.widen (k := 1) (n := 6) (Nat.le_of_ble_eq_true rfl) (Nat.le_of_ble_eq_true rfl) ?_
  refine lv_aload_n hx hb dX4_position_5 rfl (lv_at hl 0 rfl) ?_
  refine va_get (D := g.1) (ci := 4) (v := .ref a_P) (C := RX4) (T := TX4) (N := 9) hx hb hts cw_in_X4 hown hK.1 hP 0 rfl rfl 0 (by decide) (hts _ cw_f_X4_10) (fun _ h9 => h9) rfl dX4_position_6 ?_
  refine va_get (D := g.1) (ci := 2) (v := .ref a_P_places) (C := RX2) (T := TX2) (N := 6) hx hb hts cw_in_X2 hown hK.1 hP 1 rfl rfl 3 (by decide) (hts _ cw_f_X4_112) (fun _ h9 => h9) rfl dX4_position_9 ?_
  refine lv_iload_n hx hb dX4_position_12 rfl (lv_at hl 1 rfl) ?_
  obtain ⟨h_1, hv⟩ := hv
  refine va_iald (D := g.1) hx hb hK.1 hP 2 0 rfl rfl h_1 dX4_position_13 ?_
  exact vx_ret (cx_iret hx hb hr hlocks hAe hS () hv hP hD dX4_position_14)
def wp_X4_rowAt (i_p : Int32) (X_solved : Int32) (X_levelCount : Int32) (P_rows : Int32) (P_order : (Nat → Int32)) (Q : Int32 → Prop) (X : String → Prop)   : Prop := wp_X4_needPosition i_p X_solved X_levelCount P_rows (vp_in i_p 16 ∧ (Q (P_order (Int32.toNatClampNeg i_p)))) X
abbrev w0_X4_rowAt (g : cx_G) (a_X a_P a_X_levels a_E a_F a_R a_X_vector a_X_solution a_P_entries a_P_order a_P_places a_P_rights a_P_weights : Nat) (X_solved : Int32) (X_levelCount : Int32) (P_rows : Int32) (P_order : (Nat → Int32)) : va_W := [(a_X, .inr (4, [.ref a_P, .ref a_X_levels, .ref a_E, .ref a_F, .ref a_R, .ref a_X_vector, .ref a_X_solution, .int X_solved, .int X_levelCount])), (a_P, .inr (2, [.int P_rows, .ref a_P_entries, .ref a_P_order, .ref a_P_places, .ref a_P_rights, .ref a_P_weights])), (a_P_order, .inl (g.2.1, 16, .inl P_order))]
set_option maxHeartbeats 4000000 in
set_option maxRecDepth 100000 in
theorem c_X4_rowAt (l : Launch) (hlt : l.stackTraces = false) (g : cx_G) (a_X a_P a_X_levels a_E a_F a_R a_X_vector a_X_solution a_P_entries a_P_order a_P_places a_P_rights a_P_weights : Nat) (i_p : Int32) (X_solved : Int32) (X_levelCount : Int32) (P_rows : Int32) (P_order : (Nat → Int32)) {Q : Int32 → Prop} {X : String → Prop} (hv : wp_X4_rowAt i_p X_solved X_levelCount P_rows P_order Q X) : cx_Ei l g yX4_rowAt (Cond.code yX4_rowAt cX4_rowAt 2 (some .int) :: cx_T) ({ frames := 7, cells := 1, slots := 6, locals := 111 } : Room) [.ref a_X, .int i_p] (w0_X4_rowAt g a_X a_P a_X_levels a_E a_F a_R a_X_vector a_X_solution a_P_entries a_P_order a_P_places a_P_rights a_P_weights X_solved X_levelCount P_rows P_order) (fun (r : Int32) (_ : Unit) => Q r) (fun _ : Unit => (w0_X4_rowAt g a_X a_P a_X_levels a_E a_F a_R a_X_vector a_X_solution a_P_entries a_P_order a_P_places a_P_rights a_P_weights X_solved X_levelCount P_rows P_order)) X 1 6 := by
  intro sz
  refine vx_ofW (cc := cX4_rowAt) (maxL := 2) (ret := (some .int)) (by decide) rfl ?_
  intro p e s m args below meth c s₁ B hml htab hpre
  obtain ⟨rfl, hsz, hP, hK, hD0, hKX, hZ⟩ := hpre
  have hx := B.exec
  have hb := B.bytes
  have hr := B.returns
  have hts0 := atoms_spec (ws := (Cond.code yX4_rowAt cX4_rowAt 2 (some .int) :: cx_T)) B.pre
  have hts : ∀ w ∈ cx_T, w.before _ s = true := fun w h => hts0 w (List.mem_cons_of_mem _ h)
  have hown : s.vm.findClass RX4 = some m.cls := findClass_of_methodNamed B.named
  have hlocks := B.notSynchronized
  subst hsz
  have hD := hD0.self (sz := s.heap.size)
  obtain ⟨A, hAe⟩ : ∃ A : Nat → Prop, A = va_A (w0_X4_rowAt g a_X a_P a_X_levels a_E a_F a_R a_X_vector a_X_solution a_P_entries a_P_order a_P_places a_P_rights a_P_weights X_solved X_levelCount P_rows P_order) s.heap.size := ⟨_, rfl⟩
  rw [← hAe] at hD hZ
  have hA : ∀ q : Nat, s.heap.size ≤ q → A q := fun q h => by rw [hAe]; exact Or.inr h
  have hS : va_S A s.heap s.heap [] := va_S.rf
  have hP : va_P g.1 vwCl [(a_X, .inr (4, [.ref a_P, .ref a_X_levels, .ref a_E, .ref a_F, .ref a_R, .ref a_X_vector, .ref a_X_solution, .int X_solved, .int X_levelCount])), (a_P, .inr (2, [.int P_rows, .ref a_P_entries, .ref a_P_order, .ref a_P_places, .ref a_P_rights, .ref a_P_weights])), (a_P_order, .inl (g.2.1, 16, .inl P_order))] s.heap := hP
  have hD : va_D A [(a_X, .inr (4, [.ref a_P, .ref a_X_levels, .ref a_E, .ref a_F, .ref a_R, .ref a_X_vector, .ref a_X_solution, .int X_solved, .int X_levelCount])), (a_P, .inr (2, [.int P_rows, .ref a_P_entries, .ref a_P_order, .ref a_P_places, .ref a_P_rights, .ref a_P_weights])), (a_P_order, .inl (g.2.1, 16, .inl P_order))] := hD
  have hl := lv_entry ([.ref a_X, .int i_p]) (n := 2) (Nat.le_of_ble_eq_true rfl)
  rw [lg_entry_eq]
  generalize (lg_sl ([.ref a_X, .int i_p]) ++ List.replicate (2 - (lg_sl ([.ref a_X, .int i_p])).length) Slot.unset).toArray = ls at hl ⊢
  have hl : lv_has ls 2 [(0, .ref a_X), (1, .int i_p)] := hl
  unfold wp_X4_rowAt at hv
  refine lv_aload_n hx hb dX4_rowAt_0 rfl (lv_at hl 0 rfl) ?_
  refine lv_iload_n hx hb dX4_rowAt_1 rfl (lv_at hl 1 rfl) ?_
  refine cx_vVp (As := [.int i_p]) (rest := []) ⟨hx, hb, hml, hown, hts⟩ (c_X4_needPosition l hlt g a_X a_P a_X_levels a_E a_F a_R a_X_vector a_X_solution a_P_entries a_P_order a_P_places a_P_rights a_P_weights i_p X_solved X_levelCount P_rows hv) (cx_cwV 1 hts cw_m_X4_95 cw_i_X4_needPosition cw_s_X4_needPosition cw_n_X4 cw_c_X4_needPosition rfl rfl (by decide +kernel) ⟨Nat.le_of_ble_eq_true rfl, Nat.le_of_ble_eq_true rfl⟩) hK hKX hZ hAe htab hlocks hP hD hS hA 0 4 rfl rfl [0, 1] rfl rfl rfl hl.1 rfl (Nat.le_of_ble_eq_true rfl) dX4_rowAt_2 ⟨Nat.le_of_ble_eq_true rfl, Nat.le_of_ble_eq_true rfl⟩ (Nat.le_of_ble_eq_true rfl) (Nat.le_of_ble_eq_true rfl) (fun H locs hv hP hS => ?_)
  refine W.widen (k := 1) (n := 6) (Nat.le_of_ble_eq_true rfl) (Nat.le_of_ble_eq_true rfl) ?_
  refine lv_aload_n hx hb dX4_rowAt_5 rfl (lv_at hl 0 rfl) ?_
  refine va_get (D := g.1) (ci := 4) (v := .ref a_P) (C := RX4) (T := TX4) (N := 9) hx hb hts cw_in_X4 hown hK.1 hP 0 rfl rfl 0 (by decide) (hts _ cw_f_X4_10) (fun _ h9 => h9) rfl dX4_rowAt_6 ?_
  refine va_get (D := g.1) (ci := 2) (v := .ref a_P_order) (C := RX2) (T := TX2) (N := 6) hx hb hts cw_in_X2 hown hK.1 hP 1 rfl rfl 2 (by decide) (hts _ cw_f_X4_115) (fun _ h9 => h9) rfl dX4_rowAt_9 ?_
  refine lv_iload_n hx hb dX4_rowAt_12 rfl (lv_at hl 1 rfl) ?_
  obtain ⟨h_1, hv⟩ := hv
  refine va_iald (D := g.1) hx hb hK.1 hP 2 0 rfl rfl h_1 dX4_rowAt_13 ?_
  exact vx_ret (cx_iret hx hb hr hlocks hAe hS () hv hP hD dX4_rowAt_14)
def wp_X4_isJoined (i_i : Int32) (i_j : Int32) (X_solved : Int32) (X_levelCount : Int32) (P_rows : Int32) (P_entries : (Nat → Int32)) (E_joined : (Nat → Int32)) (P_order : (Nat → Int32)) (E_later : (Nat → Int32)) (E_paths : (Nat → Int32)) (Q : Int32 → (Nat → Int32) → (Nat → Int32) → (Nat → Int32) → Prop) (X : String → Prop)   : Prop := wp_X4_needRow i_i X_solved X_levelCount P_rows (wp_X4_needRow i_j X_solved X_levelCount P_rows (wp_X0_run P_rows P_entries E_joined P_order E_later E_paths (fun u_2 u_3 u_4 => vp_in i_i 16 ∧ (((f_has (u_3 (Int32.toNatClampNeg i_i)) i_j) = 0 → (vp_in i_j 16 ∧ (((f_has (u_3 (Int32.toNatClampNeg i_j)) i_i) = 0 → (Q 0 u_2 u_3 u_4)) ∧ (¬ (f_has (u_3 (Int32.toNatClampNeg i_j)) i_i) = 0 → (Q 1 u_2 u_3 u_4))))) ∧ (¬ (f_has (u_3 (Int32.toNatClampNeg i_i)) i_j) = 0 → (Q 1 u_2 u_3 u_4))))) X) X
abbrev w0_X4_isJoined (g : cx_G) (a_X a_P a_X_levels a_E a_F a_R a_X_vector a_X_solution a_P_entries a_P_order a_P_places a_P_rights a_P_weights a_E_joined a_E_later a_E_paths : Nat) (X_solved : Int32) (X_levelCount : Int32) (P_rows : Int32) (P_entries : (Nat → Int32)) (E_joined : (Nat → Int32)) (P_order : (Nat → Int32)) (E_later : (Nat → Int32)) (E_paths : (Nat → Int32)) : va_W := [(a_X, .inr (4, [.ref a_P, .ref a_X_levels, .ref a_E, .ref a_F, .ref a_R, .ref a_X_vector, .ref a_X_solution, .int X_solved, .int X_levelCount])), (a_P, .inr (2, [.int P_rows, .ref a_P_entries, .ref a_P_order, .ref a_P_places, .ref a_P_rights, .ref a_P_weights])), (a_E, .inr (0, [.ref a_E_joined, .ref a_E_later, .ref a_E_paths])), (a_P_entries, .inl (g.2.1, 256, .inl P_entries)), (a_E_joined, .inl (g.2.1, 16, .inl E_joined)), (a_P_order, .inl (g.2.1, 16, .inl P_order)), (a_E_later, .inl (g.2.1, 16, .inl E_later)), (a_E_paths, .inl (g.2.1, 16, .inl E_paths))]
abbrev w1_X4_isJoined (g : cx_G) (a_X a_P a_X_levels a_E a_F a_R a_X_vector a_X_solution a_P_entries a_P_order a_P_places a_P_rights a_P_weights a_E_joined a_E_later a_E_paths : Nat) (X_solved : Int32) (X_levelCount : Int32) (P_rows : Int32) (P_entries : (Nat → Int32)) (E_joined : (Nat → Int32)) (P_order : (Nat → Int32)) (E_later : (Nat → Int32)) (E_paths : (Nat → Int32)) (u : (Nat → Int32) × (Nat → Int32) × (Nat → Int32)) : va_W := [(a_X, .inr (4, [.ref a_P, .ref a_X_levels, .ref a_E, .ref a_F, .ref a_R, .ref a_X_vector, .ref a_X_solution, .int X_solved, .int X_levelCount])), (a_P, .inr (2, [.int P_rows, .ref a_P_entries, .ref a_P_order, .ref a_P_places, .ref a_P_rights, .ref a_P_weights])), (a_E, .inr (0, [.ref a_E_joined, .ref a_E_later, .ref a_E_paths])), (a_P_entries, .inl (g.2.1, 256, .inl P_entries)), (a_E_joined, .inl (g.2.1, 16, .inl u.1)), (a_P_order, .inl (g.2.1, 16, .inl P_order)), (a_E_later, .inl (g.2.1, 16, .inl u.2.1)), (a_E_paths, .inl (g.2.1, 16, .inl u.2.2))]
set_option maxHeartbeats 4000000 in
set_option maxRecDepth 100000 in
theorem c_X4_isJoined (l : Launch) (hlt : l.stackTraces = false) (g : cx_G) (a_X a_P a_X_levels a_E a_F a_R a_X_vector a_X_solution a_P_entries a_P_order a_P_places a_P_rights a_P_weights a_E_joined a_E_later a_E_paths : Nat) (i_i : Int32) (i_j : Int32) (X_solved : Int32) (X_levelCount : Int32) (P_rows : Int32) (P_entries : (Nat → Int32)) (E_joined : (Nat → Int32)) (P_order : (Nat → Int32)) (E_later : (Nat → Int32)) (E_paths : (Nat → Int32)) {Q : Int32 → (Nat → Int32) → (Nat → Int32) → (Nat → Int32) → Prop} {X : String → Prop} (hv : wp_X4_isJoined i_i i_j X_solved X_levelCount P_rows P_entries E_joined P_order E_later E_paths Q X) : cx_Ei l g yX4_isJoined (Cond.code yX4_isJoined cX4_isJoined 3 (some .boolean) :: cx_T) ({ frames := 7, cells := 2, slots := 12, locals := 112 } : Room) [.ref a_X, .int i_i, .int i_j] (w0_X4_isJoined g a_X a_P a_X_levels a_E a_F a_R a_X_vector a_X_solution a_P_entries a_P_order a_P_places a_P_rights a_P_weights a_E_joined a_E_later a_E_paths X_solved X_levelCount P_rows P_entries E_joined P_order E_later E_paths) (fun (r : Int32) (u : (Nat → Int32) × (Nat → Int32) × (Nat → Int32)) => Q r u.1 u.2.1 u.2.2) (w1_X4_isJoined g a_X a_P a_X_levels a_E a_F a_R a_X_vector a_X_solution a_P_entries a_P_order a_P_places a_P_rights a_P_weights a_E_joined a_E_later a_E_paths X_solved X_levelCount P_rows P_entries E_joined P_order E_later E_paths) X 2 12 := by
  intro sz
  refine vx_ofW (cc := cX4_isJoined) (maxL := 3) (ret := (some .boolean)) (by decide) rfl ?_
  intro p e s m args below meth c s₁ B hml htab hpre
  obtain ⟨rfl, hsz, hP, hK, hD0, hKX, hZ⟩ := hpre
  have hx := B.exec
  have hb := B.bytes
  have hr := B.returns
  have hts0 := atoms_spec (ws := (Cond.code yX4_isJoined cX4_isJoined 3 (some .boolean) :: cx_T)) B.pre
  have hts : ∀ w ∈ cx_T, w.before _ s = true := fun w h => hts0 w (List.mem_cons_of_mem _ h)
  have hown : s.vm.findClass RX4 = some m.cls := findClass_of_methodNamed B.named
  have hlocks := B.notSynchronized
  subst hsz
  have hD := hD0.self (sz := s.heap.size)
  obtain ⟨A, hAe⟩ : ∃ A : Nat → Prop, A = va_A (w0_X4_isJoined g a_X a_P a_X_levels a_E a_F a_R a_X_vector a_X_solution a_P_entries a_P_order a_P_places a_P_rights a_P_weights a_E_joined a_E_later a_E_paths X_solved X_levelCount P_rows P_entries E_joined P_order E_later E_paths) s.heap.size := ⟨_, rfl⟩
  rw [← hAe] at hD hZ
  have hA : ∀ q : Nat, s.heap.size ≤ q → A q := fun q h => by rw [hAe]; exact Or.inr h
  have hS : va_S A s.heap s.heap [] := va_S.rf
  have hP : va_P g.1 vwCl [(a_X, .inr (4, [.ref a_P, .ref a_X_levels, .ref a_E, .ref a_F, .ref a_R, .ref a_X_vector, .ref a_X_solution, .int X_solved, .int X_levelCount])), (a_P, .inr (2, [.int P_rows, .ref a_P_entries, .ref a_P_order, .ref a_P_places, .ref a_P_rights, .ref a_P_weights])), (a_E, .inr (0, [.ref a_E_joined, .ref a_E_later, .ref a_E_paths])), (a_P_entries, .inl (g.2.1, 256, .inl P_entries)), (a_E_joined, .inl (g.2.1, 16, .inl E_joined)), (a_P_order, .inl (g.2.1, 16, .inl P_order)), (a_E_later, .inl (g.2.1, 16, .inl E_later)), (a_E_paths, .inl (g.2.1, 16, .inl E_paths))] s.heap := hP
  have hD : va_D A [(a_X, .inr (4, [.ref a_P, .ref a_X_levels, .ref a_E, .ref a_F, .ref a_R, .ref a_X_vector, .ref a_X_solution, .int X_solved, .int X_levelCount])), (a_P, .inr (2, [.int P_rows, .ref a_P_entries, .ref a_P_order, .ref a_P_places, .ref a_P_rights, .ref a_P_weights])), (a_E, .inr (0, [.ref a_E_joined, .ref a_E_later, .ref a_E_paths])), (a_P_entries, .inl (g.2.1, 256, .inl P_entries)), (a_E_joined, .inl (g.2.1, 16, .inl E_joined)), (a_P_order, .inl (g.2.1, 16, .inl P_order)), (a_E_later, .inl (g.2.1, 16, .inl E_later)), (a_E_paths, .inl (g.2.1, 16, .inl E_paths))] := hD
  have hl := lv_entry ([.ref a_X, .int i_i, .int i_j]) (n := 3) (Nat.le_of_ble_eq_true rfl)
  rw [lg_entry_eq]
  generalize (lg_sl ([.ref a_X, .int i_i, .int i_j]) ++ List.replicate (3 - (lg_sl ([.ref a_X, .int i_i, .int i_j])).length) Slot.unset).toArray = ls at hl ⊢
  have hl : lv_has ls 3 [(0, .ref a_X), (1, .int i_i), (2, .int i_j)] := hl
  unfold wp_X4_isJoined at hv
  refine lv_aload_n hx hb dX4_isJoined_0 rfl (lv_at hl 0 rfl) ?_
  refine lv_iload_n hx hb dX4_isJoined_1 rfl (lv_at hl 1 rfl) ?_
  refine cx_vVp (As := [.int i_i]) (rest := []) ⟨hx, hb, hml, hown, hts⟩ (c_X4_needRow l hlt g a_X a_P a_X_levels a_E a_F a_R a_X_vector a_X_solution a_P_entries a_P_order a_P_places a_P_rights a_P_weights i_i X_solved X_levelCount P_rows hv) (cx_cwV 1 hts cw_m_X4_73 cw_i_X4_needRow cw_s_X4_needRow cw_n_X4 cw_c_X4_needRow rfl rfl (by decide +kernel) ⟨Nat.le_of_ble_eq_true rfl, Nat.le_of_ble_eq_true rfl⟩) hK hKX hZ hAe htab hlocks hP hD hS hA 0 4 rfl rfl [0, 1] rfl rfl rfl hl.1 rfl (Nat.le_of_ble_eq_true rfl) dX4_isJoined_2 ⟨Nat.le_of_ble_eq_true rfl, Nat.le_of_ble_eq_true rfl⟩ (Nat.le_of_ble_eq_true rfl) (Nat.le_of_ble_eq_true rfl) (fun H locs hv hP hS => ?_)
  refine W.widen (k := 1) (n := 6) (Nat.le_of_ble_eq_true rfl) (Nat.le_of_ble_eq_true rfl) ?_
  refine lv_aload_n hx hb dX4_isJoined_5 rfl (lv_at hl 0 rfl) ?_
  refine lv_iload_n hx hb dX4_isJoined_6 rfl (lv_at hl 2 rfl) ?_
  refine cx_vVp (As := [.int i_j]) (rest := []) ⟨hx, hb, hml, hown, hts⟩ (c_X4_needRow l hlt g a_X a_P a_X_levels a_E a_F a_R a_X_vector a_X_solution a_P_entries a_P_order a_P_places a_P_rights a_P_weights i_j X_solved X_levelCount P_rows hv) (cx_cwV 1 hts cw_m_X4_73 cw_i_X4_needRow cw_s_X4_needRow cw_n_X4 cw_c_X4_needRow rfl rfl (by decide +kernel) ⟨Nat.le_of_ble_eq_true rfl, Nat.le_of_ble_eq_true rfl⟩) hK hKX hZ hAe htab hlocks hP hD hS hA 0 4 rfl rfl [0, 1] rfl rfl rfl hl.1 rfl (Nat.le_of_ble_eq_true rfl) dX4_isJoined_7 ⟨Nat.le_of_ble_eq_true rfl, Nat.le_of_ble_eq_true rfl⟩ (Nat.le_of_ble_eq_true rfl) (Nat.le_of_ble_eq_true rfl) (fun H locs hv hP hS => ?_)
  refine W.widen (k := 2) (n := 12) (Nat.le_of_ble_eq_true rfl) (Nat.le_of_ble_eq_true rfl) ?_
  refine lv_aload_n hx hb dX4_isJoined_10 rfl (lv_at hl 0 rfl) ?_
  refine va_get (D := g.1) (ci := 4) (v := .ref a_E) (C := RX4) (T := TX4) (N := 9) hx hb hts cw_in_X4 hown hK.1 hP 0 rfl rfl 2 (by decide) (hts _ cw_f_X4_23) (fun _ h9 => h9) rfl dX4_isJoined_11 ?_
  refine lv_aload_n hx hb dX4_isJoined_14 rfl (lv_at hl 0 rfl) ?_
  refine va_get (D := g.1) (ci := 4) (v := .ref a_P) (C := RX4) (T := TX4) (N := 9) hx hb hts cw_in_X4 hown hK.1 hP 0 rfl rfl 0 (by decide) (hts _ cw_f_X4_10) (fun _ h9 => h9) rfl dX4_isJoined_15 ?_
  refine cx_vV (wr := [(a_X, .inr (4, [.ref a_P, .ref a_X_levels, .ref a_E, .ref a_F, .ref a_R, .ref a_X_vector, .ref a_X_solution, .int X_solved, .int X_levelCount]))]) (As := [.ref a_P]) (rest := []) ⟨hx, hb, hml, hown, hts⟩ (c_X0_run l g a_E a_P a_P_entries a_P_order a_P_places a_P_rights a_P_weights a_E_joined a_E_later a_E_paths P_rows P_entries E_joined P_order E_later E_paths hv) (cx_cwV 1 hts cw_m_X4_127 cw_i_X0_run cw_s_X0_run cw_n_X0 cw_c_X0_run rfl rfl (by decide +kernel) ⟨Nat.le_of_ble_eq_true rfl, Nat.le_of_ble_eq_true rfl⟩) hK hP hD hS hA 2 0 rfl rfl [1, 2, 3, 4, 5, 6, 7] [0] rfl rfl rfl rfl (by decide) rfl hl.1 rfl (Nat.le_of_ble_eq_true rfl) dX4_isJoined_18 ⟨Nat.le_of_ble_eq_true rfl, Nat.le_of_ble_eq_true rfl⟩ (fun w_5 H locs hv hP hD hS => ?_)
  obtain ⟨u_2, u_3, u_4⟩ := w_5
  have hP : va_P g.1 vwCl [(a_X, .inr (4, [.ref a_P, .ref a_X_levels, .ref a_E, .ref a_F, .ref a_R, .ref a_X_vector, .ref a_X_solution, .int X_solved, .int X_levelCount])), (a_P, .inr (2, [.int P_rows, .ref a_P_entries, .ref a_P_order, .ref a_P_places, .ref a_P_rights, .ref a_P_weights])), (a_E, .inr (0, [.ref a_E_joined, .ref a_E_later, .ref a_E_paths])), (a_P_entries, .inl (g.2.1, 256, .inl P_entries)), (a_E_joined, .inl (g.2.1, 16, .inl u_2)), (a_P_order, .inl (g.2.1, 16, .inl P_order)), (a_E_later, .inl (g.2.1, 16, .inl u_3)), (a_E_paths, .inl (g.2.1, 16, .inl u_4))] H := hP.sub [0, 1, 2, 3, 4, 5, 6, 7] rfl
  have hD : va_D A [(a_X, .inr (4, [.ref a_P, .ref a_X_levels, .ref a_E, .ref a_F, .ref a_R, .ref a_X_vector, .ref a_X_solution, .int X_solved, .int X_levelCount])), (a_P, .inr (2, [.int P_rows, .ref a_P_entries, .ref a_P_order, .ref a_P_places, .ref a_P_rights, .ref a_P_weights])), (a_E, .inr (0, [.ref a_E_joined, .ref a_E_later, .ref a_E_paths])), (a_P_entries, .inl (g.2.1, 256, .inl P_entries)), (a_E_joined, .inl (g.2.1, 16, .inl u_2)), (a_P_order, .inl (g.2.1, 16, .inl P_order)), (a_E_later, .inl (g.2.1, 16, .inl u_3)), (a_E_paths, .inl (g.2.1, 16, .inl u_4))] := hD.sub [0, 1, 2, 3, 4, 5, 6, 7] (by decide) rfl
  refine lv_aload_n hx hb dX4_isJoined_21 rfl (lv_at hl 0 rfl) ?_
  refine va_get (D := g.1) (ci := 4) (v := .ref a_E) (C := RX4) (T := TX4) (N := 9) hx hb hts cw_in_X4 hown hK.1 hP 0 rfl rfl 2 (by decide) (hts _ cw_f_X4_23) (fun _ h9 => h9) rfl dX4_isJoined_22 ?_
  refine va_get (D := g.1) (ci := 0) (v := .ref a_E_later) (C := RX0) (T := TX0) (N := 3) hx hb hts cw_in_X0 hown hK.1 hP 2 rfl rfl 1 (by decide) (hts _ cw_f_X4_130) (fun _ h9 => h9) rfl dX4_isJoined_25 ?_
  refine lv_iload_n hx hb dX4_isJoined_28 rfl (lv_at hl 1 rfl) ?_
  obtain ⟨h_6, hv⟩ := hv
  refine va_iald (D := g.1) hx hb hK.1 hP 6 0 rfl rfl h_6 dX4_isJoined_29 ?_
  refine lv_iload_n hx hb dX4_isJoined_30 rfl (lv_at hl 2 rfl) ?_
  refine cx_iSr (As := [.int (u_3 (Int32.toNatClampNeg i_i)), .int i_j]) (rest := []) ⟨hx, hb, hml, hown, hts⟩ (cp_X4_has l g (u_3 (Int32.toNatClampNeg i_i)) i_j) (cx_cwS 2 hts cw_m_X4_133 cw_t_X4_has cw_n_X4 cw_c_X4_has rfl rfl (by decide +kernel) ⟨Nat.le_of_ble_eq_true rfl, Nat.le_of_ble_eq_true rfl⟩) hK hP hD hS hA [] rfl rfl rfl hl.1 rfl (Nat.le_of_ble_eq_true rfl) dX4_isJoined_31 ⟨Nat.le_of_ble_eq_true rfl, Nat.le_of_ble_eq_true rfl⟩ (fun r_7 H locs hr9 hP hS => ?_)
  replace hr9 : r_7 = (f_has (u_3 (Int32.toNatClampNeg i_i)) i_j) := hr9
  subst hr9
  refine lv_if_ne (tgt := 53) hx hb dX4_isJoined_34 (by decide) (fun hc => ?_) (fun hc => ?_)
  · replace hv := hv.2 hc
    refine lv_iconst (v := 1) hx hb dX4_isJoined_53 (by decide) ?_
    refine lv_goto (tgt := 58) hx hb dX4_isJoined_54 (by decide) ?_
    exact vx_ret (cx_zret hx hb hr rfl hlocks hAe hS (u_2, u_3, u_4) hv hP hD dX4_isJoined_58)
  · replace hv := hv.1 hc
    refine lv_aload_n hx hb dX4_isJoined_37 rfl (lv_at hl 0 rfl) ?_
    refine va_get (D := g.1) (ci := 4) (v := .ref a_E) (C := RX4) (T := TX4) (N := 9) hx hb hts cw_in_X4 hown hK.1 hP 0 rfl rfl 2 (by decide) (hts _ cw_f_X4_23) (fun _ h9 => h9) rfl dX4_isJoined_38 ?_
    refine va_get (D := g.1) (ci := 0) (v := .ref a_E_later) (C := RX0) (T := TX0) (N := 3) hx hb hts cw_in_X0 hown hK.1 hP 2 rfl rfl 1 (by decide) (hts _ cw_f_X4_130) (fun _ h9 => h9) rfl dX4_isJoined_41 ?_
    refine lv_iload_n hx hb dX4_isJoined_44 rfl (lv_at hl 2 rfl) ?_
    obtain ⟨h_8, hv⟩ := hv
    refine va_iald (D := g.1) hx hb hK.1 hP 6 0 rfl rfl h_8 dX4_isJoined_45 ?_
    refine lv_iload_n hx hb dX4_isJoined_46 rfl (lv_at hl 1 rfl) ?_
    refine cx_iSr (As := [.int (u_3 (Int32.toNatClampNeg i_j)), .int i_i]) (rest := []) ⟨hx, hb, hml, hown, hts⟩ (cp_X4_has l g (u_3 (Int32.toNatClampNeg i_j)) i_i) (cx_cwS 2 hts cw_m_X4_133 cw_t_X4_has cw_n_X4 cw_c_X4_has rfl rfl (by decide +kernel) ⟨Nat.le_of_ble_eq_true rfl, Nat.le_of_ble_eq_true rfl⟩) hK hP hD hS hA [] rfl rfl rfl hl.1 rfl (Nat.le_of_ble_eq_true rfl) dX4_isJoined_47 ⟨Nat.le_of_ble_eq_true rfl, Nat.le_of_ble_eq_true rfl⟩ (fun r_9 H locs hr9 hP hS => ?_)
    replace hr9 : r_9 = (f_has (u_3 (Int32.toNatClampNeg i_j)) i_i) := hr9
    subst hr9
    refine lv_if_eq (tgt := 57) hx hb dX4_isJoined_50 (by decide) (fun hc => ?_) (fun hc => ?_)
    · replace hv := hv.1 hc
      refine lv_iconst (v := 0) hx hb dX4_isJoined_57 (by decide) ?_
      exact vx_ret (cx_zret hx hb hr rfl hlocks hAe hS (u_2, u_3, u_4) hv hP hD dX4_isJoined_58)
    · replace hv := hv.2 hc
      refine lv_iconst (v := 1) hx hb dX4_isJoined_53 (by decide) ?_
      refine lv_goto (tgt := 58) hx hb dX4_isJoined_54 (by decide) ?_
      exact vx_ret (cx_zret hx hb hr rfl hlocks hAe hS (u_2, u_3, u_4) hv hP hD dX4_isJoined_58)
def wp_X4_width (i_i : Int32) (X_solved : Int32) (X_levelCount : Int32) (P_rows : Int32) (P_entries : (Nat → Int32)) (E_joined : (Nat → Int32)) (P_order : (Nat → Int32)) (E_later : (Nat → Int32)) (E_paths : (Nat → Int32)) (Q : Int32 → (Nat → Int32) → (Nat → Int32) → (Nat → Int32) → Prop) (X : String → Prop)   : Prop := wp_X4_needRow i_i X_solved X_levelCount P_rows (wp_X0_run P_rows P_entries E_joined P_order E_later E_paths (fun u_2 u_3 u_4 => vp_in i_i 16 ∧ (Q (f_bc (u_3 (Int32.toNatClampNeg i_i))) u_2 u_3 u_4))) X
abbrev w0_X4_width (g : cx_G) (a_X a_P a_X_levels a_E a_F a_R a_X_vector a_X_solution a_P_entries a_P_order a_P_places a_P_rights a_P_weights a_E_joined a_E_later a_E_paths : Nat) (X_solved : Int32) (X_levelCount : Int32) (P_rows : Int32) (P_entries : (Nat → Int32)) (E_joined : (Nat → Int32)) (P_order : (Nat → Int32)) (E_later : (Nat → Int32)) (E_paths : (Nat → Int32)) : va_W := [(a_X, .inr (4, [.ref a_P, .ref a_X_levels, .ref a_E, .ref a_F, .ref a_R, .ref a_X_vector, .ref a_X_solution, .int X_solved, .int X_levelCount])), (a_P, .inr (2, [.int P_rows, .ref a_P_entries, .ref a_P_order, .ref a_P_places, .ref a_P_rights, .ref a_P_weights])), (a_E, .inr (0, [.ref a_E_joined, .ref a_E_later, .ref a_E_paths])), (a_P_entries, .inl (g.2.1, 256, .inl P_entries)), (a_E_joined, .inl (g.2.1, 16, .inl E_joined)), (a_P_order, .inl (g.2.1, 16, .inl P_order)), (a_E_later, .inl (g.2.1, 16, .inl E_later)), (a_E_paths, .inl (g.2.1, 16, .inl E_paths))]
abbrev w1_X4_width (g : cx_G) (a_X a_P a_X_levels a_E a_F a_R a_X_vector a_X_solution a_P_entries a_P_order a_P_places a_P_rights a_P_weights a_E_joined a_E_later a_E_paths : Nat) (X_solved : Int32) (X_levelCount : Int32) (P_rows : Int32) (P_entries : (Nat → Int32)) (E_joined : (Nat → Int32)) (P_order : (Nat → Int32)) (E_later : (Nat → Int32)) (E_paths : (Nat → Int32)) (u : (Nat → Int32) × (Nat → Int32) × (Nat → Int32)) : va_W := [(a_X, .inr (4, [.ref a_P, .ref a_X_levels, .ref a_E, .ref a_F, .ref a_R, .ref a_X_vector, .ref a_X_solution, .int X_solved, .int X_levelCount])), (a_P, .inr (2, [.int P_rows, .ref a_P_entries, .ref a_P_order, .ref a_P_places, .ref a_P_rights, .ref a_P_weights])), (a_E, .inr (0, [.ref a_E_joined, .ref a_E_later, .ref a_E_paths])), (a_P_entries, .inl (g.2.1, 256, .inl P_entries)), (a_E_joined, .inl (g.2.1, 16, .inl u.1)), (a_P_order, .inl (g.2.1, 16, .inl P_order)), (a_E_later, .inl (g.2.1, 16, .inl u.2.1)), (a_E_paths, .inl (g.2.1, 16, .inl u.2.2))]
set_option maxHeartbeats 4000000 in
set_option maxRecDepth 100000 in
theorem c_X4_width (l : Launch) (hlt : l.stackTraces = false) (g : cx_G) (a_X a_P a_X_levels a_E a_F a_R a_X_vector a_X_solution a_P_entries a_P_order a_P_places a_P_rights a_P_weights a_E_joined a_E_later a_E_paths : Nat) (i_i : Int32) (X_solved : Int32) (X_levelCount : Int32) (P_rows : Int32) (P_entries : (Nat → Int32)) (E_joined : (Nat → Int32)) (P_order : (Nat → Int32)) (E_later : (Nat → Int32)) (E_paths : (Nat → Int32)) {Q : Int32 → (Nat → Int32) → (Nat → Int32) → (Nat → Int32) → Prop} {X : String → Prop} (hv : wp_X4_width i_i X_solved X_levelCount P_rows P_entries E_joined P_order E_later E_paths Q X) : cx_Ei l g yX4_width (Cond.code yX4_width cX4_width 2 (some .int) :: cx_T) ({ frames := 7, cells := 1, slots := 6, locals := 112 } : Room) [.ref a_X, .int i_i] (w0_X4_width g a_X a_P a_X_levels a_E a_F a_R a_X_vector a_X_solution a_P_entries a_P_order a_P_places a_P_rights a_P_weights a_E_joined a_E_later a_E_paths X_solved X_levelCount P_rows P_entries E_joined P_order E_later E_paths) (fun (r : Int32) (u : (Nat → Int32) × (Nat → Int32) × (Nat → Int32)) => Q r u.1 u.2.1 u.2.2) (w1_X4_width g a_X a_P a_X_levels a_E a_F a_R a_X_vector a_X_solution a_P_entries a_P_order a_P_places a_P_rights a_P_weights a_E_joined a_E_later a_E_paths X_solved X_levelCount P_rows P_entries E_joined P_order E_later E_paths) X 1 6 := by
  intro sz
  refine vx_ofW (cc := cX4_width) (maxL := 2) (ret := (some .int)) (by decide) rfl ?_
  intro p e s m args below meth c s₁ B hml htab hpre
  obtain ⟨rfl, hsz, hP, hK, hD0, hKX, hZ⟩ := hpre
  have hx := B.exec
  have hb := B.bytes
  have hr := B.returns
  have hts0 := atoms_spec (ws := (Cond.code yX4_width cX4_width 2 (some .int) :: cx_T)) B.pre
  have hts : ∀ w ∈ cx_T, w.before _ s = true := fun w h => hts0 w (List.mem_cons_of_mem _ h)
  have hown : s.vm.findClass RX4 = some m.cls := findClass_of_methodNamed B.named
  have hlocks := B.notSynchronized
  subst hsz
  have hD := hD0.self (sz := s.heap.size)
  obtain ⟨A, hAe⟩ : ∃ A : Nat → Prop, A = va_A (w0_X4_width g a_X a_P a_X_levels a_E a_F a_R a_X_vector a_X_solution a_P_entries a_P_order a_P_places a_P_rights a_P_weights a_E_joined a_E_later a_E_paths X_solved X_levelCount P_rows P_entries E_joined P_order E_later E_paths) s.heap.size := ⟨_, rfl⟩
  rw [← hAe] at hD hZ
  have hA : ∀ q : Nat, s.heap.size ≤ q → A q := fun q h => by rw [hAe]; exact Or.inr h
  have hS : va_S A s.heap s.heap [] := va_S.rf
  have hP : va_P g.1 vwCl [(a_X, .inr (4, [.ref a_P, .ref a_X_levels, .ref a_E, .ref a_F, .ref a_R, .ref a_X_vector, .ref a_X_solution, .int X_solved, .int X_levelCount])), (a_P, .inr (2, [.int P_rows, .ref a_P_entries, .ref a_P_order, .ref a_P_places, .ref a_P_rights, .ref a_P_weights])), (a_E, .inr (0, [.ref a_E_joined, .ref a_E_later, .ref a_E_paths])), (a_P_entries, .inl (g.2.1, 256, .inl P_entries)), (a_E_joined, .inl (g.2.1, 16, .inl E_joined)), (a_P_order, .inl (g.2.1, 16, .inl P_order)), (a_E_later, .inl (g.2.1, 16, .inl E_later)), (a_E_paths, .inl (g.2.1, 16, .inl E_paths))] s.heap := hP
  have hD : va_D A [(a_X, .inr (4, [.ref a_P, .ref a_X_levels, .ref a_E, .ref a_F, .ref a_R, .ref a_X_vector, .ref a_X_solution, .int X_solved, .int X_levelCount])), (a_P, .inr (2, [.int P_rows, .ref a_P_entries, .ref a_P_order, .ref a_P_places, .ref a_P_rights, .ref a_P_weights])), (a_E, .inr (0, [.ref a_E_joined, .ref a_E_later, .ref a_E_paths])), (a_P_entries, .inl (g.2.1, 256, .inl P_entries)), (a_E_joined, .inl (g.2.1, 16, .inl E_joined)), (a_P_order, .inl (g.2.1, 16, .inl P_order)), (a_E_later, .inl (g.2.1, 16, .inl E_later)), (a_E_paths, .inl (g.2.1, 16, .inl E_paths))] := hD
  have hl := lv_entry ([.ref a_X, .int i_i]) (n := 2) (Nat.le_of_ble_eq_true rfl)
  rw [lg_entry_eq]
  generalize (lg_sl ([.ref a_X, .int i_i]) ++ List.replicate (2 - (lg_sl ([.ref a_X, .int i_i])).length) Slot.unset).toArray = ls at hl ⊢
  have hl : lv_has ls 2 [(0, .ref a_X), (1, .int i_i)] := hl
  unfold wp_X4_width at hv
  refine lv_aload_n hx hb dX4_width_0 rfl (lv_at hl 0 rfl) ?_
  refine lv_iload_n hx hb dX4_width_1 rfl (lv_at hl 1 rfl) ?_
  refine cx_vVp (As := [.int i_i]) (rest := []) ⟨hx, hb, hml, hown, hts⟩ (c_X4_needRow l hlt g a_X a_P a_X_levels a_E a_F a_R a_X_vector a_X_solution a_P_entries a_P_order a_P_places a_P_rights a_P_weights i_i X_solved X_levelCount P_rows hv) (cx_cwV 1 hts cw_m_X4_73 cw_i_X4_needRow cw_s_X4_needRow cw_n_X4 cw_c_X4_needRow rfl rfl (by decide +kernel) ⟨Nat.le_of_ble_eq_true rfl, Nat.le_of_ble_eq_true rfl⟩) hK hKX hZ hAe htab hlocks hP hD hS hA 0 4 rfl rfl [0, 1] rfl rfl rfl hl.1 rfl (Nat.le_of_ble_eq_true rfl) dX4_width_2 ⟨Nat.le_of_ble_eq_true rfl, Nat.le_of_ble_eq_true rfl⟩ (Nat.le_of_ble_eq_true rfl) (Nat.le_of_ble_eq_true rfl) (fun H locs hv hP hS => ?_)
  refine W.widen (k := 1) (n := 6) (Nat.le_of_ble_eq_true rfl) (Nat.le_of_ble_eq_true rfl) ?_
  refine lv_aload_n hx hb dX4_width_5 rfl (lv_at hl 0 rfl) ?_
  refine va_get (D := g.1) (ci := 4) (v := .ref a_E) (C := RX4) (T := TX4) (N := 9) hx hb hts cw_in_X4 hown hK.1 hP 0 rfl rfl 2 (by decide) (hts _ cw_f_X4_23) (fun _ h9 => h9) rfl dX4_width_6 ?_
  refine lv_aload_n hx hb dX4_width_9 rfl (lv_at hl 0 rfl) ?_
  refine va_get (D := g.1) (ci := 4) (v := .ref a_P) (C := RX4) (T := TX4) (N := 9) hx hb hts cw_in_X4 hown hK.1 hP 0 rfl rfl 0 (by decide) (hts _ cw_f_X4_10) (fun _ h9 => h9) rfl dX4_width_10 ?_
  refine cx_vV (wr := [(a_X, .inr (4, [.ref a_P, .ref a_X_levels, .ref a_E, .ref a_F, .ref a_R, .ref a_X_vector, .ref a_X_solution, .int X_solved, .int X_levelCount]))]) (As := [.ref a_P]) (rest := []) ⟨hx, hb, hml, hown, hts⟩ (c_X0_run l g a_E a_P a_P_entries a_P_order a_P_places a_P_rights a_P_weights a_E_joined a_E_later a_E_paths P_rows P_entries E_joined P_order E_later E_paths hv) (cx_cwV 1 hts cw_m_X4_127 cw_i_X0_run cw_s_X0_run cw_n_X0 cw_c_X0_run rfl rfl (by decide +kernel) ⟨Nat.le_of_ble_eq_true rfl, Nat.le_of_ble_eq_true rfl⟩) hK hP hD hS hA 2 0 rfl rfl [1, 2, 3, 4, 5, 6, 7] [0] rfl rfl rfl rfl (by decide) rfl hl.1 rfl (Nat.le_of_ble_eq_true rfl) dX4_width_13 ⟨Nat.le_of_ble_eq_true rfl, Nat.le_of_ble_eq_true rfl⟩ (fun w_5 H locs hv hP hD hS => ?_)
  obtain ⟨u_2, u_3, u_4⟩ := w_5
  have hP : va_P g.1 vwCl [(a_X, .inr (4, [.ref a_P, .ref a_X_levels, .ref a_E, .ref a_F, .ref a_R, .ref a_X_vector, .ref a_X_solution, .int X_solved, .int X_levelCount])), (a_P, .inr (2, [.int P_rows, .ref a_P_entries, .ref a_P_order, .ref a_P_places, .ref a_P_rights, .ref a_P_weights])), (a_E, .inr (0, [.ref a_E_joined, .ref a_E_later, .ref a_E_paths])), (a_P_entries, .inl (g.2.1, 256, .inl P_entries)), (a_E_joined, .inl (g.2.1, 16, .inl u_2)), (a_P_order, .inl (g.2.1, 16, .inl P_order)), (a_E_later, .inl (g.2.1, 16, .inl u_3)), (a_E_paths, .inl (g.2.1, 16, .inl u_4))] H := hP.sub [0, 1, 2, 3, 4, 5, 6, 7] rfl
  have hD : va_D A [(a_X, .inr (4, [.ref a_P, .ref a_X_levels, .ref a_E, .ref a_F, .ref a_R, .ref a_X_vector, .ref a_X_solution, .int X_solved, .int X_levelCount])), (a_P, .inr (2, [.int P_rows, .ref a_P_entries, .ref a_P_order, .ref a_P_places, .ref a_P_rights, .ref a_P_weights])), (a_E, .inr (0, [.ref a_E_joined, .ref a_E_later, .ref a_E_paths])), (a_P_entries, .inl (g.2.1, 256, .inl P_entries)), (a_E_joined, .inl (g.2.1, 16, .inl u_2)), (a_P_order, .inl (g.2.1, 16, .inl P_order)), (a_E_later, .inl (g.2.1, 16, .inl u_3)), (a_E_paths, .inl (g.2.1, 16, .inl u_4))] := hD.sub [0, 1, 2, 3, 4, 5, 6, 7] (by decide) rfl
  refine lv_aload_n hx hb dX4_width_16 rfl (lv_at hl 0 rfl) ?_
  refine va_get (D := g.1) (ci := 4) (v := .ref a_E) (C := RX4) (T := TX4) (N := 9) hx hb hts cw_in_X4 hown hK.1 hP 0 rfl rfl 2 (by decide) (hts _ cw_f_X4_23) (fun _ h9 => h9) rfl dX4_width_17 ?_
  refine va_get (D := g.1) (ci := 0) (v := .ref a_E_later) (C := RX0) (T := TX0) (N := 3) hx hb hts cw_in_X0 hown hK.1 hP 2 rfl rfl 1 (by decide) (hts _ cw_f_X4_130) (fun _ h9 => h9) rfl dX4_width_20 ?_
  refine lv_iload_n hx hb dX4_width_23 rfl (lv_at hl 1 rfl) ?_
  obtain ⟨h_6, hv⟩ := hv
  refine va_iald (D := g.1) hx hb hK.1 hP 6 0 rfl rfl h_6 dX4_width_24 ?_
  refine cx_iSr (As := [.int (u_3 (Int32.toNatClampNeg i_i))]) (rest := []) ⟨hx, hb, hml, hown, hts⟩ (cp_J6_bitCount_0f7a4 l g (u_3 (Int32.toNatClampNeg i_i))) (cx_cwS 1 hts cw_m_X4_137 cw_t_J6_bitCount_0f7a4 cw_n_J6 cw_c_J6_bitCount_0f7a4 rfl rfl (by decide +kernel) ⟨Nat.le_of_ble_eq_true rfl, Nat.le_of_ble_eq_true rfl⟩) hK hP hD hS hA [] rfl rfl rfl hl.1 rfl (Nat.le_of_ble_eq_true rfl) dX4_width_25 ⟨Nat.le_of_ble_eq_true rfl, Nat.le_of_ble_eq_true rfl⟩ (fun r_7 H locs hr9 hP hS => ?_)
  replace hr9 : r_7 = (f_bc (u_3 (Int32.toNatClampNeg i_i))) := hr9
  subst hr9
  exact vx_ret (cx_iret hx hb hr hlocks hAe hS (u_2, u_3, u_4) hv hP hD dX4_width_28)
def wp_X4_parent (i_i : Int32) (X_solved : Int32) (X_levelCount : Int32) (P_rows : Int32) (P_entries : (Nat → Int32)) (E_joined : (Nat → Int32)) (P_order : (Nat → Int32)) (E_later : (Nat → Int32)) (E_paths : (Nat → Int32)) (Q : Int32 → (Nat → Int32) → (Nat → Int32) → (Nat → Int32) → Prop) (X : String → Prop)   : Prop := wp_X4_needRow i_i X_solved X_levelCount P_rows (wp_X0_run P_rows P_entries E_joined P_order E_later E_paths (fun u_2 u_3 u_4 => vp_in i_i 16 ∧ (wp_X2_firstOf (u_3 (Int32.toNatClampNeg i_i)) P_rows P_order (fun r_7 => Q r_7 u_2 u_3 u_4)))) X
abbrev w0_X4_parent (g : cx_G) (a_X a_P a_X_levels a_E a_F a_R a_X_vector a_X_solution a_P_entries a_P_order a_P_places a_P_rights a_P_weights a_E_joined a_E_later a_E_paths : Nat) (X_solved : Int32) (X_levelCount : Int32) (P_rows : Int32) (P_entries : (Nat → Int32)) (E_joined : (Nat → Int32)) (P_order : (Nat → Int32)) (E_later : (Nat → Int32)) (E_paths : (Nat → Int32)) : va_W := [(a_X, .inr (4, [.ref a_P, .ref a_X_levels, .ref a_E, .ref a_F, .ref a_R, .ref a_X_vector, .ref a_X_solution, .int X_solved, .int X_levelCount])), (a_P, .inr (2, [.int P_rows, .ref a_P_entries, .ref a_P_order, .ref a_P_places, .ref a_P_rights, .ref a_P_weights])), (a_E, .inr (0, [.ref a_E_joined, .ref a_E_later, .ref a_E_paths])), (a_P_entries, .inl (g.2.1, 256, .inl P_entries)), (a_E_joined, .inl (g.2.1, 16, .inl E_joined)), (a_P_order, .inl (g.2.1, 16, .inl P_order)), (a_E_later, .inl (g.2.1, 16, .inl E_later)), (a_E_paths, .inl (g.2.1, 16, .inl E_paths))]
abbrev w1_X4_parent (g : cx_G) (a_X a_P a_X_levels a_E a_F a_R a_X_vector a_X_solution a_P_entries a_P_order a_P_places a_P_rights a_P_weights a_E_joined a_E_later a_E_paths : Nat) (X_solved : Int32) (X_levelCount : Int32) (P_rows : Int32) (P_entries : (Nat → Int32)) (E_joined : (Nat → Int32)) (P_order : (Nat → Int32)) (E_later : (Nat → Int32)) (E_paths : (Nat → Int32)) (u : (Nat → Int32) × (Nat → Int32) × (Nat → Int32)) : va_W := [(a_X, .inr (4, [.ref a_P, .ref a_X_levels, .ref a_E, .ref a_F, .ref a_R, .ref a_X_vector, .ref a_X_solution, .int X_solved, .int X_levelCount])), (a_P, .inr (2, [.int P_rows, .ref a_P_entries, .ref a_P_order, .ref a_P_places, .ref a_P_rights, .ref a_P_weights])), (a_E, .inr (0, [.ref a_E_joined, .ref a_E_later, .ref a_E_paths])), (a_P_entries, .inl (g.2.1, 256, .inl P_entries)), (a_E_joined, .inl (g.2.1, 16, .inl u.1)), (a_P_order, .inl (g.2.1, 16, .inl P_order)), (a_E_later, .inl (g.2.1, 16, .inl u.2.1)), (a_E_paths, .inl (g.2.1, 16, .inl u.2.2))]
set_option maxHeartbeats 4000000 in
set_option maxRecDepth 100000 in
theorem c_X4_parent (l : Launch) (hlt : l.stackTraces = false) (g : cx_G) (a_X a_P a_X_levels a_E a_F a_R a_X_vector a_X_solution a_P_entries a_P_order a_P_places a_P_rights a_P_weights a_E_joined a_E_later a_E_paths : Nat) (i_i : Int32) (X_solved : Int32) (X_levelCount : Int32) (P_rows : Int32) (P_entries : (Nat → Int32)) (E_joined : (Nat → Int32)) (P_order : (Nat → Int32)) (E_later : (Nat → Int32)) (E_paths : (Nat → Int32)) {Q : Int32 → (Nat → Int32) → (Nat → Int32) → (Nat → Int32) → Prop} {X : String → Prop} (hv : wp_X4_parent i_i X_solved X_levelCount P_rows P_entries E_joined P_order E_later E_paths Q X) : cx_Ei l g yX4_parent (Cond.code yX4_parent cX4_parent 2 (some .int) :: cx_T) ({ frames := 7, cells := 1, slots := 6, locals := 112 } : Room) [.ref a_X, .int i_i] (w0_X4_parent g a_X a_P a_X_levels a_E a_F a_R a_X_vector a_X_solution a_P_entries a_P_order a_P_places a_P_rights a_P_weights a_E_joined a_E_later a_E_paths X_solved X_levelCount P_rows P_entries E_joined P_order E_later E_paths) (fun (r : Int32) (u : (Nat → Int32) × (Nat → Int32) × (Nat → Int32)) => Q r u.1 u.2.1 u.2.2) (w1_X4_parent g a_X a_P a_X_levels a_E a_F a_R a_X_vector a_X_solution a_P_entries a_P_order a_P_places a_P_rights a_P_weights a_E_joined a_E_later a_E_paths X_solved X_levelCount P_rows P_entries E_joined P_order E_later E_paths) X 1 6 := by
  intro sz
  refine vx_ofW (cc := cX4_parent) (maxL := 2) (ret := (some .int)) (by decide) rfl ?_
  intro p e s m args below meth c s₁ B hml htab hpre
  obtain ⟨rfl, hsz, hP, hK, hD0, hKX, hZ⟩ := hpre
  have hx := B.exec
  have hb := B.bytes
  have hr := B.returns
  have hts0 := atoms_spec (ws := (Cond.code yX4_parent cX4_parent 2 (some .int) :: cx_T)) B.pre
  have hts : ∀ w ∈ cx_T, w.before _ s = true := fun w h => hts0 w (List.mem_cons_of_mem _ h)
  have hown : s.vm.findClass RX4 = some m.cls := findClass_of_methodNamed B.named
  have hlocks := B.notSynchronized
  subst hsz
  have hD := hD0.self (sz := s.heap.size)
  obtain ⟨A, hAe⟩ : ∃ A : Nat → Prop, A = va_A (w0_X4_parent g a_X a_P a_X_levels a_E a_F a_R a_X_vector a_X_solution a_P_entries a_P_order a_P_places a_P_rights a_P_weights a_E_joined a_E_later a_E_paths X_solved X_levelCount P_rows P_entries E_joined P_order E_later E_paths) s.heap.size := ⟨_, rfl⟩
  rw [← hAe] at hD hZ
  have hA : ∀ q : Nat, s.heap.size ≤ q → A q := fun q h => by rw [hAe]; exact Or.inr h
  have hS : va_S A s.heap s.heap [] := va_S.rf
  have hP : va_P g.1 vwCl [(a_X, .inr (4, [.ref a_P, .ref a_X_levels, .ref a_E, .ref a_F, .ref a_R, .ref a_X_vector, .ref a_X_solution, .int X_solved, .int X_levelCount])), (a_P, .inr (2, [.int P_rows, .ref a_P_entries, .ref a_P_order, .ref a_P_places, .ref a_P_rights, .ref a_P_weights])), (a_E, .inr (0, [.ref a_E_joined, .ref a_E_later, .ref a_E_paths])), (a_P_entries, .inl (g.2.1, 256, .inl P_entries)), (a_E_joined, .inl (g.2.1, 16, .inl E_joined)), (a_P_order, .inl (g.2.1, 16, .inl P_order)), (a_E_later, .inl (g.2.1, 16, .inl E_later)), (a_E_paths, .inl (g.2.1, 16, .inl E_paths))] s.heap := hP
  have hD : va_D A [(a_X, .inr (4, [.ref a_P, .ref a_X_levels, .ref a_E, .ref a_F, .ref a_R, .ref a_X_vector, .ref a_X_solution, .int X_solved, .int X_levelCount])), (a_P, .inr (2, [.int P_rows, .ref a_P_entries, .ref a_P_order, .ref a_P_places, .ref a_P_rights, .ref a_P_weights])), (a_E, .inr (0, [.ref a_E_joined, .ref a_E_later, .ref a_E_paths])), (a_P_entries, .inl (g.2.1, 256, .inl P_entries)), (a_E_joined, .inl (g.2.1, 16, .inl E_joined)), (a_P_order, .inl (g.2.1, 16, .inl P_order)), (a_E_later, .inl (g.2.1, 16, .inl E_later)), (a_E_paths, .inl (g.2.1, 16, .inl E_paths))] := hD
  have hl := lv_entry ([.ref a_X, .int i_i]) (n := 2) (Nat.le_of_ble_eq_true rfl)
  rw [lg_entry_eq]
  generalize (lg_sl ([.ref a_X, .int i_i]) ++ List.replicate (2 - (lg_sl ([.ref a_X, .int i_i])).length) Slot.unset).toArray = ls at hl ⊢
  have hl : lv_has ls 2 [(0, .ref a_X), (1, .int i_i)] := hl
  unfold wp_X4_parent at hv
  refine lv_aload_n hx hb dX4_parent_0 rfl (lv_at hl 0 rfl) ?_
  refine lv_iload_n hx hb dX4_parent_1 rfl (lv_at hl 1 rfl) ?_
  refine cx_vVp (As := [.int i_i]) (rest := []) ⟨hx, hb, hml, hown, hts⟩ (c_X4_needRow l hlt g a_X a_P a_X_levels a_E a_F a_R a_X_vector a_X_solution a_P_entries a_P_order a_P_places a_P_rights a_P_weights i_i X_solved X_levelCount P_rows hv) (cx_cwV 1 hts cw_m_X4_73 cw_i_X4_needRow cw_s_X4_needRow cw_n_X4 cw_c_X4_needRow rfl rfl (by decide +kernel) ⟨Nat.le_of_ble_eq_true rfl, Nat.le_of_ble_eq_true rfl⟩) hK hKX hZ hAe htab hlocks hP hD hS hA 0 4 rfl rfl [0, 1] rfl rfl rfl hl.1 rfl (Nat.le_of_ble_eq_true rfl) dX4_parent_2 ⟨Nat.le_of_ble_eq_true rfl, Nat.le_of_ble_eq_true rfl⟩ (Nat.le_of_ble_eq_true rfl) (Nat.le_of_ble_eq_true rfl) (fun H locs hv hP hS => ?_)
  refine W.widen (k := 1) (n := 6) (Nat.le_of_ble_eq_true rfl) (Nat.le_of_ble_eq_true rfl) ?_
  refine lv_aload_n hx hb dX4_parent_5 rfl (lv_at hl 0 rfl) ?_
  refine va_get (D := g.1) (ci := 4) (v := .ref a_E) (C := RX4) (T := TX4) (N := 9) hx hb hts cw_in_X4 hown hK.1 hP 0 rfl rfl 2 (by decide) (hts _ cw_f_X4_23) (fun _ h9 => h9) rfl dX4_parent_6 ?_
  refine lv_aload_n hx hb dX4_parent_9 rfl (lv_at hl 0 rfl) ?_
  refine va_get (D := g.1) (ci := 4) (v := .ref a_P) (C := RX4) (T := TX4) (N := 9) hx hb hts cw_in_X4 hown hK.1 hP 0 rfl rfl 0 (by decide) (hts _ cw_f_X4_10) (fun _ h9 => h9) rfl dX4_parent_10 ?_
  refine cx_vV (wr := [(a_X, .inr (4, [.ref a_P, .ref a_X_levels, .ref a_E, .ref a_F, .ref a_R, .ref a_X_vector, .ref a_X_solution, .int X_solved, .int X_levelCount]))]) (As := [.ref a_P]) (rest := []) ⟨hx, hb, hml, hown, hts⟩ (c_X0_run l g a_E a_P a_P_entries a_P_order a_P_places a_P_rights a_P_weights a_E_joined a_E_later a_E_paths P_rows P_entries E_joined P_order E_later E_paths hv) (cx_cwV 1 hts cw_m_X4_127 cw_i_X0_run cw_s_X0_run cw_n_X0 cw_c_X0_run rfl rfl (by decide +kernel) ⟨Nat.le_of_ble_eq_true rfl, Nat.le_of_ble_eq_true rfl⟩) hK hP hD hS hA 2 0 rfl rfl [1, 2, 3, 4, 5, 6, 7] [0] rfl rfl rfl rfl (by decide) rfl hl.1 rfl (Nat.le_of_ble_eq_true rfl) dX4_parent_13 ⟨Nat.le_of_ble_eq_true rfl, Nat.le_of_ble_eq_true rfl⟩ (fun w_5 H locs hv hP hD hS => ?_)
  obtain ⟨u_2, u_3, u_4⟩ := w_5
  have hP : va_P g.1 vwCl [(a_X, .inr (4, [.ref a_P, .ref a_X_levels, .ref a_E, .ref a_F, .ref a_R, .ref a_X_vector, .ref a_X_solution, .int X_solved, .int X_levelCount])), (a_P, .inr (2, [.int P_rows, .ref a_P_entries, .ref a_P_order, .ref a_P_places, .ref a_P_rights, .ref a_P_weights])), (a_E, .inr (0, [.ref a_E_joined, .ref a_E_later, .ref a_E_paths])), (a_P_entries, .inl (g.2.1, 256, .inl P_entries)), (a_E_joined, .inl (g.2.1, 16, .inl u_2)), (a_P_order, .inl (g.2.1, 16, .inl P_order)), (a_E_later, .inl (g.2.1, 16, .inl u_3)), (a_E_paths, .inl (g.2.1, 16, .inl u_4))] H := hP.sub [0, 1, 2, 3, 4, 5, 6, 7] rfl
  have hD : va_D A [(a_X, .inr (4, [.ref a_P, .ref a_X_levels, .ref a_E, .ref a_F, .ref a_R, .ref a_X_vector, .ref a_X_solution, .int X_solved, .int X_levelCount])), (a_P, .inr (2, [.int P_rows, .ref a_P_entries, .ref a_P_order, .ref a_P_places, .ref a_P_rights, .ref a_P_weights])), (a_E, .inr (0, [.ref a_E_joined, .ref a_E_later, .ref a_E_paths])), (a_P_entries, .inl (g.2.1, 256, .inl P_entries)), (a_E_joined, .inl (g.2.1, 16, .inl u_2)), (a_P_order, .inl (g.2.1, 16, .inl P_order)), (a_E_later, .inl (g.2.1, 16, .inl u_3)), (a_E_paths, .inl (g.2.1, 16, .inl u_4))] := hD.sub [0, 1, 2, 3, 4, 5, 6, 7] (by decide) rfl
  refine lv_aload_n hx hb dX4_parent_16 rfl (lv_at hl 0 rfl) ?_
  refine va_get (D := g.1) (ci := 4) (v := .ref a_P) (C := RX4) (T := TX4) (N := 9) hx hb hts cw_in_X4 hown hK.1 hP 0 rfl rfl 0 (by decide) (hts _ cw_f_X4_10) (fun _ h9 => h9) rfl dX4_parent_17 ?_
  refine lv_aload_n hx hb dX4_parent_20 rfl (lv_at hl 0 rfl) ?_
  refine va_get (D := g.1) (ci := 4) (v := .ref a_E) (C := RX4) (T := TX4) (N := 9) hx hb hts cw_in_X4 hown hK.1 hP 0 rfl rfl 2 (by decide) (hts _ cw_f_X4_23) (fun _ h9 => h9) rfl dX4_parent_21 ?_
  refine va_get (D := g.1) (ci := 0) (v := .ref a_E_later) (C := RX0) (T := TX0) (N := 3) hx hb hts cw_in_X0 hown hK.1 hP 2 rfl rfl 1 (by decide) (hts _ cw_f_X4_130) (fun _ h9 => h9) rfl dX4_parent_24 ?_
  refine lv_iload_n hx hb dX4_parent_27 rfl (lv_at hl 1 rfl) ?_
  obtain ⟨h_6, hv⟩ := hv
  refine va_iald (D := g.1) hx hb hK.1 hP 6 0 rfl rfl h_6 dX4_parent_28 ?_
  refine cx_iVr (As := [.int (u_3 (Int32.toNatClampNeg i_i))]) (rest := []) ⟨hx, hb, hml, hown, hts⟩ (c_X2_firstOf l g a_P a_P_entries a_P_order a_P_places a_P_rights a_P_weights (u_3 (Int32.toNatClampNeg i_i)) P_rows P_order hv) (cx_cwV 1 hts cw_m_X4_142 cw_i_X2_firstOf cw_s_X2_firstOf cw_n_X2 cw_c_X2_firstOf rfl rfl (by decide +kernel) ⟨Nat.le_of_ble_eq_true rfl, Nat.le_of_ble_eq_true rfl⟩) hK hP hD hS hA 1 2 rfl rfl [1, 5] rfl rfl rfl hl.1 rfl (Nat.le_of_ble_eq_true rfl) dX4_parent_29 ⟨Nat.le_of_ble_eq_true rfl, Nat.le_of_ble_eq_true rfl⟩ (fun r_7 H locs hv hP hS => ?_)
  exact vx_ret (cx_iret hx hb hr hlocks hAe hS (u_2, u_3, u_4) hv hP hD dX4_parent_32)
def wp_X4_depth (i_i : Int32) (X_solved : Int32) (X_levelCount : Int32) (P_rows : Int32) (P_entries : (Nat → Int32)) (E_joined : (Nat → Int32)) (P_order : (Nat → Int32)) (E_later : (Nat → Int32)) (E_paths : (Nat → Int32)) (Q : Int32 → (Nat → Int32) → (Nat → Int32) → (Nat → Int32) → Prop) (X : String → Prop)   : Prop := wp_X4_needRow i_i X_solved X_levelCount P_rows (wp_X0_run P_rows P_entries E_joined P_order E_later E_paths (fun u_2 u_3 u_4 => vp_in i_i 16 ∧ (Q ((f_bc (u_4 (Int32.toNatClampNeg i_i))) - 1) u_2 u_3 u_4))) X
abbrev w0_X4_depth (g : cx_G) (a_X a_P a_X_levels a_E a_F a_R a_X_vector a_X_solution a_P_entries a_P_order a_P_places a_P_rights a_P_weights a_E_joined a_E_later a_E_paths : Nat) (X_solved : Int32) (X_levelCount : Int32) (P_rows : Int32) (P_entries : (Nat → Int32)) (E_joined : (Nat → Int32)) (P_order : (Nat → Int32)) (E_later : (Nat → Int32)) (E_paths : (Nat → Int32)) : va_W := [(a_X, .inr (4, [.ref a_P, .ref a_X_levels, .ref a_E, .ref a_F, .ref a_R, .ref a_X_vector, .ref a_X_solution, .int X_solved, .int X_levelCount])), (a_P, .inr (2, [.int P_rows, .ref a_P_entries, .ref a_P_order, .ref a_P_places, .ref a_P_rights, .ref a_P_weights])), (a_E, .inr (0, [.ref a_E_joined, .ref a_E_later, .ref a_E_paths])), (a_P_entries, .inl (g.2.1, 256, .inl P_entries)), (a_E_joined, .inl (g.2.1, 16, .inl E_joined)), (a_P_order, .inl (g.2.1, 16, .inl P_order)), (a_E_later, .inl (g.2.1, 16, .inl E_later)), (a_E_paths, .inl (g.2.1, 16, .inl E_paths))]
abbrev w1_X4_depth (g : cx_G) (a_X a_P a_X_levels a_E a_F a_R a_X_vector a_X_solution a_P_entries a_P_order a_P_places a_P_rights a_P_weights a_E_joined a_E_later a_E_paths : Nat) (X_solved : Int32) (X_levelCount : Int32) (P_rows : Int32) (P_entries : (Nat → Int32)) (E_joined : (Nat → Int32)) (P_order : (Nat → Int32)) (E_later : (Nat → Int32)) (E_paths : (Nat → Int32)) (u : (Nat → Int32) × (Nat → Int32) × (Nat → Int32)) : va_W := [(a_X, .inr (4, [.ref a_P, .ref a_X_levels, .ref a_E, .ref a_F, .ref a_R, .ref a_X_vector, .ref a_X_solution, .int X_solved, .int X_levelCount])), (a_P, .inr (2, [.int P_rows, .ref a_P_entries, .ref a_P_order, .ref a_P_places, .ref a_P_rights, .ref a_P_weights])), (a_E, .inr (0, [.ref a_E_joined, .ref a_E_later, .ref a_E_paths])), (a_P_entries, .inl (g.2.1, 256, .inl P_entries)), (a_E_joined, .inl (g.2.1, 16, .inl u.1)), (a_P_order, .inl (g.2.1, 16, .inl P_order)), (a_E_later, .inl (g.2.1, 16, .inl u.2.1)), (a_E_paths, .inl (g.2.1, 16, .inl u.2.2))]
set_option maxHeartbeats 4000000 in
set_option maxRecDepth 100000 in
theorem c_X4_depth (l : Launch) (hlt : l.stackTraces = false) (g : cx_G) (a_X a_P a_X_levels a_E a_F a_R a_X_vector a_X_solution a_P_entries a_P_order a_P_places a_P_rights a_P_weights a_E_joined a_E_later a_E_paths : Nat) (i_i : Int32) (X_solved : Int32) (X_levelCount : Int32) (P_rows : Int32) (P_entries : (Nat → Int32)) (E_joined : (Nat → Int32)) (P_order : (Nat → Int32)) (E_later : (Nat → Int32)) (E_paths : (Nat → Int32)) {Q : Int32 → (Nat → Int32) → (Nat → Int32) → (Nat → Int32) → Prop} {X : String → Prop} (hv : wp_X4_depth i_i X_solved X_levelCount P_rows P_entries E_joined P_order E_later E_paths Q X) : cx_Ei l g yX4_depth (Cond.code yX4_depth cX4_depth 2 (some .int) :: cx_T) ({ frames := 7, cells := 1, slots := 6, locals := 112 } : Room) [.ref a_X, .int i_i] (w0_X4_depth g a_X a_P a_X_levels a_E a_F a_R a_X_vector a_X_solution a_P_entries a_P_order a_P_places a_P_rights a_P_weights a_E_joined a_E_later a_E_paths X_solved X_levelCount P_rows P_entries E_joined P_order E_later E_paths) (fun (r : Int32) (u : (Nat → Int32) × (Nat → Int32) × (Nat → Int32)) => Q r u.1 u.2.1 u.2.2) (w1_X4_depth g a_X a_P a_X_levels a_E a_F a_R a_X_vector a_X_solution a_P_entries a_P_order a_P_places a_P_rights a_P_weights a_E_joined a_E_later a_E_paths X_solved X_levelCount P_rows P_entries E_joined P_order E_later E_paths) X 1 6 := by
  intro sz
  refine vx_ofW (cc := cX4_depth) (maxL := 2) (ret := (some .int)) (by decide) rfl ?_
  intro p e s m args below meth c s₁ B hml htab hpre
  obtain ⟨rfl, hsz, hP, hK, hD0, hKX, hZ⟩ := hpre
  have hx := B.exec
  have hb := B.bytes
  have hr := B.returns
  have hts0 := atoms_spec (ws := (Cond.code yX4_depth cX4_depth 2 (some .int) :: cx_T)) B.pre
  have hts : ∀ w ∈ cx_T, w.before _ s = true := fun w h => hts0 w (List.mem_cons_of_mem _ h)
  have hown : s.vm.findClass RX4 = some m.cls := findClass_of_methodNamed B.named
  have hlocks := B.notSynchronized
  subst hsz
  have hD := hD0.self (sz := s.heap.size)
  obtain ⟨A, hAe⟩ : ∃ A : Nat → Prop, A = va_A (w0_X4_depth g a_X a_P a_X_levels a_E a_F a_R a_X_vector a_X_solution a_P_entries a_P_order a_P_places a_P_rights a_P_weights a_E_joined a_E_later a_E_paths X_solved X_levelCount P_rows P_entries E_joined P_order E_later E_paths) s.heap.size := ⟨_, rfl⟩
  rw [← hAe] at hD hZ
  have hA : ∀ q : Nat, s.heap.size ≤ q → A q := fun q h => by rw [hAe]; exact Or.inr h
  have hS : va_S A s.heap s.heap [] := va_S.rf
  have hP : va_P g.1 vwCl [(a_X, .inr (4, [.ref a_P, .ref a_X_levels, .ref a_E, .ref a_F, .ref a_R, .ref a_X_vector, .ref a_X_solution, .int X_solved, .int X_levelCount])), (a_P, .inr (2, [.int P_rows, .ref a_P_entries, .ref a_P_order, .ref a_P_places, .ref a_P_rights, .ref a_P_weights])), (a_E, .inr (0, [.ref a_E_joined, .ref a_E_later, .ref a_E_paths])), (a_P_entries, .inl (g.2.1, 256, .inl P_entries)), (a_E_joined, .inl (g.2.1, 16, .inl E_joined)), (a_P_order, .inl (g.2.1, 16, .inl P_order)), (a_E_later, .inl (g.2.1, 16, .inl E_later)), (a_E_paths, .inl (g.2.1, 16, .inl E_paths))] s.heap := hP
  have hD : va_D A [(a_X, .inr (4, [.ref a_P, .ref a_X_levels, .ref a_E, .ref a_F, .ref a_R, .ref a_X_vector, .ref a_X_solution, .int X_solved, .int X_levelCount])), (a_P, .inr (2, [.int P_rows, .ref a_P_entries, .ref a_P_order, .ref a_P_places, .ref a_P_rights, .ref a_P_weights])), (a_E, .inr (0, [.ref a_E_joined, .ref a_E_later, .ref a_E_paths])), (a_P_entries, .inl (g.2.1, 256, .inl P_entries)), (a_E_joined, .inl (g.2.1, 16, .inl E_joined)), (a_P_order, .inl (g.2.1, 16, .inl P_order)), (a_E_later, .inl (g.2.1, 16, .inl E_later)), (a_E_paths, .inl (g.2.1, 16, .inl E_paths))] := hD
  have hl := lv_entry ([.ref a_X, .int i_i]) (n := 2) (Nat.le_of_ble_eq_true rfl)
  rw [lg_entry_eq]
  generalize (lg_sl ([.ref a_X, .int i_i]) ++ List.replicate (2 - (lg_sl ([.ref a_X, .int i_i])).length) Slot.unset).toArray = ls at hl ⊢
  have hl : lv_has ls 2 [(0, .ref a_X), (1, .int i_i)] := hl
  unfold wp_X4_depth at hv
  refine lv_aload_n hx hb dX4_depth_0 rfl (lv_at hl 0 rfl) ?_
  refine lv_iload_n hx hb dX4_depth_1 rfl (lv_at hl 1 rfl) ?_
  refine cx_vVp (As := [.int i_i]) (rest := []) ⟨hx, hb, hml, hown, hts⟩ (c_X4_needRow l hlt g a_X a_P a_X_levels a_E a_F a_R a_X_vector a_X_solution a_P_entries a_P_order a_P_places a_P_rights a_P_weights i_i X_solved X_levelCount P_rows hv) (cx_cwV 1 hts cw_m_X4_73 cw_i_X4_needRow cw_s_X4_needRow cw_n_X4 cw_c_X4_needRow rfl rfl (by decide +kernel) ⟨Nat.le_of_ble_eq_true rfl, Nat.le_of_ble_eq_true rfl⟩) hK hKX hZ hAe htab hlocks hP hD hS hA 0 4 rfl rfl [0, 1] rfl rfl rfl hl.1 rfl (Nat.le_of_ble_eq_true rfl) dX4_depth_2 ⟨Nat.le_of_ble_eq_true rfl, Nat.le_of_ble_eq_true rfl⟩ (Nat.le_of_ble_eq_true rfl) (Nat.le_of_ble_eq_true rfl) (fun H locs hv hP hS => ?_)
  refine W.widen (k := 1) (n := 6) (Nat.le_of_ble_eq_true rfl) (Nat.le_of_ble_eq_true rfl) ?_
  refine lv_aload_n hx hb dX4_depth_5 rfl (lv_at hl 0 rfl) ?_
  refine va_get (D := g.1) (ci := 4) (v := .ref a_E) (C := RX4) (T := TX4) (N := 9) hx hb hts cw_in_X4 hown hK.1 hP 0 rfl rfl 2 (by decide) (hts _ cw_f_X4_23) (fun _ h9 => h9) rfl dX4_depth_6 ?_
  refine lv_aload_n hx hb dX4_depth_9 rfl (lv_at hl 0 rfl) ?_
  refine va_get (D := g.1) (ci := 4) (v := .ref a_P) (C := RX4) (T := TX4) (N := 9) hx hb hts cw_in_X4 hown hK.1 hP 0 rfl rfl 0 (by decide) (hts _ cw_f_X4_10) (fun _ h9 => h9) rfl dX4_depth_10 ?_
  refine cx_vV (wr := [(a_X, .inr (4, [.ref a_P, .ref a_X_levels, .ref a_E, .ref a_F, .ref a_R, .ref a_X_vector, .ref a_X_solution, .int X_solved, .int X_levelCount]))]) (As := [.ref a_P]) (rest := []) ⟨hx, hb, hml, hown, hts⟩ (c_X0_run l g a_E a_P a_P_entries a_P_order a_P_places a_P_rights a_P_weights a_E_joined a_E_later a_E_paths P_rows P_entries E_joined P_order E_later E_paths hv) (cx_cwV 1 hts cw_m_X4_127 cw_i_X0_run cw_s_X0_run cw_n_X0 cw_c_X0_run rfl rfl (by decide +kernel) ⟨Nat.le_of_ble_eq_true rfl, Nat.le_of_ble_eq_true rfl⟩) hK hP hD hS hA 2 0 rfl rfl [1, 2, 3, 4, 5, 6, 7] [0] rfl rfl rfl rfl (by decide) rfl hl.1 rfl (Nat.le_of_ble_eq_true rfl) dX4_depth_13 ⟨Nat.le_of_ble_eq_true rfl, Nat.le_of_ble_eq_true rfl⟩ (fun w_5 H locs hv hP hD hS => ?_)
  obtain ⟨u_2, u_3, u_4⟩ := w_5
  have hP : va_P g.1 vwCl [(a_X, .inr (4, [.ref a_P, .ref a_X_levels, .ref a_E, .ref a_F, .ref a_R, .ref a_X_vector, .ref a_X_solution, .int X_solved, .int X_levelCount])), (a_P, .inr (2, [.int P_rows, .ref a_P_entries, .ref a_P_order, .ref a_P_places, .ref a_P_rights, .ref a_P_weights])), (a_E, .inr (0, [.ref a_E_joined, .ref a_E_later, .ref a_E_paths])), (a_P_entries, .inl (g.2.1, 256, .inl P_entries)), (a_E_joined, .inl (g.2.1, 16, .inl u_2)), (a_P_order, .inl (g.2.1, 16, .inl P_order)), (a_E_later, .inl (g.2.1, 16, .inl u_3)), (a_E_paths, .inl (g.2.1, 16, .inl u_4))] H := hP.sub [0, 1, 2, 3, 4, 5, 6, 7] rfl
  have hD : va_D A [(a_X, .inr (4, [.ref a_P, .ref a_X_levels, .ref a_E, .ref a_F, .ref a_R, .ref a_X_vector, .ref a_X_solution, .int X_solved, .int X_levelCount])), (a_P, .inr (2, [.int P_rows, .ref a_P_entries, .ref a_P_order, .ref a_P_places, .ref a_P_rights, .ref a_P_weights])), (a_E, .inr (0, [.ref a_E_joined, .ref a_E_later, .ref a_E_paths])), (a_P_entries, .inl (g.2.1, 256, .inl P_entries)), (a_E_joined, .inl (g.2.1, 16, .inl u_2)), (a_P_order, .inl (g.2.1, 16, .inl P_order)), (a_E_later, .inl (g.2.1, 16, .inl u_3)), (a_E_paths, .inl (g.2.1, 16, .inl u_4))] := hD.sub [0, 1, 2, 3, 4, 5, 6, 7] (by decide) rfl
  refine lv_aload_n hx hb dX4_depth_16 rfl (lv_at hl 0 rfl) ?_
  refine va_get (D := g.1) (ci := 4) (v := .ref a_E) (C := RX4) (T := TX4) (N := 9) hx hb hts cw_in_X4 hown hK.1 hP 0 rfl rfl 2 (by decide) (hts _ cw_f_X4_23) (fun _ h9 => h9) rfl dX4_depth_17 ?_
  refine va_get (D := g.1) (ci := 0) (v := .ref a_E_paths) (C := RX0) (T := TX0) (N := 3) hx hb hts cw_in_X0 hown hK.1 hP 2 rfl rfl 2 (by decide) (hts _ cw_f_X4_145) (fun _ h9 => h9) rfl dX4_depth_20 ?_
  refine lv_iload_n hx hb dX4_depth_23 rfl (lv_at hl 1 rfl) ?_
  obtain ⟨h_6, hv⟩ := hv
  refine va_iald (D := g.1) hx hb hK.1 hP 7 0 rfl rfl h_6 dX4_depth_24 ?_
  refine cx_iSr (As := [.int (u_4 (Int32.toNatClampNeg i_i))]) (rest := []) ⟨hx, hb, hml, hown, hts⟩ (cp_J6_bitCount_0f7a4 l g (u_4 (Int32.toNatClampNeg i_i))) (cx_cwS 1 hts cw_m_X4_137 cw_t_J6_bitCount_0f7a4 cw_n_J6 cw_c_J6_bitCount_0f7a4 rfl rfl (by decide +kernel) ⟨Nat.le_of_ble_eq_true rfl, Nat.le_of_ble_eq_true rfl⟩) hK hP hD hS hA [] rfl rfl rfl hl.1 rfl (Nat.le_of_ble_eq_true rfl) dX4_depth_25 ⟨Nat.le_of_ble_eq_true rfl, Nat.le_of_ble_eq_true rfl⟩ (fun r_7 H locs hr9 hP hS => ?_)
  replace hr9 : r_7 = (f_bc (u_4 (Int32.toNatClampNeg i_i))) := hr9
  subst hr9
  refine lv_iconst (v := 1) hx hb dX4_depth_28 (by decide) ?_
  refine lv_isub hx hb dX4_depth_29 ?_
  exact vx_ret (cx_iret hx hb hr hlocks hAe hS (u_2, u_3, u_4) hv hP hD dX4_depth_30)
def vc_X4_subtree_0 (i_i : Int32) (X_solved : Int32) (X_levelCount : Int32) (P_rows : Int32) (P_entries : (Nat → Int32)) (E_joined : (Nat → Int32)) (P_order : (Nat → Int32)) (E_later : (Nat → Int32)) (E_paths : (Nat → Int32)) (Q : Int32 → (Nat → Int32) → (Nat → Int32) → (Nat → Int32) → Prop) (X : String → Prop) (G1 : Int32 → Int32 → (Nat → Int32) → (Nat → Int32) → (Nat → Int32) → Prop)  : Prop := wp_X4_needRow i_i X_solved X_levelCount P_rows (wp_X0_run P_rows P_entries E_joined P_order E_later E_paths (fun u_2 u_3 u_4 => G1 0 0 u_2 u_3 u_4)) X
def vc_X4_subtree_1 (i_i : Int32) (X_solved : Int32) (X_levelCount : Int32) (P_rows : Int32) (P_entries : (Nat → Int32)) (E_joined : (Nat → Int32)) (P_order : (Nat → Int32)) (E_later : (Nat → Int32)) (E_paths : (Nat → Int32)) (Q : Int32 → (Nat → Int32) → (Nat → Int32) → (Nat → Int32) → Prop) (X : String → Prop) (G1 : Int32 → Int32 → (Nat → Int32) → (Nat → Int32) → (Nat → Int32) → Prop) (x3 : Int32) (x2 : Int32) (v_E_joined : (Nat → Int32)) (v_E_later : (Nat → Int32)) (v_E_paths : (Nat → Int32)) : Prop := (P_rows ≤ x3 → (Q x2 v_E_joined v_E_later v_E_paths)) ∧ (¬ P_rows ≤ x3 → (vp_in x3 16 ∧ (((f_has (v_E_paths (Int32.toNatClampNeg x3)) i_i) = 0 → (∀ x3_3 : Int32, x3_3 = x3 + 1 → (G1 x3_3 x2 v_E_joined v_E_later v_E_paths))) ∧ (¬ (f_has (v_E_paths (Int32.toNatClampNeg x3)) i_i) = 0 → (∀ x2_4 : Int32, x2_4 = x2 + 1 → (∀ x3_5 : Int32, x3_5 = x3 + 1 → (G1 x3_5 x2_4 v_E_joined v_E_later v_E_paths)))))))
def wp_X4_subtree (i_i : Int32) (X_solved : Int32) (X_levelCount : Int32) (P_rows : Int32) (P_entries : (Nat → Int32)) (E_joined : (Nat → Int32)) (P_order : (Nat → Int32)) (E_later : (Nat → Int32)) (E_paths : (Nat → Int32)) (Q : Int32 → (Nat → Int32) → (Nat → Int32) → (Nat → Int32) → Prop) (X : String → Prop) : Prop := ∀ (G1 : Int32 → Int32 → (Nat → Int32) → (Nat → Int32) → (Nat → Int32) → Prop), (∀ (x3 : Int32) (x2 : Int32) (v_E_joined : (Nat → Int32)) (v_E_later : (Nat → Int32)) (v_E_paths : (Nat → Int32)), vc_X4_subtree_1 i_i X_solved X_levelCount P_rows P_entries E_joined P_order E_later E_paths Q X G1 x3 x2 v_E_joined v_E_later v_E_paths → G1 x3 x2 v_E_joined v_E_later v_E_paths) → vc_X4_subtree_0 i_i X_solved X_levelCount P_rows P_entries E_joined P_order E_later E_paths Q X G1
abbrev w0_X4_subtree (g : cx_G) (a_X a_P a_X_levels a_E a_F a_R a_X_vector a_X_solution a_P_entries a_P_order a_P_places a_P_rights a_P_weights a_E_joined a_E_later a_E_paths : Nat) (X_solved : Int32) (X_levelCount : Int32) (P_rows : Int32) (P_entries : (Nat → Int32)) (E_joined : (Nat → Int32)) (P_order : (Nat → Int32)) (E_later : (Nat → Int32)) (E_paths : (Nat → Int32)) : va_W := [(a_X, .inr (4, [.ref a_P, .ref a_X_levels, .ref a_E, .ref a_F, .ref a_R, .ref a_X_vector, .ref a_X_solution, .int X_solved, .int X_levelCount])), (a_P, .inr (2, [.int P_rows, .ref a_P_entries, .ref a_P_order, .ref a_P_places, .ref a_P_rights, .ref a_P_weights])), (a_E, .inr (0, [.ref a_E_joined, .ref a_E_later, .ref a_E_paths])), (a_P_entries, .inl (g.2.1, 256, .inl P_entries)), (a_E_joined, .inl (g.2.1, 16, .inl E_joined)), (a_P_order, .inl (g.2.1, 16, .inl P_order)), (a_E_later, .inl (g.2.1, 16, .inl E_later)), (a_E_paths, .inl (g.2.1, 16, .inl E_paths))]
abbrev w1_X4_subtree (g : cx_G) (a_X a_P a_X_levels a_E a_F a_R a_X_vector a_X_solution a_P_entries a_P_order a_P_places a_P_rights a_P_weights a_E_joined a_E_later a_E_paths : Nat) (X_solved : Int32) (X_levelCount : Int32) (P_rows : Int32) (P_entries : (Nat → Int32)) (E_joined : (Nat → Int32)) (P_order : (Nat → Int32)) (E_later : (Nat → Int32)) (E_paths : (Nat → Int32)) (u : (Nat → Int32) × (Nat → Int32) × (Nat → Int32)) : va_W := [(a_X, .inr (4, [.ref a_P, .ref a_X_levels, .ref a_E, .ref a_F, .ref a_R, .ref a_X_vector, .ref a_X_solution, .int X_solved, .int X_levelCount])), (a_P, .inr (2, [.int P_rows, .ref a_P_entries, .ref a_P_order, .ref a_P_places, .ref a_P_rights, .ref a_P_weights])), (a_E, .inr (0, [.ref a_E_joined, .ref a_E_later, .ref a_E_paths])), (a_P_entries, .inl (g.2.1, 256, .inl P_entries)), (a_E_joined, .inl (g.2.1, 16, .inl u.1)), (a_P_order, .inl (g.2.1, 16, .inl P_order)), (a_E_later, .inl (g.2.1, 16, .inl u.2.1)), (a_E_paths, .inl (g.2.1, 16, .inl u.2.2))]
set_option maxHeartbeats 4000000 in
set_option maxRecDepth 100000 in
theorem c_X4_subtree (l : Launch) (hlt : l.stackTraces = false) (g : cx_G) (a_X a_P a_X_levels a_E a_F a_R a_X_vector a_X_solution a_P_entries a_P_order a_P_places a_P_rights a_P_weights a_E_joined a_E_later a_E_paths : Nat) (i_i : Int32) (X_solved : Int32) (X_levelCount : Int32) (P_rows : Int32) (P_entries : (Nat → Int32)) (E_joined : (Nat → Int32)) (P_order : (Nat → Int32)) (E_later : (Nat → Int32)) (E_paths : (Nat → Int32)) {Q : Int32 → (Nat → Int32) → (Nat → Int32) → (Nat → Int32) → Prop} {X : String → Prop} (hv : wp_X4_subtree i_i X_solved X_levelCount P_rows P_entries E_joined P_order E_later E_paths Q X) : cx_Ei l g yX4_subtree (Cond.code yX4_subtree cX4_subtree 4 (some .int) :: cx_T) ({ frames := 7, cells := 1, slots := 6, locals := 112 } : Room) [.ref a_X, .int i_i] (w0_X4_subtree g a_X a_P a_X_levels a_E a_F a_R a_X_vector a_X_solution a_P_entries a_P_order a_P_places a_P_rights a_P_weights a_E_joined a_E_later a_E_paths X_solved X_levelCount P_rows P_entries E_joined P_order E_later E_paths) (fun (r : Int32) (u : (Nat → Int32) × (Nat → Int32) × (Nat → Int32)) => Q r u.1 u.2.1 u.2.2) (w1_X4_subtree g a_X a_P a_X_levels a_E a_F a_R a_X_vector a_X_solution a_P_entries a_P_order a_P_places a_P_rights a_P_weights a_E_joined a_E_later a_E_paths X_solved X_levelCount P_rows P_entries E_joined P_order E_later E_paths) X 1 6 := by
  intro sz
  refine vx_ofW (cc := cX4_subtree) (maxL := 4) (ret := (some .int)) (by decide) rfl ?_
  intro p e s m args below meth c s₁ B hml htab hpre
  obtain ⟨rfl, hsz, hP, hK, hD0, hKX, hZ⟩ := hpre
  have hx := B.exec
  have hb := B.bytes
  have hr := B.returns
  have hts0 := atoms_spec (ws := (Cond.code yX4_subtree cX4_subtree 4 (some .int) :: cx_T)) B.pre
  have hts : ∀ w ∈ cx_T, w.before _ s = true := fun w h => hts0 w (List.mem_cons_of_mem _ h)
  have hown : s.vm.findClass RX4 = some m.cls := findClass_of_methodNamed B.named
  have hlocks := B.notSynchronized
  subst hsz
  have hD := hD0.self (sz := s.heap.size)
  obtain ⟨A, hAe⟩ : ∃ A : Nat → Prop, A = va_A (w0_X4_subtree g a_X a_P a_X_levels a_E a_F a_R a_X_vector a_X_solution a_P_entries a_P_order a_P_places a_P_rights a_P_weights a_E_joined a_E_later a_E_paths X_solved X_levelCount P_rows P_entries E_joined P_order E_later E_paths) s.heap.size := ⟨_, rfl⟩
  rw [← hAe] at hD hZ
  have hA : ∀ q : Nat, s.heap.size ≤ q → A q := fun q h => by rw [hAe]; exact Or.inr h
  have hS : va_S A s.heap s.heap [] := va_S.rf
  have hP : va_P g.1 vwCl [(a_X, .inr (4, [.ref a_P, .ref a_X_levels, .ref a_E, .ref a_F, .ref a_R, .ref a_X_vector, .ref a_X_solution, .int X_solved, .int X_levelCount])), (a_P, .inr (2, [.int P_rows, .ref a_P_entries, .ref a_P_order, .ref a_P_places, .ref a_P_rights, .ref a_P_weights])), (a_E, .inr (0, [.ref a_E_joined, .ref a_E_later, .ref a_E_paths])), (a_P_entries, .inl (g.2.1, 256, .inl P_entries)), (a_E_joined, .inl (g.2.1, 16, .inl E_joined)), (a_P_order, .inl (g.2.1, 16, .inl P_order)), (a_E_later, .inl (g.2.1, 16, .inl E_later)), (a_E_paths, .inl (g.2.1, 16, .inl E_paths))] s.heap := hP
  have hD : va_D A [(a_X, .inr (4, [.ref a_P, .ref a_X_levels, .ref a_E, .ref a_F, .ref a_R, .ref a_X_vector, .ref a_X_solution, .int X_solved, .int X_levelCount])), (a_P, .inr (2, [.int P_rows, .ref a_P_entries, .ref a_P_order, .ref a_P_places, .ref a_P_rights, .ref a_P_weights])), (a_E, .inr (0, [.ref a_E_joined, .ref a_E_later, .ref a_E_paths])), (a_P_entries, .inl (g.2.1, 256, .inl P_entries)), (a_E_joined, .inl (g.2.1, 16, .inl E_joined)), (a_P_order, .inl (g.2.1, 16, .inl P_order)), (a_E_later, .inl (g.2.1, 16, .inl E_later)), (a_E_paths, .inl (g.2.1, 16, .inl E_paths))] := hD
  have hl := lv_entry ([.ref a_X, .int i_i]) (n := 4) (Nat.le_of_ble_eq_true rfl)
  rw [lg_entry_eq]
  generalize (lg_sl ([.ref a_X, .int i_i]) ++ List.replicate (4 - (lg_sl ([.ref a_X, .int i_i])).length) Slot.unset).toArray = ls at hl ⊢
  have hl : lv_has ls 4 [(0, .ref a_X), (1, .int i_i)] := hl
  obtain ⟨G1, hG1⟩ : ∃ G : Int32 → Int32 → (Nat → Int32) → (Nat → Int32) → (Nat → Int32) → Prop, G = (fun (x3 : Int32) (x2 : Int32) (v_E_joined : (Nat → Int32)) (v_E_later : (Nat → Int32)) (v_E_paths : (Nat → Int32)) => ∀ (H : Heap) (locs : List Loc) (ls : Array Slot), va_P g.1 vwCl [(a_X, .inr (4, [.ref a_P, .ref a_X_levels, .ref a_E, .ref a_F, .ref a_R, .ref a_X_vector, .ref a_X_solution, .int X_solved, .int X_levelCount])), (a_P, .inr (2, [.int P_rows, .ref a_P_entries, .ref a_P_order, .ref a_P_places, .ref a_P_rights, .ref a_P_weights])), (a_E, .inr (0, [.ref a_E_joined, .ref a_E_later, .ref a_E_paths])), (a_P_entries, .inl (g.2.1, 256, .inl P_entries)), (a_E_joined, .inl (g.2.1, 16, .inl v_E_joined)), (a_P_order, .inl (g.2.1, 16, .inl P_order)), (a_E_later, .inl (g.2.1, 16, .inl v_E_later)), (a_E_paths, .inl (g.2.1, 16, .inl v_E_paths))] H → va_D A [(a_X, .inr (4, [.ref a_P, .ref a_X_levels, .ref a_E, .ref a_F, .ref a_R, .ref a_X_vector, .ref a_X_solution, .int X_solved, .int X_levelCount])), (a_P, .inr (2, [.int P_rows, .ref a_P_entries, .ref a_P_order, .ref a_P_places, .ref a_P_rights, .ref a_P_weights])), (a_E, .inr (0, [.ref a_E_joined, .ref a_E_later, .ref a_E_paths])), (a_P_entries, .inl (g.2.1, 256, .inl P_entries)), (a_E_joined, .inl (g.2.1, 16, .inl v_E_joined)), (a_P_order, .inl (g.2.1, 16, .inl P_order)), (a_E_later, .inl (g.2.1, 16, .inl v_E_later)), (a_E_paths, .inl (g.2.1, 16, .inl v_E_paths))] → va_S A s.heap H locs → lv_has ls 4 [(3, .int x3), (2, .int x2), (0, .ref a_X), (1, .int i_i)] → W p l e (headSpec (Cond.code yX4_subtree cX4_subtree 4 (some .int) :: cx_T) ({ frames := 7, cells := 1, slots := 6, locals := 112 } : Room)).room s m ([.ref a_X, .int i_i] : List Value).toArray below meth c H locs 1 6 (vx_MQ below (va_Qi (fun (r : Int32) (u : (Nat → Int32) × (Nat → Int32) × (Nat → Int32)) => Q r u.1 u.2.1 u.2.2) (cx_B g (w0_X4_subtree g a_X a_P a_X_levels a_E a_F a_R a_X_vector a_X_solution a_P_entries a_P_order a_P_places a_P_rights a_P_weights a_E_joined a_E_later a_E_paths X_solved X_levelCount P_rows P_entries E_joined P_order E_later E_paths) s.heap.size (w1_X4_subtree g a_X a_P a_X_levels a_E a_F a_R a_X_vector a_X_solution a_P_entries a_P_order a_P_places a_P_rights a_P_weights a_E_joined a_E_later a_E_paths X_solved X_levelCount P_rows P_entries E_joined P_order E_later E_paths)) (va_A (w0_X4_subtree g a_X a_P a_X_levels a_E a_F a_R a_X_vector a_X_solution a_P_entries a_P_order a_P_places a_P_rights a_P_weights a_E_joined a_E_later a_E_paths X_solved X_levelCount P_rows P_entries E_joined P_order E_later E_paths) s.heap.size)) (cx_XC g (w0_X4_subtree g a_X a_P a_X_levels a_E a_F a_R a_X_vector a_X_solution a_P_entries a_P_order a_P_places a_P_rights a_P_weights a_E_joined a_E_later a_E_paths X_solved X_levelCount P_rows P_entries E_joined P_order E_later E_paths) s.heap.size X) ([.ref a_X, .int i_i] : List Value).toArray s 1 6 (va_A (w0_X4_subtree g a_X a_P a_X_levels a_E a_F a_R a_X_vector a_X_solution a_P_entries a_P_order a_P_places a_P_rights a_P_weights a_E_joined a_E_later a_E_paths X_solved X_levelCount P_rows P_entries E_joined P_order E_later E_paths) s.heap.size)) (F0 m 20 ls [])) := ⟨_, rfl⟩
  have hs1 : ∀ (x3 : Int32) (x2 : Int32) (v_E_joined : (Nat → Int32)) (v_E_later : (Nat → Int32)) (v_E_paths : (Nat → Int32)), vc_X4_subtree_1 i_i X_solved X_levelCount P_rows P_entries E_joined P_order E_later E_paths Q X G1 x3 x2 v_E_joined v_E_later v_E_paths → G1 x3 x2 v_E_joined v_E_later v_E_paths := by
    rw [hG1]
    intro x3 x2 v_E_joined v_E_later v_E_paths hv H locs ls hP hD hS hl
    unfold vc_X4_subtree_1 at hv
    refine lv_iload_n hx hb dX4_subtree_20 rfl (lv_at hl 0 rfl) ?_
    refine lv_aload_n hx hb dX4_subtree_21 rfl (lv_at hl 2 rfl) ?_
    refine va_get (D := g.1) (ci := 4) (v := .ref a_P) (C := RX4) (T := TX4) (N := 9) hx hb hts cw_in_X4 hown hK.1 hP 0 rfl rfl 0 (by decide) (hts _ cw_f_X4_10) (fun _ h9 => h9) rfl dX4_subtree_22 ?_
    refine va_get (D := g.1) (ci := 2) (v := .int P_rows) (C := RX2) (T := TX2) (N := 6) hx hb hts cw_in_X2 hown hK.1 hP 1 rfl rfl 0 (by decide) (hts _ cw_f_X4_70) (fun _ h9 => h9) rfl dX4_subtree_25 ?_
    refine lv_icmp_ge (tgt := 56) hx hb dX4_subtree_28 (by decide) (fun hc => ?_) (fun hc => ?_)
    · replace hv := hv.1 hc
      refine lv_iload_n hx hb dX4_subtree_56 rfl (lv_at hl 1 rfl) ?_
      exact vx_ret (cx_iret hx hb hr hlocks hAe hS (v_E_joined, v_E_later, v_E_paths) hv hP hD dX4_subtree_57)
    · replace hv := hv.2 hc
      refine lv_aload_n hx hb dX4_subtree_31 rfl (lv_at hl 2 rfl) ?_
      refine va_get (D := g.1) (ci := 4) (v := .ref a_E) (C := RX4) (T := TX4) (N := 9) hx hb hts cw_in_X4 hown hK.1 hP 0 rfl rfl 2 (by decide) (hts _ cw_f_X4_23) (fun _ h9 => h9) rfl dX4_subtree_32 ?_
      refine va_get (D := g.1) (ci := 0) (v := .ref a_E_paths) (C := RX0) (T := TX0) (N := 3) hx hb hts cw_in_X0 hown hK.1 hP 2 rfl rfl 2 (by decide) (hts _ cw_f_X4_145) (fun _ h9 => h9) rfl dX4_subtree_35 ?_
      refine lv_iload_n hx hb dX4_subtree_38 rfl (lv_at hl 0 rfl) ?_
      obtain ⟨h_1, hv⟩ := hv
      refine va_iald (D := g.1) hx hb hK.1 hP 7 0 rfl rfl h_1 dX4_subtree_39 ?_
      refine lv_iload_n hx hb dX4_subtree_40 rfl (lv_at hl 3 rfl) ?_
      refine cx_iSr (As := [.int (v_E_paths (Int32.toNatClampNeg x3)), .int i_i]) (rest := []) ⟨hx, hb, hml, hown, hts⟩ (cp_X4_has l g (v_E_paths (Int32.toNatClampNeg x3)) i_i) (cx_cwS 2 hts cw_m_X4_133 cw_t_X4_has cw_n_X4 cw_c_X4_has rfl rfl (by decide +kernel) ⟨Nat.le_of_ble_eq_true rfl, Nat.le_of_ble_eq_true rfl⟩) hK hP hD hS hA [] rfl rfl rfl hl.1 rfl (Nat.le_of_ble_eq_true rfl) dX4_subtree_41 ⟨Nat.le_of_ble_eq_true rfl, Nat.le_of_ble_eq_true rfl⟩ (fun r_2 H locs hr9 hP hS => ?_)
      replace hr9 : r_2 = (f_has (v_E_paths (Int32.toNatClampNeg x3)) i_i) := hr9
      subst hr9
      refine lv_if_eq (tgt := 50) hx hb dX4_subtree_44 (by decide) (fun hc => ?_) (fun hc => ?_)
      · replace hv := hv.1 hc
        obtain ⟨x3_3, ex3_3⟩ : ∃ y : Int32, y = x3 + 1 := ⟨_, rfl⟩
        replace hv := hv x3_3 ex3_3
        refine lv_iinc (v := x3_3) (lv' := [(3, .int x3_3), (2, .int x2), (0, .ref a_X), (1, .int i_i)]) hx hb dX4_subtree_50 hl (k := 0) rfl (by rw [ex3_3]; rfl) (by decide) rfl (fun ls hl => ?_)
        refine lv_goto (tgt := 20) hx hb dX4_subtree_53 (by decide) ?_
        exact hv _ _ _ hP hD hS (lv_sub hl [0, 1, 2, 3] rfl)
      · replace hv := hv.2 hc
        obtain ⟨x2_4, ex2_4⟩ : ∃ y : Int32, y = x2 + 1 := ⟨_, rfl⟩
        replace hv := hv x2_4 ex2_4
        refine lv_iinc (v := x2_4) (lv' := [(2, .int x2_4), (3, .int x3), (0, .ref a_X), (1, .int i_i)]) hx hb dX4_subtree_47 hl (k := 1) rfl (by rw [ex2_4]; rfl) (by decide) rfl (fun ls hl => ?_)
        obtain ⟨x3_5, ex3_5⟩ : ∃ y : Int32, y = x3 + 1 := ⟨_, rfl⟩
        replace hv := hv x3_5 ex3_5
        refine lv_iinc (v := x3_5) (lv' := [(3, .int x3_5), (2, .int x2_4), (0, .ref a_X), (1, .int i_i)]) hx hb dX4_subtree_50 hl (k := 1) rfl (by rw [ex3_5]; rfl) (by decide) rfl (fun ls hl => ?_)
        refine lv_goto (tgt := 20) hx hb dX4_subtree_53 (by decide) ?_
        exact hv _ _ _ hP hD hS (lv_sub hl [0, 1, 2, 3] rfl)
  replace hv := hv G1 hs1
  rw [hG1] at hv
  unfold vc_X4_subtree_0 at hv
  refine lv_aload_n hx hb dX4_subtree_0 rfl (lv_at hl 0 rfl) ?_
  refine lv_iload_n hx hb dX4_subtree_1 rfl (lv_at hl 1 rfl) ?_
  refine cx_vVp (As := [.int i_i]) (rest := []) ⟨hx, hb, hml, hown, hts⟩ (c_X4_needRow l hlt g a_X a_P a_X_levels a_E a_F a_R a_X_vector a_X_solution a_P_entries a_P_order a_P_places a_P_rights a_P_weights i_i X_solved X_levelCount P_rows hv) (cx_cwV 1 hts cw_m_X4_73 cw_i_X4_needRow cw_s_X4_needRow cw_n_X4 cw_c_X4_needRow rfl rfl (by decide +kernel) ⟨Nat.le_of_ble_eq_true rfl, Nat.le_of_ble_eq_true rfl⟩) hK hKX hZ hAe htab hlocks hP hD hS hA 0 4 rfl rfl [0, 1] rfl rfl rfl hl.1 rfl (Nat.le_of_ble_eq_true rfl) dX4_subtree_2 ⟨Nat.le_of_ble_eq_true rfl, Nat.le_of_ble_eq_true rfl⟩ (Nat.le_of_ble_eq_true rfl) (Nat.le_of_ble_eq_true rfl) (fun H locs hv hP hS => ?_)
  refine W.widen (k := 1) (n := 6) (Nat.le_of_ble_eq_true rfl) (Nat.le_of_ble_eq_true rfl) ?_
  refine lv_aload_n hx hb dX4_subtree_5 rfl (lv_at hl 0 rfl) ?_
  refine va_get (D := g.1) (ci := 4) (v := .ref a_E) (C := RX4) (T := TX4) (N := 9) hx hb hts cw_in_X4 hown hK.1 hP 0 rfl rfl 2 (by decide) (hts _ cw_f_X4_23) (fun _ h9 => h9) rfl dX4_subtree_6 ?_
  refine lv_aload_n hx hb dX4_subtree_9 rfl (lv_at hl 0 rfl) ?_
  refine va_get (D := g.1) (ci := 4) (v := .ref a_P) (C := RX4) (T := TX4) (N := 9) hx hb hts cw_in_X4 hown hK.1 hP 0 rfl rfl 0 (by decide) (hts _ cw_f_X4_10) (fun _ h9 => h9) rfl dX4_subtree_10 ?_
  refine cx_vV (wr := [(a_X, .inr (4, [.ref a_P, .ref a_X_levels, .ref a_E, .ref a_F, .ref a_R, .ref a_X_vector, .ref a_X_solution, .int X_solved, .int X_levelCount]))]) (As := [.ref a_P]) (rest := []) ⟨hx, hb, hml, hown, hts⟩ (c_X0_run l g a_E a_P a_P_entries a_P_order a_P_places a_P_rights a_P_weights a_E_joined a_E_later a_E_paths P_rows P_entries E_joined P_order E_later E_paths hv) (cx_cwV 1 hts cw_m_X4_127 cw_i_X0_run cw_s_X0_run cw_n_X0 cw_c_X0_run rfl rfl (by decide +kernel) ⟨Nat.le_of_ble_eq_true rfl, Nat.le_of_ble_eq_true rfl⟩) hK hP hD hS hA 2 0 rfl rfl [1, 2, 3, 4, 5, 6, 7] [0] rfl rfl rfl rfl (by decide) rfl hl.1 rfl (Nat.le_of_ble_eq_true rfl) dX4_subtree_13 ⟨Nat.le_of_ble_eq_true rfl, Nat.le_of_ble_eq_true rfl⟩ (fun w_5 H locs hv hP hD hS => ?_)
  obtain ⟨u_2, u_3, u_4⟩ := w_5
  have hP : va_P g.1 vwCl [(a_X, .inr (4, [.ref a_P, .ref a_X_levels, .ref a_E, .ref a_F, .ref a_R, .ref a_X_vector, .ref a_X_solution, .int X_solved, .int X_levelCount])), (a_P, .inr (2, [.int P_rows, .ref a_P_entries, .ref a_P_order, .ref a_P_places, .ref a_P_rights, .ref a_P_weights])), (a_E, .inr (0, [.ref a_E_joined, .ref a_E_later, .ref a_E_paths])), (a_P_entries, .inl (g.2.1, 256, .inl P_entries)), (a_E_joined, .inl (g.2.1, 16, .inl u_2)), (a_P_order, .inl (g.2.1, 16, .inl P_order)), (a_E_later, .inl (g.2.1, 16, .inl u_3)), (a_E_paths, .inl (g.2.1, 16, .inl u_4))] H := hP.sub [0, 1, 2, 3, 4, 5, 6, 7] rfl
  have hD : va_D A [(a_X, .inr (4, [.ref a_P, .ref a_X_levels, .ref a_E, .ref a_F, .ref a_R, .ref a_X_vector, .ref a_X_solution, .int X_solved, .int X_levelCount])), (a_P, .inr (2, [.int P_rows, .ref a_P_entries, .ref a_P_order, .ref a_P_places, .ref a_P_rights, .ref a_P_weights])), (a_E, .inr (0, [.ref a_E_joined, .ref a_E_later, .ref a_E_paths])), (a_P_entries, .inl (g.2.1, 256, .inl P_entries)), (a_E_joined, .inl (g.2.1, 16, .inl u_2)), (a_P_order, .inl (g.2.1, 16, .inl P_order)), (a_E_later, .inl (g.2.1, 16, .inl u_3)), (a_E_paths, .inl (g.2.1, 16, .inl u_4))] := hD.sub [0, 1, 2, 3, 4, 5, 6, 7] (by decide) rfl
  refine lv_iconst (v := 0) hx hb dX4_subtree_16 (by decide) ?_
  refine lv_istore_n (lv' := [(2, .int 0), (0, .ref a_X), (1, .int i_i)]) hx hb dX4_subtree_17 rfl hl (by decide) rfl (fun ls hl => ?_)
  refine lv_iconst (v := 0) hx hb dX4_subtree_18 (by decide) ?_
  refine lv_istore_n (lv' := [(3, .int 0), (2, .int 0), (0, .ref a_X), (1, .int i_i)]) hx hb dX4_subtree_19 rfl hl (by decide) rfl (fun ls hl => ?_)
  exact hv _ _ _ hP hD hS (lv_sub hl [0, 1, 2, 3] rfl)
def wp_X4_meeting (i_i : Int32) (i_j : Int32) (X_solved : Int32) (X_levelCount : Int32) (P_rows : Int32) (P_entries : (Nat → Int32)) (E_joined : (Nat → Int32)) (P_order : (Nat → Int32)) (E_later : (Nat → Int32)) (E_paths : (Nat → Int32)) (Q : Int32 → (Nat → Int32) → (Nat → Int32) → (Nat → Int32) → Prop) (X : String → Prop)   : Prop := wp_X4_needRow i_i X_solved X_levelCount P_rows (wp_X4_needRow i_j X_solved X_levelCount P_rows (wp_X0_run P_rows P_entries E_joined P_order E_later E_paths (fun u_2 u_3 u_4 => vp_in i_i 16 ∧ (vp_in i_j 16 ∧ (wp_X2_firstOf ((u_4 (Int32.toNatClampNeg i_i)) &&& (u_4 (Int32.toNatClampNeg i_j))) P_rows P_order (fun r_8 => Q r_8 u_2 u_3 u_4))))) X) X
abbrev w0_X4_meeting (g : cx_G) (a_X a_P a_X_levels a_E a_F a_R a_X_vector a_X_solution a_P_entries a_P_order a_P_places a_P_rights a_P_weights a_E_joined a_E_later a_E_paths : Nat) (X_solved : Int32) (X_levelCount : Int32) (P_rows : Int32) (P_entries : (Nat → Int32)) (E_joined : (Nat → Int32)) (P_order : (Nat → Int32)) (E_later : (Nat → Int32)) (E_paths : (Nat → Int32)) : va_W := [(a_X, .inr (4, [.ref a_P, .ref a_X_levels, .ref a_E, .ref a_F, .ref a_R, .ref a_X_vector, .ref a_X_solution, .int X_solved, .int X_levelCount])), (a_P, .inr (2, [.int P_rows, .ref a_P_entries, .ref a_P_order, .ref a_P_places, .ref a_P_rights, .ref a_P_weights])), (a_E, .inr (0, [.ref a_E_joined, .ref a_E_later, .ref a_E_paths])), (a_P_entries, .inl (g.2.1, 256, .inl P_entries)), (a_E_joined, .inl (g.2.1, 16, .inl E_joined)), (a_P_order, .inl (g.2.1, 16, .inl P_order)), (a_E_later, .inl (g.2.1, 16, .inl E_later)), (a_E_paths, .inl (g.2.1, 16, .inl E_paths))]
abbrev w1_X4_meeting (g : cx_G) (a_X a_P a_X_levels a_E a_F a_R a_X_vector a_X_solution a_P_entries a_P_order a_P_places a_P_rights a_P_weights a_E_joined a_E_later a_E_paths : Nat) (X_solved : Int32) (X_levelCount : Int32) (P_rows : Int32) (P_entries : (Nat → Int32)) (E_joined : (Nat → Int32)) (P_order : (Nat → Int32)) (E_later : (Nat → Int32)) (E_paths : (Nat → Int32)) (u : (Nat → Int32) × (Nat → Int32) × (Nat → Int32)) : va_W := [(a_X, .inr (4, [.ref a_P, .ref a_X_levels, .ref a_E, .ref a_F, .ref a_R, .ref a_X_vector, .ref a_X_solution, .int X_solved, .int X_levelCount])), (a_P, .inr (2, [.int P_rows, .ref a_P_entries, .ref a_P_order, .ref a_P_places, .ref a_P_rights, .ref a_P_weights])), (a_E, .inr (0, [.ref a_E_joined, .ref a_E_later, .ref a_E_paths])), (a_P_entries, .inl (g.2.1, 256, .inl P_entries)), (a_E_joined, .inl (g.2.1, 16, .inl u.1)), (a_P_order, .inl (g.2.1, 16, .inl P_order)), (a_E_later, .inl (g.2.1, 16, .inl u.2.1)), (a_E_paths, .inl (g.2.1, 16, .inl u.2.2))]
set_option maxHeartbeats 4000000 in
set_option maxRecDepth 100000 in
theorem c_X4_meeting (l : Launch) (hlt : l.stackTraces = false) (g : cx_G) (a_X a_P a_X_levels a_E a_F a_R a_X_vector a_X_solution a_P_entries a_P_order a_P_places a_P_rights a_P_weights a_E_joined a_E_later a_E_paths : Nat) (i_i : Int32) (i_j : Int32) (X_solved : Int32) (X_levelCount : Int32) (P_rows : Int32) (P_entries : (Nat → Int32)) (E_joined : (Nat → Int32)) (P_order : (Nat → Int32)) (E_later : (Nat → Int32)) (E_paths : (Nat → Int32)) {Q : Int32 → (Nat → Int32) → (Nat → Int32) → (Nat → Int32) → Prop} {X : String → Prop} (hv : wp_X4_meeting i_i i_j X_solved X_levelCount P_rows P_entries E_joined P_order E_later E_paths Q X) : cx_Ei l g yX4_meeting (Cond.code yX4_meeting cX4_meeting 3 (some .int) :: cx_T) ({ frames := 7, cells := 2, slots := 12, locals := 112 } : Room) [.ref a_X, .int i_i, .int i_j] (w0_X4_meeting g a_X a_P a_X_levels a_E a_F a_R a_X_vector a_X_solution a_P_entries a_P_order a_P_places a_P_rights a_P_weights a_E_joined a_E_later a_E_paths X_solved X_levelCount P_rows P_entries E_joined P_order E_later E_paths) (fun (r : Int32) (u : (Nat → Int32) × (Nat → Int32) × (Nat → Int32)) => Q r u.1 u.2.1 u.2.2) (w1_X4_meeting g a_X a_P a_X_levels a_E a_F a_R a_X_vector a_X_solution a_P_entries a_P_order a_P_places a_P_rights a_P_weights a_E_joined a_E_later a_E_paths X_solved X_levelCount P_rows P_entries E_joined P_order E_later E_paths) X 2 12 := by
  intro sz
  refine vx_ofW (cc := cX4_meeting) (maxL := 3) (ret := (some .int)) (by decide) rfl ?_
  intro p e s m args below meth c s₁ B hml htab hpre
  obtain ⟨rfl, hsz, hP, hK, hD0, hKX, hZ⟩ := hpre
  have hx := B.exec
  have hb := B.bytes
  have hr := B.returns
  have hts0 := atoms_spec (ws := (Cond.code yX4_meeting cX4_meeting 3 (some .int) :: cx_T)) B.pre
  have hts : ∀ w ∈ cx_T, w.before _ s = true := fun w h => hts0 w (List.mem_cons_of_mem _ h)
  have hown : s.vm.findClass RX4 = some m.cls := findClass_of_methodNamed B.named
  have hlocks := B.notSynchronized
  subst hsz
  have hD := hD0.self (sz := s.heap.size)
  obtain ⟨A, hAe⟩ : ∃ A : Nat → Prop, A = va_A (w0_X4_meeting g a_X a_P a_X_levels a_E a_F a_R a_X_vector a_X_solution a_P_entries a_P_order a_P_places a_P_rights a_P_weights a_E_joined a_E_later a_E_paths X_solved X_levelCount P_rows P_entries E_joined P_order E_later E_paths) s.heap.size := ⟨_, rfl⟩
  rw [← hAe] at hD hZ
  have hA : ∀ q : Nat, s.heap.size ≤ q → A q := fun q h => by rw [hAe]; exact Or.inr h
  have hS : va_S A s.heap s.heap [] := va_S.rf
  have hP : va_P g.1 vwCl [(a_X, .inr (4, [.ref a_P, .ref a_X_levels, .ref a_E, .ref a_F, .ref a_R, .ref a_X_vector, .ref a_X_solution, .int X_solved, .int X_levelCount])), (a_P, .inr (2, [.int P_rows, .ref a_P_entries, .ref a_P_order, .ref a_P_places, .ref a_P_rights, .ref a_P_weights])), (a_E, .inr (0, [.ref a_E_joined, .ref a_E_later, .ref a_E_paths])), (a_P_entries, .inl (g.2.1, 256, .inl P_entries)), (a_E_joined, .inl (g.2.1, 16, .inl E_joined)), (a_P_order, .inl (g.2.1, 16, .inl P_order)), (a_E_later, .inl (g.2.1, 16, .inl E_later)), (a_E_paths, .inl (g.2.1, 16, .inl E_paths))] s.heap := hP
  have hD : va_D A [(a_X, .inr (4, [.ref a_P, .ref a_X_levels, .ref a_E, .ref a_F, .ref a_R, .ref a_X_vector, .ref a_X_solution, .int X_solved, .int X_levelCount])), (a_P, .inr (2, [.int P_rows, .ref a_P_entries, .ref a_P_order, .ref a_P_places, .ref a_P_rights, .ref a_P_weights])), (a_E, .inr (0, [.ref a_E_joined, .ref a_E_later, .ref a_E_paths])), (a_P_entries, .inl (g.2.1, 256, .inl P_entries)), (a_E_joined, .inl (g.2.1, 16, .inl E_joined)), (a_P_order, .inl (g.2.1, 16, .inl P_order)), (a_E_later, .inl (g.2.1, 16, .inl E_later)), (a_E_paths, .inl (g.2.1, 16, .inl E_paths))] := hD
  have hl := lv_entry ([.ref a_X, .int i_i, .int i_j]) (n := 3) (Nat.le_of_ble_eq_true rfl)
  rw [lg_entry_eq]
  generalize (lg_sl ([.ref a_X, .int i_i, .int i_j]) ++ List.replicate (3 - (lg_sl ([.ref a_X, .int i_i, .int i_j])).length) Slot.unset).toArray = ls at hl ⊢
  have hl : lv_has ls 3 [(0, .ref a_X), (1, .int i_i), (2, .int i_j)] := hl
  unfold wp_X4_meeting at hv
  refine lv_aload_n hx hb dX4_meeting_0 rfl (lv_at hl 0 rfl) ?_
  refine lv_iload_n hx hb dX4_meeting_1 rfl (lv_at hl 1 rfl) ?_
  refine cx_vVp (As := [.int i_i]) (rest := []) ⟨hx, hb, hml, hown, hts⟩ (c_X4_needRow l hlt g a_X a_P a_X_levels a_E a_F a_R a_X_vector a_X_solution a_P_entries a_P_order a_P_places a_P_rights a_P_weights i_i X_solved X_levelCount P_rows hv) (cx_cwV 1 hts cw_m_X4_73 cw_i_X4_needRow cw_s_X4_needRow cw_n_X4 cw_c_X4_needRow rfl rfl (by decide +kernel) ⟨Nat.le_of_ble_eq_true rfl, Nat.le_of_ble_eq_true rfl⟩) hK hKX hZ hAe htab hlocks hP hD hS hA 0 4 rfl rfl [0, 1] rfl rfl rfl hl.1 rfl (Nat.le_of_ble_eq_true rfl) dX4_meeting_2 ⟨Nat.le_of_ble_eq_true rfl, Nat.le_of_ble_eq_true rfl⟩ (Nat.le_of_ble_eq_true rfl) (Nat.le_of_ble_eq_true rfl) (fun H locs hv hP hS => ?_)
  refine W.widen (k := 1) (n := 6) (Nat.le_of_ble_eq_true rfl) (Nat.le_of_ble_eq_true rfl) ?_
  refine lv_aload_n hx hb dX4_meeting_5 rfl (lv_at hl 0 rfl) ?_
  refine lv_iload_n hx hb dX4_meeting_6 rfl (lv_at hl 2 rfl) ?_
  refine cx_vVp (As := [.int i_j]) (rest := []) ⟨hx, hb, hml, hown, hts⟩ (c_X4_needRow l hlt g a_X a_P a_X_levels a_E a_F a_R a_X_vector a_X_solution a_P_entries a_P_order a_P_places a_P_rights a_P_weights i_j X_solved X_levelCount P_rows hv) (cx_cwV 1 hts cw_m_X4_73 cw_i_X4_needRow cw_s_X4_needRow cw_n_X4 cw_c_X4_needRow rfl rfl (by decide +kernel) ⟨Nat.le_of_ble_eq_true rfl, Nat.le_of_ble_eq_true rfl⟩) hK hKX hZ hAe htab hlocks hP hD hS hA 0 4 rfl rfl [0, 1] rfl rfl rfl hl.1 rfl (Nat.le_of_ble_eq_true rfl) dX4_meeting_7 ⟨Nat.le_of_ble_eq_true rfl, Nat.le_of_ble_eq_true rfl⟩ (Nat.le_of_ble_eq_true rfl) (Nat.le_of_ble_eq_true rfl) (fun H locs hv hP hS => ?_)
  refine W.widen (k := 2) (n := 12) (Nat.le_of_ble_eq_true rfl) (Nat.le_of_ble_eq_true rfl) ?_
  refine lv_aload_n hx hb dX4_meeting_10 rfl (lv_at hl 0 rfl) ?_
  refine va_get (D := g.1) (ci := 4) (v := .ref a_E) (C := RX4) (T := TX4) (N := 9) hx hb hts cw_in_X4 hown hK.1 hP 0 rfl rfl 2 (by decide) (hts _ cw_f_X4_23) (fun _ h9 => h9) rfl dX4_meeting_11 ?_
  refine lv_aload_n hx hb dX4_meeting_14 rfl (lv_at hl 0 rfl) ?_
  refine va_get (D := g.1) (ci := 4) (v := .ref a_P) (C := RX4) (T := TX4) (N := 9) hx hb hts cw_in_X4 hown hK.1 hP 0 rfl rfl 0 (by decide) (hts _ cw_f_X4_10) (fun _ h9 => h9) rfl dX4_meeting_15 ?_
  refine cx_vV (wr := [(a_X, .inr (4, [.ref a_P, .ref a_X_levels, .ref a_E, .ref a_F, .ref a_R, .ref a_X_vector, .ref a_X_solution, .int X_solved, .int X_levelCount]))]) (As := [.ref a_P]) (rest := []) ⟨hx, hb, hml, hown, hts⟩ (c_X0_run l g a_E a_P a_P_entries a_P_order a_P_places a_P_rights a_P_weights a_E_joined a_E_later a_E_paths P_rows P_entries E_joined P_order E_later E_paths hv) (cx_cwV 1 hts cw_m_X4_127 cw_i_X0_run cw_s_X0_run cw_n_X0 cw_c_X0_run rfl rfl (by decide +kernel) ⟨Nat.le_of_ble_eq_true rfl, Nat.le_of_ble_eq_true rfl⟩) hK hP hD hS hA 2 0 rfl rfl [1, 2, 3, 4, 5, 6, 7] [0] rfl rfl rfl rfl (by decide) rfl hl.1 rfl (Nat.le_of_ble_eq_true rfl) dX4_meeting_18 ⟨Nat.le_of_ble_eq_true rfl, Nat.le_of_ble_eq_true rfl⟩ (fun w_5 H locs hv hP hD hS => ?_)
  obtain ⟨u_2, u_3, u_4⟩ := w_5
  have hP : va_P g.1 vwCl [(a_X, .inr (4, [.ref a_P, .ref a_X_levels, .ref a_E, .ref a_F, .ref a_R, .ref a_X_vector, .ref a_X_solution, .int X_solved, .int X_levelCount])), (a_P, .inr (2, [.int P_rows, .ref a_P_entries, .ref a_P_order, .ref a_P_places, .ref a_P_rights, .ref a_P_weights])), (a_E, .inr (0, [.ref a_E_joined, .ref a_E_later, .ref a_E_paths])), (a_P_entries, .inl (g.2.1, 256, .inl P_entries)), (a_E_joined, .inl (g.2.1, 16, .inl u_2)), (a_P_order, .inl (g.2.1, 16, .inl P_order)), (a_E_later, .inl (g.2.1, 16, .inl u_3)), (a_E_paths, .inl (g.2.1, 16, .inl u_4))] H := hP.sub [0, 1, 2, 3, 4, 5, 6, 7] rfl
  have hD : va_D A [(a_X, .inr (4, [.ref a_P, .ref a_X_levels, .ref a_E, .ref a_F, .ref a_R, .ref a_X_vector, .ref a_X_solution, .int X_solved, .int X_levelCount])), (a_P, .inr (2, [.int P_rows, .ref a_P_entries, .ref a_P_order, .ref a_P_places, .ref a_P_rights, .ref a_P_weights])), (a_E, .inr (0, [.ref a_E_joined, .ref a_E_later, .ref a_E_paths])), (a_P_entries, .inl (g.2.1, 256, .inl P_entries)), (a_E_joined, .inl (g.2.1, 16, .inl u_2)), (a_P_order, .inl (g.2.1, 16, .inl P_order)), (a_E_later, .inl (g.2.1, 16, .inl u_3)), (a_E_paths, .inl (g.2.1, 16, .inl u_4))] := hD.sub [0, 1, 2, 3, 4, 5, 6, 7] (by decide) rfl
  refine lv_aload_n hx hb dX4_meeting_21 rfl (lv_at hl 0 rfl) ?_
  refine va_get (D := g.1) (ci := 4) (v := .ref a_P) (C := RX4) (T := TX4) (N := 9) hx hb hts cw_in_X4 hown hK.1 hP 0 rfl rfl 0 (by decide) (hts _ cw_f_X4_10) (fun _ h9 => h9) rfl dX4_meeting_22 ?_
  refine lv_aload_n hx hb dX4_meeting_25 rfl (lv_at hl 0 rfl) ?_
  refine va_get (D := g.1) (ci := 4) (v := .ref a_E) (C := RX4) (T := TX4) (N := 9) hx hb hts cw_in_X4 hown hK.1 hP 0 rfl rfl 2 (by decide) (hts _ cw_f_X4_23) (fun _ h9 => h9) rfl dX4_meeting_26 ?_
  refine va_get (D := g.1) (ci := 0) (v := .ref a_E_paths) (C := RX0) (T := TX0) (N := 3) hx hb hts cw_in_X0 hown hK.1 hP 2 rfl rfl 2 (by decide) (hts _ cw_f_X4_145) (fun _ h9 => h9) rfl dX4_meeting_29 ?_
  refine lv_iload_n hx hb dX4_meeting_32 rfl (lv_at hl 1 rfl) ?_
  obtain ⟨h_6, hv⟩ := hv
  refine va_iald (D := g.1) hx hb hK.1 hP 7 0 rfl rfl h_6 dX4_meeting_33 ?_
  refine lv_aload_n hx hb dX4_meeting_34 rfl (lv_at hl 0 rfl) ?_
  refine va_get (D := g.1) (ci := 4) (v := .ref a_E) (C := RX4) (T := TX4) (N := 9) hx hb hts cw_in_X4 hown hK.1 hP 0 rfl rfl 2 (by decide) (hts _ cw_f_X4_23) (fun _ h9 => h9) rfl dX4_meeting_35 ?_
  refine va_get (D := g.1) (ci := 0) (v := .ref a_E_paths) (C := RX0) (T := TX0) (N := 3) hx hb hts cw_in_X0 hown hK.1 hP 2 rfl rfl 2 (by decide) (hts _ cw_f_X4_145) (fun _ h9 => h9) rfl dX4_meeting_38 ?_
  refine lv_iload_n hx hb dX4_meeting_41 rfl (lv_at hl 2 rfl) ?_
  obtain ⟨h_7, hv⟩ := hv
  refine va_iald (D := g.1) hx hb hK.1 hP 7 0 rfl rfl h_7 dX4_meeting_42 ?_
  refine lv_iand hx hb dX4_meeting_43 ?_
  refine cx_iVr (As := [.int ((u_4 (Int32.toNatClampNeg i_i)) &&& (u_4 (Int32.toNatClampNeg i_j)))]) (rest := []) ⟨hx, hb, hml, hown, hts⟩ (c_X2_firstOf l g a_P a_P_entries a_P_order a_P_places a_P_rights a_P_weights ((u_4 (Int32.toNatClampNeg i_i)) &&& (u_4 (Int32.toNatClampNeg i_j))) P_rows P_order hv) (cx_cwV 1 hts cw_m_X4_142 cw_i_X2_firstOf cw_s_X2_firstOf cw_n_X2 cw_c_X2_firstOf rfl rfl (by decide +kernel) ⟨Nat.le_of_ble_eq_true rfl, Nat.le_of_ble_eq_true rfl⟩) hK hP hD hS hA 1 2 rfl rfl [1, 5] rfl rfl rfl hl.1 rfl (Nat.le_of_ble_eq_true rfl) dX4_meeting_44 ⟨Nat.le_of_ble_eq_true rfl, Nat.le_of_ble_eq_true rfl⟩ (fun r_8 H locs hv hP hS => ?_)
  exact vx_ret (cx_iret hx hb hr hlocks hAe hS (u_2, u_3, u_4) hv hP hD dX4_meeting_47)
def vc_X4_reached_0 (i_k : Int32) (X_solved : Int32) (X_levelCount : Int32) (P_rows : Int32) (P_entries : (Nat → Int32)) (E_joined : (Nat → Int32)) (P_order : (Nat → Int32)) (E_later : (Nat → Int32)) (E_paths : (Nat → Int32)) (Q : Int32 → (Nat → Int32) → (Nat → Int32) → (Nat → Int32) → Prop) (X : String → Prop) (G1 : Int32 → Int32 → (Nat → Int32) → (Nat → Int32) → (Nat → Int32) → Prop)  : Prop := (i_k < 0 → (X xIAE)) ∧ (¬ i_k < 0 → (wp_X2_allRows P_rows (fun r_1 => (i_k ≤ r_1 → (wp_X0_run P_rows P_entries E_joined P_order E_later E_paths (fun u_3 u_4 u_5 => G1 0 0 u_3 u_4 u_5))) ∧ (¬ i_k ≤ r_1 → (X xIAE)))))
def vc_X4_reached_1 (i_k : Int32) (X_solved : Int32) (X_levelCount : Int32) (P_rows : Int32) (P_entries : (Nat → Int32)) (E_joined : (Nat → Int32)) (P_order : (Nat → Int32)) (E_later : (Nat → Int32)) (E_paths : (Nat → Int32)) (Q : Int32 → (Nat → Int32) → (Nat → Int32) → (Nat → Int32) → Prop) (X : String → Prop) (G1 : Int32 → Int32 → (Nat → Int32) → (Nat → Int32) → (Nat → Int32) → Prop) (x3 : Int32) (x2 : Int32) (v_E_joined : (Nat → Int32)) (v_E_later : (Nat → Int32)) (v_E_paths : (Nat → Int32)) : Prop := (P_rows ≤ x3 → (Q x2 v_E_joined v_E_later v_E_paths)) ∧ (¬ P_rows ≤ x3 → (((f_has i_k x3) = 0 → (∀ x3_2 : Int32, x3_2 = x3 + 1 → (G1 x3_2 x2 v_E_joined v_E_later v_E_paths))) ∧ (¬ (f_has i_k x3) = 0 → (vp_in x3 16 ∧ (∀ x2_4 : Int32, x2_4 = (x2 ||| (v_E_paths (Int32.toNatClampNeg x3))) → (∀ x3_5 : Int32, x3_5 = x3 + 1 → (G1 x3_5 x2_4 v_E_joined v_E_later v_E_paths)))))))
def wp_X4_reached (i_k : Int32) (X_solved : Int32) (X_levelCount : Int32) (P_rows : Int32) (P_entries : (Nat → Int32)) (E_joined : (Nat → Int32)) (P_order : (Nat → Int32)) (E_later : (Nat → Int32)) (E_paths : (Nat → Int32)) (Q : Int32 → (Nat → Int32) → (Nat → Int32) → (Nat → Int32) → Prop) (X : String → Prop) : Prop := ∀ (G1 : Int32 → Int32 → (Nat → Int32) → (Nat → Int32) → (Nat → Int32) → Prop), (∀ (x3 : Int32) (x2 : Int32) (v_E_joined : (Nat → Int32)) (v_E_later : (Nat → Int32)) (v_E_paths : (Nat → Int32)), vc_X4_reached_1 i_k X_solved X_levelCount P_rows P_entries E_joined P_order E_later E_paths Q X G1 x3 x2 v_E_joined v_E_later v_E_paths → G1 x3 x2 v_E_joined v_E_later v_E_paths) → vc_X4_reached_0 i_k X_solved X_levelCount P_rows P_entries E_joined P_order E_later E_paths Q X G1
abbrev w0_X4_reached (g : cx_G) (a_X a_P a_X_levels a_E a_F a_R a_X_vector a_X_solution a_P_entries a_P_order a_P_places a_P_rights a_P_weights a_E_joined a_E_later a_E_paths : Nat) (X_solved : Int32) (X_levelCount : Int32) (P_rows : Int32) (P_entries : (Nat → Int32)) (E_joined : (Nat → Int32)) (P_order : (Nat → Int32)) (E_later : (Nat → Int32)) (E_paths : (Nat → Int32)) : va_W := [(a_X, .inr (4, [.ref a_P, .ref a_X_levels, .ref a_E, .ref a_F, .ref a_R, .ref a_X_vector, .ref a_X_solution, .int X_solved, .int X_levelCount])), (a_P, .inr (2, [.int P_rows, .ref a_P_entries, .ref a_P_order, .ref a_P_places, .ref a_P_rights, .ref a_P_weights])), (a_E, .inr (0, [.ref a_E_joined, .ref a_E_later, .ref a_E_paths])), (a_P_entries, .inl (g.2.1, 256, .inl P_entries)), (a_E_joined, .inl (g.2.1, 16, .inl E_joined)), (a_P_order, .inl (g.2.1, 16, .inl P_order)), (a_E_later, .inl (g.2.1, 16, .inl E_later)), (a_E_paths, .inl (g.2.1, 16, .inl E_paths))]
abbrev w1_X4_reached (g : cx_G) (a_X a_P a_X_levels a_E a_F a_R a_X_vector a_X_solution a_P_entries a_P_order a_P_places a_P_rights a_P_weights a_E_joined a_E_later a_E_paths : Nat) (X_solved : Int32) (X_levelCount : Int32) (P_rows : Int32) (P_entries : (Nat → Int32)) (E_joined : (Nat → Int32)) (P_order : (Nat → Int32)) (E_later : (Nat → Int32)) (E_paths : (Nat → Int32)) (u : (Nat → Int32) × (Nat → Int32) × (Nat → Int32)) : va_W := [(a_X, .inr (4, [.ref a_P, .ref a_X_levels, .ref a_E, .ref a_F, .ref a_R, .ref a_X_vector, .ref a_X_solution, .int X_solved, .int X_levelCount])), (a_P, .inr (2, [.int P_rows, .ref a_P_entries, .ref a_P_order, .ref a_P_places, .ref a_P_rights, .ref a_P_weights])), (a_E, .inr (0, [.ref a_E_joined, .ref a_E_later, .ref a_E_paths])), (a_P_entries, .inl (g.2.1, 256, .inl P_entries)), (a_E_joined, .inl (g.2.1, 16, .inl u.1)), (a_P_order, .inl (g.2.1, 16, .inl P_order)), (a_E_later, .inl (g.2.1, 16, .inl u.2.1)), (a_E_paths, .inl (g.2.1, 16, .inl u.2.2))]
set_option maxHeartbeats 4000000 in
set_option maxRecDepth 100000 in
theorem c_X4_reached (l : Launch) (hlt : l.stackTraces = false) (g : cx_G) (a_X a_P a_X_levels a_E a_F a_R a_X_vector a_X_solution a_P_entries a_P_order a_P_places a_P_rights a_P_weights a_E_joined a_E_later a_E_paths : Nat) (i_k : Int32) (X_solved : Int32) (X_levelCount : Int32) (P_rows : Int32) (P_entries : (Nat → Int32)) (E_joined : (Nat → Int32)) (P_order : (Nat → Int32)) (E_later : (Nat → Int32)) (E_paths : (Nat → Int32)) {Q : Int32 → (Nat → Int32) → (Nat → Int32) → (Nat → Int32) → Prop} {X : String → Prop} (hv : wp_X4_reached i_k X_solved X_levelCount P_rows P_entries E_joined P_order E_later E_paths Q X) : cx_Ei l g yX4_reached (Cond.code yX4_reached cX4_reached 4 (some .int) :: cx_T) ({ frames := 6, cells := 1, slots := 6, locals := 112 } : Room) [.ref a_X, .int i_k] (w0_X4_reached g a_X a_P a_X_levels a_E a_F a_R a_X_vector a_X_solution a_P_entries a_P_order a_P_places a_P_rights a_P_weights a_E_joined a_E_later a_E_paths X_solved X_levelCount P_rows P_entries E_joined P_order E_later E_paths) (fun (r : Int32) (u : (Nat → Int32) × (Nat → Int32) × (Nat → Int32)) => Q r u.1 u.2.1 u.2.2) (w1_X4_reached g a_X a_P a_X_levels a_E a_F a_R a_X_vector a_X_solution a_P_entries a_P_order a_P_places a_P_rights a_P_weights a_E_joined a_E_later a_E_paths X_solved X_levelCount P_rows P_entries E_joined P_order E_later E_paths) X 1 6 := by
  intro sz
  refine vx_ofW (cc := cX4_reached) (maxL := 4) (ret := (some .int)) (by decide) rfl ?_
  intro p e s m args below meth c s₁ B hml htab hpre
  obtain ⟨rfl, hsz, hP, hK, hD0, hKX, hZ⟩ := hpre
  have hx := B.exec
  have hb := B.bytes
  have hr := B.returns
  have hts0 := atoms_spec (ws := (Cond.code yX4_reached cX4_reached 4 (some .int) :: cx_T)) B.pre
  have hts : ∀ w ∈ cx_T, w.before _ s = true := fun w h => hts0 w (List.mem_cons_of_mem _ h)
  have hown : s.vm.findClass RX4 = some m.cls := findClass_of_methodNamed B.named
  have hlocks := B.notSynchronized
  subst hsz
  have hD := hD0.self (sz := s.heap.size)
  obtain ⟨A, hAe⟩ : ∃ A : Nat → Prop, A = va_A (w0_X4_reached g a_X a_P a_X_levels a_E a_F a_R a_X_vector a_X_solution a_P_entries a_P_order a_P_places a_P_rights a_P_weights a_E_joined a_E_later a_E_paths X_solved X_levelCount P_rows P_entries E_joined P_order E_later E_paths) s.heap.size := ⟨_, rfl⟩
  rw [← hAe] at hD hZ
  have hA : ∀ q : Nat, s.heap.size ≤ q → A q := fun q h => by rw [hAe]; exact Or.inr h
  have hS : va_S A s.heap s.heap [] := va_S.rf
  have hP : va_P g.1 vwCl [(a_X, .inr (4, [.ref a_P, .ref a_X_levels, .ref a_E, .ref a_F, .ref a_R, .ref a_X_vector, .ref a_X_solution, .int X_solved, .int X_levelCount])), (a_P, .inr (2, [.int P_rows, .ref a_P_entries, .ref a_P_order, .ref a_P_places, .ref a_P_rights, .ref a_P_weights])), (a_E, .inr (0, [.ref a_E_joined, .ref a_E_later, .ref a_E_paths])), (a_P_entries, .inl (g.2.1, 256, .inl P_entries)), (a_E_joined, .inl (g.2.1, 16, .inl E_joined)), (a_P_order, .inl (g.2.1, 16, .inl P_order)), (a_E_later, .inl (g.2.1, 16, .inl E_later)), (a_E_paths, .inl (g.2.1, 16, .inl E_paths))] s.heap := hP
  have hD : va_D A [(a_X, .inr (4, [.ref a_P, .ref a_X_levels, .ref a_E, .ref a_F, .ref a_R, .ref a_X_vector, .ref a_X_solution, .int X_solved, .int X_levelCount])), (a_P, .inr (2, [.int P_rows, .ref a_P_entries, .ref a_P_order, .ref a_P_places, .ref a_P_rights, .ref a_P_weights])), (a_E, .inr (0, [.ref a_E_joined, .ref a_E_later, .ref a_E_paths])), (a_P_entries, .inl (g.2.1, 256, .inl P_entries)), (a_E_joined, .inl (g.2.1, 16, .inl E_joined)), (a_P_order, .inl (g.2.1, 16, .inl P_order)), (a_E_later, .inl (g.2.1, 16, .inl E_later)), (a_E_paths, .inl (g.2.1, 16, .inl E_paths))] := hD
  have hl := lv_entry ([.ref a_X, .int i_k]) (n := 4) (Nat.le_of_ble_eq_true rfl)
  rw [lg_entry_eq]
  generalize (lg_sl ([.ref a_X, .int i_k]) ++ List.replicate (4 - (lg_sl ([.ref a_X, .int i_k])).length) Slot.unset).toArray = ls at hl ⊢
  have hl : lv_has ls 4 [(0, .ref a_X), (1, .int i_k)] := hl
  obtain ⟨G1, hG1⟩ : ∃ G : Int32 → Int32 → (Nat → Int32) → (Nat → Int32) → (Nat → Int32) → Prop, G = (fun (x3 : Int32) (x2 : Int32) (v_E_joined : (Nat → Int32)) (v_E_later : (Nat → Int32)) (v_E_paths : (Nat → Int32)) => ∀ (H : Heap) (locs : List Loc) (ls : Array Slot), va_P g.1 vwCl [(a_X, .inr (4, [.ref a_P, .ref a_X_levels, .ref a_E, .ref a_F, .ref a_R, .ref a_X_vector, .ref a_X_solution, .int X_solved, .int X_levelCount])), (a_P, .inr (2, [.int P_rows, .ref a_P_entries, .ref a_P_order, .ref a_P_places, .ref a_P_rights, .ref a_P_weights])), (a_E, .inr (0, [.ref a_E_joined, .ref a_E_later, .ref a_E_paths])), (a_P_entries, .inl (g.2.1, 256, .inl P_entries)), (a_E_joined, .inl (g.2.1, 16, .inl v_E_joined)), (a_P_order, .inl (g.2.1, 16, .inl P_order)), (a_E_later, .inl (g.2.1, 16, .inl v_E_later)), (a_E_paths, .inl (g.2.1, 16, .inl v_E_paths))] H → va_D A [(a_X, .inr (4, [.ref a_P, .ref a_X_levels, .ref a_E, .ref a_F, .ref a_R, .ref a_X_vector, .ref a_X_solution, .int X_solved, .int X_levelCount])), (a_P, .inr (2, [.int P_rows, .ref a_P_entries, .ref a_P_order, .ref a_P_places, .ref a_P_rights, .ref a_P_weights])), (a_E, .inr (0, [.ref a_E_joined, .ref a_E_later, .ref a_E_paths])), (a_P_entries, .inl (g.2.1, 256, .inl P_entries)), (a_E_joined, .inl (g.2.1, 16, .inl v_E_joined)), (a_P_order, .inl (g.2.1, 16, .inl P_order)), (a_E_later, .inl (g.2.1, 16, .inl v_E_later)), (a_E_paths, .inl (g.2.1, 16, .inl v_E_paths))] → va_S A s.heap H locs → lv_has ls 4 [(3, .int x3), (2, .int x2), (0, .ref a_X), (1, .int i_k)] → W p l e (headSpec (Cond.code yX4_reached cX4_reached 4 (some .int) :: cx_T) ({ frames := 6, cells := 1, slots := 6, locals := 112 } : Room)).room s m ([.ref a_X, .int i_k] : List Value).toArray below meth c H locs 0 0 (vx_MQ below (va_Qi (fun (r : Int32) (u : (Nat → Int32) × (Nat → Int32) × (Nat → Int32)) => Q r u.1 u.2.1 u.2.2) (cx_B g (w0_X4_reached g a_X a_P a_X_levels a_E a_F a_R a_X_vector a_X_solution a_P_entries a_P_order a_P_places a_P_rights a_P_weights a_E_joined a_E_later a_E_paths X_solved X_levelCount P_rows P_entries E_joined P_order E_later E_paths) s.heap.size (w1_X4_reached g a_X a_P a_X_levels a_E a_F a_R a_X_vector a_X_solution a_P_entries a_P_order a_P_places a_P_rights a_P_weights a_E_joined a_E_later a_E_paths X_solved X_levelCount P_rows P_entries E_joined P_order E_later E_paths)) (va_A (w0_X4_reached g a_X a_P a_X_levels a_E a_F a_R a_X_vector a_X_solution a_P_entries a_P_order a_P_places a_P_rights a_P_weights a_E_joined a_E_later a_E_paths X_solved X_levelCount P_rows P_entries E_joined P_order E_later E_paths) s.heap.size)) (cx_XC g (w0_X4_reached g a_X a_P a_X_levels a_E a_F a_R a_X_vector a_X_solution a_P_entries a_P_order a_P_places a_P_rights a_P_weights a_E_joined a_E_later a_E_paths X_solved X_levelCount P_rows P_entries E_joined P_order E_later E_paths) s.heap.size X) ([.ref a_X, .int i_k] : List Value).toArray s 1 6 (va_A (w0_X4_reached g a_X a_P a_X_levels a_E a_F a_R a_X_vector a_X_solution a_P_entries a_P_order a_P_places a_P_rights a_P_weights a_E_joined a_E_later a_E_paths X_solved X_levelCount P_rows P_entries E_joined P_order E_later E_paths) s.heap.size)) (F0 m 40 ls [])) := ⟨_, rfl⟩
  have hs1 : ∀ (x3 : Int32) (x2 : Int32) (v_E_joined : (Nat → Int32)) (v_E_later : (Nat → Int32)) (v_E_paths : (Nat → Int32)), vc_X4_reached_1 i_k X_solved X_levelCount P_rows P_entries E_joined P_order E_later E_paths Q X G1 x3 x2 v_E_joined v_E_later v_E_paths → G1 x3 x2 v_E_joined v_E_later v_E_paths := by
    rw [hG1]
    intro x3 x2 v_E_joined v_E_later v_E_paths hv H locs ls hP hD hS hl
    unfold vc_X4_reached_1 at hv
    refine lv_iload_n hx hb dX4_reached_40 rfl (lv_at hl 0 rfl) ?_
    refine lv_aload_n hx hb dX4_reached_41 rfl (lv_at hl 2 rfl) ?_
    refine va_get (D := g.1) (ci := 4) (v := .ref a_P) (C := RX4) (T := TX4) (N := 9) hx hb hts cw_in_X4 hown hK.1 hP 0 rfl rfl 0 (by decide) (hts _ cw_f_X4_10) (fun _ h9 => h9) rfl dX4_reached_42 ?_
    refine va_get (D := g.1) (ci := 2) (v := .int P_rows) (C := RX2) (T := TX2) (N := 6) hx hb hts cw_in_X2 hown hK.1 hP 1 rfl rfl 0 (by decide) (hts _ cw_f_X4_70) (fun _ h9 => h9) rfl dX4_reached_45 ?_
    refine lv_icmp_ge (tgt := 77) hx hb dX4_reached_48 (by decide) (fun hc => ?_) (fun hc => ?_)
    · replace hv := hv.1 hc
      refine lv_iload_n hx hb dX4_reached_77 rfl (lv_at hl 1 rfl) ?_
      refine W.widen (k := 1) (n := 6) (Nat.le_of_ble_eq_true rfl) (Nat.le_of_ble_eq_true rfl) ?_
      exact vx_ret (cx_iret hx hb hr hlocks hAe hS (v_E_joined, v_E_later, v_E_paths) hv hP hD dX4_reached_78)
    · replace hv := hv.2 hc
      refine lv_iload_n hx hb dX4_reached_51 rfl (lv_at hl 3 rfl) ?_
      refine lv_iload_n hx hb dX4_reached_52 rfl (lv_at hl 0 rfl) ?_
      refine cx_iSr (As := [.int i_k, .int x3]) (rest := []) ⟨hx, hb, hml, hown, hts⟩ (cp_X4_has l g i_k x3) (cx_cwS 2 hts cw_m_X4_133 cw_t_X4_has cw_n_X4 cw_c_X4_has rfl rfl (by decide +kernel) ⟨Nat.le_of_ble_eq_true rfl, Nat.le_of_ble_eq_true rfl⟩) hK hP hD hS hA [] rfl rfl rfl hl.1 rfl (Nat.le_of_ble_eq_true rfl) dX4_reached_53 ⟨Nat.le_of_ble_eq_true rfl, Nat.le_of_ble_eq_true rfl⟩ (fun r_1 H locs hr9 hP hS => ?_)
      replace hr9 : r_1 = (f_has i_k x3) := hr9
      subst hr9
      refine lv_if_eq (tgt := 71) hx hb dX4_reached_56 (by decide) (fun hc => ?_) (fun hc => ?_)
      · replace hv := hv.1 hc
        obtain ⟨x3_2, ex3_2⟩ : ∃ y : Int32, y = x3 + 1 := ⟨_, rfl⟩
        replace hv := hv x3_2 ex3_2
        refine lv_iinc (v := x3_2) (lv' := [(3, .int x3_2), (2, .int x2), (0, .ref a_X), (1, .int i_k)]) hx hb dX4_reached_71 hl (k := 0) rfl (by rw [ex3_2]; rfl) (by decide) rfl (fun ls hl => ?_)
        refine lv_goto (tgt := 40) hx hb dX4_reached_74 (by decide) ?_
        exact hv _ _ _ hP hD hS (lv_sub hl [0, 1, 2, 3] rfl)
      · replace hv := hv.2 hc
        refine lv_iload_n hx hb dX4_reached_59 rfl (lv_at hl 1 rfl) ?_
        refine lv_aload_n hx hb dX4_reached_60 rfl (lv_at hl 2 rfl) ?_
        refine va_get (D := g.1) (ci := 4) (v := .ref a_E) (C := RX4) (T := TX4) (N := 9) hx hb hts cw_in_X4 hown hK.1 hP 0 rfl rfl 2 (by decide) (hts _ cw_f_X4_23) (fun _ h9 => h9) rfl dX4_reached_61 ?_
        refine va_get (D := g.1) (ci := 0) (v := .ref a_E_paths) (C := RX0) (T := TX0) (N := 3) hx hb hts cw_in_X0 hown hK.1 hP 2 rfl rfl 2 (by decide) (hts _ cw_f_X4_145) (fun _ h9 => h9) rfl dX4_reached_64 ?_
        refine lv_iload_n hx hb dX4_reached_67 rfl (lv_at hl 0 rfl) ?_
        obtain ⟨h_3, hv⟩ := hv
        refine va_iald (D := g.1) hx hb hK.1 hP 7 0 rfl rfl h_3 dX4_reached_68 ?_
        refine lv_ior hx hb dX4_reached_69 ?_
        refine lv_topi (fun x2_4 ex2_4 => ?_)
        replace hv := hv x2_4 ex2_4
        refine lv_istore_n (lv' := [(2, .int x2_4), (3, .int x3), (0, .ref a_X), (1, .int i_k)]) hx hb dX4_reached_70 rfl hl (by decide) rfl (fun ls hl => ?_)
        obtain ⟨x3_5, ex3_5⟩ : ∃ y : Int32, y = x3 + 1 := ⟨_, rfl⟩
        replace hv := hv x3_5 ex3_5
        refine lv_iinc (v := x3_5) (lv' := [(3, .int x3_5), (2, .int x2_4), (0, .ref a_X), (1, .int i_k)]) hx hb dX4_reached_71 hl (k := 1) rfl (by rw [ex3_5]; rfl) (by decide) rfl (fun ls hl => ?_)
        refine lv_goto (tgt := 40) hx hb dX4_reached_74 (by decide) ?_
        exact hv _ _ _ hP hD hS (lv_sub hl [0, 1, 2, 3] rfl)
  replace hv := hv G1 hs1
  rw [hG1] at hv
  unfold vc_X4_reached_0 at hv
  refine lv_iload_n hx hb dX4_reached_0 rfl (lv_at hl 1 rfl) ?_
  refine lv_if_lt (tgt := 15) hx hb dX4_reached_1 (by decide) (fun hc => ?_) (fun hc => ?_)
  · replace hv := hv.1 hc
    exact cx_throwS hx hb hlt hown (by decide +kernel) (hts _ cw_y_X4_56) (hts _ cw_n_IllegalArgumentException) hKX 4 rfl (cx_at_IAE hts hKX) (by decide +kernel) hZ hAe hS hP (hl.1.trans hml.symm) dX4_reached_15 dX4_reached_18 dX4_reached_19 dX4_reached_21 dX4_reached_24 htab (Nat.le_of_ble_eq_true rfl) (Nat.le_of_ble_eq_true rfl) (Nat.le_of_ble_eq_true rfl) (Nat.le_of_ble_eq_true rfl) hlocks hv (Nat.le_of_ble_eq_true rfl) (Nat.le_of_ble_eq_true rfl)
  · replace hv := hv.2 hc
    refine lv_iload_n hx hb dX4_reached_4 rfl (lv_at hl 1 rfl) ?_
    refine lv_aload_n hx hb dX4_reached_5 rfl (lv_at hl 0 rfl) ?_
    refine va_get (D := g.1) (ci := 4) (v := .ref a_P) (C := RX4) (T := TX4) (N := 9) hx hb hts cw_in_X4 hown hK.1 hP 0 rfl rfl 0 (by decide) (hts _ cw_f_X4_10) (fun _ h9 => h9) rfl dX4_reached_6 ?_
    refine cx_iVr (As := []) (rest := [.int i_k]) ⟨hx, hb, hml, hown, hts⟩ (c_X2_allRows l g a_P a_P_entries a_P_order a_P_places a_P_rights a_P_weights P_rows hv) (cx_cwV 0 hts cw_m_X4_148 cw_i_X2_allRows cw_s_X2_allRows cw_n_X2 cw_c_X2_allRows rfl rfl (by decide +kernel) ⟨Nat.le_of_ble_eq_true rfl, Nat.le_of_ble_eq_true rfl⟩) hK hP hD hS hA 1 2 rfl rfl [1] rfl rfl rfl hl.1 rfl (Nat.le_of_ble_eq_true rfl) dX4_reached_9 ⟨Nat.le_of_ble_eq_true rfl, Nat.le_of_ble_eq_true rfl⟩ (fun r_1 H locs hv hP hS => ?_)
    refine lv_icmp_le (tgt := 25) hx hb dX4_reached_12 (by decide) (fun hc => ?_) (fun hc => ?_)
    · replace hv := hv.1 hc
      refine lv_aload_n hx hb dX4_reached_25 rfl (lv_at hl 0 rfl) ?_
      refine va_get (D := g.1) (ci := 4) (v := .ref a_E) (C := RX4) (T := TX4) (N := 9) hx hb hts cw_in_X4 hown hK.1 hP 0 rfl rfl 2 (by decide) (hts _ cw_f_X4_23) (fun _ h9 => h9) rfl dX4_reached_26 ?_
      refine lv_aload_n hx hb dX4_reached_29 rfl (lv_at hl 0 rfl) ?_
      refine va_get (D := g.1) (ci := 4) (v := .ref a_P) (C := RX4) (T := TX4) (N := 9) hx hb hts cw_in_X4 hown hK.1 hP 0 rfl rfl 0 (by decide) (hts _ cw_f_X4_10) (fun _ h9 => h9) rfl dX4_reached_30 ?_
      refine cx_vV (wr := [(a_X, .inr (4, [.ref a_P, .ref a_X_levels, .ref a_E, .ref a_F, .ref a_R, .ref a_X_vector, .ref a_X_solution, .int X_solved, .int X_levelCount]))]) (As := [.ref a_P]) (rest := []) ⟨hx, hb, hml, hown, hts⟩ (c_X0_run l g a_E a_P a_P_entries a_P_order a_P_places a_P_rights a_P_weights a_E_joined a_E_later a_E_paths P_rows P_entries E_joined P_order E_later E_paths hv) (cx_cwV 1 hts cw_m_X4_127 cw_i_X0_run cw_s_X0_run cw_n_X0 cw_c_X0_run rfl rfl (by decide +kernel) ⟨Nat.le_of_ble_eq_true rfl, Nat.le_of_ble_eq_true rfl⟩) hK hP hD hS hA 2 0 rfl rfl [1, 2, 3, 4, 5, 6, 7] [0] rfl rfl rfl rfl (by decide) rfl hl.1 rfl (Nat.le_of_ble_eq_true rfl) dX4_reached_33 ⟨Nat.le_of_ble_eq_true rfl, Nat.le_of_ble_eq_true rfl⟩ (fun w_6 H locs hv hP hD hS => ?_)
      obtain ⟨u_3, u_4, u_5⟩ := w_6
      have hP : va_P g.1 vwCl [(a_X, .inr (4, [.ref a_P, .ref a_X_levels, .ref a_E, .ref a_F, .ref a_R, .ref a_X_vector, .ref a_X_solution, .int X_solved, .int X_levelCount])), (a_P, .inr (2, [.int P_rows, .ref a_P_entries, .ref a_P_order, .ref a_P_places, .ref a_P_rights, .ref a_P_weights])), (a_E, .inr (0, [.ref a_E_joined, .ref a_E_later, .ref a_E_paths])), (a_P_entries, .inl (g.2.1, 256, .inl P_entries)), (a_E_joined, .inl (g.2.1, 16, .inl u_3)), (a_P_order, .inl (g.2.1, 16, .inl P_order)), (a_E_later, .inl (g.2.1, 16, .inl u_4)), (a_E_paths, .inl (g.2.1, 16, .inl u_5))] H := hP.sub [0, 1, 2, 3, 4, 5, 6, 7] rfl
      have hD : va_D A [(a_X, .inr (4, [.ref a_P, .ref a_X_levels, .ref a_E, .ref a_F, .ref a_R, .ref a_X_vector, .ref a_X_solution, .int X_solved, .int X_levelCount])), (a_P, .inr (2, [.int P_rows, .ref a_P_entries, .ref a_P_order, .ref a_P_places, .ref a_P_rights, .ref a_P_weights])), (a_E, .inr (0, [.ref a_E_joined, .ref a_E_later, .ref a_E_paths])), (a_P_entries, .inl (g.2.1, 256, .inl P_entries)), (a_E_joined, .inl (g.2.1, 16, .inl u_3)), (a_P_order, .inl (g.2.1, 16, .inl P_order)), (a_E_later, .inl (g.2.1, 16, .inl u_4)), (a_E_paths, .inl (g.2.1, 16, .inl u_5))] := hD.sub [0, 1, 2, 3, 4, 5, 6, 7] (by decide) rfl
      refine lv_iconst (v := 0) hx hb dX4_reached_36 (by decide) ?_
      refine lv_istore_n (lv' := [(2, .int 0), (0, .ref a_X), (1, .int i_k)]) hx hb dX4_reached_37 rfl hl (by decide) rfl (fun ls hl => ?_)
      refine lv_iconst (v := 0) hx hb dX4_reached_38 (by decide) ?_
      refine lv_istore_n (lv' := [(3, .int 0), (2, .int 0), (0, .ref a_X), (1, .int i_k)]) hx hb dX4_reached_39 rfl hl (by decide) rfl (fun ls hl => ?_)
      exact hv _ _ _ hP hD hS (lv_sub hl [0, 1, 2, 3] rfl)
    · replace hv := hv.2 hc
      exact cx_throwS hx hb hlt hown (by decide +kernel) (hts _ cw_y_X4_56) (hts _ cw_n_IllegalArgumentException) hKX 4 rfl (cx_at_IAE hts hKX) (by decide +kernel) hZ hAe hS hP (hl.1.trans hml.symm) dX4_reached_15 dX4_reached_18 dX4_reached_19 dX4_reached_21 dX4_reached_24 htab (Nat.le_of_ble_eq_true rfl) (Nat.le_of_ble_eq_true rfl) (Nat.le_of_ble_eq_true rfl) (Nat.le_of_ble_eq_true rfl) hlocks hv (Nat.le_of_ble_eq_true rfl) (Nat.le_of_ble_eq_true rfl)
def wp_X4_pivot (i_p : Int32) (X_solved : Int32) (X_levelCount : Int32) (P_rows : Int32) (F_known : Int32) (F_rows : Int32) (F_pivots : (Nat → Int32)) (Q : Int32 → Prop) (X : String → Prop)   : Prop := wp_X4_needPosition i_p X_solved X_levelCount P_rows (wp_X4_needFactors X_solved X_levelCount F_known F_rows (vp_in i_p 16 ∧ (Q (F_pivots (Int32.toNatClampNeg i_p)))) X) X
abbrev w0_X4_pivot (g : cx_G) (a_X a_P a_X_levels a_E a_F a_R a_X_vector a_X_solution a_P_entries a_P_order a_P_places a_P_rights a_P_weights a_F_pivots a_F_reciprocals a_F_below : Nat) (X_solved : Int32) (X_levelCount : Int32) (P_rows : Int32) (F_known : Int32) (F_rows : Int32) (F_pivots : (Nat → Int32)) : va_W := [(a_X, .inr (4, [.ref a_P, .ref a_X_levels, .ref a_E, .ref a_F, .ref a_R, .ref a_X_vector, .ref a_X_solution, .int X_solved, .int X_levelCount])), (a_P, .inr (2, [.int P_rows, .ref a_P_entries, .ref a_P_order, .ref a_P_places, .ref a_P_rights, .ref a_P_weights])), (a_F, .inr (1, [.int F_known, .int F_rows, .ref a_F_pivots, .ref a_F_reciprocals, .ref a_F_below])), (a_F_pivots, .inl (g.2.1, 16, .inl F_pivots))]
set_option maxHeartbeats 4000000 in
set_option maxRecDepth 100000 in
theorem c_X4_pivot (l : Launch) (hlt : l.stackTraces = false) (g : cx_G) (a_X a_P a_X_levels a_E a_F a_R a_X_vector a_X_solution a_P_entries a_P_order a_P_places a_P_rights a_P_weights a_F_pivots a_F_reciprocals a_F_below : Nat) (i_p : Int32) (X_solved : Int32) (X_levelCount : Int32) (P_rows : Int32) (F_known : Int32) (F_rows : Int32) (F_pivots : (Nat → Int32)) {Q : Int32 → Prop} {X : String → Prop} (hv : wp_X4_pivot i_p X_solved X_levelCount P_rows F_known F_rows F_pivots Q X) : cx_Ei l g yX4_pivot (Cond.code yX4_pivot cX4_pivot 2 (some .int) :: cx_T) ({ frames := 7, cells := 2, slots := 12, locals := 111 } : Room) [.ref a_X, .int i_p] (w0_X4_pivot g a_X a_P a_X_levels a_E a_F a_R a_X_vector a_X_solution a_P_entries a_P_order a_P_places a_P_rights a_P_weights a_F_pivots a_F_reciprocals a_F_below X_solved X_levelCount P_rows F_known F_rows F_pivots) (fun (r : Int32) (_ : Unit) => Q r) (fun _ : Unit => (w0_X4_pivot g a_X a_P a_X_levels a_E a_F a_R a_X_vector a_X_solution a_P_entries a_P_order a_P_places a_P_rights a_P_weights a_F_pivots a_F_reciprocals a_F_below X_solved X_levelCount P_rows F_known F_rows F_pivots)) X 2 12 := by
  intro sz
  refine vx_ofW (cc := cX4_pivot) (maxL := 2) (ret := (some .int)) (by decide) rfl ?_
  intro p e s m args below meth c s₁ B hml htab hpre
  obtain ⟨rfl, hsz, hP, hK, hD0, hKX, hZ⟩ := hpre
  have hx := B.exec
  have hb := B.bytes
  have hr := B.returns
  have hts0 := atoms_spec (ws := (Cond.code yX4_pivot cX4_pivot 2 (some .int) :: cx_T)) B.pre
  have hts : ∀ w ∈ cx_T, w.before _ s = true := fun w h => hts0 w (List.mem_cons_of_mem _ h)
  have hown : s.vm.findClass RX4 = some m.cls := findClass_of_methodNamed B.named
  have hlocks := B.notSynchronized
  subst hsz
  have hD := hD0.self (sz := s.heap.size)
  obtain ⟨A, hAe⟩ : ∃ A : Nat → Prop, A = va_A (w0_X4_pivot g a_X a_P a_X_levels a_E a_F a_R a_X_vector a_X_solution a_P_entries a_P_order a_P_places a_P_rights a_P_weights a_F_pivots a_F_reciprocals a_F_below X_solved X_levelCount P_rows F_known F_rows F_pivots) s.heap.size := ⟨_, rfl⟩
  rw [← hAe] at hD hZ
  have hA : ∀ q : Nat, s.heap.size ≤ q → A q := fun q h => by rw [hAe]; exact Or.inr h
  have hS : va_S A s.heap s.heap [] := va_S.rf
  have hP : va_P g.1 vwCl [(a_X, .inr (4, [.ref a_P, .ref a_X_levels, .ref a_E, .ref a_F, .ref a_R, .ref a_X_vector, .ref a_X_solution, .int X_solved, .int X_levelCount])), (a_P, .inr (2, [.int P_rows, .ref a_P_entries, .ref a_P_order, .ref a_P_places, .ref a_P_rights, .ref a_P_weights])), (a_F, .inr (1, [.int F_known, .int F_rows, .ref a_F_pivots, .ref a_F_reciprocals, .ref a_F_below])), (a_F_pivots, .inl (g.2.1, 16, .inl F_pivots))] s.heap := hP
  have hD : va_D A [(a_X, .inr (4, [.ref a_P, .ref a_X_levels, .ref a_E, .ref a_F, .ref a_R, .ref a_X_vector, .ref a_X_solution, .int X_solved, .int X_levelCount])), (a_P, .inr (2, [.int P_rows, .ref a_P_entries, .ref a_P_order, .ref a_P_places, .ref a_P_rights, .ref a_P_weights])), (a_F, .inr (1, [.int F_known, .int F_rows, .ref a_F_pivots, .ref a_F_reciprocals, .ref a_F_below])), (a_F_pivots, .inl (g.2.1, 16, .inl F_pivots))] := hD
  have hl := lv_entry ([.ref a_X, .int i_p]) (n := 2) (Nat.le_of_ble_eq_true rfl)
  rw [lg_entry_eq]
  generalize (lg_sl ([.ref a_X, .int i_p]) ++ List.replicate (2 - (lg_sl ([.ref a_X, .int i_p])).length) Slot.unset).toArray = ls at hl ⊢
  have hl : lv_has ls 2 [(0, .ref a_X), (1, .int i_p)] := hl
  unfold wp_X4_pivot at hv
  refine lv_aload_n hx hb dX4_pivot_0 rfl (lv_at hl 0 rfl) ?_
  refine lv_iload_n hx hb dX4_pivot_1 rfl (lv_at hl 1 rfl) ?_
  refine cx_vVp (As := [.int i_p]) (rest := []) ⟨hx, hb, hml, hown, hts⟩ (c_X4_needPosition l hlt g a_X a_P a_X_levels a_E a_F a_R a_X_vector a_X_solution a_P_entries a_P_order a_P_places a_P_rights a_P_weights i_p X_solved X_levelCount P_rows hv) (cx_cwV 1 hts cw_m_X4_95 cw_i_X4_needPosition cw_s_X4_needPosition cw_n_X4 cw_c_X4_needPosition rfl rfl (by decide +kernel) ⟨Nat.le_of_ble_eq_true rfl, Nat.le_of_ble_eq_true rfl⟩) hK hKX hZ hAe htab hlocks hP hD hS hA 0 4 rfl rfl [0, 1] rfl rfl rfl hl.1 rfl (Nat.le_of_ble_eq_true rfl) dX4_pivot_2 ⟨Nat.le_of_ble_eq_true rfl, Nat.le_of_ble_eq_true rfl⟩ (Nat.le_of_ble_eq_true rfl) (Nat.le_of_ble_eq_true rfl) (fun H locs hv hP hS => ?_)
  refine W.widen (k := 1) (n := 6) (Nat.le_of_ble_eq_true rfl) (Nat.le_of_ble_eq_true rfl) ?_
  refine lv_aload_n hx hb dX4_pivot_5 rfl (lv_at hl 0 rfl) ?_
  refine cx_vVp (As := []) (rest := []) ⟨hx, hb, hml, hown, hts⟩ (c_X4_needFactors l hlt g a_X a_P a_X_levels a_E a_F a_R a_X_vector a_X_solution a_F_pivots a_F_reciprocals a_F_below X_solved X_levelCount F_known F_rows hv) (cx_cwV 0 hts cw_m_X4_159 cw_i_X4_needFactors cw_s_X4_needFactors cw_n_X4 cw_c_X4_needFactors rfl rfl (by decide +kernel) ⟨Nat.le_of_ble_eq_true rfl, Nat.le_of_ble_eq_true rfl⟩) hK hKX hZ hAe htab hlocks hP hD hS hA 0 4 rfl rfl [0, 2] rfl rfl rfl hl.1 rfl (Nat.le_of_ble_eq_true rfl) dX4_pivot_6 ⟨Nat.le_of_ble_eq_true rfl, Nat.le_of_ble_eq_true rfl⟩ (Nat.le_of_ble_eq_true rfl) (Nat.le_of_ble_eq_true rfl) (fun H locs hv hP hS => ?_)
  refine W.widen (k := 2) (n := 12) (Nat.le_of_ble_eq_true rfl) (Nat.le_of_ble_eq_true rfl) ?_
  refine lv_aload_n hx hb dX4_pivot_9 rfl (lv_at hl 0 rfl) ?_
  refine va_get (D := g.1) (ci := 4) (v := .ref a_F) (C := RX4) (T := TX4) (N := 9) hx hb hts cw_in_X4 hown hK.1 hP 0 rfl rfl 3 (by decide) (hts _ cw_f_X4_30) (fun _ h9 => h9) rfl dX4_pivot_10 ?_
  refine va_get (D := g.1) (ci := 1) (v := .ref a_F_pivots) (C := RX1) (T := TX1) (N := 5) hx hb hts cw_in_X1 hown hK.1 hP 2 rfl rfl 2 (by decide) (hts _ cw_f_X4_162) (fun _ h9 => h9) rfl dX4_pivot_13 ?_
  refine lv_iload_n hx hb dX4_pivot_16 rfl (lv_at hl 1 rfl) ?_
  obtain ⟨h_1, hv⟩ := hv
  refine va_iald (D := g.1) hx hb hK.1 hP 3 0 rfl rfl h_1 dX4_pivot_17 ?_
  exact vx_ret (cx_iret hx hb hr hlocks hAe hS () hv hP hD dX4_pivot_18)
def wp_X4_lower (i_p : Int32) (i_q : Int32) (X_solved : Int32) (X_levelCount : Int32) (P_rows : Int32) (F_known : Int32) (F_rows : Int32) (F_below : (Nat → Int32)) (Q : Int32 → Prop) (X : String → Prop)   : Prop := wp_X4_needPosition i_p X_solved X_levelCount P_rows (wp_X4_needPosition i_q X_solved X_levelCount P_rows (wp_X4_needFactors X_solved X_levelCount F_known F_rows ((i_p = i_q → (Q 1)) ∧ (¬ i_p = i_q → ((i_q ≤ i_p → (vp_in (f_cell i_p i_q) 256 ∧ (Q (F_below (Int32.toNatClampNeg (f_cell i_p i_q)))))) ∧ (¬ i_q ≤ i_p → (Q 0))))) X) X) X
abbrev w0_X4_lower (g : cx_G) (a_X a_P a_X_levels a_E a_F a_R a_X_vector a_X_solution a_P_entries a_P_order a_P_places a_P_rights a_P_weights a_F_pivots a_F_reciprocals a_F_below : Nat) (X_solved : Int32) (X_levelCount : Int32) (P_rows : Int32) (F_known : Int32) (F_rows : Int32) (F_below : (Nat → Int32)) : va_W := [(a_X, .inr (4, [.ref a_P, .ref a_X_levels, .ref a_E, .ref a_F, .ref a_R, .ref a_X_vector, .ref a_X_solution, .int X_solved, .int X_levelCount])), (a_P, .inr (2, [.int P_rows, .ref a_P_entries, .ref a_P_order, .ref a_P_places, .ref a_P_rights, .ref a_P_weights])), (a_F, .inr (1, [.int F_known, .int F_rows, .ref a_F_pivots, .ref a_F_reciprocals, .ref a_F_below])), (a_F_below, .inl (g.2.1, 256, .inl F_below))]
set_option maxHeartbeats 4000000 in
set_option maxRecDepth 100000 in
theorem c_X4_lower (l : Launch) (hlt : l.stackTraces = false) (g : cx_G) (a_X a_P a_X_levels a_E a_F a_R a_X_vector a_X_solution a_P_entries a_P_order a_P_places a_P_rights a_P_weights a_F_pivots a_F_reciprocals a_F_below : Nat) (i_p : Int32) (i_q : Int32) (X_solved : Int32) (X_levelCount : Int32) (P_rows : Int32) (F_known : Int32) (F_rows : Int32) (F_below : (Nat → Int32)) {Q : Int32 → Prop} {X : String → Prop} (hv : wp_X4_lower i_p i_q X_solved X_levelCount P_rows F_known F_rows F_below Q X) : cx_Ei l g yX4_lower (Cond.code yX4_lower cX4_lower 3 (some .int) :: cx_T) ({ frames := 7, cells := 3, slots := 18, locals := 111 } : Room) [.ref a_X, .int i_p, .int i_q] (w0_X4_lower g a_X a_P a_X_levels a_E a_F a_R a_X_vector a_X_solution a_P_entries a_P_order a_P_places a_P_rights a_P_weights a_F_pivots a_F_reciprocals a_F_below X_solved X_levelCount P_rows F_known F_rows F_below) (fun (r : Int32) (_ : Unit) => Q r) (fun _ : Unit => (w0_X4_lower g a_X a_P a_X_levels a_E a_F a_R a_X_vector a_X_solution a_P_entries a_P_order a_P_places a_P_rights a_P_weights a_F_pivots a_F_reciprocals a_F_below X_solved X_levelCount P_rows F_known F_rows F_below)) X 3 18 := by
  intro sz
  refine vx_ofW (cc := cX4_lower) (maxL := 3) (ret := (some .int)) (by decide) rfl ?_
  intro p e s m args below meth c s₁ B hml htab hpre
  obtain ⟨rfl, hsz, hP, hK, hD0, hKX, hZ⟩ := hpre
  have hx := B.exec
  have hb := B.bytes
  have hr := B.returns
  have hts0 := atoms_spec (ws := (Cond.code yX4_lower cX4_lower 3 (some .int) :: cx_T)) B.pre
  have hts : ∀ w ∈ cx_T, w.before _ s = true := fun w h => hts0 w (List.mem_cons_of_mem _ h)
  have hown : s.vm.findClass RX4 = some m.cls := findClass_of_methodNamed B.named
  have hlocks := B.notSynchronized
  subst hsz
  have hD := hD0.self (sz := s.heap.size)
  obtain ⟨A, hAe⟩ : ∃ A : Nat → Prop, A = va_A (w0_X4_lower g a_X a_P a_X_levels a_E a_F a_R a_X_vector a_X_solution a_P_entries a_P_order a_P_places a_P_rights a_P_weights a_F_pivots a_F_reciprocals a_F_below X_solved X_levelCount P_rows F_known F_rows F_below) s.heap.size := ⟨_, rfl⟩
  rw [← hAe] at hD hZ
  have hA : ∀ q : Nat, s.heap.size ≤ q → A q := fun q h => by rw [hAe]; exact Or.inr h
  have hS : va_S A s.heap s.heap [] := va_S.rf
  have hP : va_P g.1 vwCl [(a_X, .inr (4, [.ref a_P, .ref a_X_levels, .ref a_E, .ref a_F, .ref a_R, .ref a_X_vector, .ref a_X_solution, .int X_solved, .int X_levelCount])), (a_P, .inr (2, [.int P_rows, .ref a_P_entries, .ref a_P_order, .ref a_P_places, .ref a_P_rights, .ref a_P_weights])), (a_F, .inr (1, [.int F_known, .int F_rows, .ref a_F_pivots, .ref a_F_reciprocals, .ref a_F_below])), (a_F_below, .inl (g.2.1, 256, .inl F_below))] s.heap := hP
  have hD : va_D A [(a_X, .inr (4, [.ref a_P, .ref a_X_levels, .ref a_E, .ref a_F, .ref a_R, .ref a_X_vector, .ref a_X_solution, .int X_solved, .int X_levelCount])), (a_P, .inr (2, [.int P_rows, .ref a_P_entries, .ref a_P_order, .ref a_P_places, .ref a_P_rights, .ref a_P_weights])), (a_F, .inr (1, [.int F_known, .int F_rows, .ref a_F_pivots, .ref a_F_reciprocals, .ref a_F_below])), (a_F_below, .inl (g.2.1, 256, .inl F_below))] := hD
  have hl := lv_entry ([.ref a_X, .int i_p, .int i_q]) (n := 3) (Nat.le_of_ble_eq_true rfl)
  rw [lg_entry_eq]
  generalize (lg_sl ([.ref a_X, .int i_p, .int i_q]) ++ List.replicate (3 - (lg_sl ([.ref a_X, .int i_p, .int i_q])).length) Slot.unset).toArray = ls at hl ⊢
  have hl : lv_has ls 3 [(0, .ref a_X), (1, .int i_p), (2, .int i_q)] := hl
  unfold wp_X4_lower at hv
  refine lv_aload_n hx hb dX4_lower_0 rfl (lv_at hl 0 rfl) ?_
  refine lv_iload_n hx hb dX4_lower_1 rfl (lv_at hl 1 rfl) ?_
  refine cx_vVp (As := [.int i_p]) (rest := []) ⟨hx, hb, hml, hown, hts⟩ (c_X4_needPosition l hlt g a_X a_P a_X_levels a_E a_F a_R a_X_vector a_X_solution a_P_entries a_P_order a_P_places a_P_rights a_P_weights i_p X_solved X_levelCount P_rows hv) (cx_cwV 1 hts cw_m_X4_95 cw_i_X4_needPosition cw_s_X4_needPosition cw_n_X4 cw_c_X4_needPosition rfl rfl (by decide +kernel) ⟨Nat.le_of_ble_eq_true rfl, Nat.le_of_ble_eq_true rfl⟩) hK hKX hZ hAe htab hlocks hP hD hS hA 0 4 rfl rfl [0, 1] rfl rfl rfl hl.1 rfl (Nat.le_of_ble_eq_true rfl) dX4_lower_2 ⟨Nat.le_of_ble_eq_true rfl, Nat.le_of_ble_eq_true rfl⟩ (Nat.le_of_ble_eq_true rfl) (Nat.le_of_ble_eq_true rfl) (fun H locs hv hP hS => ?_)
  refine W.widen (k := 1) (n := 6) (Nat.le_of_ble_eq_true rfl) (Nat.le_of_ble_eq_true rfl) ?_
  refine lv_aload_n hx hb dX4_lower_5 rfl (lv_at hl 0 rfl) ?_
  refine lv_iload_n hx hb dX4_lower_6 rfl (lv_at hl 2 rfl) ?_
  refine cx_vVp (As := [.int i_q]) (rest := []) ⟨hx, hb, hml, hown, hts⟩ (c_X4_needPosition l hlt g a_X a_P a_X_levels a_E a_F a_R a_X_vector a_X_solution a_P_entries a_P_order a_P_places a_P_rights a_P_weights i_q X_solved X_levelCount P_rows hv) (cx_cwV 1 hts cw_m_X4_95 cw_i_X4_needPosition cw_s_X4_needPosition cw_n_X4 cw_c_X4_needPosition rfl rfl (by decide +kernel) ⟨Nat.le_of_ble_eq_true rfl, Nat.le_of_ble_eq_true rfl⟩) hK hKX hZ hAe htab hlocks hP hD hS hA 0 4 rfl rfl [0, 1] rfl rfl rfl hl.1 rfl (Nat.le_of_ble_eq_true rfl) dX4_lower_7 ⟨Nat.le_of_ble_eq_true rfl, Nat.le_of_ble_eq_true rfl⟩ (Nat.le_of_ble_eq_true rfl) (Nat.le_of_ble_eq_true rfl) (fun H locs hv hP hS => ?_)
  refine W.widen (k := 2) (n := 12) (Nat.le_of_ble_eq_true rfl) (Nat.le_of_ble_eq_true rfl) ?_
  refine lv_aload_n hx hb dX4_lower_10 rfl (lv_at hl 0 rfl) ?_
  refine cx_vVp (As := []) (rest := []) ⟨hx, hb, hml, hown, hts⟩ (c_X4_needFactors l hlt g a_X a_P a_X_levels a_E a_F a_R a_X_vector a_X_solution a_F_pivots a_F_reciprocals a_F_below X_solved X_levelCount F_known F_rows hv) (cx_cwV 0 hts cw_m_X4_159 cw_i_X4_needFactors cw_s_X4_needFactors cw_n_X4 cw_c_X4_needFactors rfl rfl (by decide +kernel) ⟨Nat.le_of_ble_eq_true rfl, Nat.le_of_ble_eq_true rfl⟩) hK hKX hZ hAe htab hlocks hP hD hS hA 0 4 rfl rfl [0, 2] rfl rfl rfl hl.1 rfl (Nat.le_of_ble_eq_true rfl) dX4_lower_11 ⟨Nat.le_of_ble_eq_true rfl, Nat.le_of_ble_eq_true rfl⟩ (Nat.le_of_ble_eq_true rfl) (Nat.le_of_ble_eq_true rfl) (fun H locs hv hP hS => ?_)
  refine W.widen (k := 3) (n := 18) (Nat.le_of_ble_eq_true rfl) (Nat.le_of_ble_eq_true rfl) ?_
  refine lv_iload_n hx hb dX4_lower_14 rfl (lv_at hl 1 rfl) ?_
  refine lv_iload_n hx hb dX4_lower_15 rfl (lv_at hl 2 rfl) ?_
  refine lv_icmp_ne (tgt := 21) hx hb dX4_lower_16 (by decide) (fun hc => ?_) (fun hc => ?_)
  · replace hv := hv.2 hc
    refine lv_iload_n hx hb dX4_lower_21 rfl (lv_at hl 1 rfl) ?_
    refine lv_iload_n hx hb dX4_lower_22 rfl (lv_at hl 2 rfl) ?_
    refine lv_icmp_ge (tgt := 30) hx hb dX4_lower_23 (by decide) (fun hc => ?_) (fun hc => ?_)
    · replace hv := hv.1 hc
      refine lv_aload_n hx hb dX4_lower_30 rfl (lv_at hl 0 rfl) ?_
      refine va_get (D := g.1) (ci := 4) (v := .ref a_F) (C := RX4) (T := TX4) (N := 9) hx hb hts cw_in_X4 hown hK.1 hP 0 rfl rfl 3 (by decide) (hts _ cw_f_X4_30) (fun _ h9 => h9) rfl dX4_lower_31 ?_
      refine va_get (D := g.1) (ci := 1) (v := .ref a_F_below) (C := RX1) (T := TX1) (N := 5) hx hb hts cw_in_X1 hown hK.1 hP 2 rfl rfl 4 (by decide) (hts _ cw_f_X4_165) (fun _ h9 => h9) rfl dX4_lower_34 ?_
      refine lv_iload_n hx hb dX4_lower_37 rfl (lv_at hl 1 rfl) ?_
      refine lv_iload_n hx hb dX4_lower_38 rfl (lv_at hl 2 rfl) ?_
      refine cx_iSr (As := [.int i_p, .int i_q]) (rest := [.ref a_F_below]) ⟨hx, hb, hml, hown, hts⟩ (cp_X4_cell l g i_p i_q) (cx_cwS 2 hts cw_m_X4_168 cw_t_X4_cell cw_n_X4 cw_c_X4_cell rfl rfl (by decide +kernel) ⟨Nat.le_of_ble_eq_true rfl, Nat.le_of_ble_eq_true rfl⟩) hK hP hD hS hA [] rfl rfl rfl hl.1 rfl (Nat.le_of_ble_eq_true rfl) dX4_lower_39 ⟨Nat.le_of_ble_eq_true rfl, Nat.le_of_ble_eq_true rfl⟩ (fun r_1 H locs hr9 hP hS => ?_)
      replace hr9 : r_1 = (f_cell i_p i_q) := hr9
      subst hr9
      obtain ⟨h_2, hv⟩ := hv
      refine va_iald (D := g.1) hx hb hK.1 hP 3 0 rfl rfl h_2 dX4_lower_42 ?_
      exact vx_ret (cx_iret hx hb hr hlocks hAe hS () hv hP hD dX4_lower_43)
    · replace hv := hv.2 hc
      refine lv_iconst (v := 0) hx hb dX4_lower_26 (by decide) ?_
      refine lv_goto (tgt := 43) hx hb dX4_lower_27 (by decide) ?_
      exact vx_ret (cx_iret hx hb hr hlocks hAe hS () hv hP hD dX4_lower_43)
  · replace hv := hv.1 hc
    refine lv_iconst (v := 1) hx hb dX4_lower_19 (by decide) ?_
    exact vx_ret (cx_iret hx hb hr hlocks hAe hS () hv hP hD dX4_lower_20)
def wp_X4_setWeight (i_i : Int32) (i_v : Int32) (X_solved : Int32) (X_levelCount : Int32) (P_rows : Int32) (P_weights : (Nat → Int32)) (Q : Int32 → (Nat → Int32) → Prop) (X : String → Prop)   : Prop := wp_X4_needRow i_i X_solved X_levelCount P_rows (wp_X4_needResidue i_v (vp_in i_i 16 ∧ (∀ x3_2 : Int32, x3_2 = (P_weights (Int32.toNatClampNeg i_i)) → (vp_in i_i 16 ∧ (Q x3_2 (upd P_weights (Int32.toNatClampNeg i_i) i_v))))) X) X
abbrev w0_X4_setWeight (g : cx_G) (a_X a_P a_X_levels a_E a_F a_R a_X_vector a_X_solution a_P_entries a_P_order a_P_places a_P_rights a_P_weights : Nat) (X_solved : Int32) (X_levelCount : Int32) (P_rows : Int32) (P_weights : (Nat → Int32)) : va_W := [(a_X, .inr (4, [.ref a_P, .ref a_X_levels, .ref a_E, .ref a_F, .ref a_R, .ref a_X_vector, .ref a_X_solution, .int X_solved, .int X_levelCount])), (a_P, .inr (2, [.int P_rows, .ref a_P_entries, .ref a_P_order, .ref a_P_places, .ref a_P_rights, .ref a_P_weights])), (a_P_weights, .inl (g.2.1, 16, .inl P_weights))]
abbrev w1_X4_setWeight (g : cx_G) (a_X a_P a_X_levels a_E a_F a_R a_X_vector a_X_solution a_P_entries a_P_order a_P_places a_P_rights a_P_weights : Nat) (X_solved : Int32) (X_levelCount : Int32) (P_rows : Int32) (P_weights : (Nat → Int32)) (u : (Nat → Int32)) : va_W := [(a_X, .inr (4, [.ref a_P, .ref a_X_levels, .ref a_E, .ref a_F, .ref a_R, .ref a_X_vector, .ref a_X_solution, .int X_solved, .int X_levelCount])), (a_P, .inr (2, [.int P_rows, .ref a_P_entries, .ref a_P_order, .ref a_P_places, .ref a_P_rights, .ref a_P_weights])), (a_P_weights, .inl (g.2.1, 16, .inl u))]
set_option maxHeartbeats 4000000 in
set_option maxRecDepth 100000 in
theorem c_X4_setWeight (l : Launch) (hlt : l.stackTraces = false) (g : cx_G) (a_X a_P a_X_levels a_E a_F a_R a_X_vector a_X_solution a_P_entries a_P_order a_P_places a_P_rights a_P_weights : Nat) (i_i : Int32) (i_v : Int32) (X_solved : Int32) (X_levelCount : Int32) (P_rows : Int32) (P_weights : (Nat → Int32)) {Q : Int32 → (Nat → Int32) → Prop} {X : String → Prop} (hv : wp_X4_setWeight i_i i_v X_solved X_levelCount P_rows P_weights Q X) : cx_Ei l g yX4_setWeight (Cond.code yX4_setWeight cX4_setWeight 4 (some .int) :: cx_T) ({ frames := 7, cells := 2, slots := 12, locals := 111 } : Room) [.ref a_X, .int i_i, .int i_v] (w0_X4_setWeight g a_X a_P a_X_levels a_E a_F a_R a_X_vector a_X_solution a_P_entries a_P_order a_P_places a_P_rights a_P_weights X_solved X_levelCount P_rows P_weights) (fun (r : Int32) (u : (Nat → Int32)) => Q r u) (w1_X4_setWeight g a_X a_P a_X_levels a_E a_F a_R a_X_vector a_X_solution a_P_entries a_P_order a_P_places a_P_rights a_P_weights X_solved X_levelCount P_rows P_weights) X 2 12 := by
  intro sz
  refine vx_ofW (cc := cX4_setWeight) (maxL := 4) (ret := (some .int)) (by decide) rfl ?_
  intro p e s m args below meth c s₁ B hml htab hpre
  obtain ⟨rfl, hsz, hP, hK, hD0, hKX, hZ⟩ := hpre
  have hx := B.exec
  have hb := B.bytes
  have hr := B.returns
  have hts0 := atoms_spec (ws := (Cond.code yX4_setWeight cX4_setWeight 4 (some .int) :: cx_T)) B.pre
  have hts : ∀ w ∈ cx_T, w.before _ s = true := fun w h => hts0 w (List.mem_cons_of_mem _ h)
  have hown : s.vm.findClass RX4 = some m.cls := findClass_of_methodNamed B.named
  have hlocks := B.notSynchronized
  subst hsz
  have hD := hD0.self (sz := s.heap.size)
  obtain ⟨A, hAe⟩ : ∃ A : Nat → Prop, A = va_A (w0_X4_setWeight g a_X a_P a_X_levels a_E a_F a_R a_X_vector a_X_solution a_P_entries a_P_order a_P_places a_P_rights a_P_weights X_solved X_levelCount P_rows P_weights) s.heap.size := ⟨_, rfl⟩
  rw [← hAe] at hD hZ
  have hA : ∀ q : Nat, s.heap.size ≤ q → A q := fun q h => by rw [hAe]; exact Or.inr h
  have hS : va_S A s.heap s.heap [] := va_S.rf
  have hP : va_P g.1 vwCl [(a_X, .inr (4, [.ref a_P, .ref a_X_levels, .ref a_E, .ref a_F, .ref a_R, .ref a_X_vector, .ref a_X_solution, .int X_solved, .int X_levelCount])), (a_P, .inr (2, [.int P_rows, .ref a_P_entries, .ref a_P_order, .ref a_P_places, .ref a_P_rights, .ref a_P_weights])), (a_P_weights, .inl (g.2.1, 16, .inl P_weights))] s.heap := hP
  have hD : va_D A [(a_X, .inr (4, [.ref a_P, .ref a_X_levels, .ref a_E, .ref a_F, .ref a_R, .ref a_X_vector, .ref a_X_solution, .int X_solved, .int X_levelCount])), (a_P, .inr (2, [.int P_rows, .ref a_P_entries, .ref a_P_order, .ref a_P_places, .ref a_P_rights, .ref a_P_weights])), (a_P_weights, .inl (g.2.1, 16, .inl P_weights))] := hD
  have hl := lv_entry ([.ref a_X, .int i_i, .int i_v]) (n := 4) (Nat.le_of_ble_eq_true rfl)
  rw [lg_entry_eq]
  generalize (lg_sl ([.ref a_X, .int i_i, .int i_v]) ++ List.replicate (4 - (lg_sl ([.ref a_X, .int i_i, .int i_v])).length) Slot.unset).toArray = ls at hl ⊢
  have hl : lv_has ls 4 [(0, .ref a_X), (1, .int i_i), (2, .int i_v)] := hl
  unfold wp_X4_setWeight at hv
  refine lv_aload_n hx hb dX4_setWeight_0 rfl (lv_at hl 0 rfl) ?_
  refine lv_iload_n hx hb dX4_setWeight_1 rfl (lv_at hl 1 rfl) ?_
  refine cx_vVp (As := [.int i_i]) (rest := []) ⟨hx, hb, hml, hown, hts⟩ (c_X4_needRow l hlt g a_X a_P a_X_levels a_E a_F a_R a_X_vector a_X_solution a_P_entries a_P_order a_P_places a_P_rights a_P_weights i_i X_solved X_levelCount P_rows hv) (cx_cwV 1 hts cw_m_X4_73 cw_i_X4_needRow cw_s_X4_needRow cw_n_X4 cw_c_X4_needRow rfl rfl (by decide +kernel) ⟨Nat.le_of_ble_eq_true rfl, Nat.le_of_ble_eq_true rfl⟩) hK hKX hZ hAe htab hlocks hP hD hS hA 0 4 rfl rfl [0, 1] rfl rfl rfl hl.1 rfl (Nat.le_of_ble_eq_true rfl) dX4_setWeight_2 ⟨Nat.le_of_ble_eq_true rfl, Nat.le_of_ble_eq_true rfl⟩ (Nat.le_of_ble_eq_true rfl) (Nat.le_of_ble_eq_true rfl) (fun H locs hv hP hS => ?_)
  refine W.widen (k := 1) (n := 6) (Nat.le_of_ble_eq_true rfl) (Nat.le_of_ble_eq_true rfl) ?_
  refine lv_iload_n hx hb dX4_setWeight_5 rfl (lv_at hl 2 rfl) ?_
  refine cx_vSp (As := [.int i_v]) (rest := []) ⟨hx, hb, hml, hown, hts⟩ (c_X4_needResidue l hlt g i_v hv) (cx_cwS 1 hts cw_m_X4_76 cw_t_X4_needResidue cw_n_X4 cw_c_X4_needResidue rfl rfl (by decide +kernel) ⟨Nat.le_of_ble_eq_true rfl, Nat.le_of_ble_eq_true rfl⟩) hK hKX hZ hAe htab hlocks hP hD hS hA [] rfl rfl rfl hl.1 rfl (Nat.le_of_ble_eq_true rfl) dX4_setWeight_6 ⟨Nat.le_of_ble_eq_true rfl, Nat.le_of_ble_eq_true rfl⟩ (Nat.le_of_ble_eq_true rfl) (Nat.le_of_ble_eq_true rfl) (fun H locs hv hP hS => ?_)
  refine W.widen (k := 2) (n := 12) (Nat.le_of_ble_eq_true rfl) (Nat.le_of_ble_eq_true rfl) ?_
  refine lv_aload_n hx hb dX4_setWeight_9 rfl (lv_at hl 0 rfl) ?_
  refine va_get (D := g.1) (ci := 4) (v := .ref a_P) (C := RX4) (T := TX4) (N := 9) hx hb hts cw_in_X4 hown hK.1 hP 0 rfl rfl 0 (by decide) (hts _ cw_f_X4_10) (fun _ h9 => h9) rfl dX4_setWeight_10 ?_
  refine va_get (D := g.1) (ci := 2) (v := .ref a_P_weights) (C := RX2) (T := TX2) (N := 6) hx hb hts cw_in_X2 hown hK.1 hP 1 rfl rfl 5 (by decide) (hts _ cw_f_X4_171) (fun _ h9 => h9) rfl dX4_setWeight_13 ?_
  refine lv_iload_n hx hb dX4_setWeight_16 rfl (lv_at hl 1 rfl) ?_
  obtain ⟨h_1, hv⟩ := hv
  refine va_iald (D := g.1) hx hb hK.1 hP 2 0 rfl rfl h_1 dX4_setWeight_17 ?_
  refine lv_topi (fun x3_2 ex3_2 => ?_)
  replace hv := hv x3_2 ex3_2
  refine lv_istore_n (lv' := [(3, .int x3_2), (0, .ref a_X), (1, .int i_i), (2, .int i_v)]) hx hb dX4_setWeight_18 rfl hl (by decide) rfl (fun ls hl => ?_)
  refine lv_aload_n hx hb dX4_setWeight_19 rfl (lv_at hl 1 rfl) ?_
  refine va_get (D := g.1) (ci := 4) (v := .ref a_P) (C := RX4) (T := TX4) (N := 9) hx hb hts cw_in_X4 hown hK.1 hP 0 rfl rfl 0 (by decide) (hts _ cw_f_X4_10) (fun _ h9 => h9) rfl dX4_setWeight_20 ?_
  refine va_get (D := g.1) (ci := 2) (v := .ref a_P_weights) (C := RX2) (T := TX2) (N := 6) hx hb hts cw_in_X2 hown hK.1 hP 1 rfl rfl 5 (by decide) (hts _ cw_f_X4_171) (fun _ h9 => h9) rfl dX4_setWeight_23 ?_
  refine lv_iload_n hx hb dX4_setWeight_26 rfl (lv_at hl 2 rfl) ?_
  refine lv_iload_n hx hb dX4_setWeight_27 rfl (lv_at hl 3 rfl) ?_
  obtain ⟨h_3, hv⟩ := hv
  refine va_iast (D := g.1) hx hb hK.1 hP hD hS 2 0 rfl rfl h_3 dX4_setWeight_28 (fun H locs hP hD hS => ?_)
  have hP : va_P g.1 vwCl [(a_X, .inr (4, [.ref a_P, .ref a_X_levels, .ref a_E, .ref a_F, .ref a_R, .ref a_X_vector, .ref a_X_solution, .int X_solved, .int X_levelCount])), (a_P, .inr (2, [.int P_rows, .ref a_P_entries, .ref a_P_order, .ref a_P_places, .ref a_P_rights, .ref a_P_weights])), (a_P_weights, .inl (g.2.1, 16, .inl (upd P_weights (Int32.toNatClampNeg i_i) i_v)))] H := hP
  have hD : va_D A [(a_X, .inr (4, [.ref a_P, .ref a_X_levels, .ref a_E, .ref a_F, .ref a_R, .ref a_X_vector, .ref a_X_solution, .int X_solved, .int X_levelCount])), (a_P, .inr (2, [.int P_rows, .ref a_P_entries, .ref a_P_order, .ref a_P_places, .ref a_P_rights, .ref a_P_weights])), (a_P_weights, .inl (g.2.1, 16, .inl (upd P_weights (Int32.toNatClampNeg i_i) i_v)))] := hD
  refine lv_iload_n hx hb dX4_setWeight_29 rfl (lv_at hl 0 rfl) ?_
  exact vx_ret (cx_iret hx hb hr hlocks hAe hS (upd P_weights (Int32.toNatClampNeg i_i) i_v) hv hP hD dX4_setWeight_30)
def wp_X4_update (i_f : Int32) (X_solved : Int32) (X_levelCount : Int32) (F_known : Int32) (F_rows : Int32) (P_rows : Int32) (P_weights : (Nat → Int32)) (P_entries : (Nat → Int32)) (P_order : (Nat → Int32)) (F_below : (Nat → Int32)) (F_pivots : (Nat → Int32)) (F_reciprocals : (Nat → Int32)) (Q : Int32 → Int32 → Int32 → (Nat → Int32) → (Nat → Int32) → (Nat → Int32) → (Nat → Int32) → Prop) (X : String → Prop)   : Prop := wp_X4_needResidue i_f (wp_X4_needFactors X_solved X_levelCount F_known F_rows (wp_X2_addWeights i_f P_rows P_weights P_entries (fun u_2 => wp_X1_find F_known F_rows P_rows P_order u_2 F_below F_pivots F_reciprocals (fun r_4 u_5 u_6 u_7 u_8 u_9 => Q r_4 u_5 u_6 u_2 u_7 u_8 u_9))) X) X
abbrev w0_X4_update (g : cx_G) (a_X a_P a_X_levels a_E a_F a_R a_X_vector a_X_solution a_F_pivots a_F_reciprocals a_F_below a_P_entries a_P_order a_P_places a_P_rights a_P_weights : Nat) (X_solved : Int32) (X_levelCount : Int32) (F_known : Int32) (F_rows : Int32) (P_rows : Int32) (P_weights : (Nat → Int32)) (P_entries : (Nat → Int32)) (P_order : (Nat → Int32)) (F_below : (Nat → Int32)) (F_pivots : (Nat → Int32)) (F_reciprocals : (Nat → Int32)) : va_W := [(a_X, .inr (4, [.ref a_P, .ref a_X_levels, .ref a_E, .ref a_F, .ref a_R, .ref a_X_vector, .ref a_X_solution, .int X_solved, .int X_levelCount])), (a_F, .inr (1, [.int F_known, .int F_rows, .ref a_F_pivots, .ref a_F_reciprocals, .ref a_F_below])), (a_P, .inr (2, [.int P_rows, .ref a_P_entries, .ref a_P_order, .ref a_P_places, .ref a_P_rights, .ref a_P_weights])), (a_P_weights, .inl (g.2.1, 16, .inl P_weights)), (a_P_entries, .inl (g.2.1, 256, .inl P_entries)), (a_P_order, .inl (g.2.1, 16, .inl P_order)), (a_F_below, .inl (g.2.1, 256, .inl F_below)), (a_F_pivots, .inl (g.2.1, 16, .inl F_pivots)), (a_F_reciprocals, .inl (g.2.1, 16, .inl F_reciprocals))]
abbrev w1_X4_update (g : cx_G) (a_X a_P a_X_levels a_E a_F a_R a_X_vector a_X_solution a_F_pivots a_F_reciprocals a_F_below a_P_entries a_P_order a_P_places a_P_rights a_P_weights : Nat) (X_solved : Int32) (X_levelCount : Int32) (F_known : Int32) (F_rows : Int32) (P_rows : Int32) (P_weights : (Nat → Int32)) (P_entries : (Nat → Int32)) (P_order : (Nat → Int32)) (F_below : (Nat → Int32)) (F_pivots : (Nat → Int32)) (F_reciprocals : (Nat → Int32)) (u : Int32 × Int32 × (Nat → Int32) × (Nat → Int32) × (Nat → Int32) × (Nat → Int32)) : va_W := [(a_X, .inr (4, [.ref a_P, .ref a_X_levels, .ref a_E, .ref a_F, .ref a_R, .ref a_X_vector, .ref a_X_solution, .int X_solved, .int X_levelCount])), (a_F, .inr (1, [.int u.1, .int u.2.1, .ref a_F_pivots, .ref a_F_reciprocals, .ref a_F_below])), (a_P, .inr (2, [.int P_rows, .ref a_P_entries, .ref a_P_order, .ref a_P_places, .ref a_P_rights, .ref a_P_weights])), (a_P_weights, .inl (g.2.1, 16, .inl P_weights)), (a_P_entries, .inl (g.2.1, 256, .inl u.2.2.1)), (a_P_order, .inl (g.2.1, 16, .inl P_order)), (a_F_below, .inl (g.2.1, 256, .inl u.2.2.2.1)), (a_F_pivots, .inl (g.2.1, 16, .inl u.2.2.2.2.1)), (a_F_reciprocals, .inl (g.2.1, 16, .inl u.2.2.2.2.2))]
set_option maxHeartbeats 4000000 in
set_option maxRecDepth 100000 in
theorem c_X4_update (l : Launch) (hlt : l.stackTraces = false) (g : cx_G) (a_X a_P a_X_levels a_E a_F a_R a_X_vector a_X_solution a_F_pivots a_F_reciprocals a_F_below a_P_entries a_P_order a_P_places a_P_rights a_P_weights : Nat) (i_f : Int32) (X_solved : Int32) (X_levelCount : Int32) (F_known : Int32) (F_rows : Int32) (P_rows : Int32) (P_weights : (Nat → Int32)) (P_entries : (Nat → Int32)) (P_order : (Nat → Int32)) (F_below : (Nat → Int32)) (F_pivots : (Nat → Int32)) (F_reciprocals : (Nat → Int32)) {Q : Int32 → Int32 → Int32 → (Nat → Int32) → (Nat → Int32) → (Nat → Int32) → (Nat → Int32) → Prop} {X : String → Prop} (hv : wp_X4_update i_f X_solved X_levelCount F_known F_rows P_rows P_weights P_entries P_order F_below F_pivots F_reciprocals Q X) : cx_Ei l g yX4_update (Cond.code yX4_update cX4_update 2 (some .int) :: cx_T) ({ frames := 7, cells := 2, slots := 12, locals := 110 } : Room) [.ref a_X, .int i_f] (w0_X4_update g a_X a_P a_X_levels a_E a_F a_R a_X_vector a_X_solution a_F_pivots a_F_reciprocals a_F_below a_P_entries a_P_order a_P_places a_P_rights a_P_weights X_solved X_levelCount F_known F_rows P_rows P_weights P_entries P_order F_below F_pivots F_reciprocals) (fun (r : Int32) (u : Int32 × Int32 × (Nat → Int32) × (Nat → Int32) × (Nat → Int32) × (Nat → Int32)) => Q r u.1 u.2.1 u.2.2.1 u.2.2.2.1 u.2.2.2.2.1 u.2.2.2.2.2) (w1_X4_update g a_X a_P a_X_levels a_E a_F a_R a_X_vector a_X_solution a_F_pivots a_F_reciprocals a_F_below a_P_entries a_P_order a_P_places a_P_rights a_P_weights X_solved X_levelCount F_known F_rows P_rows P_weights P_entries P_order F_below F_pivots F_reciprocals) X 2 12 := by
  intro sz
  refine vx_ofW (cc := cX4_update) (maxL := 2) (ret := (some .int)) (by decide) rfl ?_
  intro p e s m args below meth c s₁ B hml htab hpre
  obtain ⟨rfl, hsz, hP, hK, hD0, hKX, hZ⟩ := hpre
  have hx := B.exec
  have hb := B.bytes
  have hr := B.returns
  have hts0 := atoms_spec (ws := (Cond.code yX4_update cX4_update 2 (some .int) :: cx_T)) B.pre
  have hts : ∀ w ∈ cx_T, w.before _ s = true := fun w h => hts0 w (List.mem_cons_of_mem _ h)
  have hown : s.vm.findClass RX4 = some m.cls := findClass_of_methodNamed B.named
  have hlocks := B.notSynchronized
  subst hsz
  have hD := hD0.self (sz := s.heap.size)
  obtain ⟨A, hAe⟩ : ∃ A : Nat → Prop, A = va_A (w0_X4_update g a_X a_P a_X_levels a_E a_F a_R a_X_vector a_X_solution a_F_pivots a_F_reciprocals a_F_below a_P_entries a_P_order a_P_places a_P_rights a_P_weights X_solved X_levelCount F_known F_rows P_rows P_weights P_entries P_order F_below F_pivots F_reciprocals) s.heap.size := ⟨_, rfl⟩
  rw [← hAe] at hD hZ
  have hA : ∀ q : Nat, s.heap.size ≤ q → A q := fun q h => by rw [hAe]; exact Or.inr h
  have hS : va_S A s.heap s.heap [] := va_S.rf
  have hP : va_P g.1 vwCl [(a_X, .inr (4, [.ref a_P, .ref a_X_levels, .ref a_E, .ref a_F, .ref a_R, .ref a_X_vector, .ref a_X_solution, .int X_solved, .int X_levelCount])), (a_F, .inr (1, [.int F_known, .int F_rows, .ref a_F_pivots, .ref a_F_reciprocals, .ref a_F_below])), (a_P, .inr (2, [.int P_rows, .ref a_P_entries, .ref a_P_order, .ref a_P_places, .ref a_P_rights, .ref a_P_weights])), (a_P_weights, .inl (g.2.1, 16, .inl P_weights)), (a_P_entries, .inl (g.2.1, 256, .inl P_entries)), (a_P_order, .inl (g.2.1, 16, .inl P_order)), (a_F_below, .inl (g.2.1, 256, .inl F_below)), (a_F_pivots, .inl (g.2.1, 16, .inl F_pivots)), (a_F_reciprocals, .inl (g.2.1, 16, .inl F_reciprocals))] s.heap := hP
  have hD : va_D A [(a_X, .inr (4, [.ref a_P, .ref a_X_levels, .ref a_E, .ref a_F, .ref a_R, .ref a_X_vector, .ref a_X_solution, .int X_solved, .int X_levelCount])), (a_F, .inr (1, [.int F_known, .int F_rows, .ref a_F_pivots, .ref a_F_reciprocals, .ref a_F_below])), (a_P, .inr (2, [.int P_rows, .ref a_P_entries, .ref a_P_order, .ref a_P_places, .ref a_P_rights, .ref a_P_weights])), (a_P_weights, .inl (g.2.1, 16, .inl P_weights)), (a_P_entries, .inl (g.2.1, 256, .inl P_entries)), (a_P_order, .inl (g.2.1, 16, .inl P_order)), (a_F_below, .inl (g.2.1, 256, .inl F_below)), (a_F_pivots, .inl (g.2.1, 16, .inl F_pivots)), (a_F_reciprocals, .inl (g.2.1, 16, .inl F_reciprocals))] := hD
  have hl := lv_entry ([.ref a_X, .int i_f]) (n := 2) (Nat.le_of_ble_eq_true rfl)
  rw [lg_entry_eq]
  generalize (lg_sl ([.ref a_X, .int i_f]) ++ List.replicate (2 - (lg_sl ([.ref a_X, .int i_f])).length) Slot.unset).toArray = ls at hl ⊢
  have hl : lv_has ls 2 [(0, .ref a_X), (1, .int i_f)] := hl
  unfold wp_X4_update at hv
  refine lv_iload_n hx hb dX4_update_0 rfl (lv_at hl 1 rfl) ?_
  refine cx_vSp (As := [.int i_f]) (rest := []) ⟨hx, hb, hml, hown, hts⟩ (c_X4_needResidue l hlt g i_f hv) (cx_cwS 1 hts cw_m_X4_76 cw_t_X4_needResidue cw_n_X4 cw_c_X4_needResidue rfl rfl (by decide +kernel) ⟨Nat.le_of_ble_eq_true rfl, Nat.le_of_ble_eq_true rfl⟩) hK hKX hZ hAe htab hlocks hP hD hS hA [] rfl rfl rfl hl.1 rfl (Nat.le_of_ble_eq_true rfl) dX4_update_1 ⟨Nat.le_of_ble_eq_true rfl, Nat.le_of_ble_eq_true rfl⟩ (Nat.le_of_ble_eq_true rfl) (Nat.le_of_ble_eq_true rfl) (fun H locs hv hP hS => ?_)
  refine W.widen (k := 1) (n := 6) (Nat.le_of_ble_eq_true rfl) (Nat.le_of_ble_eq_true rfl) ?_
  refine lv_aload_n hx hb dX4_update_4 rfl (lv_at hl 0 rfl) ?_
  refine cx_vVp (As := []) (rest := []) ⟨hx, hb, hml, hown, hts⟩ (c_X4_needFactors l hlt g a_X a_P a_X_levels a_E a_F a_R a_X_vector a_X_solution a_F_pivots a_F_reciprocals a_F_below X_solved X_levelCount F_known F_rows hv) (cx_cwV 0 hts cw_m_X4_159 cw_i_X4_needFactors cw_s_X4_needFactors cw_n_X4 cw_c_X4_needFactors rfl rfl (by decide +kernel) ⟨Nat.le_of_ble_eq_true rfl, Nat.le_of_ble_eq_true rfl⟩) hK hKX hZ hAe htab hlocks hP hD hS hA 0 4 rfl rfl [0, 1] rfl rfl rfl hl.1 rfl (Nat.le_of_ble_eq_true rfl) dX4_update_5 ⟨Nat.le_of_ble_eq_true rfl, Nat.le_of_ble_eq_true rfl⟩ (Nat.le_of_ble_eq_true rfl) (Nat.le_of_ble_eq_true rfl) (fun H locs hv hP hS => ?_)
  refine W.widen (k := 2) (n := 12) (Nat.le_of_ble_eq_true rfl) (Nat.le_of_ble_eq_true rfl) ?_
  refine lv_aload_n hx hb dX4_update_8 rfl (lv_at hl 0 rfl) ?_
  refine va_get (D := g.1) (ci := 4) (v := .ref a_P) (C := RX4) (T := TX4) (N := 9) hx hb hts cw_in_X4 hown hK.1 hP 0 rfl rfl 0 (by decide) (hts _ cw_f_X4_10) (fun _ h9 => h9) rfl dX4_update_9 ?_
  refine lv_iload_n hx hb dX4_update_12 rfl (lv_at hl 1 rfl) ?_
  refine cx_vV (wr := [(a_X, .inr (4, [.ref a_P, .ref a_X_levels, .ref a_E, .ref a_F, .ref a_R, .ref a_X_vector, .ref a_X_solution, .int X_solved, .int X_levelCount])), (a_F, .inr (1, [.int F_known, .int F_rows, .ref a_F_pivots, .ref a_F_reciprocals, .ref a_F_below])), (a_P_order, .inl (g.2.1, 16, .inl P_order)), (a_F_below, .inl (g.2.1, 256, .inl F_below)), (a_F_pivots, .inl (g.2.1, 16, .inl F_pivots)), (a_F_reciprocals, .inl (g.2.1, 16, .inl F_reciprocals))]) (As := [.int i_f]) (rest := []) ⟨hx, hb, hml, hown, hts⟩ (c_X2_addWeights l g a_P a_P_entries a_P_order a_P_places a_P_rights a_P_weights i_f P_rows P_weights P_entries hv) (cx_cwV 1 hts cw_m_X4_174 cw_i_X2_addWeights cw_s_X2_addWeights cw_n_X2 cw_c_X2_addWeights rfl rfl (by decide +kernel) ⟨Nat.le_of_ble_eq_true rfl, Nat.le_of_ble_eq_true rfl⟩) hK hP hD hS hA 2 2 rfl rfl [2, 3, 4] [0, 1, 5, 6, 7, 8] rfl rfl rfl rfl (by decide) rfl hl.1 rfl (Nat.le_of_ble_eq_true rfl) dX4_update_13 ⟨Nat.le_of_ble_eq_true rfl, Nat.le_of_ble_eq_true rfl⟩ (fun w_3 H locs hv hP hD hS => ?_)
  obtain ⟨u_2, rfl⟩ : ∃ z, z = w_3 := ⟨_, rfl⟩
  have hP : va_P g.1 vwCl [(a_X, .inr (4, [.ref a_P, .ref a_X_levels, .ref a_E, .ref a_F, .ref a_R, .ref a_X_vector, .ref a_X_solution, .int X_solved, .int X_levelCount])), (a_F, .inr (1, [.int F_known, .int F_rows, .ref a_F_pivots, .ref a_F_reciprocals, .ref a_F_below])), (a_P, .inr (2, [.int P_rows, .ref a_P_entries, .ref a_P_order, .ref a_P_places, .ref a_P_rights, .ref a_P_weights])), (a_P_weights, .inl (g.2.1, 16, .inl P_weights)), (a_P_entries, .inl (g.2.1, 256, .inl u_2)), (a_P_order, .inl (g.2.1, 16, .inl P_order)), (a_F_below, .inl (g.2.1, 256, .inl F_below)), (a_F_pivots, .inl (g.2.1, 16, .inl F_pivots)), (a_F_reciprocals, .inl (g.2.1, 16, .inl F_reciprocals))] H := hP.sub [0, 1, 6, 7, 8, 2, 3, 4, 5] rfl
  have hD : va_D A [(a_X, .inr (4, [.ref a_P, .ref a_X_levels, .ref a_E, .ref a_F, .ref a_R, .ref a_X_vector, .ref a_X_solution, .int X_solved, .int X_levelCount])), (a_F, .inr (1, [.int F_known, .int F_rows, .ref a_F_pivots, .ref a_F_reciprocals, .ref a_F_below])), (a_P, .inr (2, [.int P_rows, .ref a_P_entries, .ref a_P_order, .ref a_P_places, .ref a_P_rights, .ref a_P_weights])), (a_P_weights, .inl (g.2.1, 16, .inl P_weights)), (a_P_entries, .inl (g.2.1, 256, .inl u_2)), (a_P_order, .inl (g.2.1, 16, .inl P_order)), (a_F_below, .inl (g.2.1, 256, .inl F_below)), (a_F_pivots, .inl (g.2.1, 16, .inl F_pivots)), (a_F_reciprocals, .inl (g.2.1, 16, .inl F_reciprocals))] := hD.sub [0, 1, 6, 7, 8, 2, 3, 4, 5] (by decide) rfl
  refine lv_aload_n hx hb dX4_update_16 rfl (lv_at hl 0 rfl) ?_
  refine va_get (D := g.1) (ci := 4) (v := .ref a_F) (C := RX4) (T := TX4) (N := 9) hx hb hts cw_in_X4 hown hK.1 hP 0 rfl rfl 3 (by decide) (hts _ cw_f_X4_30) (fun _ h9 => h9) rfl dX4_update_17 ?_
  refine lv_aload_n hx hb dX4_update_20 rfl (lv_at hl 0 rfl) ?_
  refine va_get (D := g.1) (ci := 4) (v := .ref a_P) (C := RX4) (T := TX4) (N := 9) hx hb hts cw_in_X4 hown hK.1 hP 0 rfl rfl 0 (by decide) (hts _ cw_f_X4_10) (fun _ h9 => h9) rfl dX4_update_21 ?_
  refine cx_iV (wr := [(a_X, .inr (4, [.ref a_P, .ref a_X_levels, .ref a_E, .ref a_F, .ref a_R, .ref a_X_vector, .ref a_X_solution, .int X_solved, .int X_levelCount])), (a_P_weights, .inl (g.2.1, 16, .inl P_weights))]) (As := [.ref a_P]) (rest := []) ⟨hx, hb, hml, hown, hts⟩ (c_X1_find l g a_F a_P a_F_pivots a_F_reciprocals a_F_below a_P_entries a_P_order a_P_places a_P_rights a_P_weights F_known F_rows P_rows P_order u_2 F_below F_pivots F_reciprocals hv) (cx_cwV 1 hts cw_m_X4_153 cw_i_X1_find cw_s_X1_find cw_n_X1 cw_c_X1_find rfl rfl (by decide +kernel) ⟨Nat.le_of_ble_eq_true rfl, Nat.le_of_ble_eq_true rfl⟩) hK hP hD hS hA 1 1 rfl rfl [1, 2, 5, 4, 6, 7, 8] [0, 3] rfl rfl rfl rfl (by decide) rfl hl.1 rfl (Nat.le_of_ble_eq_true rfl) dX4_update_24 ⟨Nat.le_of_ble_eq_true rfl, Nat.le_of_ble_eq_true rfl⟩ (fun r_4 w_10 H locs hv hP hD hS => ?_)
  obtain ⟨u_5, u_6, u_7, u_8, u_9⟩ := w_10
  have hP : va_P g.1 vwCl [(a_X, .inr (4, [.ref a_P, .ref a_X_levels, .ref a_E, .ref a_F, .ref a_R, .ref a_X_vector, .ref a_X_solution, .int X_solved, .int X_levelCount])), (a_F, .inr (1, [.int u_5, .int u_6, .ref a_F_pivots, .ref a_F_reciprocals, .ref a_F_below])), (a_P, .inr (2, [.int P_rows, .ref a_P_entries, .ref a_P_order, .ref a_P_places, .ref a_P_rights, .ref a_P_weights])), (a_P_weights, .inl (g.2.1, 16, .inl P_weights)), (a_P_entries, .inl (g.2.1, 256, .inl u_2)), (a_P_order, .inl (g.2.1, 16, .inl P_order)), (a_F_below, .inl (g.2.1, 256, .inl u_7)), (a_F_pivots, .inl (g.2.1, 16, .inl u_8)), (a_F_reciprocals, .inl (g.2.1, 16, .inl u_9))] H := hP.sub [0, 2, 3, 1, 5, 4, 6, 7, 8] rfl
  have hD : va_D A [(a_X, .inr (4, [.ref a_P, .ref a_X_levels, .ref a_E, .ref a_F, .ref a_R, .ref a_X_vector, .ref a_X_solution, .int X_solved, .int X_levelCount])), (a_F, .inr (1, [.int u_5, .int u_6, .ref a_F_pivots, .ref a_F_reciprocals, .ref a_F_below])), (a_P, .inr (2, [.int P_rows, .ref a_P_entries, .ref a_P_order, .ref a_P_places, .ref a_P_rights, .ref a_P_weights])), (a_P_weights, .inl (g.2.1, 16, .inl P_weights)), (a_P_entries, .inl (g.2.1, 256, .inl u_2)), (a_P_order, .inl (g.2.1, 16, .inl P_order)), (a_F_below, .inl (g.2.1, 256, .inl u_7)), (a_F_pivots, .inl (g.2.1, 16, .inl u_8)), (a_F_reciprocals, .inl (g.2.1, 16, .inl u_9))] := hD.sub [0, 2, 3, 1, 5, 4, 6, 7, 8] (by decide) rfl
  exact vx_ret (cx_iret hx hb hr hlocks hAe hS (u_5, u_6, u_2, u_7, u_8, u_9) hv hP hD dX4_update_27)
def wp_X4_setRight (i_i : Int32) (i_v : Int32) (X_solved : Int32) (X_levelCount : Int32) (P_rows : Int32) (P_rights : (Nat → Int32)) (Q : Int32 → (Nat → Int32) → Prop) (X : String → Prop)   : Prop := wp_X4_needRow i_i X_solved X_levelCount P_rows (wp_X4_needResidue i_v (vp_in i_i 16 ∧ (∀ x3_2 : Int32, x3_2 = (P_rights (Int32.toNatClampNeg i_i)) → (vp_in i_i 16 ∧ (Q x3_2 (upd P_rights (Int32.toNatClampNeg i_i) i_v))))) X) X
abbrev w0_X4_setRight (g : cx_G) (a_X a_P a_X_levels a_E a_F a_R a_X_vector a_X_solution a_P_entries a_P_order a_P_places a_P_rights a_P_weights : Nat) (X_solved : Int32) (X_levelCount : Int32) (P_rows : Int32) (P_rights : (Nat → Int32)) : va_W := [(a_X, .inr (4, [.ref a_P, .ref a_X_levels, .ref a_E, .ref a_F, .ref a_R, .ref a_X_vector, .ref a_X_solution, .int X_solved, .int X_levelCount])), (a_P, .inr (2, [.int P_rows, .ref a_P_entries, .ref a_P_order, .ref a_P_places, .ref a_P_rights, .ref a_P_weights])), (a_P_rights, .inl (g.2.1, 16, .inl P_rights))]
abbrev w1_X4_setRight (g : cx_G) (a_X a_P a_X_levels a_E a_F a_R a_X_vector a_X_solution a_P_entries a_P_order a_P_places a_P_rights a_P_weights : Nat) (X_solved : Int32) (X_levelCount : Int32) (P_rows : Int32) (P_rights : (Nat → Int32)) (u : (Nat → Int32)) : va_W := [(a_X, .inr (4, [.ref a_P, .ref a_X_levels, .ref a_E, .ref a_F, .ref a_R, .ref a_X_vector, .ref a_X_solution, .int X_solved, .int X_levelCount])), (a_P, .inr (2, [.int P_rows, .ref a_P_entries, .ref a_P_order, .ref a_P_places, .ref a_P_rights, .ref a_P_weights])), (a_P_rights, .inl (g.2.1, 16, .inl u))]
set_option maxHeartbeats 4000000 in
set_option maxRecDepth 100000 in
theorem c_X4_setRight (l : Launch) (hlt : l.stackTraces = false) (g : cx_G) (a_X a_P a_X_levels a_E a_F a_R a_X_vector a_X_solution a_P_entries a_P_order a_P_places a_P_rights a_P_weights : Nat) (i_i : Int32) (i_v : Int32) (X_solved : Int32) (X_levelCount : Int32) (P_rows : Int32) (P_rights : (Nat → Int32)) {Q : Int32 → (Nat → Int32) → Prop} {X : String → Prop} (hv : wp_X4_setRight i_i i_v X_solved X_levelCount P_rows P_rights Q X) : cx_Ei l g yX4_setRight (Cond.code yX4_setRight cX4_setRight 4 (some .int) :: cx_T) ({ frames := 7, cells := 2, slots := 12, locals := 111 } : Room) [.ref a_X, .int i_i, .int i_v] (w0_X4_setRight g a_X a_P a_X_levels a_E a_F a_R a_X_vector a_X_solution a_P_entries a_P_order a_P_places a_P_rights a_P_weights X_solved X_levelCount P_rows P_rights) (fun (r : Int32) (u : (Nat → Int32)) => Q r u) (w1_X4_setRight g a_X a_P a_X_levels a_E a_F a_R a_X_vector a_X_solution a_P_entries a_P_order a_P_places a_P_rights a_P_weights X_solved X_levelCount P_rows P_rights) X 2 12 := by
  intro sz
  refine vx_ofW (cc := cX4_setRight) (maxL := 4) (ret := (some .int)) (by decide) rfl ?_
  intro p e s m args below meth c s₁ B hml htab hpre
  obtain ⟨rfl, hsz, hP, hK, hD0, hKX, hZ⟩ := hpre
  have hx := B.exec
  have hb := B.bytes
  have hr := B.returns
  have hts0 := atoms_spec (ws := (Cond.code yX4_setRight cX4_setRight 4 (some .int) :: cx_T)) B.pre
  have hts : ∀ w ∈ cx_T, w.before _ s = true := fun w h => hts0 w (List.mem_cons_of_mem _ h)
  have hown : s.vm.findClass RX4 = some m.cls := findClass_of_methodNamed B.named
  have hlocks := B.notSynchronized
  subst hsz
  have hD := hD0.self (sz := s.heap.size)
  obtain ⟨A, hAe⟩ : ∃ A : Nat → Prop, A = va_A (w0_X4_setRight g a_X a_P a_X_levels a_E a_F a_R a_X_vector a_X_solution a_P_entries a_P_order a_P_places a_P_rights a_P_weights X_solved X_levelCount P_rows P_rights) s.heap.size := ⟨_, rfl⟩
  rw [← hAe] at hD hZ
  have hA : ∀ q : Nat, s.heap.size ≤ q → A q := fun q h => by rw [hAe]; exact Or.inr h
  have hS : va_S A s.heap s.heap [] := va_S.rf
  have hP : va_P g.1 vwCl [(a_X, .inr (4, [.ref a_P, .ref a_X_levels, .ref a_E, .ref a_F, .ref a_R, .ref a_X_vector, .ref a_X_solution, .int X_solved, .int X_levelCount])), (a_P, .inr (2, [.int P_rows, .ref a_P_entries, .ref a_P_order, .ref a_P_places, .ref a_P_rights, .ref a_P_weights])), (a_P_rights, .inl (g.2.1, 16, .inl P_rights))] s.heap := hP
  have hD : va_D A [(a_X, .inr (4, [.ref a_P, .ref a_X_levels, .ref a_E, .ref a_F, .ref a_R, .ref a_X_vector, .ref a_X_solution, .int X_solved, .int X_levelCount])), (a_P, .inr (2, [.int P_rows, .ref a_P_entries, .ref a_P_order, .ref a_P_places, .ref a_P_rights, .ref a_P_weights])), (a_P_rights, .inl (g.2.1, 16, .inl P_rights))] := hD
  have hl := lv_entry ([.ref a_X, .int i_i, .int i_v]) (n := 4) (Nat.le_of_ble_eq_true rfl)
  rw [lg_entry_eq]
  generalize (lg_sl ([.ref a_X, .int i_i, .int i_v]) ++ List.replicate (4 - (lg_sl ([.ref a_X, .int i_i, .int i_v])).length) Slot.unset).toArray = ls at hl ⊢
  have hl : lv_has ls 4 [(0, .ref a_X), (1, .int i_i), (2, .int i_v)] := hl
  unfold wp_X4_setRight at hv
  refine lv_aload_n hx hb dX4_setRight_0 rfl (lv_at hl 0 rfl) ?_
  refine lv_iload_n hx hb dX4_setRight_1 rfl (lv_at hl 1 rfl) ?_
  refine cx_vVp (As := [.int i_i]) (rest := []) ⟨hx, hb, hml, hown, hts⟩ (c_X4_needRow l hlt g a_X a_P a_X_levels a_E a_F a_R a_X_vector a_X_solution a_P_entries a_P_order a_P_places a_P_rights a_P_weights i_i X_solved X_levelCount P_rows hv) (cx_cwV 1 hts cw_m_X4_73 cw_i_X4_needRow cw_s_X4_needRow cw_n_X4 cw_c_X4_needRow rfl rfl (by decide +kernel) ⟨Nat.le_of_ble_eq_true rfl, Nat.le_of_ble_eq_true rfl⟩) hK hKX hZ hAe htab hlocks hP hD hS hA 0 4 rfl rfl [0, 1] rfl rfl rfl hl.1 rfl (Nat.le_of_ble_eq_true rfl) dX4_setRight_2 ⟨Nat.le_of_ble_eq_true rfl, Nat.le_of_ble_eq_true rfl⟩ (Nat.le_of_ble_eq_true rfl) (Nat.le_of_ble_eq_true rfl) (fun H locs hv hP hS => ?_)
  refine W.widen (k := 1) (n := 6) (Nat.le_of_ble_eq_true rfl) (Nat.le_of_ble_eq_true rfl) ?_
  refine lv_iload_n hx hb dX4_setRight_5 rfl (lv_at hl 2 rfl) ?_
  refine cx_vSp (As := [.int i_v]) (rest := []) ⟨hx, hb, hml, hown, hts⟩ (c_X4_needResidue l hlt g i_v hv) (cx_cwS 1 hts cw_m_X4_76 cw_t_X4_needResidue cw_n_X4 cw_c_X4_needResidue rfl rfl (by decide +kernel) ⟨Nat.le_of_ble_eq_true rfl, Nat.le_of_ble_eq_true rfl⟩) hK hKX hZ hAe htab hlocks hP hD hS hA [] rfl rfl rfl hl.1 rfl (Nat.le_of_ble_eq_true rfl) dX4_setRight_6 ⟨Nat.le_of_ble_eq_true rfl, Nat.le_of_ble_eq_true rfl⟩ (Nat.le_of_ble_eq_true rfl) (Nat.le_of_ble_eq_true rfl) (fun H locs hv hP hS => ?_)
  refine W.widen (k := 2) (n := 12) (Nat.le_of_ble_eq_true rfl) (Nat.le_of_ble_eq_true rfl) ?_
  refine lv_aload_n hx hb dX4_setRight_9 rfl (lv_at hl 0 rfl) ?_
  refine va_get (D := g.1) (ci := 4) (v := .ref a_P) (C := RX4) (T := TX4) (N := 9) hx hb hts cw_in_X4 hown hK.1 hP 0 rfl rfl 0 (by decide) (hts _ cw_f_X4_10) (fun _ h9 => h9) rfl dX4_setRight_10 ?_
  refine va_get (D := g.1) (ci := 2) (v := .ref a_P_rights) (C := RX2) (T := TX2) (N := 6) hx hb hts cw_in_X2 hown hK.1 hP 1 rfl rfl 4 (by decide) (hts _ cw_f_X4_177) (fun _ h9 => h9) rfl dX4_setRight_13 ?_
  refine lv_iload_n hx hb dX4_setRight_16 rfl (lv_at hl 1 rfl) ?_
  obtain ⟨h_1, hv⟩ := hv
  refine va_iald (D := g.1) hx hb hK.1 hP 2 0 rfl rfl h_1 dX4_setRight_17 ?_
  refine lv_topi (fun x3_2 ex3_2 => ?_)
  replace hv := hv x3_2 ex3_2
  refine lv_istore_n (lv' := [(3, .int x3_2), (0, .ref a_X), (1, .int i_i), (2, .int i_v)]) hx hb dX4_setRight_18 rfl hl (by decide) rfl (fun ls hl => ?_)
  refine lv_aload_n hx hb dX4_setRight_19 rfl (lv_at hl 1 rfl) ?_
  refine va_get (D := g.1) (ci := 4) (v := .ref a_P) (C := RX4) (T := TX4) (N := 9) hx hb hts cw_in_X4 hown hK.1 hP 0 rfl rfl 0 (by decide) (hts _ cw_f_X4_10) (fun _ h9 => h9) rfl dX4_setRight_20 ?_
  refine va_get (D := g.1) (ci := 2) (v := .ref a_P_rights) (C := RX2) (T := TX2) (N := 6) hx hb hts cw_in_X2 hown hK.1 hP 1 rfl rfl 4 (by decide) (hts _ cw_f_X4_177) (fun _ h9 => h9) rfl dX4_setRight_23 ?_
  refine lv_iload_n hx hb dX4_setRight_26 rfl (lv_at hl 2 rfl) ?_
  refine lv_iload_n hx hb dX4_setRight_27 rfl (lv_at hl 3 rfl) ?_
  obtain ⟨h_3, hv⟩ := hv
  refine va_iast (D := g.1) hx hb hK.1 hP hD hS 2 0 rfl rfl h_3 dX4_setRight_28 (fun H locs hP hD hS => ?_)
  have hP : va_P g.1 vwCl [(a_X, .inr (4, [.ref a_P, .ref a_X_levels, .ref a_E, .ref a_F, .ref a_R, .ref a_X_vector, .ref a_X_solution, .int X_solved, .int X_levelCount])), (a_P, .inr (2, [.int P_rows, .ref a_P_entries, .ref a_P_order, .ref a_P_places, .ref a_P_rights, .ref a_P_weights])), (a_P_rights, .inl (g.2.1, 16, .inl (upd P_rights (Int32.toNatClampNeg i_i) i_v)))] H := hP
  have hD : va_D A [(a_X, .inr (4, [.ref a_P, .ref a_X_levels, .ref a_E, .ref a_F, .ref a_R, .ref a_X_vector, .ref a_X_solution, .int X_solved, .int X_levelCount])), (a_P, .inr (2, [.int P_rows, .ref a_P_entries, .ref a_P_order, .ref a_P_places, .ref a_P_rights, .ref a_P_weights])), (a_P_rights, .inl (g.2.1, 16, .inl (upd P_rights (Int32.toNatClampNeg i_i) i_v)))] := hD
  refine lv_iload_n hx hb dX4_setRight_29 rfl (lv_at hl 0 rfl) ?_
  exact vx_ret (cx_iret hx hb hr hlocks hAe hS (upd P_rights (Int32.toNatClampNeg i_i) i_v) hv hP hD dX4_setRight_30)
def vc_X4_solve_0 (X_solved : Int32) (X_levelCount : Int32) (F_known : Int32) (F_rows : Int32) (P_rows : Int32) (X_vector : (Nat → Int32)) (F_below : (Nat → Int32)) (F_reciprocals : (Nat → Int32)) (P_order : (Nat → Int32)) (P_rights : (Nat → Int32)) (X_solution : (Nat → Int32)) (Q : Int32 → Int32 → (Nat → Int32) → (Nat → Int32) → Prop) (X : String → Prop) (G1 : Int32 → Int32 → Int32 → (Nat → Int32) → (Nat → Int32) → Prop) (G2 : Int32 → Int32 → Int32 → Int32 → (Nat → Int32) → (Nat → Int32) → Prop)  : Prop := wp_X4_needFactors X_solved X_levelCount F_known F_rows (G1 0 P_rows X_solved X_vector X_solution) X
def vc_X4_solve_1 (X_solved : Int32) (X_levelCount : Int32) (F_known : Int32) (F_rows : Int32) (P_rows : Int32) (X_vector : (Nat → Int32)) (F_below : (Nat → Int32)) (F_reciprocals : (Nat → Int32)) (P_order : (Nat → Int32)) (P_rights : (Nat → Int32)) (X_solution : (Nat → Int32)) (Q : Int32 → Int32 → (Nat → Int32) → (Nat → Int32) → Prop) (X : String → Prop) (G1 : Int32 → Int32 → Int32 → (Nat → Int32) → (Nat → Int32) → Prop) (G2 : Int32 → Int32 → Int32 → Int32 → (Nat → Int32) → (Nat → Int32) → Prop) (x2 : Int32) (x1 : Int32) (v_X_solved : Int32) (v_X_vector : (Nat → Int32)) (v_X_solution : (Nat → Int32)) : Prop := (x1 ≤ x2 → (wp_X1_resolve F_known F_rows v_X_vector F_below F_reciprocals (fun u_2 => G2 0 0 x1 v_X_solved u_2 v_X_solution))) ∧ (¬ x1 ≤ x2 → (vp_in x2 16 ∧ (vp_in (P_order (Int32.toNatClampNeg x2)) 16 ∧ (vp_in x2 16 ∧ (∀ x2_7 : Int32, x2_7 = x2 + 1 → (G1 x2_7 x1 v_X_solved (upd v_X_vector (Int32.toNatClampNeg x2) (P_rights (Int32.toNatClampNeg (P_order (Int32.toNatClampNeg x2))))) v_X_solution))))))
def vc_X4_solve_2 (X_solved : Int32) (X_levelCount : Int32) (F_known : Int32) (F_rows : Int32) (P_rows : Int32) (X_vector : (Nat → Int32)) (F_below : (Nat → Int32)) (F_reciprocals : (Nat → Int32)) (P_order : (Nat → Int32)) (P_rights : (Nat → Int32)) (X_solution : (Nat → Int32)) (Q : Int32 → Int32 → (Nat → Int32) → (Nat → Int32) → Prop) (X : String → Prop) (G1 : Int32 → Int32 → Int32 → (Nat → Int32) → (Nat → Int32) → Prop) (G2 : Int32 → Int32 → Int32 → Int32 → (Nat → Int32) → (Nat → Int32) → Prop) (x3 : Int32) (x2 : Int32) (x1 : Int32) (v_X_solved : Int32) (v_X_vector : (Nat → Int32)) (v_X_solution : (Nat → Int32)) : Prop := (x1 ≤ x3 → (Q x2 1 v_X_vector v_X_solution)) ∧ (¬ x1 ≤ x3 → (vp_in x3 16 ∧ (vp_in x3 16 ∧ (vp_in (P_order (Int32.toNatClampNeg x3)) 16 ∧ (vp_in x3 16 ∧ (((v_X_vector (Int32.toNatClampNeg x3)) = 0 → (∀ x3_5 : Int32, x3_5 = x3 + 1 → (G2 x3_5 x2 x1 v_X_solved v_X_vector (upd v_X_solution (Int32.toNatClampNeg (P_order (Int32.toNatClampNeg x3))) (v_X_vector (Int32.toNatClampNeg x3)))))) ∧ (¬ (v_X_vector (Int32.toNatClampNeg x3)) = 0 → (∀ x2_6 : Int32, x2_6 = x2 + 1 → (∀ x3_7 : Int32, x3_7 = x3 + 1 → (G2 x3_7 x2_6 x1 v_X_solved v_X_vector (upd v_X_solution (Int32.toNatClampNeg (P_order (Int32.toNatClampNeg x3))) (v_X_vector (Int32.toNatClampNeg x3)))))))))))))
def wp_X4_solve (X_solved : Int32) (X_levelCount : Int32) (F_known : Int32) (F_rows : Int32) (P_rows : Int32) (X_vector : (Nat → Int32)) (F_below : (Nat → Int32)) (F_reciprocals : (Nat → Int32)) (P_order : (Nat → Int32)) (P_rights : (Nat → Int32)) (X_solution : (Nat → Int32)) (Q : Int32 → Int32 → (Nat → Int32) → (Nat → Int32) → Prop) (X : String → Prop) : Prop := ∀ (G1 : Int32 → Int32 → Int32 → (Nat → Int32) → (Nat → Int32) → Prop) (G2 : Int32 → Int32 → Int32 → Int32 → (Nat → Int32) → (Nat → Int32) → Prop), (∀ (x2 : Int32) (x1 : Int32) (v_X_solved : Int32) (v_X_vector : (Nat → Int32)) (v_X_solution : (Nat → Int32)), vc_X4_solve_1 X_solved X_levelCount F_known F_rows P_rows X_vector F_below F_reciprocals P_order P_rights X_solution Q X G1 G2 x2 x1 v_X_solved v_X_vector v_X_solution → G1 x2 x1 v_X_solved v_X_vector v_X_solution) → (∀ (x3 : Int32) (x2 : Int32) (x1 : Int32) (v_X_solved : Int32) (v_X_vector : (Nat → Int32)) (v_X_solution : (Nat → Int32)), vc_X4_solve_2 X_solved X_levelCount F_known F_rows P_rows X_vector F_below F_reciprocals P_order P_rights X_solution Q X G1 G2 x3 x2 x1 v_X_solved v_X_vector v_X_solution → G2 x3 x2 x1 v_X_solved v_X_vector v_X_solution) → vc_X4_solve_0 X_solved X_levelCount F_known F_rows P_rows X_vector F_below F_reciprocals P_order P_rights X_solution Q X G1 G2
abbrev w0_X4_solve (g : cx_G) (a_X a_P a_X_levels a_E a_F a_R a_X_vector a_X_solution a_F_pivots a_F_reciprocals a_F_below a_P_entries a_P_order a_P_places a_P_rights a_P_weights : Nat) (X_solved : Int32) (X_levelCount : Int32) (F_known : Int32) (F_rows : Int32) (P_rows : Int32) (X_vector : (Nat → Int32)) (F_below : (Nat → Int32)) (F_reciprocals : (Nat → Int32)) (P_order : (Nat → Int32)) (P_rights : (Nat → Int32)) (X_solution : (Nat → Int32)) : va_W := [(a_X, .inr (4, [.ref a_P, .ref a_X_levels, .ref a_E, .ref a_F, .ref a_R, .ref a_X_vector, .ref a_X_solution, .int X_solved, .int X_levelCount])), (a_F, .inr (1, [.int F_known, .int F_rows, .ref a_F_pivots, .ref a_F_reciprocals, .ref a_F_below])), (a_P, .inr (2, [.int P_rows, .ref a_P_entries, .ref a_P_order, .ref a_P_places, .ref a_P_rights, .ref a_P_weights])), (a_X_vector, .inl (g.2.1, 16, .inl X_vector)), (a_F_below, .inl (g.2.1, 256, .inl F_below)), (a_F_reciprocals, .inl (g.2.1, 16, .inl F_reciprocals)), (a_P_order, .inl (g.2.1, 16, .inl P_order)), (a_P_rights, .inl (g.2.1, 16, .inl P_rights)), (a_X_solution, .inl (g.2.1, 16, .inl X_solution))]
abbrev w1_X4_solve (g : cx_G) (a_X a_P a_X_levels a_E a_F a_R a_X_vector a_X_solution a_F_pivots a_F_reciprocals a_F_below a_P_entries a_P_order a_P_places a_P_rights a_P_weights : Nat) (X_solved : Int32) (X_levelCount : Int32) (F_known : Int32) (F_rows : Int32) (P_rows : Int32) (X_vector : (Nat → Int32)) (F_below : (Nat → Int32)) (F_reciprocals : (Nat → Int32)) (P_order : (Nat → Int32)) (P_rights : (Nat → Int32)) (X_solution : (Nat → Int32)) (u : Int32 × (Nat → Int32) × (Nat → Int32)) : va_W := [(a_X, .inr (4, [.ref a_P, .ref a_X_levels, .ref a_E, .ref a_F, .ref a_R, .ref a_X_vector, .ref a_X_solution, .int u.1, .int X_levelCount])), (a_F, .inr (1, [.int F_known, .int F_rows, .ref a_F_pivots, .ref a_F_reciprocals, .ref a_F_below])), (a_P, .inr (2, [.int P_rows, .ref a_P_entries, .ref a_P_order, .ref a_P_places, .ref a_P_rights, .ref a_P_weights])), (a_X_vector, .inl (g.2.1, 16, .inl u.2.1)), (a_F_below, .inl (g.2.1, 256, .inl F_below)), (a_F_reciprocals, .inl (g.2.1, 16, .inl F_reciprocals)), (a_P_order, .inl (g.2.1, 16, .inl P_order)), (a_P_rights, .inl (g.2.1, 16, .inl P_rights)), (a_X_solution, .inl (g.2.1, 16, .inl u.2.2))]
set_option maxHeartbeats 4000000 in
set_option maxRecDepth 100000 in
theorem c_X4_solve (l : Launch) (hlt : l.stackTraces = false) (g : cx_G) (a_X a_P a_X_levels a_E a_F a_R a_X_vector a_X_solution a_F_pivots a_F_reciprocals a_F_below a_P_entries a_P_order a_P_places a_P_rights a_P_weights : Nat) (X_solved : Int32) (X_levelCount : Int32) (F_known : Int32) (F_rows : Int32) (P_rows : Int32) (X_vector : (Nat → Int32)) (F_below : (Nat → Int32)) (F_reciprocals : (Nat → Int32)) (P_order : (Nat → Int32)) (P_rights : (Nat → Int32)) (X_solution : (Nat → Int32)) {Q : Int32 → Int32 → (Nat → Int32) → (Nat → Int32) → Prop} {X : String → Prop} (hv : wp_X4_solve X_solved X_levelCount F_known F_rows P_rows X_vector F_below F_reciprocals P_order P_rights X_solution Q X) : cx_Ei l g yX4_solve (Cond.code yX4_solve cX4_solve 4 (some .int) :: cx_T) ({ frames := 7, cells := 1, slots := 6, locals := 110 } : Room) [.ref a_X] (w0_X4_solve g a_X a_P a_X_levels a_E a_F a_R a_X_vector a_X_solution a_F_pivots a_F_reciprocals a_F_below a_P_entries a_P_order a_P_places a_P_rights a_P_weights X_solved X_levelCount F_known F_rows P_rows X_vector F_below F_reciprocals P_order P_rights X_solution) (fun (r : Int32) (u : Int32 × (Nat → Int32) × (Nat → Int32)) => Q r u.1 u.2.1 u.2.2) (w1_X4_solve g a_X a_P a_X_levels a_E a_F a_R a_X_vector a_X_solution a_F_pivots a_F_reciprocals a_F_below a_P_entries a_P_order a_P_places a_P_rights a_P_weights X_solved X_levelCount F_known F_rows P_rows X_vector F_below F_reciprocals P_order P_rights X_solution) X 1 6 := by
  intro sz
  refine vx_ofW (cc := cX4_solve) (maxL := 4) (ret := (some .int)) (by decide) rfl ?_
  intro p e s m args below meth c s₁ B hml htab hpre
  obtain ⟨rfl, hsz, hP, hK, hD0, hKX, hZ⟩ := hpre
  have hx := B.exec
  have hb := B.bytes
  have hr := B.returns
  have hts0 := atoms_spec (ws := (Cond.code yX4_solve cX4_solve 4 (some .int) :: cx_T)) B.pre
  have hts : ∀ w ∈ cx_T, w.before _ s = true := fun w h => hts0 w (List.mem_cons_of_mem _ h)
  have hown : s.vm.findClass RX4 = some m.cls := findClass_of_methodNamed B.named
  have hlocks := B.notSynchronized
  subst hsz
  have hD := hD0.self (sz := s.heap.size)
  obtain ⟨A, hAe⟩ : ∃ A : Nat → Prop, A = va_A (w0_X4_solve g a_X a_P a_X_levels a_E a_F a_R a_X_vector a_X_solution a_F_pivots a_F_reciprocals a_F_below a_P_entries a_P_order a_P_places a_P_rights a_P_weights X_solved X_levelCount F_known F_rows P_rows X_vector F_below F_reciprocals P_order P_rights X_solution) s.heap.size := ⟨_, rfl⟩
  rw [← hAe] at hD hZ
  have hA : ∀ q : Nat, s.heap.size ≤ q → A q := fun q h => by rw [hAe]; exact Or.inr h
  have hS : va_S A s.heap s.heap [] := va_S.rf
  have hP : va_P g.1 vwCl [(a_X, .inr (4, [.ref a_P, .ref a_X_levels, .ref a_E, .ref a_F, .ref a_R, .ref a_X_vector, .ref a_X_solution, .int X_solved, .int X_levelCount])), (a_F, .inr (1, [.int F_known, .int F_rows, .ref a_F_pivots, .ref a_F_reciprocals, .ref a_F_below])), (a_P, .inr (2, [.int P_rows, .ref a_P_entries, .ref a_P_order, .ref a_P_places, .ref a_P_rights, .ref a_P_weights])), (a_X_vector, .inl (g.2.1, 16, .inl X_vector)), (a_F_below, .inl (g.2.1, 256, .inl F_below)), (a_F_reciprocals, .inl (g.2.1, 16, .inl F_reciprocals)), (a_P_order, .inl (g.2.1, 16, .inl P_order)), (a_P_rights, .inl (g.2.1, 16, .inl P_rights)), (a_X_solution, .inl (g.2.1, 16, .inl X_solution))] s.heap := hP
  have hD : va_D A [(a_X, .inr (4, [.ref a_P, .ref a_X_levels, .ref a_E, .ref a_F, .ref a_R, .ref a_X_vector, .ref a_X_solution, .int X_solved, .int X_levelCount])), (a_F, .inr (1, [.int F_known, .int F_rows, .ref a_F_pivots, .ref a_F_reciprocals, .ref a_F_below])), (a_P, .inr (2, [.int P_rows, .ref a_P_entries, .ref a_P_order, .ref a_P_places, .ref a_P_rights, .ref a_P_weights])), (a_X_vector, .inl (g.2.1, 16, .inl X_vector)), (a_F_below, .inl (g.2.1, 256, .inl F_below)), (a_F_reciprocals, .inl (g.2.1, 16, .inl F_reciprocals)), (a_P_order, .inl (g.2.1, 16, .inl P_order)), (a_P_rights, .inl (g.2.1, 16, .inl P_rights)), (a_X_solution, .inl (g.2.1, 16, .inl X_solution))] := hD
  have hl := lv_entry ([.ref a_X]) (n := 4) (Nat.le_of_ble_eq_true rfl)
  rw [lg_entry_eq]
  generalize (lg_sl ([.ref a_X]) ++ List.replicate (4 - (lg_sl ([.ref a_X])).length) Slot.unset).toArray = ls at hl ⊢
  have hl : lv_has ls 4 [(0, .ref a_X)] := hl
  obtain ⟨G1, hG1⟩ : ∃ G : Int32 → Int32 → Int32 → (Nat → Int32) → (Nat → Int32) → Prop, G = (fun (x2 : Int32) (x1 : Int32) (v_X_solved : Int32) (v_X_vector : (Nat → Int32)) (v_X_solution : (Nat → Int32)) => ∀ (H : Heap) (locs : List Loc) (ls : Array Slot), va_P g.1 vwCl [(a_X, .inr (4, [.ref a_P, .ref a_X_levels, .ref a_E, .ref a_F, .ref a_R, .ref a_X_vector, .ref a_X_solution, .int v_X_solved, .int X_levelCount])), (a_F, .inr (1, [.int F_known, .int F_rows, .ref a_F_pivots, .ref a_F_reciprocals, .ref a_F_below])), (a_P, .inr (2, [.int P_rows, .ref a_P_entries, .ref a_P_order, .ref a_P_places, .ref a_P_rights, .ref a_P_weights])), (a_X_vector, .inl (g.2.1, 16, .inl v_X_vector)), (a_F_below, .inl (g.2.1, 256, .inl F_below)), (a_F_reciprocals, .inl (g.2.1, 16, .inl F_reciprocals)), (a_P_order, .inl (g.2.1, 16, .inl P_order)), (a_P_rights, .inl (g.2.1, 16, .inl P_rights)), (a_X_solution, .inl (g.2.1, 16, .inl v_X_solution))] H → va_D A [(a_X, .inr (4, [.ref a_P, .ref a_X_levels, .ref a_E, .ref a_F, .ref a_R, .ref a_X_vector, .ref a_X_solution, .int v_X_solved, .int X_levelCount])), (a_F, .inr (1, [.int F_known, .int F_rows, .ref a_F_pivots, .ref a_F_reciprocals, .ref a_F_below])), (a_P, .inr (2, [.int P_rows, .ref a_P_entries, .ref a_P_order, .ref a_P_places, .ref a_P_rights, .ref a_P_weights])), (a_X_vector, .inl (g.2.1, 16, .inl v_X_vector)), (a_F_below, .inl (g.2.1, 256, .inl F_below)), (a_F_reciprocals, .inl (g.2.1, 16, .inl F_reciprocals)), (a_P_order, .inl (g.2.1, 16, .inl P_order)), (a_P_rights, .inl (g.2.1, 16, .inl P_rights)), (a_X_solution, .inl (g.2.1, 16, .inl v_X_solution))] → va_S A s.heap H locs → lv_has ls 4 [(2, .int x2), (1, .int x1), (0, .ref a_X)] → W p l e (headSpec (Cond.code yX4_solve cX4_solve 4 (some .int) :: cx_T) ({ frames := 7, cells := 1, slots := 6, locals := 110 } : Room)).room s m ([.ref a_X] : List Value).toArray below meth c H locs 1 6 (vx_MQ below (va_Qi (fun (r : Int32) (u : Int32 × (Nat → Int32) × (Nat → Int32)) => Q r u.1 u.2.1 u.2.2) (cx_B g (w0_X4_solve g a_X a_P a_X_levels a_E a_F a_R a_X_vector a_X_solution a_F_pivots a_F_reciprocals a_F_below a_P_entries a_P_order a_P_places a_P_rights a_P_weights X_solved X_levelCount F_known F_rows P_rows X_vector F_below F_reciprocals P_order P_rights X_solution) s.heap.size (w1_X4_solve g a_X a_P a_X_levels a_E a_F a_R a_X_vector a_X_solution a_F_pivots a_F_reciprocals a_F_below a_P_entries a_P_order a_P_places a_P_rights a_P_weights X_solved X_levelCount F_known F_rows P_rows X_vector F_below F_reciprocals P_order P_rights X_solution)) (va_A (w0_X4_solve g a_X a_P a_X_levels a_E a_F a_R a_X_vector a_X_solution a_F_pivots a_F_reciprocals a_F_below a_P_entries a_P_order a_P_places a_P_rights a_P_weights X_solved X_levelCount F_known F_rows P_rows X_vector F_below F_reciprocals P_order P_rights X_solution) s.heap.size)) (cx_XC g (w0_X4_solve g a_X a_P a_X_levels a_E a_F a_R a_X_vector a_X_solution a_F_pivots a_F_reciprocals a_F_below a_P_entries a_P_order a_P_places a_P_rights a_P_weights X_solved X_levelCount F_known F_rows P_rows X_vector F_below F_reciprocals P_order P_rights X_solution) s.heap.size X) ([.ref a_X] : List Value).toArray s 1 6 (va_A (w0_X4_solve g a_X a_P a_X_levels a_E a_F a_R a_X_vector a_X_solution a_F_pivots a_F_reciprocals a_F_below a_P_entries a_P_order a_P_places a_P_rights a_P_weights X_solved X_levelCount F_known F_rows P_rows X_vector F_below F_reciprocals P_order P_rights X_solution) s.heap.size)) (F0 m 14 ls [])) := ⟨_, rfl⟩
  obtain ⟨G2, hG2⟩ : ∃ G : Int32 → Int32 → Int32 → Int32 → (Nat → Int32) → (Nat → Int32) → Prop, G = (fun (x3 : Int32) (x2 : Int32) (x1 : Int32) (v_X_solved : Int32) (v_X_vector : (Nat → Int32)) (v_X_solution : (Nat → Int32)) => ∀ (H : Heap) (locs : List Loc) (ls : Array Slot), va_P g.1 vwCl [(a_X, .inr (4, [.ref a_P, .ref a_X_levels, .ref a_E, .ref a_F, .ref a_R, .ref a_X_vector, .ref a_X_solution, .int v_X_solved, .int X_levelCount])), (a_F, .inr (1, [.int F_known, .int F_rows, .ref a_F_pivots, .ref a_F_reciprocals, .ref a_F_below])), (a_P, .inr (2, [.int P_rows, .ref a_P_entries, .ref a_P_order, .ref a_P_places, .ref a_P_rights, .ref a_P_weights])), (a_X_vector, .inl (g.2.1, 16, .inl v_X_vector)), (a_F_below, .inl (g.2.1, 256, .inl F_below)), (a_F_reciprocals, .inl (g.2.1, 16, .inl F_reciprocals)), (a_P_order, .inl (g.2.1, 16, .inl P_order)), (a_P_rights, .inl (g.2.1, 16, .inl P_rights)), (a_X_solution, .inl (g.2.1, 16, .inl v_X_solution))] H → va_D A [(a_X, .inr (4, [.ref a_P, .ref a_X_levels, .ref a_E, .ref a_F, .ref a_R, .ref a_X_vector, .ref a_X_solution, .int v_X_solved, .int X_levelCount])), (a_F, .inr (1, [.int F_known, .int F_rows, .ref a_F_pivots, .ref a_F_reciprocals, .ref a_F_below])), (a_P, .inr (2, [.int P_rows, .ref a_P_entries, .ref a_P_order, .ref a_P_places, .ref a_P_rights, .ref a_P_weights])), (a_X_vector, .inl (g.2.1, 16, .inl v_X_vector)), (a_F_below, .inl (g.2.1, 256, .inl F_below)), (a_F_reciprocals, .inl (g.2.1, 16, .inl F_reciprocals)), (a_P_order, .inl (g.2.1, 16, .inl P_order)), (a_P_rights, .inl (g.2.1, 16, .inl P_rights)), (a_X_solution, .inl (g.2.1, 16, .inl v_X_solution))] → va_S A s.heap H locs → lv_has ls 4 [(3, .int x3), (2, .int x2), (1, .int x1), (0, .ref a_X)] → W p l e (headSpec (Cond.code yX4_solve cX4_solve 4 (some .int) :: cx_T) ({ frames := 7, cells := 1, slots := 6, locals := 110 } : Room)).room s m ([.ref a_X] : List Value).toArray below meth c H locs 1 6 (vx_MQ below (va_Qi (fun (r : Int32) (u : Int32 × (Nat → Int32) × (Nat → Int32)) => Q r u.1 u.2.1 u.2.2) (cx_B g (w0_X4_solve g a_X a_P a_X_levels a_E a_F a_R a_X_vector a_X_solution a_F_pivots a_F_reciprocals a_F_below a_P_entries a_P_order a_P_places a_P_rights a_P_weights X_solved X_levelCount F_known F_rows P_rows X_vector F_below F_reciprocals P_order P_rights X_solution) s.heap.size (w1_X4_solve g a_X a_P a_X_levels a_E a_F a_R a_X_vector a_X_solution a_F_pivots a_F_reciprocals a_F_below a_P_entries a_P_order a_P_places a_P_rights a_P_weights X_solved X_levelCount F_known F_rows P_rows X_vector F_below F_reciprocals P_order P_rights X_solution)) (va_A (w0_X4_solve g a_X a_P a_X_levels a_E a_F a_R a_X_vector a_X_solution a_F_pivots a_F_reciprocals a_F_below a_P_entries a_P_order a_P_places a_P_rights a_P_weights X_solved X_levelCount F_known F_rows P_rows X_vector F_below F_reciprocals P_order P_rights X_solution) s.heap.size)) (cx_XC g (w0_X4_solve g a_X a_P a_X_levels a_E a_F a_R a_X_vector a_X_solution a_F_pivots a_F_reciprocals a_F_below a_P_entries a_P_order a_P_places a_P_rights a_P_weights X_solved X_levelCount F_known F_rows P_rows X_vector F_below F_reciprocals P_order P_rights X_solution) s.heap.size X) ([.ref a_X] : List Value).toArray s 1 6 (va_A (w0_X4_solve g a_X a_P a_X_levels a_E a_F a_R a_X_vector a_X_solution a_F_pivots a_F_reciprocals a_F_below a_P_entries a_P_order a_P_places a_P_rights a_P_weights X_solved X_levelCount F_known F_rows P_rows X_vector F_below F_reciprocals P_order P_rights X_solution) s.heap.size)) (F0 m 63 ls [])) := ⟨_, rfl⟩
  have hs1 : ∀ (x2 : Int32) (x1 : Int32) (v_X_solved : Int32) (v_X_vector : (Nat → Int32)) (v_X_solution : (Nat → Int32)), vc_X4_solve_1 X_solved X_levelCount F_known F_rows P_rows X_vector F_below F_reciprocals P_order P_rights X_solution Q X G1 G2 x2 x1 v_X_solved v_X_vector v_X_solution → G1 x2 x1 v_X_solved v_X_vector v_X_solution := by
    rw [hG1, hG2]
    intro x2 x1 v_X_solved v_X_vector v_X_solution hv H locs ls hP hD hS hl
    unfold vc_X4_solve_1 at hv
    refine lv_iload_n hx hb dX4_solve_14 rfl (lv_at hl 0 rfl) ?_
    refine lv_iload_n hx hb dX4_solve_15 rfl (lv_at hl 1 rfl) ?_
    refine lv_icmp_ge (tgt := 48) hx hb dX4_solve_16 (by decide) (fun hc => ?_) (fun hc => ?_)
    · replace hv := hv.1 hc
      refine lv_aload_n hx hb dX4_solve_48 rfl (lv_at hl 2 rfl) ?_
      refine va_get (D := g.1) (ci := 4) (v := .ref a_F) (C := RX4) (T := TX4) (N := 9) hx hb hts cw_in_X4 hown hK.1 hP 0 rfl rfl 3 (by decide) (hts _ cw_f_X4_30) (fun _ h9 => h9) rfl dX4_solve_49 ?_
      refine lv_aload_n hx hb dX4_solve_52 rfl (lv_at hl 2 rfl) ?_
      refine va_get (D := g.1) (ci := 4) (v := .ref a_X_vector) (C := RX4) (T := TX4) (N := 9) hx hb hts cw_in_X4 hown hK.1 hP 0 rfl rfl 5 (by decide) (hts _ cw_f_X4_41) (fun _ h9 => h9) rfl dX4_solve_53 ?_
      refine cx_vV (wr := [(a_X, .inr (4, [.ref a_P, .ref a_X_levels, .ref a_E, .ref a_F, .ref a_R, .ref a_X_vector, .ref a_X_solution, .int v_X_solved, .int X_levelCount])), (a_P, .inr (2, [.int P_rows, .ref a_P_entries, .ref a_P_order, .ref a_P_places, .ref a_P_rights, .ref a_P_weights])), (a_P_order, .inl (g.2.1, 16, .inl P_order)), (a_P_rights, .inl (g.2.1, 16, .inl P_rights)), (a_X_solution, .inl (g.2.1, 16, .inl v_X_solution))]) (As := [.ref a_X_vector]) (rest := []) ⟨hx, hb, hml, hown, hts⟩ (c_X1_resolve l g a_F a_X_vector a_F_pivots a_F_reciprocals a_F_below F_known F_rows v_X_vector F_below F_reciprocals hv) (cx_cwV 1 hts cw_m_X4_180 cw_i_X1_resolve cw_s_X1_resolve cw_n_X1 cw_c_X1_resolve rfl rfl (by decide +kernel) ⟨Nat.le_of_ble_eq_true rfl, Nat.le_of_ble_eq_true rfl⟩) hK hP hD hS hA 1 1 rfl rfl [1, 3, 4, 5] [0, 2, 6, 7, 8] rfl rfl rfl rfl (by decide) rfl hl.1 rfl (Nat.le_of_ble_eq_true rfl) dX4_solve_56 ⟨Nat.le_of_ble_eq_true rfl, Nat.le_of_ble_eq_true rfl⟩ (fun w_3 H locs hv hP hD hS => ?_)
      obtain ⟨u_2, rfl⟩ : ∃ z, z = w_3 := ⟨_, rfl⟩
      have hP : va_P g.1 vwCl [(a_X, .inr (4, [.ref a_P, .ref a_X_levels, .ref a_E, .ref a_F, .ref a_R, .ref a_X_vector, .ref a_X_solution, .int v_X_solved, .int X_levelCount])), (a_F, .inr (1, [.int F_known, .int F_rows, .ref a_F_pivots, .ref a_F_reciprocals, .ref a_F_below])), (a_P, .inr (2, [.int P_rows, .ref a_P_entries, .ref a_P_order, .ref a_P_places, .ref a_P_rights, .ref a_P_weights])), (a_X_vector, .inl (g.2.1, 16, .inl u_2)), (a_F_below, .inl (g.2.1, 256, .inl F_below)), (a_F_reciprocals, .inl (g.2.1, 16, .inl F_reciprocals)), (a_P_order, .inl (g.2.1, 16, .inl P_order)), (a_P_rights, .inl (g.2.1, 16, .inl P_rights)), (a_X_solution, .inl (g.2.1, 16, .inl v_X_solution))] H := hP.sub [0, 5, 1, 6, 7, 8, 2, 3, 4] rfl
      have hD : va_D A [(a_X, .inr (4, [.ref a_P, .ref a_X_levels, .ref a_E, .ref a_F, .ref a_R, .ref a_X_vector, .ref a_X_solution, .int v_X_solved, .int X_levelCount])), (a_F, .inr (1, [.int F_known, .int F_rows, .ref a_F_pivots, .ref a_F_reciprocals, .ref a_F_below])), (a_P, .inr (2, [.int P_rows, .ref a_P_entries, .ref a_P_order, .ref a_P_places, .ref a_P_rights, .ref a_P_weights])), (a_X_vector, .inl (g.2.1, 16, .inl u_2)), (a_F_below, .inl (g.2.1, 256, .inl F_below)), (a_F_reciprocals, .inl (g.2.1, 16, .inl F_reciprocals)), (a_P_order, .inl (g.2.1, 16, .inl P_order)), (a_P_rights, .inl (g.2.1, 16, .inl P_rights)), (a_X_solution, .inl (g.2.1, 16, .inl v_X_solution))] := hD.sub [0, 5, 1, 6, 7, 8, 2, 3, 4] (by decide) rfl
      refine lv_iconst (v := 0) hx hb dX4_solve_59 (by decide) ?_
      refine lv_istore_n (lv' := [(2, .int 0), (1, .int x1), (0, .ref a_X)]) hx hb dX4_solve_60 rfl hl (by decide) rfl (fun ls hl => ?_)
      refine lv_iconst (v := 0) hx hb dX4_solve_61 (by decide) ?_
      refine lv_istore_n (lv' := [(3, .int 0), (2, .int 0), (1, .int x1), (0, .ref a_X)]) hx hb dX4_solve_62 rfl hl (by decide) rfl (fun ls hl => ?_)
      exact hv _ _ _ hP hD hS (lv_sub hl [0, 1, 2, 3] rfl)
    · replace hv := hv.2 hc
      refine lv_aload_n hx hb dX4_solve_19 rfl (lv_at hl 2 rfl) ?_
      refine va_get (D := g.1) (ci := 4) (v := .ref a_X_vector) (C := RX4) (T := TX4) (N := 9) hx hb hts cw_in_X4 hown hK.1 hP 0 rfl rfl 5 (by decide) (hts _ cw_f_X4_41) (fun _ h9 => h9) rfl dX4_solve_20 ?_
      refine lv_iload_n hx hb dX4_solve_23 rfl (lv_at hl 0 rfl) ?_
      refine lv_aload_n hx hb dX4_solve_24 rfl (lv_at hl 2 rfl) ?_
      refine va_get (D := g.1) (ci := 4) (v := .ref a_P) (C := RX4) (T := TX4) (N := 9) hx hb hts cw_in_X4 hown hK.1 hP 0 rfl rfl 0 (by decide) (hts _ cw_f_X4_10) (fun _ h9 => h9) rfl dX4_solve_25 ?_
      refine va_get (D := g.1) (ci := 2) (v := .ref a_P_rights) (C := RX2) (T := TX2) (N := 6) hx hb hts cw_in_X2 hown hK.1 hP 2 rfl rfl 4 (by decide) (hts _ cw_f_X4_177) (fun _ h9 => h9) rfl dX4_solve_28 ?_
      refine lv_aload_n hx hb dX4_solve_31 rfl (lv_at hl 2 rfl) ?_
      refine va_get (D := g.1) (ci := 4) (v := .ref a_P) (C := RX4) (T := TX4) (N := 9) hx hb hts cw_in_X4 hown hK.1 hP 0 rfl rfl 0 (by decide) (hts _ cw_f_X4_10) (fun _ h9 => h9) rfl dX4_solve_32 ?_
      refine va_get (D := g.1) (ci := 2) (v := .ref a_P_order) (C := RX2) (T := TX2) (N := 6) hx hb hts cw_in_X2 hown hK.1 hP 2 rfl rfl 2 (by decide) (hts _ cw_f_X4_115) (fun _ h9 => h9) rfl dX4_solve_35 ?_
      refine lv_iload_n hx hb dX4_solve_38 rfl (lv_at hl 0 rfl) ?_
      obtain ⟨h_4, hv⟩ := hv
      refine va_iald (D := g.1) hx hb hK.1 hP 6 0 rfl rfl h_4 dX4_solve_39 ?_
      obtain ⟨h_5, hv⟩ := hv
      refine va_iald (D := g.1) hx hb hK.1 hP 7 0 rfl rfl h_5 dX4_solve_40 ?_
      obtain ⟨h_6, hv⟩ := hv
      refine va_iast (D := g.1) hx hb hK.1 hP hD hS 3 0 rfl rfl h_6 dX4_solve_41 (fun H locs hP hD hS => ?_)
      have hP : va_P g.1 vwCl [(a_X, .inr (4, [.ref a_P, .ref a_X_levels, .ref a_E, .ref a_F, .ref a_R, .ref a_X_vector, .ref a_X_solution, .int v_X_solved, .int X_levelCount])), (a_F, .inr (1, [.int F_known, .int F_rows, .ref a_F_pivots, .ref a_F_reciprocals, .ref a_F_below])), (a_P, .inr (2, [.int P_rows, .ref a_P_entries, .ref a_P_order, .ref a_P_places, .ref a_P_rights, .ref a_P_weights])), (a_X_vector, .inl (g.2.1, 16, .inl (upd v_X_vector (Int32.toNatClampNeg x2) (P_rights (Int32.toNatClampNeg (P_order (Int32.toNatClampNeg x2))))))), (a_F_below, .inl (g.2.1, 256, .inl F_below)), (a_F_reciprocals, .inl (g.2.1, 16, .inl F_reciprocals)), (a_P_order, .inl (g.2.1, 16, .inl P_order)), (a_P_rights, .inl (g.2.1, 16, .inl P_rights)), (a_X_solution, .inl (g.2.1, 16, .inl v_X_solution))] H := hP
      have hD : va_D A [(a_X, .inr (4, [.ref a_P, .ref a_X_levels, .ref a_E, .ref a_F, .ref a_R, .ref a_X_vector, .ref a_X_solution, .int v_X_solved, .int X_levelCount])), (a_F, .inr (1, [.int F_known, .int F_rows, .ref a_F_pivots, .ref a_F_reciprocals, .ref a_F_below])), (a_P, .inr (2, [.int P_rows, .ref a_P_entries, .ref a_P_order, .ref a_P_places, .ref a_P_rights, .ref a_P_weights])), (a_X_vector, .inl (g.2.1, 16, .inl (upd v_X_vector (Int32.toNatClampNeg x2) (P_rights (Int32.toNatClampNeg (P_order (Int32.toNatClampNeg x2))))))), (a_F_below, .inl (g.2.1, 256, .inl F_below)), (a_F_reciprocals, .inl (g.2.1, 16, .inl F_reciprocals)), (a_P_order, .inl (g.2.1, 16, .inl P_order)), (a_P_rights, .inl (g.2.1, 16, .inl P_rights)), (a_X_solution, .inl (g.2.1, 16, .inl v_X_solution))] := hD
      obtain ⟨x2_7, ex2_7⟩ : ∃ y : Int32, y = x2 + 1 := ⟨_, rfl⟩
      replace hv := hv x2_7 ex2_7
      refine lv_iinc (v := x2_7) (lv' := [(2, .int x2_7), (1, .int x1), (0, .ref a_X)]) hx hb dX4_solve_42 hl (k := 0) rfl (by rw [ex2_7]; rfl) (by decide) rfl (fun ls hl => ?_)
      refine lv_goto (tgt := 14) hx hb dX4_solve_45 (by decide) ?_
      exact hv _ _ _ hP hD hS (lv_sub hl [0, 1, 2] rfl)
  have hs2 : ∀ (x3 : Int32) (x2 : Int32) (x1 : Int32) (v_X_solved : Int32) (v_X_vector : (Nat → Int32)) (v_X_solution : (Nat → Int32)), vc_X4_solve_2 X_solved X_levelCount F_known F_rows P_rows X_vector F_below F_reciprocals P_order P_rights X_solution Q X G1 G2 x3 x2 x1 v_X_solved v_X_vector v_X_solution → G2 x3 x2 x1 v_X_solved v_X_vector v_X_solution := by
    rw [hG1, hG2]
    intro x3 x2 x1 v_X_solved v_X_vector v_X_solution hv H locs ls hP hD hS hl
    unfold vc_X4_solve_2 at hv
    refine lv_iload_n hx hb dX4_solve_63 rfl (lv_at hl 0 rfl) ?_
    refine lv_iload_n hx hb dX4_solve_64 rfl (lv_at hl 2 rfl) ?_
    refine lv_icmp_ge (tgt := 106) hx hb dX4_solve_65 (by decide) (fun hc => ?_) (fun hc => ?_)
    · replace hv := hv.1 hc
      refine lv_aload_n hx hb dX4_solve_106 rfl (lv_at hl 3 rfl) ?_
      refine lv_iconst (v := 1) hx hb dX4_solve_107 (by decide) ?_
      refine va_put (D := g.1) (ci := 4) (v := .int 1) (ty := .boolean) (C := RX4) (T := TX4) (N := 9) hx hb hts cw_in_X4 tyX4 tyX4_ok nmX4 hown hK.1 hP hD hS 0 rfl rfl 7 (by decide) (hts _ cw_f_X4_48) (fun _ h9 => h9) rfl (by decide +kernel) rfl rfl (Nat.le_of_ble_eq_true rfl) dX4_solve_108 (fun H locs hP hD hS => ?_)
      have hP : va_P g.1 vwCl [(a_X, .inr (4, [.ref a_P, .ref a_X_levels, .ref a_E, .ref a_F, .ref a_R, .ref a_X_vector, .ref a_X_solution, .int 1, .int X_levelCount])), (a_F, .inr (1, [.int F_known, .int F_rows, .ref a_F_pivots, .ref a_F_reciprocals, .ref a_F_below])), (a_P, .inr (2, [.int P_rows, .ref a_P_entries, .ref a_P_order, .ref a_P_places, .ref a_P_rights, .ref a_P_weights])), (a_X_vector, .inl (g.2.1, 16, .inl v_X_vector)), (a_F_below, .inl (g.2.1, 256, .inl F_below)), (a_F_reciprocals, .inl (g.2.1, 16, .inl F_reciprocals)), (a_P_order, .inl (g.2.1, 16, .inl P_order)), (a_P_rights, .inl (g.2.1, 16, .inl P_rights)), (a_X_solution, .inl (g.2.1, 16, .inl v_X_solution))] H := hP
      have hD : va_D A [(a_X, .inr (4, [.ref a_P, .ref a_X_levels, .ref a_E, .ref a_F, .ref a_R, .ref a_X_vector, .ref a_X_solution, .int 1, .int X_levelCount])), (a_F, .inr (1, [.int F_known, .int F_rows, .ref a_F_pivots, .ref a_F_reciprocals, .ref a_F_below])), (a_P, .inr (2, [.int P_rows, .ref a_P_entries, .ref a_P_order, .ref a_P_places, .ref a_P_rights, .ref a_P_weights])), (a_X_vector, .inl (g.2.1, 16, .inl v_X_vector)), (a_F_below, .inl (g.2.1, 256, .inl F_below)), (a_F_reciprocals, .inl (g.2.1, 16, .inl F_reciprocals)), (a_P_order, .inl (g.2.1, 16, .inl P_order)), (a_P_rights, .inl (g.2.1, 16, .inl P_rights)), (a_X_solution, .inl (g.2.1, 16, .inl v_X_solution))] := hD
      refine lv_iload_n hx hb dX4_solve_111 rfl (lv_at hl 1 rfl) ?_
      exact vx_ret (cx_iret hx hb hr hlocks hAe hS (1, v_X_vector, v_X_solution) hv hP hD dX4_solve_112)
    · replace hv := hv.2 hc
      refine lv_aload_n hx hb dX4_solve_68 rfl (lv_at hl 3 rfl) ?_
      refine va_get (D := g.1) (ci := 4) (v := .ref a_X_solution) (C := RX4) (T := TX4) (N := 9) hx hb hts cw_in_X4 hown hK.1 hP 0 rfl rfl 6 (by decide) (hts _ cw_f_X4_45) (fun _ h9 => h9) rfl dX4_solve_69 ?_
      refine lv_aload_n hx hb dX4_solve_72 rfl (lv_at hl 3 rfl) ?_
      refine va_get (D := g.1) (ci := 4) (v := .ref a_P) (C := RX4) (T := TX4) (N := 9) hx hb hts cw_in_X4 hown hK.1 hP 0 rfl rfl 0 (by decide) (hts _ cw_f_X4_10) (fun _ h9 => h9) rfl dX4_solve_73 ?_
      refine va_get (D := g.1) (ci := 2) (v := .ref a_P_order) (C := RX2) (T := TX2) (N := 6) hx hb hts cw_in_X2 hown hK.1 hP 2 rfl rfl 2 (by decide) (hts _ cw_f_X4_115) (fun _ h9 => h9) rfl dX4_solve_76 ?_
      refine lv_iload_n hx hb dX4_solve_79 rfl (lv_at hl 0 rfl) ?_
      obtain ⟨h_1, hv⟩ := hv
      refine va_iald (D := g.1) hx hb hK.1 hP 6 0 rfl rfl h_1 dX4_solve_80 ?_
      refine lv_aload_n hx hb dX4_solve_81 rfl (lv_at hl 3 rfl) ?_
      refine va_get (D := g.1) (ci := 4) (v := .ref a_X_vector) (C := RX4) (T := TX4) (N := 9) hx hb hts cw_in_X4 hown hK.1 hP 0 rfl rfl 5 (by decide) (hts _ cw_f_X4_41) (fun _ h9 => h9) rfl dX4_solve_82 ?_
      refine lv_iload_n hx hb dX4_solve_85 rfl (lv_at hl 0 rfl) ?_
      obtain ⟨h_2, hv⟩ := hv
      refine va_iald (D := g.1) hx hb hK.1 hP 3 0 rfl rfl h_2 dX4_solve_86 ?_
      obtain ⟨h_3, hv⟩ := hv
      refine va_iast (D := g.1) hx hb hK.1 hP hD hS 8 0 rfl rfl h_3 dX4_solve_87 (fun H locs hP hD hS => ?_)
      have hP : va_P g.1 vwCl [(a_X, .inr (4, [.ref a_P, .ref a_X_levels, .ref a_E, .ref a_F, .ref a_R, .ref a_X_vector, .ref a_X_solution, .int v_X_solved, .int X_levelCount])), (a_F, .inr (1, [.int F_known, .int F_rows, .ref a_F_pivots, .ref a_F_reciprocals, .ref a_F_below])), (a_P, .inr (2, [.int P_rows, .ref a_P_entries, .ref a_P_order, .ref a_P_places, .ref a_P_rights, .ref a_P_weights])), (a_X_vector, .inl (g.2.1, 16, .inl v_X_vector)), (a_F_below, .inl (g.2.1, 256, .inl F_below)), (a_F_reciprocals, .inl (g.2.1, 16, .inl F_reciprocals)), (a_P_order, .inl (g.2.1, 16, .inl P_order)), (a_P_rights, .inl (g.2.1, 16, .inl P_rights)), (a_X_solution, .inl (g.2.1, 16, .inl (upd v_X_solution (Int32.toNatClampNeg (P_order (Int32.toNatClampNeg x3))) (v_X_vector (Int32.toNatClampNeg x3)))))] H := hP
      have hD : va_D A [(a_X, .inr (4, [.ref a_P, .ref a_X_levels, .ref a_E, .ref a_F, .ref a_R, .ref a_X_vector, .ref a_X_solution, .int v_X_solved, .int X_levelCount])), (a_F, .inr (1, [.int F_known, .int F_rows, .ref a_F_pivots, .ref a_F_reciprocals, .ref a_F_below])), (a_P, .inr (2, [.int P_rows, .ref a_P_entries, .ref a_P_order, .ref a_P_places, .ref a_P_rights, .ref a_P_weights])), (a_X_vector, .inl (g.2.1, 16, .inl v_X_vector)), (a_F_below, .inl (g.2.1, 256, .inl F_below)), (a_F_reciprocals, .inl (g.2.1, 16, .inl F_reciprocals)), (a_P_order, .inl (g.2.1, 16, .inl P_order)), (a_P_rights, .inl (g.2.1, 16, .inl P_rights)), (a_X_solution, .inl (g.2.1, 16, .inl (upd v_X_solution (Int32.toNatClampNeg (P_order (Int32.toNatClampNeg x3))) (v_X_vector (Int32.toNatClampNeg x3)))))] := hD
      refine lv_aload_n hx hb dX4_solve_88 rfl (lv_at hl 3 rfl) ?_
      refine va_get (D := g.1) (ci := 4) (v := .ref a_X_vector) (C := RX4) (T := TX4) (N := 9) hx hb hts cw_in_X4 hown hK.1 hP 0 rfl rfl 5 (by decide) (hts _ cw_f_X4_41) (fun _ h9 => h9) rfl dX4_solve_89 ?_
      refine lv_iload_n hx hb dX4_solve_92 rfl (lv_at hl 0 rfl) ?_
      obtain ⟨h_4, hv⟩ := hv
      refine va_iald (D := g.1) hx hb hK.1 hP 3 0 rfl rfl h_4 dX4_solve_93 ?_
      refine lv_if_eq (tgt := 100) hx hb dX4_solve_94 (by decide) (fun hc => ?_) (fun hc => ?_)
      · replace hv := hv.1 hc
        obtain ⟨x3_5, ex3_5⟩ : ∃ y : Int32, y = x3 + 1 := ⟨_, rfl⟩
        replace hv := hv x3_5 ex3_5
        refine lv_iinc (v := x3_5) (lv' := [(3, .int x3_5), (2, .int x2), (1, .int x1), (0, .ref a_X)]) hx hb dX4_solve_100 hl (k := 0) rfl (by rw [ex3_5]; rfl) (by decide) rfl (fun ls hl => ?_)
        refine lv_goto (tgt := 63) hx hb dX4_solve_103 (by decide) ?_
        exact hv _ _ _ hP hD hS (lv_sub hl [0, 1, 2, 3] rfl)
      · replace hv := hv.2 hc
        obtain ⟨x2_6, ex2_6⟩ : ∃ y : Int32, y = x2 + 1 := ⟨_, rfl⟩
        replace hv := hv x2_6 ex2_6
        refine lv_iinc (v := x2_6) (lv' := [(2, .int x2_6), (3, .int x3), (1, .int x1), (0, .ref a_X)]) hx hb dX4_solve_97 hl (k := 1) rfl (by rw [ex2_6]; rfl) (by decide) rfl (fun ls hl => ?_)
        obtain ⟨x3_7, ex3_7⟩ : ∃ y : Int32, y = x3 + 1 := ⟨_, rfl⟩
        replace hv := hv x3_7 ex3_7
        refine lv_iinc (v := x3_7) (lv' := [(3, .int x3_7), (2, .int x2_6), (1, .int x1), (0, .ref a_X)]) hx hb dX4_solve_100 hl (k := 1) rfl (by rw [ex3_7]; rfl) (by decide) rfl (fun ls hl => ?_)
        refine lv_goto (tgt := 63) hx hb dX4_solve_103 (by decide) ?_
        exact hv _ _ _ hP hD hS (lv_sub hl [0, 1, 2, 3] rfl)
  replace hv := hv G1 G2 hs1 hs2
  rw [hG1, hG2] at hv
  unfold vc_X4_solve_0 at hv
  refine lv_aload_n hx hb dX4_solve_0 rfl (lv_at hl 0 rfl) ?_
  refine cx_vVp (As := []) (rest := []) ⟨hx, hb, hml, hown, hts⟩ (c_X4_needFactors l hlt g a_X a_P a_X_levels a_E a_F a_R a_X_vector a_X_solution a_F_pivots a_F_reciprocals a_F_below X_solved X_levelCount F_known F_rows hv) (cx_cwV 0 hts cw_m_X4_159 cw_i_X4_needFactors cw_s_X4_needFactors cw_n_X4 cw_c_X4_needFactors rfl rfl (by decide +kernel) ⟨Nat.le_of_ble_eq_true rfl, Nat.le_of_ble_eq_true rfl⟩) hK hKX hZ hAe htab hlocks hP hD hS hA 0 4 rfl rfl [0, 1] rfl rfl rfl hl.1 rfl (Nat.le_of_ble_eq_true rfl) dX4_solve_1 ⟨Nat.le_of_ble_eq_true rfl, Nat.le_of_ble_eq_true rfl⟩ (Nat.le_of_ble_eq_true rfl) (Nat.le_of_ble_eq_true rfl) (fun H locs hv hP hS => ?_)
  refine W.widen (k := 1) (n := 6) (Nat.le_of_ble_eq_true rfl) (Nat.le_of_ble_eq_true rfl) ?_
  refine lv_aload_n hx hb dX4_solve_4 rfl (lv_at hl 0 rfl) ?_
  refine va_get (D := g.1) (ci := 4) (v := .ref a_P) (C := RX4) (T := TX4) (N := 9) hx hb hts cw_in_X4 hown hK.1 hP 0 rfl rfl 0 (by decide) (hts _ cw_f_X4_10) (fun _ h9 => h9) rfl dX4_solve_5 ?_
  refine va_get (D := g.1) (ci := 2) (v := .int P_rows) (C := RX2) (T := TX2) (N := 6) hx hb hts cw_in_X2 hown hK.1 hP 2 rfl rfl 0 (by decide) (hts _ cw_f_X4_70) (fun _ h9 => h9) rfl dX4_solve_8 ?_
  refine lv_istore_n (lv' := [(1, .int P_rows), (0, .ref a_X)]) hx hb dX4_solve_11 rfl hl (by decide) rfl (fun ls hl => ?_)
  refine lv_iconst (v := 0) hx hb dX4_solve_12 (by decide) ?_
  refine lv_istore_n (lv' := [(2, .int 0), (1, .int P_rows), (0, .ref a_X)]) hx hb dX4_solve_13 rfl hl (by decide) rfl (fun ls hl => ?_)
  exact hv _ _ _ hP hD hS (lv_sub hl [0, 1, 2] rfl)
def vc_X4_inverse_0 (i_i : Int32) (i_j : Int32) (X_solved : Int32) (X_levelCount : Int32) (P_rows : Int32) (F_known : Int32) (F_rows : Int32) (X_vector : (Nat → Int32)) (F_below : (Nat → Int32)) (F_reciprocals : (Nat → Int32)) (P_places : (Nat → Int32)) (P_order : (Nat → Int32)) (Q : Int32 → (Nat → Int32) → Prop) (X : String → Prop) (G1 : Int32 → (Nat → Int32) → Prop)  : Prop := wp_X4_needRow i_i X_solved X_levelCount P_rows (wp_X4_needRow i_j X_solved X_levelCount P_rows (wp_X4_needFactors X_solved X_levelCount F_known F_rows (G1 0 X_vector) X) X) X
def vc_X4_inverse_1 (i_i : Int32) (i_j : Int32) (X_solved : Int32) (X_levelCount : Int32) (P_rows : Int32) (F_known : Int32) (F_rows : Int32) (X_vector : (Nat → Int32)) (F_below : (Nat → Int32)) (F_reciprocals : (Nat → Int32)) (P_places : (Nat → Int32)) (P_order : (Nat → Int32)) (Q : Int32 → (Nat → Int32) → Prop) (X : String → Prop) (G1 : Int32 → (Nat → Int32) → Prop) (x3 : Int32) (v_X_vector : (Nat → Int32)) : Prop := (P_rows ≤ x3 → (wp_X1_resolve F_known F_rows v_X_vector F_below F_reciprocals (fun u_2 => vp_in i_i 16 ∧ (vp_in (P_places (Int32.toNatClampNeg i_i)) 16 ∧ (Q (u_2 (Int32.toNatClampNeg (P_places (Int32.toNatClampNeg i_i)))) u_2))))) ∧ (¬ P_rows ≤ x3 → (vp_in x3 16 ∧ (((P_order (Int32.toNatClampNeg x3)) = i_j → (vp_in x3 16 ∧ (∀ x3_10 : Int32, x3_10 = x3 + 1 → (G1 x3_10 (upd v_X_vector (Int32.toNatClampNeg x3) 1))))) ∧ (¬ (P_order (Int32.toNatClampNeg x3)) = i_j → (vp_in x3 16 ∧ (∀ x3_8 : Int32, x3_8 = x3 + 1 → (G1 x3_8 (upd v_X_vector (Int32.toNatClampNeg x3) 0))))))))
def wp_X4_inverse (i_i : Int32) (i_j : Int32) (X_solved : Int32) (X_levelCount : Int32) (P_rows : Int32) (F_known : Int32) (F_rows : Int32) (X_vector : (Nat → Int32)) (F_below : (Nat → Int32)) (F_reciprocals : (Nat → Int32)) (P_places : (Nat → Int32)) (P_order : (Nat → Int32)) (Q : Int32 → (Nat → Int32) → Prop) (X : String → Prop) : Prop := ∀ (G1 : Int32 → (Nat → Int32) → Prop), (∀ (x3 : Int32) (v_X_vector : (Nat → Int32)), vc_X4_inverse_1 i_i i_j X_solved X_levelCount P_rows F_known F_rows X_vector F_below F_reciprocals P_places P_order Q X G1 x3 v_X_vector → G1 x3 v_X_vector) → vc_X4_inverse_0 i_i i_j X_solved X_levelCount P_rows F_known F_rows X_vector F_below F_reciprocals P_places P_order Q X G1
abbrev w0_X4_inverse (g : cx_G) (a_X a_P a_X_levels a_E a_F a_R a_X_vector a_X_solution a_P_entries a_P_order a_P_places a_P_rights a_P_weights a_F_pivots a_F_reciprocals a_F_below : Nat) (X_solved : Int32) (X_levelCount : Int32) (P_rows : Int32) (F_known : Int32) (F_rows : Int32) (X_vector : (Nat → Int32)) (F_below : (Nat → Int32)) (F_reciprocals : (Nat → Int32)) (P_places : (Nat → Int32)) (P_order : (Nat → Int32)) : va_W := [(a_X, .inr (4, [.ref a_P, .ref a_X_levels, .ref a_E, .ref a_F, .ref a_R, .ref a_X_vector, .ref a_X_solution, .int X_solved, .int X_levelCount])), (a_P, .inr (2, [.int P_rows, .ref a_P_entries, .ref a_P_order, .ref a_P_places, .ref a_P_rights, .ref a_P_weights])), (a_F, .inr (1, [.int F_known, .int F_rows, .ref a_F_pivots, .ref a_F_reciprocals, .ref a_F_below])), (a_X_vector, .inl (g.2.1, 16, .inl X_vector)), (a_F_below, .inl (g.2.1, 256, .inl F_below)), (a_F_reciprocals, .inl (g.2.1, 16, .inl F_reciprocals)), (a_P_places, .inl (g.2.1, 16, .inl P_places)), (a_P_order, .inl (g.2.1, 16, .inl P_order))]
abbrev w1_X4_inverse (g : cx_G) (a_X a_P a_X_levels a_E a_F a_R a_X_vector a_X_solution a_P_entries a_P_order a_P_places a_P_rights a_P_weights a_F_pivots a_F_reciprocals a_F_below : Nat) (X_solved : Int32) (X_levelCount : Int32) (P_rows : Int32) (F_known : Int32) (F_rows : Int32) (X_vector : (Nat → Int32)) (F_below : (Nat → Int32)) (F_reciprocals : (Nat → Int32)) (P_places : (Nat → Int32)) (P_order : (Nat → Int32)) (u : (Nat → Int32)) : va_W := [(a_X, .inr (4, [.ref a_P, .ref a_X_levels, .ref a_E, .ref a_F, .ref a_R, .ref a_X_vector, .ref a_X_solution, .int X_solved, .int X_levelCount])), (a_P, .inr (2, [.int P_rows, .ref a_P_entries, .ref a_P_order, .ref a_P_places, .ref a_P_rights, .ref a_P_weights])), (a_F, .inr (1, [.int F_known, .int F_rows, .ref a_F_pivots, .ref a_F_reciprocals, .ref a_F_below])), (a_X_vector, .inl (g.2.1, 16, .inl u)), (a_F_below, .inl (g.2.1, 256, .inl F_below)), (a_F_reciprocals, .inl (g.2.1, 16, .inl F_reciprocals)), (a_P_places, .inl (g.2.1, 16, .inl P_places)), (a_P_order, .inl (g.2.1, 16, .inl P_order))]
set_option maxHeartbeats 4000000 in
set_option maxRecDepth 100000 in
theorem c_X4_inverse (l : Launch) (hlt : l.stackTraces = false) (g : cx_G) (a_X a_P a_X_levels a_E a_F a_R a_X_vector a_X_solution a_P_entries a_P_order a_P_places a_P_rights a_P_weights a_F_pivots a_F_reciprocals a_F_below : Nat) (i_i : Int32) (i_j : Int32) (X_solved : Int32) (X_levelCount : Int32) (P_rows : Int32) (F_known : Int32) (F_rows : Int32) (X_vector : (Nat → Int32)) (F_below : (Nat → Int32)) (F_reciprocals : (Nat → Int32)) (P_places : (Nat → Int32)) (P_order : (Nat → Int32)) {Q : Int32 → (Nat → Int32) → Prop} {X : String → Prop} (hv : wp_X4_inverse i_i i_j X_solved X_levelCount P_rows F_known F_rows X_vector F_below F_reciprocals P_places P_order Q X) : cx_Ei l g yX4_inverse (Cond.code yX4_inverse cX4_inverse 4 (some .int) :: cx_T) ({ frames := 7, cells := 3, slots := 18, locals := 111 } : Room) [.ref a_X, .int i_i, .int i_j] (w0_X4_inverse g a_X a_P a_X_levels a_E a_F a_R a_X_vector a_X_solution a_P_entries a_P_order a_P_places a_P_rights a_P_weights a_F_pivots a_F_reciprocals a_F_below X_solved X_levelCount P_rows F_known F_rows X_vector F_below F_reciprocals P_places P_order) (fun (r : Int32) (u : (Nat → Int32)) => Q r u) (w1_X4_inverse g a_X a_P a_X_levels a_E a_F a_R a_X_vector a_X_solution a_P_entries a_P_order a_P_places a_P_rights a_P_weights a_F_pivots a_F_reciprocals a_F_below X_solved X_levelCount P_rows F_known F_rows X_vector F_below F_reciprocals P_places P_order) X 3 18 := by
  intro sz
  refine vx_ofW (cc := cX4_inverse) (maxL := 4) (ret := (some .int)) (by decide) rfl ?_
  intro p e s m args below meth c s₁ B hml htab hpre
  obtain ⟨rfl, hsz, hP, hK, hD0, hKX, hZ⟩ := hpre
  have hx := B.exec
  have hb := B.bytes
  have hr := B.returns
  have hts0 := atoms_spec (ws := (Cond.code yX4_inverse cX4_inverse 4 (some .int) :: cx_T)) B.pre
  have hts : ∀ w ∈ cx_T, w.before _ s = true := fun w h => hts0 w (List.mem_cons_of_mem _ h)
  have hown : s.vm.findClass RX4 = some m.cls := findClass_of_methodNamed B.named
  have hlocks := B.notSynchronized
  subst hsz
  have hD := hD0.self (sz := s.heap.size)
  obtain ⟨A, hAe⟩ : ∃ A : Nat → Prop, A = va_A (w0_X4_inverse g a_X a_P a_X_levels a_E a_F a_R a_X_vector a_X_solution a_P_entries a_P_order a_P_places a_P_rights a_P_weights a_F_pivots a_F_reciprocals a_F_below X_solved X_levelCount P_rows F_known F_rows X_vector F_below F_reciprocals P_places P_order) s.heap.size := ⟨_, rfl⟩
  rw [← hAe] at hD hZ
  have hA : ∀ q : Nat, s.heap.size ≤ q → A q := fun q h => by rw [hAe]; exact Or.inr h
  have hS : va_S A s.heap s.heap [] := va_S.rf
  have hP : va_P g.1 vwCl [(a_X, .inr (4, [.ref a_P, .ref a_X_levels, .ref a_E, .ref a_F, .ref a_R, .ref a_X_vector, .ref a_X_solution, .int X_solved, .int X_levelCount])), (a_P, .inr (2, [.int P_rows, .ref a_P_entries, .ref a_P_order, .ref a_P_places, .ref a_P_rights, .ref a_P_weights])), (a_F, .inr (1, [.int F_known, .int F_rows, .ref a_F_pivots, .ref a_F_reciprocals, .ref a_F_below])), (a_X_vector, .inl (g.2.1, 16, .inl X_vector)), (a_F_below, .inl (g.2.1, 256, .inl F_below)), (a_F_reciprocals, .inl (g.2.1, 16, .inl F_reciprocals)), (a_P_places, .inl (g.2.1, 16, .inl P_places)), (a_P_order, .inl (g.2.1, 16, .inl P_order))] s.heap := hP
  have hD : va_D A [(a_X, .inr (4, [.ref a_P, .ref a_X_levels, .ref a_E, .ref a_F, .ref a_R, .ref a_X_vector, .ref a_X_solution, .int X_solved, .int X_levelCount])), (a_P, .inr (2, [.int P_rows, .ref a_P_entries, .ref a_P_order, .ref a_P_places, .ref a_P_rights, .ref a_P_weights])), (a_F, .inr (1, [.int F_known, .int F_rows, .ref a_F_pivots, .ref a_F_reciprocals, .ref a_F_below])), (a_X_vector, .inl (g.2.1, 16, .inl X_vector)), (a_F_below, .inl (g.2.1, 256, .inl F_below)), (a_F_reciprocals, .inl (g.2.1, 16, .inl F_reciprocals)), (a_P_places, .inl (g.2.1, 16, .inl P_places)), (a_P_order, .inl (g.2.1, 16, .inl P_order))] := hD
  have hl := lv_entry ([.ref a_X, .int i_i, .int i_j]) (n := 4) (Nat.le_of_ble_eq_true rfl)
  rw [lg_entry_eq]
  generalize (lg_sl ([.ref a_X, .int i_i, .int i_j]) ++ List.replicate (4 - (lg_sl ([.ref a_X, .int i_i, .int i_j])).length) Slot.unset).toArray = ls at hl ⊢
  have hl : lv_has ls 4 [(0, .ref a_X), (1, .int i_i), (2, .int i_j)] := hl
  obtain ⟨G1, hG1⟩ : ∃ G : Int32 → (Nat → Int32) → Prop, G = (fun (x3 : Int32) (v_X_vector : (Nat → Int32)) => ∀ (H : Heap) (locs : List Loc) (ls : Array Slot), va_P g.1 vwCl [(a_X, .inr (4, [.ref a_P, .ref a_X_levels, .ref a_E, .ref a_F, .ref a_R, .ref a_X_vector, .ref a_X_solution, .int X_solved, .int X_levelCount])), (a_P, .inr (2, [.int P_rows, .ref a_P_entries, .ref a_P_order, .ref a_P_places, .ref a_P_rights, .ref a_P_weights])), (a_F, .inr (1, [.int F_known, .int F_rows, .ref a_F_pivots, .ref a_F_reciprocals, .ref a_F_below])), (a_X_vector, .inl (g.2.1, 16, .inl v_X_vector)), (a_F_below, .inl (g.2.1, 256, .inl F_below)), (a_F_reciprocals, .inl (g.2.1, 16, .inl F_reciprocals)), (a_P_places, .inl (g.2.1, 16, .inl P_places)), (a_P_order, .inl (g.2.1, 16, .inl P_order))] H → va_D A [(a_X, .inr (4, [.ref a_P, .ref a_X_levels, .ref a_E, .ref a_F, .ref a_R, .ref a_X_vector, .ref a_X_solution, .int X_solved, .int X_levelCount])), (a_P, .inr (2, [.int P_rows, .ref a_P_entries, .ref a_P_order, .ref a_P_places, .ref a_P_rights, .ref a_P_weights])), (a_F, .inr (1, [.int F_known, .int F_rows, .ref a_F_pivots, .ref a_F_reciprocals, .ref a_F_below])), (a_X_vector, .inl (g.2.1, 16, .inl v_X_vector)), (a_F_below, .inl (g.2.1, 256, .inl F_below)), (a_F_reciprocals, .inl (g.2.1, 16, .inl F_reciprocals)), (a_P_places, .inl (g.2.1, 16, .inl P_places)), (a_P_order, .inl (g.2.1, 16, .inl P_order))] → va_S A s.heap H locs → lv_has ls 4 [(3, .int x3), (0, .ref a_X), (1, .int i_i), (2, .int i_j)] → W p l e (headSpec (Cond.code yX4_inverse cX4_inverse 4 (some .int) :: cx_T) ({ frames := 7, cells := 3, slots := 18, locals := 111 } : Room)).room s m ([.ref a_X, .int i_i, .int i_j] : List Value).toArray below meth c H locs 3 18 (vx_MQ below (va_Qi (fun (r : Int32) (u : (Nat → Int32)) => Q r u) (cx_B g (w0_X4_inverse g a_X a_P a_X_levels a_E a_F a_R a_X_vector a_X_solution a_P_entries a_P_order a_P_places a_P_rights a_P_weights a_F_pivots a_F_reciprocals a_F_below X_solved X_levelCount P_rows F_known F_rows X_vector F_below F_reciprocals P_places P_order) s.heap.size (w1_X4_inverse g a_X a_P a_X_levels a_E a_F a_R a_X_vector a_X_solution a_P_entries a_P_order a_P_places a_P_rights a_P_weights a_F_pivots a_F_reciprocals a_F_below X_solved X_levelCount P_rows F_known F_rows X_vector F_below F_reciprocals P_places P_order)) (va_A (w0_X4_inverse g a_X a_P a_X_levels a_E a_F a_R a_X_vector a_X_solution a_P_entries a_P_order a_P_places a_P_rights a_P_weights a_F_pivots a_F_reciprocals a_F_below X_solved X_levelCount P_rows F_known F_rows X_vector F_below F_reciprocals P_places P_order) s.heap.size)) (cx_XC g (w0_X4_inverse g a_X a_P a_X_levels a_E a_F a_R a_X_vector a_X_solution a_P_entries a_P_order a_P_places a_P_rights a_P_weights a_F_pivots a_F_reciprocals a_F_below X_solved X_levelCount P_rows F_known F_rows X_vector F_below F_reciprocals P_places P_order) s.heap.size X) ([.ref a_X, .int i_i, .int i_j] : List Value).toArray s 3 18 (va_A (w0_X4_inverse g a_X a_P a_X_levels a_E a_F a_R a_X_vector a_X_solution a_P_entries a_P_order a_P_places a_P_rights a_P_weights a_F_pivots a_F_reciprocals a_F_below X_solved X_levelCount P_rows F_known F_rows X_vector F_below F_reciprocals P_places P_order) s.heap.size)) (F0 m 16 ls [])) := ⟨_, rfl⟩
  have hs1 : ∀ (x3 : Int32) (v_X_vector : (Nat → Int32)), vc_X4_inverse_1 i_i i_j X_solved X_levelCount P_rows F_known F_rows X_vector F_below F_reciprocals P_places P_order Q X G1 x3 v_X_vector → G1 x3 v_X_vector := by
    rw [hG1]
    intro x3 v_X_vector hv H locs ls hP hD hS hl
    unfold vc_X4_inverse_1 at hv
    refine lv_iload_n hx hb dX4_inverse_16 rfl (lv_at hl 0 rfl) ?_
    refine lv_aload_n hx hb dX4_inverse_17 rfl (lv_at hl 1 rfl) ?_
    refine va_get (D := g.1) (ci := 4) (v := .ref a_P) (C := RX4) (T := TX4) (N := 9) hx hb hts cw_in_X4 hown hK.1 hP 0 rfl rfl 0 (by decide) (hts _ cw_f_X4_10) (fun _ h9 => h9) rfl dX4_inverse_18 ?_
    refine va_get (D := g.1) (ci := 2) (v := .int P_rows) (C := RX2) (T := TX2) (N := 6) hx hb hts cw_in_X2 hown hK.1 hP 1 rfl rfl 0 (by decide) (hts _ cw_f_X4_70) (fun _ h9 => h9) rfl dX4_inverse_21 ?_
    refine lv_icmp_ge (tgt := 57) hx hb dX4_inverse_24 (by decide) (fun hc => ?_) (fun hc => ?_)
    · replace hv := hv.1 hc
      refine lv_aload_n hx hb dX4_inverse_57 rfl (lv_at hl 1 rfl) ?_
      refine va_get (D := g.1) (ci := 4) (v := .ref a_F) (C := RX4) (T := TX4) (N := 9) hx hb hts cw_in_X4 hown hK.1 hP 0 rfl rfl 3 (by decide) (hts _ cw_f_X4_30) (fun _ h9 => h9) rfl dX4_inverse_58 ?_
      refine lv_aload_n hx hb dX4_inverse_61 rfl (lv_at hl 1 rfl) ?_
      refine va_get (D := g.1) (ci := 4) (v := .ref a_X_vector) (C := RX4) (T := TX4) (N := 9) hx hb hts cw_in_X4 hown hK.1 hP 0 rfl rfl 5 (by decide) (hts _ cw_f_X4_41) (fun _ h9 => h9) rfl dX4_inverse_62 ?_
      refine cx_vV (wr := [(a_X, .inr (4, [.ref a_P, .ref a_X_levels, .ref a_E, .ref a_F, .ref a_R, .ref a_X_vector, .ref a_X_solution, .int X_solved, .int X_levelCount])), (a_P, .inr (2, [.int P_rows, .ref a_P_entries, .ref a_P_order, .ref a_P_places, .ref a_P_rights, .ref a_P_weights])), (a_P_places, .inl (g.2.1, 16, .inl P_places)), (a_P_order, .inl (g.2.1, 16, .inl P_order))]) (As := [.ref a_X_vector]) (rest := []) ⟨hx, hb, hml, hown, hts⟩ (c_X1_resolve l g a_F a_X_vector a_F_pivots a_F_reciprocals a_F_below F_known F_rows v_X_vector F_below F_reciprocals hv) (cx_cwV 1 hts cw_m_X4_180 cw_i_X1_resolve cw_s_X1_resolve cw_n_X1 cw_c_X1_resolve rfl rfl (by decide +kernel) ⟨Nat.le_of_ble_eq_true rfl, Nat.le_of_ble_eq_true rfl⟩) hK hP hD hS hA 2 1 rfl rfl [2, 3, 4, 5] [0, 1, 6, 7] rfl rfl rfl rfl (by decide) rfl hl.1 rfl (Nat.le_of_ble_eq_true rfl) dX4_inverse_65 ⟨Nat.le_of_ble_eq_true rfl, Nat.le_of_ble_eq_true rfl⟩ (fun w_3 H locs hv hP hD hS => ?_)
      obtain ⟨u_2, rfl⟩ : ∃ z, z = w_3 := ⟨_, rfl⟩
      have hP : va_P g.1 vwCl [(a_X, .inr (4, [.ref a_P, .ref a_X_levels, .ref a_E, .ref a_F, .ref a_R, .ref a_X_vector, .ref a_X_solution, .int X_solved, .int X_levelCount])), (a_P, .inr (2, [.int P_rows, .ref a_P_entries, .ref a_P_order, .ref a_P_places, .ref a_P_rights, .ref a_P_weights])), (a_F, .inr (1, [.int F_known, .int F_rows, .ref a_F_pivots, .ref a_F_reciprocals, .ref a_F_below])), (a_X_vector, .inl (g.2.1, 16, .inl u_2)), (a_F_below, .inl (g.2.1, 256, .inl F_below)), (a_F_reciprocals, .inl (g.2.1, 16, .inl F_reciprocals)), (a_P_places, .inl (g.2.1, 16, .inl P_places)), (a_P_order, .inl (g.2.1, 16, .inl P_order))] H := hP.sub [0, 1, 4, 5, 6, 7, 2, 3] rfl
      have hD : va_D A [(a_X, .inr (4, [.ref a_P, .ref a_X_levels, .ref a_E, .ref a_F, .ref a_R, .ref a_X_vector, .ref a_X_solution, .int X_solved, .int X_levelCount])), (a_P, .inr (2, [.int P_rows, .ref a_P_entries, .ref a_P_order, .ref a_P_places, .ref a_P_rights, .ref a_P_weights])), (a_F, .inr (1, [.int F_known, .int F_rows, .ref a_F_pivots, .ref a_F_reciprocals, .ref a_F_below])), (a_X_vector, .inl (g.2.1, 16, .inl u_2)), (a_F_below, .inl (g.2.1, 256, .inl F_below)), (a_F_reciprocals, .inl (g.2.1, 16, .inl F_reciprocals)), (a_P_places, .inl (g.2.1, 16, .inl P_places)), (a_P_order, .inl (g.2.1, 16, .inl P_order))] := hD.sub [0, 1, 4, 5, 6, 7, 2, 3] (by decide) rfl
      refine lv_aload_n hx hb dX4_inverse_68 rfl (lv_at hl 1 rfl) ?_
      refine va_get (D := g.1) (ci := 4) (v := .ref a_X_vector) (C := RX4) (T := TX4) (N := 9) hx hb hts cw_in_X4 hown hK.1 hP 0 rfl rfl 5 (by decide) (hts _ cw_f_X4_41) (fun _ h9 => h9) rfl dX4_inverse_69 ?_
      refine lv_aload_n hx hb dX4_inverse_72 rfl (lv_at hl 1 rfl) ?_
      refine va_get (D := g.1) (ci := 4) (v := .ref a_P) (C := RX4) (T := TX4) (N := 9) hx hb hts cw_in_X4 hown hK.1 hP 0 rfl rfl 0 (by decide) (hts _ cw_f_X4_10) (fun _ h9 => h9) rfl dX4_inverse_73 ?_
      refine va_get (D := g.1) (ci := 2) (v := .ref a_P_places) (C := RX2) (T := TX2) (N := 6) hx hb hts cw_in_X2 hown hK.1 hP 1 rfl rfl 3 (by decide) (hts _ cw_f_X4_112) (fun _ h9 => h9) rfl dX4_inverse_76 ?_
      refine lv_iload_n hx hb dX4_inverse_79 rfl (lv_at hl 2 rfl) ?_
      obtain ⟨h_4, hv⟩ := hv
      refine va_iald (D := g.1) hx hb hK.1 hP 6 0 rfl rfl h_4 dX4_inverse_80 ?_
      obtain ⟨h_5, hv⟩ := hv
      refine va_iald (D := g.1) hx hb hK.1 hP 3 0 rfl rfl h_5 dX4_inverse_81 ?_
      exact vx_ret (cx_iret hx hb hr hlocks hAe hS u_2 hv hP hD dX4_inverse_82)
    · replace hv := hv.2 hc
      refine lv_aload_n hx hb dX4_inverse_27 rfl (lv_at hl 1 rfl) ?_
      refine va_get (D := g.1) (ci := 4) (v := .ref a_X_vector) (C := RX4) (T := TX4) (N := 9) hx hb hts cw_in_X4 hown hK.1 hP 0 rfl rfl 5 (by decide) (hts _ cw_f_X4_41) (fun _ h9 => h9) rfl dX4_inverse_28 ?_
      refine lv_iload_n hx hb dX4_inverse_31 rfl (lv_at hl 0 rfl) ?_
      refine lv_aload_n hx hb dX4_inverse_32 rfl (lv_at hl 1 rfl) ?_
      refine va_get (D := g.1) (ci := 4) (v := .ref a_P) (C := RX4) (T := TX4) (N := 9) hx hb hts cw_in_X4 hown hK.1 hP 0 rfl rfl 0 (by decide) (hts _ cw_f_X4_10) (fun _ h9 => h9) rfl dX4_inverse_33 ?_
      refine va_get (D := g.1) (ci := 2) (v := .ref a_P_order) (C := RX2) (T := TX2) (N := 6) hx hb hts cw_in_X2 hown hK.1 hP 1 rfl rfl 2 (by decide) (hts _ cw_f_X4_115) (fun _ h9 => h9) rfl dX4_inverse_36 ?_
      refine lv_iload_n hx hb dX4_inverse_39 rfl (lv_at hl 0 rfl) ?_
      obtain ⟨h_6, hv⟩ := hv
      refine va_iald (D := g.1) hx hb hK.1 hP 7 0 rfl rfl h_6 dX4_inverse_40 ?_
      refine lv_iload_n hx hb dX4_inverse_41 rfl (lv_at hl 3 rfl) ?_
      refine lv_icmp_ne (tgt := 49) hx hb dX4_inverse_42 (by decide) (fun hc => ?_) (fun hc => ?_)
      · replace hv := hv.2 hc
        refine lv_iconst (v := 0) hx hb dX4_inverse_49 (by decide) ?_
        obtain ⟨h_7, hv⟩ := hv
        refine va_iast (D := g.1) hx hb hK.1 hP hD hS 3 0 rfl rfl h_7 dX4_inverse_50 (fun H locs hP hD hS => ?_)
        have hP : va_P g.1 vwCl [(a_X, .inr (4, [.ref a_P, .ref a_X_levels, .ref a_E, .ref a_F, .ref a_R, .ref a_X_vector, .ref a_X_solution, .int X_solved, .int X_levelCount])), (a_P, .inr (2, [.int P_rows, .ref a_P_entries, .ref a_P_order, .ref a_P_places, .ref a_P_rights, .ref a_P_weights])), (a_F, .inr (1, [.int F_known, .int F_rows, .ref a_F_pivots, .ref a_F_reciprocals, .ref a_F_below])), (a_X_vector, .inl (g.2.1, 16, .inl (upd v_X_vector (Int32.toNatClampNeg x3) 0))), (a_F_below, .inl (g.2.1, 256, .inl F_below)), (a_F_reciprocals, .inl (g.2.1, 16, .inl F_reciprocals)), (a_P_places, .inl (g.2.1, 16, .inl P_places)), (a_P_order, .inl (g.2.1, 16, .inl P_order))] H := hP
        have hD : va_D A [(a_X, .inr (4, [.ref a_P, .ref a_X_levels, .ref a_E, .ref a_F, .ref a_R, .ref a_X_vector, .ref a_X_solution, .int X_solved, .int X_levelCount])), (a_P, .inr (2, [.int P_rows, .ref a_P_entries, .ref a_P_order, .ref a_P_places, .ref a_P_rights, .ref a_P_weights])), (a_F, .inr (1, [.int F_known, .int F_rows, .ref a_F_pivots, .ref a_F_reciprocals, .ref a_F_below])), (a_X_vector, .inl (g.2.1, 16, .inl (upd v_X_vector (Int32.toNatClampNeg x3) 0))), (a_F_below, .inl (g.2.1, 256, .inl F_below)), (a_F_reciprocals, .inl (g.2.1, 16, .inl F_reciprocals)), (a_P_places, .inl (g.2.1, 16, .inl P_places)), (a_P_order, .inl (g.2.1, 16, .inl P_order))] := hD
        obtain ⟨x3_8, ex3_8⟩ : ∃ y : Int32, y = x3 + 1 := ⟨_, rfl⟩
        replace hv := hv x3_8 ex3_8
        refine lv_iinc (v := x3_8) (lv' := [(3, .int x3_8), (0, .ref a_X), (1, .int i_i), (2, .int i_j)]) hx hb dX4_inverse_51 hl (k := 0) rfl (by rw [ex3_8]; rfl) (by decide) rfl (fun ls hl => ?_)
        refine lv_goto (tgt := 16) hx hb dX4_inverse_54 (by decide) ?_
        exact hv _ _ _ hP hD hS (lv_sub hl [0, 1, 2, 3] rfl)
      · replace hv := hv.1 hc
        refine lv_iconst (v := 1) hx hb dX4_inverse_45 (by decide) ?_
        refine lv_goto (tgt := 50) hx hb dX4_inverse_46 (by decide) ?_
        obtain ⟨h_9, hv⟩ := hv
        refine va_iast (D := g.1) hx hb hK.1 hP hD hS 3 0 rfl rfl h_9 dX4_inverse_50 (fun H locs hP hD hS => ?_)
        have hP : va_P g.1 vwCl [(a_X, .inr (4, [.ref a_P, .ref a_X_levels, .ref a_E, .ref a_F, .ref a_R, .ref a_X_vector, .ref a_X_solution, .int X_solved, .int X_levelCount])), (a_P, .inr (2, [.int P_rows, .ref a_P_entries, .ref a_P_order, .ref a_P_places, .ref a_P_rights, .ref a_P_weights])), (a_F, .inr (1, [.int F_known, .int F_rows, .ref a_F_pivots, .ref a_F_reciprocals, .ref a_F_below])), (a_X_vector, .inl (g.2.1, 16, .inl (upd v_X_vector (Int32.toNatClampNeg x3) 1))), (a_F_below, .inl (g.2.1, 256, .inl F_below)), (a_F_reciprocals, .inl (g.2.1, 16, .inl F_reciprocals)), (a_P_places, .inl (g.2.1, 16, .inl P_places)), (a_P_order, .inl (g.2.1, 16, .inl P_order))] H := hP
        have hD : va_D A [(a_X, .inr (4, [.ref a_P, .ref a_X_levels, .ref a_E, .ref a_F, .ref a_R, .ref a_X_vector, .ref a_X_solution, .int X_solved, .int X_levelCount])), (a_P, .inr (2, [.int P_rows, .ref a_P_entries, .ref a_P_order, .ref a_P_places, .ref a_P_rights, .ref a_P_weights])), (a_F, .inr (1, [.int F_known, .int F_rows, .ref a_F_pivots, .ref a_F_reciprocals, .ref a_F_below])), (a_X_vector, .inl (g.2.1, 16, .inl (upd v_X_vector (Int32.toNatClampNeg x3) 1))), (a_F_below, .inl (g.2.1, 256, .inl F_below)), (a_F_reciprocals, .inl (g.2.1, 16, .inl F_reciprocals)), (a_P_places, .inl (g.2.1, 16, .inl P_places)), (a_P_order, .inl (g.2.1, 16, .inl P_order))] := hD
        obtain ⟨x3_10, ex3_10⟩ : ∃ y : Int32, y = x3 + 1 := ⟨_, rfl⟩
        replace hv := hv x3_10 ex3_10
        refine lv_iinc (v := x3_10) (lv' := [(3, .int x3_10), (0, .ref a_X), (1, .int i_i), (2, .int i_j)]) hx hb dX4_inverse_51 hl (k := 0) rfl (by rw [ex3_10]; rfl) (by decide) rfl (fun ls hl => ?_)
        refine lv_goto (tgt := 16) hx hb dX4_inverse_54 (by decide) ?_
        exact hv _ _ _ hP hD hS (lv_sub hl [0, 1, 2, 3] rfl)
  replace hv := hv G1 hs1
  rw [hG1] at hv
  unfold vc_X4_inverse_0 at hv
  refine lv_aload_n hx hb dX4_inverse_0 rfl (lv_at hl 0 rfl) ?_
  refine lv_iload_n hx hb dX4_inverse_1 rfl (lv_at hl 1 rfl) ?_
  refine cx_vVp (As := [.int i_i]) (rest := []) ⟨hx, hb, hml, hown, hts⟩ (c_X4_needRow l hlt g a_X a_P a_X_levels a_E a_F a_R a_X_vector a_X_solution a_P_entries a_P_order a_P_places a_P_rights a_P_weights i_i X_solved X_levelCount P_rows hv) (cx_cwV 1 hts cw_m_X4_73 cw_i_X4_needRow cw_s_X4_needRow cw_n_X4 cw_c_X4_needRow rfl rfl (by decide +kernel) ⟨Nat.le_of_ble_eq_true rfl, Nat.le_of_ble_eq_true rfl⟩) hK hKX hZ hAe htab hlocks hP hD hS hA 0 4 rfl rfl [0, 1] rfl rfl rfl hl.1 rfl (Nat.le_of_ble_eq_true rfl) dX4_inverse_2 ⟨Nat.le_of_ble_eq_true rfl, Nat.le_of_ble_eq_true rfl⟩ (Nat.le_of_ble_eq_true rfl) (Nat.le_of_ble_eq_true rfl) (fun H locs hv hP hS => ?_)
  refine W.widen (k := 1) (n := 6) (Nat.le_of_ble_eq_true rfl) (Nat.le_of_ble_eq_true rfl) ?_
  refine lv_aload_n hx hb dX4_inverse_5 rfl (lv_at hl 0 rfl) ?_
  refine lv_iload_n hx hb dX4_inverse_6 rfl (lv_at hl 2 rfl) ?_
  refine cx_vVp (As := [.int i_j]) (rest := []) ⟨hx, hb, hml, hown, hts⟩ (c_X4_needRow l hlt g a_X a_P a_X_levels a_E a_F a_R a_X_vector a_X_solution a_P_entries a_P_order a_P_places a_P_rights a_P_weights i_j X_solved X_levelCount P_rows hv) (cx_cwV 1 hts cw_m_X4_73 cw_i_X4_needRow cw_s_X4_needRow cw_n_X4 cw_c_X4_needRow rfl rfl (by decide +kernel) ⟨Nat.le_of_ble_eq_true rfl, Nat.le_of_ble_eq_true rfl⟩) hK hKX hZ hAe htab hlocks hP hD hS hA 0 4 rfl rfl [0, 1] rfl rfl rfl hl.1 rfl (Nat.le_of_ble_eq_true rfl) dX4_inverse_7 ⟨Nat.le_of_ble_eq_true rfl, Nat.le_of_ble_eq_true rfl⟩ (Nat.le_of_ble_eq_true rfl) (Nat.le_of_ble_eq_true rfl) (fun H locs hv hP hS => ?_)
  refine W.widen (k := 2) (n := 12) (Nat.le_of_ble_eq_true rfl) (Nat.le_of_ble_eq_true rfl) ?_
  refine lv_aload_n hx hb dX4_inverse_10 rfl (lv_at hl 0 rfl) ?_
  refine cx_vVp (As := []) (rest := []) ⟨hx, hb, hml, hown, hts⟩ (c_X4_needFactors l hlt g a_X a_P a_X_levels a_E a_F a_R a_X_vector a_X_solution a_F_pivots a_F_reciprocals a_F_below X_solved X_levelCount F_known F_rows hv) (cx_cwV 0 hts cw_m_X4_159 cw_i_X4_needFactors cw_s_X4_needFactors cw_n_X4 cw_c_X4_needFactors rfl rfl (by decide +kernel) ⟨Nat.le_of_ble_eq_true rfl, Nat.le_of_ble_eq_true rfl⟩) hK hKX hZ hAe htab hlocks hP hD hS hA 0 4 rfl rfl [0, 2] rfl rfl rfl hl.1 rfl (Nat.le_of_ble_eq_true rfl) dX4_inverse_11 ⟨Nat.le_of_ble_eq_true rfl, Nat.le_of_ble_eq_true rfl⟩ (Nat.le_of_ble_eq_true rfl) (Nat.le_of_ble_eq_true rfl) (fun H locs hv hP hS => ?_)
  refine W.widen (k := 3) (n := 18) (Nat.le_of_ble_eq_true rfl) (Nat.le_of_ble_eq_true rfl) ?_
  refine lv_iconst (v := 0) hx hb dX4_inverse_14 (by decide) ?_
  refine lv_istore_n (lv' := [(3, .int 0), (0, .ref a_X), (1, .int i_i), (2, .int i_j)]) hx hb dX4_inverse_15 rfl hl (by decide) rfl (fun ls hl => ?_)
  exact hv _ _ _ hP hD hS (lv_sub hl [0, 1, 2, 3] rfl)
