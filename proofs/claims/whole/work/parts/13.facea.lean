def wp_X4_size (X_solved : Int32) (X_levelCount : Int32) (P_rows : Int32) (Q : Int32 → Prop)   : Prop := Q P_rows
abbrev w0_X4_size (g : cx_G) (a_X a_P a_X_levels a_E a_F a_R a_X_vector a_X_solution a_P_entries a_P_order a_P_places a_P_rights a_P_weights : Nat) (X_solved : Int32) (X_levelCount : Int32) (P_rows : Int32) : va_W := [(a_X, .inr (4, [.ref a_P, .ref a_X_levels, .ref a_E, .ref a_F, .ref a_R, .ref a_X_vector, .ref a_X_solution, .int X_solved, .int X_levelCount])), (a_P, .inr (2, [.int P_rows, .ref a_P_entries, .ref a_P_order, .ref a_P_places, .ref a_P_rights, .ref a_P_weights]))]
set_option maxHeartbeats 4000000 in
set_option maxRecDepth 100000 in
theorem c_X4_size (l : Launch) (g : cx_G) (a_X a_P a_X_levels a_E a_F a_R a_X_vector a_X_solution a_P_entries a_P_order a_P_places a_P_rights a_P_weights : Nat) (X_solved : Int32) (X_levelCount : Int32) (P_rows : Int32) {Q : Int32 → Prop} (hv : wp_X4_size X_solved X_levelCount P_rows Q) : cx_Mi l g yX4_size (Cond.code yX4_size cX4_size 1 (some .int) :: cx_T) ({ frames := 0, cells := 0, slots := 0, locals := 0 } : Room) [.ref a_X] (w0_X4_size g a_X a_P a_X_levels a_E a_F a_R a_X_vector a_X_solution a_P_entries a_P_order a_P_places a_P_rights a_P_weights X_solved X_levelCount P_rows) (fun (r : Int32) (_ : Unit) => Q r) (fun _ : Unit => (w0_X4_size g a_X a_P a_X_levels a_E a_F a_R a_X_vector a_X_solution a_P_entries a_P_order a_P_places a_P_rights a_P_weights X_solved X_levelCount P_rows)) 0 0 := by
  intro sz
  refine Met.ofW (cc := cX4_size) (maxL := 1) (ret := (some .int)) (by decide) rfl ?_
  intro p e s m args below meth c s₁ B hml hpre
  obtain ⟨rfl, hsz, hP, hK, hD0⟩ := hpre
  have hx := B.exec
  have hb := B.bytes
  have hr := B.returns
  have hts0 := atoms_spec (ws := (Cond.code yX4_size cX4_size 1 (some .int) :: cx_T)) B.pre
  have hts : ∀ w ∈ cx_T, w.before _ s = true := fun w h => hts0 w (List.mem_cons_of_mem _ h)
  have hown : s.vm.findClass RX4 = some m.cls := findClass_of_methodNamed B.named
  have hlocks := B.notSynchronized
  subst hsz
  have hD := hD0.self (sz := s.heap.size)
  obtain ⟨A, hAe⟩ : ∃ A : Nat → Prop, A = va_A (w0_X4_size g a_X a_P a_X_levels a_E a_F a_R a_X_vector a_X_solution a_P_entries a_P_order a_P_places a_P_rights a_P_weights X_solved X_levelCount P_rows) s.heap.size := ⟨_, rfl⟩
  rw [← hAe] at hD
  have hA : ∀ q : Nat, s.heap.size ≤ q → A q := fun q h => by rw [hAe]; exact Or.inr h
  have hS : va_S A s.heap s.heap [] := va_S.rf
  have hP : va_P g.1 vwCl [(a_X, .inr (4, [.ref a_P, .ref a_X_levels, .ref a_E, .ref a_F, .ref a_R, .ref a_X_vector, .ref a_X_solution, .int X_solved, .int X_levelCount])), (a_P, .inr (2, [.int P_rows, .ref a_P_entries, .ref a_P_order, .ref a_P_places, .ref a_P_rights, .ref a_P_weights]))] s.heap := hP
  have hD : va_D A [(a_X, .inr (4, [.ref a_P, .ref a_X_levels, .ref a_E, .ref a_F, .ref a_R, .ref a_X_vector, .ref a_X_solution, .int X_solved, .int X_levelCount])), (a_P, .inr (2, [.int P_rows, .ref a_P_entries, .ref a_P_order, .ref a_P_places, .ref a_P_rights, .ref a_P_weights]))] := hD
  have hl := lv_entry ([.ref a_X]) (n := 1) (Nat.le_of_ble_eq_true rfl)
  rw [lg_entry_eq]
  generalize (lg_sl ([.ref a_X]) ++ List.replicate (1 - (lg_sl ([.ref a_X])).length) Slot.unset).toArray = ls at hl ⊢
  have hl : lv_has ls 1 [(0, .ref a_X)] := hl
  unfold wp_X4_size at hv
  refine lv_aload_n hx hb dX4_size_0 rfl (lv_at hl 0 rfl) ?_
  refine va_get (D := g.1) (ci := 4) (v := .ref a_P) (C := RX4) (T := TX4) (N := 9) hx hb hts cw_in_X4 hown hK.1 hP 0 rfl rfl 0 (by decide) (hts _ cw_f_X4_10) (fun _ h9 => h9) rfl dX4_size_1 ?_
  refine va_get (D := g.1) (ci := 2) (v := .int P_rows) (C := RX2) (T := TX2) (N := 6) hx hb hts cw_in_X2 hown hK.1 hP 1 rfl rfl 0 (by decide) (hts _ cw_f_X4_70) (fun _ h9 => h9) rfl dX4_size_4 ?_
  exact cx_iret hx hb hr hlocks hAe hS () hv hP hD dX4_size_7
def wp_X4_linkCount (X_solved : Int32) (X_levelCount : Int32) (P_rows : Int32) (P_entries : (Nat → Int32)) (Q : Int32 → Prop)   : Prop := wp_X2_countLinks P_rows P_entries (fun r_1 => Q r_1)
abbrev w0_X4_linkCount (g : cx_G) (a_X a_P a_X_levels a_E a_F a_R a_X_vector a_X_solution a_P_entries a_P_order a_P_places a_P_rights a_P_weights : Nat) (X_solved : Int32) (X_levelCount : Int32) (P_rows : Int32) (P_entries : (Nat → Int32)) : va_W := [(a_X, .inr (4, [.ref a_P, .ref a_X_levels, .ref a_E, .ref a_F, .ref a_R, .ref a_X_vector, .ref a_X_solution, .int X_solved, .int X_levelCount])), (a_P, .inr (2, [.int P_rows, .ref a_P_entries, .ref a_P_order, .ref a_P_places, .ref a_P_rights, .ref a_P_weights])), (a_P_entries, .inl (g.2.1, 256, .inl P_entries))]
set_option maxHeartbeats 4000000 in
set_option maxRecDepth 100000 in
theorem c_X4_linkCount (l : Launch) (g : cx_G) (a_X a_P a_X_levels a_E a_F a_R a_X_vector a_X_solution a_P_entries a_P_order a_P_places a_P_rights a_P_weights : Nat) (X_solved : Int32) (X_levelCount : Int32) (P_rows : Int32) (P_entries : (Nat → Int32)) {Q : Int32 → Prop} (hv : wp_X4_linkCount X_solved X_levelCount P_rows P_entries Q) : cx_Mi l g yX4_linkCount (Cond.code yX4_linkCount cX4_linkCount 1 (some .int) :: cx_T) ({ frames := 4, cells := 0, slots := 0, locals := 88 } : Room) [.ref a_X] (w0_X4_linkCount g a_X a_P a_X_levels a_E a_F a_R a_X_vector a_X_solution a_P_entries a_P_order a_P_places a_P_rights a_P_weights X_solved X_levelCount P_rows P_entries) (fun (r : Int32) (_ : Unit) => Q r) (fun _ : Unit => (w0_X4_linkCount g a_X a_P a_X_levels a_E a_F a_R a_X_vector a_X_solution a_P_entries a_P_order a_P_places a_P_rights a_P_weights X_solved X_levelCount P_rows P_entries)) 0 0 := by
  intro sz
  refine Met.ofW (cc := cX4_linkCount) (maxL := 1) (ret := (some .int)) (by decide) rfl ?_
  intro p e s m args below meth c s₁ B hml hpre
  obtain ⟨rfl, hsz, hP, hK, hD0⟩ := hpre
  have hx := B.exec
  have hb := B.bytes
  have hr := B.returns
  have hts0 := atoms_spec (ws := (Cond.code yX4_linkCount cX4_linkCount 1 (some .int) :: cx_T)) B.pre
  have hts : ∀ w ∈ cx_T, w.before _ s = true := fun w h => hts0 w (List.mem_cons_of_mem _ h)
  have hown : s.vm.findClass RX4 = some m.cls := findClass_of_methodNamed B.named
  have hlocks := B.notSynchronized
  subst hsz
  have hD := hD0.self (sz := s.heap.size)
  obtain ⟨A, hAe⟩ : ∃ A : Nat → Prop, A = va_A (w0_X4_linkCount g a_X a_P a_X_levels a_E a_F a_R a_X_vector a_X_solution a_P_entries a_P_order a_P_places a_P_rights a_P_weights X_solved X_levelCount P_rows P_entries) s.heap.size := ⟨_, rfl⟩
  rw [← hAe] at hD
  have hA : ∀ q : Nat, s.heap.size ≤ q → A q := fun q h => by rw [hAe]; exact Or.inr h
  have hS : va_S A s.heap s.heap [] := va_S.rf
  have hP : va_P g.1 vwCl [(a_X, .inr (4, [.ref a_P, .ref a_X_levels, .ref a_E, .ref a_F, .ref a_R, .ref a_X_vector, .ref a_X_solution, .int X_solved, .int X_levelCount])), (a_P, .inr (2, [.int P_rows, .ref a_P_entries, .ref a_P_order, .ref a_P_places, .ref a_P_rights, .ref a_P_weights])), (a_P_entries, .inl (g.2.1, 256, .inl P_entries))] s.heap := hP
  have hD : va_D A [(a_X, .inr (4, [.ref a_P, .ref a_X_levels, .ref a_E, .ref a_F, .ref a_R, .ref a_X_vector, .ref a_X_solution, .int X_solved, .int X_levelCount])), (a_P, .inr (2, [.int P_rows, .ref a_P_entries, .ref a_P_order, .ref a_P_places, .ref a_P_rights, .ref a_P_weights])), (a_P_entries, .inl (g.2.1, 256, .inl P_entries))] := hD
  have hl := lv_entry ([.ref a_X]) (n := 1) (Nat.le_of_ble_eq_true rfl)
  rw [lg_entry_eq]
  generalize (lg_sl ([.ref a_X]) ++ List.replicate (1 - (lg_sl ([.ref a_X])).length) Slot.unset).toArray = ls at hl ⊢
  have hl : lv_has ls 1 [(0, .ref a_X)] := hl
  unfold wp_X4_linkCount at hv
  refine lv_aload_n hx hb dX4_linkCount_0 rfl (lv_at hl 0 rfl) ?_
  refine va_get (D := g.1) (ci := 4) (v := .ref a_P) (C := RX4) (T := TX4) (N := 9) hx hb hts cw_in_X4 hown hK.1 hP 0 rfl rfl 0 (by decide) (hts _ cw_f_X4_10) (fun _ h9 => h9) rfl dX4_linkCount_1 ?_
  refine cx_iVr (As := []) (rest := []) ⟨hx, hb, hml, hown, hts⟩ (c_X2_countLinks l g a_P a_P_entries a_P_order a_P_places a_P_rights a_P_weights P_rows P_entries hv) (cx_cwV 0 hts cw_m_X4_87 cw_i_X2_countLinks cw_s_X2_countLinks cw_n_X2 cw_c_X2_countLinks rfl rfl (by decide +kernel) ⟨Nat.le_of_ble_eq_true rfl, Nat.le_of_ble_eq_true rfl⟩) hK hP hD hS hA 1 2 rfl rfl [1, 2] rfl rfl rfl hl.1 rfl (Nat.le_of_ble_eq_true rfl) dX4_linkCount_4 ⟨Nat.le_of_ble_eq_true rfl, Nat.le_of_ble_eq_true rfl⟩ (fun r_1 H locs hv hP hS => ?_)
  exact cx_iret hx hb hr hlocks hAe hS () hv hP hD dX4_linkCount_7
def wp_X4_determinant (X_solved : Int32) (X_levelCount : Int32) (P_rows : Int32) (P_entries : (Nat → Int32)) (R_cells : (Nat → Int32)) (Q : Int32 → (Nat → Int32) → Prop)   : Prop := wp_X3_determinantOf P_rows P_entries R_cells (fun r_1 u_2 => Q r_1 u_2)
abbrev w0_X4_determinant (g : cx_G) (a_X a_P a_X_levels a_E a_F a_R a_X_vector a_X_solution a_P_entries a_P_order a_P_places a_P_rights a_P_weights a_R_cells : Nat) (X_solved : Int32) (X_levelCount : Int32) (P_rows : Int32) (P_entries : (Nat → Int32)) (R_cells : (Nat → Int32)) : va_W := [(a_X, .inr (4, [.ref a_P, .ref a_X_levels, .ref a_E, .ref a_F, .ref a_R, .ref a_X_vector, .ref a_X_solution, .int X_solved, .int X_levelCount])), (a_P, .inr (2, [.int P_rows, .ref a_P_entries, .ref a_P_order, .ref a_P_places, .ref a_P_rights, .ref a_P_weights])), (a_R, .inr (3, [.ref a_R_cells])), (a_P_entries, .inl (g.2.1, 256, .inl P_entries)), (a_R_cells, .inl (g.2.1, 256, .inl R_cells))]
abbrev w1_X4_determinant (g : cx_G) (a_X a_P a_X_levels a_E a_F a_R a_X_vector a_X_solution a_P_entries a_P_order a_P_places a_P_rights a_P_weights a_R_cells : Nat) (X_solved : Int32) (X_levelCount : Int32) (P_rows : Int32) (P_entries : (Nat → Int32)) (R_cells : (Nat → Int32)) (u : (Nat → Int32)) : va_W := [(a_X, .inr (4, [.ref a_P, .ref a_X_levels, .ref a_E, .ref a_F, .ref a_R, .ref a_X_vector, .ref a_X_solution, .int X_solved, .int X_levelCount])), (a_P, .inr (2, [.int P_rows, .ref a_P_entries, .ref a_P_order, .ref a_P_places, .ref a_P_rights, .ref a_P_weights])), (a_R, .inr (3, [.ref a_R_cells])), (a_P_entries, .inl (g.2.1, 256, .inl P_entries)), (a_R_cells, .inl (g.2.1, 256, .inl u))]
set_option maxHeartbeats 4000000 in
set_option maxRecDepth 100000 in
theorem c_X4_determinant (l : Launch) (g : cx_G) (a_X a_P a_X_levels a_E a_F a_R a_X_vector a_X_solution a_P_entries a_P_order a_P_places a_P_rights a_P_weights a_R_cells : Nat) (X_solved : Int32) (X_levelCount : Int32) (P_rows : Int32) (P_entries : (Nat → Int32)) (R_cells : (Nat → Int32)) {Q : Int32 → (Nat → Int32) → Prop} (hv : wp_X4_determinant X_solved X_levelCount P_rows P_entries R_cells Q) : cx_Mi l g yX4_determinant (Cond.code yX4_determinant cX4_determinant 1 (some .int) :: cx_T) ({ frames := 5, cells := 0, slots := 0, locals := 115 } : Room) [.ref a_X] (w0_X4_determinant g a_X a_P a_X_levels a_E a_F a_R a_X_vector a_X_solution a_P_entries a_P_order a_P_places a_P_rights a_P_weights a_R_cells X_solved X_levelCount P_rows P_entries R_cells) (fun (r : Int32) (u : (Nat → Int32)) => Q r u) (w1_X4_determinant g a_X a_P a_X_levels a_E a_F a_R a_X_vector a_X_solution a_P_entries a_P_order a_P_places a_P_rights a_P_weights a_R_cells X_solved X_levelCount P_rows P_entries R_cells) 0 0 := by
  intro sz
  refine Met.ofW (cc := cX4_determinant) (maxL := 1) (ret := (some .int)) (by decide) rfl ?_
  intro p e s m args below meth c s₁ B hml hpre
  obtain ⟨rfl, hsz, hP, hK, hD0⟩ := hpre
  have hx := B.exec
  have hb := B.bytes
  have hr := B.returns
  have hts0 := atoms_spec (ws := (Cond.code yX4_determinant cX4_determinant 1 (some .int) :: cx_T)) B.pre
  have hts : ∀ w ∈ cx_T, w.before _ s = true := fun w h => hts0 w (List.mem_cons_of_mem _ h)
  have hown : s.vm.findClass RX4 = some m.cls := findClass_of_methodNamed B.named
  have hlocks := B.notSynchronized
  subst hsz
  have hD := hD0.self (sz := s.heap.size)
  obtain ⟨A, hAe⟩ : ∃ A : Nat → Prop, A = va_A (w0_X4_determinant g a_X a_P a_X_levels a_E a_F a_R a_X_vector a_X_solution a_P_entries a_P_order a_P_places a_P_rights a_P_weights a_R_cells X_solved X_levelCount P_rows P_entries R_cells) s.heap.size := ⟨_, rfl⟩
  rw [← hAe] at hD
  have hA : ∀ q : Nat, s.heap.size ≤ q → A q := fun q h => by rw [hAe]; exact Or.inr h
  have hS : va_S A s.heap s.heap [] := va_S.rf
  have hP : va_P g.1 vwCl [(a_X, .inr (4, [.ref a_P, .ref a_X_levels, .ref a_E, .ref a_F, .ref a_R, .ref a_X_vector, .ref a_X_solution, .int X_solved, .int X_levelCount])), (a_P, .inr (2, [.int P_rows, .ref a_P_entries, .ref a_P_order, .ref a_P_places, .ref a_P_rights, .ref a_P_weights])), (a_R, .inr (3, [.ref a_R_cells])), (a_P_entries, .inl (g.2.1, 256, .inl P_entries)), (a_R_cells, .inl (g.2.1, 256, .inl R_cells))] s.heap := hP
  have hD : va_D A [(a_X, .inr (4, [.ref a_P, .ref a_X_levels, .ref a_E, .ref a_F, .ref a_R, .ref a_X_vector, .ref a_X_solution, .int X_solved, .int X_levelCount])), (a_P, .inr (2, [.int P_rows, .ref a_P_entries, .ref a_P_order, .ref a_P_places, .ref a_P_rights, .ref a_P_weights])), (a_R, .inr (3, [.ref a_R_cells])), (a_P_entries, .inl (g.2.1, 256, .inl P_entries)), (a_R_cells, .inl (g.2.1, 256, .inl R_cells))] := hD
  have hl := lv_entry ([.ref a_X]) (n := 1) (Nat.le_of_ble_eq_true rfl)
  rw [lg_entry_eq]
  generalize (lg_sl ([.ref a_X]) ++ List.replicate (1 - (lg_sl ([.ref a_X])).length) Slot.unset).toArray = ls at hl ⊢
  have hl : lv_has ls 1 [(0, .ref a_X)] := hl
  unfold wp_X4_determinant at hv
  refine lv_aload_n hx hb dX4_determinant_0 rfl (lv_at hl 0 rfl) ?_
  refine va_get (D := g.1) (ci := 4) (v := .ref a_R) (C := RX4) (T := TX4) (N := 9) hx hb hts cw_in_X4 hown hK.1 hP 0 rfl rfl 4 (by decide) (hts _ cw_f_X4_37) (fun _ h9 => h9) rfl dX4_determinant_1 ?_
  refine lv_aload_n hx hb dX4_determinant_4 rfl (lv_at hl 0 rfl) ?_
  refine va_get (D := g.1) (ci := 4) (v := .ref a_P) (C := RX4) (T := TX4) (N := 9) hx hb hts cw_in_X4 hown hK.1 hP 0 rfl rfl 0 (by decide) (hts _ cw_f_X4_10) (fun _ h9 => h9) rfl dX4_determinant_5 ?_
  refine cx_iV (wr := [(a_X, .inr (4, [.ref a_P, .ref a_X_levels, .ref a_E, .ref a_F, .ref a_R, .ref a_X_vector, .ref a_X_solution, .int X_solved, .int X_levelCount]))]) (As := [.ref a_P]) (rest := []) ⟨hx, hb, hml, hown, hts⟩ (c_X3_determinantOf l g a_R a_P a_P_entries a_P_order a_P_places a_P_rights a_P_weights a_R_cells P_rows P_entries R_cells hv) (cx_cwV 1 hts cw_m_X4_91 cw_i_X3_determinantOf cw_s_X3_determinantOf cw_n_X3 cw_c_X3_determinantOf rfl rfl (by decide +kernel) ⟨Nat.le_of_ble_eq_true rfl, Nat.le_of_ble_eq_true rfl⟩) hK hP hD hS hA 2 3 rfl rfl [1, 2, 3, 4] [0] rfl rfl rfl rfl (by decide) rfl hl.1 rfl (Nat.le_of_ble_eq_true rfl) dX4_determinant_8 ⟨Nat.le_of_ble_eq_true rfl, Nat.le_of_ble_eq_true rfl⟩ (fun r_1 w_3 H locs hv hP hD hS => ?_)
  obtain ⟨u_2, rfl⟩ : ∃ z, z = w_3 := ⟨_, rfl⟩
  have hP : va_P g.1 vwCl [(a_X, .inr (4, [.ref a_P, .ref a_X_levels, .ref a_E, .ref a_F, .ref a_R, .ref a_X_vector, .ref a_X_solution, .int X_solved, .int X_levelCount])), (a_P, .inr (2, [.int P_rows, .ref a_P_entries, .ref a_P_order, .ref a_P_places, .ref a_P_rights, .ref a_P_weights])), (a_R, .inr (3, [.ref a_R_cells])), (a_P_entries, .inl (g.2.1, 256, .inl P_entries)), (a_R_cells, .inl (g.2.1, 256, .inl u_2))] H := hP.sub [0, 1, 2, 3, 4] rfl
  have hD : va_D A [(a_X, .inr (4, [.ref a_P, .ref a_X_levels, .ref a_E, .ref a_F, .ref a_R, .ref a_X_vector, .ref a_X_solution, .int X_solved, .int X_levelCount])), (a_P, .inr (2, [.int P_rows, .ref a_P_entries, .ref a_P_order, .ref a_P_places, .ref a_P_rights, .ref a_P_weights])), (a_R, .inr (3, [.ref a_R_cells])), (a_P_entries, .inl (g.2.1, 256, .inl P_entries)), (a_R_cells, .inl (g.2.1, 256, .inl u_2))] := hD.sub [0, 1, 2, 3, 4] (by decide) rfl
  exact cx_iret hx hb hr hlocks hAe hS u_2 hv hP hD dX4_determinant_11
def wp_X4_countFill (X_solved : Int32) (X_levelCount : Int32) (P_rows : Int32) (P_entries : (Nat → Int32)) (E_joined : (Nat → Int32)) (P_order : (Nat → Int32)) (E_later : (Nat → Int32)) (E_paths : (Nat → Int32)) (Q : Int32 → (Nat → Int32) → (Nat → Int32) → (Nat → Int32) → Prop)   : Prop := wp_X0_run P_rows P_entries E_joined P_order E_later E_paths (fun u_2 u_3 u_4 => wp_X0_countJoined P_rows u_3 (fun r_6 => wp_X2_countLinks P_rows P_entries (fun r_7 => Q (r_6 - r_7) u_2 u_3 u_4)))
abbrev w0_X4_countFill (g : cx_G) (a_X a_P a_X_levels a_E a_F a_R a_X_vector a_X_solution a_P_entries a_P_order a_P_places a_P_rights a_P_weights a_E_joined a_E_later a_E_paths : Nat) (X_solved : Int32) (X_levelCount : Int32) (P_rows : Int32) (P_entries : (Nat → Int32)) (E_joined : (Nat → Int32)) (P_order : (Nat → Int32)) (E_later : (Nat → Int32)) (E_paths : (Nat → Int32)) : va_W := [(a_X, .inr (4, [.ref a_P, .ref a_X_levels, .ref a_E, .ref a_F, .ref a_R, .ref a_X_vector, .ref a_X_solution, .int X_solved, .int X_levelCount])), (a_P, .inr (2, [.int P_rows, .ref a_P_entries, .ref a_P_order, .ref a_P_places, .ref a_P_rights, .ref a_P_weights])), (a_E, .inr (0, [.ref a_E_joined, .ref a_E_later, .ref a_E_paths])), (a_P_entries, .inl (g.2.1, 256, .inl P_entries)), (a_E_joined, .inl (g.2.1, 16, .inl E_joined)), (a_P_order, .inl (g.2.1, 16, .inl P_order)), (a_E_later, .inl (g.2.1, 16, .inl E_later)), (a_E_paths, .inl (g.2.1, 16, .inl E_paths))]
abbrev w1_X4_countFill (g : cx_G) (a_X a_P a_X_levels a_E a_F a_R a_X_vector a_X_solution a_P_entries a_P_order a_P_places a_P_rights a_P_weights a_E_joined a_E_later a_E_paths : Nat) (X_solved : Int32) (X_levelCount : Int32) (P_rows : Int32) (P_entries : (Nat → Int32)) (E_joined : (Nat → Int32)) (P_order : (Nat → Int32)) (E_later : (Nat → Int32)) (E_paths : (Nat → Int32)) (u : (Nat → Int32) × (Nat → Int32) × (Nat → Int32)) : va_W := [(a_X, .inr (4, [.ref a_P, .ref a_X_levels, .ref a_E, .ref a_F, .ref a_R, .ref a_X_vector, .ref a_X_solution, .int X_solved, .int X_levelCount])), (a_P, .inr (2, [.int P_rows, .ref a_P_entries, .ref a_P_order, .ref a_P_places, .ref a_P_rights, .ref a_P_weights])), (a_E, .inr (0, [.ref a_E_joined, .ref a_E_later, .ref a_E_paths])), (a_P_entries, .inl (g.2.1, 256, .inl P_entries)), (a_E_joined, .inl (g.2.1, 16, .inl u.1)), (a_P_order, .inl (g.2.1, 16, .inl P_order)), (a_E_later, .inl (g.2.1, 16, .inl u.2.1)), (a_E_paths, .inl (g.2.1, 16, .inl u.2.2))]
set_option maxHeartbeats 4000000 in
set_option maxRecDepth 100000 in
theorem c_X4_countFill (l : Launch) (g : cx_G) (a_X a_P a_X_levels a_E a_F a_R a_X_vector a_X_solution a_P_entries a_P_order a_P_places a_P_rights a_P_weights a_E_joined a_E_later a_E_paths : Nat) (X_solved : Int32) (X_levelCount : Int32) (P_rows : Int32) (P_entries : (Nat → Int32)) (E_joined : (Nat → Int32)) (P_order : (Nat → Int32)) (E_later : (Nat → Int32)) (E_paths : (Nat → Int32)) {Q : Int32 → (Nat → Int32) → (Nat → Int32) → (Nat → Int32) → Prop} (hv : wp_X4_countFill X_solved X_levelCount P_rows P_entries E_joined P_order E_later E_paths Q) : cx_Mi l g yX4_countFill (Cond.code yX4_countFill cX4_countFill 1 (some .int) :: cx_T) ({ frames := 5, cells := 0, slots := 0, locals := 112 } : Room) [.ref a_X] (w0_X4_countFill g a_X a_P a_X_levels a_E a_F a_R a_X_vector a_X_solution a_P_entries a_P_order a_P_places a_P_rights a_P_weights a_E_joined a_E_later a_E_paths X_solved X_levelCount P_rows P_entries E_joined P_order E_later E_paths) (fun (r : Int32) (u : (Nat → Int32) × (Nat → Int32) × (Nat → Int32)) => Q r u.1 u.2.1 u.2.2) (w1_X4_countFill g a_X a_P a_X_levels a_E a_F a_R a_X_vector a_X_solution a_P_entries a_P_order a_P_places a_P_rights a_P_weights a_E_joined a_E_later a_E_paths X_solved X_levelCount P_rows P_entries E_joined P_order E_later E_paths) 0 0 := by
  intro sz
  refine Met.ofW (cc := cX4_countFill) (maxL := 1) (ret := (some .int)) (by decide) rfl ?_
  intro p e s m args below meth c s₁ B hml hpre
  obtain ⟨rfl, hsz, hP, hK, hD0⟩ := hpre
  have hx := B.exec
  have hb := B.bytes
  have hr := B.returns
  have hts0 := atoms_spec (ws := (Cond.code yX4_countFill cX4_countFill 1 (some .int) :: cx_T)) B.pre
  have hts : ∀ w ∈ cx_T, w.before _ s = true := fun w h => hts0 w (List.mem_cons_of_mem _ h)
  have hown : s.vm.findClass RX4 = some m.cls := findClass_of_methodNamed B.named
  have hlocks := B.notSynchronized
  subst hsz
  have hD := hD0.self (sz := s.heap.size)
  obtain ⟨A, hAe⟩ : ∃ A : Nat → Prop, A = va_A (w0_X4_countFill g a_X a_P a_X_levels a_E a_F a_R a_X_vector a_X_solution a_P_entries a_P_order a_P_places a_P_rights a_P_weights a_E_joined a_E_later a_E_paths X_solved X_levelCount P_rows P_entries E_joined P_order E_later E_paths) s.heap.size := ⟨_, rfl⟩
  rw [← hAe] at hD
  have hA : ∀ q : Nat, s.heap.size ≤ q → A q := fun q h => by rw [hAe]; exact Or.inr h
  have hS : va_S A s.heap s.heap [] := va_S.rf
  have hP : va_P g.1 vwCl [(a_X, .inr (4, [.ref a_P, .ref a_X_levels, .ref a_E, .ref a_F, .ref a_R, .ref a_X_vector, .ref a_X_solution, .int X_solved, .int X_levelCount])), (a_P, .inr (2, [.int P_rows, .ref a_P_entries, .ref a_P_order, .ref a_P_places, .ref a_P_rights, .ref a_P_weights])), (a_E, .inr (0, [.ref a_E_joined, .ref a_E_later, .ref a_E_paths])), (a_P_entries, .inl (g.2.1, 256, .inl P_entries)), (a_E_joined, .inl (g.2.1, 16, .inl E_joined)), (a_P_order, .inl (g.2.1, 16, .inl P_order)), (a_E_later, .inl (g.2.1, 16, .inl E_later)), (a_E_paths, .inl (g.2.1, 16, .inl E_paths))] s.heap := hP
  have hD : va_D A [(a_X, .inr (4, [.ref a_P, .ref a_X_levels, .ref a_E, .ref a_F, .ref a_R, .ref a_X_vector, .ref a_X_solution, .int X_solved, .int X_levelCount])), (a_P, .inr (2, [.int P_rows, .ref a_P_entries, .ref a_P_order, .ref a_P_places, .ref a_P_rights, .ref a_P_weights])), (a_E, .inr (0, [.ref a_E_joined, .ref a_E_later, .ref a_E_paths])), (a_P_entries, .inl (g.2.1, 256, .inl P_entries)), (a_E_joined, .inl (g.2.1, 16, .inl E_joined)), (a_P_order, .inl (g.2.1, 16, .inl P_order)), (a_E_later, .inl (g.2.1, 16, .inl E_later)), (a_E_paths, .inl (g.2.1, 16, .inl E_paths))] := hD
  have hl := lv_entry ([.ref a_X]) (n := 1) (Nat.le_of_ble_eq_true rfl)
  rw [lg_entry_eq]
  generalize (lg_sl ([.ref a_X]) ++ List.replicate (1 - (lg_sl ([.ref a_X])).length) Slot.unset).toArray = ls at hl ⊢
  have hl : lv_has ls 1 [(0, .ref a_X)] := hl
  unfold wp_X4_countFill at hv
  refine lv_aload_n hx hb dX4_countFill_0 rfl (lv_at hl 0 rfl) ?_
  refine va_get (D := g.1) (ci := 4) (v := .ref a_E) (C := RX4) (T := TX4) (N := 9) hx hb hts cw_in_X4 hown hK.1 hP 0 rfl rfl 2 (by decide) (hts _ cw_f_X4_23) (fun _ h9 => h9) rfl dX4_countFill_1 ?_
  refine lv_aload_n hx hb dX4_countFill_4 rfl (lv_at hl 0 rfl) ?_
  refine va_get (D := g.1) (ci := 4) (v := .ref a_P) (C := RX4) (T := TX4) (N := 9) hx hb hts cw_in_X4 hown hK.1 hP 0 rfl rfl 0 (by decide) (hts _ cw_f_X4_10) (fun _ h9 => h9) rfl dX4_countFill_5 ?_
  refine cx_vV (wr := [(a_X, .inr (4, [.ref a_P, .ref a_X_levels, .ref a_E, .ref a_F, .ref a_R, .ref a_X_vector, .ref a_X_solution, .int X_solved, .int X_levelCount]))]) (As := [.ref a_P]) (rest := []) ⟨hx, hb, hml, hown, hts⟩ (c_X0_run l g a_E a_P a_P_entries a_P_order a_P_places a_P_rights a_P_weights a_E_joined a_E_later a_E_paths P_rows P_entries E_joined P_order E_later E_paths hv) (cx_cwV 1 hts cw_m_X4_127 cw_i_X0_run cw_s_X0_run cw_n_X0 cw_c_X0_run rfl rfl (by decide +kernel) ⟨Nat.le_of_ble_eq_true rfl, Nat.le_of_ble_eq_true rfl⟩) hK hP hD hS hA 2 0 rfl rfl [1, 2, 3, 4, 5, 6, 7] [0] rfl rfl rfl rfl (by decide) rfl hl.1 rfl (Nat.le_of_ble_eq_true rfl) dX4_countFill_8 ⟨Nat.le_of_ble_eq_true rfl, Nat.le_of_ble_eq_true rfl⟩ (fun w_5 H locs hv hP hD hS => ?_)
  obtain ⟨u_2, u_3, u_4⟩ := w_5
  have hP : va_P g.1 vwCl [(a_X, .inr (4, [.ref a_P, .ref a_X_levels, .ref a_E, .ref a_F, .ref a_R, .ref a_X_vector, .ref a_X_solution, .int X_solved, .int X_levelCount])), (a_P, .inr (2, [.int P_rows, .ref a_P_entries, .ref a_P_order, .ref a_P_places, .ref a_P_rights, .ref a_P_weights])), (a_E, .inr (0, [.ref a_E_joined, .ref a_E_later, .ref a_E_paths])), (a_P_entries, .inl (g.2.1, 256, .inl P_entries)), (a_E_joined, .inl (g.2.1, 16, .inl u_2)), (a_P_order, .inl (g.2.1, 16, .inl P_order)), (a_E_later, .inl (g.2.1, 16, .inl u_3)), (a_E_paths, .inl (g.2.1, 16, .inl u_4))] H := hP.sub [0, 1, 2, 3, 4, 5, 6, 7] rfl
  have hD : va_D A [(a_X, .inr (4, [.ref a_P, .ref a_X_levels, .ref a_E, .ref a_F, .ref a_R, .ref a_X_vector, .ref a_X_solution, .int X_solved, .int X_levelCount])), (a_P, .inr (2, [.int P_rows, .ref a_P_entries, .ref a_P_order, .ref a_P_places, .ref a_P_rights, .ref a_P_weights])), (a_E, .inr (0, [.ref a_E_joined, .ref a_E_later, .ref a_E_paths])), (a_P_entries, .inl (g.2.1, 256, .inl P_entries)), (a_E_joined, .inl (g.2.1, 16, .inl u_2)), (a_P_order, .inl (g.2.1, 16, .inl P_order)), (a_E_later, .inl (g.2.1, 16, .inl u_3)), (a_E_paths, .inl (g.2.1, 16, .inl u_4))] := hD.sub [0, 1, 2, 3, 4, 5, 6, 7] (by decide) rfl
  refine lv_aload_n hx hb dX4_countFill_11 rfl (lv_at hl 0 rfl) ?_
  refine va_get (D := g.1) (ci := 4) (v := .ref a_E) (C := RX4) (T := TX4) (N := 9) hx hb hts cw_in_X4 hown hK.1 hP 0 rfl rfl 2 (by decide) (hts _ cw_f_X4_23) (fun _ h9 => h9) rfl dX4_countFill_12 ?_
  refine lv_aload_n hx hb dX4_countFill_15 rfl (lv_at hl 0 rfl) ?_
  refine va_get (D := g.1) (ci := 4) (v := .ref a_P) (C := RX4) (T := TX4) (N := 9) hx hb hts cw_in_X4 hown hK.1 hP 0 rfl rfl 0 (by decide) (hts _ cw_f_X4_10) (fun _ h9 => h9) rfl dX4_countFill_16 ?_
  refine va_get (D := g.1) (ci := 2) (v := .int P_rows) (C := RX2) (T := TX2) (N := 6) hx hb hts cw_in_X2 hown hK.1 hP 1 rfl rfl 0 (by decide) (hts _ cw_f_X4_70) (fun _ h9 => h9) rfl dX4_countFill_19 ?_
  refine cx_iVr (As := [.int P_rows]) (rest := []) ⟨hx, hb, hml, hown, hts⟩ (c_X0_countJoined l g a_E a_E_joined a_E_later a_E_paths P_rows u_3 hv) (cx_cwV 1 hts cw_m_X4_205 cw_i_X0_countJoined cw_s_X0_countJoined cw_n_X0 cw_c_X0_countJoined rfl rfl (by decide +kernel) ⟨Nat.le_of_ble_eq_true rfl, Nat.le_of_ble_eq_true rfl⟩) hK hP hD hS hA 2 0 rfl rfl [2, 6] rfl rfl rfl hl.1 rfl (Nat.le_of_ble_eq_true rfl) dX4_countFill_22 ⟨Nat.le_of_ble_eq_true rfl, Nat.le_of_ble_eq_true rfl⟩ (fun r_6 H locs hv hP hS => ?_)
  refine lv_aload_n hx hb dX4_countFill_25 rfl (lv_at hl 0 rfl) ?_
  refine va_get (D := g.1) (ci := 4) (v := .ref a_P) (C := RX4) (T := TX4) (N := 9) hx hb hts cw_in_X4 hown hK.1 hP 0 rfl rfl 0 (by decide) (hts _ cw_f_X4_10) (fun _ h9 => h9) rfl dX4_countFill_26 ?_
  refine cx_iVr (As := []) (rest := [.int r_6]) ⟨hx, hb, hml, hown, hts⟩ (c_X2_countLinks l g a_P a_P_entries a_P_order a_P_places a_P_rights a_P_weights P_rows P_entries hv) (cx_cwV 0 hts cw_m_X4_87 cw_i_X2_countLinks cw_s_X2_countLinks cw_n_X2 cw_c_X2_countLinks rfl rfl (by decide +kernel) ⟨Nat.le_of_ble_eq_true rfl, Nat.le_of_ble_eq_true rfl⟩) hK hP hD hS hA 1 2 rfl rfl [1, 3] rfl rfl rfl hl.1 rfl (Nat.le_of_ble_eq_true rfl) dX4_countFill_29 ⟨Nat.le_of_ble_eq_true rfl, Nat.le_of_ble_eq_true rfl⟩ (fun r_7 H locs hv hP hS => ?_)
  refine lv_isub hx hb dX4_countFill_32 ?_
  exact cx_iret hx hb hr hlocks hAe hS (u_2, u_3, u_4) hv hP hD dX4_countFill_33
def wp_X4_minimumDegree (X_solved : Int32) (X_levelCount : Int32) (P_rows : Int32) (P_entries : (Nat → Int32)) (E_joined : (Nat → Int32)) (P_order : (Nat → Int32)) (P_places : (Nat → Int32)) (F_known : Int32) (F_rows : Int32) (E_later : (Nat → Int32)) (E_paths : (Nat → Int32)) (Q : Int32 → (Nat → Int32) → (Nat → Int32) → (Nat → Int32) → Int32 → (Nat → Int32) → (Nat → Int32) → Prop)   : Prop := wp_X0_orderByDegree P_rows P_entries E_joined P_order P_places (fun u_2 u_3 u_4 => wp_X1_forget F_known F_rows (fun u_7 => wp_X4_countFill X_solved X_levelCount P_rows P_entries u_2 u_3 E_later E_paths (fun r_9 u_10 u_11 u_12 => Q r_9 u_10 u_3 u_4 u_7 u_11 u_12)))
abbrev w0_X4_minimumDegree (g : cx_G) (a_X a_P a_X_levels a_E a_F a_R a_X_vector a_X_solution a_P_entries a_P_order a_P_places a_P_rights a_P_weights a_E_joined a_E_later a_E_paths a_F_pivots a_F_reciprocals a_F_below : Nat) (X_solved : Int32) (X_levelCount : Int32) (P_rows : Int32) (P_entries : (Nat → Int32)) (E_joined : (Nat → Int32)) (P_order : (Nat → Int32)) (P_places : (Nat → Int32)) (F_known : Int32) (F_rows : Int32) (E_later : (Nat → Int32)) (E_paths : (Nat → Int32)) : va_W := [(a_X, .inr (4, [.ref a_P, .ref a_X_levels, .ref a_E, .ref a_F, .ref a_R, .ref a_X_vector, .ref a_X_solution, .int X_solved, .int X_levelCount])), (a_P, .inr (2, [.int P_rows, .ref a_P_entries, .ref a_P_order, .ref a_P_places, .ref a_P_rights, .ref a_P_weights])), (a_E, .inr (0, [.ref a_E_joined, .ref a_E_later, .ref a_E_paths])), (a_P_entries, .inl (g.2.1, 256, .inl P_entries)), (a_E_joined, .inl (g.2.1, 16, .inl E_joined)), (a_P_order, .inl (g.2.1, 16, .inl P_order)), (a_P_places, .inl (g.2.1, 16, .inl P_places)), (a_F, .inr (1, [.int F_known, .int F_rows, .ref a_F_pivots, .ref a_F_reciprocals, .ref a_F_below])), (a_E_later, .inl (g.2.1, 16, .inl E_later)), (a_E_paths, .inl (g.2.1, 16, .inl E_paths))]
abbrev w1_X4_minimumDegree (g : cx_G) (a_X a_P a_X_levels a_E a_F a_R a_X_vector a_X_solution a_P_entries a_P_order a_P_places a_P_rights a_P_weights a_E_joined a_E_later a_E_paths a_F_pivots a_F_reciprocals a_F_below : Nat) (X_solved : Int32) (X_levelCount : Int32) (P_rows : Int32) (P_entries : (Nat → Int32)) (E_joined : (Nat → Int32)) (P_order : (Nat → Int32)) (P_places : (Nat → Int32)) (F_known : Int32) (F_rows : Int32) (E_later : (Nat → Int32)) (E_paths : (Nat → Int32)) (u : (Nat → Int32) × (Nat → Int32) × (Nat → Int32) × Int32 × (Nat → Int32) × (Nat → Int32)) : va_W := [(a_X, .inr (4, [.ref a_P, .ref a_X_levels, .ref a_E, .ref a_F, .ref a_R, .ref a_X_vector, .ref a_X_solution, .int X_solved, .int X_levelCount])), (a_P, .inr (2, [.int P_rows, .ref a_P_entries, .ref a_P_order, .ref a_P_places, .ref a_P_rights, .ref a_P_weights])), (a_E, .inr (0, [.ref a_E_joined, .ref a_E_later, .ref a_E_paths])), (a_P_entries, .inl (g.2.1, 256, .inl P_entries)), (a_E_joined, .inl (g.2.1, 16, .inl u.1)), (a_P_order, .inl (g.2.1, 16, .inl u.2.1)), (a_P_places, .inl (g.2.1, 16, .inl u.2.2.1)), (a_F, .inr (1, [.int u.2.2.2.1, .int F_rows, .ref a_F_pivots, .ref a_F_reciprocals, .ref a_F_below])), (a_E_later, .inl (g.2.1, 16, .inl u.2.2.2.2.1)), (a_E_paths, .inl (g.2.1, 16, .inl u.2.2.2.2.2))]
set_option maxHeartbeats 4000000 in
set_option maxRecDepth 100000 in
theorem c_X4_minimumDegree (l : Launch) (g : cx_G) (a_X a_P a_X_levels a_E a_F a_R a_X_vector a_X_solution a_P_entries a_P_order a_P_places a_P_rights a_P_weights a_E_joined a_E_later a_E_paths a_F_pivots a_F_reciprocals a_F_below : Nat) (X_solved : Int32) (X_levelCount : Int32) (P_rows : Int32) (P_entries : (Nat → Int32)) (E_joined : (Nat → Int32)) (P_order : (Nat → Int32)) (P_places : (Nat → Int32)) (F_known : Int32) (F_rows : Int32) (E_later : (Nat → Int32)) (E_paths : (Nat → Int32)) {Q : Int32 → (Nat → Int32) → (Nat → Int32) → (Nat → Int32) → Int32 → (Nat → Int32) → (Nat → Int32) → Prop} (hv : wp_X4_minimumDegree X_solved X_levelCount P_rows P_entries E_joined P_order P_places F_known F_rows E_later E_paths Q) : cx_Mi l g yX4_minimumDegree (Cond.code yX4_minimumDegree cX4_minimumDegree 1 (some .int) :: cx_T) ({ frames := 6, cells := 0, slots := 0, locals := 132 } : Room) [.ref a_X] (w0_X4_minimumDegree g a_X a_P a_X_levels a_E a_F a_R a_X_vector a_X_solution a_P_entries a_P_order a_P_places a_P_rights a_P_weights a_E_joined a_E_later a_E_paths a_F_pivots a_F_reciprocals a_F_below X_solved X_levelCount P_rows P_entries E_joined P_order P_places F_known F_rows E_later E_paths) (fun (r : Int32) (u : (Nat → Int32) × (Nat → Int32) × (Nat → Int32) × Int32 × (Nat → Int32) × (Nat → Int32)) => Q r u.1 u.2.1 u.2.2.1 u.2.2.2.1 u.2.2.2.2.1 u.2.2.2.2.2) (w1_X4_minimumDegree g a_X a_P a_X_levels a_E a_F a_R a_X_vector a_X_solution a_P_entries a_P_order a_P_places a_P_rights a_P_weights a_E_joined a_E_later a_E_paths a_F_pivots a_F_reciprocals a_F_below X_solved X_levelCount P_rows P_entries E_joined P_order P_places F_known F_rows E_later E_paths) 0 0 := by
  intro sz
  refine Met.ofW (cc := cX4_minimumDegree) (maxL := 1) (ret := (some .int)) (by decide) rfl ?_
  intro p e s m args below meth c s₁ B hml hpre
  obtain ⟨rfl, hsz, hP, hK, hD0⟩ := hpre
  have hx := B.exec
  have hb := B.bytes
  have hr := B.returns
  have hts0 := atoms_spec (ws := (Cond.code yX4_minimumDegree cX4_minimumDegree 1 (some .int) :: cx_T)) B.pre
  have hts : ∀ w ∈ cx_T, w.before _ s = true := fun w h => hts0 w (List.mem_cons_of_mem _ h)
  have hown : s.vm.findClass RX4 = some m.cls := findClass_of_methodNamed B.named
  have hlocks := B.notSynchronized
  subst hsz
  have hD := hD0.self (sz := s.heap.size)
  obtain ⟨A, hAe⟩ : ∃ A : Nat → Prop, A = va_A (w0_X4_minimumDegree g a_X a_P a_X_levels a_E a_F a_R a_X_vector a_X_solution a_P_entries a_P_order a_P_places a_P_rights a_P_weights a_E_joined a_E_later a_E_paths a_F_pivots a_F_reciprocals a_F_below X_solved X_levelCount P_rows P_entries E_joined P_order P_places F_known F_rows E_later E_paths) s.heap.size := ⟨_, rfl⟩
  rw [← hAe] at hD
  have hA : ∀ q : Nat, s.heap.size ≤ q → A q := fun q h => by rw [hAe]; exact Or.inr h
  have hS : va_S A s.heap s.heap [] := va_S.rf
  have hP : va_P g.1 vwCl [(a_X, .inr (4, [.ref a_P, .ref a_X_levels, .ref a_E, .ref a_F, .ref a_R, .ref a_X_vector, .ref a_X_solution, .int X_solved, .int X_levelCount])), (a_P, .inr (2, [.int P_rows, .ref a_P_entries, .ref a_P_order, .ref a_P_places, .ref a_P_rights, .ref a_P_weights])), (a_E, .inr (0, [.ref a_E_joined, .ref a_E_later, .ref a_E_paths])), (a_P_entries, .inl (g.2.1, 256, .inl P_entries)), (a_E_joined, .inl (g.2.1, 16, .inl E_joined)), (a_P_order, .inl (g.2.1, 16, .inl P_order)), (a_P_places, .inl (g.2.1, 16, .inl P_places)), (a_F, .inr (1, [.int F_known, .int F_rows, .ref a_F_pivots, .ref a_F_reciprocals, .ref a_F_below])), (a_E_later, .inl (g.2.1, 16, .inl E_later)), (a_E_paths, .inl (g.2.1, 16, .inl E_paths))] s.heap := hP
  have hD : va_D A [(a_X, .inr (4, [.ref a_P, .ref a_X_levels, .ref a_E, .ref a_F, .ref a_R, .ref a_X_vector, .ref a_X_solution, .int X_solved, .int X_levelCount])), (a_P, .inr (2, [.int P_rows, .ref a_P_entries, .ref a_P_order, .ref a_P_places, .ref a_P_rights, .ref a_P_weights])), (a_E, .inr (0, [.ref a_E_joined, .ref a_E_later, .ref a_E_paths])), (a_P_entries, .inl (g.2.1, 256, .inl P_entries)), (a_E_joined, .inl (g.2.1, 16, .inl E_joined)), (a_P_order, .inl (g.2.1, 16, .inl P_order)), (a_P_places, .inl (g.2.1, 16, .inl P_places)), (a_F, .inr (1, [.int F_known, .int F_rows, .ref a_F_pivots, .ref a_F_reciprocals, .ref a_F_below])), (a_E_later, .inl (g.2.1, 16, .inl E_later)), (a_E_paths, .inl (g.2.1, 16, .inl E_paths))] := hD
  have hl := lv_entry ([.ref a_X]) (n := 1) (Nat.le_of_ble_eq_true rfl)
  rw [lg_entry_eq]
  generalize (lg_sl ([.ref a_X]) ++ List.replicate (1 - (lg_sl ([.ref a_X])).length) Slot.unset).toArray = ls at hl ⊢
  have hl : lv_has ls 1 [(0, .ref a_X)] := hl
  unfold wp_X4_minimumDegree at hv
  refine lv_aload_n hx hb dX4_minimumDegree_0 rfl (lv_at hl 0 rfl) ?_
  refine va_get (D := g.1) (ci := 4) (v := .ref a_E) (C := RX4) (T := TX4) (N := 9) hx hb hts cw_in_X4 hown hK.1 hP 0 rfl rfl 2 (by decide) (hts _ cw_f_X4_23) (fun _ h9 => h9) rfl dX4_minimumDegree_1 ?_
  refine lv_aload_n hx hb dX4_minimumDegree_4 rfl (lv_at hl 0 rfl) ?_
  refine va_get (D := g.1) (ci := 4) (v := .ref a_P) (C := RX4) (T := TX4) (N := 9) hx hb hts cw_in_X4 hown hK.1 hP 0 rfl rfl 0 (by decide) (hts _ cw_f_X4_10) (fun _ h9 => h9) rfl dX4_minimumDegree_5 ?_
  refine cx_vV (wr := [(a_X, .inr (4, [.ref a_P, .ref a_X_levels, .ref a_E, .ref a_F, .ref a_R, .ref a_X_vector, .ref a_X_solution, .int X_solved, .int X_levelCount])), (a_F, .inr (1, [.int F_known, .int F_rows, .ref a_F_pivots, .ref a_F_reciprocals, .ref a_F_below])), (a_E_later, .inl (g.2.1, 16, .inl E_later)), (a_E_paths, .inl (g.2.1, 16, .inl E_paths))]) (As := [.ref a_P]) (rest := []) ⟨hx, hb, hml, hown, hts⟩ (c_X0_orderByDegree l g a_E a_P a_P_entries a_P_order a_P_places a_P_rights a_P_weights a_E_joined a_E_later a_E_paths P_rows P_entries E_joined P_order P_places hv) (cx_cwV 1 hts cw_m_X4_102 cw_i_X0_orderByDegree cw_s_X0_orderByDegree cw_n_X0 cw_c_X0_orderByDegree rfl rfl (by decide +kernel) ⟨Nat.le_of_ble_eq_true rfl, Nat.le_of_ble_eq_true rfl⟩) hK hP hD hS hA 2 0 rfl rfl [1, 2, 3, 4, 5, 6] [0, 7, 8, 9] rfl rfl rfl rfl (by decide) rfl hl.1 rfl (Nat.le_of_ble_eq_true rfl) dX4_minimumDegree_8 ⟨Nat.le_of_ble_eq_true rfl, Nat.le_of_ble_eq_true rfl⟩ (fun w_5 H locs hv hP hD hS => ?_)
  obtain ⟨u_2, u_3, u_4⟩ := w_5
  have hP : va_P g.1 vwCl [(a_X, .inr (4, [.ref a_P, .ref a_X_levels, .ref a_E, .ref a_F, .ref a_R, .ref a_X_vector, .ref a_X_solution, .int X_solved, .int X_levelCount])), (a_P, .inr (2, [.int P_rows, .ref a_P_entries, .ref a_P_order, .ref a_P_places, .ref a_P_rights, .ref a_P_weights])), (a_E, .inr (0, [.ref a_E_joined, .ref a_E_later, .ref a_E_paths])), (a_P_entries, .inl (g.2.1, 256, .inl P_entries)), (a_E_joined, .inl (g.2.1, 16, .inl u_2)), (a_P_order, .inl (g.2.1, 16, .inl u_3)), (a_P_places, .inl (g.2.1, 16, .inl u_4)), (a_F, .inr (1, [.int F_known, .int F_rows, .ref a_F_pivots, .ref a_F_reciprocals, .ref a_F_below])), (a_E_later, .inl (g.2.1, 16, .inl E_later)), (a_E_paths, .inl (g.2.1, 16, .inl E_paths))] H := hP.sub [0, 4, 5, 6, 7, 8, 9, 1, 2, 3] rfl
  have hD : va_D A [(a_X, .inr (4, [.ref a_P, .ref a_X_levels, .ref a_E, .ref a_F, .ref a_R, .ref a_X_vector, .ref a_X_solution, .int X_solved, .int X_levelCount])), (a_P, .inr (2, [.int P_rows, .ref a_P_entries, .ref a_P_order, .ref a_P_places, .ref a_P_rights, .ref a_P_weights])), (a_E, .inr (0, [.ref a_E_joined, .ref a_E_later, .ref a_E_paths])), (a_P_entries, .inl (g.2.1, 256, .inl P_entries)), (a_E_joined, .inl (g.2.1, 16, .inl u_2)), (a_P_order, .inl (g.2.1, 16, .inl u_3)), (a_P_places, .inl (g.2.1, 16, .inl u_4)), (a_F, .inr (1, [.int F_known, .int F_rows, .ref a_F_pivots, .ref a_F_reciprocals, .ref a_F_below])), (a_E_later, .inl (g.2.1, 16, .inl E_later)), (a_E_paths, .inl (g.2.1, 16, .inl E_paths))] := hD.sub [0, 4, 5, 6, 7, 8, 9, 1, 2, 3] (by decide) rfl
  refine lv_aload_n hx hb dX4_minimumDegree_11 rfl (lv_at hl 0 rfl) ?_
  refine va_get (D := g.1) (ci := 4) (v := .ref a_F) (C := RX4) (T := TX4) (N := 9) hx hb hts cw_in_X4 hown hK.1 hP 0 rfl rfl 3 (by decide) (hts _ cw_f_X4_30) (fun _ h9 => h9) rfl dX4_minimumDegree_12 ?_
  refine cx_vV (wr := [(a_X, .inr (4, [.ref a_P, .ref a_X_levels, .ref a_E, .ref a_F, .ref a_R, .ref a_X_vector, .ref a_X_solution, .int X_solved, .int X_levelCount])), (a_P, .inr (2, [.int P_rows, .ref a_P_entries, .ref a_P_order, .ref a_P_places, .ref a_P_rights, .ref a_P_weights])), (a_E, .inr (0, [.ref a_E_joined, .ref a_E_later, .ref a_E_paths])), (a_P_entries, .inl (g.2.1, 256, .inl P_entries)), (a_E_joined, .inl (g.2.1, 16, .inl u_2)), (a_P_order, .inl (g.2.1, 16, .inl u_3)), (a_P_places, .inl (g.2.1, 16, .inl u_4)), (a_E_later, .inl (g.2.1, 16, .inl E_later)), (a_E_paths, .inl (g.2.1, 16, .inl E_paths))]) (As := []) (rest := []) ⟨hx, hb, hml, hown, hts⟩ (c_X1_forget l g a_F a_F_pivots a_F_reciprocals a_F_below F_known F_rows hv) (cx_cwV 0 hts cw_m_X4_67 cw_i_X1_forget cw_s_X1_forget cw_n_X1 cw_c_X1_forget rfl rfl (by decide +kernel) ⟨Nat.le_of_ble_eq_true rfl, Nat.le_of_ble_eq_true rfl⟩) hK hP hD hS hA 7 1 rfl rfl [7] [0, 1, 2, 3, 4, 5, 6, 8, 9] rfl rfl rfl rfl (by decide) rfl hl.1 rfl (Nat.le_of_ble_eq_true rfl) dX4_minimumDegree_15 ⟨Nat.le_of_ble_eq_true rfl, Nat.le_of_ble_eq_true rfl⟩ (fun w_8 H locs hv hP hD hS => ?_)
  obtain ⟨u_7, rfl⟩ : ∃ z, z = w_8 := ⟨_, rfl⟩
  have hP : va_P g.1 vwCl [(a_X, .inr (4, [.ref a_P, .ref a_X_levels, .ref a_E, .ref a_F, .ref a_R, .ref a_X_vector, .ref a_X_solution, .int X_solved, .int X_levelCount])), (a_P, .inr (2, [.int P_rows, .ref a_P_entries, .ref a_P_order, .ref a_P_places, .ref a_P_rights, .ref a_P_weights])), (a_E, .inr (0, [.ref a_E_joined, .ref a_E_later, .ref a_E_paths])), (a_P_entries, .inl (g.2.1, 256, .inl P_entries)), (a_E_joined, .inl (g.2.1, 16, .inl u_2)), (a_P_order, .inl (g.2.1, 16, .inl u_3)), (a_P_places, .inl (g.2.1, 16, .inl u_4)), (a_F, .inr (1, [.int u_7, .int F_rows, .ref a_F_pivots, .ref a_F_reciprocals, .ref a_F_below])), (a_E_later, .inl (g.2.1, 16, .inl E_later)), (a_E_paths, .inl (g.2.1, 16, .inl E_paths))] H := hP.sub [0, 1, 2, 3, 4, 5, 6, 9, 7, 8] rfl
  have hD : va_D A [(a_X, .inr (4, [.ref a_P, .ref a_X_levels, .ref a_E, .ref a_F, .ref a_R, .ref a_X_vector, .ref a_X_solution, .int X_solved, .int X_levelCount])), (a_P, .inr (2, [.int P_rows, .ref a_P_entries, .ref a_P_order, .ref a_P_places, .ref a_P_rights, .ref a_P_weights])), (a_E, .inr (0, [.ref a_E_joined, .ref a_E_later, .ref a_E_paths])), (a_P_entries, .inl (g.2.1, 256, .inl P_entries)), (a_E_joined, .inl (g.2.1, 16, .inl u_2)), (a_P_order, .inl (g.2.1, 16, .inl u_3)), (a_P_places, .inl (g.2.1, 16, .inl u_4)), (a_F, .inr (1, [.int u_7, .int F_rows, .ref a_F_pivots, .ref a_F_reciprocals, .ref a_F_below])), (a_E_later, .inl (g.2.1, 16, .inl E_later)), (a_E_paths, .inl (g.2.1, 16, .inl E_paths))] := hD.sub [0, 1, 2, 3, 4, 5, 6, 9, 7, 8] (by decide) rfl
  refine lv_aload_n hx hb dX4_minimumDegree_18 rfl (lv_at hl 0 rfl) ?_
  refine cx_iV (wr := [(a_P_places, .inl (g.2.1, 16, .inl u_4)), (a_F, .inr (1, [.int u_7, .int F_rows, .ref a_F_pivots, .ref a_F_reciprocals, .ref a_F_below]))]) (As := []) (rest := []) ⟨hx, hb, hml, hown, hts⟩ (c_X4_countFill l g a_X a_P a_X_levels a_E a_F a_R a_X_vector a_X_solution a_P_entries a_P_order a_P_places a_P_rights a_P_weights a_E_joined a_E_later a_E_paths X_solved X_levelCount P_rows P_entries u_2 u_3 E_later E_paths hv) (cx_cwV 0 hts cw_m_X4_106 cw_i_X4_countFill cw_s_X4_countFill cw_n_X4 cw_c_X4_countFill rfl rfl (by decide +kernel) ⟨Nat.le_of_ble_eq_true rfl, Nat.le_of_ble_eq_true rfl⟩) hK hP hD hS hA 0 4 rfl rfl [0, 1, 2, 3, 4, 5, 8, 9] [6, 7] rfl rfl rfl rfl (by decide) rfl hl.1 rfl (Nat.le_of_ble_eq_true rfl) dX4_minimumDegree_19 ⟨Nat.le_of_ble_eq_true rfl, Nat.le_of_ble_eq_true rfl⟩ (fun r_9 w_13 H locs hv hP hD hS => ?_)
  obtain ⟨u_10, u_11, u_12⟩ := w_13
  have hP : va_P g.1 vwCl [(a_X, .inr (4, [.ref a_P, .ref a_X_levels, .ref a_E, .ref a_F, .ref a_R, .ref a_X_vector, .ref a_X_solution, .int X_solved, .int X_levelCount])), (a_P, .inr (2, [.int P_rows, .ref a_P_entries, .ref a_P_order, .ref a_P_places, .ref a_P_rights, .ref a_P_weights])), (a_E, .inr (0, [.ref a_E_joined, .ref a_E_later, .ref a_E_paths])), (a_P_entries, .inl (g.2.1, 256, .inl P_entries)), (a_E_joined, .inl (g.2.1, 16, .inl u_10)), (a_P_order, .inl (g.2.1, 16, .inl u_3)), (a_P_places, .inl (g.2.1, 16, .inl u_4)), (a_F, .inr (1, [.int u_7, .int F_rows, .ref a_F_pivots, .ref a_F_reciprocals, .ref a_F_below])), (a_E_later, .inl (g.2.1, 16, .inl u_11)), (a_E_paths, .inl (g.2.1, 16, .inl u_12))] H := hP.sub [2, 3, 4, 5, 6, 7, 0, 1, 8, 9] rfl
  have hD : va_D A [(a_X, .inr (4, [.ref a_P, .ref a_X_levels, .ref a_E, .ref a_F, .ref a_R, .ref a_X_vector, .ref a_X_solution, .int X_solved, .int X_levelCount])), (a_P, .inr (2, [.int P_rows, .ref a_P_entries, .ref a_P_order, .ref a_P_places, .ref a_P_rights, .ref a_P_weights])), (a_E, .inr (0, [.ref a_E_joined, .ref a_E_later, .ref a_E_paths])), (a_P_entries, .inl (g.2.1, 256, .inl P_entries)), (a_E_joined, .inl (g.2.1, 16, .inl u_10)), (a_P_order, .inl (g.2.1, 16, .inl u_3)), (a_P_places, .inl (g.2.1, 16, .inl u_4)), (a_F, .inr (1, [.int u_7, .int F_rows, .ref a_F_pivots, .ref a_F_reciprocals, .ref a_F_below])), (a_E_later, .inl (g.2.1, 16, .inl u_11)), (a_E_paths, .inl (g.2.1, 16, .inl u_12))] := hD.sub [2, 3, 4, 5, 6, 7, 0, 1, 8, 9] (by decide) rfl
  exact cx_iret hx hb hr hlocks hAe hS (u_10, u_3, u_4, u_7, u_11, u_12) hv hP hD dX4_minimumDegree_22
def wp_X4_reverse (X_solved : Int32) (X_levelCount : Int32) (P_rows : Int32) (P_order : (Nat → Int32)) (P_places : (Nat → Int32)) (F_known : Int32) (F_rows : Int32) (P_entries : (Nat → Int32)) (E_joined : (Nat → Int32)) (E_later : (Nat → Int32)) (E_paths : (Nat → Int32)) (Q : Int32 → (Nat → Int32) → (Nat → Int32) → Int32 → (Nat → Int32) → (Nat → Int32) → (Nat → Int32) → Prop)   : Prop := wp_X2_turnRound P_rows P_order P_places (fun u_2 u_3 => wp_X1_forget F_known F_rows (fun u_6 => wp_X4_countFill X_solved X_levelCount P_rows P_entries E_joined u_2 E_later E_paths (fun r_8 u_9 u_10 u_11 => Q r_8 u_2 u_3 u_6 u_9 u_10 u_11)))
abbrev w0_X4_reverse (g : cx_G) (a_X a_P a_X_levels a_E a_F a_R a_X_vector a_X_solution a_P_entries a_P_order a_P_places a_P_rights a_P_weights a_F_pivots a_F_reciprocals a_F_below a_E_joined a_E_later a_E_paths : Nat) (X_solved : Int32) (X_levelCount : Int32) (P_rows : Int32) (P_order : (Nat → Int32)) (P_places : (Nat → Int32)) (F_known : Int32) (F_rows : Int32) (P_entries : (Nat → Int32)) (E_joined : (Nat → Int32)) (E_later : (Nat → Int32)) (E_paths : (Nat → Int32)) : va_W := [(a_X, .inr (4, [.ref a_P, .ref a_X_levels, .ref a_E, .ref a_F, .ref a_R, .ref a_X_vector, .ref a_X_solution, .int X_solved, .int X_levelCount])), (a_P, .inr (2, [.int P_rows, .ref a_P_entries, .ref a_P_order, .ref a_P_places, .ref a_P_rights, .ref a_P_weights])), (a_P_order, .inl (g.2.1, 16, .inl P_order)), (a_P_places, .inl (g.2.1, 16, .inl P_places)), (a_F, .inr (1, [.int F_known, .int F_rows, .ref a_F_pivots, .ref a_F_reciprocals, .ref a_F_below])), (a_E, .inr (0, [.ref a_E_joined, .ref a_E_later, .ref a_E_paths])), (a_P_entries, .inl (g.2.1, 256, .inl P_entries)), (a_E_joined, .inl (g.2.1, 16, .inl E_joined)), (a_E_later, .inl (g.2.1, 16, .inl E_later)), (a_E_paths, .inl (g.2.1, 16, .inl E_paths))]
abbrev w1_X4_reverse (g : cx_G) (a_X a_P a_X_levels a_E a_F a_R a_X_vector a_X_solution a_P_entries a_P_order a_P_places a_P_rights a_P_weights a_F_pivots a_F_reciprocals a_F_below a_E_joined a_E_later a_E_paths : Nat) (X_solved : Int32) (X_levelCount : Int32) (P_rows : Int32) (P_order : (Nat → Int32)) (P_places : (Nat → Int32)) (F_known : Int32) (F_rows : Int32) (P_entries : (Nat → Int32)) (E_joined : (Nat → Int32)) (E_later : (Nat → Int32)) (E_paths : (Nat → Int32)) (u : (Nat → Int32) × (Nat → Int32) × Int32 × (Nat → Int32) × (Nat → Int32) × (Nat → Int32)) : va_W := [(a_X, .inr (4, [.ref a_P, .ref a_X_levels, .ref a_E, .ref a_F, .ref a_R, .ref a_X_vector, .ref a_X_solution, .int X_solved, .int X_levelCount])), (a_P, .inr (2, [.int P_rows, .ref a_P_entries, .ref a_P_order, .ref a_P_places, .ref a_P_rights, .ref a_P_weights])), (a_P_order, .inl (g.2.1, 16, .inl u.1)), (a_P_places, .inl (g.2.1, 16, .inl u.2.1)), (a_F, .inr (1, [.int u.2.2.1, .int F_rows, .ref a_F_pivots, .ref a_F_reciprocals, .ref a_F_below])), (a_E, .inr (0, [.ref a_E_joined, .ref a_E_later, .ref a_E_paths])), (a_P_entries, .inl (g.2.1, 256, .inl P_entries)), (a_E_joined, .inl (g.2.1, 16, .inl u.2.2.2.1)), (a_E_later, .inl (g.2.1, 16, .inl u.2.2.2.2.1)), (a_E_paths, .inl (g.2.1, 16, .inl u.2.2.2.2.2))]
set_option maxHeartbeats 4000000 in
set_option maxRecDepth 100000 in
theorem c_X4_reverse (l : Launch) (g : cx_G) (a_X a_P a_X_levels a_E a_F a_R a_X_vector a_X_solution a_P_entries a_P_order a_P_places a_P_rights a_P_weights a_F_pivots a_F_reciprocals a_F_below a_E_joined a_E_later a_E_paths : Nat) (X_solved : Int32) (X_levelCount : Int32) (P_rows : Int32) (P_order : (Nat → Int32)) (P_places : (Nat → Int32)) (F_known : Int32) (F_rows : Int32) (P_entries : (Nat → Int32)) (E_joined : (Nat → Int32)) (E_later : (Nat → Int32)) (E_paths : (Nat → Int32)) {Q : Int32 → (Nat → Int32) → (Nat → Int32) → Int32 → (Nat → Int32) → (Nat → Int32) → (Nat → Int32) → Prop} (hv : wp_X4_reverse X_solved X_levelCount P_rows P_order P_places F_known F_rows P_entries E_joined E_later E_paths Q) : cx_Mi l g yX4_reverse (Cond.code yX4_reverse cX4_reverse 1 (some .int) :: cx_T) ({ frames := 6, cells := 0, slots := 0, locals := 132 } : Room) [.ref a_X] (w0_X4_reverse g a_X a_P a_X_levels a_E a_F a_R a_X_vector a_X_solution a_P_entries a_P_order a_P_places a_P_rights a_P_weights a_F_pivots a_F_reciprocals a_F_below a_E_joined a_E_later a_E_paths X_solved X_levelCount P_rows P_order P_places F_known F_rows P_entries E_joined E_later E_paths) (fun (r : Int32) (u : (Nat → Int32) × (Nat → Int32) × Int32 × (Nat → Int32) × (Nat → Int32) × (Nat → Int32)) => Q r u.1 u.2.1 u.2.2.1 u.2.2.2.1 u.2.2.2.2.1 u.2.2.2.2.2) (w1_X4_reverse g a_X a_P a_X_levels a_E a_F a_R a_X_vector a_X_solution a_P_entries a_P_order a_P_places a_P_rights a_P_weights a_F_pivots a_F_reciprocals a_F_below a_E_joined a_E_later a_E_paths X_solved X_levelCount P_rows P_order P_places F_known F_rows P_entries E_joined E_later E_paths) 0 0 := by
  intro sz
  refine Met.ofW (cc := cX4_reverse) (maxL := 1) (ret := (some .int)) (by decide) rfl ?_
  intro p e s m args below meth c s₁ B hml hpre
  obtain ⟨rfl, hsz, hP, hK, hD0⟩ := hpre
  have hx := B.exec
  have hb := B.bytes
  have hr := B.returns
  have hts0 := atoms_spec (ws := (Cond.code yX4_reverse cX4_reverse 1 (some .int) :: cx_T)) B.pre
  have hts : ∀ w ∈ cx_T, w.before _ s = true := fun w h => hts0 w (List.mem_cons_of_mem _ h)
  have hown : s.vm.findClass RX4 = some m.cls := findClass_of_methodNamed B.named
  have hlocks := B.notSynchronized
  subst hsz
  have hD := hD0.self (sz := s.heap.size)
  obtain ⟨A, hAe⟩ : ∃ A : Nat → Prop, A = va_A (w0_X4_reverse g a_X a_P a_X_levels a_E a_F a_R a_X_vector a_X_solution a_P_entries a_P_order a_P_places a_P_rights a_P_weights a_F_pivots a_F_reciprocals a_F_below a_E_joined a_E_later a_E_paths X_solved X_levelCount P_rows P_order P_places F_known F_rows P_entries E_joined E_later E_paths) s.heap.size := ⟨_, rfl⟩
  rw [← hAe] at hD
  have hA : ∀ q : Nat, s.heap.size ≤ q → A q := fun q h => by rw [hAe]; exact Or.inr h
  have hS : va_S A s.heap s.heap [] := va_S.rf
  have hP : va_P g.1 vwCl [(a_X, .inr (4, [.ref a_P, .ref a_X_levels, .ref a_E, .ref a_F, .ref a_R, .ref a_X_vector, .ref a_X_solution, .int X_solved, .int X_levelCount])), (a_P, .inr (2, [.int P_rows, .ref a_P_entries, .ref a_P_order, .ref a_P_places, .ref a_P_rights, .ref a_P_weights])), (a_P_order, .inl (g.2.1, 16, .inl P_order)), (a_P_places, .inl (g.2.1, 16, .inl P_places)), (a_F, .inr (1, [.int F_known, .int F_rows, .ref a_F_pivots, .ref a_F_reciprocals, .ref a_F_below])), (a_E, .inr (0, [.ref a_E_joined, .ref a_E_later, .ref a_E_paths])), (a_P_entries, .inl (g.2.1, 256, .inl P_entries)), (a_E_joined, .inl (g.2.1, 16, .inl E_joined)), (a_E_later, .inl (g.2.1, 16, .inl E_later)), (a_E_paths, .inl (g.2.1, 16, .inl E_paths))] s.heap := hP
  have hD : va_D A [(a_X, .inr (4, [.ref a_P, .ref a_X_levels, .ref a_E, .ref a_F, .ref a_R, .ref a_X_vector, .ref a_X_solution, .int X_solved, .int X_levelCount])), (a_P, .inr (2, [.int P_rows, .ref a_P_entries, .ref a_P_order, .ref a_P_places, .ref a_P_rights, .ref a_P_weights])), (a_P_order, .inl (g.2.1, 16, .inl P_order)), (a_P_places, .inl (g.2.1, 16, .inl P_places)), (a_F, .inr (1, [.int F_known, .int F_rows, .ref a_F_pivots, .ref a_F_reciprocals, .ref a_F_below])), (a_E, .inr (0, [.ref a_E_joined, .ref a_E_later, .ref a_E_paths])), (a_P_entries, .inl (g.2.1, 256, .inl P_entries)), (a_E_joined, .inl (g.2.1, 16, .inl E_joined)), (a_E_later, .inl (g.2.1, 16, .inl E_later)), (a_E_paths, .inl (g.2.1, 16, .inl E_paths))] := hD
  have hl := lv_entry ([.ref a_X]) (n := 1) (Nat.le_of_ble_eq_true rfl)
  rw [lg_entry_eq]
  generalize (lg_sl ([.ref a_X]) ++ List.replicate (1 - (lg_sl ([.ref a_X])).length) Slot.unset).toArray = ls at hl ⊢
  have hl : lv_has ls 1 [(0, .ref a_X)] := hl
  unfold wp_X4_reverse at hv
  refine lv_aload_n hx hb dX4_reverse_0 rfl (lv_at hl 0 rfl) ?_
  refine va_get (D := g.1) (ci := 4) (v := .ref a_P) (C := RX4) (T := TX4) (N := 9) hx hb hts cw_in_X4 hown hK.1 hP 0 rfl rfl 0 (by decide) (hts _ cw_f_X4_10) (fun _ h9 => h9) rfl dX4_reverse_1 ?_
  refine cx_vV (wr := [(a_X, .inr (4, [.ref a_P, .ref a_X_levels, .ref a_E, .ref a_F, .ref a_R, .ref a_X_vector, .ref a_X_solution, .int X_solved, .int X_levelCount])), (a_F, .inr (1, [.int F_known, .int F_rows, .ref a_F_pivots, .ref a_F_reciprocals, .ref a_F_below])), (a_E, .inr (0, [.ref a_E_joined, .ref a_E_later, .ref a_E_paths])), (a_P_entries, .inl (g.2.1, 256, .inl P_entries)), (a_E_joined, .inl (g.2.1, 16, .inl E_joined)), (a_E_later, .inl (g.2.1, 16, .inl E_later)), (a_E_paths, .inl (g.2.1, 16, .inl E_paths))]) (As := []) (rest := []) ⟨hx, hb, hml, hown, hts⟩ (c_X2_turnRound l g a_P a_P_entries a_P_order a_P_places a_P_rights a_P_weights P_rows P_order P_places hv) (cx_cwV 0 hts cw_m_X4_109 cw_i_X2_turnRound cw_s_X2_turnRound cw_n_X2 cw_c_X2_turnRound rfl rfl (by decide +kernel) ⟨Nat.le_of_ble_eq_true rfl, Nat.le_of_ble_eq_true rfl⟩) hK hP hD hS hA 1 2 rfl rfl [1, 2, 3] [0, 4, 5, 6, 7, 8, 9] rfl rfl rfl rfl (by decide) rfl hl.1 rfl (Nat.le_of_ble_eq_true rfl) dX4_reverse_4 ⟨Nat.le_of_ble_eq_true rfl, Nat.le_of_ble_eq_true rfl⟩ (fun w_4 H locs hv hP hD hS => ?_)
  obtain ⟨u_2, u_3⟩ := w_4
  have hP : va_P g.1 vwCl [(a_X, .inr (4, [.ref a_P, .ref a_X_levels, .ref a_E, .ref a_F, .ref a_R, .ref a_X_vector, .ref a_X_solution, .int X_solved, .int X_levelCount])), (a_P, .inr (2, [.int P_rows, .ref a_P_entries, .ref a_P_order, .ref a_P_places, .ref a_P_rights, .ref a_P_weights])), (a_P_order, .inl (g.2.1, 16, .inl u_2)), (a_P_places, .inl (g.2.1, 16, .inl u_3)), (a_F, .inr (1, [.int F_known, .int F_rows, .ref a_F_pivots, .ref a_F_reciprocals, .ref a_F_below])), (a_E, .inr (0, [.ref a_E_joined, .ref a_E_later, .ref a_E_paths])), (a_P_entries, .inl (g.2.1, 256, .inl P_entries)), (a_E_joined, .inl (g.2.1, 16, .inl E_joined)), (a_E_later, .inl (g.2.1, 16, .inl E_later)), (a_E_paths, .inl (g.2.1, 16, .inl E_paths))] H := hP.sub [0, 7, 8, 9, 1, 2, 3, 4, 5, 6] rfl
  have hD : va_D A [(a_X, .inr (4, [.ref a_P, .ref a_X_levels, .ref a_E, .ref a_F, .ref a_R, .ref a_X_vector, .ref a_X_solution, .int X_solved, .int X_levelCount])), (a_P, .inr (2, [.int P_rows, .ref a_P_entries, .ref a_P_order, .ref a_P_places, .ref a_P_rights, .ref a_P_weights])), (a_P_order, .inl (g.2.1, 16, .inl u_2)), (a_P_places, .inl (g.2.1, 16, .inl u_3)), (a_F, .inr (1, [.int F_known, .int F_rows, .ref a_F_pivots, .ref a_F_reciprocals, .ref a_F_below])), (a_E, .inr (0, [.ref a_E_joined, .ref a_E_later, .ref a_E_paths])), (a_P_entries, .inl (g.2.1, 256, .inl P_entries)), (a_E_joined, .inl (g.2.1, 16, .inl E_joined)), (a_E_later, .inl (g.2.1, 16, .inl E_later)), (a_E_paths, .inl (g.2.1, 16, .inl E_paths))] := hD.sub [0, 7, 8, 9, 1, 2, 3, 4, 5, 6] (by decide) rfl
  refine lv_aload_n hx hb dX4_reverse_7 rfl (lv_at hl 0 rfl) ?_
  refine va_get (D := g.1) (ci := 4) (v := .ref a_F) (C := RX4) (T := TX4) (N := 9) hx hb hts cw_in_X4 hown hK.1 hP 0 rfl rfl 3 (by decide) (hts _ cw_f_X4_30) (fun _ h9 => h9) rfl dX4_reverse_8 ?_
  refine cx_vV (wr := [(a_X, .inr (4, [.ref a_P, .ref a_X_levels, .ref a_E, .ref a_F, .ref a_R, .ref a_X_vector, .ref a_X_solution, .int X_solved, .int X_levelCount])), (a_P, .inr (2, [.int P_rows, .ref a_P_entries, .ref a_P_order, .ref a_P_places, .ref a_P_rights, .ref a_P_weights])), (a_P_order, .inl (g.2.1, 16, .inl u_2)), (a_P_places, .inl (g.2.1, 16, .inl u_3)), (a_E, .inr (0, [.ref a_E_joined, .ref a_E_later, .ref a_E_paths])), (a_P_entries, .inl (g.2.1, 256, .inl P_entries)), (a_E_joined, .inl (g.2.1, 16, .inl E_joined)), (a_E_later, .inl (g.2.1, 16, .inl E_later)), (a_E_paths, .inl (g.2.1, 16, .inl E_paths))]) (As := []) (rest := []) ⟨hx, hb, hml, hown, hts⟩ (c_X1_forget l g a_F a_F_pivots a_F_reciprocals a_F_below F_known F_rows hv) (cx_cwV 0 hts cw_m_X4_67 cw_i_X1_forget cw_s_X1_forget cw_n_X1 cw_c_X1_forget rfl rfl (by decide +kernel) ⟨Nat.le_of_ble_eq_true rfl, Nat.le_of_ble_eq_true rfl⟩) hK hP hD hS hA 4 1 rfl rfl [4] [0, 1, 2, 3, 5, 6, 7, 8, 9] rfl rfl rfl rfl (by decide) rfl hl.1 rfl (Nat.le_of_ble_eq_true rfl) dX4_reverse_11 ⟨Nat.le_of_ble_eq_true rfl, Nat.le_of_ble_eq_true rfl⟩ (fun w_7 H locs hv hP hD hS => ?_)
  obtain ⟨u_6, rfl⟩ : ∃ z, z = w_7 := ⟨_, rfl⟩
  have hP : va_P g.1 vwCl [(a_X, .inr (4, [.ref a_P, .ref a_X_levels, .ref a_E, .ref a_F, .ref a_R, .ref a_X_vector, .ref a_X_solution, .int X_solved, .int X_levelCount])), (a_P, .inr (2, [.int P_rows, .ref a_P_entries, .ref a_P_order, .ref a_P_places, .ref a_P_rights, .ref a_P_weights])), (a_P_order, .inl (g.2.1, 16, .inl u_2)), (a_P_places, .inl (g.2.1, 16, .inl u_3)), (a_F, .inr (1, [.int u_6, .int F_rows, .ref a_F_pivots, .ref a_F_reciprocals, .ref a_F_below])), (a_E, .inr (0, [.ref a_E_joined, .ref a_E_later, .ref a_E_paths])), (a_P_entries, .inl (g.2.1, 256, .inl P_entries)), (a_E_joined, .inl (g.2.1, 16, .inl E_joined)), (a_E_later, .inl (g.2.1, 16, .inl E_later)), (a_E_paths, .inl (g.2.1, 16, .inl E_paths))] H := hP.sub [0, 1, 2, 3, 9, 4, 5, 6, 7, 8] rfl
  have hD : va_D A [(a_X, .inr (4, [.ref a_P, .ref a_X_levels, .ref a_E, .ref a_F, .ref a_R, .ref a_X_vector, .ref a_X_solution, .int X_solved, .int X_levelCount])), (a_P, .inr (2, [.int P_rows, .ref a_P_entries, .ref a_P_order, .ref a_P_places, .ref a_P_rights, .ref a_P_weights])), (a_P_order, .inl (g.2.1, 16, .inl u_2)), (a_P_places, .inl (g.2.1, 16, .inl u_3)), (a_F, .inr (1, [.int u_6, .int F_rows, .ref a_F_pivots, .ref a_F_reciprocals, .ref a_F_below])), (a_E, .inr (0, [.ref a_E_joined, .ref a_E_later, .ref a_E_paths])), (a_P_entries, .inl (g.2.1, 256, .inl P_entries)), (a_E_joined, .inl (g.2.1, 16, .inl E_joined)), (a_E_later, .inl (g.2.1, 16, .inl E_later)), (a_E_paths, .inl (g.2.1, 16, .inl E_paths))] := hD.sub [0, 1, 2, 3, 9, 4, 5, 6, 7, 8] (by decide) rfl
  refine lv_aload_n hx hb dX4_reverse_14 rfl (lv_at hl 0 rfl) ?_
  refine cx_iV (wr := [(a_P_places, .inl (g.2.1, 16, .inl u_3)), (a_F, .inr (1, [.int u_6, .int F_rows, .ref a_F_pivots, .ref a_F_reciprocals, .ref a_F_below]))]) (As := []) (rest := []) ⟨hx, hb, hml, hown, hts⟩ (c_X4_countFill l g a_X a_P a_X_levels a_E a_F a_R a_X_vector a_X_solution a_P_entries a_P_order a_P_places a_P_rights a_P_weights a_E_joined a_E_later a_E_paths X_solved X_levelCount P_rows P_entries E_joined u_2 E_later E_paths hv) (cx_cwV 0 hts cw_m_X4_106 cw_i_X4_countFill cw_s_X4_countFill cw_n_X4 cw_c_X4_countFill rfl rfl (by decide +kernel) ⟨Nat.le_of_ble_eq_true rfl, Nat.le_of_ble_eq_true rfl⟩) hK hP hD hS hA 0 4 rfl rfl [0, 1, 5, 6, 7, 2, 8, 9] [3, 4] rfl rfl rfl rfl (by decide) rfl hl.1 rfl (Nat.le_of_ble_eq_true rfl) dX4_reverse_15 ⟨Nat.le_of_ble_eq_true rfl, Nat.le_of_ble_eq_true rfl⟩ (fun r_8 w_12 H locs hv hP hD hS => ?_)
  obtain ⟨u_9, u_10, u_11⟩ := w_12
  have hP : va_P g.1 vwCl [(a_X, .inr (4, [.ref a_P, .ref a_X_levels, .ref a_E, .ref a_F, .ref a_R, .ref a_X_vector, .ref a_X_solution, .int X_solved, .int X_levelCount])), (a_P, .inr (2, [.int P_rows, .ref a_P_entries, .ref a_P_order, .ref a_P_places, .ref a_P_rights, .ref a_P_weights])), (a_P_order, .inl (g.2.1, 16, .inl u_2)), (a_P_places, .inl (g.2.1, 16, .inl u_3)), (a_F, .inr (1, [.int u_6, .int F_rows, .ref a_F_pivots, .ref a_F_reciprocals, .ref a_F_below])), (a_E, .inr (0, [.ref a_E_joined, .ref a_E_later, .ref a_E_paths])), (a_P_entries, .inl (g.2.1, 256, .inl P_entries)), (a_E_joined, .inl (g.2.1, 16, .inl u_9)), (a_E_later, .inl (g.2.1, 16, .inl u_10)), (a_E_paths, .inl (g.2.1, 16, .inl u_11))] H := hP.sub [2, 3, 7, 0, 1, 4, 5, 6, 8, 9] rfl
  have hD : va_D A [(a_X, .inr (4, [.ref a_P, .ref a_X_levels, .ref a_E, .ref a_F, .ref a_R, .ref a_X_vector, .ref a_X_solution, .int X_solved, .int X_levelCount])), (a_P, .inr (2, [.int P_rows, .ref a_P_entries, .ref a_P_order, .ref a_P_places, .ref a_P_rights, .ref a_P_weights])), (a_P_order, .inl (g.2.1, 16, .inl u_2)), (a_P_places, .inl (g.2.1, 16, .inl u_3)), (a_F, .inr (1, [.int u_6, .int F_rows, .ref a_F_pivots, .ref a_F_reciprocals, .ref a_F_below])), (a_E, .inr (0, [.ref a_E_joined, .ref a_E_later, .ref a_E_paths])), (a_P_entries, .inl (g.2.1, 256, .inl P_entries)), (a_E_joined, .inl (g.2.1, 16, .inl u_9)), (a_E_later, .inl (g.2.1, 16, .inl u_10)), (a_E_paths, .inl (g.2.1, 16, .inl u_11))] := hD.sub [2, 3, 7, 0, 1, 4, 5, 6, 8, 9] (by decide) rfl
  exact cx_iret hx hb hr hlocks hAe hS (u_2, u_3, u_6, u_9, u_10, u_11) hv hP hD dX4_reverse_18
def vc_X4_bandwidth_0 (X_solved : Int32) (X_levelCount : Int32) (P_rows : Int32) (P_places : (Nat → Int32)) (P_entries : (Nat → Int32)) (Q : Int32 → Prop) (G1 : Int32 → Int32 → Prop)  : Prop := G1 0 0
def vc_X4_bandwidth_1 (X_solved : Int32) (X_levelCount : Int32) (P_rows : Int32) (P_places : (Nat → Int32)) (P_entries : (Nat → Int32)) (Q : Int32 → Prop) (G1 : Int32 → Int32 → Prop) (x2 : Int32) (x1 : Int32) : Prop := (P_rows ≤ x2 → (Q x1)) ∧ (¬ P_rows ≤ x2 → (wp_X2_reachBack x2 P_rows P_places P_entries (fun r_1 => ∀ x1_2 : Int32, x1_2 = (if x1 < r_1 then r_1 else x1) → (∀ x2_3 : Int32, x2_3 = x2 + 1 → (G1 x2_3 x1_2)))))
def wp_X4_bandwidth (X_solved : Int32) (X_levelCount : Int32) (P_rows : Int32) (P_places : (Nat → Int32)) (P_entries : (Nat → Int32)) (Q : Int32 → Prop) : Prop := ∀ (G1 : Int32 → Int32 → Prop), (∀ (x2 : Int32) (x1 : Int32), vc_X4_bandwidth_1 X_solved X_levelCount P_rows P_places P_entries Q G1 x2 x1 → G1 x2 x1) → vc_X4_bandwidth_0 X_solved X_levelCount P_rows P_places P_entries Q G1
abbrev w0_X4_bandwidth (g : cx_G) (a_X a_P a_X_levels a_E a_F a_R a_X_vector a_X_solution a_P_entries a_P_order a_P_places a_P_rights a_P_weights : Nat) (X_solved : Int32) (X_levelCount : Int32) (P_rows : Int32) (P_places : (Nat → Int32)) (P_entries : (Nat → Int32)) : va_W := [(a_X, .inr (4, [.ref a_P, .ref a_X_levels, .ref a_E, .ref a_F, .ref a_R, .ref a_X_vector, .ref a_X_solution, .int X_solved, .int X_levelCount])), (a_P, .inr (2, [.int P_rows, .ref a_P_entries, .ref a_P_order, .ref a_P_places, .ref a_P_rights, .ref a_P_weights])), (a_P_places, .inl (g.2.1, 16, .inl P_places)), (a_P_entries, .inl (g.2.1, 256, .inl P_entries))]
set_option maxHeartbeats 4000000 in
set_option maxRecDepth 100000 in
theorem c_X4_bandwidth (l : Launch) (g : cx_G) (a_X a_P a_X_levels a_E a_F a_R a_X_vector a_X_solution a_P_entries a_P_order a_P_places a_P_rights a_P_weights : Nat) (X_solved : Int32) (X_levelCount : Int32) (P_rows : Int32) (P_places : (Nat → Int32)) (P_entries : (Nat → Int32)) {Q : Int32 → Prop} (hv : wp_X4_bandwidth X_solved X_levelCount P_rows P_places P_entries Q) : cx_Mi l g yX4_bandwidth (Cond.code yX4_bandwidth cX4_bandwidth 3 (some .int) :: cx_T) ({ frames := 3, cells := 0, slots := 0, locals := 66 } : Room) [.ref a_X] (w0_X4_bandwidth g a_X a_P a_X_levels a_E a_F a_R a_X_vector a_X_solution a_P_entries a_P_order a_P_places a_P_rights a_P_weights X_solved X_levelCount P_rows P_places P_entries) (fun (r : Int32) (_ : Unit) => Q r) (fun _ : Unit => (w0_X4_bandwidth g a_X a_P a_X_levels a_E a_F a_R a_X_vector a_X_solution a_P_entries a_P_order a_P_places a_P_rights a_P_weights X_solved X_levelCount P_rows P_places P_entries)) 0 0 := by
  intro sz
  refine Met.ofW (cc := cX4_bandwidth) (maxL := 3) (ret := (some .int)) (by decide) rfl ?_
  intro p e s m args below meth c s₁ B hml hpre
  obtain ⟨rfl, hsz, hP, hK, hD0⟩ := hpre
  have hx := B.exec
  have hb := B.bytes
  have hr := B.returns
  have hts0 := atoms_spec (ws := (Cond.code yX4_bandwidth cX4_bandwidth 3 (some .int) :: cx_T)) B.pre
  have hts : ∀ w ∈ cx_T, w.before _ s = true := fun w h => hts0 w (List.mem_cons_of_mem _ h)
  have hown : s.vm.findClass RX4 = some m.cls := findClass_of_methodNamed B.named
  have hlocks := B.notSynchronized
  subst hsz
  have hD := hD0.self (sz := s.heap.size)
  obtain ⟨A, hAe⟩ : ∃ A : Nat → Prop, A = va_A (w0_X4_bandwidth g a_X a_P a_X_levels a_E a_F a_R a_X_vector a_X_solution a_P_entries a_P_order a_P_places a_P_rights a_P_weights X_solved X_levelCount P_rows P_places P_entries) s.heap.size := ⟨_, rfl⟩
  rw [← hAe] at hD
  have hA : ∀ q : Nat, s.heap.size ≤ q → A q := fun q h => by rw [hAe]; exact Or.inr h
  have hS : va_S A s.heap s.heap [] := va_S.rf
  have hP : va_P g.1 vwCl [(a_X, .inr (4, [.ref a_P, .ref a_X_levels, .ref a_E, .ref a_F, .ref a_R, .ref a_X_vector, .ref a_X_solution, .int X_solved, .int X_levelCount])), (a_P, .inr (2, [.int P_rows, .ref a_P_entries, .ref a_P_order, .ref a_P_places, .ref a_P_rights, .ref a_P_weights])), (a_P_places, .inl (g.2.1, 16, .inl P_places)), (a_P_entries, .inl (g.2.1, 256, .inl P_entries))] s.heap := hP
  have hD : va_D A [(a_X, .inr (4, [.ref a_P, .ref a_X_levels, .ref a_E, .ref a_F, .ref a_R, .ref a_X_vector, .ref a_X_solution, .int X_solved, .int X_levelCount])), (a_P, .inr (2, [.int P_rows, .ref a_P_entries, .ref a_P_order, .ref a_P_places, .ref a_P_rights, .ref a_P_weights])), (a_P_places, .inl (g.2.1, 16, .inl P_places)), (a_P_entries, .inl (g.2.1, 256, .inl P_entries))] := hD
  have hl := lv_entry ([.ref a_X]) (n := 3) (Nat.le_of_ble_eq_true rfl)
  rw [lg_entry_eq]
  generalize (lg_sl ([.ref a_X]) ++ List.replicate (3 - (lg_sl ([.ref a_X])).length) Slot.unset).toArray = ls at hl ⊢
  have hl : lv_has ls 3 [(0, .ref a_X)] := hl
  obtain ⟨G1, hG1⟩ : ∃ G : Int32 → Int32 → Prop, G = (fun (x2 : Int32) (x1 : Int32) => ∀ (H : Heap) (locs : List Loc) (ls : Array Slot), va_P g.1 vwCl [(a_X, .inr (4, [.ref a_P, .ref a_X_levels, .ref a_E, .ref a_F, .ref a_R, .ref a_X_vector, .ref a_X_solution, .int X_solved, .int X_levelCount])), (a_P, .inr (2, [.int P_rows, .ref a_P_entries, .ref a_P_order, .ref a_P_places, .ref a_P_rights, .ref a_P_weights])), (a_P_places, .inl (g.2.1, 16, .inl P_places)), (a_P_entries, .inl (g.2.1, 256, .inl P_entries))] H → va_D A [(a_X, .inr (4, [.ref a_P, .ref a_X_levels, .ref a_E, .ref a_F, .ref a_R, .ref a_X_vector, .ref a_X_solution, .int X_solved, .int X_levelCount])), (a_P, .inr (2, [.int P_rows, .ref a_P_entries, .ref a_P_order, .ref a_P_places, .ref a_P_rights, .ref a_P_weights])), (a_P_places, .inl (g.2.1, 16, .inl P_places)), (a_P_entries, .inl (g.2.1, 256, .inl P_entries))] → va_S A s.heap H locs → lv_has ls 3 [(2, .int x2), (1, .int x1), (0, .ref a_X)] → W p l e (headSpec (Cond.code yX4_bandwidth cX4_bandwidth 3 (some .int) :: cx_T) ({ frames := 3, cells := 0, slots := 0, locals := 66 } : Room)).room s m ([.ref a_X] : List Value).toArray below meth c H locs 0 0 (MQ below (va_Qi (fun (r : Int32) (_ : Unit) => Q r) (cx_B g (w0_X4_bandwidth g a_X a_P a_X_levels a_E a_F a_R a_X_vector a_X_solution a_P_entries a_P_order a_P_places a_P_rights a_P_weights X_solved X_levelCount P_rows P_places P_entries) s.heap.size (fun _ : Unit => (w0_X4_bandwidth g a_X a_P a_X_levels a_E a_F a_R a_X_vector a_X_solution a_P_entries a_P_order a_P_places a_P_rights a_P_weights X_solved X_levelCount P_rows P_places P_entries))) (va_A (w0_X4_bandwidth g a_X a_P a_X_levels a_E a_F a_R a_X_vector a_X_solution a_P_entries a_P_order a_P_places a_P_rights a_P_weights X_solved X_levelCount P_rows P_places P_entries) s.heap.size)) ([.ref a_X] : List Value).toArray s 0 0 (va_A (w0_X4_bandwidth g a_X a_P a_X_levels a_E a_F a_R a_X_vector a_X_solution a_P_entries a_P_order a_P_places a_P_rights a_P_weights X_solved X_levelCount P_rows P_places P_entries) s.heap.size)) (F0 m 4 ls [])) := ⟨_, rfl⟩
  have hs1 : ∀ (x2 : Int32) (x1 : Int32), vc_X4_bandwidth_1 X_solved X_levelCount P_rows P_places P_entries Q G1 x2 x1 → G1 x2 x1 := by
    rw [hG1]
    intro x2 x1 hv H locs ls hP hD hS hl
    unfold vc_X4_bandwidth_1 at hv
    refine lv_iload_n hx hb dX4_bandwidth_4 rfl (lv_at hl 0 rfl) ?_
    refine lv_aload_n hx hb dX4_bandwidth_5 rfl (lv_at hl 2 rfl) ?_
    refine va_get (D := g.1) (ci := 4) (v := .ref a_P) (C := RX4) (T := TX4) (N := 9) hx hb hts cw_in_X4 hown hK.1 hP 0 rfl rfl 0 (by decide) (hts _ cw_f_X4_10) (fun _ h9 => h9) rfl dX4_bandwidth_6 ?_
    refine va_get (D := g.1) (ci := 2) (v := .int P_rows) (C := RX2) (T := TX2) (N := 6) hx hb hts cw_in_X2 hown hK.1 hP 1 rfl rfl 0 (by decide) (hts _ cw_f_X4_70) (fun _ h9 => h9) rfl dX4_bandwidth_9 ?_
    refine lv_icmp_ge (tgt := 34) hx hb dX4_bandwidth_12 (by decide) (fun hc => ?_) (fun hc => ?_)
    · replace hv := hv.1 hc
      refine lv_iload_n hx hb dX4_bandwidth_34 rfl (lv_at hl 1 rfl) ?_
      exact cx_iret hx hb hr hlocks hAe hS () hv hP hD dX4_bandwidth_35
    · replace hv := hv.2 hc
      refine lv_iload_n hx hb dX4_bandwidth_15 rfl (lv_at hl 1 rfl) ?_
      refine lv_aload_n hx hb dX4_bandwidth_16 rfl (lv_at hl 2 rfl) ?_
      refine va_get (D := g.1) (ci := 4) (v := .ref a_P) (C := RX4) (T := TX4) (N := 9) hx hb hts cw_in_X4 hown hK.1 hP 0 rfl rfl 0 (by decide) (hts _ cw_f_X4_10) (fun _ h9 => h9) rfl dX4_bandwidth_17 ?_
      refine lv_iload_n hx hb dX4_bandwidth_20 rfl (lv_at hl 0 rfl) ?_
      refine cx_iVr (As := [.int x2]) (rest := [.int x1]) ⟨hx, hb, hml, hown, hts⟩ (c_X2_reachBack l g a_P a_P_entries a_P_order a_P_places a_P_rights a_P_weights x2 P_rows P_places P_entries hv) (cx_cwV 1 hts cw_m_X4_118 cw_i_X2_reachBack cw_s_X2_reachBack cw_n_X2 cw_c_X2_reachBack rfl rfl (by decide +kernel) ⟨Nat.le_of_ble_eq_true rfl, Nat.le_of_ble_eq_true rfl⟩) hK hP hD hS hA 1 2 rfl rfl [1, 2, 3] rfl rfl rfl hl.1 rfl (Nat.le_of_ble_eq_true rfl) dX4_bandwidth_21 ⟨Nat.le_of_ble_eq_true rfl, Nat.le_of_ble_eq_true rfl⟩ (fun r_1 H locs hv hP hS => ?_)
      refine va_mmax hx hb (hml.trans hl.1.symm) hown (hts _ cw_m_X4_122) (hts _ cw_t_Math_max) (hts _ cw_n_Math) (hts _ cw_c_Math_max) (Nat.le_of_ble_eq_true rfl) (Nat.le_of_ble_eq_true rfl) (Nat.le_of_ble_eq_true rfl) (Nat.le_of_ble_eq_true rfl) dX4_bandwidth_24 ?_
      refine lv_topi (fun x1_2 ex1_2 => ?_)
      replace hv := hv x1_2 ex1_2
      refine lv_istore_n (lv' := [(1, .int x1_2), (2, .int x2), (0, .ref a_X)]) hx hb dX4_bandwidth_27 rfl hl (by decide) rfl (fun ls hl => ?_)
      obtain ⟨x2_3, ex2_3⟩ : ∃ y : Int32, y = x2 + 1 := ⟨_, rfl⟩
      replace hv := hv x2_3 ex2_3
      refine lv_iinc (v := x2_3) (lv' := [(2, .int x2_3), (1, .int x1_2), (0, .ref a_X)]) hx hb dX4_bandwidth_28 hl (k := 1) rfl (by rw [ex2_3]; rfl) (by decide) rfl (fun ls hl => ?_)
      refine lv_goto (tgt := 4) hx hb dX4_bandwidth_31 (by decide) ?_
      exact hv _ _ _ hP hD hS (lv_sub hl [0, 1, 2] rfl)
  replace hv := hv G1 hs1
  rw [hG1] at hv
  unfold vc_X4_bandwidth_0 at hv
  refine lv_iconst (v := 0) hx hb dX4_bandwidth_0 (by decide) ?_
  refine lv_istore_n (lv' := [(1, .int 0), (0, .ref a_X)]) hx hb dX4_bandwidth_1 rfl hl (by decide) rfl (fun ls hl => ?_)
  refine lv_iconst (v := 0) hx hb dX4_bandwidth_2 (by decide) ?_
  refine lv_istore_n (lv' := [(2, .int 0), (1, .int 0), (0, .ref a_X)]) hx hb dX4_bandwidth_3 rfl hl (by decide) rfl (fun ls hl => ?_)
  exact hv _ _ _ hP hD hS (lv_sub hl [0, 1, 2] rfl)
def vc_X4_profile_0 (X_solved : Int32) (X_levelCount : Int32) (P_rows : Int32) (P_places : (Nat → Int32)) (P_entries : (Nat → Int32)) (Q : Int32 → Prop) (G1 : Int32 → Int32 → Prop)  : Prop := G1 0 0
def vc_X4_profile_1 (X_solved : Int32) (X_levelCount : Int32) (P_rows : Int32) (P_places : (Nat → Int32)) (P_entries : (Nat → Int32)) (Q : Int32 → Prop) (G1 : Int32 → Int32 → Prop) (x2 : Int32) (x1 : Int32) : Prop := (P_rows ≤ x2 → (Q x1)) ∧ (¬ P_rows ≤ x2 → (wp_X2_reachBack x2 P_rows P_places P_entries (fun r_1 => ∀ x1_2 : Int32, x1_2 = (x1 + r_1) → (∀ x2_3 : Int32, x2_3 = x2 + 1 → (G1 x2_3 x1_2)))))
def wp_X4_profile (X_solved : Int32) (X_levelCount : Int32) (P_rows : Int32) (P_places : (Nat → Int32)) (P_entries : (Nat → Int32)) (Q : Int32 → Prop) : Prop := ∀ (G1 : Int32 → Int32 → Prop), (∀ (x2 : Int32) (x1 : Int32), vc_X4_profile_1 X_solved X_levelCount P_rows P_places P_entries Q G1 x2 x1 → G1 x2 x1) → vc_X4_profile_0 X_solved X_levelCount P_rows P_places P_entries Q G1
abbrev w0_X4_profile (g : cx_G) (a_X a_P a_X_levels a_E a_F a_R a_X_vector a_X_solution a_P_entries a_P_order a_P_places a_P_rights a_P_weights : Nat) (X_solved : Int32) (X_levelCount : Int32) (P_rows : Int32) (P_places : (Nat → Int32)) (P_entries : (Nat → Int32)) : va_W := [(a_X, .inr (4, [.ref a_P, .ref a_X_levels, .ref a_E, .ref a_F, .ref a_R, .ref a_X_vector, .ref a_X_solution, .int X_solved, .int X_levelCount])), (a_P, .inr (2, [.int P_rows, .ref a_P_entries, .ref a_P_order, .ref a_P_places, .ref a_P_rights, .ref a_P_weights])), (a_P_places, .inl (g.2.1, 16, .inl P_places)), (a_P_entries, .inl (g.2.1, 256, .inl P_entries))]
set_option maxHeartbeats 4000000 in
set_option maxRecDepth 100000 in
theorem c_X4_profile (l : Launch) (g : cx_G) (a_X a_P a_X_levels a_E a_F a_R a_X_vector a_X_solution a_P_entries a_P_order a_P_places a_P_rights a_P_weights : Nat) (X_solved : Int32) (X_levelCount : Int32) (P_rows : Int32) (P_places : (Nat → Int32)) (P_entries : (Nat → Int32)) {Q : Int32 → Prop} (hv : wp_X4_profile X_solved X_levelCount P_rows P_places P_entries Q) : cx_Mi l g yX4_profile (Cond.code yX4_profile cX4_profile 3 (some .int) :: cx_T) ({ frames := 3, cells := 0, slots := 0, locals := 66 } : Room) [.ref a_X] (w0_X4_profile g a_X a_P a_X_levels a_E a_F a_R a_X_vector a_X_solution a_P_entries a_P_order a_P_places a_P_rights a_P_weights X_solved X_levelCount P_rows P_places P_entries) (fun (r : Int32) (_ : Unit) => Q r) (fun _ : Unit => (w0_X4_profile g a_X a_P a_X_levels a_E a_F a_R a_X_vector a_X_solution a_P_entries a_P_order a_P_places a_P_rights a_P_weights X_solved X_levelCount P_rows P_places P_entries)) 0 0 := by
  intro sz
  refine Met.ofW (cc := cX4_profile) (maxL := 3) (ret := (some .int)) (by decide) rfl ?_
  intro p e s m args below meth c s₁ B hml hpre
  obtain ⟨rfl, hsz, hP, hK, hD0⟩ := hpre
  have hx := B.exec
  have hb := B.bytes
  have hr := B.returns
  have hts0 := atoms_spec (ws := (Cond.code yX4_profile cX4_profile 3 (some .int) :: cx_T)) B.pre
  have hts : ∀ w ∈ cx_T, w.before _ s = true := fun w h => hts0 w (List.mem_cons_of_mem _ h)
  have hown : s.vm.findClass RX4 = some m.cls := findClass_of_methodNamed B.named
  have hlocks := B.notSynchronized
  subst hsz
  have hD := hD0.self (sz := s.heap.size)
  obtain ⟨A, hAe⟩ : ∃ A : Nat → Prop, A = va_A (w0_X4_profile g a_X a_P a_X_levels a_E a_F a_R a_X_vector a_X_solution a_P_entries a_P_order a_P_places a_P_rights a_P_weights X_solved X_levelCount P_rows P_places P_entries) s.heap.size := ⟨_, rfl⟩
  rw [← hAe] at hD
  have hA : ∀ q : Nat, s.heap.size ≤ q → A q := fun q h => by rw [hAe]; exact Or.inr h
  have hS : va_S A s.heap s.heap [] := va_S.rf
  have hP : va_P g.1 vwCl [(a_X, .inr (4, [.ref a_P, .ref a_X_levels, .ref a_E, .ref a_F, .ref a_R, .ref a_X_vector, .ref a_X_solution, .int X_solved, .int X_levelCount])), (a_P, .inr (2, [.int P_rows, .ref a_P_entries, .ref a_P_order, .ref a_P_places, .ref a_P_rights, .ref a_P_weights])), (a_P_places, .inl (g.2.1, 16, .inl P_places)), (a_P_entries, .inl (g.2.1, 256, .inl P_entries))] s.heap := hP
  have hD : va_D A [(a_X, .inr (4, [.ref a_P, .ref a_X_levels, .ref a_E, .ref a_F, .ref a_R, .ref a_X_vector, .ref a_X_solution, .int X_solved, .int X_levelCount])), (a_P, .inr (2, [.int P_rows, .ref a_P_entries, .ref a_P_order, .ref a_P_places, .ref a_P_rights, .ref a_P_weights])), (a_P_places, .inl (g.2.1, 16, .inl P_places)), (a_P_entries, .inl (g.2.1, 256, .inl P_entries))] := hD
  have hl := lv_entry ([.ref a_X]) (n := 3) (Nat.le_of_ble_eq_true rfl)
  rw [lg_entry_eq]
  generalize (lg_sl ([.ref a_X]) ++ List.replicate (3 - (lg_sl ([.ref a_X])).length) Slot.unset).toArray = ls at hl ⊢
  have hl : lv_has ls 3 [(0, .ref a_X)] := hl
  obtain ⟨G1, hG1⟩ : ∃ G : Int32 → Int32 → Prop, G = (fun (x2 : Int32) (x1 : Int32) => ∀ (H : Heap) (locs : List Loc) (ls : Array Slot), va_P g.1 vwCl [(a_X, .inr (4, [.ref a_P, .ref a_X_levels, .ref a_E, .ref a_F, .ref a_R, .ref a_X_vector, .ref a_X_solution, .int X_solved, .int X_levelCount])), (a_P, .inr (2, [.int P_rows, .ref a_P_entries, .ref a_P_order, .ref a_P_places, .ref a_P_rights, .ref a_P_weights])), (a_P_places, .inl (g.2.1, 16, .inl P_places)), (a_P_entries, .inl (g.2.1, 256, .inl P_entries))] H → va_D A [(a_X, .inr (4, [.ref a_P, .ref a_X_levels, .ref a_E, .ref a_F, .ref a_R, .ref a_X_vector, .ref a_X_solution, .int X_solved, .int X_levelCount])), (a_P, .inr (2, [.int P_rows, .ref a_P_entries, .ref a_P_order, .ref a_P_places, .ref a_P_rights, .ref a_P_weights])), (a_P_places, .inl (g.2.1, 16, .inl P_places)), (a_P_entries, .inl (g.2.1, 256, .inl P_entries))] → va_S A s.heap H locs → lv_has ls 3 [(2, .int x2), (1, .int x1), (0, .ref a_X)] → W p l e (headSpec (Cond.code yX4_profile cX4_profile 3 (some .int) :: cx_T) ({ frames := 3, cells := 0, slots := 0, locals := 66 } : Room)).room s m ([.ref a_X] : List Value).toArray below meth c H locs 0 0 (MQ below (va_Qi (fun (r : Int32) (_ : Unit) => Q r) (cx_B g (w0_X4_profile g a_X a_P a_X_levels a_E a_F a_R a_X_vector a_X_solution a_P_entries a_P_order a_P_places a_P_rights a_P_weights X_solved X_levelCount P_rows P_places P_entries) s.heap.size (fun _ : Unit => (w0_X4_profile g a_X a_P a_X_levels a_E a_F a_R a_X_vector a_X_solution a_P_entries a_P_order a_P_places a_P_rights a_P_weights X_solved X_levelCount P_rows P_places P_entries))) (va_A (w0_X4_profile g a_X a_P a_X_levels a_E a_F a_R a_X_vector a_X_solution a_P_entries a_P_order a_P_places a_P_rights a_P_weights X_solved X_levelCount P_rows P_places P_entries) s.heap.size)) ([.ref a_X] : List Value).toArray s 0 0 (va_A (w0_X4_profile g a_X a_P a_X_levels a_E a_F a_R a_X_vector a_X_solution a_P_entries a_P_order a_P_places a_P_rights a_P_weights X_solved X_levelCount P_rows P_places P_entries) s.heap.size)) (F0 m 4 ls [])) := ⟨_, rfl⟩
  have hs1 : ∀ (x2 : Int32) (x1 : Int32), vc_X4_profile_1 X_solved X_levelCount P_rows P_places P_entries Q G1 x2 x1 → G1 x2 x1 := by
    rw [hG1]
    intro x2 x1 hv H locs ls hP hD hS hl
    unfold vc_X4_profile_1 at hv
    refine lv_iload_n hx hb dX4_profile_4 rfl (lv_at hl 0 rfl) ?_
    refine lv_aload_n hx hb dX4_profile_5 rfl (lv_at hl 2 rfl) ?_
    refine va_get (D := g.1) (ci := 4) (v := .ref a_P) (C := RX4) (T := TX4) (N := 9) hx hb hts cw_in_X4 hown hK.1 hP 0 rfl rfl 0 (by decide) (hts _ cw_f_X4_10) (fun _ h9 => h9) rfl dX4_profile_6 ?_
    refine va_get (D := g.1) (ci := 2) (v := .int P_rows) (C := RX2) (T := TX2) (N := 6) hx hb hts cw_in_X2 hown hK.1 hP 1 rfl rfl 0 (by decide) (hts _ cw_f_X4_70) (fun _ h9 => h9) rfl dX4_profile_9 ?_
    refine lv_icmp_ge (tgt := 32) hx hb dX4_profile_12 (by decide) (fun hc => ?_) (fun hc => ?_)
    · replace hv := hv.1 hc
      refine lv_iload_n hx hb dX4_profile_32 rfl (lv_at hl 1 rfl) ?_
      exact cx_iret hx hb hr hlocks hAe hS () hv hP hD dX4_profile_33
    · replace hv := hv.2 hc
      refine lv_iload_n hx hb dX4_profile_15 rfl (lv_at hl 1 rfl) ?_
      refine lv_aload_n hx hb dX4_profile_16 rfl (lv_at hl 2 rfl) ?_
      refine va_get (D := g.1) (ci := 4) (v := .ref a_P) (C := RX4) (T := TX4) (N := 9) hx hb hts cw_in_X4 hown hK.1 hP 0 rfl rfl 0 (by decide) (hts _ cw_f_X4_10) (fun _ h9 => h9) rfl dX4_profile_17 ?_
      refine lv_iload_n hx hb dX4_profile_20 rfl (lv_at hl 0 rfl) ?_
      refine cx_iVr (As := [.int x2]) (rest := [.int x1]) ⟨hx, hb, hml, hown, hts⟩ (c_X2_reachBack l g a_P a_P_entries a_P_order a_P_places a_P_rights a_P_weights x2 P_rows P_places P_entries hv) (cx_cwV 1 hts cw_m_X4_118 cw_i_X2_reachBack cw_s_X2_reachBack cw_n_X2 cw_c_X2_reachBack rfl rfl (by decide +kernel) ⟨Nat.le_of_ble_eq_true rfl, Nat.le_of_ble_eq_true rfl⟩) hK hP hD hS hA 1 2 rfl rfl [1, 2, 3] rfl rfl rfl hl.1 rfl (Nat.le_of_ble_eq_true rfl) dX4_profile_21 ⟨Nat.le_of_ble_eq_true rfl, Nat.le_of_ble_eq_true rfl⟩ (fun r_1 H locs hv hP hS => ?_)
      refine lv_iadd hx hb dX4_profile_24 ?_
      refine lv_topi (fun x1_2 ex1_2 => ?_)
      replace hv := hv x1_2 ex1_2
      refine lv_istore_n (lv' := [(1, .int x1_2), (2, .int x2), (0, .ref a_X)]) hx hb dX4_profile_25 rfl hl (by decide) rfl (fun ls hl => ?_)
      obtain ⟨x2_3, ex2_3⟩ : ∃ y : Int32, y = x2 + 1 := ⟨_, rfl⟩
      replace hv := hv x2_3 ex2_3
      refine lv_iinc (v := x2_3) (lv' := [(2, .int x2_3), (1, .int x1_2), (0, .ref a_X)]) hx hb dX4_profile_26 hl (k := 1) rfl (by rw [ex2_3]; rfl) (by decide) rfl (fun ls hl => ?_)
      refine lv_goto (tgt := 4) hx hb dX4_profile_29 (by decide) ?_
      exact hv _ _ _ hP hD hS (lv_sub hl [0, 1, 2] rfl)
  replace hv := hv G1 hs1
  rw [hG1] at hv
  unfold vc_X4_profile_0 at hv
  refine lv_iconst (v := 0) hx hb dX4_profile_0 (by decide) ?_
  refine lv_istore_n (lv' := [(1, .int 0), (0, .ref a_X)]) hx hb dX4_profile_1 rfl hl (by decide) rfl (fun ls hl => ?_)
  refine lv_iconst (v := 0) hx hb dX4_profile_2 (by decide) ?_
  refine lv_istore_n (lv' := [(2, .int 0), (1, .int 0), (0, .ref a_X)]) hx hb dX4_profile_3 rfl hl (by decide) rfl (fun ls hl => ?_)
  exact hv _ _ _ hP hD hS (lv_sub hl [0, 1, 2] rfl)
def wp_X4_fillCount (X_solved : Int32) (X_levelCount : Int32) (P_rows : Int32) (P_entries : (Nat → Int32)) (E_joined : (Nat → Int32)) (P_order : (Nat → Int32)) (E_later : (Nat → Int32)) (E_paths : (Nat → Int32)) (Q : Int32 → (Nat → Int32) → (Nat → Int32) → (Nat → Int32) → Prop)   : Prop := wp_X4_countFill X_solved X_levelCount P_rows P_entries E_joined P_order E_later E_paths (fun r_1 u_2 u_3 u_4 => Q r_1 u_2 u_3 u_4)
abbrev w0_X4_fillCount (g : cx_G) (a_X a_P a_X_levels a_E a_F a_R a_X_vector a_X_solution a_P_entries a_P_order a_P_places a_P_rights a_P_weights a_E_joined a_E_later a_E_paths : Nat) (X_solved : Int32) (X_levelCount : Int32) (P_rows : Int32) (P_entries : (Nat → Int32)) (E_joined : (Nat → Int32)) (P_order : (Nat → Int32)) (E_later : (Nat → Int32)) (E_paths : (Nat → Int32)) : va_W := [(a_X, .inr (4, [.ref a_P, .ref a_X_levels, .ref a_E, .ref a_F, .ref a_R, .ref a_X_vector, .ref a_X_solution, .int X_solved, .int X_levelCount])), (a_P, .inr (2, [.int P_rows, .ref a_P_entries, .ref a_P_order, .ref a_P_places, .ref a_P_rights, .ref a_P_weights])), (a_E, .inr (0, [.ref a_E_joined, .ref a_E_later, .ref a_E_paths])), (a_P_entries, .inl (g.2.1, 256, .inl P_entries)), (a_E_joined, .inl (g.2.1, 16, .inl E_joined)), (a_P_order, .inl (g.2.1, 16, .inl P_order)), (a_E_later, .inl (g.2.1, 16, .inl E_later)), (a_E_paths, .inl (g.2.1, 16, .inl E_paths))]
abbrev w1_X4_fillCount (g : cx_G) (a_X a_P a_X_levels a_E a_F a_R a_X_vector a_X_solution a_P_entries a_P_order a_P_places a_P_rights a_P_weights a_E_joined a_E_later a_E_paths : Nat) (X_solved : Int32) (X_levelCount : Int32) (P_rows : Int32) (P_entries : (Nat → Int32)) (E_joined : (Nat → Int32)) (P_order : (Nat → Int32)) (E_later : (Nat → Int32)) (E_paths : (Nat → Int32)) (u : (Nat → Int32) × (Nat → Int32) × (Nat → Int32)) : va_W := [(a_X, .inr (4, [.ref a_P, .ref a_X_levels, .ref a_E, .ref a_F, .ref a_R, .ref a_X_vector, .ref a_X_solution, .int X_solved, .int X_levelCount])), (a_P, .inr (2, [.int P_rows, .ref a_P_entries, .ref a_P_order, .ref a_P_places, .ref a_P_rights, .ref a_P_weights])), (a_E, .inr (0, [.ref a_E_joined, .ref a_E_later, .ref a_E_paths])), (a_P_entries, .inl (g.2.1, 256, .inl P_entries)), (a_E_joined, .inl (g.2.1, 16, .inl u.1)), (a_P_order, .inl (g.2.1, 16, .inl P_order)), (a_E_later, .inl (g.2.1, 16, .inl u.2.1)), (a_E_paths, .inl (g.2.1, 16, .inl u.2.2))]
set_option maxHeartbeats 4000000 in
set_option maxRecDepth 100000 in
theorem c_X4_fillCount (l : Launch) (g : cx_G) (a_X a_P a_X_levels a_E a_F a_R a_X_vector a_X_solution a_P_entries a_P_order a_P_places a_P_rights a_P_weights a_E_joined a_E_later a_E_paths : Nat) (X_solved : Int32) (X_levelCount : Int32) (P_rows : Int32) (P_entries : (Nat → Int32)) (E_joined : (Nat → Int32)) (P_order : (Nat → Int32)) (E_later : (Nat → Int32)) (E_paths : (Nat → Int32)) {Q : Int32 → (Nat → Int32) → (Nat → Int32) → (Nat → Int32) → Prop} (hv : wp_X4_fillCount X_solved X_levelCount P_rows P_entries E_joined P_order E_later E_paths Q) : cx_Mi l g yX4_fillCount (Cond.code yX4_fillCount cX4_fillCount 1 (some .int) :: cx_T) ({ frames := 6, cells := 0, slots := 0, locals := 132 } : Room) [.ref a_X] (w0_X4_fillCount g a_X a_P a_X_levels a_E a_F a_R a_X_vector a_X_solution a_P_entries a_P_order a_P_places a_P_rights a_P_weights a_E_joined a_E_later a_E_paths X_solved X_levelCount P_rows P_entries E_joined P_order E_later E_paths) (fun (r : Int32) (u : (Nat → Int32) × (Nat → Int32) × (Nat → Int32)) => Q r u.1 u.2.1 u.2.2) (w1_X4_fillCount g a_X a_P a_X_levels a_E a_F a_R a_X_vector a_X_solution a_P_entries a_P_order a_P_places a_P_rights a_P_weights a_E_joined a_E_later a_E_paths X_solved X_levelCount P_rows P_entries E_joined P_order E_later E_paths) 0 0 := by
  intro sz
  refine Met.ofW (cc := cX4_fillCount) (maxL := 1) (ret := (some .int)) (by decide) rfl ?_
  intro p e s m args below meth c s₁ B hml hpre
  obtain ⟨rfl, hsz, hP, hK, hD0⟩ := hpre
  have hx := B.exec
  have hb := B.bytes
  have hr := B.returns
  have hts0 := atoms_spec (ws := (Cond.code yX4_fillCount cX4_fillCount 1 (some .int) :: cx_T)) B.pre
  have hts : ∀ w ∈ cx_T, w.before _ s = true := fun w h => hts0 w (List.mem_cons_of_mem _ h)
  have hown : s.vm.findClass RX4 = some m.cls := findClass_of_methodNamed B.named
  have hlocks := B.notSynchronized
  subst hsz
  have hD := hD0.self (sz := s.heap.size)
  obtain ⟨A, hAe⟩ : ∃ A : Nat → Prop, A = va_A (w0_X4_fillCount g a_X a_P a_X_levels a_E a_F a_R a_X_vector a_X_solution a_P_entries a_P_order a_P_places a_P_rights a_P_weights a_E_joined a_E_later a_E_paths X_solved X_levelCount P_rows P_entries E_joined P_order E_later E_paths) s.heap.size := ⟨_, rfl⟩
  rw [← hAe] at hD
  have hA : ∀ q : Nat, s.heap.size ≤ q → A q := fun q h => by rw [hAe]; exact Or.inr h
  have hS : va_S A s.heap s.heap [] := va_S.rf
  have hP : va_P g.1 vwCl [(a_X, .inr (4, [.ref a_P, .ref a_X_levels, .ref a_E, .ref a_F, .ref a_R, .ref a_X_vector, .ref a_X_solution, .int X_solved, .int X_levelCount])), (a_P, .inr (2, [.int P_rows, .ref a_P_entries, .ref a_P_order, .ref a_P_places, .ref a_P_rights, .ref a_P_weights])), (a_E, .inr (0, [.ref a_E_joined, .ref a_E_later, .ref a_E_paths])), (a_P_entries, .inl (g.2.1, 256, .inl P_entries)), (a_E_joined, .inl (g.2.1, 16, .inl E_joined)), (a_P_order, .inl (g.2.1, 16, .inl P_order)), (a_E_later, .inl (g.2.1, 16, .inl E_later)), (a_E_paths, .inl (g.2.1, 16, .inl E_paths))] s.heap := hP
  have hD : va_D A [(a_X, .inr (4, [.ref a_P, .ref a_X_levels, .ref a_E, .ref a_F, .ref a_R, .ref a_X_vector, .ref a_X_solution, .int X_solved, .int X_levelCount])), (a_P, .inr (2, [.int P_rows, .ref a_P_entries, .ref a_P_order, .ref a_P_places, .ref a_P_rights, .ref a_P_weights])), (a_E, .inr (0, [.ref a_E_joined, .ref a_E_later, .ref a_E_paths])), (a_P_entries, .inl (g.2.1, 256, .inl P_entries)), (a_E_joined, .inl (g.2.1, 16, .inl E_joined)), (a_P_order, .inl (g.2.1, 16, .inl P_order)), (a_E_later, .inl (g.2.1, 16, .inl E_later)), (a_E_paths, .inl (g.2.1, 16, .inl E_paths))] := hD
  have hl := lv_entry ([.ref a_X]) (n := 1) (Nat.le_of_ble_eq_true rfl)
  rw [lg_entry_eq]
  generalize (lg_sl ([.ref a_X]) ++ List.replicate (1 - (lg_sl ([.ref a_X])).length) Slot.unset).toArray = ls at hl ⊢
  have hl : lv_has ls 1 [(0, .ref a_X)] := hl
  unfold wp_X4_fillCount at hv
  refine lv_aload_n hx hb dX4_fillCount_0 rfl (lv_at hl 0 rfl) ?_
  refine cx_iV (wr := []) (As := []) (rest := []) ⟨hx, hb, hml, hown, hts⟩ (c_X4_countFill l g a_X a_P a_X_levels a_E a_F a_R a_X_vector a_X_solution a_P_entries a_P_order a_P_places a_P_rights a_P_weights a_E_joined a_E_later a_E_paths X_solved X_levelCount P_rows P_entries E_joined P_order E_later E_paths hv) (cx_cwV 0 hts cw_m_X4_106 cw_i_X4_countFill cw_s_X4_countFill cw_n_X4 cw_c_X4_countFill rfl rfl (by decide +kernel) ⟨Nat.le_of_ble_eq_true rfl, Nat.le_of_ble_eq_true rfl⟩) hK hP hD hS hA 0 4 rfl rfl [0, 1, 2, 3, 4, 5, 6, 7] [] rfl rfl rfl rfl (by decide) rfl hl.1 rfl (Nat.le_of_ble_eq_true rfl) dX4_fillCount_1 ⟨Nat.le_of_ble_eq_true rfl, Nat.le_of_ble_eq_true rfl⟩ (fun r_1 w_5 H locs hv hP hD hS => ?_)
  obtain ⟨u_2, u_3, u_4⟩ := w_5
  have hP : va_P g.1 vwCl [(a_X, .inr (4, [.ref a_P, .ref a_X_levels, .ref a_E, .ref a_F, .ref a_R, .ref a_X_vector, .ref a_X_solution, .int X_solved, .int X_levelCount])), (a_P, .inr (2, [.int P_rows, .ref a_P_entries, .ref a_P_order, .ref a_P_places, .ref a_P_rights, .ref a_P_weights])), (a_E, .inr (0, [.ref a_E_joined, .ref a_E_later, .ref a_E_paths])), (a_P_entries, .inl (g.2.1, 256, .inl P_entries)), (a_E_joined, .inl (g.2.1, 16, .inl u_2)), (a_P_order, .inl (g.2.1, 16, .inl P_order)), (a_E_later, .inl (g.2.1, 16, .inl u_3)), (a_E_paths, .inl (g.2.1, 16, .inl u_4))] H := hP.sub [0, 1, 2, 3, 4, 5, 6, 7] rfl
  have hD : va_D A [(a_X, .inr (4, [.ref a_P, .ref a_X_levels, .ref a_E, .ref a_F, .ref a_R, .ref a_X_vector, .ref a_X_solution, .int X_solved, .int X_levelCount])), (a_P, .inr (2, [.int P_rows, .ref a_P_entries, .ref a_P_order, .ref a_P_places, .ref a_P_rights, .ref a_P_weights])), (a_E, .inr (0, [.ref a_E_joined, .ref a_E_later, .ref a_E_paths])), (a_P_entries, .inl (g.2.1, 256, .inl P_entries)), (a_E_joined, .inl (g.2.1, 16, .inl u_2)), (a_P_order, .inl (g.2.1, 16, .inl P_order)), (a_E_later, .inl (g.2.1, 16, .inl u_3)), (a_E_paths, .inl (g.2.1, 16, .inl u_4))] := hD.sub [0, 1, 2, 3, 4, 5, 6, 7] (by decide) rfl
  exact cx_iret hx hb hr hlocks hAe hS (u_2, u_3, u_4) hv hP hD dX4_fillCount_4
def vc_X4_work_0 (X_solved : Int32) (X_levelCount : Int32) (P_rows : Int32) (P_entries : (Nat → Int32)) (E_joined : (Nat → Int32)) (P_order : (Nat → Int32)) (E_later : (Nat → Int32)) (E_paths : (Nat → Int32)) (Q : Int32 → (Nat → Int32) → (Nat → Int32) → (Nat → Int32) → Prop) (G1 : Int32 → Int32 → (Nat → Int32) → (Nat → Int32) → (Nat → Int32) → Prop)  : Prop := wp_X0_run P_rows P_entries E_joined P_order E_later E_paths (fun u_2 u_3 u_4 => G1 0 0 u_2 u_3 u_4)
def vc_X4_work_1 (X_solved : Int32) (X_levelCount : Int32) (P_rows : Int32) (P_entries : (Nat → Int32)) (E_joined : (Nat → Int32)) (P_order : (Nat → Int32)) (E_later : (Nat → Int32)) (E_paths : (Nat → Int32)) (Q : Int32 → (Nat → Int32) → (Nat → Int32) → (Nat → Int32) → Prop) (G1 : Int32 → Int32 → (Nat → Int32) → (Nat → Int32) → (Nat → Int32) → Prop) (x2 : Int32) (x1 : Int32) (v_E_joined : (Nat → Int32)) (v_E_later : (Nat → Int32)) (v_E_paths : (Nat → Int32)) : Prop := (P_rows ≤ x2 → (Q x1 v_E_joined v_E_later v_E_paths)) ∧ (¬ P_rows ≤ x2 → (vp_in x2 16 ∧ (∀ x3_3 : Int32, x3_3 = (f_bc (v_E_later (Int32.toNatClampNeg x2))) → (∀ x1_4 : Int32, x1_4 = (x1 + (x3_3 * x3_3)) → (∀ x2_5 : Int32, x2_5 = x2 + 1 → (G1 x2_5 x1_4 v_E_joined v_E_later v_E_paths))))))
def wp_X4_work (X_solved : Int32) (X_levelCount : Int32) (P_rows : Int32) (P_entries : (Nat → Int32)) (E_joined : (Nat → Int32)) (P_order : (Nat → Int32)) (E_later : (Nat → Int32)) (E_paths : (Nat → Int32)) (Q : Int32 → (Nat → Int32) → (Nat → Int32) → (Nat → Int32) → Prop) : Prop := ∀ (G1 : Int32 → Int32 → (Nat → Int32) → (Nat → Int32) → (Nat → Int32) → Prop), (∀ (x2 : Int32) (x1 : Int32) (v_E_joined : (Nat → Int32)) (v_E_later : (Nat → Int32)) (v_E_paths : (Nat → Int32)), vc_X4_work_1 X_solved X_levelCount P_rows P_entries E_joined P_order E_later E_paths Q G1 x2 x1 v_E_joined v_E_later v_E_paths → G1 x2 x1 v_E_joined v_E_later v_E_paths) → vc_X4_work_0 X_solved X_levelCount P_rows P_entries E_joined P_order E_later E_paths Q G1
abbrev w0_X4_work (g : cx_G) (a_X a_P a_X_levels a_E a_F a_R a_X_vector a_X_solution a_P_entries a_P_order a_P_places a_P_rights a_P_weights a_E_joined a_E_later a_E_paths : Nat) (X_solved : Int32) (X_levelCount : Int32) (P_rows : Int32) (P_entries : (Nat → Int32)) (E_joined : (Nat → Int32)) (P_order : (Nat → Int32)) (E_later : (Nat → Int32)) (E_paths : (Nat → Int32)) : va_W := [(a_X, .inr (4, [.ref a_P, .ref a_X_levels, .ref a_E, .ref a_F, .ref a_R, .ref a_X_vector, .ref a_X_solution, .int X_solved, .int X_levelCount])), (a_P, .inr (2, [.int P_rows, .ref a_P_entries, .ref a_P_order, .ref a_P_places, .ref a_P_rights, .ref a_P_weights])), (a_E, .inr (0, [.ref a_E_joined, .ref a_E_later, .ref a_E_paths])), (a_P_entries, .inl (g.2.1, 256, .inl P_entries)), (a_E_joined, .inl (g.2.1, 16, .inl E_joined)), (a_P_order, .inl (g.2.1, 16, .inl P_order)), (a_E_later, .inl (g.2.1, 16, .inl E_later)), (a_E_paths, .inl (g.2.1, 16, .inl E_paths))]
abbrev w1_X4_work (g : cx_G) (a_X a_P a_X_levels a_E a_F a_R a_X_vector a_X_solution a_P_entries a_P_order a_P_places a_P_rights a_P_weights a_E_joined a_E_later a_E_paths : Nat) (X_solved : Int32) (X_levelCount : Int32) (P_rows : Int32) (P_entries : (Nat → Int32)) (E_joined : (Nat → Int32)) (P_order : (Nat → Int32)) (E_later : (Nat → Int32)) (E_paths : (Nat → Int32)) (u : (Nat → Int32) × (Nat → Int32) × (Nat → Int32)) : va_W := [(a_X, .inr (4, [.ref a_P, .ref a_X_levels, .ref a_E, .ref a_F, .ref a_R, .ref a_X_vector, .ref a_X_solution, .int X_solved, .int X_levelCount])), (a_P, .inr (2, [.int P_rows, .ref a_P_entries, .ref a_P_order, .ref a_P_places, .ref a_P_rights, .ref a_P_weights])), (a_E, .inr (0, [.ref a_E_joined, .ref a_E_later, .ref a_E_paths])), (a_P_entries, .inl (g.2.1, 256, .inl P_entries)), (a_E_joined, .inl (g.2.1, 16, .inl u.1)), (a_P_order, .inl (g.2.1, 16, .inl P_order)), (a_E_later, .inl (g.2.1, 16, .inl u.2.1)), (a_E_paths, .inl (g.2.1, 16, .inl u.2.2))]
set_option maxHeartbeats 4000000 in
set_option maxRecDepth 100000 in
theorem c_X4_work (l : Launch) (g : cx_G) (a_X a_P a_X_levels a_E a_F a_R a_X_vector a_X_solution a_P_entries a_P_order a_P_places a_P_rights a_P_weights a_E_joined a_E_later a_E_paths : Nat) (X_solved : Int32) (X_levelCount : Int32) (P_rows : Int32) (P_entries : (Nat → Int32)) (E_joined : (Nat → Int32)) (P_order : (Nat → Int32)) (E_later : (Nat → Int32)) (E_paths : (Nat → Int32)) {Q : Int32 → (Nat → Int32) → (Nat → Int32) → (Nat → Int32) → Prop} (hv : wp_X4_work X_solved X_levelCount P_rows P_entries E_joined P_order E_later E_paths Q) : cx_Mi l g yX4_work (Cond.code yX4_work cX4_work 4 (some .int) :: cx_T) ({ frames := 5, cells := 0, slots := 0, locals := 112 } : Room) [.ref a_X] (w0_X4_work g a_X a_P a_X_levels a_E a_F a_R a_X_vector a_X_solution a_P_entries a_P_order a_P_places a_P_rights a_P_weights a_E_joined a_E_later a_E_paths X_solved X_levelCount P_rows P_entries E_joined P_order E_later E_paths) (fun (r : Int32) (u : (Nat → Int32) × (Nat → Int32) × (Nat → Int32)) => Q r u.1 u.2.1 u.2.2) (w1_X4_work g a_X a_P a_X_levels a_E a_F a_R a_X_vector a_X_solution a_P_entries a_P_order a_P_places a_P_rights a_P_weights a_E_joined a_E_later a_E_paths X_solved X_levelCount P_rows P_entries E_joined P_order E_later E_paths) 0 0 := by
  intro sz
  refine Met.ofW (cc := cX4_work) (maxL := 4) (ret := (some .int)) (by decide) rfl ?_
  intro p e s m args below meth c s₁ B hml hpre
  obtain ⟨rfl, hsz, hP, hK, hD0⟩ := hpre
  have hx := B.exec
  have hb := B.bytes
  have hr := B.returns
  have hts0 := atoms_spec (ws := (Cond.code yX4_work cX4_work 4 (some .int) :: cx_T)) B.pre
  have hts : ∀ w ∈ cx_T, w.before _ s = true := fun w h => hts0 w (List.mem_cons_of_mem _ h)
  have hown : s.vm.findClass RX4 = some m.cls := findClass_of_methodNamed B.named
  have hlocks := B.notSynchronized
  subst hsz
  have hD := hD0.self (sz := s.heap.size)
  obtain ⟨A, hAe⟩ : ∃ A : Nat → Prop, A = va_A (w0_X4_work g a_X a_P a_X_levels a_E a_F a_R a_X_vector a_X_solution a_P_entries a_P_order a_P_places a_P_rights a_P_weights a_E_joined a_E_later a_E_paths X_solved X_levelCount P_rows P_entries E_joined P_order E_later E_paths) s.heap.size := ⟨_, rfl⟩
  rw [← hAe] at hD
  have hA : ∀ q : Nat, s.heap.size ≤ q → A q := fun q h => by rw [hAe]; exact Or.inr h
  have hS : va_S A s.heap s.heap [] := va_S.rf
  have hP : va_P g.1 vwCl [(a_X, .inr (4, [.ref a_P, .ref a_X_levels, .ref a_E, .ref a_F, .ref a_R, .ref a_X_vector, .ref a_X_solution, .int X_solved, .int X_levelCount])), (a_P, .inr (2, [.int P_rows, .ref a_P_entries, .ref a_P_order, .ref a_P_places, .ref a_P_rights, .ref a_P_weights])), (a_E, .inr (0, [.ref a_E_joined, .ref a_E_later, .ref a_E_paths])), (a_P_entries, .inl (g.2.1, 256, .inl P_entries)), (a_E_joined, .inl (g.2.1, 16, .inl E_joined)), (a_P_order, .inl (g.2.1, 16, .inl P_order)), (a_E_later, .inl (g.2.1, 16, .inl E_later)), (a_E_paths, .inl (g.2.1, 16, .inl E_paths))] s.heap := hP
  have hD : va_D A [(a_X, .inr (4, [.ref a_P, .ref a_X_levels, .ref a_E, .ref a_F, .ref a_R, .ref a_X_vector, .ref a_X_solution, .int X_solved, .int X_levelCount])), (a_P, .inr (2, [.int P_rows, .ref a_P_entries, .ref a_P_order, .ref a_P_places, .ref a_P_rights, .ref a_P_weights])), (a_E, .inr (0, [.ref a_E_joined, .ref a_E_later, .ref a_E_paths])), (a_P_entries, .inl (g.2.1, 256, .inl P_entries)), (a_E_joined, .inl (g.2.1, 16, .inl E_joined)), (a_P_order, .inl (g.2.1, 16, .inl P_order)), (a_E_later, .inl (g.2.1, 16, .inl E_later)), (a_E_paths, .inl (g.2.1, 16, .inl E_paths))] := hD
  have hl := lv_entry ([.ref a_X]) (n := 4) (Nat.le_of_ble_eq_true rfl)
  rw [lg_entry_eq]
  generalize (lg_sl ([.ref a_X]) ++ List.replicate (4 - (lg_sl ([.ref a_X])).length) Slot.unset).toArray = ls at hl ⊢
  have hl : lv_has ls 4 [(0, .ref a_X)] := hl
  obtain ⟨G1, hG1⟩ : ∃ G : Int32 → Int32 → (Nat → Int32) → (Nat → Int32) → (Nat → Int32) → Prop, G = (fun (x2 : Int32) (x1 : Int32) (v_E_joined : (Nat → Int32)) (v_E_later : (Nat → Int32)) (v_E_paths : (Nat → Int32)) => ∀ (H : Heap) (locs : List Loc) (ls : Array Slot), va_P g.1 vwCl [(a_X, .inr (4, [.ref a_P, .ref a_X_levels, .ref a_E, .ref a_F, .ref a_R, .ref a_X_vector, .ref a_X_solution, .int X_solved, .int X_levelCount])), (a_P, .inr (2, [.int P_rows, .ref a_P_entries, .ref a_P_order, .ref a_P_places, .ref a_P_rights, .ref a_P_weights])), (a_E, .inr (0, [.ref a_E_joined, .ref a_E_later, .ref a_E_paths])), (a_P_entries, .inl (g.2.1, 256, .inl P_entries)), (a_E_joined, .inl (g.2.1, 16, .inl v_E_joined)), (a_P_order, .inl (g.2.1, 16, .inl P_order)), (a_E_later, .inl (g.2.1, 16, .inl v_E_later)), (a_E_paths, .inl (g.2.1, 16, .inl v_E_paths))] H → va_D A [(a_X, .inr (4, [.ref a_P, .ref a_X_levels, .ref a_E, .ref a_F, .ref a_R, .ref a_X_vector, .ref a_X_solution, .int X_solved, .int X_levelCount])), (a_P, .inr (2, [.int P_rows, .ref a_P_entries, .ref a_P_order, .ref a_P_places, .ref a_P_rights, .ref a_P_weights])), (a_E, .inr (0, [.ref a_E_joined, .ref a_E_later, .ref a_E_paths])), (a_P_entries, .inl (g.2.1, 256, .inl P_entries)), (a_E_joined, .inl (g.2.1, 16, .inl v_E_joined)), (a_P_order, .inl (g.2.1, 16, .inl P_order)), (a_E_later, .inl (g.2.1, 16, .inl v_E_later)), (a_E_paths, .inl (g.2.1, 16, .inl v_E_paths))] → va_S A s.heap H locs → lv_has ls 4 [(2, .int x2), (1, .int x1), (0, .ref a_X)] → W p l e (headSpec (Cond.code yX4_work cX4_work 4 (some .int) :: cx_T) ({ frames := 5, cells := 0, slots := 0, locals := 112 } : Room)).room s m ([.ref a_X] : List Value).toArray below meth c H locs 0 0 (MQ below (va_Qi (fun (r : Int32) (u : (Nat → Int32) × (Nat → Int32) × (Nat → Int32)) => Q r u.1 u.2.1 u.2.2) (cx_B g (w0_X4_work g a_X a_P a_X_levels a_E a_F a_R a_X_vector a_X_solution a_P_entries a_P_order a_P_places a_P_rights a_P_weights a_E_joined a_E_later a_E_paths X_solved X_levelCount P_rows P_entries E_joined P_order E_later E_paths) s.heap.size (w1_X4_work g a_X a_P a_X_levels a_E a_F a_R a_X_vector a_X_solution a_P_entries a_P_order a_P_places a_P_rights a_P_weights a_E_joined a_E_later a_E_paths X_solved X_levelCount P_rows P_entries E_joined P_order E_later E_paths)) (va_A (w0_X4_work g a_X a_P a_X_levels a_E a_F a_R a_X_vector a_X_solution a_P_entries a_P_order a_P_places a_P_rights a_P_weights a_E_joined a_E_later a_E_paths X_solved X_levelCount P_rows P_entries E_joined P_order E_later E_paths) s.heap.size)) ([.ref a_X] : List Value).toArray s 0 0 (va_A (w0_X4_work g a_X a_P a_X_levels a_E a_F a_R a_X_vector a_X_solution a_P_entries a_P_order a_P_places a_P_rights a_P_weights a_E_joined a_E_later a_E_paths X_solved X_levelCount P_rows P_entries E_joined P_order E_later E_paths) s.heap.size)) (F0 m 15 ls [])) := ⟨_, rfl⟩
  have hs1 : ∀ (x2 : Int32) (x1 : Int32) (v_E_joined : (Nat → Int32)) (v_E_later : (Nat → Int32)) (v_E_paths : (Nat → Int32)), vc_X4_work_1 X_solved X_levelCount P_rows P_entries E_joined P_order E_later E_paths Q G1 x2 x1 v_E_joined v_E_later v_E_paths → G1 x2 x1 v_E_joined v_E_later v_E_paths := by
    rw [hG1]
    intro x2 x1 v_E_joined v_E_later v_E_paths hv H locs ls hP hD hS hl
    unfold vc_X4_work_1 at hv
    refine lv_iload_n hx hb dX4_work_15 rfl (lv_at hl 0 rfl) ?_
    refine lv_aload_n hx hb dX4_work_16 rfl (lv_at hl 2 rfl) ?_
    refine va_get (D := g.1) (ci := 4) (v := .ref a_P) (C := RX4) (T := TX4) (N := 9) hx hb hts cw_in_X4 hown hK.1 hP 0 rfl rfl 0 (by decide) (hts _ cw_f_X4_10) (fun _ h9 => h9) rfl dX4_work_17 ?_
    refine va_get (D := g.1) (ci := 2) (v := .int P_rows) (C := RX2) (T := TX2) (N := 6) hx hb hts cw_in_X2 hown hK.1 hP 1 rfl rfl 0 (by decide) (hts _ cw_f_X4_70) (fun _ h9 => h9) rfl dX4_work_20 ?_
    refine lv_icmp_ge (tgt := 51) hx hb dX4_work_23 (by decide) (fun hc => ?_) (fun hc => ?_)
    · replace hv := hv.1 hc
      refine lv_iload_n hx hb dX4_work_51 rfl (lv_at hl 1 rfl) ?_
      exact cx_iret hx hb hr hlocks hAe hS (v_E_joined, v_E_later, v_E_paths) hv hP hD dX4_work_52
    · replace hv := hv.2 hc
      refine lv_aload_n hx hb dX4_work_26 rfl (lv_at hl 2 rfl) ?_
      refine va_get (D := g.1) (ci := 4) (v := .ref a_E) (C := RX4) (T := TX4) (N := 9) hx hb hts cw_in_X4 hown hK.1 hP 0 rfl rfl 2 (by decide) (hts _ cw_f_X4_23) (fun _ h9 => h9) rfl dX4_work_27 ?_
      refine va_get (D := g.1) (ci := 0) (v := .ref a_E_later) (C := RX0) (T := TX0) (N := 3) hx hb hts cw_in_X0 hown hK.1 hP 2 rfl rfl 1 (by decide) (hts _ cw_f_X4_130) (fun _ h9 => h9) rfl dX4_work_30 ?_
      refine lv_iload_n hx hb dX4_work_33 rfl (lv_at hl 0 rfl) ?_
      obtain ⟨h_1, hv⟩ := hv
      refine va_iald (D := g.1) hx hb hK.1 hP 6 0 rfl rfl h_1 dX4_work_34 ?_
      refine cx_iSr (As := [.int (v_E_later (Int32.toNatClampNeg x2))]) (rest := []) ⟨hx, hb, hml, hown, hts⟩ (cp_J6_bitCount_0f7a4 l g (v_E_later (Int32.toNatClampNeg x2))) (cx_cwS 1 hts cw_m_X4_137 cw_t_J6_bitCount_0f7a4 cw_n_J6 cw_c_J6_bitCount_0f7a4 rfl rfl (by decide +kernel) ⟨Nat.le_of_ble_eq_true rfl, Nat.le_of_ble_eq_true rfl⟩) hK hP hD hS hA [] rfl rfl rfl hl.1 rfl (Nat.le_of_ble_eq_true rfl) dX4_work_35 ⟨Nat.le_of_ble_eq_true rfl, Nat.le_of_ble_eq_true rfl⟩ (fun r_2 H locs hr9 hP hS => ?_)
      replace hr9 : r_2 = (f_bc (v_E_later (Int32.toNatClampNeg x2))) := hr9
      subst hr9
      refine lv_topi (fun x3_3 ex3_3 => ?_)
      replace hv := hv x3_3 ex3_3
      refine lv_istore_n (lv' := [(3, .int x3_3), (2, .int x2), (1, .int x1), (0, .ref a_X)]) hx hb dX4_work_38 rfl hl (by decide) rfl (fun ls hl => ?_)
      refine lv_iload_n hx hb dX4_work_39 rfl (lv_at hl 2 rfl) ?_
      refine lv_iload_n hx hb dX4_work_40 rfl (lv_at hl 0 rfl) ?_
      refine lv_iload_n hx hb dX4_work_41 rfl (lv_at hl 0 rfl) ?_
      refine lv_imul hx hb dX4_work_42 ?_
      refine lv_iadd hx hb dX4_work_43 ?_
      refine lv_topi (fun x1_4 ex1_4 => ?_)
      replace hv := hv x1_4 ex1_4
      refine lv_istore_n (lv' := [(1, .int x1_4), (3, .int x3_3), (2, .int x2), (0, .ref a_X)]) hx hb dX4_work_44 rfl hl (by decide) rfl (fun ls hl => ?_)
      obtain ⟨x2_5, ex2_5⟩ : ∃ y : Int32, y = x2 + 1 := ⟨_, rfl⟩
      replace hv := hv x2_5 ex2_5
      refine lv_iinc (v := x2_5) (lv' := [(2, .int x2_5), (1, .int x1_4), (3, .int x3_3), (0, .ref a_X)]) hx hb dX4_work_45 hl (k := 2) rfl (by rw [ex2_5]; rfl) (by decide) rfl (fun ls hl => ?_)
      refine lv_goto (tgt := 15) hx hb dX4_work_48 (by decide) ?_
      exact hv _ _ _ hP hD hS (lv_sub hl [0, 1, 3] rfl)
  replace hv := hv G1 hs1
  rw [hG1] at hv
  unfold vc_X4_work_0 at hv
  refine lv_aload_n hx hb dX4_work_0 rfl (lv_at hl 0 rfl) ?_
  refine va_get (D := g.1) (ci := 4) (v := .ref a_E) (C := RX4) (T := TX4) (N := 9) hx hb hts cw_in_X4 hown hK.1 hP 0 rfl rfl 2 (by decide) (hts _ cw_f_X4_23) (fun _ h9 => h9) rfl dX4_work_1 ?_
  refine lv_aload_n hx hb dX4_work_4 rfl (lv_at hl 0 rfl) ?_
  refine va_get (D := g.1) (ci := 4) (v := .ref a_P) (C := RX4) (T := TX4) (N := 9) hx hb hts cw_in_X4 hown hK.1 hP 0 rfl rfl 0 (by decide) (hts _ cw_f_X4_10) (fun _ h9 => h9) rfl dX4_work_5 ?_
  refine cx_vV (wr := [(a_X, .inr (4, [.ref a_P, .ref a_X_levels, .ref a_E, .ref a_F, .ref a_R, .ref a_X_vector, .ref a_X_solution, .int X_solved, .int X_levelCount]))]) (As := [.ref a_P]) (rest := []) ⟨hx, hb, hml, hown, hts⟩ (c_X0_run l g a_E a_P a_P_entries a_P_order a_P_places a_P_rights a_P_weights a_E_joined a_E_later a_E_paths P_rows P_entries E_joined P_order E_later E_paths hv) (cx_cwV 1 hts cw_m_X4_127 cw_i_X0_run cw_s_X0_run cw_n_X0 cw_c_X0_run rfl rfl (by decide +kernel) ⟨Nat.le_of_ble_eq_true rfl, Nat.le_of_ble_eq_true rfl⟩) hK hP hD hS hA 2 0 rfl rfl [1, 2, 3, 4, 5, 6, 7] [0] rfl rfl rfl rfl (by decide) rfl hl.1 rfl (Nat.le_of_ble_eq_true rfl) dX4_work_8 ⟨Nat.le_of_ble_eq_true rfl, Nat.le_of_ble_eq_true rfl⟩ (fun w_5 H locs hv hP hD hS => ?_)
  obtain ⟨u_2, u_3, u_4⟩ := w_5
  have hP : va_P g.1 vwCl [(a_X, .inr (4, [.ref a_P, .ref a_X_levels, .ref a_E, .ref a_F, .ref a_R, .ref a_X_vector, .ref a_X_solution, .int X_solved, .int X_levelCount])), (a_P, .inr (2, [.int P_rows, .ref a_P_entries, .ref a_P_order, .ref a_P_places, .ref a_P_rights, .ref a_P_weights])), (a_E, .inr (0, [.ref a_E_joined, .ref a_E_later, .ref a_E_paths])), (a_P_entries, .inl (g.2.1, 256, .inl P_entries)), (a_E_joined, .inl (g.2.1, 16, .inl u_2)), (a_P_order, .inl (g.2.1, 16, .inl P_order)), (a_E_later, .inl (g.2.1, 16, .inl u_3)), (a_E_paths, .inl (g.2.1, 16, .inl u_4))] H := hP.sub [0, 1, 2, 3, 4, 5, 6, 7] rfl
  have hD : va_D A [(a_X, .inr (4, [.ref a_P, .ref a_X_levels, .ref a_E, .ref a_F, .ref a_R, .ref a_X_vector, .ref a_X_solution, .int X_solved, .int X_levelCount])), (a_P, .inr (2, [.int P_rows, .ref a_P_entries, .ref a_P_order, .ref a_P_places, .ref a_P_rights, .ref a_P_weights])), (a_E, .inr (0, [.ref a_E_joined, .ref a_E_later, .ref a_E_paths])), (a_P_entries, .inl (g.2.1, 256, .inl P_entries)), (a_E_joined, .inl (g.2.1, 16, .inl u_2)), (a_P_order, .inl (g.2.1, 16, .inl P_order)), (a_E_later, .inl (g.2.1, 16, .inl u_3)), (a_E_paths, .inl (g.2.1, 16, .inl u_4))] := hD.sub [0, 1, 2, 3, 4, 5, 6, 7] (by decide) rfl
  refine lv_iconst (v := 0) hx hb dX4_work_11 (by decide) ?_
  refine lv_istore_n (lv' := [(1, .int 0), (0, .ref a_X)]) hx hb dX4_work_12 rfl hl (by decide) rfl (fun ls hl => ?_)
  refine lv_iconst (v := 0) hx hb dX4_work_13 (by decide) ?_
  refine lv_istore_n (lv' := [(2, .int 0), (1, .int 0), (0, .ref a_X)]) hx hb dX4_work_14 rfl hl (by decide) rfl (fun ls hl => ?_)
  exact hv _ _ _ hP hD hS (lv_sub hl [0, 1, 2] rfl)
def vc_X4_height_0 (X_solved : Int32) (X_levelCount : Int32) (P_rows : Int32) (P_entries : (Nat → Int32)) (E_joined : (Nat → Int32)) (P_order : (Nat → Int32)) (E_later : (Nat → Int32)) (E_paths : (Nat → Int32)) (Q : Int32 → (Nat → Int32) → (Nat → Int32) → (Nat → Int32) → Prop) (G1 : Int32 → Int32 → (Nat → Int32) → (Nat → Int32) → (Nat → Int32) → Prop)  : Prop := wp_X0_run P_rows P_entries E_joined P_order E_later E_paths (fun u_2 u_3 u_4 => G1 0 0 u_2 u_3 u_4)
def vc_X4_height_1 (X_solved : Int32) (X_levelCount : Int32) (P_rows : Int32) (P_entries : (Nat → Int32)) (E_joined : (Nat → Int32)) (P_order : (Nat → Int32)) (E_later : (Nat → Int32)) (E_paths : (Nat → Int32)) (Q : Int32 → (Nat → Int32) → (Nat → Int32) → (Nat → Int32) → Prop) (G1 : Int32 → Int32 → (Nat → Int32) → (Nat → Int32) → (Nat → Int32) → Prop) (x2 : Int32) (x1 : Int32) (v_E_joined : (Nat → Int32)) (v_E_later : (Nat → Int32)) (v_E_paths : (Nat → Int32)) : Prop := (P_rows ≤ x2 → (Q x1 v_E_joined v_E_later v_E_paths)) ∧ (¬ P_rows ≤ x2 → (vp_in x2 16 ∧ (∀ x1_3 : Int32, x1_3 = (if x1 < (f_bc (v_E_paths (Int32.toNatClampNeg x2))) then (f_bc (v_E_paths (Int32.toNatClampNeg x2))) else x1) → (∀ x2_4 : Int32, x2_4 = x2 + 1 → (G1 x2_4 x1_3 v_E_joined v_E_later v_E_paths)))))
def wp_X4_height (X_solved : Int32) (X_levelCount : Int32) (P_rows : Int32) (P_entries : (Nat → Int32)) (E_joined : (Nat → Int32)) (P_order : (Nat → Int32)) (E_later : (Nat → Int32)) (E_paths : (Nat → Int32)) (Q : Int32 → (Nat → Int32) → (Nat → Int32) → (Nat → Int32) → Prop) : Prop := ∀ (G1 : Int32 → Int32 → (Nat → Int32) → (Nat → Int32) → (Nat → Int32) → Prop), (∀ (x2 : Int32) (x1 : Int32) (v_E_joined : (Nat → Int32)) (v_E_later : (Nat → Int32)) (v_E_paths : (Nat → Int32)), vc_X4_height_1 X_solved X_levelCount P_rows P_entries E_joined P_order E_later E_paths Q G1 x2 x1 v_E_joined v_E_later v_E_paths → G1 x2 x1 v_E_joined v_E_later v_E_paths) → vc_X4_height_0 X_solved X_levelCount P_rows P_entries E_joined P_order E_later E_paths Q G1
abbrev w0_X4_height (g : cx_G) (a_X a_P a_X_levels a_E a_F a_R a_X_vector a_X_solution a_P_entries a_P_order a_P_places a_P_rights a_P_weights a_E_joined a_E_later a_E_paths : Nat) (X_solved : Int32) (X_levelCount : Int32) (P_rows : Int32) (P_entries : (Nat → Int32)) (E_joined : (Nat → Int32)) (P_order : (Nat → Int32)) (E_later : (Nat → Int32)) (E_paths : (Nat → Int32)) : va_W := [(a_X, .inr (4, [.ref a_P, .ref a_X_levels, .ref a_E, .ref a_F, .ref a_R, .ref a_X_vector, .ref a_X_solution, .int X_solved, .int X_levelCount])), (a_P, .inr (2, [.int P_rows, .ref a_P_entries, .ref a_P_order, .ref a_P_places, .ref a_P_rights, .ref a_P_weights])), (a_E, .inr (0, [.ref a_E_joined, .ref a_E_later, .ref a_E_paths])), (a_P_entries, .inl (g.2.1, 256, .inl P_entries)), (a_E_joined, .inl (g.2.1, 16, .inl E_joined)), (a_P_order, .inl (g.2.1, 16, .inl P_order)), (a_E_later, .inl (g.2.1, 16, .inl E_later)), (a_E_paths, .inl (g.2.1, 16, .inl E_paths))]
abbrev w1_X4_height (g : cx_G) (a_X a_P a_X_levels a_E a_F a_R a_X_vector a_X_solution a_P_entries a_P_order a_P_places a_P_rights a_P_weights a_E_joined a_E_later a_E_paths : Nat) (X_solved : Int32) (X_levelCount : Int32) (P_rows : Int32) (P_entries : (Nat → Int32)) (E_joined : (Nat → Int32)) (P_order : (Nat → Int32)) (E_later : (Nat → Int32)) (E_paths : (Nat → Int32)) (u : (Nat → Int32) × (Nat → Int32) × (Nat → Int32)) : va_W := [(a_X, .inr (4, [.ref a_P, .ref a_X_levels, .ref a_E, .ref a_F, .ref a_R, .ref a_X_vector, .ref a_X_solution, .int X_solved, .int X_levelCount])), (a_P, .inr (2, [.int P_rows, .ref a_P_entries, .ref a_P_order, .ref a_P_places, .ref a_P_rights, .ref a_P_weights])), (a_E, .inr (0, [.ref a_E_joined, .ref a_E_later, .ref a_E_paths])), (a_P_entries, .inl (g.2.1, 256, .inl P_entries)), (a_E_joined, .inl (g.2.1, 16, .inl u.1)), (a_P_order, .inl (g.2.1, 16, .inl P_order)), (a_E_later, .inl (g.2.1, 16, .inl u.2.1)), (a_E_paths, .inl (g.2.1, 16, .inl u.2.2))]
set_option maxHeartbeats 4000000 in
set_option maxRecDepth 100000 in
theorem c_X4_height (l : Launch) (g : cx_G) (a_X a_P a_X_levels a_E a_F a_R a_X_vector a_X_solution a_P_entries a_P_order a_P_places a_P_rights a_P_weights a_E_joined a_E_later a_E_paths : Nat) (X_solved : Int32) (X_levelCount : Int32) (P_rows : Int32) (P_entries : (Nat → Int32)) (E_joined : (Nat → Int32)) (P_order : (Nat → Int32)) (E_later : (Nat → Int32)) (E_paths : (Nat → Int32)) {Q : Int32 → (Nat → Int32) → (Nat → Int32) → (Nat → Int32) → Prop} (hv : wp_X4_height X_solved X_levelCount P_rows P_entries E_joined P_order E_later E_paths Q) : cx_Mi l g yX4_height (Cond.code yX4_height cX4_height 3 (some .int) :: cx_T) ({ frames := 5, cells := 0, slots := 0, locals := 112 } : Room) [.ref a_X] (w0_X4_height g a_X a_P a_X_levels a_E a_F a_R a_X_vector a_X_solution a_P_entries a_P_order a_P_places a_P_rights a_P_weights a_E_joined a_E_later a_E_paths X_solved X_levelCount P_rows P_entries E_joined P_order E_later E_paths) (fun (r : Int32) (u : (Nat → Int32) × (Nat → Int32) × (Nat → Int32)) => Q r u.1 u.2.1 u.2.2) (w1_X4_height g a_X a_P a_X_levels a_E a_F a_R a_X_vector a_X_solution a_P_entries a_P_order a_P_places a_P_rights a_P_weights a_E_joined a_E_later a_E_paths X_solved X_levelCount P_rows P_entries E_joined P_order E_later E_paths) 0 0 := by
  intro sz
  refine Met.ofW (cc := cX4_height) (maxL := 3) (ret := (some .int)) (by decide) rfl ?_
  intro p e s m args below meth c s₁ B hml hpre
  obtain ⟨rfl, hsz, hP, hK, hD0⟩ := hpre
  have hx := B.exec
  have hb := B.bytes
  have hr := B.returns
  have hts0 := atoms_spec (ws := (Cond.code yX4_height cX4_height 3 (some .int) :: cx_T)) B.pre
  have hts : ∀ w ∈ cx_T, w.before _ s = true := fun w h => hts0 w (List.mem_cons_of_mem _ h)
  have hown : s.vm.findClass RX4 = some m.cls := findClass_of_methodNamed B.named
  have hlocks := B.notSynchronized
  subst hsz
  have hD := hD0.self (sz := s.heap.size)
  obtain ⟨A, hAe⟩ : ∃ A : Nat → Prop, A = va_A (w0_X4_height g a_X a_P a_X_levels a_E a_F a_R a_X_vector a_X_solution a_P_entries a_P_order a_P_places a_P_rights a_P_weights a_E_joined a_E_later a_E_paths X_solved X_levelCount P_rows P_entries E_joined P_order E_later E_paths) s.heap.size := ⟨_, rfl⟩
  rw [← hAe] at hD
  have hA : ∀ q : Nat, s.heap.size ≤ q → A q := fun q h => by rw [hAe]; exact Or.inr h
  have hS : va_S A s.heap s.heap [] := va_S.rf
  have hP : va_P g.1 vwCl [(a_X, .inr (4, [.ref a_P, .ref a_X_levels, .ref a_E, .ref a_F, .ref a_R, .ref a_X_vector, .ref a_X_solution, .int X_solved, .int X_levelCount])), (a_P, .inr (2, [.int P_rows, .ref a_P_entries, .ref a_P_order, .ref a_P_places, .ref a_P_rights, .ref a_P_weights])), (a_E, .inr (0, [.ref a_E_joined, .ref a_E_later, .ref a_E_paths])), (a_P_entries, .inl (g.2.1, 256, .inl P_entries)), (a_E_joined, .inl (g.2.1, 16, .inl E_joined)), (a_P_order, .inl (g.2.1, 16, .inl P_order)), (a_E_later, .inl (g.2.1, 16, .inl E_later)), (a_E_paths, .inl (g.2.1, 16, .inl E_paths))] s.heap := hP
  have hD : va_D A [(a_X, .inr (4, [.ref a_P, .ref a_X_levels, .ref a_E, .ref a_F, .ref a_R, .ref a_X_vector, .ref a_X_solution, .int X_solved, .int X_levelCount])), (a_P, .inr (2, [.int P_rows, .ref a_P_entries, .ref a_P_order, .ref a_P_places, .ref a_P_rights, .ref a_P_weights])), (a_E, .inr (0, [.ref a_E_joined, .ref a_E_later, .ref a_E_paths])), (a_P_entries, .inl (g.2.1, 256, .inl P_entries)), (a_E_joined, .inl (g.2.1, 16, .inl E_joined)), (a_P_order, .inl (g.2.1, 16, .inl P_order)), (a_E_later, .inl (g.2.1, 16, .inl E_later)), (a_E_paths, .inl (g.2.1, 16, .inl E_paths))] := hD
  have hl := lv_entry ([.ref a_X]) (n := 3) (Nat.le_of_ble_eq_true rfl)
  rw [lg_entry_eq]
  generalize (lg_sl ([.ref a_X]) ++ List.replicate (3 - (lg_sl ([.ref a_X])).length) Slot.unset).toArray = ls at hl ⊢
  have hl : lv_has ls 3 [(0, .ref a_X)] := hl
  obtain ⟨G1, hG1⟩ : ∃ G : Int32 → Int32 → (Nat → Int32) → (Nat → Int32) → (Nat → Int32) → Prop, G = (fun (x2 : Int32) (x1 : Int32) (v_E_joined : (Nat → Int32)) (v_E_later : (Nat → Int32)) (v_E_paths : (Nat → Int32)) => ∀ (H : Heap) (locs : List Loc) (ls : Array Slot), va_P g.1 vwCl [(a_X, .inr (4, [.ref a_P, .ref a_X_levels, .ref a_E, .ref a_F, .ref a_R, .ref a_X_vector, .ref a_X_solution, .int X_solved, .int X_levelCount])), (a_P, .inr (2, [.int P_rows, .ref a_P_entries, .ref a_P_order, .ref a_P_places, .ref a_P_rights, .ref a_P_weights])), (a_E, .inr (0, [.ref a_E_joined, .ref a_E_later, .ref a_E_paths])), (a_P_entries, .inl (g.2.1, 256, .inl P_entries)), (a_E_joined, .inl (g.2.1, 16, .inl v_E_joined)), (a_P_order, .inl (g.2.1, 16, .inl P_order)), (a_E_later, .inl (g.2.1, 16, .inl v_E_later)), (a_E_paths, .inl (g.2.1, 16, .inl v_E_paths))] H → va_D A [(a_X, .inr (4, [.ref a_P, .ref a_X_levels, .ref a_E, .ref a_F, .ref a_R, .ref a_X_vector, .ref a_X_solution, .int X_solved, .int X_levelCount])), (a_P, .inr (2, [.int P_rows, .ref a_P_entries, .ref a_P_order, .ref a_P_places, .ref a_P_rights, .ref a_P_weights])), (a_E, .inr (0, [.ref a_E_joined, .ref a_E_later, .ref a_E_paths])), (a_P_entries, .inl (g.2.1, 256, .inl P_entries)), (a_E_joined, .inl (g.2.1, 16, .inl v_E_joined)), (a_P_order, .inl (g.2.1, 16, .inl P_order)), (a_E_later, .inl (g.2.1, 16, .inl v_E_later)), (a_E_paths, .inl (g.2.1, 16, .inl v_E_paths))] → va_S A s.heap H locs → lv_has ls 3 [(2, .int x2), (1, .int x1), (0, .ref a_X)] → W p l e (headSpec (Cond.code yX4_height cX4_height 3 (some .int) :: cx_T) ({ frames := 5, cells := 0, slots := 0, locals := 112 } : Room)).room s m ([.ref a_X] : List Value).toArray below meth c H locs 0 0 (MQ below (va_Qi (fun (r : Int32) (u : (Nat → Int32) × (Nat → Int32) × (Nat → Int32)) => Q r u.1 u.2.1 u.2.2) (cx_B g (w0_X4_height g a_X a_P a_X_levels a_E a_F a_R a_X_vector a_X_solution a_P_entries a_P_order a_P_places a_P_rights a_P_weights a_E_joined a_E_later a_E_paths X_solved X_levelCount P_rows P_entries E_joined P_order E_later E_paths) s.heap.size (w1_X4_height g a_X a_P a_X_levels a_E a_F a_R a_X_vector a_X_solution a_P_entries a_P_order a_P_places a_P_rights a_P_weights a_E_joined a_E_later a_E_paths X_solved X_levelCount P_rows P_entries E_joined P_order E_later E_paths)) (va_A (w0_X4_height g a_X a_P a_X_levels a_E a_F a_R a_X_vector a_X_solution a_P_entries a_P_order a_P_places a_P_rights a_P_weights a_E_joined a_E_later a_E_paths X_solved X_levelCount P_rows P_entries E_joined P_order E_later E_paths) s.heap.size)) ([.ref a_X] : List Value).toArray s 0 0 (va_A (w0_X4_height g a_X a_P a_X_levels a_E a_F a_R a_X_vector a_X_solution a_P_entries a_P_order a_P_places a_P_rights a_P_weights a_E_joined a_E_later a_E_paths X_solved X_levelCount P_rows P_entries E_joined P_order E_later E_paths) s.heap.size)) (F0 m 15 ls [])) := ⟨_, rfl⟩
  have hs1 : ∀ (x2 : Int32) (x1 : Int32) (v_E_joined : (Nat → Int32)) (v_E_later : (Nat → Int32)) (v_E_paths : (Nat → Int32)), vc_X4_height_1 X_solved X_levelCount P_rows P_entries E_joined P_order E_later E_paths Q G1 x2 x1 v_E_joined v_E_later v_E_paths → G1 x2 x1 v_E_joined v_E_later v_E_paths := by
    rw [hG1]
    intro x2 x1 v_E_joined v_E_later v_E_paths hv H locs ls hP hD hS hl
    unfold vc_X4_height_1 at hv
    refine lv_iload_n hx hb dX4_height_15 rfl (lv_at hl 0 rfl) ?_
    refine lv_aload_n hx hb dX4_height_16 rfl (lv_at hl 2 rfl) ?_
    refine va_get (D := g.1) (ci := 4) (v := .ref a_P) (C := RX4) (T := TX4) (N := 9) hx hb hts cw_in_X4 hown hK.1 hP 0 rfl rfl 0 (by decide) (hts _ cw_f_X4_10) (fun _ h9 => h9) rfl dX4_height_17 ?_
    refine va_get (D := g.1) (ci := 2) (v := .int P_rows) (C := RX2) (T := TX2) (N := 6) hx hb hts cw_in_X2 hown hK.1 hP 1 rfl rfl 0 (by decide) (hts _ cw_f_X4_70) (fun _ h9 => h9) rfl dX4_height_20 ?_
    refine lv_icmp_ge (tgt := 49) hx hb dX4_height_23 (by decide) (fun hc => ?_) (fun hc => ?_)
    · replace hv := hv.1 hc
      refine lv_iload_n hx hb dX4_height_49 rfl (lv_at hl 1 rfl) ?_
      exact cx_iret hx hb hr hlocks hAe hS (v_E_joined, v_E_later, v_E_paths) hv hP hD dX4_height_50
    · replace hv := hv.2 hc
      refine lv_iload_n hx hb dX4_height_26 rfl (lv_at hl 1 rfl) ?_
      refine lv_aload_n hx hb dX4_height_27 rfl (lv_at hl 2 rfl) ?_
      refine va_get (D := g.1) (ci := 4) (v := .ref a_E) (C := RX4) (T := TX4) (N := 9) hx hb hts cw_in_X4 hown hK.1 hP 0 rfl rfl 2 (by decide) (hts _ cw_f_X4_23) (fun _ h9 => h9) rfl dX4_height_28 ?_
      refine va_get (D := g.1) (ci := 0) (v := .ref a_E_paths) (C := RX0) (T := TX0) (N := 3) hx hb hts cw_in_X0 hown hK.1 hP 2 rfl rfl 2 (by decide) (hts _ cw_f_X4_145) (fun _ h9 => h9) rfl dX4_height_31 ?_
      refine lv_iload_n hx hb dX4_height_34 rfl (lv_at hl 0 rfl) ?_
      obtain ⟨h_1, hv⟩ := hv
      refine va_iald (D := g.1) hx hb hK.1 hP 7 0 rfl rfl h_1 dX4_height_35 ?_
      refine cx_iSr (As := [.int (v_E_paths (Int32.toNatClampNeg x2))]) (rest := [.int x1]) ⟨hx, hb, hml, hown, hts⟩ (cp_J6_bitCount_0f7a4 l g (v_E_paths (Int32.toNatClampNeg x2))) (cx_cwS 1 hts cw_m_X4_137 cw_t_J6_bitCount_0f7a4 cw_n_J6 cw_c_J6_bitCount_0f7a4 rfl rfl (by decide +kernel) ⟨Nat.le_of_ble_eq_true rfl, Nat.le_of_ble_eq_true rfl⟩) hK hP hD hS hA [] rfl rfl rfl hl.1 rfl (Nat.le_of_ble_eq_true rfl) dX4_height_36 ⟨Nat.le_of_ble_eq_true rfl, Nat.le_of_ble_eq_true rfl⟩ (fun r_2 H locs hr9 hP hS => ?_)
      replace hr9 : r_2 = (f_bc (v_E_paths (Int32.toNatClampNeg x2))) := hr9
      subst hr9
      refine va_mmax hx hb (hml.trans hl.1.symm) hown (hts _ cw_m_X4_122) (hts _ cw_t_Math_max) (hts _ cw_n_Math) (hts _ cw_c_Math_max) (Nat.le_of_ble_eq_true rfl) (Nat.le_of_ble_eq_true rfl) (Nat.le_of_ble_eq_true rfl) (Nat.le_of_ble_eq_true rfl) dX4_height_39 ?_
      refine lv_topi (fun x1_3 ex1_3 => ?_)
      replace hv := hv x1_3 ex1_3
      refine lv_istore_n (lv' := [(1, .int x1_3), (2, .int x2), (0, .ref a_X)]) hx hb dX4_height_42 rfl hl (by decide) rfl (fun ls hl => ?_)
      obtain ⟨x2_4, ex2_4⟩ : ∃ y : Int32, y = x2 + 1 := ⟨_, rfl⟩
      replace hv := hv x2_4 ex2_4
      refine lv_iinc (v := x2_4) (lv' := [(2, .int x2_4), (1, .int x1_3), (0, .ref a_X)]) hx hb dX4_height_43 hl (k := 1) rfl (by rw [ex2_4]; rfl) (by decide) rfl (fun ls hl => ?_)
      refine lv_goto (tgt := 15) hx hb dX4_height_46 (by decide) ?_
      exact hv _ _ _ hP hD hS (lv_sub hl [0, 1, 2] rfl)
  replace hv := hv G1 hs1
  rw [hG1] at hv
  unfold vc_X4_height_0 at hv
  refine lv_aload_n hx hb dX4_height_0 rfl (lv_at hl 0 rfl) ?_
  refine va_get (D := g.1) (ci := 4) (v := .ref a_E) (C := RX4) (T := TX4) (N := 9) hx hb hts cw_in_X4 hown hK.1 hP 0 rfl rfl 2 (by decide) (hts _ cw_f_X4_23) (fun _ h9 => h9) rfl dX4_height_1 ?_
  refine lv_aload_n hx hb dX4_height_4 rfl (lv_at hl 0 rfl) ?_
  refine va_get (D := g.1) (ci := 4) (v := .ref a_P) (C := RX4) (T := TX4) (N := 9) hx hb hts cw_in_X4 hown hK.1 hP 0 rfl rfl 0 (by decide) (hts _ cw_f_X4_10) (fun _ h9 => h9) rfl dX4_height_5 ?_
  refine cx_vV (wr := [(a_X, .inr (4, [.ref a_P, .ref a_X_levels, .ref a_E, .ref a_F, .ref a_R, .ref a_X_vector, .ref a_X_solution, .int X_solved, .int X_levelCount]))]) (As := [.ref a_P]) (rest := []) ⟨hx, hb, hml, hown, hts⟩ (c_X0_run l g a_E a_P a_P_entries a_P_order a_P_places a_P_rights a_P_weights a_E_joined a_E_later a_E_paths P_rows P_entries E_joined P_order E_later E_paths hv) (cx_cwV 1 hts cw_m_X4_127 cw_i_X0_run cw_s_X0_run cw_n_X0 cw_c_X0_run rfl rfl (by decide +kernel) ⟨Nat.le_of_ble_eq_true rfl, Nat.le_of_ble_eq_true rfl⟩) hK hP hD hS hA 2 0 rfl rfl [1, 2, 3, 4, 5, 6, 7] [0] rfl rfl rfl rfl (by decide) rfl hl.1 rfl (Nat.le_of_ble_eq_true rfl) dX4_height_8 ⟨Nat.le_of_ble_eq_true rfl, Nat.le_of_ble_eq_true rfl⟩ (fun w_5 H locs hv hP hD hS => ?_)
  obtain ⟨u_2, u_3, u_4⟩ := w_5
  have hP : va_P g.1 vwCl [(a_X, .inr (4, [.ref a_P, .ref a_X_levels, .ref a_E, .ref a_F, .ref a_R, .ref a_X_vector, .ref a_X_solution, .int X_solved, .int X_levelCount])), (a_P, .inr (2, [.int P_rows, .ref a_P_entries, .ref a_P_order, .ref a_P_places, .ref a_P_rights, .ref a_P_weights])), (a_E, .inr (0, [.ref a_E_joined, .ref a_E_later, .ref a_E_paths])), (a_P_entries, .inl (g.2.1, 256, .inl P_entries)), (a_E_joined, .inl (g.2.1, 16, .inl u_2)), (a_P_order, .inl (g.2.1, 16, .inl P_order)), (a_E_later, .inl (g.2.1, 16, .inl u_3)), (a_E_paths, .inl (g.2.1, 16, .inl u_4))] H := hP.sub [0, 1, 2, 3, 4, 5, 6, 7] rfl
  have hD : va_D A [(a_X, .inr (4, [.ref a_P, .ref a_X_levels, .ref a_E, .ref a_F, .ref a_R, .ref a_X_vector, .ref a_X_solution, .int X_solved, .int X_levelCount])), (a_P, .inr (2, [.int P_rows, .ref a_P_entries, .ref a_P_order, .ref a_P_places, .ref a_P_rights, .ref a_P_weights])), (a_E, .inr (0, [.ref a_E_joined, .ref a_E_later, .ref a_E_paths])), (a_P_entries, .inl (g.2.1, 256, .inl P_entries)), (a_E_joined, .inl (g.2.1, 16, .inl u_2)), (a_P_order, .inl (g.2.1, 16, .inl P_order)), (a_E_later, .inl (g.2.1, 16, .inl u_3)), (a_E_paths, .inl (g.2.1, 16, .inl u_4))] := hD.sub [0, 1, 2, 3, 4, 5, 6, 7] (by decide) rfl
  refine lv_iconst (v := 0) hx hb dX4_height_11 (by decide) ?_
  refine lv_istore_n (lv' := [(1, .int 0), (0, .ref a_X)]) hx hb dX4_height_12 rfl hl (by decide) rfl (fun ls hl => ?_)
  refine lv_iconst (v := 0) hx hb dX4_height_13 (by decide) ?_
  refine lv_istore_n (lv' := [(2, .int 0), (1, .int 0), (0, .ref a_X)]) hx hb dX4_height_14 rfl hl (by decide) rfl (fun ls hl => ?_)
  exact hv _ _ _ hP hD hS (lv_sub hl [0, 1, 2] rfl)
def wp_X4_factor (X_solved : Int32) (X_levelCount : Int32) (F_known : Int32) (F_rows : Int32) (P_rows : Int32) (P_order : (Nat → Int32)) (P_entries : (Nat → Int32)) (F_below : (Nat → Int32)) (F_pivots : (Nat → Int32)) (F_reciprocals : (Nat → Int32)) (Q : Int32 → Int32 → Int32 → (Nat → Int32) → (Nat → Int32) → (Nat → Int32) → Prop)   : Prop := wp_X1_find F_known F_rows P_rows P_order P_entries F_below F_pivots F_reciprocals (fun r_1 u_2 u_3 u_4 u_5 u_6 => Q r_1 u_2 u_3 u_4 u_5 u_6)
abbrev w0_X4_factor (g : cx_G) (a_X a_P a_X_levels a_E a_F a_R a_X_vector a_X_solution a_F_pivots a_F_reciprocals a_F_below a_P_entries a_P_order a_P_places a_P_rights a_P_weights : Nat) (X_solved : Int32) (X_levelCount : Int32) (F_known : Int32) (F_rows : Int32) (P_rows : Int32) (P_order : (Nat → Int32)) (P_entries : (Nat → Int32)) (F_below : (Nat → Int32)) (F_pivots : (Nat → Int32)) (F_reciprocals : (Nat → Int32)) : va_W := [(a_X, .inr (4, [.ref a_P, .ref a_X_levels, .ref a_E, .ref a_F, .ref a_R, .ref a_X_vector, .ref a_X_solution, .int X_solved, .int X_levelCount])), (a_F, .inr (1, [.int F_known, .int F_rows, .ref a_F_pivots, .ref a_F_reciprocals, .ref a_F_below])), (a_P, .inr (2, [.int P_rows, .ref a_P_entries, .ref a_P_order, .ref a_P_places, .ref a_P_rights, .ref a_P_weights])), (a_P_order, .inl (g.2.1, 16, .inl P_order)), (a_P_entries, .inl (g.2.1, 256, .inl P_entries)), (a_F_below, .inl (g.2.1, 256, .inl F_below)), (a_F_pivots, .inl (g.2.1, 16, .inl F_pivots)), (a_F_reciprocals, .inl (g.2.1, 16, .inl F_reciprocals))]
abbrev w1_X4_factor (g : cx_G) (a_X a_P a_X_levels a_E a_F a_R a_X_vector a_X_solution a_F_pivots a_F_reciprocals a_F_below a_P_entries a_P_order a_P_places a_P_rights a_P_weights : Nat) (X_solved : Int32) (X_levelCount : Int32) (F_known : Int32) (F_rows : Int32) (P_rows : Int32) (P_order : (Nat → Int32)) (P_entries : (Nat → Int32)) (F_below : (Nat → Int32)) (F_pivots : (Nat → Int32)) (F_reciprocals : (Nat → Int32)) (u : Int32 × Int32 × (Nat → Int32) × (Nat → Int32) × (Nat → Int32)) : va_W := [(a_X, .inr (4, [.ref a_P, .ref a_X_levels, .ref a_E, .ref a_F, .ref a_R, .ref a_X_vector, .ref a_X_solution, .int X_solved, .int X_levelCount])), (a_F, .inr (1, [.int u.1, .int u.2.1, .ref a_F_pivots, .ref a_F_reciprocals, .ref a_F_below])), (a_P, .inr (2, [.int P_rows, .ref a_P_entries, .ref a_P_order, .ref a_P_places, .ref a_P_rights, .ref a_P_weights])), (a_P_order, .inl (g.2.1, 16, .inl P_order)), (a_P_entries, .inl (g.2.1, 256, .inl P_entries)), (a_F_below, .inl (g.2.1, 256, .inl u.2.2.1)), (a_F_pivots, .inl (g.2.1, 16, .inl u.2.2.2.1)), (a_F_reciprocals, .inl (g.2.1, 16, .inl u.2.2.2.2))]
set_option maxHeartbeats 4000000 in
set_option maxRecDepth 100000 in
theorem c_X4_factor (l : Launch) (g : cx_G) (a_X a_P a_X_levels a_E a_F a_R a_X_vector a_X_solution a_F_pivots a_F_reciprocals a_F_below a_P_entries a_P_order a_P_places a_P_rights a_P_weights : Nat) (X_solved : Int32) (X_levelCount : Int32) (F_known : Int32) (F_rows : Int32) (P_rows : Int32) (P_order : (Nat → Int32)) (P_entries : (Nat → Int32)) (F_below : (Nat → Int32)) (F_pivots : (Nat → Int32)) (F_reciprocals : (Nat → Int32)) {Q : Int32 → Int32 → Int32 → (Nat → Int32) → (Nat → Int32) → (Nat → Int32) → Prop} (hv : wp_X4_factor X_solved X_levelCount F_known F_rows P_rows P_order P_entries F_below F_pivots F_reciprocals Q) : cx_Mi l g yX4_factor (Cond.code yX4_factor cX4_factor 1 (some .int) :: cx_T) ({ frames := 4, cells := 0, slots := 0, locals := 93 } : Room) [.ref a_X] (w0_X4_factor g a_X a_P a_X_levels a_E a_F a_R a_X_vector a_X_solution a_F_pivots a_F_reciprocals a_F_below a_P_entries a_P_order a_P_places a_P_rights a_P_weights X_solved X_levelCount F_known F_rows P_rows P_order P_entries F_below F_pivots F_reciprocals) (fun (r : Int32) (u : Int32 × Int32 × (Nat → Int32) × (Nat → Int32) × (Nat → Int32)) => Q r u.1 u.2.1 u.2.2.1 u.2.2.2.1 u.2.2.2.2) (w1_X4_factor g a_X a_P a_X_levels a_E a_F a_R a_X_vector a_X_solution a_F_pivots a_F_reciprocals a_F_below a_P_entries a_P_order a_P_places a_P_rights a_P_weights X_solved X_levelCount F_known F_rows P_rows P_order P_entries F_below F_pivots F_reciprocals) 0 0 := by
  intro sz
  refine Met.ofW (cc := cX4_factor) (maxL := 1) (ret := (some .int)) (by decide) rfl ?_
  intro p e s m args below meth c s₁ B hml hpre
  obtain ⟨rfl, hsz, hP, hK, hD0⟩ := hpre
  have hx := B.exec
  have hb := B.bytes
  have hr := B.returns
  have hts0 := atoms_spec (ws := (Cond.code yX4_factor cX4_factor 1 (some .int) :: cx_T)) B.pre
  have hts : ∀ w ∈ cx_T, w.before _ s = true := fun w h => hts0 w (List.mem_cons_of_mem _ h)
  have hown : s.vm.findClass RX4 = some m.cls := findClass_of_methodNamed B.named
  have hlocks := B.notSynchronized
  subst hsz
  have hD := hD0.self (sz := s.heap.size)
  obtain ⟨A, hAe⟩ : ∃ A : Nat → Prop, A = va_A (w0_X4_factor g a_X a_P a_X_levels a_E a_F a_R a_X_vector a_X_solution a_F_pivots a_F_reciprocals a_F_below a_P_entries a_P_order a_P_places a_P_rights a_P_weights X_solved X_levelCount F_known F_rows P_rows P_order P_entries F_below F_pivots F_reciprocals) s.heap.size := ⟨_, rfl⟩
  rw [← hAe] at hD
  have hA : ∀ q : Nat, s.heap.size ≤ q → A q := fun q h => by rw [hAe]; exact Or.inr h
  have hS : va_S A s.heap s.heap [] := va_S.rf
  have hP : va_P g.1 vwCl [(a_X, .inr (4, [.ref a_P, .ref a_X_levels, .ref a_E, .ref a_F, .ref a_R, .ref a_X_vector, .ref a_X_solution, .int X_solved, .int X_levelCount])), (a_F, .inr (1, [.int F_known, .int F_rows, .ref a_F_pivots, .ref a_F_reciprocals, .ref a_F_below])), (a_P, .inr (2, [.int P_rows, .ref a_P_entries, .ref a_P_order, .ref a_P_places, .ref a_P_rights, .ref a_P_weights])), (a_P_order, .inl (g.2.1, 16, .inl P_order)), (a_P_entries, .inl (g.2.1, 256, .inl P_entries)), (a_F_below, .inl (g.2.1, 256, .inl F_below)), (a_F_pivots, .inl (g.2.1, 16, .inl F_pivots)), (a_F_reciprocals, .inl (g.2.1, 16, .inl F_reciprocals))] s.heap := hP
  have hD : va_D A [(a_X, .inr (4, [.ref a_P, .ref a_X_levels, .ref a_E, .ref a_F, .ref a_R, .ref a_X_vector, .ref a_X_solution, .int X_solved, .int X_levelCount])), (a_F, .inr (1, [.int F_known, .int F_rows, .ref a_F_pivots, .ref a_F_reciprocals, .ref a_F_below])), (a_P, .inr (2, [.int P_rows, .ref a_P_entries, .ref a_P_order, .ref a_P_places, .ref a_P_rights, .ref a_P_weights])), (a_P_order, .inl (g.2.1, 16, .inl P_order)), (a_P_entries, .inl (g.2.1, 256, .inl P_entries)), (a_F_below, .inl (g.2.1, 256, .inl F_below)), (a_F_pivots, .inl (g.2.1, 16, .inl F_pivots)), (a_F_reciprocals, .inl (g.2.1, 16, .inl F_reciprocals))] := hD
  have hl := lv_entry ([.ref a_X]) (n := 1) (Nat.le_of_ble_eq_true rfl)
  rw [lg_entry_eq]
  generalize (lg_sl ([.ref a_X]) ++ List.replicate (1 - (lg_sl ([.ref a_X])).length) Slot.unset).toArray = ls at hl ⊢
  have hl : lv_has ls 1 [(0, .ref a_X)] := hl
  unfold wp_X4_factor at hv
  refine lv_aload_n hx hb dX4_factor_0 rfl (lv_at hl 0 rfl) ?_
  refine va_get (D := g.1) (ci := 4) (v := .ref a_F) (C := RX4) (T := TX4) (N := 9) hx hb hts cw_in_X4 hown hK.1 hP 0 rfl rfl 3 (by decide) (hts _ cw_f_X4_30) (fun _ h9 => h9) rfl dX4_factor_1 ?_
  refine lv_aload_n hx hb dX4_factor_4 rfl (lv_at hl 0 rfl) ?_
  refine va_get (D := g.1) (ci := 4) (v := .ref a_P) (C := RX4) (T := TX4) (N := 9) hx hb hts cw_in_X4 hown hK.1 hP 0 rfl rfl 0 (by decide) (hts _ cw_f_X4_10) (fun _ h9 => h9) rfl dX4_factor_5 ?_
  refine cx_iV (wr := [(a_X, .inr (4, [.ref a_P, .ref a_X_levels, .ref a_E, .ref a_F, .ref a_R, .ref a_X_vector, .ref a_X_solution, .int X_solved, .int X_levelCount]))]) (As := [.ref a_P]) (rest := []) ⟨hx, hb, hml, hown, hts⟩ (c_X1_find l g a_F a_P a_F_pivots a_F_reciprocals a_F_below a_P_entries a_P_order a_P_places a_P_rights a_P_weights F_known F_rows P_rows P_order P_entries F_below F_pivots F_reciprocals hv) (cx_cwV 1 hts cw_m_X4_153 cw_i_X1_find cw_s_X1_find cw_n_X1 cw_c_X1_find rfl rfl (by decide +kernel) ⟨Nat.le_of_ble_eq_true rfl, Nat.le_of_ble_eq_true rfl⟩) hK hP hD hS hA 1 1 rfl rfl [1, 2, 3, 4, 5, 6, 7] [0] rfl rfl rfl rfl (by decide) rfl hl.1 rfl (Nat.le_of_ble_eq_true rfl) dX4_factor_8 ⟨Nat.le_of_ble_eq_true rfl, Nat.le_of_ble_eq_true rfl⟩ (fun r_1 w_7 H locs hv hP hD hS => ?_)
  obtain ⟨u_2, u_3, u_4, u_5, u_6⟩ := w_7
  have hP : va_P g.1 vwCl [(a_X, .inr (4, [.ref a_P, .ref a_X_levels, .ref a_E, .ref a_F, .ref a_R, .ref a_X_vector, .ref a_X_solution, .int X_solved, .int X_levelCount])), (a_F, .inr (1, [.int u_2, .int u_3, .ref a_F_pivots, .ref a_F_reciprocals, .ref a_F_below])), (a_P, .inr (2, [.int P_rows, .ref a_P_entries, .ref a_P_order, .ref a_P_places, .ref a_P_rights, .ref a_P_weights])), (a_P_order, .inl (g.2.1, 16, .inl P_order)), (a_P_entries, .inl (g.2.1, 256, .inl P_entries)), (a_F_below, .inl (g.2.1, 256, .inl u_4)), (a_F_pivots, .inl (g.2.1, 16, .inl u_5)), (a_F_reciprocals, .inl (g.2.1, 16, .inl u_6))] H := hP.sub [0, 1, 2, 3, 4, 5, 6, 7] rfl
  have hD : va_D A [(a_X, .inr (4, [.ref a_P, .ref a_X_levels, .ref a_E, .ref a_F, .ref a_R, .ref a_X_vector, .ref a_X_solution, .int X_solved, .int X_levelCount])), (a_F, .inr (1, [.int u_2, .int u_3, .ref a_F_pivots, .ref a_F_reciprocals, .ref a_F_below])), (a_P, .inr (2, [.int P_rows, .ref a_P_entries, .ref a_P_order, .ref a_P_places, .ref a_P_rights, .ref a_P_weights])), (a_P_order, .inl (g.2.1, 16, .inl P_order)), (a_P_entries, .inl (g.2.1, 256, .inl P_entries)), (a_F_below, .inl (g.2.1, 256, .inl u_4)), (a_F_pivots, .inl (g.2.1, 16, .inl u_5)), (a_F_reciprocals, .inl (g.2.1, 16, .inl u_6))] := hD.sub [0, 1, 2, 3, 4, 5, 6, 7] (by decide) rfl
  exact cx_iret hx hb hr hlocks hAe hS (u_2, u_3, u_4, u_5, u_6) hv hP hD dX4_factor_11
def wp_X4_hasFactors (X_solved : Int32) (X_levelCount : Int32) (F_known : Int32) (F_rows : Int32) (Q : Int32 → Prop)   : Prop := narrow .boolean (.int F_known) = .int F_known ∧ Q F_known
abbrev w0_X4_hasFactors (g : cx_G) (a_X a_P a_X_levels a_E a_F a_R a_X_vector a_X_solution a_F_pivots a_F_reciprocals a_F_below : Nat) (X_solved : Int32) (X_levelCount : Int32) (F_known : Int32) (F_rows : Int32) : va_W := [(a_X, .inr (4, [.ref a_P, .ref a_X_levels, .ref a_E, .ref a_F, .ref a_R, .ref a_X_vector, .ref a_X_solution, .int X_solved, .int X_levelCount])), (a_F, .inr (1, [.int F_known, .int F_rows, .ref a_F_pivots, .ref a_F_reciprocals, .ref a_F_below]))]
set_option maxHeartbeats 4000000 in
set_option maxRecDepth 100000 in
theorem c_X4_hasFactors (l : Launch) (g : cx_G) (a_X a_P a_X_levels a_E a_F a_R a_X_vector a_X_solution a_F_pivots a_F_reciprocals a_F_below : Nat) (X_solved : Int32) (X_levelCount : Int32) (F_known : Int32) (F_rows : Int32) {Q : Int32 → Prop} (hv : wp_X4_hasFactors X_solved X_levelCount F_known F_rows Q) : cx_Mi l g yX4_hasFactors (Cond.code yX4_hasFactors cX4_hasFactors 1 (some .boolean) :: cx_T) ({ frames := 0, cells := 0, slots := 0, locals := 0 } : Room) [.ref a_X] (w0_X4_hasFactors g a_X a_P a_X_levels a_E a_F a_R a_X_vector a_X_solution a_F_pivots a_F_reciprocals a_F_below X_solved X_levelCount F_known F_rows) (fun (r : Int32) (_ : Unit) => Q r) (fun _ : Unit => (w0_X4_hasFactors g a_X a_P a_X_levels a_E a_F a_R a_X_vector a_X_solution a_F_pivots a_F_reciprocals a_F_below X_solved X_levelCount F_known F_rows)) 0 0 := by
  intro sz
  refine Met.ofW (cc := cX4_hasFactors) (maxL := 1) (ret := (some .boolean)) (by decide) rfl ?_
  intro p e s m args below meth c s₁ B hml hpre
  obtain ⟨rfl, hsz, hP, hK, hD0⟩ := hpre
  have hx := B.exec
  have hb := B.bytes
  have hr := B.returns
  have hts0 := atoms_spec (ws := (Cond.code yX4_hasFactors cX4_hasFactors 1 (some .boolean) :: cx_T)) B.pre
  have hts : ∀ w ∈ cx_T, w.before _ s = true := fun w h => hts0 w (List.mem_cons_of_mem _ h)
  have hown : s.vm.findClass RX4 = some m.cls := findClass_of_methodNamed B.named
  have hlocks := B.notSynchronized
  subst hsz
  have hD := hD0.self (sz := s.heap.size)
  obtain ⟨A, hAe⟩ : ∃ A : Nat → Prop, A = va_A (w0_X4_hasFactors g a_X a_P a_X_levels a_E a_F a_R a_X_vector a_X_solution a_F_pivots a_F_reciprocals a_F_below X_solved X_levelCount F_known F_rows) s.heap.size := ⟨_, rfl⟩
  rw [← hAe] at hD
  have hA : ∀ q : Nat, s.heap.size ≤ q → A q := fun q h => by rw [hAe]; exact Or.inr h
  have hS : va_S A s.heap s.heap [] := va_S.rf
  have hP : va_P g.1 vwCl [(a_X, .inr (4, [.ref a_P, .ref a_X_levels, .ref a_E, .ref a_F, .ref a_R, .ref a_X_vector, .ref a_X_solution, .int X_solved, .int X_levelCount])), (a_F, .inr (1, [.int F_known, .int F_rows, .ref a_F_pivots, .ref a_F_reciprocals, .ref a_F_below]))] s.heap := hP
  have hD : va_D A [(a_X, .inr (4, [.ref a_P, .ref a_X_levels, .ref a_E, .ref a_F, .ref a_R, .ref a_X_vector, .ref a_X_solution, .int X_solved, .int X_levelCount])), (a_F, .inr (1, [.int F_known, .int F_rows, .ref a_F_pivots, .ref a_F_reciprocals, .ref a_F_below]))] := hD
  have hl := lv_entry ([.ref a_X]) (n := 1) (Nat.le_of_ble_eq_true rfl)
  rw [lg_entry_eq]
  generalize (lg_sl ([.ref a_X]) ++ List.replicate (1 - (lg_sl ([.ref a_X])).length) Slot.unset).toArray = ls at hl ⊢
  have hl : lv_has ls 1 [(0, .ref a_X)] := hl
  unfold wp_X4_hasFactors at hv
  refine lv_aload_n hx hb dX4_hasFactors_0 rfl (lv_at hl 0 rfl) ?_
  refine va_get (D := g.1) (ci := 4) (v := .ref a_F) (C := RX4) (T := TX4) (N := 9) hx hb hts cw_in_X4 hown hK.1 hP 0 rfl rfl 3 (by decide) (hts _ cw_f_X4_30) (fun _ h9 => h9) rfl dX4_hasFactors_1 ?_
  refine va_get (D := g.1) (ci := 1) (v := .int F_known) (C := RX1) (T := TX1) (N := 5) hx hb hts cw_in_X1 hown hK.1 hP 1 rfl rfl 0 (by decide) (hts _ cw_f_X4_156) (fun _ h9 => h9) rfl dX4_hasFactors_4 ?_
  obtain ⟨hn, hv⟩ := hv
  exact cx_zret hx hb hr hn hlocks hAe hS () hv hP hD dX4_hasFactors_7
def vc_X4_digest_0 (X_solved : Int32) (X_levelCount : Int32) (P_rows : Int32) (F_known : Int32) (F_rows : Int32) (P_places : (Nat → Int32)) (P_rights : (Nat → Int32)) (P_weights : (Nat → Int32)) (P_entries : (Nat → Int32)) (F_pivots : (Nat → Int32)) (Q : Int64 → Prop) (G1 : Int32 → Int64 → Prop) (G2 : Int32 → Int32 → Int64 → Prop) (G3 : Int32 → Int64 → Prop)  : Prop := ∀ x1_2 : Int64, x1_2 = (f_mix 71 (Int32.toInt64 P_rows)) → (G1 0 x1_2)
def vc_X4_digest_1 (X_solved : Int32) (X_levelCount : Int32) (P_rows : Int32) (F_known : Int32) (F_rows : Int32) (P_places : (Nat → Int32)) (P_rights : (Nat → Int32)) (P_weights : (Nat → Int32)) (P_entries : (Nat → Int32)) (F_pivots : (Nat → Int32)) (Q : Int64 → Prop) (G1 : Int32 → Int64 → Prop) (G2 : Int32 → Int32 → Int64 → Prop) (G3 : Int32 → Int64 → Prop) (x3 : Int32) (x1 : Int64) : Prop := (P_rows ≤ x3 → (∀ x1_2 : Int64, x1_2 = (f_mix x1 (Int32.toInt64 X_levelCount)) → ((F_known = 0 → (Q (f_mix x1_2 0))) ∧ (¬ F_known = 0 → (∀ x1_4 : Int64, x1_4 = (f_mix x1_2 1) → (G3 0 x1_4)))))) ∧ (¬ P_rows ≤ x3 → (G2 0 x3 x1))
def vc_X4_digest_2 (X_solved : Int32) (X_levelCount : Int32) (P_rows : Int32) (F_known : Int32) (F_rows : Int32) (P_places : (Nat → Int32)) (P_rights : (Nat → Int32)) (P_weights : (Nat → Int32)) (P_entries : (Nat → Int32)) (F_pivots : (Nat → Int32)) (Q : Int64 → Prop) (G1 : Int32 → Int64 → Prop) (G2 : Int32 → Int32 → Int64 → Prop) (G3 : Int32 → Int64 → Prop) (x4 : Int32) (x3 : Int32) (x1 : Int64) : Prop := (x3 < x4 → (vp_in x3 16 ∧ (∀ x1_3 : Int64, x1_3 = (f_mix x1 (Int32.toInt64 (P_places (Int32.toNatClampNeg x3)))) → (vp_in x3 16 ∧ (∀ x1_6 : Int64, x1_6 = (f_mix x1_3 (Int32.toInt64 (P_rights (Int32.toNatClampNeg x3)))) → (vp_in x3 16 ∧ (∀ x1_9 : Int64, x1_9 = (f_mix x1_6 (Int32.toInt64 (P_weights (Int32.toNatClampNeg x3)))) → (∀ x3_10 : Int32, x3_10 = x3 + 1 → (G1 x3_10 x1_9))))))))) ∧ (¬ x3 < x4 → (wp_X2_entryAt x3 x4 P_rows P_entries (fun r_11 => ∀ x1_13 : Int64, x1_13 = (f_mix x1 (Int32.toInt64 r_11)) → (∀ x4_14 : Int32, x4_14 = x4 + 1 → (G2 x4_14 x3 x1_13)))))
def vc_X4_digest_3 (X_solved : Int32) (X_levelCount : Int32) (P_rows : Int32) (F_known : Int32) (F_rows : Int32) (P_places : (Nat → Int32)) (P_rights : (Nat → Int32)) (P_weights : (Nat → Int32)) (P_entries : (Nat → Int32)) (F_pivots : (Nat → Int32)) (Q : Int64 → Prop) (G1 : Int32 → Int64 → Prop) (G2 : Int32 → Int32 → Int64 → Prop) (G3 : Int32 → Int64 → Prop) (x3 : Int32) (x1 : Int64) : Prop := (P_rows ≤ x3 → (Q x1)) ∧ (¬ P_rows ≤ x3 → (vp_in x3 16 ∧ (∀ x1_3 : Int64, x1_3 = (f_mix x1 (Int32.toInt64 (F_pivots (Int32.toNatClampNeg x3)))) → (∀ x3_4 : Int32, x3_4 = x3 + 1 → (G3 x3_4 x1_3)))))
def wp_X4_digest (X_solved : Int32) (X_levelCount : Int32) (P_rows : Int32) (F_known : Int32) (F_rows : Int32) (P_places : (Nat → Int32)) (P_rights : (Nat → Int32)) (P_weights : (Nat → Int32)) (P_entries : (Nat → Int32)) (F_pivots : (Nat → Int32)) (Q : Int64 → Prop) : Prop := ∀ (G1 : Int32 → Int64 → Prop) (G2 : Int32 → Int32 → Int64 → Prop) (G3 : Int32 → Int64 → Prop), (∀ (x3 : Int32) (x1 : Int64), vc_X4_digest_1 X_solved X_levelCount P_rows F_known F_rows P_places P_rights P_weights P_entries F_pivots Q G1 G2 G3 x3 x1 → G1 x3 x1) → (∀ (x4 : Int32) (x3 : Int32) (x1 : Int64), vc_X4_digest_2 X_solved X_levelCount P_rows F_known F_rows P_places P_rights P_weights P_entries F_pivots Q G1 G2 G3 x4 x3 x1 → G2 x4 x3 x1) → (∀ (x3 : Int32) (x1 : Int64), vc_X4_digest_3 X_solved X_levelCount P_rows F_known F_rows P_places P_rights P_weights P_entries F_pivots Q G1 G2 G3 x3 x1 → G3 x3 x1) → vc_X4_digest_0 X_solved X_levelCount P_rows F_known F_rows P_places P_rights P_weights P_entries F_pivots Q G1 G2 G3
abbrev w0_X4_digest (g : cx_G) (a_X a_P a_X_levels a_E a_F a_R a_X_vector a_X_solution a_P_entries a_P_order a_P_places a_P_rights a_P_weights a_F_pivots a_F_reciprocals a_F_below : Nat) (X_solved : Int32) (X_levelCount : Int32) (P_rows : Int32) (F_known : Int32) (F_rows : Int32) (P_places : (Nat → Int32)) (P_rights : (Nat → Int32)) (P_weights : (Nat → Int32)) (P_entries : (Nat → Int32)) (F_pivots : (Nat → Int32)) : va_W := [(a_X, .inr (4, [.ref a_P, .ref a_X_levels, .ref a_E, .ref a_F, .ref a_R, .ref a_X_vector, .ref a_X_solution, .int X_solved, .int X_levelCount])), (a_P, .inr (2, [.int P_rows, .ref a_P_entries, .ref a_P_order, .ref a_P_places, .ref a_P_rights, .ref a_P_weights])), (a_F, .inr (1, [.int F_known, .int F_rows, .ref a_F_pivots, .ref a_F_reciprocals, .ref a_F_below])), (a_P_places, .inl (g.2.1, 16, .inl P_places)), (a_P_rights, .inl (g.2.1, 16, .inl P_rights)), (a_P_weights, .inl (g.2.1, 16, .inl P_weights)), (a_P_entries, .inl (g.2.1, 256, .inl P_entries)), (a_F_pivots, .inl (g.2.1, 16, .inl F_pivots))]
set_option maxHeartbeats 4000000 in
set_option maxRecDepth 100000 in
theorem c_X4_digest (l : Launch) (g : cx_G) (a_X a_P a_X_levels a_E a_F a_R a_X_vector a_X_solution a_P_entries a_P_order a_P_places a_P_rights a_P_weights a_F_pivots a_F_reciprocals a_F_below : Nat) (X_solved : Int32) (X_levelCount : Int32) (P_rows : Int32) (F_known : Int32) (F_rows : Int32) (P_places : (Nat → Int32)) (P_rights : (Nat → Int32)) (P_weights : (Nat → Int32)) (P_entries : (Nat → Int32)) (F_pivots : (Nat → Int32)) {Q : Int64 → Prop} (hv : wp_X4_digest X_solved X_levelCount P_rows F_known F_rows P_places P_rights P_weights P_entries F_pivots Q) : cx_Ml l g yX4_digest (Cond.code yX4_digest cX4_digest 5 (some .long) :: cx_T) ({ frames := 2, cells := 0, slots := 0, locals := 43 } : Room) [.ref a_X] (w0_X4_digest g a_X a_P a_X_levels a_E a_F a_R a_X_vector a_X_solution a_P_entries a_P_order a_P_places a_P_rights a_P_weights a_F_pivots a_F_reciprocals a_F_below X_solved X_levelCount P_rows F_known F_rows P_places P_rights P_weights P_entries F_pivots) (fun (r : Int64) (_ : Unit) => Q r) (fun _ : Unit => (w0_X4_digest g a_X a_P a_X_levels a_E a_F a_R a_X_vector a_X_solution a_P_entries a_P_order a_P_places a_P_rights a_P_weights a_F_pivots a_F_reciprocals a_F_below X_solved X_levelCount P_rows F_known F_rows P_places P_rights P_weights P_entries F_pivots)) 0 0 := by
  intro sz
  refine Met.ofW (cc := cX4_digest) (maxL := 5) (ret := (some .long)) (by decide) rfl ?_
  intro p e s m args below meth c s₁ B hml hpre
  obtain ⟨rfl, hsz, hP, hK, hD0⟩ := hpre
  have hx := B.exec
  have hb := B.bytes
  have hr := B.returns
  have hts0 := atoms_spec (ws := (Cond.code yX4_digest cX4_digest 5 (some .long) :: cx_T)) B.pre
  have hts : ∀ w ∈ cx_T, w.before _ s = true := fun w h => hts0 w (List.mem_cons_of_mem _ h)
  have hown : s.vm.findClass RX4 = some m.cls := findClass_of_methodNamed B.named
  have hlocks := B.notSynchronized
  subst hsz
  have hD := hD0.self (sz := s.heap.size)
  obtain ⟨A, hAe⟩ : ∃ A : Nat → Prop, A = va_A (w0_X4_digest g a_X a_P a_X_levels a_E a_F a_R a_X_vector a_X_solution a_P_entries a_P_order a_P_places a_P_rights a_P_weights a_F_pivots a_F_reciprocals a_F_below X_solved X_levelCount P_rows F_known F_rows P_places P_rights P_weights P_entries F_pivots) s.heap.size := ⟨_, rfl⟩
  rw [← hAe] at hD
  have hA : ∀ q : Nat, s.heap.size ≤ q → A q := fun q h => by rw [hAe]; exact Or.inr h
  have hS : va_S A s.heap s.heap [] := va_S.rf
  have hP : va_P g.1 vwCl [(a_X, .inr (4, [.ref a_P, .ref a_X_levels, .ref a_E, .ref a_F, .ref a_R, .ref a_X_vector, .ref a_X_solution, .int X_solved, .int X_levelCount])), (a_P, .inr (2, [.int P_rows, .ref a_P_entries, .ref a_P_order, .ref a_P_places, .ref a_P_rights, .ref a_P_weights])), (a_F, .inr (1, [.int F_known, .int F_rows, .ref a_F_pivots, .ref a_F_reciprocals, .ref a_F_below])), (a_P_places, .inl (g.2.1, 16, .inl P_places)), (a_P_rights, .inl (g.2.1, 16, .inl P_rights)), (a_P_weights, .inl (g.2.1, 16, .inl P_weights)), (a_P_entries, .inl (g.2.1, 256, .inl P_entries)), (a_F_pivots, .inl (g.2.1, 16, .inl F_pivots))] s.heap := hP
  have hD : va_D A [(a_X, .inr (4, [.ref a_P, .ref a_X_levels, .ref a_E, .ref a_F, .ref a_R, .ref a_X_vector, .ref a_X_solution, .int X_solved, .int X_levelCount])), (a_P, .inr (2, [.int P_rows, .ref a_P_entries, .ref a_P_order, .ref a_P_places, .ref a_P_rights, .ref a_P_weights])), (a_F, .inr (1, [.int F_known, .int F_rows, .ref a_F_pivots, .ref a_F_reciprocals, .ref a_F_below])), (a_P_places, .inl (g.2.1, 16, .inl P_places)), (a_P_rights, .inl (g.2.1, 16, .inl P_rights)), (a_P_weights, .inl (g.2.1, 16, .inl P_weights)), (a_P_entries, .inl (g.2.1, 256, .inl P_entries)), (a_F_pivots, .inl (g.2.1, 16, .inl F_pivots))] := hD
  have hl := lv_entry ([.ref a_X]) (n := 5) (Nat.le_of_ble_eq_true rfl)
  rw [lg_entry_eq]
  generalize (lg_sl ([.ref a_X]) ++ List.replicate (5 - (lg_sl ([.ref a_X])).length) Slot.unset).toArray = ls at hl ⊢
  have hl : lv_has ls 5 [(0, .ref a_X)] := hl
  obtain ⟨G1, hG1⟩ : ∃ G : Int32 → Int64 → Prop, G = (fun (x3 : Int32) (x1 : Int64) => ∀ (H : Heap) (locs : List Loc) (ls : Array Slot), va_P g.1 vwCl [(a_X, .inr (4, [.ref a_P, .ref a_X_levels, .ref a_E, .ref a_F, .ref a_R, .ref a_X_vector, .ref a_X_solution, .int X_solved, .int X_levelCount])), (a_P, .inr (2, [.int P_rows, .ref a_P_entries, .ref a_P_order, .ref a_P_places, .ref a_P_rights, .ref a_P_weights])), (a_F, .inr (1, [.int F_known, .int F_rows, .ref a_F_pivots, .ref a_F_reciprocals, .ref a_F_below])), (a_P_places, .inl (g.2.1, 16, .inl P_places)), (a_P_rights, .inl (g.2.1, 16, .inl P_rights)), (a_P_weights, .inl (g.2.1, 16, .inl P_weights)), (a_P_entries, .inl (g.2.1, 256, .inl P_entries)), (a_F_pivots, .inl (g.2.1, 16, .inl F_pivots))] H → va_D A [(a_X, .inr (4, [.ref a_P, .ref a_X_levels, .ref a_E, .ref a_F, .ref a_R, .ref a_X_vector, .ref a_X_solution, .int X_solved, .int X_levelCount])), (a_P, .inr (2, [.int P_rows, .ref a_P_entries, .ref a_P_order, .ref a_P_places, .ref a_P_rights, .ref a_P_weights])), (a_F, .inr (1, [.int F_known, .int F_rows, .ref a_F_pivots, .ref a_F_reciprocals, .ref a_F_below])), (a_P_places, .inl (g.2.1, 16, .inl P_places)), (a_P_rights, .inl (g.2.1, 16, .inl P_rights)), (a_P_weights, .inl (g.2.1, 16, .inl P_weights)), (a_P_entries, .inl (g.2.1, 256, .inl P_entries)), (a_F_pivots, .inl (g.2.1, 16, .inl F_pivots))] → va_S A s.heap H locs → lv_has ls 5 [(3, .int x3), (1, .long x1), (0, .ref a_X)] → W p l e (headSpec (Cond.code yX4_digest cX4_digest 5 (some .long) :: cx_T) ({ frames := 2, cells := 0, slots := 0, locals := 43 } : Room)).room s m ([.ref a_X] : List Value).toArray below meth c H locs 0 0 (MQ below (va_Ql (fun (r : Int64) (_ : Unit) => Q r) (cx_B g (w0_X4_digest g a_X a_P a_X_levels a_E a_F a_R a_X_vector a_X_solution a_P_entries a_P_order a_P_places a_P_rights a_P_weights a_F_pivots a_F_reciprocals a_F_below X_solved X_levelCount P_rows F_known F_rows P_places P_rights P_weights P_entries F_pivots) s.heap.size (fun _ : Unit => (w0_X4_digest g a_X a_P a_X_levels a_E a_F a_R a_X_vector a_X_solution a_P_entries a_P_order a_P_places a_P_rights a_P_weights a_F_pivots a_F_reciprocals a_F_below X_solved X_levelCount P_rows F_known F_rows P_places P_rights P_weights P_entries F_pivots))) (va_A (w0_X4_digest g a_X a_P a_X_levels a_E a_F a_R a_X_vector a_X_solution a_P_entries a_P_order a_P_places a_P_rights a_P_weights a_F_pivots a_F_reciprocals a_F_below X_solved X_levelCount P_rows F_known F_rows P_places P_rights P_weights P_entries F_pivots) s.heap.size)) ([.ref a_X] : List Value).toArray s 0 0 (va_A (w0_X4_digest g a_X a_P a_X_levels a_E a_F a_R a_X_vector a_X_solution a_P_entries a_P_order a_P_places a_P_rights a_P_weights a_F_pivots a_F_reciprocals a_F_below X_solved X_levelCount P_rows F_known F_rows P_places P_rights P_weights P_entries F_pivots) s.heap.size)) (F0 m 17 ls [])) := ⟨_, rfl⟩
  obtain ⟨G2, hG2⟩ : ∃ G : Int32 → Int32 → Int64 → Prop, G = (fun (x4 : Int32) (x3 : Int32) (x1 : Int64) => ∀ (H : Heap) (locs : List Loc) (ls : Array Slot), va_P g.1 vwCl [(a_X, .inr (4, [.ref a_P, .ref a_X_levels, .ref a_E, .ref a_F, .ref a_R, .ref a_X_vector, .ref a_X_solution, .int X_solved, .int X_levelCount])), (a_P, .inr (2, [.int P_rows, .ref a_P_entries, .ref a_P_order, .ref a_P_places, .ref a_P_rights, .ref a_P_weights])), (a_F, .inr (1, [.int F_known, .int F_rows, .ref a_F_pivots, .ref a_F_reciprocals, .ref a_F_below])), (a_P_places, .inl (g.2.1, 16, .inl P_places)), (a_P_rights, .inl (g.2.1, 16, .inl P_rights)), (a_P_weights, .inl (g.2.1, 16, .inl P_weights)), (a_P_entries, .inl (g.2.1, 256, .inl P_entries)), (a_F_pivots, .inl (g.2.1, 16, .inl F_pivots))] H → va_D A [(a_X, .inr (4, [.ref a_P, .ref a_X_levels, .ref a_E, .ref a_F, .ref a_R, .ref a_X_vector, .ref a_X_solution, .int X_solved, .int X_levelCount])), (a_P, .inr (2, [.int P_rows, .ref a_P_entries, .ref a_P_order, .ref a_P_places, .ref a_P_rights, .ref a_P_weights])), (a_F, .inr (1, [.int F_known, .int F_rows, .ref a_F_pivots, .ref a_F_reciprocals, .ref a_F_below])), (a_P_places, .inl (g.2.1, 16, .inl P_places)), (a_P_rights, .inl (g.2.1, 16, .inl P_rights)), (a_P_weights, .inl (g.2.1, 16, .inl P_weights)), (a_P_entries, .inl (g.2.1, 256, .inl P_entries)), (a_F_pivots, .inl (g.2.1, 16, .inl F_pivots))] → va_S A s.heap H locs → lv_has ls 5 [(4, .int x4), (3, .int x3), (1, .long x1), (0, .ref a_X)] → W p l e (headSpec (Cond.code yX4_digest cX4_digest 5 (some .long) :: cx_T) ({ frames := 2, cells := 0, slots := 0, locals := 43 } : Room)).room s m ([.ref a_X] : List Value).toArray below meth c H locs 0 0 (MQ below (va_Ql (fun (r : Int64) (_ : Unit) => Q r) (cx_B g (w0_X4_digest g a_X a_P a_X_levels a_E a_F a_R a_X_vector a_X_solution a_P_entries a_P_order a_P_places a_P_rights a_P_weights a_F_pivots a_F_reciprocals a_F_below X_solved X_levelCount P_rows F_known F_rows P_places P_rights P_weights P_entries F_pivots) s.heap.size (fun _ : Unit => (w0_X4_digest g a_X a_P a_X_levels a_E a_F a_R a_X_vector a_X_solution a_P_entries a_P_order a_P_places a_P_rights a_P_weights a_F_pivots a_F_reciprocals a_F_below X_solved X_levelCount P_rows F_known F_rows P_places P_rights P_weights P_entries F_pivots))) (va_A (w0_X4_digest g a_X a_P a_X_levels a_E a_F a_R a_X_vector a_X_solution a_P_entries a_P_order a_P_places a_P_rights a_P_weights a_F_pivots a_F_reciprocals a_F_below X_solved X_levelCount P_rows F_known F_rows P_places P_rights P_weights P_entries F_pivots) s.heap.size)) ([.ref a_X] : List Value).toArray s 0 0 (va_A (w0_X4_digest g a_X a_P a_X_levels a_E a_F a_R a_X_vector a_X_solution a_P_entries a_P_order a_P_places a_P_rights a_P_weights a_F_pivots a_F_reciprocals a_F_below X_solved X_levelCount P_rows F_known F_rows P_places P_rights P_weights P_entries F_pivots) s.heap.size)) (F0 m 31 ls [])) := ⟨_, rfl⟩
  obtain ⟨G3, hG3⟩ : ∃ G : Int32 → Int64 → Prop, G = (fun (x3 : Int32) (x1 : Int64) => ∀ (H : Heap) (locs : List Loc) (ls : Array Slot), va_P g.1 vwCl [(a_X, .inr (4, [.ref a_P, .ref a_X_levels, .ref a_E, .ref a_F, .ref a_R, .ref a_X_vector, .ref a_X_solution, .int X_solved, .int X_levelCount])), (a_P, .inr (2, [.int P_rows, .ref a_P_entries, .ref a_P_order, .ref a_P_places, .ref a_P_rights, .ref a_P_weights])), (a_F, .inr (1, [.int F_known, .int F_rows, .ref a_F_pivots, .ref a_F_reciprocals, .ref a_F_below])), (a_P_places, .inl (g.2.1, 16, .inl P_places)), (a_P_rights, .inl (g.2.1, 16, .inl P_rights)), (a_P_weights, .inl (g.2.1, 16, .inl P_weights)), (a_P_entries, .inl (g.2.1, 256, .inl P_entries)), (a_F_pivots, .inl (g.2.1, 16, .inl F_pivots))] H → va_D A [(a_X, .inr (4, [.ref a_P, .ref a_X_levels, .ref a_E, .ref a_F, .ref a_R, .ref a_X_vector, .ref a_X_solution, .int X_solved, .int X_levelCount])), (a_P, .inr (2, [.int P_rows, .ref a_P_entries, .ref a_P_order, .ref a_P_places, .ref a_P_rights, .ref a_P_weights])), (a_F, .inr (1, [.int F_known, .int F_rows, .ref a_F_pivots, .ref a_F_reciprocals, .ref a_F_below])), (a_P_places, .inl (g.2.1, 16, .inl P_places)), (a_P_rights, .inl (g.2.1, 16, .inl P_rights)), (a_P_weights, .inl (g.2.1, 16, .inl P_weights)), (a_P_entries, .inl (g.2.1, 256, .inl P_entries)), (a_F_pivots, .inl (g.2.1, 16, .inl F_pivots))] → va_S A s.heap H locs → lv_has ls 5 [(3, .int x3), (1, .long x1), (0, .ref a_X)] → W p l e (headSpec (Cond.code yX4_digest cX4_digest 5 (some .long) :: cx_T) ({ frames := 2, cells := 0, slots := 0, locals := 43 } : Room)).room s m ([.ref a_X] : List Value).toArray below meth c H locs 0 0 (MQ below (va_Ql (fun (r : Int64) (_ : Unit) => Q r) (cx_B g (w0_X4_digest g a_X a_P a_X_levels a_E a_F a_R a_X_vector a_X_solution a_P_entries a_P_order a_P_places a_P_rights a_P_weights a_F_pivots a_F_reciprocals a_F_below X_solved X_levelCount P_rows F_known F_rows P_places P_rights P_weights P_entries F_pivots) s.heap.size (fun _ : Unit => (w0_X4_digest g a_X a_P a_X_levels a_E a_F a_R a_X_vector a_X_solution a_P_entries a_P_order a_P_places a_P_rights a_P_weights a_F_pivots a_F_reciprocals a_F_below X_solved X_levelCount P_rows F_known F_rows P_places P_rights P_weights P_entries F_pivots))) (va_A (w0_X4_digest g a_X a_P a_X_levels a_E a_F a_R a_X_vector a_X_solution a_P_entries a_P_order a_P_places a_P_rights a_P_weights a_F_pivots a_F_reciprocals a_F_below X_solved X_levelCount P_rows F_known F_rows P_places P_rights P_weights P_entries F_pivots) s.heap.size)) ([.ref a_X] : List Value).toArray s 0 0 (va_A (w0_X4_digest g a_X a_P a_X_levels a_E a_F a_R a_X_vector a_X_solution a_P_entries a_P_order a_P_places a_P_rights a_P_weights a_F_pivots a_F_reciprocals a_F_below X_solved X_levelCount P_rows F_known F_rows P_places P_rights P_weights P_entries F_pivots) s.heap.size)) (F0 m 144 ls [])) := ⟨_, rfl⟩
  have hs1 : ∀ (x3 : Int32) (x1 : Int64), vc_X4_digest_1 X_solved X_levelCount P_rows F_known F_rows P_places P_rights P_weights P_entries F_pivots Q G1 G2 G3 x3 x1 → G1 x3 x1 := by
    rw [hG1, hG2, hG3]
    intro x3 x1 hv H locs ls hP hD hS hl
    unfold vc_X4_digest_1 at hv
    refine lv_iload_n hx hb dX4_digest_17 rfl (lv_at hl 0 rfl) ?_
    refine lv_aload_n hx hb dX4_digest_18 rfl (lv_at hl 2 rfl) ?_
    refine va_get (D := g.1) (ci := 4) (v := .ref a_P) (C := RX4) (T := TX4) (N := 9) hx hb hts cw_in_X4 hown hK.1 hP 0 rfl rfl 0 (by decide) (hts _ cw_f_X4_10) (fun _ h9 => h9) rfl dX4_digest_19 ?_
    refine va_get (D := g.1) (ci := 2) (v := .int P_rows) (C := RX2) (T := TX2) (N := 6) hx hb hts cw_in_X2 hown hK.1 hP 1 rfl rfl 0 (by decide) (hts _ cw_f_X4_70) (fun _ h9 => h9) rfl dX4_digest_22 ?_
    refine lv_icmp_ge (tgt := 110) hx hb dX4_digest_25 (by decide) (fun hc => ?_) (fun hc => ?_)
    · replace hv := hv.1 hc
      refine lv_lload_n hx hb dX4_digest_110 rfl (lv_at hl 1 rfl) ?_
      refine lv_aload_n hx hb dX4_digest_111 rfl (lv_at hl 2 rfl) ?_
      refine va_get (D := g.1) (ci := 4) (v := .int X_levelCount) (C := RX4) (T := TX4) (N := 9) hx hb hts cw_in_X4 hown hK.1 hP 0 rfl rfl 8 (by decide) (hts _ cw_f_X4_52) (fun _ h9 => h9) rfl dX4_digest_112 ?_
      refine lv_i2l hx hb dX4_digest_115 rfl ?_
      refine cx_lSr (As := [.long x1, .long (Int32.toInt64 X_levelCount)]) (rest := []) ⟨hx, hb, hml, hown, hts⟩ (cp_X4_mix l g x1 (Int32.toInt64 X_levelCount)) (cx_cwS 2 hts cw_m_X4_201 cw_t_X4_mix cw_n_X4 cw_c_X4_mix rfl rfl (by decide +kernel) ⟨Nat.le_of_ble_eq_true rfl, Nat.le_of_ble_eq_true rfl⟩) hK hP hD hS hA [] rfl rfl rfl hl.1 rfl (Nat.le_of_ble_eq_true rfl) dX4_digest_116 ⟨Nat.le_of_ble_eq_true rfl, Nat.le_of_ble_eq_true rfl⟩ (fun r_1 H locs hr9 hP hS => ?_)
      replace hr9 : r_1 = (f_mix x1 (Int32.toInt64 X_levelCount)) := hr9
      subst hr9
      refine lv_topl (fun x1_2 ex1_2 => ?_)
      replace hv := hv x1_2 ex1_2
      refine lv_lstore_n (lv' := [(1, .long x1_2), (3, .int x3), (0, .ref a_X)]) hx hb dX4_digest_119 rfl hl (by decide) rfl (fun ls hl => ?_)
      refine lv_aload_n hx hb dX4_digest_120 rfl (lv_at hl 2 rfl) ?_
      refine va_get (D := g.1) (ci := 4) (v := .ref a_F) (C := RX4) (T := TX4) (N := 9) hx hb hts cw_in_X4 hown hK.1 hP 0 rfl rfl 3 (by decide) (hts _ cw_f_X4_30) (fun _ h9 => h9) rfl dX4_digest_121 ?_
      refine va_get (D := g.1) (ci := 1) (v := .int F_known) (C := RX1) (T := TX1) (N := 5) hx hb hts cw_in_X1 hown hK.1 hP 2 rfl rfl 0 (by decide) (hts _ cw_f_X4_156) (fun _ h9 => h9) rfl dX4_digest_124 ?_
      refine lv_if_ne (tgt := 136) hx hb dX4_digest_127 (by decide) (fun hc => ?_) (fun hc => ?_)
      · replace hv := hv.2 hc
        refine lv_lload_n hx hb dX4_digest_136 rfl (lv_at hl 0 rfl) ?_
        refine lv_lconst (v := 1) hx hb dX4_digest_137 (by decide) ?_
        refine cx_lSr (As := [.long x1_2, .long 1]) (rest := []) ⟨hx, hb, hml, hown, hts⟩ (cp_X4_mix l g x1_2 1) (cx_cwS 2 hts cw_m_X4_201 cw_t_X4_mix cw_n_X4 cw_c_X4_mix rfl rfl (by decide +kernel) ⟨Nat.le_of_ble_eq_true rfl, Nat.le_of_ble_eq_true rfl⟩) hK hP hD hS hA [] rfl rfl rfl hl.1 rfl (Nat.le_of_ble_eq_true rfl) dX4_digest_138 ⟨Nat.le_of_ble_eq_true rfl, Nat.le_of_ble_eq_true rfl⟩ (fun r_3 H locs hr9 hP hS => ?_)
        replace hr9 : r_3 = (f_mix x1_2 1) := hr9
        subst hr9
        refine lv_topl (fun x1_4 ex1_4 => ?_)
        replace hv := hv x1_4 ex1_4
        refine lv_lstore_n (lv' := [(1, .long x1_4), (3, .int x3), (0, .ref a_X)]) hx hb dX4_digest_141 rfl hl (by decide) rfl (fun ls hl => ?_)
        refine lv_iconst (v := 0) hx hb dX4_digest_142 (by decide) ?_
        refine lv_istore_n (lv' := [(3, .int 0), (1, .long x1_4), (0, .ref a_X)]) hx hb dX4_digest_143 rfl hl (by decide) rfl (fun ls hl => ?_)
        exact hv _ _ _ hP hD hS (lv_sub hl [0, 1, 2] rfl)
      · replace hv := hv.1 hc
        refine lv_lload_n hx hb dX4_digest_130 rfl (lv_at hl 0 rfl) ?_
        refine lv_lconst (v := 0) hx hb dX4_digest_131 (by decide) ?_
        refine cx_lSr (As := [.long x1_2, .long 0]) (rest := []) ⟨hx, hb, hml, hown, hts⟩ (cp_X4_mix l g x1_2 0) (cx_cwS 2 hts cw_m_X4_201 cw_t_X4_mix cw_n_X4 cw_c_X4_mix rfl rfl (by decide +kernel) ⟨Nat.le_of_ble_eq_true rfl, Nat.le_of_ble_eq_true rfl⟩) hK hP hD hS hA [] rfl rfl rfl hl.1 rfl (Nat.le_of_ble_eq_true rfl) dX4_digest_132 ⟨Nat.le_of_ble_eq_true rfl, Nat.le_of_ble_eq_true rfl⟩ (fun r_5 H locs hr9 hP hS => ?_)
        replace hr9 : r_5 = (f_mix x1_2 0) := hr9
        subst hr9
        exact cx_lret hx hb hr hlocks hAe hS () hv hP hD dX4_digest_135
    · replace hv := hv.2 hc
      refine lv_iconst (v := 0) hx hb dX4_digest_28 (by decide) ?_
      refine lv_istore (lv' := [(4, .int 0), (3, .int x3), (1, .long x1), (0, .ref a_X)]) hx hb dX4_digest_29 hl (by decide) rfl (fun ls hl => ?_)
      exact hv _ _ _ hP hD hS (lv_sub hl [0, 1, 2, 3] rfl)
  have hs2 : ∀ (x4 : Int32) (x3 : Int32) (x1 : Int64), vc_X4_digest_2 X_solved X_levelCount P_rows F_known F_rows P_places P_rights P_weights P_entries F_pivots Q G1 G2 G3 x4 x3 x1 → G2 x4 x3 x1 := by
    rw [hG1, hG2, hG3]
    intro x4 x3 x1 hv H locs ls hP hD hS hl
    unfold vc_X4_digest_2 at hv
    refine lv_iload hx hb dX4_digest_31 (lv_at hl 0 rfl) ?_
    refine lv_iload_n hx hb dX4_digest_33 rfl (lv_at hl 1 rfl) ?_
    refine lv_icmp_gt (tgt := 59) hx hb dX4_digest_34 (by decide) (fun hc => ?_) (fun hc => ?_)
    · replace hv := hv.1 hc
      refine lv_lload_n hx hb dX4_digest_59 rfl (lv_at hl 2 rfl) ?_
      refine lv_aload_n hx hb dX4_digest_60 rfl (lv_at hl 3 rfl) ?_
      refine va_get (D := g.1) (ci := 4) (v := .ref a_P) (C := RX4) (T := TX4) (N := 9) hx hb hts cw_in_X4 hown hK.1 hP 0 rfl rfl 0 (by decide) (hts _ cw_f_X4_10) (fun _ h9 => h9) rfl dX4_digest_61 ?_
      refine va_get (D := g.1) (ci := 2) (v := .ref a_P_places) (C := RX2) (T := TX2) (N := 6) hx hb hts cw_in_X2 hown hK.1 hP 1 rfl rfl 3 (by decide) (hts _ cw_f_X4_112) (fun _ h9 => h9) rfl dX4_digest_64 ?_
      refine lv_iload_n hx hb dX4_digest_67 rfl (lv_at hl 1 rfl) ?_
      obtain ⟨h_1, hv⟩ := hv
      refine va_iald (D := g.1) hx hb hK.1 hP 3 0 rfl rfl h_1 dX4_digest_68 ?_
      refine lv_i2l hx hb dX4_digest_69 rfl ?_
      refine cx_lSr (As := [.long x1, .long (Int32.toInt64 (P_places (Int32.toNatClampNeg x3)))]) (rest := []) ⟨hx, hb, hml, hown, hts⟩ (cp_X4_mix l g x1 (Int32.toInt64 (P_places (Int32.toNatClampNeg x3)))) (cx_cwS 2 hts cw_m_X4_201 cw_t_X4_mix cw_n_X4 cw_c_X4_mix rfl rfl (by decide +kernel) ⟨Nat.le_of_ble_eq_true rfl, Nat.le_of_ble_eq_true rfl⟩) hK hP hD hS hA [] rfl rfl rfl hl.1 rfl (Nat.le_of_ble_eq_true rfl) dX4_digest_70 ⟨Nat.le_of_ble_eq_true rfl, Nat.le_of_ble_eq_true rfl⟩ (fun r_2 H locs hr9 hP hS => ?_)
      replace hr9 : r_2 = (f_mix x1 (Int32.toInt64 (P_places (Int32.toNatClampNeg x3)))) := hr9
      subst hr9
      refine lv_topl (fun x1_3 ex1_3 => ?_)
      replace hv := hv x1_3 ex1_3
      refine lv_lstore_n (lv' := [(1, .long x1_3), (4, .int x4), (3, .int x3), (0, .ref a_X)]) hx hb dX4_digest_73 rfl hl (by decide) rfl (fun ls hl => ?_)
      refine lv_lload_n hx hb dX4_digest_74 rfl (lv_at hl 0 rfl) ?_
      refine lv_aload_n hx hb dX4_digest_75 rfl (lv_at hl 3 rfl) ?_
      refine va_get (D := g.1) (ci := 4) (v := .ref a_P) (C := RX4) (T := TX4) (N := 9) hx hb hts cw_in_X4 hown hK.1 hP 0 rfl rfl 0 (by decide) (hts _ cw_f_X4_10) (fun _ h9 => h9) rfl dX4_digest_76 ?_
      refine va_get (D := g.1) (ci := 2) (v := .ref a_P_rights) (C := RX2) (T := TX2) (N := 6) hx hb hts cw_in_X2 hown hK.1 hP 1 rfl rfl 4 (by decide) (hts _ cw_f_X4_177) (fun _ h9 => h9) rfl dX4_digest_79 ?_
      refine lv_iload_n hx hb dX4_digest_82 rfl (lv_at hl 2 rfl) ?_
      obtain ⟨h_4, hv⟩ := hv
      refine va_iald (D := g.1) hx hb hK.1 hP 4 0 rfl rfl h_4 dX4_digest_83 ?_
      refine lv_i2l hx hb dX4_digest_84 rfl ?_
      refine cx_lSr (As := [.long x1_3, .long (Int32.toInt64 (P_rights (Int32.toNatClampNeg x3)))]) (rest := []) ⟨hx, hb, hml, hown, hts⟩ (cp_X4_mix l g x1_3 (Int32.toInt64 (P_rights (Int32.toNatClampNeg x3)))) (cx_cwS 2 hts cw_m_X4_201 cw_t_X4_mix cw_n_X4 cw_c_X4_mix rfl rfl (by decide +kernel) ⟨Nat.le_of_ble_eq_true rfl, Nat.le_of_ble_eq_true rfl⟩) hK hP hD hS hA [] rfl rfl rfl hl.1 rfl (Nat.le_of_ble_eq_true rfl) dX4_digest_85 ⟨Nat.le_of_ble_eq_true rfl, Nat.le_of_ble_eq_true rfl⟩ (fun r_5 H locs hr9 hP hS => ?_)
      replace hr9 : r_5 = (f_mix x1_3 (Int32.toInt64 (P_rights (Int32.toNatClampNeg x3)))) := hr9
      subst hr9
      refine lv_topl (fun x1_6 ex1_6 => ?_)
      replace hv := hv x1_6 ex1_6
      refine lv_lstore_n (lv' := [(1, .long x1_6), (4, .int x4), (3, .int x3), (0, .ref a_X)]) hx hb dX4_digest_88 rfl hl (by decide) rfl (fun ls hl => ?_)
      refine lv_lload_n hx hb dX4_digest_89 rfl (lv_at hl 0 rfl) ?_
      refine lv_aload_n hx hb dX4_digest_90 rfl (lv_at hl 3 rfl) ?_
      refine va_get (D := g.1) (ci := 4) (v := .ref a_P) (C := RX4) (T := TX4) (N := 9) hx hb hts cw_in_X4 hown hK.1 hP 0 rfl rfl 0 (by decide) (hts _ cw_f_X4_10) (fun _ h9 => h9) rfl dX4_digest_91 ?_
      refine va_get (D := g.1) (ci := 2) (v := .ref a_P_weights) (C := RX2) (T := TX2) (N := 6) hx hb hts cw_in_X2 hown hK.1 hP 1 rfl rfl 5 (by decide) (hts _ cw_f_X4_171) (fun _ h9 => h9) rfl dX4_digest_94 ?_
      refine lv_iload_n hx hb dX4_digest_97 rfl (lv_at hl 2 rfl) ?_
      obtain ⟨h_7, hv⟩ := hv
      refine va_iald (D := g.1) hx hb hK.1 hP 5 0 rfl rfl h_7 dX4_digest_98 ?_
      refine lv_i2l hx hb dX4_digest_99 rfl ?_
      refine cx_lSr (As := [.long x1_6, .long (Int32.toInt64 (P_weights (Int32.toNatClampNeg x3)))]) (rest := []) ⟨hx, hb, hml, hown, hts⟩ (cp_X4_mix l g x1_6 (Int32.toInt64 (P_weights (Int32.toNatClampNeg x3)))) (cx_cwS 2 hts cw_m_X4_201 cw_t_X4_mix cw_n_X4 cw_c_X4_mix rfl rfl (by decide +kernel) ⟨Nat.le_of_ble_eq_true rfl, Nat.le_of_ble_eq_true rfl⟩) hK hP hD hS hA [] rfl rfl rfl hl.1 rfl (Nat.le_of_ble_eq_true rfl) dX4_digest_100 ⟨Nat.le_of_ble_eq_true rfl, Nat.le_of_ble_eq_true rfl⟩ (fun r_8 H locs hr9 hP hS => ?_)
      replace hr9 : r_8 = (f_mix x1_6 (Int32.toInt64 (P_weights (Int32.toNatClampNeg x3)))) := hr9
      subst hr9
      refine lv_topl (fun x1_9 ex1_9 => ?_)
      replace hv := hv x1_9 ex1_9
      refine lv_lstore_n (lv' := [(1, .long x1_9), (4, .int x4), (3, .int x3), (0, .ref a_X)]) hx hb dX4_digest_103 rfl hl (by decide) rfl (fun ls hl => ?_)
      obtain ⟨x3_10, ex3_10⟩ : ∃ y : Int32, y = x3 + 1 := ⟨_, rfl⟩
      replace hv := hv x3_10 ex3_10
      refine lv_iinc (v := x3_10) (lv' := [(3, .int x3_10), (1, .long x1_9), (4, .int x4), (0, .ref a_X)]) hx hb dX4_digest_104 hl (k := 2) rfl (by rw [ex3_10]; rfl) (by decide) rfl (fun ls hl => ?_)
      refine lv_goto (tgt := 17) hx hb dX4_digest_107 (by decide) ?_
      exact hv _ _ _ hP hD hS (lv_sub hl [0, 1, 3] rfl)
    · replace hv := hv.2 hc
      refine lv_lload_n hx hb dX4_digest_37 rfl (lv_at hl 2 rfl) ?_
      refine lv_aload_n hx hb dX4_digest_38 rfl (lv_at hl 3 rfl) ?_
      refine va_get (D := g.1) (ci := 4) (v := .ref a_P) (C := RX4) (T := TX4) (N := 9) hx hb hts cw_in_X4 hown hK.1 hP 0 rfl rfl 0 (by decide) (hts _ cw_f_X4_10) (fun _ h9 => h9) rfl dX4_digest_39 ?_
      refine lv_iload_n hx hb dX4_digest_42 rfl (lv_at hl 1 rfl) ?_
      refine lv_iload hx hb dX4_digest_43 (lv_at hl 0 rfl) ?_
      refine cx_iVr (As := [.int x3, .int x4]) (rest := [.long x1]) ⟨hx, hb, hml, hown, hts⟩ (c_X2_entryAt l g a_P a_P_entries a_P_order a_P_places a_P_rights a_P_weights x3 x4 P_rows P_entries hv) (cx_cwV 2 hts cw_m_X4_79 cw_i_X2_entryAt cw_s_X2_entryAt cw_n_X2 cw_c_X2_entryAt rfl rfl (by decide +kernel) ⟨Nat.le_of_ble_eq_true rfl, Nat.le_of_ble_eq_true rfl⟩) hK hP hD hS hA 1 2 rfl rfl [1, 6] rfl rfl rfl hl.1 rfl (Nat.le_of_ble_eq_true rfl) dX4_digest_45 ⟨Nat.le_of_ble_eq_true rfl, Nat.le_of_ble_eq_true rfl⟩ (fun r_11 H locs hv hP hS => ?_)
      refine lv_i2l hx hb dX4_digest_48 rfl ?_
      refine cx_lSr (As := [.long x1, .long (Int32.toInt64 r_11)]) (rest := []) ⟨hx, hb, hml, hown, hts⟩ (cp_X4_mix l g x1 (Int32.toInt64 r_11)) (cx_cwS 2 hts cw_m_X4_201 cw_t_X4_mix cw_n_X4 cw_c_X4_mix rfl rfl (by decide +kernel) ⟨Nat.le_of_ble_eq_true rfl, Nat.le_of_ble_eq_true rfl⟩) hK hP hD hS hA [] rfl rfl rfl hl.1 rfl (Nat.le_of_ble_eq_true rfl) dX4_digest_49 ⟨Nat.le_of_ble_eq_true rfl, Nat.le_of_ble_eq_true rfl⟩ (fun r_12 H locs hr9 hP hS => ?_)
      replace hr9 : r_12 = (f_mix x1 (Int32.toInt64 r_11)) := hr9
      subst hr9
      refine lv_topl (fun x1_13 ex1_13 => ?_)
      replace hv := hv x1_13 ex1_13
      refine lv_lstore_n (lv' := [(1, .long x1_13), (4, .int x4), (3, .int x3), (0, .ref a_X)]) hx hb dX4_digest_52 rfl hl (by decide) rfl (fun ls hl => ?_)
      obtain ⟨x4_14, ex4_14⟩ : ∃ y : Int32, y = x4 + 1 := ⟨_, rfl⟩
      replace hv := hv x4_14 ex4_14
      refine lv_iinc (v := x4_14) (lv' := [(4, .int x4_14), (1, .long x1_13), (3, .int x3), (0, .ref a_X)]) hx hb dX4_digest_53 hl (k := 1) rfl (by rw [ex4_14]; rfl) (by decide) rfl (fun ls hl => ?_)
      refine lv_goto (tgt := 31) hx hb dX4_digest_56 (by decide) ?_
      exact hv _ _ _ hP hD hS (lv_sub hl [0, 2, 1, 3] rfl)
  have hs3 : ∀ (x3 : Int32) (x1 : Int64), vc_X4_digest_3 X_solved X_levelCount P_rows F_known F_rows P_places P_rights P_weights P_entries F_pivots Q G1 G2 G3 x3 x1 → G3 x3 x1 := by
    rw [hG1, hG2, hG3]
    intro x3 x1 hv H locs ls hP hD hS hl
    unfold vc_X4_digest_3 at hv
    refine lv_iload_n hx hb dX4_digest_144 rfl (lv_at hl 0 rfl) ?_
    refine lv_aload_n hx hb dX4_digest_145 rfl (lv_at hl 2 rfl) ?_
    refine va_get (D := g.1) (ci := 4) (v := .ref a_P) (C := RX4) (T := TX4) (N := 9) hx hb hts cw_in_X4 hown hK.1 hP 0 rfl rfl 0 (by decide) (hts _ cw_f_X4_10) (fun _ h9 => h9) rfl dX4_digest_146 ?_
    refine va_get (D := g.1) (ci := 2) (v := .int P_rows) (C := RX2) (T := TX2) (N := 6) hx hb hts cw_in_X2 hown hK.1 hP 1 rfl rfl 0 (by decide) (hts _ cw_f_X4_70) (fun _ h9 => h9) rfl dX4_digest_149 ?_
    refine lv_icmp_ge (tgt := 176) hx hb dX4_digest_152 (by decide) (fun hc => ?_) (fun hc => ?_)
    · replace hv := hv.1 hc
      refine lv_lload_n hx hb dX4_digest_176 rfl (lv_at hl 1 rfl) ?_
      exact cx_lret hx hb hr hlocks hAe hS () hv hP hD dX4_digest_177
    · replace hv := hv.2 hc
      refine lv_lload_n hx hb dX4_digest_155 rfl (lv_at hl 1 rfl) ?_
      refine lv_aload_n hx hb dX4_digest_156 rfl (lv_at hl 2 rfl) ?_
      refine va_get (D := g.1) (ci := 4) (v := .ref a_F) (C := RX4) (T := TX4) (N := 9) hx hb hts cw_in_X4 hown hK.1 hP 0 rfl rfl 3 (by decide) (hts _ cw_f_X4_30) (fun _ h9 => h9) rfl dX4_digest_157 ?_
      refine va_get (D := g.1) (ci := 1) (v := .ref a_F_pivots) (C := RX1) (T := TX1) (N := 5) hx hb hts cw_in_X1 hown hK.1 hP 2 rfl rfl 2 (by decide) (hts _ cw_f_X4_162) (fun _ h9 => h9) rfl dX4_digest_160 ?_
      refine lv_iload_n hx hb dX4_digest_163 rfl (lv_at hl 0 rfl) ?_
      obtain ⟨h_1, hv⟩ := hv
      refine va_iald (D := g.1) hx hb hK.1 hP 7 0 rfl rfl h_1 dX4_digest_164 ?_
      refine lv_i2l hx hb dX4_digest_165 rfl ?_
      refine cx_lSr (As := [.long x1, .long (Int32.toInt64 (F_pivots (Int32.toNatClampNeg x3)))]) (rest := []) ⟨hx, hb, hml, hown, hts⟩ (cp_X4_mix l g x1 (Int32.toInt64 (F_pivots (Int32.toNatClampNeg x3)))) (cx_cwS 2 hts cw_m_X4_201 cw_t_X4_mix cw_n_X4 cw_c_X4_mix rfl rfl (by decide +kernel) ⟨Nat.le_of_ble_eq_true rfl, Nat.le_of_ble_eq_true rfl⟩) hK hP hD hS hA [] rfl rfl rfl hl.1 rfl (Nat.le_of_ble_eq_true rfl) dX4_digest_166 ⟨Nat.le_of_ble_eq_true rfl, Nat.le_of_ble_eq_true rfl⟩ (fun r_2 H locs hr9 hP hS => ?_)
      replace hr9 : r_2 = (f_mix x1 (Int32.toInt64 (F_pivots (Int32.toNatClampNeg x3)))) := hr9
      subst hr9
      refine lv_topl (fun x1_3 ex1_3 => ?_)
      replace hv := hv x1_3 ex1_3
      refine lv_lstore_n (lv' := [(1, .long x1_3), (3, .int x3), (0, .ref a_X)]) hx hb dX4_digest_169 rfl hl (by decide) rfl (fun ls hl => ?_)
      obtain ⟨x3_4, ex3_4⟩ : ∃ y : Int32, y = x3 + 1 := ⟨_, rfl⟩
      replace hv := hv x3_4 ex3_4
      refine lv_iinc (v := x3_4) (lv' := [(3, .int x3_4), (1, .long x1_3), (0, .ref a_X)]) hx hb dX4_digest_170 hl (k := 1) rfl (by rw [ex3_4]; rfl) (by decide) rfl (fun ls hl => ?_)
      refine lv_goto (tgt := 144) hx hb dX4_digest_173 (by decide) ?_
      exact hv _ _ _ hP hD hS (lv_sub hl [0, 1, 2] rfl)
  replace hv := hv G1 G2 G3 hs1 hs2 hs3
  rw [hG1, hG2, hG3] at hv
  unfold vc_X4_digest_0 at hv
  refine lv_ldc2 hx hb hown (hts _ cw_l_X4_199) dX4_digest_0 ?_
  refine lv_aload_n hx hb dX4_digest_3 rfl (lv_at hl 0 rfl) ?_
  refine va_get (D := g.1) (ci := 4) (v := .ref a_P) (C := RX4) (T := TX4) (N := 9) hx hb hts cw_in_X4 hown hK.1 hP 0 rfl rfl 0 (by decide) (hts _ cw_f_X4_10) (fun _ h9 => h9) rfl dX4_digest_4 ?_
  refine va_get (D := g.1) (ci := 2) (v := .int P_rows) (C := RX2) (T := TX2) (N := 6) hx hb hts cw_in_X2 hown hK.1 hP 1 rfl rfl 0 (by decide) (hts _ cw_f_X4_70) (fun _ h9 => h9) rfl dX4_digest_7 ?_
  refine lv_i2l hx hb dX4_digest_10 rfl ?_
  refine cx_lSr (As := [.long 71, .long (Int32.toInt64 P_rows)]) (rest := []) ⟨hx, hb, hml, hown, hts⟩ (cp_X4_mix l g 71 (Int32.toInt64 P_rows)) (cx_cwS 2 hts cw_m_X4_201 cw_t_X4_mix cw_n_X4 cw_c_X4_mix rfl rfl (by decide +kernel) ⟨Nat.le_of_ble_eq_true rfl, Nat.le_of_ble_eq_true rfl⟩) hK hP hD hS hA [] rfl rfl rfl hl.1 rfl (Nat.le_of_ble_eq_true rfl) dX4_digest_11 ⟨Nat.le_of_ble_eq_true rfl, Nat.le_of_ble_eq_true rfl⟩ (fun r_1 H locs hr9 hP hS => ?_)
  replace hr9 : r_1 = (f_mix 71 (Int32.toInt64 P_rows)) := hr9
  subst hr9
  refine lv_topl (fun x1_2 ex1_2 => ?_)
  replace hv := hv x1_2 ex1_2
  refine lv_lstore_n (lv' := [(1, .long x1_2), (0, .ref a_X)]) hx hb dX4_digest_14 rfl hl (by decide) rfl (fun ls hl => ?_)
  refine lv_iconst (v := 0) hx hb dX4_digest_15 (by decide) ?_
  refine lv_istore_n (lv' := [(3, .int 0), (1, .long x1_2), (0, .ref a_X)]) hx hb dX4_digest_16 rfl hl (by decide) rfl (fun ls hl => ?_)
  exact hv _ _ _ hP hD hS (lv_sub hl [0, 1, 2] rfl)
