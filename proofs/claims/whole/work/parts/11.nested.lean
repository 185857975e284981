def wp_X2_entryAt (i_i : Int32) (i_j : Int32) (P_rows : Int32) (P_entries : (Nat → Int32)) (Q : Int32 → Prop)   : Prop := vp_in (f_cell i_i i_j) 256 ∧ (Q (P_entries (Int32.toNatClampNeg (f_cell i_i i_j))))
abbrev w0_X2_entryAt (g : cx_G) (a_P a_P_entries a_P_order a_P_places a_P_rights a_P_weights : Nat) (P_rows : Int32) (P_entries : (Nat → Int32)) : va_W := [(a_P, .inr (2, [.int P_rows, .ref a_P_entries, .ref a_P_order, .ref a_P_places, .ref a_P_rights, .ref a_P_weights])), (a_P_entries, .inl (g.2.1, 256, .inl P_entries))]
set_option maxHeartbeats 4000000 in
set_option maxRecDepth 100000 in
theorem c_X2_entryAt (l : Launch) (g : cx_G) (a_P a_P_entries a_P_order a_P_places a_P_rights a_P_weights : Nat) (i_i : Int32) (i_j : Int32) (P_rows : Int32) (P_entries : (Nat → Int32)) {Q : Int32 → Prop} (hv : wp_X2_entryAt i_i i_j P_rows P_entries Q) : cx_Mi l g yX2_entryAt (Cond.code yX2_entryAt cX2_entryAt 3 (some .int) :: cx_T) ({ frames := 1, cells := 0, slots := 0, locals := 21 } : Room) [.ref a_P, .int i_i, .int i_j] (w0_X2_entryAt g a_P a_P_entries a_P_order a_P_places a_P_rights a_P_weights P_rows P_entries) (fun (r : Int32) (_ : Unit) => Q r) (fun _ : Unit => (w0_X2_entryAt g a_P a_P_entries a_P_order a_P_places a_P_rights a_P_weights P_rows P_entries)) 0 0 := by
  intro sz
  refine Met.ofW (cc := cX2_entryAt) (maxL := 3) (ret := (some .int)) (by decide) rfl ?_
  intro p e s m args below meth c s₁ B hml hpre
  obtain ⟨rfl, hsz, hP, hK, hD0⟩ := hpre
  have hx := B.exec
  have hb := B.bytes
  have hr := B.returns
  have hts0 := atoms_spec (ws := (Cond.code yX2_entryAt cX2_entryAt 3 (some .int) :: cx_T)) B.pre
  have hts : ∀ w ∈ cx_T, w.before _ s = true := fun w h => hts0 w (List.mem_cons_of_mem _ h)
  have hown : s.vm.findClass RX2 = some m.cls := findClass_of_methodNamed B.named
  have hlocks := B.notSynchronized
  subst hsz
  have hD := hD0.self (sz := s.heap.size)
  obtain ⟨A, hAe⟩ : ∃ A : Nat → Prop, A = va_A (w0_X2_entryAt g a_P a_P_entries a_P_order a_P_places a_P_rights a_P_weights P_rows P_entries) s.heap.size := ⟨_, rfl⟩
  rw [← hAe] at hD
  have hA : ∀ q : Nat, s.heap.size ≤ q → A q := fun q h => by rw [hAe]; exact Or.inr h
  have hS : va_S A s.heap s.heap [] := va_S.rf
  have hP : va_P g.1 vwCl [(a_P, .inr (2, [.int P_rows, .ref a_P_entries, .ref a_P_order, .ref a_P_places, .ref a_P_rights, .ref a_P_weights])), (a_P_entries, .inl (g.2.1, 256, .inl P_entries))] s.heap := hP
  have hD : va_D A [(a_P, .inr (2, [.int P_rows, .ref a_P_entries, .ref a_P_order, .ref a_P_places, .ref a_P_rights, .ref a_P_weights])), (a_P_entries, .inl (g.2.1, 256, .inl P_entries))] := hD
  have hl := lv_entry ([.ref a_P, .int i_i, .int i_j]) (n := 3) (Nat.le_of_ble_eq_true rfl)
  rw [lg_entry_eq]
  generalize (lg_sl ([.ref a_P, .int i_i, .int i_j]) ++ List.replicate (3 - (lg_sl ([.ref a_P, .int i_i, .int i_j])).length) Slot.unset).toArray = ls at hl ⊢
  have hl : lv_has ls 3 [(0, .ref a_P), (1, .int i_i), (2, .int i_j)] := hl
  unfold wp_X2_entryAt at hv
  refine lv_aload_n hx hb dX2_entryAt_0 rfl (lv_at hl 0 rfl) ?_
  refine va_get (D := g.1) (ci := 2) (v := .ref a_P_entries) (C := RX2) (T := TX2) (N := 6) hx hb hts cw_in_X2 hown hK.1 hP 0 rfl rfl 1 (by decide) (hts _ cw_f_X2_15) (fun _ h9 => h9) rfl dX2_entryAt_1 ?_
  refine lv_iload_n hx hb dX2_entryAt_4 rfl (lv_at hl 1 rfl) ?_
  refine lv_iload_n hx hb dX2_entryAt_5 rfl (lv_at hl 2 rfl) ?_
  refine cx_iNr (As := [.int i_i, .int i_j]) (rest := [.ref a_P_entries]) ⟨hx, hb, hml, hown, hts⟩ (cp_X4_cell l g i_i i_j) (cx_cwN 2 hts (hK.2.at 0 rfl) cw_t_X4_cell cw_n_X4 cw_c_X4_cell rfl rfl (by decide +kernel) ⟨Nat.le_of_ble_eq_true rfl, Nat.le_of_ble_eq_true rfl⟩) hK hP hD hS hA [] rfl rfl rfl hl.1 rfl (Nat.le_of_ble_eq_true rfl) dX2_entryAt_6 ⟨Nat.le_of_ble_eq_true rfl, Nat.le_of_ble_eq_true rfl⟩ (fun r_1 H locs hr9 hP hS => ?_)
  replace hr9 : r_1 = (f_cell i_i i_j) := hr9
  subst hr9
  obtain ⟨h_2, hv⟩ := hv
  refine va_iald (D := g.1) hx hb hK.1 hP 1 0 rfl rfl h_2 dX2_entryAt_9 ?_
  exact cx_iret hx hb hr hlocks hAe hS () hv hP hD dX2_entryAt_10
def wp_X2_putEntry (i_i : Int32) (i_j : Int32) (i_v : Int32) (P_rows : Int32) (P_entries : (Nat → Int32)) (Q : (Nat → Int32) → Prop)   : Prop := vp_in (f_cell i_i i_j) 256 ∧ (vp_in (f_cell i_j i_i) 256 ∧ (Q (upd (upd P_entries (Int32.toNatClampNeg (f_cell i_i i_j)) i_v) (Int32.toNatClampNeg (f_cell i_j i_i)) i_v)))
abbrev w0_X2_putEntry (g : cx_G) (a_P a_P_entries a_P_order a_P_places a_P_rights a_P_weights : Nat) (P_rows : Int32) (P_entries : (Nat → Int32)) : va_W := [(a_P, .inr (2, [.int P_rows, .ref a_P_entries, .ref a_P_order, .ref a_P_places, .ref a_P_rights, .ref a_P_weights])), (a_P_entries, .inl (g.2.1, 256, .inl P_entries))]
abbrev w1_X2_putEntry (g : cx_G) (a_P a_P_entries a_P_order a_P_places a_P_rights a_P_weights : Nat) (P_rows : Int32) (P_entries : (Nat → Int32)) (u : (Nat → Int32)) : va_W := [(a_P, .inr (2, [.int P_rows, .ref a_P_entries, .ref a_P_order, .ref a_P_places, .ref a_P_rights, .ref a_P_weights])), (a_P_entries, .inl (g.2.1, 256, .inl u))]
set_option maxHeartbeats 4000000 in
set_option maxRecDepth 100000 in
theorem c_X2_putEntry (l : Launch) (g : cx_G) (a_P a_P_entries a_P_order a_P_places a_P_rights a_P_weights : Nat) (i_i : Int32) (i_j : Int32) (i_v : Int32) (P_rows : Int32) (P_entries : (Nat → Int32)) {Q : (Nat → Int32) → Prop} (hv : wp_X2_putEntry i_i i_j i_v P_rows P_entries Q) : cx_Mv l g yX2_putEntry (Cond.code yX2_putEntry cX2_putEntry 4 none :: cx_T) ({ frames := 1, cells := 0, slots := 0, locals := 21 } : Room) [.ref a_P, .int i_i, .int i_j, .int i_v] (w0_X2_putEntry g a_P a_P_entries a_P_order a_P_places a_P_rights a_P_weights P_rows P_entries) (fun (u : (Nat → Int32)) => Q u) (w1_X2_putEntry g a_P a_P_entries a_P_order a_P_places a_P_rights a_P_weights P_rows P_entries) 0 0 := by
  intro sz
  refine Met.ofW (cc := cX2_putEntry) (maxL := 4) (ret := none) (by decide) rfl ?_
  intro p e s m args below meth c s₁ B hml hpre
  obtain ⟨rfl, hsz, hP, hK, hD0⟩ := hpre
  have hx := B.exec
  have hb := B.bytes
  have hr := B.returns
  have hts0 := atoms_spec (ws := (Cond.code yX2_putEntry cX2_putEntry 4 none :: cx_T)) B.pre
  have hts : ∀ w ∈ cx_T, w.before _ s = true := fun w h => hts0 w (List.mem_cons_of_mem _ h)
  have hown : s.vm.findClass RX2 = some m.cls := findClass_of_methodNamed B.named
  have hlocks := B.notSynchronized
  subst hsz
  have hD := hD0.self (sz := s.heap.size)
  obtain ⟨A, hAe⟩ : ∃ A : Nat → Prop, A = va_A (w0_X2_putEntry g a_P a_P_entries a_P_order a_P_places a_P_rights a_P_weights P_rows P_entries) s.heap.size := ⟨_, rfl⟩
  rw [← hAe] at hD
  have hA : ∀ q : Nat, s.heap.size ≤ q → A q := fun q h => by rw [hAe]; exact Or.inr h
  have hS : va_S A s.heap s.heap [] := va_S.rf
  have hP : va_P g.1 vwCl [(a_P, .inr (2, [.int P_rows, .ref a_P_entries, .ref a_P_order, .ref a_P_places, .ref a_P_rights, .ref a_P_weights])), (a_P_entries, .inl (g.2.1, 256, .inl P_entries))] s.heap := hP
  have hD : va_D A [(a_P, .inr (2, [.int P_rows, .ref a_P_entries, .ref a_P_order, .ref a_P_places, .ref a_P_rights, .ref a_P_weights])), (a_P_entries, .inl (g.2.1, 256, .inl P_entries))] := hD
  have hl := lv_entry ([.ref a_P, .int i_i, .int i_j, .int i_v]) (n := 4) (Nat.le_of_ble_eq_true rfl)
  rw [lg_entry_eq]
  generalize (lg_sl ([.ref a_P, .int i_i, .int i_j, .int i_v]) ++ List.replicate (4 - (lg_sl ([.ref a_P, .int i_i, .int i_j, .int i_v])).length) Slot.unset).toArray = ls at hl ⊢
  have hl : lv_has ls 4 [(0, .ref a_P), (1, .int i_i), (2, .int i_j), (3, .int i_v)] := hl
  unfold wp_X2_putEntry at hv
  refine lv_aload_n hx hb dX2_putEntry_0 rfl (lv_at hl 0 rfl) ?_
  refine va_get (D := g.1) (ci := 2) (v := .ref a_P_entries) (C := RX2) (T := TX2) (N := 6) hx hb hts cw_in_X2 hown hK.1 hP 0 rfl rfl 1 (by decide) (hts _ cw_f_X2_15) (fun _ h9 => h9) rfl dX2_putEntry_1 ?_
  refine lv_iload_n hx hb dX2_putEntry_4 rfl (lv_at hl 1 rfl) ?_
  refine lv_iload_n hx hb dX2_putEntry_5 rfl (lv_at hl 2 rfl) ?_
  refine cx_iNr (As := [.int i_i, .int i_j]) (rest := [.ref a_P_entries]) ⟨hx, hb, hml, hown, hts⟩ (cp_X4_cell l g i_i i_j) (cx_cwN 2 hts (hK.2.at 0 rfl) cw_t_X4_cell cw_n_X4 cw_c_X4_cell rfl rfl (by decide +kernel) ⟨Nat.le_of_ble_eq_true rfl, Nat.le_of_ble_eq_true rfl⟩) hK hP hD hS hA [] rfl rfl rfl hl.1 rfl (Nat.le_of_ble_eq_true rfl) dX2_putEntry_6 ⟨Nat.le_of_ble_eq_true rfl, Nat.le_of_ble_eq_true rfl⟩ (fun r_1 H locs hr9 hP hS => ?_)
  replace hr9 : r_1 = (f_cell i_i i_j) := hr9
  subst hr9
  refine lv_iload_n hx hb dX2_putEntry_9 rfl (lv_at hl 3 rfl) ?_
  obtain ⟨h_2, hv⟩ := hv
  refine va_iast (D := g.1) hx hb hK.1 hP hD hS 1 0 rfl rfl h_2 dX2_putEntry_10 (fun H locs hP hD hS => ?_)
  have hP : va_P g.1 vwCl [(a_P, .inr (2, [.int P_rows, .ref a_P_entries, .ref a_P_order, .ref a_P_places, .ref a_P_rights, .ref a_P_weights])), (a_P_entries, .inl (g.2.1, 256, .inl (upd P_entries (Int32.toNatClampNeg (f_cell i_i i_j)) i_v)))] H := hP
  have hD : va_D A [(a_P, .inr (2, [.int P_rows, .ref a_P_entries, .ref a_P_order, .ref a_P_places, .ref a_P_rights, .ref a_P_weights])), (a_P_entries, .inl (g.2.1, 256, .inl (upd P_entries (Int32.toNatClampNeg (f_cell i_i i_j)) i_v)))] := hD
  refine lv_aload_n hx hb dX2_putEntry_11 rfl (lv_at hl 0 rfl) ?_
  refine va_get (D := g.1) (ci := 2) (v := .ref a_P_entries) (C := RX2) (T := TX2) (N := 6) hx hb hts cw_in_X2 hown hK.1 hP 0 rfl rfl 1 (by decide) (hts _ cw_f_X2_15) (fun _ h9 => h9) rfl dX2_putEntry_12 ?_
  refine lv_iload_n hx hb dX2_putEntry_15 rfl (lv_at hl 2 rfl) ?_
  refine lv_iload_n hx hb dX2_putEntry_16 rfl (lv_at hl 1 rfl) ?_
  refine cx_iNr (As := [.int i_j, .int i_i]) (rest := [.ref a_P_entries]) ⟨hx, hb, hml, hown, hts⟩ (cp_X4_cell l g i_j i_i) (cx_cwN 2 hts (hK.2.at 0 rfl) cw_t_X4_cell cw_n_X4 cw_c_X4_cell rfl rfl (by decide +kernel) ⟨Nat.le_of_ble_eq_true rfl, Nat.le_of_ble_eq_true rfl⟩) hK hP hD hS hA [] rfl rfl rfl hl.1 rfl (Nat.le_of_ble_eq_true rfl) dX2_putEntry_17 ⟨Nat.le_of_ble_eq_true rfl, Nat.le_of_ble_eq_true rfl⟩ (fun r_3 H locs hr9 hP hS => ?_)
  replace hr9 : r_3 = (f_cell i_j i_i) := hr9
  subst hr9
  refine lv_iload_n hx hb dX2_putEntry_20 rfl (lv_at hl 3 rfl) ?_
  obtain ⟨h_4, hv⟩ := hv
  refine va_iast (D := g.1) hx hb hK.1 hP hD hS 1 0 rfl rfl h_4 dX2_putEntry_21 (fun H locs hP hD hS => ?_)
  have hP : va_P g.1 vwCl [(a_P, .inr (2, [.int P_rows, .ref a_P_entries, .ref a_P_order, .ref a_P_places, .ref a_P_rights, .ref a_P_weights])), (a_P_entries, .inl (g.2.1, 256, .inl (upd (upd P_entries (Int32.toNatClampNeg (f_cell i_i i_j)) i_v) (Int32.toNatClampNeg (f_cell i_j i_i)) i_v)))] H := hP
  have hD : va_D A [(a_P, .inr (2, [.int P_rows, .ref a_P_entries, .ref a_P_order, .ref a_P_places, .ref a_P_rights, .ref a_P_weights])), (a_P_entries, .inl (g.2.1, 256, .inl (upd (upd P_entries (Int32.toNatClampNeg (f_cell i_i i_j)) i_v) (Int32.toNatClampNeg (f_cell i_j i_i)) i_v)))] := hD
  exact cx_vret hx hb hr hlocks hAe hS (upd (upd P_entries (Int32.toNatClampNeg (f_cell i_i i_j)) i_v) (Int32.toNatClampNeg (f_cell i_j i_i)) i_v) hv hP hD dX2_putEntry_22
def wp_X2_entryAtPositions (i_p : Int32) (i_q : Int32) (P_rows : Int32) (P_order : (Nat → Int32)) (P_entries : (Nat → Int32)) (Q : Int32 → Prop)   : Prop := vp_in i_p 16 ∧ (vp_in i_q 16 ∧ (vp_in (f_cell (P_order (Int32.toNatClampNeg i_p)) (P_order (Int32.toNatClampNeg i_q))) 256 ∧ (Q (P_entries (Int32.toNatClampNeg (f_cell (P_order (Int32.toNatClampNeg i_p)) (P_order (Int32.toNatClampNeg i_q))))))))
abbrev w0_X2_entryAtPositions (g : cx_G) (a_P a_P_entries a_P_order a_P_places a_P_rights a_P_weights : Nat) (P_rows : Int32) (P_order : (Nat → Int32)) (P_entries : (Nat → Int32)) : va_W := [(a_P, .inr (2, [.int P_rows, .ref a_P_entries, .ref a_P_order, .ref a_P_places, .ref a_P_rights, .ref a_P_weights])), (a_P_order, .inl (g.2.1, 16, .inl P_order)), (a_P_entries, .inl (g.2.1, 256, .inl P_entries))]
set_option maxHeartbeats 4000000 in
set_option maxRecDepth 100000 in
theorem c_X2_entryAtPositions (l : Launch) (g : cx_G) (a_P a_P_entries a_P_order a_P_places a_P_rights a_P_weights : Nat) (i_p : Int32) (i_q : Int32) (P_rows : Int32) (P_order : (Nat → Int32)) (P_entries : (Nat → Int32)) {Q : Int32 → Prop} (hv : wp_X2_entryAtPositions i_p i_q P_rows P_order P_entries Q) : cx_Mi l g yX2_entryAtPositions (Cond.code yX2_entryAtPositions cX2_entryAtPositions 3 (some .int) :: cx_T) ({ frames := 1, cells := 0, slots := 0, locals := 21 } : Room) [.ref a_P, .int i_p, .int i_q] (w0_X2_entryAtPositions g a_P a_P_entries a_P_order a_P_places a_P_rights a_P_weights P_rows P_order P_entries) (fun (r : Int32) (_ : Unit) => Q r) (fun _ : Unit => (w0_X2_entryAtPositions g a_P a_P_entries a_P_order a_P_places a_P_rights a_P_weights P_rows P_order P_entries)) 0 0 := by
  intro sz
  refine Met.ofW (cc := cX2_entryAtPositions) (maxL := 3) (ret := (some .int)) (by decide) rfl ?_
  intro p e s m args below meth c s₁ B hml hpre
  obtain ⟨rfl, hsz, hP, hK, hD0⟩ := hpre
  have hx := B.exec
  have hb := B.bytes
  have hr := B.returns
  have hts0 := atoms_spec (ws := (Cond.code yX2_entryAtPositions cX2_entryAtPositions 3 (some .int) :: cx_T)) B.pre
  have hts : ∀ w ∈ cx_T, w.before _ s = true := fun w h => hts0 w (List.mem_cons_of_mem _ h)
  have hown : s.vm.findClass RX2 = some m.cls := findClass_of_methodNamed B.named
  have hlocks := B.notSynchronized
  subst hsz
  have hD := hD0.self (sz := s.heap.size)
  obtain ⟨A, hAe⟩ : ∃ A : Nat → Prop, A = va_A (w0_X2_entryAtPositions g a_P a_P_entries a_P_order a_P_places a_P_rights a_P_weights P_rows P_order P_entries) s.heap.size := ⟨_, rfl⟩
  rw [← hAe] at hD
  have hA : ∀ q : Nat, s.heap.size ≤ q → A q := fun q h => by rw [hAe]; exact Or.inr h
  have hS : va_S A s.heap s.heap [] := va_S.rf
  have hP : va_P g.1 vwCl [(a_P, .inr (2, [.int P_rows, .ref a_P_entries, .ref a_P_order, .ref a_P_places, .ref a_P_rights, .ref a_P_weights])), (a_P_order, .inl (g.2.1, 16, .inl P_order)), (a_P_entries, .inl (g.2.1, 256, .inl P_entries))] s.heap := hP
  have hD : va_D A [(a_P, .inr (2, [.int P_rows, .ref a_P_entries, .ref a_P_order, .ref a_P_places, .ref a_P_rights, .ref a_P_weights])), (a_P_order, .inl (g.2.1, 16, .inl P_order)), (a_P_entries, .inl (g.2.1, 256, .inl P_entries))] := hD
  have hl := lv_entry ([.ref a_P, .int i_p, .int i_q]) (n := 3) (Nat.le_of_ble_eq_true rfl)
  rw [lg_entry_eq]
  generalize (lg_sl ([.ref a_P, .int i_p, .int i_q]) ++ List.replicate (3 - (lg_sl ([.ref a_P, .int i_p, .int i_q])).length) Slot.unset).toArray = ls at hl ⊢
  have hl : lv_has ls 3 [(0, .ref a_P), (1, .int i_p), (2, .int i_q)] := hl
  unfold wp_X2_entryAtPositions at hv
  refine lv_aload_n hx hb dX2_entryAtPositions_0 rfl (lv_at hl 0 rfl) ?_
  refine va_get (D := g.1) (ci := 2) (v := .ref a_P_entries) (C := RX2) (T := TX2) (N := 6) hx hb hts cw_in_X2 hown hK.1 hP 0 rfl rfl 1 (by decide) (hts _ cw_f_X2_15) (fun _ h9 => h9) rfl dX2_entryAtPositions_1 ?_
  refine lv_aload_n hx hb dX2_entryAtPositions_4 rfl (lv_at hl 0 rfl) ?_
  refine va_get (D := g.1) (ci := 2) (v := .ref a_P_order) (C := RX2) (T := TX2) (N := 6) hx hb hts cw_in_X2 hown hK.1 hP 0 rfl rfl 2 (by decide) (hts _ cw_f_X2_19) (fun _ h9 => h9) rfl dX2_entryAtPositions_5 ?_
  refine lv_iload_n hx hb dX2_entryAtPositions_8 rfl (lv_at hl 1 rfl) ?_
  obtain ⟨h_1, hv⟩ := hv
  refine va_iald (D := g.1) hx hb hK.1 hP 1 0 rfl rfl h_1 dX2_entryAtPositions_9 ?_
  refine lv_aload_n hx hb dX2_entryAtPositions_10 rfl (lv_at hl 0 rfl) ?_
  refine va_get (D := g.1) (ci := 2) (v := .ref a_P_order) (C := RX2) (T := TX2) (N := 6) hx hb hts cw_in_X2 hown hK.1 hP 0 rfl rfl 2 (by decide) (hts _ cw_f_X2_19) (fun _ h9 => h9) rfl dX2_entryAtPositions_11 ?_
  refine lv_iload_n hx hb dX2_entryAtPositions_14 rfl (lv_at hl 2 rfl) ?_
  obtain ⟨h_2, hv⟩ := hv
  refine va_iald (D := g.1) hx hb hK.1 hP 1 0 rfl rfl h_2 dX2_entryAtPositions_15 ?_
  refine cx_iNr (As := [.int (P_order (Int32.toNatClampNeg i_p)), .int (P_order (Int32.toNatClampNeg i_q))]) (rest := [.ref a_P_entries]) ⟨hx, hb, hml, hown, hts⟩ (cp_X4_cell l g (P_order (Int32.toNatClampNeg i_p)) (P_order (Int32.toNatClampNeg i_q))) (cx_cwN 2 hts (hK.2.at 0 rfl) cw_t_X4_cell cw_n_X4 cw_c_X4_cell rfl rfl (by decide +kernel) ⟨Nat.le_of_ble_eq_true rfl, Nat.le_of_ble_eq_true rfl⟩) hK hP hD hS hA [] rfl rfl rfl hl.1 rfl (Nat.le_of_ble_eq_true rfl) dX2_entryAtPositions_16 ⟨Nat.le_of_ble_eq_true rfl, Nat.le_of_ble_eq_true rfl⟩ (fun r_3 H locs hr9 hP hS => ?_)
  replace hr9 : r_3 = (f_cell (P_order (Int32.toNatClampNeg i_p)) (P_order (Int32.toNatClampNeg i_q))) := hr9
  subst hr9
  obtain ⟨h_4, hv⟩ := hv
  refine va_iald (D := g.1) hx hb hK.1 hP 2 0 rfl rfl h_4 dX2_entryAtPositions_19 ?_
  exact cx_iret hx hb hr hlocks hAe hS () hv hP hD dX2_entryAtPositions_20
def vc_X2_addWeights_0 (i_f : Int32) (P_rows : Int32) (P_weights : (Nat → Int32)) (P_entries : (Nat → Int32)) (Q : (Nat → Int32) → Prop) (G1 : Int32 → (Nat → Int32) → Prop) (G2 : Int32 → Int32 → Int32 → (Nat → Int32) → Prop)  : Prop := G1 0 P_entries
def vc_X2_addWeights_1 (i_f : Int32) (P_rows : Int32) (P_weights : (Nat → Int32)) (P_entries : (Nat → Int32)) (Q : (Nat → Int32) → Prop) (G1 : Int32 → (Nat → Int32) → Prop) (G2 : Int32 → Int32 → Int32 → (Nat → Int32) → Prop) (x2 : Int32) (v_P_entries : (Nat → Int32)) : Prop := (P_rows ≤ x2 → (Q v_P_entries)) ∧ (¬ P_rows ≤ x2 → (vp_in x2 16 ∧ (∀ x3_3 : Int32, x3_3 = (f_times i_f (P_weights (Int32.toNatClampNeg x2))) → (G2 0 x3_3 x2 v_P_entries))))
def vc_X2_addWeights_2 (i_f : Int32) (P_rows : Int32) (P_weights : (Nat → Int32)) (P_entries : (Nat → Int32)) (Q : (Nat → Int32) → Prop) (G1 : Int32 → (Nat → Int32) → Prop) (G2 : Int32 → Int32 → Int32 → (Nat → Int32) → Prop) (x4 : Int32) (x3 : Int32) (x2 : Int32) (v_P_entries : (Nat → Int32)) : Prop := (x2 < x4 → (∀ x2_1 : Int32, x2_1 = x2 + 1 → (G1 x2_1 v_P_entries))) ∧ (¬ x2 < x4 → (wp_X2_entryAt x2 x4 P_rows v_P_entries (fun r_2 => vp_in x4 16 ∧ (wp_X2_putEntry x2 x4 (f_plus r_2 (f_times x3 (P_weights (Int32.toNatClampNeg x4)))) P_rows v_P_entries (fun u_7 => ∀ x4_9 : Int32, x4_9 = x4 + 1 → (G2 x4_9 x3 x2 u_7))))))
def wp_X2_addWeights (i_f : Int32) (P_rows : Int32) (P_weights : (Nat → Int32)) (P_entries : (Nat → Int32)) (Q : (Nat → Int32) → Prop) : Prop := ∀ (G1 : Int32 → (Nat → Int32) → Prop) (G2 : Int32 → Int32 → Int32 → (Nat → Int32) → Prop), (∀ (x2 : Int32) (v_P_entries : (Nat → Int32)), vc_X2_addWeights_1 i_f P_rows P_weights P_entries Q G1 G2 x2 v_P_entries → G1 x2 v_P_entries) → (∀ (x4 : Int32) (x3 : Int32) (x2 : Int32) (v_P_entries : (Nat → Int32)), vc_X2_addWeights_2 i_f P_rows P_weights P_entries Q G1 G2 x4 x3 x2 v_P_entries → G2 x4 x3 x2 v_P_entries) → vc_X2_addWeights_0 i_f P_rows P_weights P_entries Q G1 G2
abbrev w0_X2_addWeights (g : cx_G) (a_P a_P_entries a_P_order a_P_places a_P_rights a_P_weights : Nat) (P_rows : Int32) (P_weights : (Nat → Int32)) (P_entries : (Nat → Int32)) : va_W := [(a_P, .inr (2, [.int P_rows, .ref a_P_entries, .ref a_P_order, .ref a_P_places, .ref a_P_rights, .ref a_P_weights])), (a_P_weights, .inl (g.2.1, 16, .inl P_weights)), (a_P_entries, .inl (g.2.1, 256, .inl P_entries))]
abbrev w1_X2_addWeights (g : cx_G) (a_P a_P_entries a_P_order a_P_places a_P_rights a_P_weights : Nat) (P_rows : Int32) (P_weights : (Nat → Int32)) (P_entries : (Nat → Int32)) (u : (Nat → Int32)) : va_W := [(a_P, .inr (2, [.int P_rows, .ref a_P_entries, .ref a_P_order, .ref a_P_places, .ref a_P_rights, .ref a_P_weights])), (a_P_weights, .inl (g.2.1, 16, .inl P_weights)), (a_P_entries, .inl (g.2.1, 256, .inl u))]
set_option maxHeartbeats 4000000 in
set_option maxRecDepth 100000 in
theorem c_X2_addWeights (l : Launch) (g : cx_G) (a_P a_P_entries a_P_order a_P_places a_P_rights a_P_weights : Nat) (i_f : Int32) (P_rows : Int32) (P_weights : (Nat → Int32)) (P_entries : (Nat → Int32)) {Q : (Nat → Int32) → Prop} (hv : wp_X2_addWeights i_f P_rows P_weights P_entries Q) : cx_Mv l g yX2_addWeights (Cond.code yX2_addWeights cX2_addWeights 5 none :: cx_T) ({ frames := 2, cells := 0, slots := 0, locals := 44 } : Room) [.ref a_P, .int i_f] (w0_X2_addWeights g a_P a_P_entries a_P_order a_P_places a_P_rights a_P_weights P_rows P_weights P_entries) (fun (u : (Nat → Int32)) => Q u) (w1_X2_addWeights g a_P a_P_entries a_P_order a_P_places a_P_rights a_P_weights P_rows P_weights P_entries) 0 0 := by
  intro sz
  refine Met.ofW (cc := cX2_addWeights) (maxL := 5) (ret := none) (by decide) rfl ?_
  intro p e s m args below meth c s₁ B hml hpre
  obtain ⟨rfl, hsz, hP, hK, hD0⟩ := hpre
  have hx := B.exec
  have hb := B.bytes
  have hr := B.returns
  have hts0 := atoms_spec (ws := (Cond.code yX2_addWeights cX2_addWeights 5 none :: cx_T)) B.pre
  have hts : ∀ w ∈ cx_T, w.before _ s = true := fun w h => hts0 w (List.mem_cons_of_mem _ h)
  have hown : s.vm.findClass RX2 = some m.cls := findClass_of_methodNamed B.named
  have hlocks := B.notSynchronized
  subst hsz
  have hD := hD0.self (sz := s.heap.size)
  obtain ⟨A, hAe⟩ : ∃ A : Nat → Prop, A = va_A (w0_X2_addWeights g a_P a_P_entries a_P_order a_P_places a_P_rights a_P_weights P_rows P_weights P_entries) s.heap.size := ⟨_, rfl⟩
  rw [← hAe] at hD
  have hA : ∀ q : Nat, s.heap.size ≤ q → A q := fun q h => by rw [hAe]; exact Or.inr h
  have hS : va_S A s.heap s.heap [] := va_S.rf
  have hP : va_P g.1 vwCl [(a_P, .inr (2, [.int P_rows, .ref a_P_entries, .ref a_P_order, .ref a_P_places, .ref a_P_rights, .ref a_P_weights])), (a_P_weights, .inl (g.2.1, 16, .inl P_weights)), (a_P_entries, .inl (g.2.1, 256, .inl P_entries))] s.heap := hP
  have hD : va_D A [(a_P, .inr (2, [.int P_rows, .ref a_P_entries, .ref a_P_order, .ref a_P_places, .ref a_P_rights, .ref a_P_weights])), (a_P_weights, .inl (g.2.1, 16, .inl P_weights)), (a_P_entries, .inl (g.2.1, 256, .inl P_entries))] := hD
  have hl := lv_entry ([.ref a_P, .int i_f]) (n := 5) (Nat.le_of_ble_eq_true rfl)
  rw [lg_entry_eq]
  generalize (lg_sl ([.ref a_P, .int i_f]) ++ List.replicate (5 - (lg_sl ([.ref a_P, .int i_f])).length) Slot.unset).toArray = ls at hl ⊢
  have hl : lv_has ls 5 [(0, .ref a_P), (1, .int i_f)] := hl
  obtain ⟨G1, hG1⟩ : ∃ G : Int32 → (Nat → Int32) → Prop, G = (fun (x2 : Int32) (v_P_entries : (Nat → Int32)) => ∀ (H : Heap) (locs : List Loc) (ls : Array Slot), va_P g.1 vwCl [(a_P, .inr (2, [.int P_rows, .ref a_P_entries, .ref a_P_order, .ref a_P_places, .ref a_P_rights, .ref a_P_weights])), (a_P_weights, .inl (g.2.1, 16, .inl P_weights)), (a_P_entries, .inl (g.2.1, 256, .inl v_P_entries))] H → va_D A [(a_P, .inr (2, [.int P_rows, .ref a_P_entries, .ref a_P_order, .ref a_P_places, .ref a_P_rights, .ref a_P_weights])), (a_P_weights, .inl (g.2.1, 16, .inl P_weights)), (a_P_entries, .inl (g.2.1, 256, .inl v_P_entries))] → va_S A s.heap H locs → lv_has ls 5 [(2, .int x2), (0, .ref a_P), (1, .int i_f)] → W p l e (headSpec (Cond.code yX2_addWeights cX2_addWeights 5 none :: cx_T) ({ frames := 2, cells := 0, slots := 0, locals := 44 } : Room)).room s m ([.ref a_P, .int i_f] : List Value).toArray below meth c H locs 0 0 (MQ below (va_Qv (fun (u : (Nat → Int32)) => Q u) (cx_B g (w0_X2_addWeights g a_P a_P_entries a_P_order a_P_places a_P_rights a_P_weights P_rows P_weights P_entries) s.heap.size (w1_X2_addWeights g a_P a_P_entries a_P_order a_P_places a_P_rights a_P_weights P_rows P_weights P_entries)) (va_A (w0_X2_addWeights g a_P a_P_entries a_P_order a_P_places a_P_rights a_P_weights P_rows P_weights P_entries) s.heap.size)) ([.ref a_P, .int i_f] : List Value).toArray s 0 0 (va_A (w0_X2_addWeights g a_P a_P_entries a_P_order a_P_places a_P_rights a_P_weights P_rows P_weights P_entries) s.heap.size)) (F0 m 2 ls [])) := ⟨_, rfl⟩
  obtain ⟨G2, hG2⟩ : ∃ G : Int32 → Int32 → Int32 → (Nat → Int32) → Prop, G = (fun (x4 : Int32) (x3 : Int32) (x2 : Int32) (v_P_entries : (Nat → Int32)) => ∀ (H : Heap) (locs : List Loc) (ls : Array Slot), va_P g.1 vwCl [(a_P, .inr (2, [.int P_rows, .ref a_P_entries, .ref a_P_order, .ref a_P_places, .ref a_P_rights, .ref a_P_weights])), (a_P_weights, .inl (g.2.1, 16, .inl P_weights)), (a_P_entries, .inl (g.2.1, 256, .inl v_P_entries))] H → va_D A [(a_P, .inr (2, [.int P_rows, .ref a_P_entries, .ref a_P_order, .ref a_P_places, .ref a_P_rights, .ref a_P_weights])), (a_P_weights, .inl (g.2.1, 16, .inl P_weights)), (a_P_entries, .inl (g.2.1, 256, .inl v_P_entries))] → va_S A s.heap H locs → lv_has ls 5 [(4, .int x4), (3, .int x3), (2, .int x2), (0, .ref a_P), (1, .int i_f)] → W p l e (headSpec (Cond.code yX2_addWeights cX2_addWeights 5 none :: cx_T) ({ frames := 2, cells := 0, slots := 0, locals := 44 } : Room)).room s m ([.ref a_P, .int i_f] : List Value).toArray below meth c H locs 0 0 (MQ below (va_Qv (fun (u : (Nat → Int32)) => Q u) (cx_B g (w0_X2_addWeights g a_P a_P_entries a_P_order a_P_places a_P_rights a_P_weights P_rows P_weights P_entries) s.heap.size (w1_X2_addWeights g a_P a_P_entries a_P_order a_P_places a_P_rights a_P_weights P_rows P_weights P_entries)) (va_A (w0_X2_addWeights g a_P a_P_entries a_P_order a_P_places a_P_rights a_P_weights P_rows P_weights P_entries) s.heap.size)) ([.ref a_P, .int i_f] : List Value).toArray s 0 0 (va_A (w0_X2_addWeights g a_P a_P_entries a_P_order a_P_places a_P_rights a_P_weights P_rows P_weights P_entries) s.heap.size)) (F0 m 24 ls [])) := ⟨_, rfl⟩
  have hs1 : ∀ (x2 : Int32) (v_P_entries : (Nat → Int32)), vc_X2_addWeights_1 i_f P_rows P_weights P_entries Q G1 G2 x2 v_P_entries → G1 x2 v_P_entries := by
    rw [hG1, hG2]
    intro x2 v_P_entries hv H locs ls hP hD hS hl
    unfold vc_X2_addWeights_1 at hv
    refine lv_iload_n hx hb dX2_addWeights_2 rfl (lv_at hl 0 rfl) ?_
    refine lv_aload_n hx hb dX2_addWeights_3 rfl (lv_at hl 1 rfl) ?_
    refine va_get (D := g.1) (ci := 2) (v := .int P_rows) (C := RX2) (T := TX2) (N := 6) hx hb hts cw_in_X2 hown hK.1 hP 0 rfl rfl 0 (by decide) (hts _ cw_f_X2_9) (fun _ h9 => h9) rfl dX2_addWeights_4 ?_
    refine lv_icmp_ge (tgt := 70) hx hb dX2_addWeights_7 (by decide) (fun hc => ?_) (fun hc => ?_)
    · replace hv := hv.1 hc
      exact cx_vret hx hb hr hlocks hAe hS v_P_entries hv hP hD dX2_addWeights_70
    · replace hv := hv.2 hc
      refine lv_iload_n hx hb dX2_addWeights_10 rfl (lv_at hl 2 rfl) ?_
      refine lv_aload_n hx hb dX2_addWeights_11 rfl (lv_at hl 1 rfl) ?_
      refine va_get (D := g.1) (ci := 2) (v := .ref a_P_weights) (C := RX2) (T := TX2) (N := 6) hx hb hts cw_in_X2 hown hK.1 hP 0 rfl rfl 5 (by decide) (hts _ cw_f_X2_28) (fun _ h9 => h9) rfl dX2_addWeights_12 ?_
      refine lv_iload_n hx hb dX2_addWeights_15 rfl (lv_at hl 0 rfl) ?_
      obtain ⟨h_1, hv⟩ := hv
      refine va_iald (D := g.1) hx hb hK.1 hP 1 0 rfl rfl h_1 dX2_addWeights_16 ?_
      refine cx_iNr (As := [.int i_f, .int (P_weights (Int32.toNatClampNeg x2))]) (rest := []) ⟨hx, hb, hml, hown, hts⟩ (cp_X4_times l g i_f (P_weights (Int32.toNatClampNeg x2))) (cx_cwN 2 hts (hK.2.at 3 rfl) cw_t_X4_times cw_n_X4 cw_c_X4_times rfl rfl (by decide +kernel) ⟨Nat.le_of_ble_eq_true rfl, Nat.le_of_ble_eq_true rfl⟩) hK hP hD hS hA [] rfl rfl rfl hl.1 rfl (Nat.le_of_ble_eq_true rfl) dX2_addWeights_17 ⟨Nat.le_of_ble_eq_true rfl, Nat.le_of_ble_eq_true rfl⟩ (fun r_2 H locs hr9 hP hS => ?_)
      replace hr9 : r_2 = (f_times i_f (P_weights (Int32.toNatClampNeg x2))) := hr9
      subst hr9
      refine lv_topi (fun x3_3 ex3_3 => ?_)
      replace hv := hv x3_3 ex3_3
      refine lv_istore_n (lv' := [(3, .int x3_3), (2, .int x2), (0, .ref a_P), (1, .int i_f)]) hx hb dX2_addWeights_20 rfl hl (by decide) rfl (fun ls hl => ?_)
      refine lv_iconst (v := 0) hx hb dX2_addWeights_21 (by decide) ?_
      refine lv_istore (lv' := [(4, .int 0), (3, .int x3_3), (2, .int x2), (0, .ref a_P), (1, .int i_f)]) hx hb dX2_addWeights_22 hl (by decide) rfl (fun ls hl => ?_)
      exact hv _ _ _ hP hD hS (lv_sub hl [0, 1, 2, 3, 4] rfl)
  have hs2 : ∀ (x4 : Int32) (x3 : Int32) (x2 : Int32) (v_P_entries : (Nat → Int32)), vc_X2_addWeights_2 i_f P_rows P_weights P_entries Q G1 G2 x4 x3 x2 v_P_entries → G2 x4 x3 x2 v_P_entries := by
    rw [hG1, hG2]
    intro x4 x3 x2 v_P_entries hv H locs ls hP hD hS hl
    unfold vc_X2_addWeights_2 at hv
    refine lv_iload hx hb dX2_addWeights_24 (lv_at hl 0 rfl) ?_
    refine lv_iload_n hx hb dX2_addWeights_26 rfl (lv_at hl 2 rfl) ?_
    refine lv_icmp_gt (tgt := 64) hx hb dX2_addWeights_27 (by decide) (fun hc => ?_) (fun hc => ?_)
    · replace hv := hv.1 hc
      obtain ⟨x2_1, ex2_1⟩ : ∃ y : Int32, y = x2 + 1 := ⟨_, rfl⟩
      replace hv := hv x2_1 ex2_1
      refine lv_iinc (v := x2_1) (lv' := [(2, .int x2_1), (4, .int x4), (3, .int x3), (0, .ref a_P), (1, .int i_f)]) hx hb dX2_addWeights_64 hl (k := 2) rfl (by rw [ex2_1]; rfl) (by decide) rfl (fun ls hl => ?_)
      refine lv_goto (tgt := 2) hx hb dX2_addWeights_67 (by decide) ?_
      exact hv _ _ _ hP hD hS (lv_sub hl [0, 3, 4] rfl)
    · replace hv := hv.2 hc
      refine lv_aload_n hx hb dX2_addWeights_30 rfl (lv_at hl 3 rfl) ?_
      refine lv_iload_n hx hb dX2_addWeights_31 rfl (lv_at hl 2 rfl) ?_
      refine lv_iload hx hb dX2_addWeights_32 (lv_at hl 0 rfl) ?_
      refine lv_aload_n hx hb dX2_addWeights_34 rfl (lv_at hl 3 rfl) ?_
      refine lv_iload_n hx hb dX2_addWeights_35 rfl (lv_at hl 2 rfl) ?_
      refine lv_iload hx hb dX2_addWeights_36 (lv_at hl 0 rfl) ?_
      refine cx_iVr (As := [.int x2, .int x4]) (rest := [.int x4, .int x2, .ref a_P]) ⟨hx, hb, hml, hown, hts⟩ (c_X2_entryAt l g a_P a_P_entries a_P_order a_P_places a_P_rights a_P_weights x2 x4 P_rows v_P_entries hv) (cx_cwV 2 hts cw_m_X2_48 cw_i_X2_entryAt cw_s_X2_entryAt cw_n_X2 cw_c_X2_entryAt rfl rfl (by decide +kernel) ⟨Nat.le_of_ble_eq_true rfl, Nat.le_of_ble_eq_true rfl⟩) hK hP hD hS hA 0 2 rfl rfl [0, 2] rfl rfl rfl hl.1 rfl (Nat.le_of_ble_eq_true rfl) dX2_addWeights_38 ⟨Nat.le_of_ble_eq_true rfl, Nat.le_of_ble_eq_true rfl⟩ (fun r_2 H locs hv hP hS => ?_)
      refine lv_iload_n hx hb dX2_addWeights_41 rfl (lv_at hl 1 rfl) ?_
      refine lv_aload_n hx hb dX2_addWeights_42 rfl (lv_at hl 3 rfl) ?_
      refine va_get (D := g.1) (ci := 2) (v := .ref a_P_weights) (C := RX2) (T := TX2) (N := 6) hx hb hts cw_in_X2 hown hK.1 hP 0 rfl rfl 5 (by decide) (hts _ cw_f_X2_28) (fun _ h9 => h9) rfl dX2_addWeights_43 ?_
      refine lv_iload hx hb dX2_addWeights_46 (lv_at hl 0 rfl) ?_
      obtain ⟨h_3, hv⟩ := hv
      refine va_iald (D := g.1) hx hb hK.1 hP 1 0 rfl rfl h_3 dX2_addWeights_48 ?_
      refine cx_iNr (As := [.int x3, .int (P_weights (Int32.toNatClampNeg x4))]) (rest := [.int r_2, .int x4, .int x2, .ref a_P]) ⟨hx, hb, hml, hown, hts⟩ (cp_X4_times l g x3 (P_weights (Int32.toNatClampNeg x4))) (cx_cwN 2 hts (hK.2.at 3 rfl) cw_t_X4_times cw_n_X4 cw_c_X4_times rfl rfl (by decide +kernel) ⟨Nat.le_of_ble_eq_true rfl, Nat.le_of_ble_eq_true rfl⟩) hK hP hD hS hA [] rfl rfl rfl hl.1 rfl (Nat.le_of_ble_eq_true rfl) dX2_addWeights_49 ⟨Nat.le_of_ble_eq_true rfl, Nat.le_of_ble_eq_true rfl⟩ (fun r_4 H locs hr9 hP hS => ?_)
      replace hr9 : r_4 = (f_times x3 (P_weights (Int32.toNatClampNeg x4))) := hr9
      subst hr9
      refine cx_iNr (As := [.int r_2, .int (f_times x3 (P_weights (Int32.toNatClampNeg x4)))]) (rest := [.int x4, .int x2, .ref a_P]) ⟨hx, hb, hml, hown, hts⟩ (cp_X4_plus l g r_2 (f_times x3 (P_weights (Int32.toNatClampNeg x4)))) (cx_cwN 2 hts (hK.2.at 4 rfl) cw_t_X4_plus cw_n_X4 cw_c_X4_plus rfl rfl (by decide +kernel) ⟨Nat.le_of_ble_eq_true rfl, Nat.le_of_ble_eq_true rfl⟩) hK hP hD hS hA [] rfl rfl rfl hl.1 rfl (Nat.le_of_ble_eq_true rfl) dX2_addWeights_52 ⟨Nat.le_of_ble_eq_true rfl, Nat.le_of_ble_eq_true rfl⟩ (fun r_5 H locs hr9 hP hS => ?_)
      replace hr9 : r_5 = (f_plus r_2 (f_times x3 (P_weights (Int32.toNatClampNeg x4)))) := hr9
      subst hr9
      refine cx_vV (wr := [(a_P_weights, .inl (g.2.1, 16, .inl P_weights))]) (As := [.int x2, .int x4, .int (f_plus r_2 (f_times x3 (P_weights (Int32.toNatClampNeg x4))))]) (rest := []) ⟨hx, hb, hml, hown, hts⟩ (c_X2_putEntry l g a_P a_P_entries a_P_order a_P_places a_P_rights a_P_weights x2 x4 (f_plus r_2 (f_times x3 (P_weights (Int32.toNatClampNeg x4)))) P_rows v_P_entries hv) (cx_cwV 3 hts cw_m_X2_54 cw_i_X2_putEntry cw_s_X2_putEntry cw_n_X2 cw_c_X2_putEntry rfl rfl (by decide +kernel) ⟨Nat.le_of_ble_eq_true rfl, Nat.le_of_ble_eq_true rfl⟩) hK hP hD hS hA 0 2 rfl rfl [0, 2] [1] rfl rfl rfl rfl (by decide) rfl hl.1 rfl (Nat.le_of_ble_eq_true rfl) dX2_addWeights_55 ⟨Nat.le_of_ble_eq_true rfl, Nat.le_of_ble_eq_true rfl⟩ (fun w_8 H locs hv hP hD hS => ?_)
      obtain ⟨u_7, rfl⟩ : ∃ z, z = w_8 := ⟨_, rfl⟩
      have hP : va_P g.1 vwCl [(a_P, .inr (2, [.int P_rows, .ref a_P_entries, .ref a_P_order, .ref a_P_places, .ref a_P_rights, .ref a_P_weights])), (a_P_weights, .inl (g.2.1, 16, .inl P_weights)), (a_P_entries, .inl (g.2.1, 256, .inl u_7))] H := hP.sub [1, 0, 2] rfl
      have hD : va_D A [(a_P, .inr (2, [.int P_rows, .ref a_P_entries, .ref a_P_order, .ref a_P_places, .ref a_P_rights, .ref a_P_weights])), (a_P_weights, .inl (g.2.1, 16, .inl P_weights)), (a_P_entries, .inl (g.2.1, 256, .inl u_7))] := hD.sub [1, 0, 2] (by decide) rfl
      obtain ⟨x4_9, ex4_9⟩ : ∃ y : Int32, y = x4 + 1 := ⟨_, rfl⟩
      replace hv := hv x4_9 ex4_9
      refine lv_iinc (v := x4_9) (lv' := [(4, .int x4_9), (3, .int x3), (2, .int x2), (0, .ref a_P), (1, .int i_f)]) hx hb dX2_addWeights_58 hl (k := 0) rfl (by rw [ex4_9]; rfl) (by decide) rfl (fun ls hl => ?_)
      refine lv_goto (tgt := 24) hx hb dX2_addWeights_61 (by decide) ?_
      exact hv _ _ _ hP hD hS (lv_sub hl [0, 1, 2, 3, 4] rfl)
  replace hv := hv G1 G2 hs1 hs2
  rw [hG1, hG2] at hv
  unfold vc_X2_addWeights_0 at hv
  refine lv_iconst (v := 0) hx hb dX2_addWeights_0 (by decide) ?_
  refine lv_istore_n (lv' := [(2, .int 0), (0, .ref a_P), (1, .int i_f)]) hx hb dX2_addWeights_1 rfl hl (by decide) rfl (fun ls hl => ?_)
  exact hv _ _ _ hP hD hS (lv_sub hl [0, 1, 2] rfl)
def wp_X2_allRows (P_rows : Int32) (Q : Int32 → Prop)   : Prop := Q ((f_bit P_rows) - 1)
abbrev w0_X2_allRows (g : cx_G) (a_P a_P_entries a_P_order a_P_places a_P_rights a_P_weights : Nat) (P_rows : Int32) : va_W := [(a_P, .inr (2, [.int P_rows, .ref a_P_entries, .ref a_P_order, .ref a_P_places, .ref a_P_rights, .ref a_P_weights]))]
set_option maxHeartbeats 4000000 in
set_option maxRecDepth 100000 in
theorem c_X2_allRows (l : Launch) (g : cx_G) (a_P a_P_entries a_P_order a_P_places a_P_rights a_P_weights : Nat) (P_rows : Int32) {Q : Int32 → Prop} (hv : wp_X2_allRows P_rows Q) : cx_Mi l g yX2_allRows (Cond.code yX2_allRows cX2_allRows 1 (some .int) :: cx_T) ({ frames := 1, cells := 0, slots := 0, locals := 20 } : Room) [.ref a_P] (w0_X2_allRows g a_P a_P_entries a_P_order a_P_places a_P_rights a_P_weights P_rows) (fun (r : Int32) (_ : Unit) => Q r) (fun _ : Unit => (w0_X2_allRows g a_P a_P_entries a_P_order a_P_places a_P_rights a_P_weights P_rows)) 0 0 := by
  intro sz
  refine Met.ofW (cc := cX2_allRows) (maxL := 1) (ret := (some .int)) (by decide) rfl ?_
  intro p e s m args below meth c s₁ B hml hpre
  obtain ⟨rfl, hsz, hP, hK, hD0⟩ := hpre
  have hx := B.exec
  have hb := B.bytes
  have hr := B.returns
  have hts0 := atoms_spec (ws := (Cond.code yX2_allRows cX2_allRows 1 (some .int) :: cx_T)) B.pre
  have hts : ∀ w ∈ cx_T, w.before _ s = true := fun w h => hts0 w (List.mem_cons_of_mem _ h)
  have hown : s.vm.findClass RX2 = some m.cls := findClass_of_methodNamed B.named
  have hlocks := B.notSynchronized
  subst hsz
  have hD := hD0.self (sz := s.heap.size)
  obtain ⟨A, hAe⟩ : ∃ A : Nat → Prop, A = va_A (w0_X2_allRows g a_P a_P_entries a_P_order a_P_places a_P_rights a_P_weights P_rows) s.heap.size := ⟨_, rfl⟩
  rw [← hAe] at hD
  have hA : ∀ q : Nat, s.heap.size ≤ q → A q := fun q h => by rw [hAe]; exact Or.inr h
  have hS : va_S A s.heap s.heap [] := va_S.rf
  have hP : va_P g.1 vwCl [(a_P, .inr (2, [.int P_rows, .ref a_P_entries, .ref a_P_order, .ref a_P_places, .ref a_P_rights, .ref a_P_weights]))] s.heap := hP
  have hD : va_D A [(a_P, .inr (2, [.int P_rows, .ref a_P_entries, .ref a_P_order, .ref a_P_places, .ref a_P_rights, .ref a_P_weights]))] := hD
  have hl := lv_entry ([.ref a_P]) (n := 1) (Nat.le_of_ble_eq_true rfl)
  rw [lg_entry_eq]
  generalize (lg_sl ([.ref a_P]) ++ List.replicate (1 - (lg_sl ([.ref a_P])).length) Slot.unset).toArray = ls at hl ⊢
  have hl : lv_has ls 1 [(0, .ref a_P)] := hl
  unfold wp_X2_allRows at hv
  refine lv_aload_n hx hb dX2_allRows_0 rfl (lv_at hl 0 rfl) ?_
  refine va_get (D := g.1) (ci := 2) (v := .int P_rows) (C := RX2) (T := TX2) (N := 6) hx hb hts cw_in_X2 hown hK.1 hP 0 rfl rfl 0 (by decide) (hts _ cw_f_X2_9) (fun _ h9 => h9) rfl dX2_allRows_1 ?_
  refine cx_iNr (As := [.int P_rows]) (rest := []) ⟨hx, hb, hml, hown, hts⟩ (cp_X4_bit l g P_rows) (cx_cwN 1 hts (hK.2.at 1 rfl) cw_t_X4_bit cw_n_X4 cw_c_X4_bit rfl rfl (by decide +kernel) ⟨Nat.le_of_ble_eq_true rfl, Nat.le_of_ble_eq_true rfl⟩) hK hP hD hS hA [] rfl rfl rfl hl.1 rfl (Nat.le_of_ble_eq_true rfl) dX2_allRows_4 ⟨Nat.le_of_ble_eq_true rfl, Nat.le_of_ble_eq_true rfl⟩ (fun r_1 H locs hr9 hP hS => ?_)
  replace hr9 : r_1 = (f_bit P_rows) := hr9
  subst hr9
  refine lv_iconst (v := 1) hx hb dX2_allRows_7 (by decide) ?_
  refine lv_isub hx hb dX2_allRows_8 ?_
  exact cx_iret hx hb hr hlocks hAe hS () hv hP hD dX2_allRows_9
def vc_X2_linksOf_0 (i_i : Int32) (P_rows : Int32) (P_entries : (Nat → Int32)) (Q : Int32 → Prop) (G1 : Int32 → Int32 → Prop)  : Prop := G1 0 0
def vc_X2_linksOf_1 (i_i : Int32) (P_rows : Int32) (P_entries : (Nat → Int32)) (Q : Int32 → Prop) (G1 : Int32 → Int32 → Prop) (x3 : Int32) (x2 : Int32) : Prop := (P_rows ≤ x3 → (Q x2)) ∧ (¬ P_rows ≤ x3 → ((x3 = i_i → (∀ x3_1 : Int32, x3_1 = x3 + 1 → (G1 x3_1 x2))) ∧ (¬ x3 = i_i → (wp_X2_entryAt i_i x3 P_rows P_entries (fun r_2 => (r_2 = 0 → (∀ x3_3 : Int32, x3_3 = x3 + 1 → (G1 x3_3 x2))) ∧ (¬ r_2 = 0 → (∀ x2_5 : Int32, x2_5 = (x2 ||| (f_bit x3)) → (∀ x3_6 : Int32, x3_6 = x3 + 1 → (G1 x3_6 x2_5)))))))))
def wp_X2_linksOf (i_i : Int32) (P_rows : Int32) (P_entries : (Nat → Int32)) (Q : Int32 → Prop) : Prop := ∀ (G1 : Int32 → Int32 → Prop), (∀ (x3 : Int32) (x2 : Int32), vc_X2_linksOf_1 i_i P_rows P_entries Q G1 x3 x2 → G1 x3 x2) → vc_X2_linksOf_0 i_i P_rows P_entries Q G1
abbrev w0_X2_linksOf (g : cx_G) (a_P a_P_entries a_P_order a_P_places a_P_rights a_P_weights : Nat) (P_rows : Int32) (P_entries : (Nat → Int32)) : va_W := [(a_P, .inr (2, [.int P_rows, .ref a_P_entries, .ref a_P_order, .ref a_P_places, .ref a_P_rights, .ref a_P_weights])), (a_P_entries, .inl (g.2.1, 256, .inl P_entries))]
set_option maxHeartbeats 4000000 in
set_option maxRecDepth 100000 in
theorem c_X2_linksOf (l : Launch) (g : cx_G) (a_P a_P_entries a_P_order a_P_places a_P_rights a_P_weights : Nat) (i_i : Int32) (P_rows : Int32) (P_entries : (Nat → Int32)) {Q : Int32 → Prop} (hv : wp_X2_linksOf i_i P_rows P_entries Q) : cx_Mi l g yX2_linksOf (Cond.code yX2_linksOf cX2_linksOf 4 (some .int) :: cx_T) ({ frames := 2, cells := 0, slots := 0, locals := 43 } : Room) [.ref a_P, .int i_i] (w0_X2_linksOf g a_P a_P_entries a_P_order a_P_places a_P_rights a_P_weights P_rows P_entries) (fun (r : Int32) (_ : Unit) => Q r) (fun _ : Unit => (w0_X2_linksOf g a_P a_P_entries a_P_order a_P_places a_P_rights a_P_weights P_rows P_entries)) 0 0 := by
  intro sz
  refine Met.ofW (cc := cX2_linksOf) (maxL := 4) (ret := (some .int)) (by decide) rfl ?_
  intro p e s m args below meth c s₁ B hml hpre
  obtain ⟨rfl, hsz, hP, hK, hD0⟩ := hpre
  have hx := B.exec
  have hb := B.bytes
  have hr := B.returns
  have hts0 := atoms_spec (ws := (Cond.code yX2_linksOf cX2_linksOf 4 (some .int) :: cx_T)) B.pre
  have hts : ∀ w ∈ cx_T, w.before _ s = true := fun w h => hts0 w (List.mem_cons_of_mem _ h)
  have hown : s.vm.findClass RX2 = some m.cls := findClass_of_methodNamed B.named
  have hlocks := B.notSynchronized
  subst hsz
  have hD := hD0.self (sz := s.heap.size)
  obtain ⟨A, hAe⟩ : ∃ A : Nat → Prop, A = va_A (w0_X2_linksOf g a_P a_P_entries a_P_order a_P_places a_P_rights a_P_weights P_rows P_entries) s.heap.size := ⟨_, rfl⟩
  rw [← hAe] at hD
  have hA : ∀ q : Nat, s.heap.size ≤ q → A q := fun q h => by rw [hAe]; exact Or.inr h
  have hS : va_S A s.heap s.heap [] := va_S.rf
  have hP : va_P g.1 vwCl [(a_P, .inr (2, [.int P_rows, .ref a_P_entries, .ref a_P_order, .ref a_P_places, .ref a_P_rights, .ref a_P_weights])), (a_P_entries, .inl (g.2.1, 256, .inl P_entries))] s.heap := hP
  have hD : va_D A [(a_P, .inr (2, [.int P_rows, .ref a_P_entries, .ref a_P_order, .ref a_P_places, .ref a_P_rights, .ref a_P_weights])), (a_P_entries, .inl (g.2.1, 256, .inl P_entries))] := hD
  have hl := lv_entry ([.ref a_P, .int i_i]) (n := 4) (Nat.le_of_ble_eq_true rfl)
  rw [lg_entry_eq]
  generalize (lg_sl ([.ref a_P, .int i_i]) ++ List.replicate (4 - (lg_sl ([.ref a_P, .int i_i])).length) Slot.unset).toArray = ls at hl ⊢
  have hl : lv_has ls 4 [(0, .ref a_P), (1, .int i_i)] := hl
  obtain ⟨G1, hG1⟩ : ∃ G : Int32 → Int32 → Prop, G = (fun (x3 : Int32) (x2 : Int32) => ∀ (H : Heap) (locs : List Loc) (ls : Array Slot), va_P g.1 vwCl [(a_P, .inr (2, [.int P_rows, .ref a_P_entries, .ref a_P_order, .ref a_P_places, .ref a_P_rights, .ref a_P_weights])), (a_P_entries, .inl (g.2.1, 256, .inl P_entries))] H → va_D A [(a_P, .inr (2, [.int P_rows, .ref a_P_entries, .ref a_P_order, .ref a_P_places, .ref a_P_rights, .ref a_P_weights])), (a_P_entries, .inl (g.2.1, 256, .inl P_entries))] → va_S A s.heap H locs → lv_has ls 4 [(3, .int x3), (2, .int x2), (0, .ref a_P), (1, .int i_i)] → W p l e (headSpec (Cond.code yX2_linksOf cX2_linksOf 4 (some .int) :: cx_T) ({ frames := 2, cells := 0, slots := 0, locals := 43 } : Room)).room s m ([.ref a_P, .int i_i] : List Value).toArray below meth c H locs 0 0 (MQ below (va_Qi (fun (r : Int32) (_ : Unit) => Q r) (cx_B g (w0_X2_linksOf g a_P a_P_entries a_P_order a_P_places a_P_rights a_P_weights P_rows P_entries) s.heap.size (fun _ : Unit => (w0_X2_linksOf g a_P a_P_entries a_P_order a_P_places a_P_rights a_P_weights P_rows P_entries))) (va_A (w0_X2_linksOf g a_P a_P_entries a_P_order a_P_places a_P_rights a_P_weights P_rows P_entries) s.heap.size)) ([.ref a_P, .int i_i] : List Value).toArray s 0 0 (va_A (w0_X2_linksOf g a_P a_P_entries a_P_order a_P_places a_P_rights a_P_weights P_rows P_entries) s.heap.size)) (F0 m 4 ls [])) := ⟨_, rfl⟩
  have hs1 : ∀ (x3 : Int32) (x2 : Int32), vc_X2_linksOf_1 i_i P_rows P_entries Q G1 x3 x2 → G1 x3 x2 := by
    rw [hG1]
    intro x3 x2 hv H locs ls hP hD hS hl
    unfold vc_X2_linksOf_1 at hv
    refine lv_iload_n hx hb dX2_linksOf_4 rfl (lv_at hl 0 rfl) ?_
    refine lv_aload_n hx hb dX2_linksOf_5 rfl (lv_at hl 2 rfl) ?_
    refine va_get (D := g.1) (ci := 2) (v := .int P_rows) (C := RX2) (T := TX2) (N := 6) hx hb hts cw_in_X2 hown hK.1 hP 0 rfl rfl 0 (by decide) (hts _ cw_f_X2_9) (fun _ h9 => h9) rfl dX2_linksOf_6 ?_
    refine lv_icmp_ge (tgt := 39) hx hb dX2_linksOf_9 (by decide) (fun hc => ?_) (fun hc => ?_)
    · replace hv := hv.1 hc
      refine lv_iload_n hx hb dX2_linksOf_39 rfl (lv_at hl 1 rfl) ?_
      exact cx_iret hx hb hr hlocks hAe hS () hv hP hD dX2_linksOf_40
    · replace hv := hv.2 hc
      refine lv_iload_n hx hb dX2_linksOf_12 rfl (lv_at hl 0 rfl) ?_
      refine lv_iload_n hx hb dX2_linksOf_13 rfl (lv_at hl 3 rfl) ?_
      refine lv_icmp_eq (tgt := 33) hx hb dX2_linksOf_14 (by decide) (fun hc => ?_) (fun hc => ?_)
      · replace hv := hv.1 hc
        obtain ⟨x3_1, ex3_1⟩ : ∃ y : Int32, y = x3 + 1 := ⟨_, rfl⟩
        replace hv := hv x3_1 ex3_1
        refine lv_iinc (v := x3_1) (lv' := [(3, .int x3_1), (2, .int x2), (0, .ref a_P), (1, .int i_i)]) hx hb dX2_linksOf_33 hl (k := 0) rfl (by rw [ex3_1]; rfl) (by decide) rfl (fun ls hl => ?_)
        refine lv_goto (tgt := 4) hx hb dX2_linksOf_36 (by decide) ?_
        exact hv _ _ _ hP hD hS (lv_sub hl [0, 1, 2, 3] rfl)
      · replace hv := hv.2 hc
        refine lv_aload_n hx hb dX2_linksOf_17 rfl (lv_at hl 2 rfl) ?_
        refine lv_iload_n hx hb dX2_linksOf_18 rfl (lv_at hl 3 rfl) ?_
        refine lv_iload_n hx hb dX2_linksOf_19 rfl (lv_at hl 0 rfl) ?_
        refine cx_iVr (As := [.int i_i, .int x3]) (rest := []) ⟨hx, hb, hml, hown, hts⟩ (c_X2_entryAt l g a_P a_P_entries a_P_order a_P_places a_P_rights a_P_weights i_i x3 P_rows P_entries hv) (cx_cwV 2 hts cw_m_X2_48 cw_i_X2_entryAt cw_s_X2_entryAt cw_n_X2 cw_c_X2_entryAt rfl rfl (by decide +kernel) ⟨Nat.le_of_ble_eq_true rfl, Nat.le_of_ble_eq_true rfl⟩) hK hP hD hS hA 0 2 rfl rfl [0, 1] rfl rfl rfl hl.1 rfl (Nat.le_of_ble_eq_true rfl) dX2_linksOf_20 ⟨Nat.le_of_ble_eq_true rfl, Nat.le_of_ble_eq_true rfl⟩ (fun r_2 H locs hv hP hS => ?_)
        refine lv_if_eq (tgt := 33) hx hb dX2_linksOf_23 (by decide) (fun hc => ?_) (fun hc => ?_)
        · replace hv := hv.1 hc
          obtain ⟨x3_3, ex3_3⟩ : ∃ y : Int32, y = x3 + 1 := ⟨_, rfl⟩
          replace hv := hv x3_3 ex3_3
          refine lv_iinc (v := x3_3) (lv' := [(3, .int x3_3), (2, .int x2), (0, .ref a_P), (1, .int i_i)]) hx hb dX2_linksOf_33 hl (k := 0) rfl (by rw [ex3_3]; rfl) (by decide) rfl (fun ls hl => ?_)
          refine lv_goto (tgt := 4) hx hb dX2_linksOf_36 (by decide) ?_
          exact hv _ _ _ hP hD hS (lv_sub hl [0, 1, 2, 3] rfl)
        · replace hv := hv.2 hc
          refine lv_iload_n hx hb dX2_linksOf_26 rfl (lv_at hl 1 rfl) ?_
          refine lv_iload_n hx hb dX2_linksOf_27 rfl (lv_at hl 0 rfl) ?_
          refine cx_iNr (As := [.int x3]) (rest := [.int x2]) ⟨hx, hb, hml, hown, hts⟩ (cp_X4_bit l g x3) (cx_cwN 1 hts (hK.2.at 1 rfl) cw_t_X4_bit cw_n_X4 cw_c_X4_bit rfl rfl (by decide +kernel) ⟨Nat.le_of_ble_eq_true rfl, Nat.le_of_ble_eq_true rfl⟩) hK hP hD hS hA [] rfl rfl rfl hl.1 rfl (Nat.le_of_ble_eq_true rfl) dX2_linksOf_28 ⟨Nat.le_of_ble_eq_true rfl, Nat.le_of_ble_eq_true rfl⟩ (fun r_4 H locs hr9 hP hS => ?_)
          replace hr9 : r_4 = (f_bit x3) := hr9
          subst hr9
          refine lv_ior hx hb dX2_linksOf_31 ?_
          refine lv_topi (fun x2_5 ex2_5 => ?_)
          replace hv := hv x2_5 ex2_5
          refine lv_istore_n (lv' := [(2, .int x2_5), (3, .int x3), (0, .ref a_P), (1, .int i_i)]) hx hb dX2_linksOf_32 rfl hl (by decide) rfl (fun ls hl => ?_)
          obtain ⟨x3_6, ex3_6⟩ : ∃ y : Int32, y = x3 + 1 := ⟨_, rfl⟩
          replace hv := hv x3_6 ex3_6
          refine lv_iinc (v := x3_6) (lv' := [(3, .int x3_6), (2, .int x2_5), (0, .ref a_P), (1, .int i_i)]) hx hb dX2_linksOf_33 hl (k := 1) rfl (by rw [ex3_6]; rfl) (by decide) rfl (fun ls hl => ?_)
          refine lv_goto (tgt := 4) hx hb dX2_linksOf_36 (by decide) ?_
          exact hv _ _ _ hP hD hS (lv_sub hl [0, 1, 2, 3] rfl)
  replace hv := hv G1 hs1
  rw [hG1] at hv
  unfold vc_X2_linksOf_0 at hv
  refine lv_iconst (v := 0) hx hb dX2_linksOf_0 (by decide) ?_
  refine lv_istore_n (lv' := [(2, .int 0), (0, .ref a_P), (1, .int i_i)]) hx hb dX2_linksOf_1 rfl hl (by decide) rfl (fun ls hl => ?_)
  refine lv_iconst (v := 0) hx hb dX2_linksOf_2 (by decide) ?_
  refine lv_istore_n (lv' := [(3, .int 0), (2, .int 0), (0, .ref a_P), (1, .int i_i)]) hx hb dX2_linksOf_3 rfl hl (by decide) rfl (fun ls hl => ?_)
  exact hv _ _ _ hP hD hS (lv_sub hl [0, 1, 2, 3] rfl)
def vc_X2_countLinks_0 (P_rows : Int32) (P_entries : (Nat → Int32)) (Q : Int32 → Prop) (G1 : Int32 → Int32 → Prop)  : Prop := G1 0 0
def vc_X2_countLinks_1 (P_rows : Int32) (P_entries : (Nat → Int32)) (Q : Int32 → Prop) (G1 : Int32 → Int32 → Prop) (x2 : Int32) (x1 : Int32) : Prop := (P_rows ≤ x2 → (Q (x1 / 2))) ∧ (¬ P_rows ≤ x2 → (wp_X2_linksOf x2 P_rows P_entries (fun r_1 => ∀ x1_3 : Int32, x1_3 = (x1 + (f_bc r_1)) → (∀ x2_4 : Int32, x2_4 = x2 + 1 → (G1 x2_4 x1_3)))))
def wp_X2_countLinks (P_rows : Int32) (P_entries : (Nat → Int32)) (Q : Int32 → Prop) : Prop := ∀ (G1 : Int32 → Int32 → Prop), (∀ (x2 : Int32) (x1 : Int32), vc_X2_countLinks_1 P_rows P_entries Q G1 x2 x1 → G1 x2 x1) → vc_X2_countLinks_0 P_rows P_entries Q G1
abbrev w0_X2_countLinks (g : cx_G) (a_P a_P_entries a_P_order a_P_places a_P_rights a_P_weights : Nat) (P_rows : Int32) (P_entries : (Nat → Int32)) : va_W := [(a_P, .inr (2, [.int P_rows, .ref a_P_entries, .ref a_P_order, .ref a_P_places, .ref a_P_rights, .ref a_P_weights])), (a_P_entries, .inl (g.2.1, 256, .inl P_entries))]
set_option maxHeartbeats 4000000 in
set_option maxRecDepth 100000 in
theorem c_X2_countLinks (l : Launch) (g : cx_G) (a_P a_P_entries a_P_order a_P_places a_P_rights a_P_weights : Nat) (P_rows : Int32) (P_entries : (Nat → Int32)) {Q : Int32 → Prop} (hv : wp_X2_countLinks P_rows P_entries Q) : cx_Mi l g yX2_countLinks (Cond.code yX2_countLinks cX2_countLinks 3 (some .int) :: cx_T) ({ frames := 3, cells := 0, slots := 0, locals := 66 } : Room) [.ref a_P] (w0_X2_countLinks g a_P a_P_entries a_P_order a_P_places a_P_rights a_P_weights P_rows P_entries) (fun (r : Int32) (_ : Unit) => Q r) (fun _ : Unit => (w0_X2_countLinks g a_P a_P_entries a_P_order a_P_places a_P_rights a_P_weights P_rows P_entries)) 0 0 := by
  intro sz
  refine Met.ofW (cc := cX2_countLinks) (maxL := 3) (ret := (some .int)) (by decide) rfl ?_
  intro p e s m args below meth c s₁ B hml hpre
  obtain ⟨rfl, hsz, hP, hK, hD0⟩ := hpre
  have hx := B.exec
  have hb := B.bytes
  have hr := B.returns
  have hts0 := atoms_spec (ws := (Cond.code yX2_countLinks cX2_countLinks 3 (some .int) :: cx_T)) B.pre
  have hts : ∀ w ∈ cx_T, w.before _ s = true := fun w h => hts0 w (List.mem_cons_of_mem _ h)
  have hown : s.vm.findClass RX2 = some m.cls := findClass_of_methodNamed B.named
  have hlocks := B.notSynchronized
  subst hsz
  have hD := hD0.self (sz := s.heap.size)
  obtain ⟨A, hAe⟩ : ∃ A : Nat → Prop, A = va_A (w0_X2_countLinks g a_P a_P_entries a_P_order a_P_places a_P_rights a_P_weights P_rows P_entries) s.heap.size := ⟨_, rfl⟩
  rw [← hAe] at hD
  have hA : ∀ q : Nat, s.heap.size ≤ q → A q := fun q h => by rw [hAe]; exact Or.inr h
  have hS : va_S A s.heap s.heap [] := va_S.rf
  have hP : va_P g.1 vwCl [(a_P, .inr (2, [.int P_rows, .ref a_P_entries, .ref a_P_order, .ref a_P_places, .ref a_P_rights, .ref a_P_weights])), (a_P_entries, .inl (g.2.1, 256, .inl P_entries))] s.heap := hP
  have hD : va_D A [(a_P, .inr (2, [.int P_rows, .ref a_P_entries, .ref a_P_order, .ref a_P_places, .ref a_P_rights, .ref a_P_weights])), (a_P_entries, .inl (g.2.1, 256, .inl P_entries))] := hD
  have hl := lv_entry ([.ref a_P]) (n := 3) (Nat.le_of_ble_eq_true rfl)
  rw [lg_entry_eq]
  generalize (lg_sl ([.ref a_P]) ++ List.replicate (3 - (lg_sl ([.ref a_P])).length) Slot.unset).toArray = ls at hl ⊢
  have hl : lv_has ls 3 [(0, .ref a_P)] := hl
  obtain ⟨G1, hG1⟩ : ∃ G : Int32 → Int32 → Prop, G = (fun (x2 : Int32) (x1 : Int32) => ∀ (H : Heap) (locs : List Loc) (ls : Array Slot), va_P g.1 vwCl [(a_P, .inr (2, [.int P_rows, .ref a_P_entries, .ref a_P_order, .ref a_P_places, .ref a_P_rights, .ref a_P_weights])), (a_P_entries, .inl (g.2.1, 256, .inl P_entries))] H → va_D A [(a_P, .inr (2, [.int P_rows, .ref a_P_entries, .ref a_P_order, .ref a_P_places, .ref a_P_rights, .ref a_P_weights])), (a_P_entries, .inl (g.2.1, 256, .inl P_entries))] → va_S A s.heap H locs → lv_has ls 3 [(2, .int x2), (1, .int x1), (0, .ref a_P)] → W p l e (headSpec (Cond.code yX2_countLinks cX2_countLinks 3 (some .int) :: cx_T) ({ frames := 3, cells := 0, slots := 0, locals := 66 } : Room)).room s m ([.ref a_P] : List Value).toArray below meth c H locs 0 0 (MQ below (va_Qi (fun (r : Int32) (_ : Unit) => Q r) (cx_B g (w0_X2_countLinks g a_P a_P_entries a_P_order a_P_places a_P_rights a_P_weights P_rows P_entries) s.heap.size (fun _ : Unit => (w0_X2_countLinks g a_P a_P_entries a_P_order a_P_places a_P_rights a_P_weights P_rows P_entries))) (va_A (w0_X2_countLinks g a_P a_P_entries a_P_order a_P_places a_P_rights a_P_weights P_rows P_entries) s.heap.size)) ([.ref a_P] : List Value).toArray s 0 0 (va_A (w0_X2_countLinks g a_P a_P_entries a_P_order a_P_places a_P_rights a_P_weights P_rows P_entries) s.heap.size)) (F0 m 4 ls [])) := ⟨_, rfl⟩
  have hs1 : ∀ (x2 : Int32) (x1 : Int32), vc_X2_countLinks_1 P_rows P_entries Q G1 x2 x1 → G1 x2 x1 := by
    rw [hG1]
    intro x2 x1 hv H locs ls hP hD hS hl
    unfold vc_X2_countLinks_1 at hv
    refine lv_iload_n hx hb dX2_countLinks_4 rfl (lv_at hl 0 rfl) ?_
    refine lv_aload_n hx hb dX2_countLinks_5 rfl (lv_at hl 2 rfl) ?_
    refine va_get (D := g.1) (ci := 2) (v := .int P_rows) (C := RX2) (T := TX2) (N := 6) hx hb hts cw_in_X2 hown hK.1 hP 0 rfl rfl 0 (by decide) (hts _ cw_f_X2_9) (fun _ h9 => h9) rfl dX2_countLinks_6 ?_
    refine lv_icmp_ge (tgt := 29) hx hb dX2_countLinks_9 (by decide) (fun hc => ?_) (fun hc => ?_)
    · replace hv := hv.1 hc
      refine lv_iload_n hx hb dX2_countLinks_29 rfl (lv_at hl 1 rfl) ?_
      refine lv_iconst (v := 2) hx hb dX2_countLinks_30 (by decide) ?_
      refine lv_idiv hx hb dX2_countLinks_31 (by decide) ?_
      exact cx_iret hx hb hr hlocks hAe hS () hv hP hD dX2_countLinks_32
    · replace hv := hv.2 hc
      refine lv_iload_n hx hb dX2_countLinks_12 rfl (lv_at hl 1 rfl) ?_
      refine lv_aload_n hx hb dX2_countLinks_13 rfl (lv_at hl 2 rfl) ?_
      refine lv_iload_n hx hb dX2_countLinks_14 rfl (lv_at hl 0 rfl) ?_
      refine cx_iVr (As := [.int x2]) (rest := [.int x1]) ⟨hx, hb, hml, hown, hts⟩ (c_X2_linksOf l g a_P a_P_entries a_P_order a_P_places a_P_rights a_P_weights x2 P_rows P_entries hv) (cx_cwV 1 hts cw_m_X2_62 cw_i_X2_linksOf cw_s_X2_linksOf cw_n_X2 cw_c_X2_linksOf rfl rfl (by decide +kernel) ⟨Nat.le_of_ble_eq_true rfl, Nat.le_of_ble_eq_true rfl⟩) hK hP hD hS hA 0 2 rfl rfl [0, 1] rfl rfl rfl hl.1 rfl (Nat.le_of_ble_eq_true rfl) dX2_countLinks_15 ⟨Nat.le_of_ble_eq_true rfl, Nat.le_of_ble_eq_true rfl⟩ (fun r_1 H locs hv hP hS => ?_)
      refine cx_iSr (As := [.int r_1]) (rest := [.int x1]) ⟨hx, hb, hml, hown, hts⟩ (cp_J6_bitCount_0f7a4 l g r_1) (cx_cwS 1 hts cw_m_X2_65 cw_t_J6_bitCount_0f7a4 cw_n_J6 cw_c_J6_bitCount_0f7a4 rfl rfl (by decide +kernel) ⟨Nat.le_of_ble_eq_true rfl, Nat.le_of_ble_eq_true rfl⟩) hK hP hD hS hA [] rfl rfl rfl hl.1 rfl (Nat.le_of_ble_eq_true rfl) dX2_countLinks_18 ⟨Nat.le_of_ble_eq_true rfl, Nat.le_of_ble_eq_true rfl⟩ (fun r_2 H locs hr9 hP hS => ?_)
      replace hr9 : r_2 = (f_bc r_1) := hr9
      subst hr9
      refine lv_iadd hx hb dX2_countLinks_21 ?_
      refine lv_topi (fun x1_3 ex1_3 => ?_)
      replace hv := hv x1_3 ex1_3
      refine lv_istore_n (lv' := [(1, .int x1_3), (2, .int x2), (0, .ref a_P)]) hx hb dX2_countLinks_22 rfl hl (by decide) rfl (fun ls hl => ?_)
      obtain ⟨x2_4, ex2_4⟩ : ∃ y : Int32, y = x2 + 1 := ⟨_, rfl⟩
      replace hv := hv x2_4 ex2_4
      refine lv_iinc (v := x2_4) (lv' := [(2, .int x2_4), (1, .int x1_3), (0, .ref a_P)]) hx hb dX2_countLinks_23 hl (k := 1) rfl (by rw [ex2_4]; rfl) (by decide) rfl (fun ls hl => ?_)
      refine lv_goto (tgt := 4) hx hb dX2_countLinks_26 (by decide) ?_
      exact hv _ _ _ hP hD hS (lv_sub hl [0, 1, 2] rfl)
  replace hv := hv G1 hs1
  rw [hG1] at hv
  unfold vc_X2_countLinks_0 at hv
  refine lv_iconst (v := 0) hx hb dX2_countLinks_0 (by decide) ?_
  refine lv_istore_n (lv' := [(1, .int 0), (0, .ref a_P)]) hx hb dX2_countLinks_1 rfl hl (by decide) rfl (fun ls hl => ?_)
  refine lv_iconst (v := 0) hx hb dX2_countLinks_2 (by decide) ?_
  refine lv_istore_n (lv' := [(2, .int 0), (1, .int 0), (0, .ref a_P)]) hx hb dX2_countLinks_3 rfl hl (by decide) rfl (fun ls hl => ?_)
  exact hv _ _ _ hP hD hS (lv_sub hl [0, 1, 2] rfl)
def vc_X2_reachBack_0 (i_i : Int32) (P_rows : Int32) (P_places : (Nat → Int32)) (P_entries : (Nat → Int32)) (Q : Int32 → Prop) (G1 : Int32 → Int32 → Prop)  : Prop := vp_in i_i 16 ∧ (∀ x2_2 : Int32, x2_2 = (P_places (Int32.toNatClampNeg i_i)) → (G1 0 x2_2))
def vc_X2_reachBack_1 (i_i : Int32) (P_rows : Int32) (P_places : (Nat → Int32)) (P_entries : (Nat → Int32)) (Q : Int32 → Prop) (G1 : Int32 → Int32 → Prop) (x3 : Int32) (x2 : Int32) : Prop := (P_rows ≤ x3 → (vp_in i_i 16 ∧ (Q ((P_places (Int32.toNatClampNeg i_i)) - x2)))) ∧ (¬ P_rows ≤ x3 → (wp_X2_entryAt i_i x3 P_rows P_entries (fun r_2 => (r_2 = 0 → (∀ x3_3 : Int32, x3_3 = x3 + 1 → (G1 x3_3 x2))) ∧ (¬ r_2 = 0 → (vp_in x3 16 ∧ (∀ x2_5 : Int32, x2_5 = (if (P_places (Int32.toNatClampNeg x3)) < x2 then (P_places (Int32.toNatClampNeg x3)) else x2) → (∀ x3_6 : Int32, x3_6 = x3 + 1 → (G1 x3_6 x2_5))))))))
def wp_X2_reachBack (i_i : Int32) (P_rows : Int32) (P_places : (Nat → Int32)) (P_entries : (Nat → Int32)) (Q : Int32 → Prop) : Prop := ∀ (G1 : Int32 → Int32 → Prop), (∀ (x3 : Int32) (x2 : Int32), vc_X2_reachBack_1 i_i P_rows P_places P_entries Q G1 x3 x2 → G1 x3 x2) → vc_X2_reachBack_0 i_i P_rows P_places P_entries Q G1
abbrev w0_X2_reachBack (g : cx_G) (a_P a_P_entries a_P_order a_P_places a_P_rights a_P_weights : Nat) (P_rows : Int32) (P_places : (Nat → Int32)) (P_entries : (Nat → Int32)) : va_W := [(a_P, .inr (2, [.int P_rows, .ref a_P_entries, .ref a_P_order, .ref a_P_places, .ref a_P_rights, .ref a_P_weights])), (a_P_places, .inl (g.2.1, 16, .inl P_places)), (a_P_entries, .inl (g.2.1, 256, .inl P_entries))]
set_option maxHeartbeats 4000000 in
set_option maxRecDepth 100000 in
theorem c_X2_reachBack (l : Launch) (g : cx_G) (a_P a_P_entries a_P_order a_P_places a_P_rights a_P_weights : Nat) (i_i : Int32) (P_rows : Int32) (P_places : (Nat → Int32)) (P_entries : (Nat → Int32)) {Q : Int32 → Prop} (hv : wp_X2_reachBack i_i P_rows P_places P_entries Q) : cx_Mi l g yX2_reachBack (Cond.code yX2_reachBack cX2_reachBack 4 (some .int) :: cx_T) ({ frames := 2, cells := 0, slots := 0, locals := 43 } : Room) [.ref a_P, .int i_i] (w0_X2_reachBack g a_P a_P_entries a_P_order a_P_places a_P_rights a_P_weights P_rows P_places P_entries) (fun (r : Int32) (_ : Unit) => Q r) (fun _ : Unit => (w0_X2_reachBack g a_P a_P_entries a_P_order a_P_places a_P_rights a_P_weights P_rows P_places P_entries)) 0 0 := by
  intro sz
  refine Met.ofW (cc := cX2_reachBack) (maxL := 4) (ret := (some .int)) (by decide) rfl ?_
  intro p e s m args below meth c s₁ B hml hpre
  obtain ⟨rfl, hsz, hP, hK, hD0⟩ := hpre
  have hx := B.exec
  have hb := B.bytes
  have hr := B.returns
  have hts0 := atoms_spec (ws := (Cond.code yX2_reachBack cX2_reachBack 4 (some .int) :: cx_T)) B.pre
  have hts : ∀ w ∈ cx_T, w.before _ s = true := fun w h => hts0 w (List.mem_cons_of_mem _ h)
  have hown : s.vm.findClass RX2 = some m.cls := findClass_of_methodNamed B.named
  have hlocks := B.notSynchronized
  subst hsz
  have hD := hD0.self (sz := s.heap.size)
  obtain ⟨A, hAe⟩ : ∃ A : Nat → Prop, A = va_A (w0_X2_reachBack g a_P a_P_entries a_P_order a_P_places a_P_rights a_P_weights P_rows P_places P_entries) s.heap.size := ⟨_, rfl⟩
  rw [← hAe] at hD
  have hA : ∀ q : Nat, s.heap.size ≤ q → A q := fun q h => by rw [hAe]; exact Or.inr h
  have hS : va_S A s.heap s.heap [] := va_S.rf
  have hP : va_P g.1 vwCl [(a_P, .inr (2, [.int P_rows, .ref a_P_entries, .ref a_P_order, .ref a_P_places, .ref a_P_rights, .ref a_P_weights])), (a_P_places, .inl (g.2.1, 16, .inl P_places)), (a_P_entries, .inl (g.2.1, 256, .inl P_entries))] s.heap := hP
  have hD : va_D A [(a_P, .inr (2, [.int P_rows, .ref a_P_entries, .ref a_P_order, .ref a_P_places, .ref a_P_rights, .ref a_P_weights])), (a_P_places, .inl (g.2.1, 16, .inl P_places)), (a_P_entries, .inl (g.2.1, 256, .inl P_entries))] := hD
  have hl := lv_entry ([.ref a_P, .int i_i]) (n := 4) (Nat.le_of_ble_eq_true rfl)
  rw [lg_entry_eq]
  generalize (lg_sl ([.ref a_P, .int i_i]) ++ List.replicate (4 - (lg_sl ([.ref a_P, .int i_i])).length) Slot.unset).toArray = ls at hl ⊢
  have hl : lv_has ls 4 [(0, .ref a_P), (1, .int i_i)] := hl
  obtain ⟨G1, hG1⟩ : ∃ G : Int32 → Int32 → Prop, G = (fun (x3 : Int32) (x2 : Int32) => ∀ (H : Heap) (locs : List Loc) (ls : Array Slot), va_P g.1 vwCl [(a_P, .inr (2, [.int P_rows, .ref a_P_entries, .ref a_P_order, .ref a_P_places, .ref a_P_rights, .ref a_P_weights])), (a_P_places, .inl (g.2.1, 16, .inl P_places)), (a_P_entries, .inl (g.2.1, 256, .inl P_entries))] H → va_D A [(a_P, .inr (2, [.int P_rows, .ref a_P_entries, .ref a_P_order, .ref a_P_places, .ref a_P_rights, .ref a_P_weights])), (a_P_places, .inl (g.2.1, 16, .inl P_places)), (a_P_entries, .inl (g.2.1, 256, .inl P_entries))] → va_S A s.heap H locs → lv_has ls 4 [(3, .int x3), (2, .int x2), (0, .ref a_P), (1, .int i_i)] → W p l e (headSpec (Cond.code yX2_reachBack cX2_reachBack 4 (some .int) :: cx_T) ({ frames := 2, cells := 0, slots := 0, locals := 43 } : Room)).room s m ([.ref a_P, .int i_i] : List Value).toArray below meth c H locs 0 0 (MQ below (va_Qi (fun (r : Int32) (_ : Unit) => Q r) (cx_B g (w0_X2_reachBack g a_P a_P_entries a_P_order a_P_places a_P_rights a_P_weights P_rows P_places P_entries) s.heap.size (fun _ : Unit => (w0_X2_reachBack g a_P a_P_entries a_P_order a_P_places a_P_rights a_P_weights P_rows P_places P_entries))) (va_A (w0_X2_reachBack g a_P a_P_entries a_P_order a_P_places a_P_rights a_P_weights P_rows P_places P_entries) s.heap.size)) ([.ref a_P, .int i_i] : List Value).toArray s 0 0 (va_A (w0_X2_reachBack g a_P a_P_entries a_P_order a_P_places a_P_rights a_P_weights P_rows P_places P_entries) s.heap.size)) (F0 m 9 ls [])) := ⟨_, rfl⟩
  have hs1 : ∀ (x3 : Int32) (x2 : Int32), vc_X2_reachBack_1 i_i P_rows P_places P_entries Q G1 x3 x2 → G1 x3 x2 := by
    rw [hG1]
    intro x3 x2 hv H locs ls hP hD hS hl
    unfold vc_X2_reachBack_1 at hv
    refine lv_iload_n hx hb dX2_reachBack_9 rfl (lv_at hl 0 rfl) ?_
    refine lv_aload_n hx hb dX2_reachBack_10 rfl (lv_at hl 2 rfl) ?_
    refine va_get (D := g.1) (ci := 2) (v := .int P_rows) (C := RX2) (T := TX2) (N := 6) hx hb hts cw_in_X2 hown hK.1 hP 0 rfl rfl 0 (by decide) (hts _ cw_f_X2_9) (fun _ h9 => h9) rfl dX2_reachBack_11 ?_
    refine lv_icmp_ge (tgt := 43) hx hb dX2_reachBack_14 (by decide) (fun hc => ?_) (fun hc => ?_)
    · replace hv := hv.1 hc
      refine lv_aload_n hx hb dX2_reachBack_43 rfl (lv_at hl 2 rfl) ?_
      refine va_get (D := g.1) (ci := 2) (v := .ref a_P_places) (C := RX2) (T := TX2) (N := 6) hx hb hts cw_in_X2 hown hK.1 hP 0 rfl rfl 3 (by decide) (hts _ cw_f_X2_22) (fun _ h9 => h9) rfl dX2_reachBack_44 ?_
      refine lv_iload_n hx hb dX2_reachBack_47 rfl (lv_at hl 3 rfl) ?_
      obtain ⟨h_1, hv⟩ := hv
      refine va_iald (D := g.1) hx hb hK.1 hP 1 0 rfl rfl h_1 dX2_reachBack_48 ?_
      refine lv_iload_n hx hb dX2_reachBack_49 rfl (lv_at hl 1 rfl) ?_
      refine lv_isub hx hb dX2_reachBack_50 ?_
      exact cx_iret hx hb hr hlocks hAe hS () hv hP hD dX2_reachBack_51
    · replace hv := hv.2 hc
      refine lv_aload_n hx hb dX2_reachBack_17 rfl (lv_at hl 2 rfl) ?_
      refine lv_iload_n hx hb dX2_reachBack_18 rfl (lv_at hl 3 rfl) ?_
      refine lv_iload_n hx hb dX2_reachBack_19 rfl (lv_at hl 0 rfl) ?_
      refine cx_iVr (As := [.int i_i, .int x3]) (rest := []) ⟨hx, hb, hml, hown, hts⟩ (c_X2_entryAt l g a_P a_P_entries a_P_order a_P_places a_P_rights a_P_weights i_i x3 P_rows P_entries hv) (cx_cwV 2 hts cw_m_X2_48 cw_i_X2_entryAt cw_s_X2_entryAt cw_n_X2 cw_c_X2_entryAt rfl rfl (by decide +kernel) ⟨Nat.le_of_ble_eq_true rfl, Nat.le_of_ble_eq_true rfl⟩) hK hP hD hS hA 0 2 rfl rfl [0, 2] rfl rfl rfl hl.1 rfl (Nat.le_of_ble_eq_true rfl) dX2_reachBack_20 ⟨Nat.le_of_ble_eq_true rfl, Nat.le_of_ble_eq_true rfl⟩ (fun r_2 H locs hv hP hS => ?_)
      refine lv_if_eq (tgt := 37) hx hb dX2_reachBack_23 (by decide) (fun hc => ?_) (fun hc => ?_)
      · replace hv := hv.1 hc
        obtain ⟨x3_3, ex3_3⟩ : ∃ y : Int32, y = x3 + 1 := ⟨_, rfl⟩
        replace hv := hv x3_3 ex3_3
        refine lv_iinc (v := x3_3) (lv' := [(3, .int x3_3), (2, .int x2), (0, .ref a_P), (1, .int i_i)]) hx hb dX2_reachBack_37 hl (k := 0) rfl (by rw [ex3_3]; rfl) (by decide) rfl (fun ls hl => ?_)
        refine lv_goto (tgt := 9) hx hb dX2_reachBack_40 (by decide) ?_
        exact hv _ _ _ hP hD hS (lv_sub hl [0, 1, 2, 3] rfl)
      · replace hv := hv.2 hc
        refine lv_iload_n hx hb dX2_reachBack_26 rfl (lv_at hl 1 rfl) ?_
        refine lv_aload_n hx hb dX2_reachBack_27 rfl (lv_at hl 2 rfl) ?_
        refine va_get (D := g.1) (ci := 2) (v := .ref a_P_places) (C := RX2) (T := TX2) (N := 6) hx hb hts cw_in_X2 hown hK.1 hP 0 rfl rfl 3 (by decide) (hts _ cw_f_X2_22) (fun _ h9 => h9) rfl dX2_reachBack_28 ?_
        refine lv_iload_n hx hb dX2_reachBack_31 rfl (lv_at hl 0 rfl) ?_
        obtain ⟨h_4, hv⟩ := hv
        refine va_iald (D := g.1) hx hb hK.1 hP 1 0 rfl rfl h_4 dX2_reachBack_32 ?_
        refine va_mmin hx hb (hml.trans hl.1.symm) hown (hts _ cw_m_X2_70) (hts _ cw_t_Math_min) (hts _ cw_n_Math) (hts _ cw_c_Math_min) (Nat.le_of_ble_eq_true rfl) (Nat.le_of_ble_eq_true rfl) (Nat.le_of_ble_eq_true rfl) (Nat.le_of_ble_eq_true rfl) dX2_reachBack_33 ?_
        refine lv_topi (fun x2_5 ex2_5 => ?_)
        replace hv := hv x2_5 ex2_5
        refine lv_istore_n (lv' := [(2, .int x2_5), (3, .int x3), (0, .ref a_P), (1, .int i_i)]) hx hb dX2_reachBack_36 rfl hl (by decide) rfl (fun ls hl => ?_)
        obtain ⟨x3_6, ex3_6⟩ : ∃ y : Int32, y = x3 + 1 := ⟨_, rfl⟩
        replace hv := hv x3_6 ex3_6
        refine lv_iinc (v := x3_6) (lv' := [(3, .int x3_6), (2, .int x2_5), (0, .ref a_P), (1, .int i_i)]) hx hb dX2_reachBack_37 hl (k := 1) rfl (by rw [ex3_6]; rfl) (by decide) rfl (fun ls hl => ?_)
        refine lv_goto (tgt := 9) hx hb dX2_reachBack_40 (by decide) ?_
        exact hv _ _ _ hP hD hS (lv_sub hl [0, 1, 2, 3] rfl)
  replace hv := hv G1 hs1
  rw [hG1] at hv
  unfold vc_X2_reachBack_0 at hv
  refine lv_aload_n hx hb dX2_reachBack_0 rfl (lv_at hl 0 rfl) ?_
  refine va_get (D := g.1) (ci := 2) (v := .ref a_P_places) (C := RX2) (T := TX2) (N := 6) hx hb hts cw_in_X2 hown hK.1 hP 0 rfl rfl 3 (by decide) (hts _ cw_f_X2_22) (fun _ h9 => h9) rfl dX2_reachBack_1 ?_
  refine lv_iload_n hx hb dX2_reachBack_4 rfl (lv_at hl 1 rfl) ?_
  obtain ⟨h_1, hv⟩ := hv
  refine va_iald (D := g.1) hx hb hK.1 hP 1 0 rfl rfl h_1 dX2_reachBack_5 ?_
  refine lv_topi (fun x2_2 ex2_2 => ?_)
  replace hv := hv x2_2 ex2_2
  refine lv_istore_n (lv' := [(2, .int x2_2), (0, .ref a_P), (1, .int i_i)]) hx hb dX2_reachBack_6 rfl hl (by decide) rfl (fun ls hl => ?_)
  refine lv_iconst (v := 0) hx hb dX2_reachBack_7 (by decide) ?_
  refine lv_istore_n (lv' := [(3, .int 0), (2, .int x2_2), (0, .ref a_P), (1, .int i_i)]) hx hb dX2_reachBack_8 rfl hl (by decide) rfl (fun ls hl => ?_)
  exact hv _ _ _ hP hD hS (lv_sub hl [0, 1, 2, 3] rfl)
def wp_X2_place (i_r : Int32) (i_p : Int32) (P_rows : Int32) (P_order : (Nat → Int32)) (P_places : (Nat → Int32)) (Q : (Nat → Int32) → (Nat → Int32) → Prop)   : Prop := vp_in i_p 16 ∧ (vp_in i_r 16 ∧ (Q (upd P_order (Int32.toNatClampNeg i_p) i_r) (upd P_places (Int32.toNatClampNeg i_r) i_p)))
abbrev w0_X2_place (g : cx_G) (a_P a_P_entries a_P_order a_P_places a_P_rights a_P_weights : Nat) (P_rows : Int32) (P_order : (Nat → Int32)) (P_places : (Nat → Int32)) : va_W := [(a_P, .inr (2, [.int P_rows, .ref a_P_entries, .ref a_P_order, .ref a_P_places, .ref a_P_rights, .ref a_P_weights])), (a_P_order, .inl (g.2.1, 16, .inl P_order)), (a_P_places, .inl (g.2.1, 16, .inl P_places))]
abbrev w1_X2_place (g : cx_G) (a_P a_P_entries a_P_order a_P_places a_P_rights a_P_weights : Nat) (P_rows : Int32) (P_order : (Nat → Int32)) (P_places : (Nat → Int32)) (u : (Nat → Int32) × (Nat → Int32)) : va_W := [(a_P, .inr (2, [.int P_rows, .ref a_P_entries, .ref a_P_order, .ref a_P_places, .ref a_P_rights, .ref a_P_weights])), (a_P_order, .inl (g.2.1, 16, .inl u.1)), (a_P_places, .inl (g.2.1, 16, .inl u.2))]
set_option maxHeartbeats 4000000 in
set_option maxRecDepth 100000 in
theorem c_X2_place (l : Launch) (g : cx_G) (a_P a_P_entries a_P_order a_P_places a_P_rights a_P_weights : Nat) (i_r : Int32) (i_p : Int32) (P_rows : Int32) (P_order : (Nat → Int32)) (P_places : (Nat → Int32)) {Q : (Nat → Int32) → (Nat → Int32) → Prop} (hv : wp_X2_place i_r i_p P_rows P_order P_places Q) : cx_Mv l g yX2_place (Cond.code yX2_place cX2_place 3 none :: cx_T) ({ frames := 0, cells := 0, slots := 0, locals := 0 } : Room) [.ref a_P, .int i_r, .int i_p] (w0_X2_place g a_P a_P_entries a_P_order a_P_places a_P_rights a_P_weights P_rows P_order P_places) (fun (u : (Nat → Int32) × (Nat → Int32)) => Q u.1 u.2) (w1_X2_place g a_P a_P_entries a_P_order a_P_places a_P_rights a_P_weights P_rows P_order P_places) 0 0 := by
  intro sz
  refine Met.ofW (cc := cX2_place) (maxL := 3) (ret := none) (by decide) rfl ?_
  intro p e s m args below meth c s₁ B hml hpre
  obtain ⟨rfl, hsz, hP, hK, hD0⟩ := hpre
  have hx := B.exec
  have hb := B.bytes
  have hr := B.returns
  have hts0 := atoms_spec (ws := (Cond.code yX2_place cX2_place 3 none :: cx_T)) B.pre
  have hts : ∀ w ∈ cx_T, w.before _ s = true := fun w h => hts0 w (List.mem_cons_of_mem _ h)
  have hown : s.vm.findClass RX2 = some m.cls := findClass_of_methodNamed B.named
  have hlocks := B.notSynchronized
  subst hsz
  have hD := hD0.self (sz := s.heap.size)
  obtain ⟨A, hAe⟩ : ∃ A : Nat → Prop, A = va_A (w0_X2_place g a_P a_P_entries a_P_order a_P_places a_P_rights a_P_weights P_rows P_order P_places) s.heap.size := ⟨_, rfl⟩
  rw [← hAe] at hD
  have hA : ∀ q : Nat, s.heap.size ≤ q → A q := fun q h => by rw [hAe]; exact Or.inr h
  have hS : va_S A s.heap s.heap [] := va_S.rf
  have hP : va_P g.1 vwCl [(a_P, .inr (2, [.int P_rows, .ref a_P_entries, .ref a_P_order, .ref a_P_places, .ref a_P_rights, .ref a_P_weights])), (a_P_order, .inl (g.2.1, 16, .inl P_order)), (a_P_places, .inl (g.2.1, 16, .inl P_places))] s.heap := hP
  have hD : va_D A [(a_P, .inr (2, [.int P_rows, .ref a_P_entries, .ref a_P_order, .ref a_P_places, .ref a_P_rights, .ref a_P_weights])), (a_P_order, .inl (g.2.1, 16, .inl P_order)), (a_P_places, .inl (g.2.1, 16, .inl P_places))] := hD
  have hl := lv_entry ([.ref a_P, .int i_r, .int i_p]) (n := 3) (Nat.le_of_ble_eq_true rfl)
  rw [lg_entry_eq]
  generalize (lg_sl ([.ref a_P, .int i_r, .int i_p]) ++ List.replicate (3 - (lg_sl ([.ref a_P, .int i_r, .int i_p])).length) Slot.unset).toArray = ls at hl ⊢
  have hl : lv_has ls 3 [(0, .ref a_P), (1, .int i_r), (2, .int i_p)] := hl
  unfold wp_X2_place at hv
  refine lv_aload_n hx hb dX2_place_0 rfl (lv_at hl 0 rfl) ?_
  refine va_get (D := g.1) (ci := 2) (v := .ref a_P_order) (C := RX2) (T := TX2) (N := 6) hx hb hts cw_in_X2 hown hK.1 hP 0 rfl rfl 2 (by decide) (hts _ cw_f_X2_19) (fun _ h9 => h9) rfl dX2_place_1 ?_
  refine lv_iload_n hx hb dX2_place_4 rfl (lv_at hl 2 rfl) ?_
  refine lv_iload_n hx hb dX2_place_5 rfl (lv_at hl 1 rfl) ?_
  obtain ⟨h_1, hv⟩ := hv
  refine va_iast (D := g.1) hx hb hK.1 hP hD hS 1 0 rfl rfl h_1 dX2_place_6 (fun H locs hP hD hS => ?_)
  have hP : va_P g.1 vwCl [(a_P, .inr (2, [.int P_rows, .ref a_P_entries, .ref a_P_order, .ref a_P_places, .ref a_P_rights, .ref a_P_weights])), (a_P_order, .inl (g.2.1, 16, .inl (upd P_order (Int32.toNatClampNeg i_p) i_r))), (a_P_places, .inl (g.2.1, 16, .inl P_places))] H := hP
  have hD : va_D A [(a_P, .inr (2, [.int P_rows, .ref a_P_entries, .ref a_P_order, .ref a_P_places, .ref a_P_rights, .ref a_P_weights])), (a_P_order, .inl (g.2.1, 16, .inl (upd P_order (Int32.toNatClampNeg i_p) i_r))), (a_P_places, .inl (g.2.1, 16, .inl P_places))] := hD
  refine lv_aload_n hx hb dX2_place_7 rfl (lv_at hl 0 rfl) ?_
  refine va_get (D := g.1) (ci := 2) (v := .ref a_P_places) (C := RX2) (T := TX2) (N := 6) hx hb hts cw_in_X2 hown hK.1 hP 0 rfl rfl 3 (by decide) (hts _ cw_f_X2_22) (fun _ h9 => h9) rfl dX2_place_8 ?_
  refine lv_iload_n hx hb dX2_place_11 rfl (lv_at hl 1 rfl) ?_
  refine lv_iload_n hx hb dX2_place_12 rfl (lv_at hl 2 rfl) ?_
  obtain ⟨h_2, hv⟩ := hv
  refine va_iast (D := g.1) hx hb hK.1 hP hD hS 2 0 rfl rfl h_2 dX2_place_13 (fun H locs hP hD hS => ?_)
  have hP : va_P g.1 vwCl [(a_P, .inr (2, [.int P_rows, .ref a_P_entries, .ref a_P_order, .ref a_P_places, .ref a_P_rights, .ref a_P_weights])), (a_P_order, .inl (g.2.1, 16, .inl (upd P_order (Int32.toNatClampNeg i_p) i_r))), (a_P_places, .inl (g.2.1, 16, .inl (upd P_places (Int32.toNatClampNeg i_r) i_p)))] H := hP
  have hD : va_D A [(a_P, .inr (2, [.int P_rows, .ref a_P_entries, .ref a_P_order, .ref a_P_places, .ref a_P_rights, .ref a_P_weights])), (a_P_order, .inl (g.2.1, 16, .inl (upd P_order (Int32.toNatClampNeg i_p) i_r))), (a_P_places, .inl (g.2.1, 16, .inl (upd P_places (Int32.toNatClampNeg i_r) i_p)))] := hD
  exact cx_vret hx hb hr hlocks hAe hS ((upd P_order (Int32.toNatClampNeg i_p) i_r), (upd P_places (Int32.toNatClampNeg i_r) i_p)) hv hP hD dX2_place_14
def wp_X2_exchange (i_p : Int32) (i_q : Int32) (P_rows : Int32) (P_order : (Nat → Int32)) (P_places : (Nat → Int32)) (Q : (Nat → Int32) → (Nat → Int32) → Prop)   : Prop := vp_in i_p 16 ∧ (∀ x3_2 : Int32, x3_2 = (P_order (Int32.toNatClampNeg i_p)) → (vp_in i_q 16 ∧ (∀ x4_4 : Int32, x4_4 = (P_order (Int32.toNatClampNeg i_q)) → (wp_X2_place x3_2 i_q P_rows P_order P_places (fun u_6 u_7 => wp_X2_place x4_4 i_p P_rows u_6 u_7 (fun u_10 u_11 => Q u_10 u_11))))))
abbrev w0_X2_exchange (g : cx_G) (a_P a_P_entries a_P_order a_P_places a_P_rights a_P_weights : Nat) (P_rows : Int32) (P_order : (Nat → Int32)) (P_places : (Nat → Int32)) : va_W := [(a_P, .inr (2, [.int P_rows, .ref a_P_entries, .ref a_P_order, .ref a_P_places, .ref a_P_rights, .ref a_P_weights])), (a_P_order, .inl (g.2.1, 16, .inl P_order)), (a_P_places, .inl (g.2.1, 16, .inl P_places))]
abbrev w1_X2_exchange (g : cx_G) (a_P a_P_entries a_P_order a_P_places a_P_rights a_P_weights : Nat) (P_rows : Int32) (P_order : (Nat → Int32)) (P_places : (Nat → Int32)) (u : (Nat → Int32) × (Nat → Int32)) : va_W := [(a_P, .inr (2, [.int P_rows, .ref a_P_entries, .ref a_P_order, .ref a_P_places, .ref a_P_rights, .ref a_P_weights])), (a_P_order, .inl (g.2.1, 16, .inl u.1)), (a_P_places, .inl (g.2.1, 16, .inl u.2))]
set_option maxHeartbeats 4000000 in
set_option maxRecDepth 100000 in
theorem c_X2_exchange (l : Launch) (g : cx_G) (a_P a_P_entries a_P_order a_P_places a_P_rights a_P_weights : Nat) (i_p : Int32) (i_q : Int32) (P_rows : Int32) (P_order : (Nat → Int32)) (P_places : (Nat → Int32)) {Q : (Nat → Int32) → (Nat → Int32) → Prop} (hv : wp_X2_exchange i_p i_q P_rows P_order P_places Q) : cx_Mv l g yX2_exchange (Cond.code yX2_exchange cX2_exchange 5 none :: cx_T) ({ frames := 1, cells := 0, slots := 0, locals := 22 } : Room) [.ref a_P, .int i_p, .int i_q] (w0_X2_exchange g a_P a_P_entries a_P_order a_P_places a_P_rights a_P_weights P_rows P_order P_places) (fun (u : (Nat → Int32) × (Nat → Int32)) => Q u.1 u.2) (w1_X2_exchange g a_P a_P_entries a_P_order a_P_places a_P_rights a_P_weights P_rows P_order P_places) 0 0 := by
  intro sz
  refine Met.ofW (cc := cX2_exchange) (maxL := 5) (ret := none) (by decide) rfl ?_
  intro p e s m args below meth c s₁ B hml hpre
  obtain ⟨rfl, hsz, hP, hK, hD0⟩ := hpre
  have hx := B.exec
  have hb := B.bytes
  have hr := B.returns
  have hts0 := atoms_spec (ws := (Cond.code yX2_exchange cX2_exchange 5 none :: cx_T)) B.pre
  have hts : ∀ w ∈ cx_T, w.before _ s = true := fun w h => hts0 w (List.mem_cons_of_mem _ h)
  have hown : s.vm.findClass RX2 = some m.cls := findClass_of_methodNamed B.named
  have hlocks := B.notSynchronized
  subst hsz
  have hD := hD0.self (sz := s.heap.size)
  obtain ⟨A, hAe⟩ : ∃ A : Nat → Prop, A = va_A (w0_X2_exchange g a_P a_P_entries a_P_order a_P_places a_P_rights a_P_weights P_rows P_order P_places) s.heap.size := ⟨_, rfl⟩
  rw [← hAe] at hD
  have hA : ∀ q : Nat, s.heap.size ≤ q → A q := fun q h => by rw [hAe]; exact Or.inr h
  have hS : va_S A s.heap s.heap [] := va_S.rf
  have hP : va_P g.1 vwCl [(a_P, .inr (2, [.int P_rows, .ref a_P_entries, .ref a_P_order, .ref a_P_places, .ref a_P_rights, .ref a_P_weights])), (a_P_order, .inl (g.2.1, 16, .inl P_order)), (a_P_places, .inl (g.2.1, 16, .inl P_places))] s.heap := hP
  have hD : va_D A [(a_P, .inr (2, [.int P_rows, .ref a_P_entries, .ref a_P_order, .ref a_P_places, .ref a_P_rights, .ref a_P_weights])), (a_P_order, .inl (g.2.1, 16, .inl P_order)), (a_P_places, .inl (g.2.1, 16, .inl P_places))] := hD
  have hl := lv_entry ([.ref a_P, .int i_p, .int i_q]) (n := 5) (Nat.le_of_ble_eq_true rfl)
  rw [lg_entry_eq]
  generalize (lg_sl ([.ref a_P, .int i_p, .int i_q]) ++ List.replicate (5 - (lg_sl ([.ref a_P, .int i_p, .int i_q])).length) Slot.unset).toArray = ls at hl ⊢
  have hl : lv_has ls 5 [(0, .ref a_P), (1, .int i_p), (2, .int i_q)] := hl
  unfold wp_X2_exchange at hv
  refine lv_aload_n hx hb dX2_exchange_0 rfl (lv_at hl 0 rfl) ?_
  refine va_get (D := g.1) (ci := 2) (v := .ref a_P_order) (C := RX2) (T := TX2) (N := 6) hx hb hts cw_in_X2 hown hK.1 hP 0 rfl rfl 2 (by decide) (hts _ cw_f_X2_19) (fun _ h9 => h9) rfl dX2_exchange_1 ?_
  refine lv_iload_n hx hb dX2_exchange_4 rfl (lv_at hl 1 rfl) ?_
  obtain ⟨h_1, hv⟩ := hv
  refine va_iald (D := g.1) hx hb hK.1 hP 1 0 rfl rfl h_1 dX2_exchange_5 ?_
  refine lv_topi (fun x3_2 ex3_2 => ?_)
  replace hv := hv x3_2 ex3_2
  refine lv_istore_n (lv' := [(3, .int x3_2), (0, .ref a_P), (1, .int i_p), (2, .int i_q)]) hx hb dX2_exchange_6 rfl hl (by decide) rfl (fun ls hl => ?_)
  refine lv_aload_n hx hb dX2_exchange_7 rfl (lv_at hl 1 rfl) ?_
  refine va_get (D := g.1) (ci := 2) (v := .ref a_P_order) (C := RX2) (T := TX2) (N := 6) hx hb hts cw_in_X2 hown hK.1 hP 0 rfl rfl 2 (by decide) (hts _ cw_f_X2_19) (fun _ h9 => h9) rfl dX2_exchange_8 ?_
  refine lv_iload_n hx hb dX2_exchange_11 rfl (lv_at hl 3 rfl) ?_
  obtain ⟨h_3, hv⟩ := hv
  refine va_iald (D := g.1) hx hb hK.1 hP 1 0 rfl rfl h_3 dX2_exchange_12 ?_
  refine lv_topi (fun x4_4 ex4_4 => ?_)
  replace hv := hv x4_4 ex4_4
  refine lv_istore (lv' := [(4, .int x4_4), (3, .int x3_2), (0, .ref a_P), (1, .int i_p), (2, .int i_q)]) hx hb dX2_exchange_13 hl (by decide) rfl (fun ls hl => ?_)
  refine lv_aload_n hx hb dX2_exchange_15 rfl (lv_at hl 2 rfl) ?_
  refine lv_iload_n hx hb dX2_exchange_16 rfl (lv_at hl 1 rfl) ?_
  refine lv_iload_n hx hb dX2_exchange_17 rfl (lv_at hl 4 rfl) ?_
  refine cx_vV (wr := []) (As := [.int x3_2, .int i_q]) (rest := []) ⟨hx, hb, hml, hown, hts⟩ (c_X2_place l g a_P a_P_entries a_P_order a_P_places a_P_rights a_P_weights x3_2 i_q P_rows P_order P_places hv) (cx_cwV 2 hts cw_m_X2_35 cw_i_X2_place cw_s_X2_place cw_n_X2 cw_c_X2_place rfl rfl (by decide +kernel) ⟨Nat.le_of_ble_eq_true rfl, Nat.le_of_ble_eq_true rfl⟩) hK hP hD hS hA 0 2 rfl rfl [0, 1, 2] [] rfl rfl rfl rfl (by decide) rfl hl.1 rfl (Nat.le_of_ble_eq_true rfl) dX2_exchange_18 ⟨Nat.le_of_ble_eq_true rfl, Nat.le_of_ble_eq_true rfl⟩ (fun w_8 H locs hv hP hD hS => ?_)
  obtain ⟨u_6, u_7⟩ := w_8
  have hP : va_P g.1 vwCl [(a_P, .inr (2, [.int P_rows, .ref a_P_entries, .ref a_P_order, .ref a_P_places, .ref a_P_rights, .ref a_P_weights])), (a_P_order, .inl (g.2.1, 16, .inl u_6)), (a_P_places, .inl (g.2.1, 16, .inl u_7))] H := hP.sub [0, 1, 2] rfl
  have hD : va_D A [(a_P, .inr (2, [.int P_rows, .ref a_P_entries, .ref a_P_order, .ref a_P_places, .ref a_P_rights, .ref a_P_weights])), (a_P_order, .inl (g.2.1, 16, .inl u_6)), (a_P_places, .inl (g.2.1, 16, .inl u_7))] := hD.sub [0, 1, 2] (by decide) rfl
  refine lv_aload_n hx hb dX2_exchange_21 rfl (lv_at hl 2 rfl) ?_
  refine lv_iload hx hb dX2_exchange_22 (lv_at hl 0 rfl) ?_
  refine lv_iload_n hx hb dX2_exchange_24 rfl (lv_at hl 3 rfl) ?_
  refine cx_vV (wr := []) (As := [.int x4_4, .int i_p]) (rest := []) ⟨hx, hb, hml, hown, hts⟩ (c_X2_place l g a_P a_P_entries a_P_order a_P_places a_P_rights a_P_weights x4_4 i_p P_rows u_6 u_7 hv) (cx_cwV 2 hts cw_m_X2_35 cw_i_X2_place cw_s_X2_place cw_n_X2 cw_c_X2_place rfl rfl (by decide +kernel) ⟨Nat.le_of_ble_eq_true rfl, Nat.le_of_ble_eq_true rfl⟩) hK hP hD hS hA 0 2 rfl rfl [0, 1, 2] [] rfl rfl rfl rfl (by decide) rfl hl.1 rfl (Nat.le_of_ble_eq_true rfl) dX2_exchange_25 ⟨Nat.le_of_ble_eq_true rfl, Nat.le_of_ble_eq_true rfl⟩ (fun w_12 H locs hv hP hD hS => ?_)
  obtain ⟨u_10, u_11⟩ := w_12
  have hP : va_P g.1 vwCl [(a_P, .inr (2, [.int P_rows, .ref a_P_entries, .ref a_P_order, .ref a_P_places, .ref a_P_rights, .ref a_P_weights])), (a_P_order, .inl (g.2.1, 16, .inl u_10)), (a_P_places, .inl (g.2.1, 16, .inl u_11))] H := hP.sub [0, 1, 2] rfl
  have hD : va_D A [(a_P, .inr (2, [.int P_rows, .ref a_P_entries, .ref a_P_order, .ref a_P_places, .ref a_P_rights, .ref a_P_weights])), (a_P_order, .inl (g.2.1, 16, .inl u_10)), (a_P_places, .inl (g.2.1, 16, .inl u_11))] := hD.sub [0, 1, 2] (by decide) rfl
  exact cx_vret hx hb hr hlocks hAe hS (u_10, u_11) hv hP hD dX2_exchange_28
def vc_X2_turnRound_0 (P_rows : Int32) (P_order : (Nat → Int32)) (P_places : (Nat → Int32)) (Q : (Nat → Int32) → (Nat → Int32) → Prop) (G1 : Int32 → (Nat → Int32) → (Nat → Int32) → Prop)  : Prop := G1 0 P_order P_places
def vc_X2_turnRound_1 (P_rows : Int32) (P_order : (Nat → Int32)) (P_places : (Nat → Int32)) (Q : (Nat → Int32) → (Nat → Int32) → Prop) (G1 : Int32 → (Nat → Int32) → (Nat → Int32) → Prop) (x1 : Int32) (v_P_order : (Nat → Int32)) (v_P_places : (Nat → Int32)) : Prop := ((P_rows / 2) ≤ x1 → (Q v_P_order v_P_places)) ∧ (¬ (P_rows / 2) ≤ x1 → (wp_X2_exchange x1 ((P_rows - 1) - x1) P_rows v_P_order v_P_places (fun u_2 u_3 => ∀ x1_5 : Int32, x1_5 = x1 + 1 → (G1 x1_5 u_2 u_3))))
def wp_X2_turnRound (P_rows : Int32) (P_order : (Nat → Int32)) (P_places : (Nat → Int32)) (Q : (Nat → Int32) → (Nat → Int32) → Prop) : Prop := ∀ (G1 : Int32 → (Nat → Int32) → (Nat → Int32) → Prop), (∀ (x1 : Int32) (v_P_order : (Nat → Int32)) (v_P_places : (Nat → Int32)), vc_X2_turnRound_1 P_rows P_order P_places Q G1 x1 v_P_order v_P_places → G1 x1 v_P_order v_P_places) → vc_X2_turnRound_0 P_rows P_order P_places Q G1
abbrev w0_X2_turnRound (g : cx_G) (a_P a_P_entries a_P_order a_P_places a_P_rights a_P_weights : Nat) (P_rows : Int32) (P_order : (Nat → Int32)) (P_places : (Nat → Int32)) : va_W := [(a_P, .inr (2, [.int P_rows, .ref a_P_entries, .ref a_P_order, .ref a_P_places, .ref a_P_rights, .ref a_P_weights])), (a_P_order, .inl (g.2.1, 16, .inl P_order)), (a_P_places, .inl (g.2.1, 16, .inl P_places))]
abbrev w1_X2_turnRound (g : cx_G) (a_P a_P_entries a_P_order a_P_places a_P_rights a_P_weights : Nat) (P_rows : Int32) (P_order : (Nat → Int32)) (P_places : (Nat → Int32)) (u : (Nat → Int32) × (Nat → Int32)) : va_W := [(a_P, .inr (2, [.int P_rows, .ref a_P_entries, .ref a_P_order, .ref a_P_places, .ref a_P_rights, .ref a_P_weights])), (a_P_order, .inl (g.2.1, 16, .inl u.1)), (a_P_places, .inl (g.2.1, 16, .inl u.2))]
set_option maxHeartbeats 4000000 in
set_option maxRecDepth 100000 in
theorem c_X2_turnRound (l : Launch) (g : cx_G) (a_P a_P_entries a_P_order a_P_places a_P_rights a_P_weights : Nat) (P_rows : Int32) (P_order : (Nat → Int32)) (P_places : (Nat → Int32)) {Q : (Nat → Int32) → (Nat → Int32) → Prop} (hv : wp_X2_turnRound P_rows P_order P_places Q) : cx_Mv l g yX2_turnRound (Cond.code yX2_turnRound cX2_turnRound 2 none :: cx_T) ({ frames := 2, cells := 0, slots := 0, locals := 46 } : Room) [.ref a_P] (w0_X2_turnRound g a_P a_P_entries a_P_order a_P_places a_P_rights a_P_weights P_rows P_order P_places) (fun (u : (Nat → Int32) × (Nat → Int32)) => Q u.1 u.2) (w1_X2_turnRound g a_P a_P_entries a_P_order a_P_places a_P_rights a_P_weights P_rows P_order P_places) 0 0 := by
  intro sz
  refine Met.ofW (cc := cX2_turnRound) (maxL := 2) (ret := none) (by decide) rfl ?_
  intro p e s m args below meth c s₁ B hml hpre
  obtain ⟨rfl, hsz, hP, hK, hD0⟩ := hpre
  have hx := B.exec
  have hb := B.bytes
  have hr := B.returns
  have hts0 := atoms_spec (ws := (Cond.code yX2_turnRound cX2_turnRound 2 none :: cx_T)) B.pre
  have hts : ∀ w ∈ cx_T, w.before _ s = true := fun w h => hts0 w (List.mem_cons_of_mem _ h)
  have hown : s.vm.findClass RX2 = some m.cls := findClass_of_methodNamed B.named
  have hlocks := B.notSynchronized
  subst hsz
  have hD := hD0.self (sz := s.heap.size)
  obtain ⟨A, hAe⟩ : ∃ A : Nat → Prop, A = va_A (w0_X2_turnRound g a_P a_P_entries a_P_order a_P_places a_P_rights a_P_weights P_rows P_order P_places) s.heap.size := ⟨_, rfl⟩
  rw [← hAe] at hD
  have hA : ∀ q : Nat, s.heap.size ≤ q → A q := fun q h => by rw [hAe]; exact Or.inr h
  have hS : va_S A s.heap s.heap [] := va_S.rf
  have hP : va_P g.1 vwCl [(a_P, .inr (2, [.int P_rows, .ref a_P_entries, .ref a_P_order, .ref a_P_places, .ref a_P_rights, .ref a_P_weights])), (a_P_order, .inl (g.2.1, 16, .inl P_order)), (a_P_places, .inl (g.2.1, 16, .inl P_places))] s.heap := hP
  have hD : va_D A [(a_P, .inr (2, [.int P_rows, .ref a_P_entries, .ref a_P_order, .ref a_P_places, .ref a_P_rights, .ref a_P_weights])), (a_P_order, .inl (g.2.1, 16, .inl P_order)), (a_P_places, .inl (g.2.1, 16, .inl P_places))] := hD
  have hl := lv_entry ([.ref a_P]) (n := 2) (Nat.le_of_ble_eq_true rfl)
  rw [lg_entry_eq]
  generalize (lg_sl ([.ref a_P]) ++ List.replicate (2 - (lg_sl ([.ref a_P])).length) Slot.unset).toArray = ls at hl ⊢
  have hl : lv_has ls 2 [(0, .ref a_P)] := hl
  obtain ⟨G1, hG1⟩ : ∃ G : Int32 → (Nat → Int32) → (Nat → Int32) → Prop, G = (fun (x1 : Int32) (v_P_order : (Nat → Int32)) (v_P_places : (Nat → Int32)) => ∀ (H : Heap) (locs : List Loc) (ls : Array Slot), va_P g.1 vwCl [(a_P, .inr (2, [.int P_rows, .ref a_P_entries, .ref a_P_order, .ref a_P_places, .ref a_P_rights, .ref a_P_weights])), (a_P_order, .inl (g.2.1, 16, .inl v_P_order)), (a_P_places, .inl (g.2.1, 16, .inl v_P_places))] H → va_D A [(a_P, .inr (2, [.int P_rows, .ref a_P_entries, .ref a_P_order, .ref a_P_places, .ref a_P_rights, .ref a_P_weights])), (a_P_order, .inl (g.2.1, 16, .inl v_P_order)), (a_P_places, .inl (g.2.1, 16, .inl v_P_places))] → va_S A s.heap H locs → lv_has ls 2 [(1, .int x1), (0, .ref a_P)] → W p l e (headSpec (Cond.code yX2_turnRound cX2_turnRound 2 none :: cx_T) ({ frames := 2, cells := 0, slots := 0, locals := 46 } : Room)).room s m ([.ref a_P] : List Value).toArray below meth c H locs 0 0 (MQ below (va_Qv (fun (u : (Nat → Int32) × (Nat → Int32)) => Q u.1 u.2) (cx_B g (w0_X2_turnRound g a_P a_P_entries a_P_order a_P_places a_P_rights a_P_weights P_rows P_order P_places) s.heap.size (w1_X2_turnRound g a_P a_P_entries a_P_order a_P_places a_P_rights a_P_weights P_rows P_order P_places)) (va_A (w0_X2_turnRound g a_P a_P_entries a_P_order a_P_places a_P_rights a_P_weights P_rows P_order P_places) s.heap.size)) ([.ref a_P] : List Value).toArray s 0 0 (va_A (w0_X2_turnRound g a_P a_P_entries a_P_order a_P_places a_P_rights a_P_weights P_rows P_order P_places) s.heap.size)) (F0 m 2 ls [])) := ⟨_, rfl⟩
  have hs1 : ∀ (x1 : Int32) (v_P_order : (Nat → Int32)) (v_P_places : (Nat → Int32)), vc_X2_turnRound_1 P_rows P_order P_places Q G1 x1 v_P_order v_P_places → G1 x1 v_P_order v_P_places := by
    rw [hG1]
    intro x1 v_P_order v_P_places hv H locs ls hP hD hS hl
    unfold vc_X2_turnRound_1 at hv
    refine lv_iload_n hx hb dX2_turnRound_2 rfl (lv_at hl 0 rfl) ?_
    refine lv_aload_n hx hb dX2_turnRound_3 rfl (lv_at hl 1 rfl) ?_
    refine va_get (D := g.1) (ci := 2) (v := .int P_rows) (C := RX2) (T := TX2) (N := 6) hx hb hts cw_in_X2 hown hK.1 hP 0 rfl rfl 0 (by decide) (hts _ cw_f_X2_9) (fun _ h9 => h9) rfl dX2_turnRound_4 ?_
    refine lv_iconst (v := 2) hx hb dX2_turnRound_7 (by decide) ?_
    refine lv_idiv hx hb dX2_turnRound_8 (by decide) ?_
    refine lv_icmp_ge (tgt := 31) hx hb dX2_turnRound_9 (by decide) (fun hc => ?_) (fun hc => ?_)
    · replace hv := hv.1 hc
      exact cx_vret hx hb hr hlocks hAe hS (v_P_order, v_P_places) hv hP hD dX2_turnRound_31
    · replace hv := hv.2 hc
      refine lv_aload_n hx hb dX2_turnRound_12 rfl (lv_at hl 1 rfl) ?_
      refine lv_iload_n hx hb dX2_turnRound_13 rfl (lv_at hl 0 rfl) ?_
      refine lv_aload_n hx hb dX2_turnRound_14 rfl (lv_at hl 1 rfl) ?_
      refine va_get (D := g.1) (ci := 2) (v := .int P_rows) (C := RX2) (T := TX2) (N := 6) hx hb hts cw_in_X2 hown hK.1 hP 0 rfl rfl 0 (by decide) (hts _ cw_f_X2_9) (fun _ h9 => h9) rfl dX2_turnRound_15 ?_
      refine lv_iconst (v := 1) hx hb dX2_turnRound_18 (by decide) ?_
      refine lv_isub hx hb dX2_turnRound_19 ?_
      refine lv_iload_n hx hb dX2_turnRound_20 rfl (lv_at hl 0 rfl) ?_
      refine lv_isub hx hb dX2_turnRound_21 ?_
      refine cx_vV (wr := []) (As := [.int x1, .int ((P_rows - 1) - x1)]) (rest := []) ⟨hx, hb, hml, hown, hts⟩ (c_X2_exchange l g a_P a_P_entries a_P_order a_P_places a_P_rights a_P_weights x1 ((P_rows - 1) - x1) P_rows v_P_order v_P_places hv) (cx_cwV 2 hts cw_m_X2_75 cw_i_X2_exchange cw_s_X2_exchange cw_n_X2 cw_c_X2_exchange rfl rfl (by decide +kernel) ⟨Nat.le_of_ble_eq_true rfl, Nat.le_of_ble_eq_true rfl⟩) hK hP hD hS hA 0 2 rfl rfl [0, 1, 2] [] rfl rfl rfl rfl (by decide) rfl hl.1 rfl (Nat.le_of_ble_eq_true rfl) dX2_turnRound_22 ⟨Nat.le_of_ble_eq_true rfl, Nat.le_of_ble_eq_true rfl⟩ (fun w_4 H locs hv hP hD hS => ?_)
      obtain ⟨u_2, u_3⟩ := w_4
      have hP : va_P g.1 vwCl [(a_P, .inr (2, [.int P_rows, .ref a_P_entries, .ref a_P_order, .ref a_P_places, .ref a_P_rights, .ref a_P_weights])), (a_P_order, .inl (g.2.1, 16, .inl u_2)), (a_P_places, .inl (g.2.1, 16, .inl u_3))] H := hP.sub [0, 1, 2] rfl
      have hD : va_D A [(a_P, .inr (2, [.int P_rows, .ref a_P_entries, .ref a_P_order, .ref a_P_places, .ref a_P_rights, .ref a_P_weights])), (a_P_order, .inl (g.2.1, 16, .inl u_2)), (a_P_places, .inl (g.2.1, 16, .inl u_3))] := hD.sub [0, 1, 2] (by decide) rfl
      obtain ⟨x1_5, ex1_5⟩ : ∃ y : Int32, y = x1 + 1 := ⟨_, rfl⟩
      replace hv := hv x1_5 ex1_5
      refine lv_iinc (v := x1_5) (lv' := [(1, .int x1_5), (0, .ref a_P)]) hx hb dX2_turnRound_25 hl (k := 0) rfl (by rw [ex1_5]; rfl) (by decide) rfl (fun ls hl => ?_)
      refine lv_goto (tgt := 2) hx hb dX2_turnRound_28 (by decide) ?_
      exact hv _ _ _ hP hD hS (lv_sub hl [0, 1] rfl)
  replace hv := hv G1 hs1
  rw [hG1] at hv
  unfold vc_X2_turnRound_0 at hv
  refine lv_iconst (v := 0) hx hb dX2_turnRound_0 (by decide) ?_
  refine lv_istore_n (lv' := [(1, .int 0), (0, .ref a_P)]) hx hb dX2_turnRound_1 rfl hl (by decide) rfl (fun ls hl => ?_)
  exact hv _ _ _ hP hD hS (lv_sub hl [0, 1] rfl)
def vc_X2_firstOf_0 (i_k : Int32) (P_rows : Int32) (P_order : (Nat → Int32)) (Q : Int32 → Prop) (G1 : Int32 → Prop)  : Prop := G1 0
def vc_X2_firstOf_1 (i_k : Int32) (P_rows : Int32) (P_order : (Nat → Int32)) (Q : Int32 → Prop) (G1 : Int32 → Prop) (x2 : Int32) : Prop := (P_rows ≤ x2 → (Q (-1))) ∧ (¬ P_rows ≤ x2 → (vp_in x2 16 ∧ (((f_has i_k (P_order (Int32.toNatClampNeg x2))) = 0 → (∀ x2_3 : Int32, x2_3 = x2 + 1 → (G1 x2_3))) ∧ (¬ (f_has i_k (P_order (Int32.toNatClampNeg x2))) = 0 → (vp_in x2 16 ∧ (Q (P_order (Int32.toNatClampNeg x2))))))))
def wp_X2_firstOf (i_k : Int32) (P_rows : Int32) (P_order : (Nat → Int32)) (Q : Int32 → Prop) : Prop := ∀ (G1 : Int32 → Prop), (∀ (x2 : Int32), vc_X2_firstOf_1 i_k P_rows P_order Q G1 x2 → G1 x2) → vc_X2_firstOf_0 i_k P_rows P_order Q G1
abbrev w0_X2_firstOf (g : cx_G) (a_P a_P_entries a_P_order a_P_places a_P_rights a_P_weights : Nat) (P_rows : Int32) (P_order : (Nat → Int32)) : va_W := [(a_P, .inr (2, [.int P_rows, .ref a_P_entries, .ref a_P_order, .ref a_P_places, .ref a_P_rights, .ref a_P_weights])), (a_P_order, .inl (g.2.1, 16, .inl P_order))]
set_option maxHeartbeats 4000000 in
set_option maxRecDepth 100000 in
theorem c_X2_firstOf (l : Launch) (g : cx_G) (a_P a_P_entries a_P_order a_P_places a_P_rights a_P_weights : Nat) (i_k : Int32) (P_rows : Int32) (P_order : (Nat → Int32)) {Q : Int32 → Prop} (hv : wp_X2_firstOf i_k P_rows P_order Q) : cx_Mi l g yX2_firstOf (Cond.code yX2_firstOf cX2_firstOf 3 (some .int) :: cx_T) ({ frames := 2, cells := 0, slots := 0, locals := 41 } : Room) [.ref a_P, .int i_k] (w0_X2_firstOf g a_P a_P_entries a_P_order a_P_places a_P_rights a_P_weights P_rows P_order) (fun (r : Int32) (_ : Unit) => Q r) (fun _ : Unit => (w0_X2_firstOf g a_P a_P_entries a_P_order a_P_places a_P_rights a_P_weights P_rows P_order)) 0 0 := by
  intro sz
  refine Met.ofW (cc := cX2_firstOf) (maxL := 3) (ret := (some .int)) (by decide) rfl ?_
  intro p e s m args below meth c s₁ B hml hpre
  obtain ⟨rfl, hsz, hP, hK, hD0⟩ := hpre
  have hx := B.exec
  have hb := B.bytes
  have hr := B.returns
  have hts0 := atoms_spec (ws := (Cond.code yX2_firstOf cX2_firstOf 3 (some .int) :: cx_T)) B.pre
  have hts : ∀ w ∈ cx_T, w.before _ s = true := fun w h => hts0 w (List.mem_cons_of_mem _ h)
  have hown : s.vm.findClass RX2 = some m.cls := findClass_of_methodNamed B.named
  have hlocks := B.notSynchronized
  subst hsz
  have hD := hD0.self (sz := s.heap.size)
  obtain ⟨A, hAe⟩ : ∃ A : Nat → Prop, A = va_A (w0_X2_firstOf g a_P a_P_entries a_P_order a_P_places a_P_rights a_P_weights P_rows P_order) s.heap.size := ⟨_, rfl⟩
  rw [← hAe] at hD
  have hA : ∀ q : Nat, s.heap.size ≤ q → A q := fun q h => by rw [hAe]; exact Or.inr h
  have hS : va_S A s.heap s.heap [] := va_S.rf
  have hP : va_P g.1 vwCl [(a_P, .inr (2, [.int P_rows, .ref a_P_entries, .ref a_P_order, .ref a_P_places, .ref a_P_rights, .ref a_P_weights])), (a_P_order, .inl (g.2.1, 16, .inl P_order))] s.heap := hP
  have hD : va_D A [(a_P, .inr (2, [.int P_rows, .ref a_P_entries, .ref a_P_order, .ref a_P_places, .ref a_P_rights, .ref a_P_weights])), (a_P_order, .inl (g.2.1, 16, .inl P_order))] := hD
  have hl := lv_entry ([.ref a_P, .int i_k]) (n := 3) (Nat.le_of_ble_eq_true rfl)
  rw [lg_entry_eq]
  generalize (lg_sl ([.ref a_P, .int i_k]) ++ List.replicate (3 - (lg_sl ([.ref a_P, .int i_k])).length) Slot.unset).toArray = ls at hl ⊢
  have hl : lv_has ls 3 [(0, .ref a_P), (1, .int i_k)] := hl
  obtain ⟨G1, hG1⟩ : ∃ G : Int32 → Prop, G = (fun (x2 : Int32) => ∀ (H : Heap) (locs : List Loc) (ls : Array Slot), va_P g.1 vwCl [(a_P, .inr (2, [.int P_rows, .ref a_P_entries, .ref a_P_order, .ref a_P_places, .ref a_P_rights, .ref a_P_weights])), (a_P_order, .inl (g.2.1, 16, .inl P_order))] H → va_D A [(a_P, .inr (2, [.int P_rows, .ref a_P_entries, .ref a_P_order, .ref a_P_places, .ref a_P_rights, .ref a_P_weights])), (a_P_order, .inl (g.2.1, 16, .inl P_order))] → va_S A s.heap H locs → lv_has ls 3 [(2, .int x2), (0, .ref a_P), (1, .int i_k)] → W p l e (headSpec (Cond.code yX2_firstOf cX2_firstOf 3 (some .int) :: cx_T) ({ frames := 2, cells := 0, slots := 0, locals := 41 } : Room)).room s m ([.ref a_P, .int i_k] : List Value).toArray below meth c H locs 0 0 (MQ below (va_Qi (fun (r : Int32) (_ : Unit) => Q r) (cx_B g (w0_X2_firstOf g a_P a_P_entries a_P_order a_P_places a_P_rights a_P_weights P_rows P_order) s.heap.size (fun _ : Unit => (w0_X2_firstOf g a_P a_P_entries a_P_order a_P_places a_P_rights a_P_weights P_rows P_order))) (va_A (w0_X2_firstOf g a_P a_P_entries a_P_order a_P_places a_P_rights a_P_weights P_rows P_order) s.heap.size)) ([.ref a_P, .int i_k] : List Value).toArray s 0 0 (va_A (w0_X2_firstOf g a_P a_P_entries a_P_order a_P_places a_P_rights a_P_weights P_rows P_order) s.heap.size)) (F0 m 2 ls [])) := ⟨_, rfl⟩
  have hs1 : ∀ (x2 : Int32), vc_X2_firstOf_1 i_k P_rows P_order Q G1 x2 → G1 x2 := by
    rw [hG1]
    intro x2 hv H locs ls hP hD hS hl
    unfold vc_X2_firstOf_1 at hv
    refine lv_iload_n hx hb dX2_firstOf_2 rfl (lv_at hl 0 rfl) ?_
    refine lv_aload_n hx hb dX2_firstOf_3 rfl (lv_at hl 1 rfl) ?_
    refine va_get (D := g.1) (ci := 2) (v := .int P_rows) (C := RX2) (T := TX2) (N := 6) hx hb hts cw_in_X2 hown hK.1 hP 0 rfl rfl 0 (by decide) (hts _ cw_f_X2_9) (fun _ h9 => h9) rfl dX2_firstOf_4 ?_
    refine lv_icmp_ge (tgt := 36) hx hb dX2_firstOf_7 (by decide) (fun hc => ?_) (fun hc => ?_)
    · replace hv := hv.1 hc
      refine lv_iconst (v := (-1)) hx hb dX2_firstOf_36 (by decide) ?_
      exact cx_iret hx hb hr hlocks hAe hS () hv hP hD dX2_firstOf_37
    · replace hv := hv.2 hc
      refine lv_iload_n hx hb dX2_firstOf_10 rfl (lv_at hl 2 rfl) ?_
      refine lv_aload_n hx hb dX2_firstOf_11 rfl (lv_at hl 1 rfl) ?_
      refine va_get (D := g.1) (ci := 2) (v := .ref a_P_order) (C := RX2) (T := TX2) (N := 6) hx hb hts cw_in_X2 hown hK.1 hP 0 rfl rfl 2 (by decide) (hts _ cw_f_X2_19) (fun _ h9 => h9) rfl dX2_firstOf_12 ?_
      refine lv_iload_n hx hb dX2_firstOf_15 rfl (lv_at hl 0 rfl) ?_
      obtain ⟨h_1, hv⟩ := hv
      refine va_iald (D := g.1) hx hb hK.1 hP 1 0 rfl rfl h_1 dX2_firstOf_16 ?_
      refine cx_iNr (As := [.int i_k, .int (P_order (Int32.toNatClampNeg x2))]) (rest := []) ⟨hx, hb, hml, hown, hts⟩ (cp_X4_has l g i_k (P_order (Int32.toNatClampNeg x2))) (cx_cwN 2 hts (hK.2.at 2 rfl) cw_t_X4_has cw_n_X4 cw_c_X4_has rfl rfl (by decide +kernel) ⟨Nat.le_of_ble_eq_true rfl, Nat.le_of_ble_eq_true rfl⟩) hK hP hD hS hA [] rfl rfl rfl hl.1 rfl (Nat.le_of_ble_eq_true rfl) dX2_firstOf_17 ⟨Nat.le_of_ble_eq_true rfl, Nat.le_of_ble_eq_true rfl⟩ (fun r_2 H locs hr9 hP hS => ?_)
      replace hr9 : r_2 = (f_has i_k (P_order (Int32.toNatClampNeg x2))) := hr9
      subst hr9
      refine lv_if_eq (tgt := 30) hx hb dX2_firstOf_20 (by decide) (fun hc => ?_) (fun hc => ?_)
      · replace hv := hv.1 hc
        obtain ⟨x2_3, ex2_3⟩ : ∃ y : Int32, y = x2 + 1 := ⟨_, rfl⟩
        replace hv := hv x2_3 ex2_3
        refine lv_iinc (v := x2_3) (lv' := [(2, .int x2_3), (0, .ref a_P), (1, .int i_k)]) hx hb dX2_firstOf_30 hl (k := 0) rfl (by rw [ex2_3]; rfl) (by decide) rfl (fun ls hl => ?_)
        refine lv_goto (tgt := 2) hx hb dX2_firstOf_33 (by decide) ?_
        exact hv _ _ _ hP hD hS (lv_sub hl [0, 1, 2] rfl)
      · replace hv := hv.2 hc
        refine lv_aload_n hx hb dX2_firstOf_23 rfl (lv_at hl 1 rfl) ?_
        refine va_get (D := g.1) (ci := 2) (v := .ref a_P_order) (C := RX2) (T := TX2) (N := 6) hx hb hts cw_in_X2 hown hK.1 hP 0 rfl rfl 2 (by decide) (hts _ cw_f_X2_19) (fun _ h9 => h9) rfl dX2_firstOf_24 ?_
        refine lv_iload_n hx hb dX2_firstOf_27 rfl (lv_at hl 0 rfl) ?_
        obtain ⟨h_4, hv⟩ := hv
        refine va_iald (D := g.1) hx hb hK.1 hP 1 0 rfl rfl h_4 dX2_firstOf_28 ?_
        exact cx_iret hx hb hr hlocks hAe hS () hv hP hD dX2_firstOf_29
  replace hv := hv G1 hs1
  rw [hG1] at hv
  unfold vc_X2_firstOf_0 at hv
  refine lv_iconst (v := 0) hx hb dX2_firstOf_0 (by decide) ?_
  refine lv_istore_n (lv' := [(2, .int 0), (0, .ref a_P), (1, .int i_k)]) hx hb dX2_firstOf_1 rfl hl (by decide) rfl (fun ls hl => ?_)
  exact hv _ _ _ hP hD hS (lv_sub hl [0, 1, 2] rfl)
def vc_X2_begin_0 (i_n : Int32) (P_rows : Int32) (P_order : (Nat → Int32)) (P_places : (Nat → Int32)) (P_rights : (Nat → Int32)) (P_weights : (Nat → Int32)) (P_entries : (Nat → Int32)) (Q : Int32 → (Nat → Int32) → (Nat → Int32) → (Nat → Int32) → (Nat → Int32) → (Nat → Int32) → Prop) (G1 : Int32 → Int32 → (Nat → Int32) → (Nat → Int32) → (Nat → Int32) → (Nat → Int32) → (Nat → Int32) → Prop) (G2 : Int32 → Int32 → Int32 → (Nat → Int32) → (Nat → Int32) → (Nat → Int32) → (Nat → Int32) → (Nat → Int32) → Prop)  : Prop := G1 0 i_n P_order P_places P_rights P_weights P_entries
def vc_X2_begin_1 (i_n : Int32) (P_rows : Int32) (P_order : (Nat → Int32)) (P_places : (Nat → Int32)) (P_rights : (Nat → Int32)) (P_weights : (Nat → Int32)) (P_entries : (Nat → Int32)) (Q : Int32 → (Nat → Int32) → (Nat → Int32) → (Nat → Int32) → (Nat → Int32) → (Nat → Int32) → Prop) (G1 : Int32 → Int32 → (Nat → Int32) → (Nat → Int32) → (Nat → Int32) → (Nat → Int32) → (Nat → Int32) → Prop) (G2 : Int32 → Int32 → Int32 → (Nat → Int32) → (Nat → Int32) → (Nat → Int32) → (Nat → Int32) → (Nat → Int32) → Prop) (x2 : Int32) (v_P_rows : Int32) (v_P_order : (Nat → Int32)) (v_P_places : (Nat → Int32)) (v_P_rights : (Nat → Int32)) (v_P_weights : (Nat → Int32)) (v_P_entries : (Nat → Int32)) : Prop := (i_n ≤ x2 → (Q v_P_rows v_P_order v_P_places v_P_rights v_P_weights v_P_entries)) ∧ (¬ i_n ≤ x2 → (G2 0 x2 v_P_rows v_P_order v_P_places v_P_rights v_P_weights v_P_entries))
def vc_X2_begin_2 (i_n : Int32) (P_rows : Int32) (P_order : (Nat → Int32)) (P_places : (Nat → Int32)) (P_rights : (Nat → Int32)) (P_weights : (Nat → Int32)) (P_entries : (Nat → Int32)) (Q : Int32 → (Nat → Int32) → (Nat → Int32) → (Nat → Int32) → (Nat → Int32) → (Nat → Int32) → Prop) (G1 : Int32 → Int32 → (Nat → Int32) → (Nat → Int32) → (Nat → Int32) → (Nat → Int32) → (Nat → Int32) → Prop) (G2 : Int32 → Int32 → Int32 → (Nat → Int32) → (Nat → Int32) → (Nat → Int32) → (Nat → Int32) → (Nat → Int32) → Prop) (x3 : Int32) (x2 : Int32) (v_P_rows : Int32) (v_P_order : (Nat → Int32)) (v_P_places : (Nat → Int32)) (v_P_rights : (Nat → Int32)) (v_P_weights : (Nat → Int32)) (v_P_entries : (Nat → Int32)) : Prop := (i_n ≤ x3 → (wp_X2_place x2 x2 v_P_rows v_P_order v_P_places (fun u_2 u_3 => vp_in x2 16 ∧ (vp_in x2 16 ∧ (∀ x2_7 : Int32, x2_7 = x2 + 1 → (G1 x2_7 v_P_rows u_2 u_3 (upd v_P_rights (Int32.toNatClampNeg x2) 0) (upd v_P_weights (Int32.toNatClampNeg x2) 0) v_P_entries)))))) ∧ (¬ i_n ≤ x3 → (vp_in (f_cell x2 x3) 256 ∧ (∀ x3_10 : Int32, x3_10 = x3 + 1 → (G2 x3_10 x2 v_P_rows v_P_order v_P_places v_P_rights v_P_weights (upd v_P_entries (Int32.toNatClampNeg (f_cell x2 x3)) 0)))))
def wp_X2_begin (i_n : Int32) (P_rows : Int32) (P_order : (Nat → Int32)) (P_places : (Nat → Int32)) (P_rights : (Nat → Int32)) (P_weights : (Nat → Int32)) (P_entries : (Nat → Int32)) (Q : Int32 → (Nat → Int32) → (Nat → Int32) → (Nat → Int32) → (Nat → Int32) → (Nat → Int32) → Prop) : Prop := ∀ (G1 : Int32 → Int32 → (Nat → Int32) → (Nat → Int32) → (Nat → Int32) → (Nat → Int32) → (Nat → Int32) → Prop) (G2 : Int32 → Int32 → Int32 → (Nat → Int32) → (Nat → Int32) → (Nat → Int32) → (Nat → Int32) → (Nat → Int32) → Prop), (∀ (x2 : Int32) (v_P_rows : Int32) (v_P_order : (Nat → Int32)) (v_P_places : (Nat → Int32)) (v_P_rights : (Nat → Int32)) (v_P_weights : (Nat → Int32)) (v_P_entries : (Nat → Int32)), vc_X2_begin_1 i_n P_rows P_order P_places P_rights P_weights P_entries Q G1 G2 x2 v_P_rows v_P_order v_P_places v_P_rights v_P_weights v_P_entries → G1 x2 v_P_rows v_P_order v_P_places v_P_rights v_P_weights v_P_entries) → (∀ (x3 : Int32) (x2 : Int32) (v_P_rows : Int32) (v_P_order : (Nat → Int32)) (v_P_places : (Nat → Int32)) (v_P_rights : (Nat → Int32)) (v_P_weights : (Nat → Int32)) (v_P_entries : (Nat → Int32)), vc_X2_begin_2 i_n P_rows P_order P_places P_rights P_weights P_entries Q G1 G2 x3 x2 v_P_rows v_P_order v_P_places v_P_rights v_P_weights v_P_entries → G2 x3 x2 v_P_rows v_P_order v_P_places v_P_rights v_P_weights v_P_entries) → vc_X2_begin_0 i_n P_rows P_order P_places P_rights P_weights P_entries Q G1 G2
abbrev w0_X2_begin (g : cx_G) (a_P a_P_entries a_P_order a_P_places a_P_rights a_P_weights : Nat) (P_rows : Int32) (P_order : (Nat → Int32)) (P_places : (Nat → Int32)) (P_rights : (Nat → Int32)) (P_weights : (Nat → Int32)) (P_entries : (Nat → Int32)) : va_W := [(a_P, .inr (2, [.int P_rows, .ref a_P_entries, .ref a_P_order, .ref a_P_places, .ref a_P_rights, .ref a_P_weights])), (a_P_order, .inl (g.2.1, 16, .inl P_order)), (a_P_places, .inl (g.2.1, 16, .inl P_places)), (a_P_rights, .inl (g.2.1, 16, .inl P_rights)), (a_P_weights, .inl (g.2.1, 16, .inl P_weights)), (a_P_entries, .inl (g.2.1, 256, .inl P_entries))]
abbrev w1_X2_begin (g : cx_G) (a_P a_P_entries a_P_order a_P_places a_P_rights a_P_weights : Nat) (P_rows : Int32) (P_order : (Nat → Int32)) (P_places : (Nat → Int32)) (P_rights : (Nat → Int32)) (P_weights : (Nat → Int32)) (P_entries : (Nat → Int32)) (u : Int32 × (Nat → Int32) × (Nat → Int32) × (Nat → Int32) × (Nat → Int32) × (Nat → Int32)) : va_W := [(a_P, .inr (2, [.int u.1, .ref a_P_entries, .ref a_P_order, .ref a_P_places, .ref a_P_rights, .ref a_P_weights])), (a_P_order, .inl (g.2.1, 16, .inl u.2.1)), (a_P_places, .inl (g.2.1, 16, .inl u.2.2.1)), (a_P_rights, .inl (g.2.1, 16, .inl u.2.2.2.1)), (a_P_weights, .inl (g.2.1, 16, .inl u.2.2.2.2.1)), (a_P_entries, .inl (g.2.1, 256, .inl u.2.2.2.2.2))]
set_option maxHeartbeats 4000000 in
set_option maxRecDepth 100000 in
theorem c_X2_begin (l : Launch) (g : cx_G) (a_P a_P_entries a_P_order a_P_places a_P_rights a_P_weights : Nat) (i_n : Int32) (P_rows : Int32) (P_order : (Nat → Int32)) (P_places : (Nat → Int32)) (P_rights : (Nat → Int32)) (P_weights : (Nat → Int32)) (P_entries : (Nat → Int32)) {Q : Int32 → (Nat → Int32) → (Nat → Int32) → (Nat → Int32) → (Nat → Int32) → (Nat → Int32) → Prop} (hv : wp_X2_begin i_n P_rows P_order P_places P_rights P_weights P_entries Q) : cx_Mv l g yX2_begin (Cond.code yX2_begin cX2_begin 4 none :: cx_T) ({ frames := 1, cells := 0, slots := 0, locals := 22 } : Room) [.ref a_P, .int i_n] (w0_X2_begin g a_P a_P_entries a_P_order a_P_places a_P_rights a_P_weights P_rows P_order P_places P_rights P_weights P_entries) (fun (u : Int32 × (Nat → Int32) × (Nat → Int32) × (Nat → Int32) × (Nat → Int32) × (Nat → Int32)) => Q u.1 u.2.1 u.2.2.1 u.2.2.2.1 u.2.2.2.2.1 u.2.2.2.2.2) (w1_X2_begin g a_P a_P_entries a_P_order a_P_places a_P_rights a_P_weights P_rows P_order P_places P_rights P_weights P_entries) 0 0 := by
  intro sz
  refine Met.ofW (cc := cX2_begin) (maxL := 4) (ret := none) (by decide) rfl ?_
  intro p e s m args below meth c s₁ B hml hpre
  obtain ⟨rfl, hsz, hP, hK, hD0⟩ := hpre
  have hx := B.exec
  have hb := B.bytes
  have hr := B.returns
  have hts0 := atoms_spec (ws := (Cond.code yX2_begin cX2_begin 4 none :: cx_T)) B.pre
  have hts : ∀ w ∈ cx_T, w.before _ s = true := fun w h => hts0 w (List.mem_cons_of_mem _ h)
  have hown : s.vm.findClass RX2 = some m.cls := findClass_of_methodNamed B.named
  have hlocks := B.notSynchronized
  subst hsz
  have hD := hD0.self (sz := s.heap.size)
  obtain ⟨A, hAe⟩ : ∃ A : Nat → Prop, A = va_A (w0_X2_begin g a_P a_P_entries a_P_order a_P_places a_P_rights a_P_weights P_rows P_order P_places P_rights P_weights P_entries) s.heap.size := ⟨_, rfl⟩
  rw [← hAe] at hD
  have hA : ∀ q : Nat, s.heap.size ≤ q → A q := fun q h => by rw [hAe]; exact Or.inr h
  have hS : va_S A s.heap s.heap [] := va_S.rf
  have hP : va_P g.1 vwCl [(a_P, .inr (2, [.int P_rows, .ref a_P_entries, .ref a_P_order, .ref a_P_places, .ref a_P_rights, .ref a_P_weights])), (a_P_order, .inl (g.2.1, 16, .inl P_order)), (a_P_places, .inl (g.2.1, 16, .inl P_places)), (a_P_rights, .inl (g.2.1, 16, .inl P_rights)), (a_P_weights, .inl (g.2.1, 16, .inl P_weights)), (a_P_entries, .inl (g.2.1, 256, .inl P_entries))] s.heap := hP
  have hD : va_D A [(a_P, .inr (2, [.int P_rows, .ref a_P_entries, .ref a_P_order, .ref a_P_places, .ref a_P_rights, .ref a_P_weights])), (a_P_order, .inl (g.2.1, 16, .inl P_order)), (a_P_places, .inl (g.2.1, 16, .inl P_places)), (a_P_rights, .inl (g.2.1, 16, .inl P_rights)), (a_P_weights, .inl (g.2.1, 16, .inl P_weights)), (a_P_entries, .inl (g.2.1, 256, .inl P_entries))] := hD
  have hl := lv_entry ([.ref a_P, .int i_n]) (n := 4) (Nat.le_of_ble_eq_true rfl)
  rw [lg_entry_eq]
  generalize (lg_sl ([.ref a_P, .int i_n]) ++ List.replicate (4 - (lg_sl ([.ref a_P, .int i_n])).length) Slot.unset).toArray = ls at hl ⊢
  have hl : lv_has ls 4 [(0, .ref a_P), (1, .int i_n)] := hl
  obtain ⟨G1, hG1⟩ : ∃ G : Int32 → Int32 → (Nat → Int32) → (Nat → Int32) → (Nat → Int32) → (Nat → Int32) → (Nat → Int32) → Prop, G = (fun (x2 : Int32) (v_P_rows : Int32) (v_P_order : (Nat → Int32)) (v_P_places : (Nat → Int32)) (v_P_rights : (Nat → Int32)) (v_P_weights : (Nat → Int32)) (v_P_entries : (Nat → Int32)) => ∀ (H : Heap) (locs : List Loc) (ls : Array Slot), va_P g.1 vwCl [(a_P, .inr (2, [.int v_P_rows, .ref a_P_entries, .ref a_P_order, .ref a_P_places, .ref a_P_rights, .ref a_P_weights])), (a_P_order, .inl (g.2.1, 16, .inl v_P_order)), (a_P_places, .inl (g.2.1, 16, .inl v_P_places)), (a_P_rights, .inl (g.2.1, 16, .inl v_P_rights)), (a_P_weights, .inl (g.2.1, 16, .inl v_P_weights)), (a_P_entries, .inl (g.2.1, 256, .inl v_P_entries))] H → va_D A [(a_P, .inr (2, [.int v_P_rows, .ref a_P_entries, .ref a_P_order, .ref a_P_places, .ref a_P_rights, .ref a_P_weights])), (a_P_order, .inl (g.2.1, 16, .inl v_P_order)), (a_P_places, .inl (g.2.1, 16, .inl v_P_places)), (a_P_rights, .inl (g.2.1, 16, .inl v_P_rights)), (a_P_weights, .inl (g.2.1, 16, .inl v_P_weights)), (a_P_entries, .inl (g.2.1, 256, .inl v_P_entries))] → va_S A s.heap H locs → lv_has ls 4 [(2, .int x2), (0, .ref a_P), (1, .int i_n)] → W p l e (headSpec (Cond.code yX2_begin cX2_begin 4 none :: cx_T) ({ frames := 1, cells := 0, slots := 0, locals := 22 } : Room)).room s m ([.ref a_P, .int i_n] : List Value).toArray below meth c H locs 0 0 (MQ below (va_Qv (fun (u : Int32 × (Nat → Int32) × (Nat → Int32) × (Nat → Int32) × (Nat → Int32) × (Nat → Int32)) => Q u.1 u.2.1 u.2.2.1 u.2.2.2.1 u.2.2.2.2.1 u.2.2.2.2.2) (cx_B g (w0_X2_begin g a_P a_P_entries a_P_order a_P_places a_P_rights a_P_weights P_rows P_order P_places P_rights P_weights P_entries) s.heap.size (w1_X2_begin g a_P a_P_entries a_P_order a_P_places a_P_rights a_P_weights P_rows P_order P_places P_rights P_weights P_entries)) (va_A (w0_X2_begin g a_P a_P_entries a_P_order a_P_places a_P_rights a_P_weights P_rows P_order P_places P_rights P_weights P_entries) s.heap.size)) ([.ref a_P, .int i_n] : List Value).toArray s 0 0 (va_A (w0_X2_begin g a_P a_P_entries a_P_order a_P_places a_P_rights a_P_weights P_rows P_order P_places P_rights P_weights P_entries) s.heap.size)) (F0 m 7 ls [])) := ⟨_, rfl⟩
  obtain ⟨G2, hG2⟩ : ∃ G : Int32 → Int32 → Int32 → (Nat → Int32) → (Nat → Int32) → (Nat → Int32) → (Nat → Int32) → (Nat → Int32) → Prop, G = (fun (x3 : Int32) (x2 : Int32) (v_P_rows : Int32) (v_P_order : (Nat → Int32)) (v_P_places : (Nat → Int32)) (v_P_rights : (Nat → Int32)) (v_P_weights : (Nat → Int32)) (v_P_entries : (Nat → Int32)) => ∀ (H : Heap) (locs : List Loc) (ls : Array Slot), va_P g.1 vwCl [(a_P, .inr (2, [.int v_P_rows, .ref a_P_entries, .ref a_P_order, .ref a_P_places, .ref a_P_rights, .ref a_P_weights])), (a_P_order, .inl (g.2.1, 16, .inl v_P_order)), (a_P_places, .inl (g.2.1, 16, .inl v_P_places)), (a_P_rights, .inl (g.2.1, 16, .inl v_P_rights)), (a_P_weights, .inl (g.2.1, 16, .inl v_P_weights)), (a_P_entries, .inl (g.2.1, 256, .inl v_P_entries))] H → va_D A [(a_P, .inr (2, [.int v_P_rows, .ref a_P_entries, .ref a_P_order, .ref a_P_places, .ref a_P_rights, .ref a_P_weights])), (a_P_order, .inl (g.2.1, 16, .inl v_P_order)), (a_P_places, .inl (g.2.1, 16, .inl v_P_places)), (a_P_rights, .inl (g.2.1, 16, .inl v_P_rights)), (a_P_weights, .inl (g.2.1, 16, .inl v_P_weights)), (a_P_entries, .inl (g.2.1, 256, .inl v_P_entries))] → va_S A s.heap H locs → lv_has ls 4 [(3, .int x3), (2, .int x2), (0, .ref a_P), (1, .int i_n)] → W p l e (headSpec (Cond.code yX2_begin cX2_begin 4 none :: cx_T) ({ frames := 1, cells := 0, slots := 0, locals := 22 } : Room)).room s m ([.ref a_P, .int i_n] : List Value).toArray below meth c H locs 0 0 (MQ below (va_Qv (fun (u : Int32 × (Nat → Int32) × (Nat → Int32) × (Nat → Int32) × (Nat → Int32) × (Nat → Int32)) => Q u.1 u.2.1 u.2.2.1 u.2.2.2.1 u.2.2.2.2.1 u.2.2.2.2.2) (cx_B g (w0_X2_begin g a_P a_P_entries a_P_order a_P_places a_P_rights a_P_weights P_rows P_order P_places P_rights P_weights P_entries) s.heap.size (w1_X2_begin g a_P a_P_entries a_P_order a_P_places a_P_rights a_P_weights P_rows P_order P_places P_rights P_weights P_entries)) (va_A (w0_X2_begin g a_P a_P_entries a_P_order a_P_places a_P_rights a_P_weights P_rows P_order P_places P_rights P_weights P_entries) s.heap.size)) ([.ref a_P, .int i_n] : List Value).toArray s 0 0 (va_A (w0_X2_begin g a_P a_P_entries a_P_order a_P_places a_P_rights a_P_weights P_rows P_order P_places P_rights P_weights P_entries) s.heap.size)) (F0 m 14 ls [])) := ⟨_, rfl⟩
  have hs1 : ∀ (x2 : Int32) (v_P_rows : Int32) (v_P_order : (Nat → Int32)) (v_P_places : (Nat → Int32)) (v_P_rights : (Nat → Int32)) (v_P_weights : (Nat → Int32)) (v_P_entries : (Nat → Int32)), vc_X2_begin_1 i_n P_rows P_order P_places P_rights P_weights P_entries Q G1 G2 x2 v_P_rows v_P_order v_P_places v_P_rights v_P_weights v_P_entries → G1 x2 v_P_rows v_P_order v_P_places v_P_rights v_P_weights v_P_entries := by
    rw [hG1, hG2]
    intro x2 v_P_rows v_P_order v_P_places v_P_rights v_P_weights v_P_entries hv H locs ls hP hD hS hl
    unfold vc_X2_begin_1 at hv
    refine lv_iload_n hx hb dX2_begin_7 rfl (lv_at hl 0 rfl) ?_
    refine lv_iload_n hx hb dX2_begin_8 rfl (lv_at hl 2 rfl) ?_
    refine lv_icmp_ge (tgt := 62) hx hb dX2_begin_9 (by decide) (fun hc => ?_) (fun hc => ?_)
    · replace hv := hv.1 hc
      exact cx_vret hx hb hr hlocks hAe hS (v_P_rows, v_P_order, v_P_places, v_P_rights, v_P_weights, v_P_entries) hv hP hD dX2_begin_62
    · replace hv := hv.2 hc
      refine lv_iconst (v := 0) hx hb dX2_begin_12 (by decide) ?_
      refine lv_istore_n (lv' := [(3, .int 0), (2, .int x2), (0, .ref a_P), (1, .int i_n)]) hx hb dX2_begin_13 rfl hl (by decide) rfl (fun ls hl => ?_)
      exact hv _ _ _ hP hD hS (lv_sub hl [0, 1, 2, 3] rfl)
  have hs2 : ∀ (x3 : Int32) (x2 : Int32) (v_P_rows : Int32) (v_P_order : (Nat → Int32)) (v_P_places : (Nat → Int32)) (v_P_rights : (Nat → Int32)) (v_P_weights : (Nat → Int32)) (v_P_entries : (Nat → Int32)), vc_X2_begin_2 i_n P_rows P_order P_places P_rights P_weights P_entries Q G1 G2 x3 x2 v_P_rows v_P_order v_P_places v_P_rights v_P_weights v_P_entries → G2 x3 x2 v_P_rows v_P_order v_P_places v_P_rights v_P_weights v_P_entries := by
    rw [hG1, hG2]
    intro x3 x2 v_P_rows v_P_order v_P_places v_P_rights v_P_weights v_P_entries hv H locs ls hP hD hS hl
    unfold vc_X2_begin_2 at hv
    refine lv_iload_n hx hb dX2_begin_14 rfl (lv_at hl 0 rfl) ?_
    refine lv_iload_n hx hb dX2_begin_15 rfl (lv_at hl 3 rfl) ?_
    refine lv_icmp_ge (tgt := 36) hx hb dX2_begin_16 (by decide) (fun hc => ?_) (fun hc => ?_)
    · replace hv := hv.1 hc
      refine lv_aload_n hx hb dX2_begin_36 rfl (lv_at hl 2 rfl) ?_
      refine lv_iload_n hx hb dX2_begin_37 rfl (lv_at hl 1 rfl) ?_
      refine lv_iload_n hx hb dX2_begin_38 rfl (lv_at hl 1 rfl) ?_
      refine cx_vV (wr := [(a_P_rights, .inl (g.2.1, 16, .inl v_P_rights)), (a_P_weights, .inl (g.2.1, 16, .inl v_P_weights)), (a_P_entries, .inl (g.2.1, 256, .inl v_P_entries))]) (As := [.int x2, .int x2]) (rest := []) ⟨hx, hb, hml, hown, hts⟩ (c_X2_place l g a_P a_P_entries a_P_order a_P_places a_P_rights a_P_weights x2 x2 v_P_rows v_P_order v_P_places hv) (cx_cwV 2 hts cw_m_X2_35 cw_i_X2_place cw_s_X2_place cw_n_X2 cw_c_X2_place rfl rfl (by decide +kernel) ⟨Nat.le_of_ble_eq_true rfl, Nat.le_of_ble_eq_true rfl⟩) hK hP hD hS hA 0 2 rfl rfl [0, 1, 2] [3, 4, 5] rfl rfl rfl rfl (by decide) rfl hl.1 rfl (Nat.le_of_ble_eq_true rfl) dX2_begin_39 ⟨Nat.le_of_ble_eq_true rfl, Nat.le_of_ble_eq_true rfl⟩ (fun w_4 H locs hv hP hD hS => ?_)
      obtain ⟨u_2, u_3⟩ := w_4
      have hP : va_P g.1 vwCl [(a_P, .inr (2, [.int v_P_rows, .ref a_P_entries, .ref a_P_order, .ref a_P_places, .ref a_P_rights, .ref a_P_weights])), (a_P_order, .inl (g.2.1, 16, .inl u_2)), (a_P_places, .inl (g.2.1, 16, .inl u_3)), (a_P_rights, .inl (g.2.1, 16, .inl v_P_rights)), (a_P_weights, .inl (g.2.1, 16, .inl v_P_weights)), (a_P_entries, .inl (g.2.1, 256, .inl v_P_entries))] H := hP.sub [3, 4, 5, 0, 1, 2] rfl
      have hD : va_D A [(a_P, .inr (2, [.int v_P_rows, .ref a_P_entries, .ref a_P_order, .ref a_P_places, .ref a_P_rights, .ref a_P_weights])), (a_P_order, .inl (g.2.1, 16, .inl u_2)), (a_P_places, .inl (g.2.1, 16, .inl u_3)), (a_P_rights, .inl (g.2.1, 16, .inl v_P_rights)), (a_P_weights, .inl (g.2.1, 16, .inl v_P_weights)), (a_P_entries, .inl (g.2.1, 256, .inl v_P_entries))] := hD.sub [3, 4, 5, 0, 1, 2] (by decide) rfl
      refine lv_aload_n hx hb dX2_begin_42 rfl (lv_at hl 2 rfl) ?_
      refine va_get (D := g.1) (ci := 2) (v := .ref a_P_rights) (C := RX2) (T := TX2) (N := 6) hx hb hts cw_in_X2 hown hK.1 hP 0 rfl rfl 4 (by decide) (hts _ cw_f_X2_25) (fun _ h9 => h9) rfl dX2_begin_43 ?_
      refine lv_iload_n hx hb dX2_begin_46 rfl (lv_at hl 1 rfl) ?_
      refine lv_iconst (v := 0) hx hb dX2_begin_47 (by decide) ?_
      obtain ⟨h_5, hv⟩ := hv
      refine va_iast (D := g.1) hx hb hK.1 hP hD hS 3 0 rfl rfl h_5 dX2_begin_48 (fun H locs hP hD hS => ?_)
      have hP : va_P g.1 vwCl [(a_P, .inr (2, [.int v_P_rows, .ref a_P_entries, .ref a_P_order, .ref a_P_places, .ref a_P_rights, .ref a_P_weights])), (a_P_order, .inl (g.2.1, 16, .inl u_2)), (a_P_places, .inl (g.2.1, 16, .inl u_3)), (a_P_rights, .inl (g.2.1, 16, .inl (upd v_P_rights (Int32.toNatClampNeg x2) 0))), (a_P_weights, .inl (g.2.1, 16, .inl v_P_weights)), (a_P_entries, .inl (g.2.1, 256, .inl v_P_entries))] H := hP
      have hD : va_D A [(a_P, .inr (2, [.int v_P_rows, .ref a_P_entries, .ref a_P_order, .ref a_P_places, .ref a_P_rights, .ref a_P_weights])), (a_P_order, .inl (g.2.1, 16, .inl u_2)), (a_P_places, .inl (g.2.1, 16, .inl u_3)), (a_P_rights, .inl (g.2.1, 16, .inl (upd v_P_rights (Int32.toNatClampNeg x2) 0))), (a_P_weights, .inl (g.2.1, 16, .inl v_P_weights)), (a_P_entries, .inl (g.2.1, 256, .inl v_P_entries))] := hD
      refine lv_aload_n hx hb dX2_begin_49 rfl (lv_at hl 2 rfl) ?_
      refine va_get (D := g.1) (ci := 2) (v := .ref a_P_weights) (C := RX2) (T := TX2) (N := 6) hx hb hts cw_in_X2 hown hK.1 hP 0 rfl rfl 5 (by decide) (hts _ cw_f_X2_28) (fun _ h9 => h9) rfl dX2_begin_50 ?_
      refine lv_iload_n hx hb dX2_begin_53 rfl (lv_at hl 1 rfl) ?_
      refine lv_iconst (v := 0) hx hb dX2_begin_54 (by decide) ?_
      obtain ⟨h_6, hv⟩ := hv
      refine va_iast (D := g.1) hx hb hK.1 hP hD hS 4 0 rfl rfl h_6 dX2_begin_55 (fun H locs hP hD hS => ?_)
      have hP : va_P g.1 vwCl [(a_P, .inr (2, [.int v_P_rows, .ref a_P_entries, .ref a_P_order, .ref a_P_places, .ref a_P_rights, .ref a_P_weights])), (a_P_order, .inl (g.2.1, 16, .inl u_2)), (a_P_places, .inl (g.2.1, 16, .inl u_3)), (a_P_rights, .inl (g.2.1, 16, .inl (upd v_P_rights (Int32.toNatClampNeg x2) 0))), (a_P_weights, .inl (g.2.1, 16, .inl (upd v_P_weights (Int32.toNatClampNeg x2) 0))), (a_P_entries, .inl (g.2.1, 256, .inl v_P_entries))] H := hP
      have hD : va_D A [(a_P, .inr (2, [.int v_P_rows, .ref a_P_entries, .ref a_P_order, .ref a_P_places, .ref a_P_rights, .ref a_P_weights])), (a_P_order, .inl (g.2.1, 16, .inl u_2)), (a_P_places, .inl (g.2.1, 16, .inl u_3)), (a_P_rights, .inl (g.2.1, 16, .inl (upd v_P_rights (Int32.toNatClampNeg x2) 0))), (a_P_weights, .inl (g.2.1, 16, .inl (upd v_P_weights (Int32.toNatClampNeg x2) 0))), (a_P_entries, .inl (g.2.1, 256, .inl v_P_entries))] := hD
      obtain ⟨x2_7, ex2_7⟩ : ∃ y : Int32, y = x2 + 1 := ⟨_, rfl⟩
      replace hv := hv x2_7 ex2_7
      refine lv_iinc (v := x2_7) (lv' := [(2, .int x2_7), (3, .int x3), (0, .ref a_P), (1, .int i_n)]) hx hb dX2_begin_56 hl (k := 1) rfl (by rw [ex2_7]; rfl) (by decide) rfl (fun ls hl => ?_)
      refine lv_goto (tgt := 7) hx hb dX2_begin_59 (by decide) ?_
      exact hv _ _ _ hP hD hS (lv_sub hl [0, 2, 3] rfl)
    · replace hv := hv.2 hc
      refine lv_aload_n hx hb dX2_begin_19 rfl (lv_at hl 2 rfl) ?_
      refine va_get (D := g.1) (ci := 2) (v := .ref a_P_entries) (C := RX2) (T := TX2) (N := 6) hx hb hts cw_in_X2 hown hK.1 hP 0 rfl rfl 1 (by decide) (hts _ cw_f_X2_15) (fun _ h9 => h9) rfl dX2_begin_20 ?_
      refine lv_iload_n hx hb dX2_begin_23 rfl (lv_at hl 1 rfl) ?_
      refine lv_iload_n hx hb dX2_begin_24 rfl (lv_at hl 0 rfl) ?_
      refine cx_iNr (As := [.int x2, .int x3]) (rest := [.ref a_P_entries]) ⟨hx, hb, hml, hown, hts⟩ (cp_X4_cell l g x2 x3) (cx_cwN 2 hts (hK.2.at 0 rfl) cw_t_X4_cell cw_n_X4 cw_c_X4_cell rfl rfl (by decide +kernel) ⟨Nat.le_of_ble_eq_true rfl, Nat.le_of_ble_eq_true rfl⟩) hK hP hD hS hA [] rfl rfl rfl hl.1 rfl (Nat.le_of_ble_eq_true rfl) dX2_begin_25 ⟨Nat.le_of_ble_eq_true rfl, Nat.le_of_ble_eq_true rfl⟩ (fun r_8 H locs hr9 hP hS => ?_)
      replace hr9 : r_8 = (f_cell x2 x3) := hr9
      subst hr9
      refine lv_iconst (v := 0) hx hb dX2_begin_28 (by decide) ?_
      obtain ⟨h_9, hv⟩ := hv
      refine va_iast (D := g.1) hx hb hK.1 hP hD hS 5 0 rfl rfl h_9 dX2_begin_29 (fun H locs hP hD hS => ?_)
      have hP : va_P g.1 vwCl [(a_P, .inr (2, [.int v_P_rows, .ref a_P_entries, .ref a_P_order, .ref a_P_places, .ref a_P_rights, .ref a_P_weights])), (a_P_order, .inl (g.2.1, 16, .inl v_P_order)), (a_P_places, .inl (g.2.1, 16, .inl v_P_places)), (a_P_rights, .inl (g.2.1, 16, .inl v_P_rights)), (a_P_weights, .inl (g.2.1, 16, .inl v_P_weights)), (a_P_entries, .inl (g.2.1, 256, .inl (upd v_P_entries (Int32.toNatClampNeg (f_cell x2 x3)) 0)))] H := hP
      have hD : va_D A [(a_P, .inr (2, [.int v_P_rows, .ref a_P_entries, .ref a_P_order, .ref a_P_places, .ref a_P_rights, .ref a_P_weights])), (a_P_order, .inl (g.2.1, 16, .inl v_P_order)), (a_P_places, .inl (g.2.1, 16, .inl v_P_places)), (a_P_rights, .inl (g.2.1, 16, .inl v_P_rights)), (a_P_weights, .inl (g.2.1, 16, .inl v_P_weights)), (a_P_entries, .inl (g.2.1, 256, .inl (upd v_P_entries (Int32.toNatClampNeg (f_cell x2 x3)) 0)))] := hD
      obtain ⟨x3_10, ex3_10⟩ : ∃ y : Int32, y = x3 + 1 := ⟨_, rfl⟩
      replace hv := hv x3_10 ex3_10
      refine lv_iinc (v := x3_10) (lv' := [(3, .int x3_10), (2, .int x2), (0, .ref a_P), (1, .int i_n)]) hx hb dX2_begin_30 hl (k := 0) rfl (by rw [ex3_10]; rfl) (by decide) rfl (fun ls hl => ?_)
      refine lv_goto (tgt := 14) hx hb dX2_begin_33 (by decide) ?_
      exact hv _ _ _ hP hD hS (lv_sub hl [0, 1, 2, 3] rfl)
  replace hv := hv G1 G2 hs1 hs2
  rw [hG1, hG2] at hv
  unfold vc_X2_begin_0 at hv
  refine lv_aload_n hx hb dX2_begin_0 rfl (lv_at hl 0 rfl) ?_
  refine lv_iload_n hx hb dX2_begin_1 rfl (lv_at hl 1 rfl) ?_
  refine va_put (D := g.1) (ci := 2) (v := .int i_n) (ty := .int) (C := RX2) (T := TX2) (N := 6) hx hb hts cw_in_X2 tyX2 tyX2_ok nmX2 hown hK.1 hP hD hS 0 rfl rfl 0 (by decide) (hts _ cw_f_X2_9) (fun _ h9 => h9) rfl (by decide +kernel) rfl rfl (Nat.le_of_ble_eq_true rfl) dX2_begin_2 (fun H locs hP hD hS => ?_)
  have hP : va_P g.1 vwCl [(a_P, .inr (2, [.int i_n, .ref a_P_entries, .ref a_P_order, .ref a_P_places, .ref a_P_rights, .ref a_P_weights])), (a_P_order, .inl (g.2.1, 16, .inl P_order)), (a_P_places, .inl (g.2.1, 16, .inl P_places)), (a_P_rights, .inl (g.2.1, 16, .inl P_rights)), (a_P_weights, .inl (g.2.1, 16, .inl P_weights)), (a_P_entries, .inl (g.2.1, 256, .inl P_entries))] H := hP
  have hD : va_D A [(a_P, .inr (2, [.int i_n, .ref a_P_entries, .ref a_P_order, .ref a_P_places, .ref a_P_rights, .ref a_P_weights])), (a_P_order, .inl (g.2.1, 16, .inl P_order)), (a_P_places, .inl (g.2.1, 16, .inl P_places)), (a_P_rights, .inl (g.2.1, 16, .inl P_rights)), (a_P_weights, .inl (g.2.1, 16, .inl P_weights)), (a_P_entries, .inl (g.2.1, 256, .inl P_entries))] := hD
  refine lv_iconst (v := 0) hx hb dX2_begin_5 (by decide) ?_
  refine lv_istore_n (lv' := [(2, .int 0), (0, .ref a_P), (1, .int i_n)]) hx hb dX2_begin_6 rfl hl (by decide) rfl (fun ls hl => ?_)
  exact hv _ _ _ hP hD hS (lv_sub hl [0, 1, 2] rfl)
def wp_X2_copyFrom (P2_rows : Int32) (P_rows : Int32) (P2_entries : (Nat → Int32)) (P_entries : (Nat → Int32)) (P2_order : (Nat → Int32)) (P_order : (Nat → Int32)) (P2_places : (Nat → Int32)) (P_places : (Nat → Int32)) (P2_rights : (Nat → Int32)) (P_rights : (Nat → Int32)) (P2_weights : (Nat → Int32)) (P_weights : (Nat → Int32)) (Q : Int32 → (Nat → Int32) → (Nat → Int32) → (Nat → Int32) → (Nat → Int32) → (Nat → Int32) → Prop)   : Prop := Q P2_rows (va_cpy P2_entries P_entries (Int32.toNatClampNeg 0) (Int32.toNatClampNeg 0) (Int32.toNatClampNeg 256)) (va_cpy P2_order P_order (Int32.toNatClampNeg 0) (Int32.toNatClampNeg 0) (Int32.toNatClampNeg 16)) (va_cpy P2_places P_places (Int32.toNatClampNeg 0) (Int32.toNatClampNeg 0) (Int32.toNatClampNeg 16)) (va_cpy P2_rights P_rights (Int32.toNatClampNeg 0) (Int32.toNatClampNeg 0) (Int32.toNatClampNeg 16)) (va_cpy P2_weights P_weights (Int32.toNatClampNeg 0) (Int32.toNatClampNeg 0) (Int32.toNatClampNeg 16))
abbrev w0_X2_copyFrom (g : cx_G) (a_P a_P2 a_P2_entries a_P2_order a_P2_places a_P2_rights a_P2_weights a_P_entries a_P_order a_P_places a_P_rights a_P_weights : Nat) (P2_rows : Int32) (P_rows : Int32) (P2_entries : (Nat → Int32)) (P_entries : (Nat → Int32)) (P2_order : (Nat → Int32)) (P_order : (Nat → Int32)) (P2_places : (Nat → Int32)) (P_places : (Nat → Int32)) (P2_rights : (Nat → Int32)) (P_rights : (Nat → Int32)) (P2_weights : (Nat → Int32)) (P_weights : (Nat → Int32)) : va_W := [(a_P2, .inr (2, [.int P2_rows, .ref a_P2_entries, .ref a_P2_order, .ref a_P2_places, .ref a_P2_rights, .ref a_P2_weights])), (a_P, .inr (2, [.int P_rows, .ref a_P_entries, .ref a_P_order, .ref a_P_places, .ref a_P_rights, .ref a_P_weights])), (a_P2_entries, .inl (g.2.1, 256, .inl P2_entries)), (a_P_entries, .inl (g.2.1, 256, .inl P_entries)), (a_P2_order, .inl (g.2.1, 16, .inl P2_order)), (a_P_order, .inl (g.2.1, 16, .inl P_order)), (a_P2_places, .inl (g.2.1, 16, .inl P2_places)), (a_P_places, .inl (g.2.1, 16, .inl P_places)), (a_P2_rights, .inl (g.2.1, 16, .inl P2_rights)), (a_P_rights, .inl (g.2.1, 16, .inl P_rights)), (a_P2_weights, .inl (g.2.1, 16, .inl P2_weights)), (a_P_weights, .inl (g.2.1, 16, .inl P_weights))]
abbrev w1_X2_copyFrom (g : cx_G) (a_P a_P2 a_P2_entries a_P2_order a_P2_places a_P2_rights a_P2_weights a_P_entries a_P_order a_P_places a_P_rights a_P_weights : Nat) (P2_rows : Int32) (P_rows : Int32) (P2_entries : (Nat → Int32)) (P_entries : (Nat → Int32)) (P2_order : (Nat → Int32)) (P_order : (Nat → Int32)) (P2_places : (Nat → Int32)) (P_places : (Nat → Int32)) (P2_rights : (Nat → Int32)) (P_rights : (Nat → Int32)) (P2_weights : (Nat → Int32)) (P_weights : (Nat → Int32)) (u : Int32 × (Nat → Int32) × (Nat → Int32) × (Nat → Int32) × (Nat → Int32) × (Nat → Int32)) : va_W := [(a_P2, .inr (2, [.int P2_rows, .ref a_P2_entries, .ref a_P2_order, .ref a_P2_places, .ref a_P2_rights, .ref a_P2_weights])), (a_P, .inr (2, [.int u.1, .ref a_P_entries, .ref a_P_order, .ref a_P_places, .ref a_P_rights, .ref a_P_weights])), (a_P2_entries, .inl (g.2.1, 256, .inl P2_entries)), (a_P_entries, .inl (g.2.1, 256, .inl u.2.1)), (a_P2_order, .inl (g.2.1, 16, .inl P2_order)), (a_P_order, .inl (g.2.1, 16, .inl u.2.2.1)), (a_P2_places, .inl (g.2.1, 16, .inl P2_places)), (a_P_places, .inl (g.2.1, 16, .inl u.2.2.2.1)), (a_P2_rights, .inl (g.2.1, 16, .inl P2_rights)), (a_P_rights, .inl (g.2.1, 16, .inl u.2.2.2.2.1)), (a_P2_weights, .inl (g.2.1, 16, .inl P2_weights)), (a_P_weights, .inl (g.2.1, 16, .inl u.2.2.2.2.2))]
set_option maxHeartbeats 4000000 in
set_option maxRecDepth 100000 in
theorem c_X2_copyFrom (l : Launch) (g : cx_G) (a_P a_P2 a_P2_entries a_P2_order a_P2_places a_P2_rights a_P2_weights a_P_entries a_P_order a_P_places a_P_rights a_P_weights : Nat) (P2_rows : Int32) (P_rows : Int32) (P2_entries : (Nat → Int32)) (P_entries : (Nat → Int32)) (P2_order : (Nat → Int32)) (P_order : (Nat → Int32)) (P2_places : (Nat → Int32)) (P_places : (Nat → Int32)) (P2_rights : (Nat → Int32)) (P_rights : (Nat → Int32)) (P2_weights : (Nat → Int32)) (P_weights : (Nat → Int32)) {Q : Int32 → (Nat → Int32) → (Nat → Int32) → (Nat → Int32) → (Nat → Int32) → (Nat → Int32) → Prop} (hv : wp_X2_copyFrom P2_rows P_rows P2_entries P_entries P2_order P_order P2_places P_places P2_rights P_rights P2_weights P_weights Q) : cx_Mv l g yX2_copyFrom (Cond.code yX2_copyFrom cX2_copyFrom 2 none :: cx_T) ({ frames := 1, cells := 0, slots := 0, locals := 60 } : Room) [.ref a_P, .ref a_P2] (w0_X2_copyFrom g a_P a_P2 a_P2_entries a_P2_order a_P2_places a_P2_rights a_P2_weights a_P_entries a_P_order a_P_places a_P_rights a_P_weights P2_rows P_rows P2_entries P_entries P2_order P_order P2_places P_places P2_rights P_rights P2_weights P_weights) (fun (u : Int32 × (Nat → Int32) × (Nat → Int32) × (Nat → Int32) × (Nat → Int32) × (Nat → Int32)) => Q u.1 u.2.1 u.2.2.1 u.2.2.2.1 u.2.2.2.2.1 u.2.2.2.2.2) (w1_X2_copyFrom g a_P a_P2 a_P2_entries a_P2_order a_P2_places a_P2_rights a_P2_weights a_P_entries a_P_order a_P_places a_P_rights a_P_weights P2_rows P_rows P2_entries P_entries P2_order P_order P2_places P_places P2_rights P_rights P2_weights P_weights) 0 0 := by
  intro sz
  refine Met.ofW (cc := cX2_copyFrom) (maxL := 2) (ret := none) (by decide) rfl ?_
  intro p e s m args below meth c s₁ B hml hpre
  obtain ⟨rfl, hsz, hP, hK, hD0⟩ := hpre
  have hx := B.exec
  have hb := B.bytes
  have hr := B.returns
  have hts0 := atoms_spec (ws := (Cond.code yX2_copyFrom cX2_copyFrom 2 none :: cx_T)) B.pre
  have hts : ∀ w ∈ cx_T, w.before _ s = true := fun w h => hts0 w (List.mem_cons_of_mem _ h)
  have hown : s.vm.findClass RX2 = some m.cls := findClass_of_methodNamed B.named
  have hlocks := B.notSynchronized
  subst hsz
  have hD := hD0.self (sz := s.heap.size)
  obtain ⟨A, hAe⟩ : ∃ A : Nat → Prop, A = va_A (w0_X2_copyFrom g a_P a_P2 a_P2_entries a_P2_order a_P2_places a_P2_rights a_P2_weights a_P_entries a_P_order a_P_places a_P_rights a_P_weights P2_rows P_rows P2_entries P_entries P2_order P_order P2_places P_places P2_rights P_rights P2_weights P_weights) s.heap.size := ⟨_, rfl⟩
  rw [← hAe] at hD
  have hA : ∀ q : Nat, s.heap.size ≤ q → A q := fun q h => by rw [hAe]; exact Or.inr h
  have hS : va_S A s.heap s.heap [] := va_S.rf
  have hP : va_P g.1 vwCl [(a_P2, .inr (2, [.int P2_rows, .ref a_P2_entries, .ref a_P2_order, .ref a_P2_places, .ref a_P2_rights, .ref a_P2_weights])), (a_P, .inr (2, [.int P_rows, .ref a_P_entries, .ref a_P_order, .ref a_P_places, .ref a_P_rights, .ref a_P_weights])), (a_P2_entries, .inl (g.2.1, 256, .inl P2_entries)), (a_P_entries, .inl (g.2.1, 256, .inl P_entries)), (a_P2_order, .inl (g.2.1, 16, .inl P2_order)), (a_P_order, .inl (g.2.1, 16, .inl P_order)), (a_P2_places, .inl (g.2.1, 16, .inl P2_places)), (a_P_places, .inl (g.2.1, 16, .inl P_places)), (a_P2_rights, .inl (g.2.1, 16, .inl P2_rights)), (a_P_rights, .inl (g.2.1, 16, .inl P_rights)), (a_P2_weights, .inl (g.2.1, 16, .inl P2_weights)), (a_P_weights, .inl (g.2.1, 16, .inl P_weights))] s.heap := hP
  have hD : va_D A [(a_P2, .inr (2, [.int P2_rows, .ref a_P2_entries, .ref a_P2_order, .ref a_P2_places, .ref a_P2_rights, .ref a_P2_weights])), (a_P, .inr (2, [.int P_rows, .ref a_P_entries, .ref a_P_order, .ref a_P_places, .ref a_P_rights, .ref a_P_weights])), (a_P2_entries, .inl (g.2.1, 256, .inl P2_entries)), (a_P_entries, .inl (g.2.1, 256, .inl P_entries)), (a_P2_order, .inl (g.2.1, 16, .inl P2_order)), (a_P_order, .inl (g.2.1, 16, .inl P_order)), (a_P2_places, .inl (g.2.1, 16, .inl P2_places)), (a_P_places, .inl (g.2.1, 16, .inl P_places)), (a_P2_rights, .inl (g.2.1, 16, .inl P2_rights)), (a_P_rights, .inl (g.2.1, 16, .inl P_rights)), (a_P2_weights, .inl (g.2.1, 16, .inl P2_weights)), (a_P_weights, .inl (g.2.1, 16, .inl P_weights))] := hD
  have hl := lv_entry ([.ref a_P, .ref a_P2]) (n := 2) (Nat.le_of_ble_eq_true rfl)
  rw [lg_entry_eq]
  generalize (lg_sl ([.ref a_P, .ref a_P2]) ++ List.replicate (2 - (lg_sl ([.ref a_P, .ref a_P2])).length) Slot.unset).toArray = ls at hl ⊢
  have hl : lv_has ls 2 [(0, .ref a_P), (1, .ref a_P2)] := hl
  unfold wp_X2_copyFrom at hv
  refine lv_aload_n hx hb dX2_copyFrom_0 rfl (lv_at hl 0 rfl) ?_
  refine lv_aload_n hx hb dX2_copyFrom_1 rfl (lv_at hl 1 rfl) ?_
  refine va_get (D := g.1) (ci := 2) (v := .int P2_rows) (C := RX2) (T := TX2) (N := 6) hx hb hts cw_in_X2 hown hK.1 hP 0 rfl rfl 0 (by decide) (hts _ cw_f_X2_9) (fun _ h9 => h9) rfl dX2_copyFrom_2 ?_
  refine va_put (D := g.1) (ci := 2) (v := .int P2_rows) (ty := .int) (C := RX2) (T := TX2) (N := 6) hx hb hts cw_in_X2 tyX2 tyX2_ok nmX2 hown hK.1 hP hD hS 1 rfl rfl 0 (by decide) (hts _ cw_f_X2_9) (fun _ h9 => h9) rfl (by decide +kernel) rfl rfl (Nat.le_of_ble_eq_true rfl) dX2_copyFrom_5 (fun H locs hP hD hS => ?_)
  have hP : va_P g.1 vwCl [(a_P2, .inr (2, [.int P2_rows, .ref a_P2_entries, .ref a_P2_order, .ref a_P2_places, .ref a_P2_rights, .ref a_P2_weights])), (a_P, .inr (2, [.int P2_rows, .ref a_P_entries, .ref a_P_order, .ref a_P_places, .ref a_P_rights, .ref a_P_weights])), (a_P2_entries, .inl (g.2.1, 256, .inl P2_entries)), (a_P_entries, .inl (g.2.1, 256, .inl P_entries)), (a_P2_order, .inl (g.2.1, 16, .inl P2_order)), (a_P_order, .inl (g.2.1, 16, .inl P_order)), (a_P2_places, .inl (g.2.1, 16, .inl P2_places)), (a_P_places, .inl (g.2.1, 16, .inl P_places)), (a_P2_rights, .inl (g.2.1, 16, .inl P2_rights)), (a_P_rights, .inl (g.2.1, 16, .inl P_rights)), (a_P2_weights, .inl (g.2.1, 16, .inl P2_weights)), (a_P_weights, .inl (g.2.1, 16, .inl P_weights))] H := hP
  have hD : va_D A [(a_P2, .inr (2, [.int P2_rows, .ref a_P2_entries, .ref a_P2_order, .ref a_P2_places, .ref a_P2_rights, .ref a_P2_weights])), (a_P, .inr (2, [.int P2_rows, .ref a_P_entries, .ref a_P_order, .ref a_P_places, .ref a_P_rights, .ref a_P_weights])), (a_P2_entries, .inl (g.2.1, 256, .inl P2_entries)), (a_P_entries, .inl (g.2.1, 256, .inl P_entries)), (a_P2_order, .inl (g.2.1, 16, .inl P2_order)), (a_P_order, .inl (g.2.1, 16, .inl P_order)), (a_P2_places, .inl (g.2.1, 16, .inl P2_places)), (a_P_places, .inl (g.2.1, 16, .inl P_places)), (a_P2_rights, .inl (g.2.1, 16, .inl P2_rights)), (a_P_rights, .inl (g.2.1, 16, .inl P_rights)), (a_P2_weights, .inl (g.2.1, 16, .inl P2_weights)), (a_P_weights, .inl (g.2.1, 16, .inl P_weights))] := hD
  refine lv_aload_n hx hb dX2_copyFrom_8 rfl (lv_at hl 1 rfl) ?_
  refine va_get (D := g.1) (ci := 2) (v := .ref a_P2_entries) (C := RX2) (T := TX2) (N := 6) hx hb hts cw_in_X2 hown hK.1 hP 0 rfl rfl 1 (by decide) (hts _ cw_f_X2_15) (fun _ h9 => h9) rfl dX2_copyFrom_9 ?_
  refine lv_iconst (v := 0) hx hb dX2_copyFrom_12 (by decide) ?_
  refine lv_aload_n hx hb dX2_copyFrom_13 rfl (lv_at hl 0 rfl) ?_
  refine va_get (D := g.1) (ci := 2) (v := .ref a_P_entries) (C := RX2) (T := TX2) (N := 6) hx hb hts cw_in_X2 hown hK.1 hP 1 rfl rfl 1 (by decide) (hts _ cw_f_X2_15) (fun _ h9 => h9) rfl dX2_copyFrom_14 ?_
  refine lv_iconst (v := 0) hx hb dX2_copyFrom_17 (by decide) ?_
  refine lv_sipush (v := 256) hx hb dX2_copyFrom_18 (by decide) ?_
  refine va_copyi (D := g.1) (ty := .int) hx hb (hml.trans hl.1.symm) hown (hts _ cw_m_X2_39) (hts _ cw_v_arraycopy) (hts _ cw_t_arraycopy) (hts _ cw_n_System) hK.1 hP hD hS 2 3 0 0 rfl rfl rfl rfl rfl (by decide) (by decide) (by decide) (by decide +kernel) (by decide +kernel) (fun _ _ => rfl) (Nat.le_of_ble_eq_true rfl) (Nat.le_of_ble_eq_true rfl) dX2_copyFrom_21 (fun H locs hP hD hS => ?_)
  have hP : va_P g.1 vwCl [(a_P2, .inr (2, [.int P2_rows, .ref a_P2_entries, .ref a_P2_order, .ref a_P2_places, .ref a_P2_rights, .ref a_P2_weights])), (a_P, .inr (2, [.int P2_rows, .ref a_P_entries, .ref a_P_order, .ref a_P_places, .ref a_P_rights, .ref a_P_weights])), (a_P2_entries, .inl (g.2.1, 256, .inl P2_entries)), (a_P_entries, .inl (g.2.1, 256, .inl (va_cpy P2_entries P_entries (Int32.toNatClampNeg 0) (Int32.toNatClampNeg 0) (Int32.toNatClampNeg 256)))), (a_P2_order, .inl (g.2.1, 16, .inl P2_order)), (a_P_order, .inl (g.2.1, 16, .inl P_order)), (a_P2_places, .inl (g.2.1, 16, .inl P2_places)), (a_P_places, .inl (g.2.1, 16, .inl P_places)), (a_P2_rights, .inl (g.2.1, 16, .inl P2_rights)), (a_P_rights, .inl (g.2.1, 16, .inl P_rights)), (a_P2_weights, .inl (g.2.1, 16, .inl P2_weights)), (a_P_weights, .inl (g.2.1, 16, .inl P_weights))] H := hP
  have hD : va_D A [(a_P2, .inr (2, [.int P2_rows, .ref a_P2_entries, .ref a_P2_order, .ref a_P2_places, .ref a_P2_rights, .ref a_P2_weights])), (a_P, .inr (2, [.int P2_rows, .ref a_P_entries, .ref a_P_order, .ref a_P_places, .ref a_P_rights, .ref a_P_weights])), (a_P2_entries, .inl (g.2.1, 256, .inl P2_entries)), (a_P_entries, .inl (g.2.1, 256, .inl (va_cpy P2_entries P_entries (Int32.toNatClampNeg 0) (Int32.toNatClampNeg 0) (Int32.toNatClampNeg 256)))), (a_P2_order, .inl (g.2.1, 16, .inl P2_order)), (a_P_order, .inl (g.2.1, 16, .inl P_order)), (a_P2_places, .inl (g.2.1, 16, .inl P2_places)), (a_P_places, .inl (g.2.1, 16, .inl P_places)), (a_P2_rights, .inl (g.2.1, 16, .inl P2_rights)), (a_P_rights, .inl (g.2.1, 16, .inl P_rights)), (a_P2_weights, .inl (g.2.1, 16, .inl P2_weights)), (a_P_weights, .inl (g.2.1, 16, .inl P_weights))] := hD
  refine lv_aload_n hx hb dX2_copyFrom_24 rfl (lv_at hl 1 rfl) ?_
  refine va_get (D := g.1) (ci := 2) (v := .ref a_P2_order) (C := RX2) (T := TX2) (N := 6) hx hb hts cw_in_X2 hown hK.1 hP 0 rfl rfl 2 (by decide) (hts _ cw_f_X2_19) (fun _ h9 => h9) rfl dX2_copyFrom_25 ?_
  refine lv_iconst (v := 0) hx hb dX2_copyFrom_28 (by decide) ?_
  refine lv_aload_n hx hb dX2_copyFrom_29 rfl (lv_at hl 0 rfl) ?_
  refine va_get (D := g.1) (ci := 2) (v := .ref a_P_order) (C := RX2) (T := TX2) (N := 6) hx hb hts cw_in_X2 hown hK.1 hP 1 rfl rfl 2 (by decide) (hts _ cw_f_X2_19) (fun _ h9 => h9) rfl dX2_copyFrom_30 ?_
  refine lv_iconst (v := 0) hx hb dX2_copyFrom_33 (by decide) ?_
  refine lv_bipush (v := 16) hx hb dX2_copyFrom_34 (by decide) ?_
  refine va_copyi (D := g.1) (ty := .int) hx hb (hml.trans hl.1.symm) hown (hts _ cw_m_X2_39) (hts _ cw_v_arraycopy) (hts _ cw_t_arraycopy) (hts _ cw_n_System) hK.1 hP hD hS 4 5 0 0 rfl rfl rfl rfl rfl (by decide) (by decide) (by decide) (by decide +kernel) (by decide +kernel) (fun _ _ => rfl) (Nat.le_of_ble_eq_true rfl) (Nat.le_of_ble_eq_true rfl) dX2_copyFrom_36 (fun H locs hP hD hS => ?_)
  have hP : va_P g.1 vwCl [(a_P2, .inr (2, [.int P2_rows, .ref a_P2_entries, .ref a_P2_order, .ref a_P2_places, .ref a_P2_rights, .ref a_P2_weights])), (a_P, .inr (2, [.int P2_rows, .ref a_P_entries, .ref a_P_order, .ref a_P_places, .ref a_P_rights, .ref a_P_weights])), (a_P2_entries, .inl (g.2.1, 256, .inl P2_entries)), (a_P_entries, .inl (g.2.1, 256, .inl (va_cpy P2_entries P_entries (Int32.toNatClampNeg 0) (Int32.toNatClampNeg 0) (Int32.toNatClampNeg 256)))), (a_P2_order, .inl (g.2.1, 16, .inl P2_order)), (a_P_order, .inl (g.2.1, 16, .inl (va_cpy P2_order P_order (Int32.toNatClampNeg 0) (Int32.toNatClampNeg 0) (Int32.toNatClampNeg 16)))), (a_P2_places, .inl (g.2.1, 16, .inl P2_places)), (a_P_places, .inl (g.2.1, 16, .inl P_places)), (a_P2_rights, .inl (g.2.1, 16, .inl P2_rights)), (a_P_rights, .inl (g.2.1, 16, .inl P_rights)), (a_P2_weights, .inl (g.2.1, 16, .inl P2_weights)), (a_P_weights, .inl (g.2.1, 16, .inl P_weights))] H := hP
  have hD : va_D A [(a_P2, .inr (2, [.int P2_rows, .ref a_P2_entries, .ref a_P2_order, .ref a_P2_places, .ref a_P2_rights, .ref a_P2_weights])), (a_P, .inr (2, [.int P2_rows, .ref a_P_entries, .ref a_P_order, .ref a_P_places, .ref a_P_rights, .ref a_P_weights])), (a_P2_entries, .inl (g.2.1, 256, .inl P2_entries)), (a_P_entries, .inl (g.2.1, 256, .inl (va_cpy P2_entries P_entries (Int32.toNatClampNeg 0) (Int32.toNatClampNeg 0) (Int32.toNatClampNeg 256)))), (a_P2_order, .inl (g.2.1, 16, .inl P2_order)), (a_P_order, .inl (g.2.1, 16, .inl (va_cpy P2_order P_order (Int32.toNatClampNeg 0) (Int32.toNatClampNeg 0) (Int32.toNatClampNeg 16)))), (a_P2_places, .inl (g.2.1, 16, .inl P2_places)), (a_P_places, .inl (g.2.1, 16, .inl P_places)), (a_P2_rights, .inl (g.2.1, 16, .inl P2_rights)), (a_P_rights, .inl (g.2.1, 16, .inl P_rights)), (a_P2_weights, .inl (g.2.1, 16, .inl P2_weights)), (a_P_weights, .inl (g.2.1, 16, .inl P_weights))] := hD
  refine lv_aload_n hx hb dX2_copyFrom_39 rfl (lv_at hl 1 rfl) ?_
  refine va_get (D := g.1) (ci := 2) (v := .ref a_P2_places) (C := RX2) (T := TX2) (N := 6) hx hb hts cw_in_X2 hown hK.1 hP 0 rfl rfl 3 (by decide) (hts _ cw_f_X2_22) (fun _ h9 => h9) rfl dX2_copyFrom_40 ?_
  refine lv_iconst (v := 0) hx hb dX2_copyFrom_43 (by decide) ?_
  refine lv_aload_n hx hb dX2_copyFrom_44 rfl (lv_at hl 0 rfl) ?_
  refine va_get (D := g.1) (ci := 2) (v := .ref a_P_places) (C := RX2) (T := TX2) (N := 6) hx hb hts cw_in_X2 hown hK.1 hP 1 rfl rfl 3 (by decide) (hts _ cw_f_X2_22) (fun _ h9 => h9) rfl dX2_copyFrom_45 ?_
  refine lv_iconst (v := 0) hx hb dX2_copyFrom_48 (by decide) ?_
  refine lv_bipush (v := 16) hx hb dX2_copyFrom_49 (by decide) ?_
  refine va_copyi (D := g.1) (ty := .int) hx hb (hml.trans hl.1.symm) hown (hts _ cw_m_X2_39) (hts _ cw_v_arraycopy) (hts _ cw_t_arraycopy) (hts _ cw_n_System) hK.1 hP hD hS 6 7 0 0 rfl rfl rfl rfl rfl (by decide) (by decide) (by decide) (by decide +kernel) (by decide +kernel) (fun _ _ => rfl) (Nat.le_of_ble_eq_true rfl) (Nat.le_of_ble_eq_true rfl) dX2_copyFrom_51 (fun H locs hP hD hS => ?_)
  have hP : va_P g.1 vwCl [(a_P2, .inr (2, [.int P2_rows, .ref a_P2_entries, .ref a_P2_order, .ref a_P2_places, .ref a_P2_rights, .ref a_P2_weights])), (a_P, .inr (2, [.int P2_rows, .ref a_P_entries, .ref a_P_order, .ref a_P_places, .ref a_P_rights, .ref a_P_weights])), (a_P2_entries, .inl (g.2.1, 256, .inl P2_entries)), (a_P_entries, .inl (g.2.1, 256, .inl (va_cpy P2_entries P_entries (Int32.toNatClampNeg 0) (Int32.toNatClampNeg 0) (Int32.toNatClampNeg 256)))), (a_P2_order, .inl (g.2.1, 16, .inl P2_order)), (a_P_order, .inl (g.2.1, 16, .inl (va_cpy P2_order P_order (Int32.toNatClampNeg 0) (Int32.toNatClampNeg 0) (Int32.toNatClampNeg 16)))), (a_P2_places, .inl (g.2.1, 16, .inl P2_places)), (a_P_places, .inl (g.2.1, 16, .inl (va_cpy P2_places P_places (Int32.toNatClampNeg 0) (Int32.toNatClampNeg 0) (Int32.toNatClampNeg 16)))), (a_P2_rights, .inl (g.2.1, 16, .inl P2_rights)), (a_P_rights, .inl (g.2.1, 16, .inl P_rights)), (a_P2_weights, .inl (g.2.1, 16, .inl P2_weights)), (a_P_weights, .inl (g.2.1, 16, .inl P_weights))] H := hP
  have hD : va_D A [(a_P2, .inr (2, [.int P2_rows, .ref a_P2_entries, .ref a_P2_order, .ref a_P2_places, .ref a_P2_rights, .ref a_P2_weights])), (a_P, .inr (2, [.int P2_rows, .ref a_P_entries, .ref a_P_order, .ref a_P_places, .ref a_P_rights, .ref a_P_weights])), (a_P2_entries, .inl (g.2.1, 256, .inl P2_entries)), (a_P_entries, .inl (g.2.1, 256, .inl (va_cpy P2_entries P_entries (Int32.toNatClampNeg 0) (Int32.toNatClampNeg 0) (Int32.toNatClampNeg 256)))), (a_P2_order, .inl (g.2.1, 16, .inl P2_order)), (a_P_order, .inl (g.2.1, 16, .inl (va_cpy P2_order P_order (Int32.toNatClampNeg 0) (Int32.toNatClampNeg 0) (Int32.toNatClampNeg 16)))), (a_P2_places, .inl (g.2.1, 16, .inl P2_places)), (a_P_places, .inl (g.2.1, 16, .inl (va_cpy P2_places P_places (Int32.toNatClampNeg 0) (Int32.toNatClampNeg 0) (Int32.toNatClampNeg 16)))), (a_P2_rights, .inl (g.2.1, 16, .inl P2_rights)), (a_P_rights, .inl (g.2.1, 16, .inl P_rights)), (a_P2_weights, .inl (g.2.1, 16, .inl P2_weights)), (a_P_weights, .inl (g.2.1, 16, .inl P_weights))] := hD
  refine lv_aload_n hx hb dX2_copyFrom_54 rfl (lv_at hl 1 rfl) ?_
  refine va_get (D := g.1) (ci := 2) (v := .ref a_P2_rights) (C := RX2) (T := TX2) (N := 6) hx hb hts cw_in_X2 hown hK.1 hP 0 rfl rfl 4 (by decide) (hts _ cw_f_X2_25) (fun _ h9 => h9) rfl dX2_copyFrom_55 ?_
  refine lv_iconst (v := 0) hx hb dX2_copyFrom_58 (by decide) ?_
  refine lv_aload_n hx hb dX2_copyFrom_59 rfl (lv_at hl 0 rfl) ?_
  refine va_get (D := g.1) (ci := 2) (v := .ref a_P_rights) (C := RX2) (T := TX2) (N := 6) hx hb hts cw_in_X2 hown hK.1 hP 1 rfl rfl 4 (by decide) (hts _ cw_f_X2_25) (fun _ h9 => h9) rfl dX2_copyFrom_60 ?_
  refine lv_iconst (v := 0) hx hb dX2_copyFrom_63 (by decide) ?_
  refine lv_bipush (v := 16) hx hb dX2_copyFrom_64 (by decide) ?_
  refine va_copyi (D := g.1) (ty := .int) hx hb (hml.trans hl.1.symm) hown (hts _ cw_m_X2_39) (hts _ cw_v_arraycopy) (hts _ cw_t_arraycopy) (hts _ cw_n_System) hK.1 hP hD hS 8 9 0 0 rfl rfl rfl rfl rfl (by decide) (by decide) (by decide) (by decide +kernel) (by decide +kernel) (fun _ _ => rfl) (Nat.le_of_ble_eq_true rfl) (Nat.le_of_ble_eq_true rfl) dX2_copyFrom_66 (fun H locs hP hD hS => ?_)
  have hP : va_P g.1 vwCl [(a_P2, .inr (2, [.int P2_rows, .ref a_P2_entries, .ref a_P2_order, .ref a_P2_places, .ref a_P2_rights, .ref a_P2_weights])), (a_P, .inr (2, [.int P2_rows, .ref a_P_entries, .ref a_P_order, .ref a_P_places, .ref a_P_rights, .ref a_P_weights])), (a_P2_entries, .inl (g.2.1, 256, .inl P2_entries)), (a_P_entries, .inl (g.2.1, 256, .inl (va_cpy P2_entries P_entries (Int32.toNatClampNeg 0) (Int32.toNatClampNeg 0) (Int32.toNatClampNeg 256)))), (a_P2_order, .inl (g.2.1, 16, .inl P2_order)), (a_P_order, .inl (g.2.1, 16, .inl (va_cpy P2_order P_order (Int32.toNatClampNeg 0) (Int32.toNatClampNeg 0) (Int32.toNatClampNeg 16)))), (a_P2_places, .inl (g.2.1, 16, .inl P2_places)), (a_P_places, .inl (g.2.1, 16, .inl (va_cpy P2_places P_places (Int32.toNatClampNeg 0) (Int32.toNatClampNeg 0) (Int32.toNatClampNeg 16)))), (a_P2_rights, .inl (g.2.1, 16, .inl P2_rights)), (a_P_rights, .inl (g.2.1, 16, .inl (va_cpy P2_rights P_rights (Int32.toNatClampNeg 0) (Int32.toNatClampNeg 0) (Int32.toNatClampNeg 16)))), (a_P2_weights, .inl (g.2.1, 16, .inl P2_weights)), (a_P_weights, .inl (g.2.1, 16, .inl P_weights))] H := hP
  have hD : va_D A [(a_P2, .inr (2, [.int P2_rows, .ref a_P2_entries, .ref a_P2_order, .ref a_P2_places, .ref a_P2_rights, .ref a_P2_weights])), (a_P, .inr (2, [.int P2_rows, .ref a_P_entries, .ref a_P_order, .ref a_P_places, .ref a_P_rights, .ref a_P_weights])), (a_P2_entries, .inl (g.2.1, 256, .inl P2_entries)), (a_P_entries, .inl (g.2.1, 256, .inl (va_cpy P2_entries P_entries (Int32.toNatClampNeg 0) (Int32.toNatClampNeg 0) (Int32.toNatClampNeg 256)))), (a_P2_order, .inl (g.2.1, 16, .inl P2_order)), (a_P_order, .inl (g.2.1, 16, .inl (va_cpy P2_order P_order (Int32.toNatClampNeg 0) (Int32.toNatClampNeg 0) (Int32.toNatClampNeg 16)))), (a_P2_places, .inl (g.2.1, 16, .inl P2_places)), (a_P_places, .inl (g.2.1, 16, .inl (va_cpy P2_places P_places (Int32.toNatClampNeg 0) (Int32.toNatClampNeg 0) (Int32.toNatClampNeg 16)))), (a_P2_rights, .inl (g.2.1, 16, .inl P2_rights)), (a_P_rights, .inl (g.2.1, 16, .inl (va_cpy P2_rights P_rights (Int32.toNatClampNeg 0) (Int32.toNatClampNeg 0) (Int32.toNatClampNeg 16)))), (a_P2_weights, .inl (g.2.1, 16, .inl P2_weights)), (a_P_weights, .inl (g.2.1, 16, .inl P_weights))] := hD
  refine lv_aload_n hx hb dX2_copyFrom_69 rfl (lv_at hl 1 rfl) ?_
  refine va_get (D := g.1) (ci := 2) (v := .ref a_P2_weights) (C := RX2) (T := TX2) (N := 6) hx hb hts cw_in_X2 hown hK.1 hP 0 rfl rfl 5 (by decide) (hts _ cw_f_X2_28) (fun _ h9 => h9) rfl dX2_copyFrom_70 ?_
  refine lv_iconst (v := 0) hx hb dX2_copyFrom_73 (by decide) ?_
  refine lv_aload_n hx hb dX2_copyFrom_74 rfl (lv_at hl 0 rfl) ?_
  refine va_get (D := g.1) (ci := 2) (v := .ref a_P_weights) (C := RX2) (T := TX2) (N := 6) hx hb hts cw_in_X2 hown hK.1 hP 1 rfl rfl 5 (by decide) (hts _ cw_f_X2_28) (fun _ h9 => h9) rfl dX2_copyFrom_75 ?_
  refine lv_iconst (v := 0) hx hb dX2_copyFrom_78 (by decide) ?_
  refine lv_bipush (v := 16) hx hb dX2_copyFrom_79 (by decide) ?_
  refine va_copyi (D := g.1) (ty := .int) hx hb (hml.trans hl.1.symm) hown (hts _ cw_m_X2_39) (hts _ cw_v_arraycopy) (hts _ cw_t_arraycopy) (hts _ cw_n_System) hK.1 hP hD hS 10 11 0 0 rfl rfl rfl rfl rfl (by decide) (by decide) (by decide) (by decide +kernel) (by decide +kernel) (fun _ _ => rfl) (Nat.le_of_ble_eq_true rfl) (Nat.le_of_ble_eq_true rfl) dX2_copyFrom_81 (fun H locs hP hD hS => ?_)
  have hP : va_P g.1 vwCl [(a_P2, .inr (2, [.int P2_rows, .ref a_P2_entries, .ref a_P2_order, .ref a_P2_places, .ref a_P2_rights, .ref a_P2_weights])), (a_P, .inr (2, [.int P2_rows, .ref a_P_entries, .ref a_P_order, .ref a_P_places, .ref a_P_rights, .ref a_P_weights])), (a_P2_entries, .inl (g.2.1, 256, .inl P2_entries)), (a_P_entries, .inl (g.2.1, 256, .inl (va_cpy P2_entries P_entries (Int32.toNatClampNeg 0) (Int32.toNatClampNeg 0) (Int32.toNatClampNeg 256)))), (a_P2_order, .inl (g.2.1, 16, .inl P2_order)), (a_P_order, .inl (g.2.1, 16, .inl (va_cpy P2_order P_order (Int32.toNatClampNeg 0) (Int32.toNatClampNeg 0) (Int32.toNatClampNeg 16)))), (a_P2_places, .inl (g.2.1, 16, .inl P2_places)), (a_P_places, .inl (g.2.1, 16, .inl (va_cpy P2_places P_places (Int32.toNatClampNeg 0) (Int32.toNatClampNeg 0) (Int32.toNatClampNeg 16)))), (a_P2_rights, .inl (g.2.1, 16, .inl P2_rights)), (a_P_rights, .inl (g.2.1, 16, .inl (va_cpy P2_rights P_rights (Int32.toNatClampNeg 0) (Int32.toNatClampNeg 0) (Int32.toNatClampNeg 16)))), (a_P2_weights, .inl (g.2.1, 16, .inl P2_weights)), (a_P_weights, .inl (g.2.1, 16, .inl (va_cpy P2_weights P_weights (Int32.toNatClampNeg 0) (Int32.toNatClampNeg 0) (Int32.toNatClampNeg 16))))] H := hP
  have hD : va_D A [(a_P2, .inr (2, [.int P2_rows, .ref a_P2_entries, .ref a_P2_order, .ref a_P2_places, .ref a_P2_rights, .ref a_P2_weights])), (a_P, .inr (2, [.int P2_rows, .ref a_P_entries, .ref a_P_order, .ref a_P_places, .ref a_P_rights, .ref a_P_weights])), (a_P2_entries, .inl (g.2.1, 256, .inl P2_entries)), (a_P_entries, .inl (g.2.1, 256, .inl (va_cpy P2_entries P_entries (Int32.toNatClampNeg 0) (Int32.toNatClampNeg 0) (Int32.toNatClampNeg 256)))), (a_P2_order, .inl (g.2.1, 16, .inl P2_order)), (a_P_order, .inl (g.2.1, 16, .inl (va_cpy P2_order P_order (Int32.toNatClampNeg 0) (Int32.toNatClampNeg 0) (Int32.toNatClampNeg 16)))), (a_P2_places, .inl (g.2.1, 16, .inl P2_places)), (a_P_places, .inl (g.2.1, 16, .inl (va_cpy P2_places P_places (Int32.toNatClampNeg 0) (Int32.toNatClampNeg 0) (Int32.toNatClampNeg 16)))), (a_P2_rights, .inl (g.2.1, 16, .inl P2_rights)), (a_P_rights, .inl (g.2.1, 16, .inl (va_cpy P2_rights P_rights (Int32.toNatClampNeg 0) (Int32.toNatClampNeg 0) (Int32.toNatClampNeg 16)))), (a_P2_weights, .inl (g.2.1, 16, .inl P2_weights)), (a_P_weights, .inl (g.2.1, 16, .inl (va_cpy P2_weights P_weights (Int32.toNatClampNeg 0) (Int32.toNatClampNeg 0) (Int32.toNatClampNeg 16))))] := hD
  exact cx_vret hx hb hr hlocks hAe hS (P2_rows, (va_cpy P2_entries P_entries (Int32.toNatClampNeg 0) (Int32.toNatClampNeg 0) (Int32.toNatClampNeg 256)), (va_cpy P2_order P_order (Int32.toNatClampNeg 0) (Int32.toNatClampNeg 0) (Int32.toNatClampNeg 16)), (va_cpy P2_places P_places (Int32.toNatClampNeg 0) (Int32.toNatClampNeg 0) (Int32.toNatClampNeg 16)), (va_cpy P2_rights P_rights (Int32.toNatClampNeg 0) (Int32.toNatClampNeg 0) (Int32.toNatClampNeg 16)), (va_cpy P2_weights P_weights (Int32.toNatClampNeg 0) (Int32.toNatClampNeg 0) (Int32.toNatClampNeg 16))) hv hP hD dX2_copyFrom_84
def wp_X1_forget (F_known : Int32) (F_rows : Int32) (Q : Int32 → Prop)   : Prop := Q 0
abbrev w0_X1_forget (g : cx_G) (a_F a_F_pivots a_F_reciprocals a_F_below : Nat) (F_known : Int32) (F_rows : Int32) : va_W := [(a_F, .inr (1, [.int F_known, .int F_rows, .ref a_F_pivots, .ref a_F_reciprocals, .ref a_F_below]))]
abbrev w1_X1_forget (g : cx_G) (a_F a_F_pivots a_F_reciprocals a_F_below : Nat) (F_known : Int32) (F_rows : Int32) (u : Int32) : va_W := [(a_F, .inr (1, [.int u, .int F_rows, .ref a_F_pivots, .ref a_F_reciprocals, .ref a_F_below]))]
set_option maxHeartbeats 4000000 in
set_option maxRecDepth 100000 in
theorem c_X1_forget (l : Launch) (g : cx_G) (a_F a_F_pivots a_F_reciprocals a_F_below : Nat) (F_known : Int32) (F_rows : Int32) {Q : Int32 → Prop} (hv : wp_X1_forget F_known F_rows Q) : cx_Mv l g yX1_forget (Cond.code yX1_forget cX1_forget 1 none :: cx_T) ({ frames := 0, cells := 0, slots := 0, locals := 0 } : Room) [.ref a_F] (w0_X1_forget g a_F a_F_pivots a_F_reciprocals a_F_below F_known F_rows) (fun (u : Int32) => Q u) (w1_X1_forget g a_F a_F_pivots a_F_reciprocals a_F_below F_known F_rows) 0 0 := by
  intro sz
  refine Met.ofW (cc := cX1_forget) (maxL := 1) (ret := none) (by decide) rfl ?_
  intro p e s m args below meth c s₁ B hml hpre
  obtain ⟨rfl, hsz, hP, hK, hD0⟩ := hpre
  have hx := B.exec
  have hb := B.bytes
  have hr := B.returns
  have hts0 := atoms_spec (ws := (Cond.code yX1_forget cX1_forget 1 none :: cx_T)) B.pre
  have hts : ∀ w ∈ cx_T, w.before _ s = true := fun w h => hts0 w (List.mem_cons_of_mem _ h)
  have hown : s.vm.findClass RX1 = some m.cls := findClass_of_methodNamed B.named
  have hlocks := B.notSynchronized
  subst hsz
  have hD := hD0.self (sz := s.heap.size)
  obtain ⟨A, hAe⟩ : ∃ A : Nat → Prop, A = va_A (w0_X1_forget g a_F a_F_pivots a_F_reciprocals a_F_below F_known F_rows) s.heap.size := ⟨_, rfl⟩
  rw [← hAe] at hD
  have hA : ∀ q : Nat, s.heap.size ≤ q → A q := fun q h => by rw [hAe]; exact Or.inr h
  have hS : va_S A s.heap s.heap [] := va_S.rf
  have hP : va_P g.1 vwCl [(a_F, .inr (1, [.int F_known, .int F_rows, .ref a_F_pivots, .ref a_F_reciprocals, .ref a_F_below]))] s.heap := hP
  have hD : va_D A [(a_F, .inr (1, [.int F_known, .int F_rows, .ref a_F_pivots, .ref a_F_reciprocals, .ref a_F_below]))] := hD
  have hl := lv_entry ([.ref a_F]) (n := 1) (Nat.le_of_ble_eq_true rfl)
  rw [lg_entry_eq]
  generalize (lg_sl ([.ref a_F]) ++ List.replicate (1 - (lg_sl ([.ref a_F])).length) Slot.unset).toArray = ls at hl ⊢
  have hl : lv_has ls 1 [(0, .ref a_F)] := hl
  unfold wp_X1_forget at hv
  refine lv_aload_n hx hb dX1_forget_0 rfl (lv_at hl 0 rfl) ?_
  refine lv_iconst (v := 0) hx hb dX1_forget_1 (by decide) ?_
  refine va_put (D := g.1) (ci := 1) (v := .int 0) (ty := .boolean) (C := RX1) (T := TX1) (N := 5) hx hb hts cw_in_X1 tyX1 tyX1_ok nmX1 hown hK.1 hP hD hS 0 rfl rfl 0 (by decide) (hts _ cw_f_X1_9) (fun _ h9 => h9) rfl (by decide +kernel) rfl rfl (Nat.le_of_ble_eq_true rfl) dX1_forget_2 (fun H locs hP hD hS => ?_)
  have hP : va_P g.1 vwCl [(a_F, .inr (1, [.int 0, .int F_rows, .ref a_F_pivots, .ref a_F_reciprocals, .ref a_F_below]))] H := hP
  have hD : va_D A [(a_F, .inr (1, [.int 0, .int F_rows, .ref a_F_pivots, .ref a_F_reciprocals, .ref a_F_below]))] := hD
  exact cx_vret hx hb hr hlocks hAe hS 0 hv hP hD dX1_forget_5
def vc_X1_remainder_0 (i_i : Int32) (i_k : Int32) (P_rows : Int32) (P_order : (Nat → Int32)) (P_entries : (Nat → Int32)) (F_known : Int32) (F_rows : Int32) (F_below : (Nat → Int32)) (F_pivots : (Nat → Int32)) (Q : Int32 → Prop) (G1 : Int32 → Int32 → Prop)  : Prop := wp_X2_entryAtPositions i_i i_k P_rows P_order P_entries (fun r_1 => G1 0 r_1)
def vc_X1_remainder_1 (i_i : Int32) (i_k : Int32) (P_rows : Int32) (P_order : (Nat → Int32)) (P_entries : (Nat → Int32)) (F_known : Int32) (F_rows : Int32) (F_below : (Nat → Int32)) (F_pivots : (Nat → Int32)) (Q : Int32 → Prop) (G1 : Int32 → Int32 → Prop) (x5 : Int32) (x4 : Int32) : Prop := (i_k ≤ x5 → (Q x4)) ∧ (¬ i_k ≤ x5 → (vp_in (f_cell i_i x5) 256 ∧ (vp_in (f_cell i_k x5) 256 ∧ (∀ x6_6 : Int32, x6_6 = (f_times (F_below (Int32.toNatClampNeg (f_cell i_i x5))) (F_below (Int32.toNatClampNeg (f_cell i_k x5)))) → (vp_in x5 16 ∧ (∀ x4_10 : Int32, x4_10 = (f_minus x4 (f_times x6_6 (F_pivots (Int32.toNatClampNeg x5)))) → (∀ x5_11 : Int32, x5_11 = x5 + 1 → (G1 x5_11 x4_10))))))))
def wp_X1_remainder (i_i : Int32) (i_k : Int32) (P_rows : Int32) (P_order : (Nat → Int32)) (P_entries : (Nat → Int32)) (F_known : Int32) (F_rows : Int32) (F_below : (Nat → Int32)) (F_pivots : (Nat → Int32)) (Q : Int32 → Prop) : Prop := ∀ (G1 : Int32 → Int32 → Prop), (∀ (x5 : Int32) (x4 : Int32), vc_X1_remainder_1 i_i i_k P_rows P_order P_entries F_known F_rows F_below F_pivots Q G1 x5 x4 → G1 x5 x4) → vc_X1_remainder_0 i_i i_k P_rows P_order P_entries F_known F_rows F_below F_pivots Q G1
abbrev w0_X1_remainder (g : cx_G) (a_F a_P a_P_entries a_P_order a_P_places a_P_rights a_P_weights a_F_pivots a_F_reciprocals a_F_below : Nat) (P_rows : Int32) (P_order : (Nat → Int32)) (P_entries : (Nat → Int32)) (F_known : Int32) (F_rows : Int32) (F_below : (Nat → Int32)) (F_pivots : (Nat → Int32)) : va_W := [(a_P, .inr (2, [.int P_rows, .ref a_P_entries, .ref a_P_order, .ref a_P_places, .ref a_P_rights, .ref a_P_weights])), (a_P_order, .inl (g.2.1, 16, .inl P_order)), (a_P_entries, .inl (g.2.1, 256, .inl P_entries)), (a_F, .inr (1, [.int F_known, .int F_rows, .ref a_F_pivots, .ref a_F_reciprocals, .ref a_F_below])), (a_F_below, .inl (g.2.1, 256, .inl F_below)), (a_F_pivots, .inl (g.2.1, 16, .inl F_pivots))]
set_option maxHeartbeats 4000000 in
set_option maxRecDepth 100000 in
theorem c_X1_remainder (l : Launch) (g : cx_G) (a_F a_P a_P_entries a_P_order a_P_places a_P_rights a_P_weights a_F_pivots a_F_reciprocals a_F_below : Nat) (i_i : Int32) (i_k : Int32) (P_rows : Int32) (P_order : (Nat → Int32)) (P_entries : (Nat → Int32)) (F_known : Int32) (F_rows : Int32) (F_below : (Nat → Int32)) (F_pivots : (Nat → Int32)) {Q : Int32 → Prop} (hv : wp_X1_remainder i_i i_k P_rows P_order P_entries F_known F_rows F_below F_pivots Q) : cx_Mi l g yX1_remainder (Cond.code yX1_remainder cX1_remainder 7 (some .int) :: cx_T) ({ frames := 2, cells := 0, slots := 0, locals := 43 } : Room) [.ref a_F, .ref a_P, .int i_i, .int i_k] (w0_X1_remainder g a_F a_P a_P_entries a_P_order a_P_places a_P_rights a_P_weights a_F_pivots a_F_reciprocals a_F_below P_rows P_order P_entries F_known F_rows F_below F_pivots) (fun (r : Int32) (_ : Unit) => Q r) (fun _ : Unit => (w0_X1_remainder g a_F a_P a_P_entries a_P_order a_P_places a_P_rights a_P_weights a_F_pivots a_F_reciprocals a_F_below P_rows P_order P_entries F_known F_rows F_below F_pivots)) 0 0 := by
  intro sz
  refine Met.ofW (cc := cX1_remainder) (maxL := 7) (ret := (some .int)) (by decide) rfl ?_
  intro p e s m args below meth c s₁ B hml hpre
  obtain ⟨rfl, hsz, hP, hK, hD0⟩ := hpre
  have hx := B.exec
  have hb := B.bytes
  have hr := B.returns
  have hts0 := atoms_spec (ws := (Cond.code yX1_remainder cX1_remainder 7 (some .int) :: cx_T)) B.pre
  have hts : ∀ w ∈ cx_T, w.before _ s = true := fun w h => hts0 w (List.mem_cons_of_mem _ h)
  have hown : s.vm.findClass RX1 = some m.cls := findClass_of_methodNamed B.named
  have hlocks := B.notSynchronized
  subst hsz
  have hD := hD0.self (sz := s.heap.size)
  obtain ⟨A, hAe⟩ : ∃ A : Nat → Prop, A = va_A (w0_X1_remainder g a_F a_P a_P_entries a_P_order a_P_places a_P_rights a_P_weights a_F_pivots a_F_reciprocals a_F_below P_rows P_order P_entries F_known F_rows F_below F_pivots) s.heap.size := ⟨_, rfl⟩
  rw [← hAe] at hD
  have hA : ∀ q : Nat, s.heap.size ≤ q → A q := fun q h => by rw [hAe]; exact Or.inr h
  have hS : va_S A s.heap s.heap [] := va_S.rf
  have hP : va_P g.1 vwCl [(a_P, .inr (2, [.int P_rows, .ref a_P_entries, .ref a_P_order, .ref a_P_places, .ref a_P_rights, .ref a_P_weights])), (a_P_order, .inl (g.2.1, 16, .inl P_order)), (a_P_entries, .inl (g.2.1, 256, .inl P_entries)), (a_F, .inr (1, [.int F_known, .int F_rows, .ref a_F_pivots, .ref a_F_reciprocals, .ref a_F_below])), (a_F_below, .inl (g.2.1, 256, .inl F_below)), (a_F_pivots, .inl (g.2.1, 16, .inl F_pivots))] s.heap := hP
  have hD : va_D A [(a_P, .inr (2, [.int P_rows, .ref a_P_entries, .ref a_P_order, .ref a_P_places, .ref a_P_rights, .ref a_P_weights])), (a_P_order, .inl (g.2.1, 16, .inl P_order)), (a_P_entries, .inl (g.2.1, 256, .inl P_entries)), (a_F, .inr (1, [.int F_known, .int F_rows, .ref a_F_pivots, .ref a_F_reciprocals, .ref a_F_below])), (a_F_below, .inl (g.2.1, 256, .inl F_below)), (a_F_pivots, .inl (g.2.1, 16, .inl F_pivots))] := hD
  have hl := lv_entry ([.ref a_F, .ref a_P, .int i_i, .int i_k]) (n := 7) (Nat.le_of_ble_eq_true rfl)
  rw [lg_entry_eq]
  generalize (lg_sl ([.ref a_F, .ref a_P, .int i_i, .int i_k]) ++ List.replicate (7 - (lg_sl ([.ref a_F, .ref a_P, .int i_i, .int i_k])).length) Slot.unset).toArray = ls at hl ⊢
  have hl : lv_has ls 7 [(0, .ref a_F), (1, .ref a_P), (2, .int i_i), (3, .int i_k)] := hl
  obtain ⟨G1, hG1⟩ : ∃ G : Int32 → Int32 → Prop, G = (fun (x5 : Int32) (x4 : Int32) => ∀ (H : Heap) (locs : List Loc) (ls : Array Slot), va_P g.1 vwCl [(a_P, .inr (2, [.int P_rows, .ref a_P_entries, .ref a_P_order, .ref a_P_places, .ref a_P_rights, .ref a_P_weights])), (a_P_order, .inl (g.2.1, 16, .inl P_order)), (a_P_entries, .inl (g.2.1, 256, .inl P_entries)), (a_F, .inr (1, [.int F_known, .int F_rows, .ref a_F_pivots, .ref a_F_reciprocals, .ref a_F_below])), (a_F_below, .inl (g.2.1, 256, .inl F_below)), (a_F_pivots, .inl (g.2.1, 16, .inl F_pivots))] H → va_D A [(a_P, .inr (2, [.int P_rows, .ref a_P_entries, .ref a_P_order, .ref a_P_places, .ref a_P_rights, .ref a_P_weights])), (a_P_order, .inl (g.2.1, 16, .inl P_order)), (a_P_entries, .inl (g.2.1, 256, .inl P_entries)), (a_F, .inr (1, [.int F_known, .int F_rows, .ref a_F_pivots, .ref a_F_reciprocals, .ref a_F_below])), (a_F_below, .inl (g.2.1, 256, .inl F_below)), (a_F_pivots, .inl (g.2.1, 16, .inl F_pivots))] → va_S A s.heap H locs → lv_has ls 7 [(5, .int x5), (4, .int x4), (0, .ref a_F), (1, .ref a_P), (2, .int i_i), (3, .int i_k)] → W p l e (headSpec (Cond.code yX1_remainder cX1_remainder 7 (some .int) :: cx_T) ({ frames := 2, cells := 0, slots := 0, locals := 43 } : Room)).room s m ([.ref a_F, .ref a_P, .int i_i, .int i_k] : List Value).toArray below meth c H locs 0 0 (MQ below (va_Qi (fun (r : Int32) (_ : Unit) => Q r) (cx_B g (w0_X1_remainder g a_F a_P a_P_entries a_P_order a_P_places a_P_rights a_P_weights a_F_pivots a_F_reciprocals a_F_below P_rows P_order P_entries F_known F_rows F_below F_pivots) s.heap.size (fun _ : Unit => (w0_X1_remainder g a_F a_P a_P_entries a_P_order a_P_places a_P_rights a_P_weights a_F_pivots a_F_reciprocals a_F_below P_rows P_order P_entries F_known F_rows F_below F_pivots))) (va_A (w0_X1_remainder g a_F a_P a_P_entries a_P_order a_P_places a_P_rights a_P_weights a_F_pivots a_F_reciprocals a_F_below P_rows P_order P_entries F_known F_rows F_below F_pivots) s.heap.size)) ([.ref a_F, .ref a_P, .int i_i, .int i_k] : List Value).toArray s 0 0 (va_A (w0_X1_remainder g a_F a_P a_P_entries a_P_order a_P_places a_P_rights a_P_weights a_F_pivots a_F_reciprocals a_F_below P_rows P_order P_entries F_known F_rows F_below F_pivots) s.heap.size)) (F0 m 11 ls [])) := ⟨_, rfl⟩
  have hs1 : ∀ (x5 : Int32) (x4 : Int32), vc_X1_remainder_1 i_i i_k P_rows P_order P_entries F_known F_rows F_below F_pivots Q G1 x5 x4 → G1 x5 x4 := by
    rw [hG1]
    intro x5 x4 hv H locs ls hP hD hS hl
    unfold vc_X1_remainder_1 at hv
    refine lv_iload hx hb dX1_remainder_11 (lv_at hl 0 rfl) ?_
    refine lv_iload_n hx hb dX1_remainder_13 rfl (lv_at hl 5 rfl) ?_
    refine lv_icmp_ge (tgt := 69) hx hb dX1_remainder_14 (by decide) (fun hc => ?_) (fun hc => ?_)
    · replace hv := hv.1 hc
      refine lv_iload hx hb dX1_remainder_69 (lv_at hl 1 rfl) ?_
      exact cx_iret hx hb hr hlocks hAe hS () hv hP hD dX1_remainder_71
    · replace hv := hv.2 hc
      refine lv_aload_n hx hb dX1_remainder_17 rfl (lv_at hl 2 rfl) ?_
      refine va_get (D := g.1) (ci := 1) (v := .ref a_F_below) (C := RX1) (T := TX1) (N := 5) hx hb hts cw_in_X1 hown hK.1 hP 3 rfl rfl 4 (by decide) (hts _ cw_f_X1_26) (fun _ h9 => h9) rfl dX1_remainder_18 ?_
      refine lv_iload_n hx hb dX1_remainder_21 rfl (lv_at hl 4 rfl) ?_
      refine lv_iload hx hb dX1_remainder_22 (lv_at hl 0 rfl) ?_
      refine cx_iNr (As := [.int i_i, .int x5]) (rest := [.ref a_F_below]) ⟨hx, hb, hml, hown, hts⟩ (cp_X4_cell l g i_i x5) (cx_cwN 2 hts (hK.2.at 11 rfl) cw_t_X4_cell cw_n_X4 cw_c_X4_cell rfl rfl (by decide +kernel) ⟨Nat.le_of_ble_eq_true rfl, Nat.le_of_ble_eq_true rfl⟩) hK hP hD hS hA [] rfl rfl rfl hl.1 rfl (Nat.le_of_ble_eq_true rfl) dX1_remainder_24 ⟨Nat.le_of_ble_eq_true rfl, Nat.le_of_ble_eq_true rfl⟩ (fun r_1 H locs hr9 hP hS => ?_)
      replace hr9 : r_1 = (f_cell i_i x5) := hr9
      subst hr9
      obtain ⟨h_2, hv⟩ := hv
      refine va_iald (D := g.1) hx hb hK.1 hP 4 0 rfl rfl h_2 dX1_remainder_27 ?_
      refine lv_aload_n hx hb dX1_remainder_28 rfl (lv_at hl 2 rfl) ?_
      refine va_get (D := g.1) (ci := 1) (v := .ref a_F_below) (C := RX1) (T := TX1) (N := 5) hx hb hts cw_in_X1 hown hK.1 hP 3 rfl rfl 4 (by decide) (hts _ cw_f_X1_26) (fun _ h9 => h9) rfl dX1_remainder_29 ?_
      refine lv_iload_n hx hb dX1_remainder_32 rfl (lv_at hl 5 rfl) ?_
      refine lv_iload hx hb dX1_remainder_33 (lv_at hl 0 rfl) ?_
      refine cx_iNr (As := [.int i_k, .int x5]) (rest := [.ref a_F_below, .int (F_below (Int32.toNatClampNeg (f_cell i_i x5)))]) ⟨hx, hb, hml, hown, hts⟩ (cp_X4_cell l g i_k x5) (cx_cwN 2 hts (hK.2.at 11 rfl) cw_t_X4_cell cw_n_X4 cw_c_X4_cell rfl rfl (by decide +kernel) ⟨Nat.le_of_ble_eq_true rfl, Nat.le_of_ble_eq_true rfl⟩) hK hP hD hS hA [] rfl rfl rfl hl.1 rfl (Nat.le_of_ble_eq_true rfl) dX1_remainder_35 ⟨Nat.le_of_ble_eq_true rfl, Nat.le_of_ble_eq_true rfl⟩ (fun r_3 H locs hr9 hP hS => ?_)
      replace hr9 : r_3 = (f_cell i_k x5) := hr9
      subst hr9
      obtain ⟨h_4, hv⟩ := hv
      refine va_iald (D := g.1) hx hb hK.1 hP 4 0 rfl rfl h_4 dX1_remainder_38 ?_
      refine cx_iNr (As := [.int (F_below (Int32.toNatClampNeg (f_cell i_i x5))), .int (F_below (Int32.toNatClampNeg (f_cell i_k x5)))]) (rest := []) ⟨hx, hb, hml, hown, hts⟩ (cp_X4_times l g (F_below (Int32.toNatClampNeg (f_cell i_i x5))) (F_below (Int32.toNatClampNeg (f_cell i_k x5)))) (cx_cwN 2 hts (hK.2.at 12 rfl) cw_t_X4_times cw_n_X4 cw_c_X4_times rfl rfl (by decide +kernel) ⟨Nat.le_of_ble_eq_true rfl, Nat.le_of_ble_eq_true rfl⟩) hK hP hD hS hA [] rfl rfl rfl hl.1 rfl (Nat.le_of_ble_eq_true rfl) dX1_remainder_39 ⟨Nat.le_of_ble_eq_true rfl, Nat.le_of_ble_eq_true rfl⟩ (fun r_5 H locs hr9 hP hS => ?_)
      replace hr9 : r_5 = (f_times (F_below (Int32.toNatClampNeg (f_cell i_i x5))) (F_below (Int32.toNatClampNeg (f_cell i_k x5)))) := hr9
      subst hr9
      refine lv_topi (fun x6_6 ex6_6 => ?_)
      replace hv := hv x6_6 ex6_6
      refine lv_istore (lv' := [(6, .int x6_6), (5, .int x5), (4, .int x4), (0, .ref a_F), (1, .ref a_P), (2, .int i_i), (3, .int i_k)]) hx hb dX1_remainder_42 hl (by decide) rfl (fun ls hl => ?_)
      refine lv_iload hx hb dX1_remainder_44 (lv_at hl 2 rfl) ?_
      refine lv_iload hx hb dX1_remainder_46 (lv_at hl 0 rfl) ?_
      refine lv_aload_n hx hb dX1_remainder_48 rfl (lv_at hl 3 rfl) ?_
      refine va_get (D := g.1) (ci := 1) (v := .ref a_F_pivots) (C := RX1) (T := TX1) (N := 5) hx hb hts cw_in_X1 hown hK.1 hP 3 rfl rfl 2 (by decide) (hts _ cw_f_X1_19) (fun _ h9 => h9) rfl dX1_remainder_49 ?_
      refine lv_iload hx hb dX1_remainder_52 (lv_at hl 1 rfl) ?_
      obtain ⟨h_7, hv⟩ := hv
      refine va_iald (D := g.1) hx hb hK.1 hP 5 0 rfl rfl h_7 dX1_remainder_54 ?_
      refine cx_iNr (As := [.int x6_6, .int (F_pivots (Int32.toNatClampNeg x5))]) (rest := [.int x4]) ⟨hx, hb, hml, hown, hts⟩ (cp_X4_times l g x6_6 (F_pivots (Int32.toNatClampNeg x5))) (cx_cwN 2 hts (hK.2.at 12 rfl) cw_t_X4_times cw_n_X4 cw_c_X4_times rfl rfl (by decide +kernel) ⟨Nat.le_of_ble_eq_true rfl, Nat.le_of_ble_eq_true rfl⟩) hK hP hD hS hA [] rfl rfl rfl hl.1 rfl (Nat.le_of_ble_eq_true rfl) dX1_remainder_55 ⟨Nat.le_of_ble_eq_true rfl, Nat.le_of_ble_eq_true rfl⟩ (fun r_8 H locs hr9 hP hS => ?_)
      replace hr9 : r_8 = (f_times x6_6 (F_pivots (Int32.toNatClampNeg x5))) := hr9
      subst hr9
      refine cx_iNr (As := [.int x4, .int (f_times x6_6 (F_pivots (Int32.toNatClampNeg x5)))]) (rest := []) ⟨hx, hb, hml, hown, hts⟩ (cp_X4_minus l g x4 (f_times x6_6 (F_pivots (Int32.toNatClampNeg x5)))) (cx_cwN 2 hts (hK.2.at 13 rfl) cw_t_X4_minus cw_n_X4 cw_c_X4_minus rfl rfl (by decide +kernel) ⟨Nat.le_of_ble_eq_true rfl, Nat.le_of_ble_eq_true rfl⟩) hK hP hD hS hA [] rfl rfl rfl hl.1 rfl (Nat.le_of_ble_eq_true rfl) dX1_remainder_58 ⟨Nat.le_of_ble_eq_true rfl, Nat.le_of_ble_eq_true rfl⟩ (fun r_9 H locs hr9 hP hS => ?_)
      replace hr9 : r_9 = (f_minus x4 (f_times x6_6 (F_pivots (Int32.toNatClampNeg x5)))) := hr9
      subst hr9
      refine lv_topi (fun x4_10 ex4_10 => ?_)
      replace hv := hv x4_10 ex4_10
      refine lv_istore (lv' := [(4, .int x4_10), (6, .int x6_6), (5, .int x5), (0, .ref a_F), (1, .ref a_P), (2, .int i_i), (3, .int i_k)]) hx hb dX1_remainder_61 hl (by decide) rfl (fun ls hl => ?_)
      obtain ⟨x5_11, ex5_11⟩ : ∃ y : Int32, y = x5 + 1 := ⟨_, rfl⟩
      replace hv := hv x5_11 ex5_11
      refine lv_iinc (v := x5_11) (lv' := [(5, .int x5_11), (4, .int x4_10), (6, .int x6_6), (0, .ref a_F), (1, .ref a_P), (2, .int i_i), (3, .int i_k)]) hx hb dX1_remainder_63 hl (k := 2) rfl (by rw [ex5_11]; rfl) (by decide) rfl (fun ls hl => ?_)
      refine lv_goto (tgt := 11) hx hb dX1_remainder_66 (by decide) ?_
      exact hv _ _ _ hP hD hS (lv_sub hl [0, 1, 3, 4, 5, 6] rfl)
  replace hv := hv G1 hs1
  rw [hG1] at hv
  unfold vc_X1_remainder_0 at hv
  refine lv_aload_n hx hb dX1_remainder_0 rfl (lv_at hl 1 rfl) ?_
  refine lv_iload_n hx hb dX1_remainder_1 rfl (lv_at hl 2 rfl) ?_
  refine lv_iload_n hx hb dX1_remainder_2 rfl (lv_at hl 3 rfl) ?_
  refine cx_iVr (As := [.int i_i, .int i_k]) (rest := []) ⟨hx, hb, hml, hown, hts⟩ (c_X2_entryAtPositions l g a_P a_P_entries a_P_order a_P_places a_P_rights a_P_weights i_i i_k P_rows P_order P_entries hv) (cx_cwV 2 hts cw_m_X1_50 cw_i_X2_entryAtPositions cw_s_X2_entryAtPositions cw_n_X2 cw_c_X2_entryAtPositions rfl rfl (by decide +kernel) ⟨Nat.le_of_ble_eq_true rfl, Nat.le_of_ble_eq_true rfl⟩) hK hP hD hS hA 0 2 rfl rfl [0, 1, 2] rfl rfl rfl hl.1 rfl (Nat.le_of_ble_eq_true rfl) dX1_remainder_3 ⟨Nat.le_of_ble_eq_true rfl, Nat.le_of_ble_eq_true rfl⟩ (fun r_1 H locs hv hP hS => ?_)
  refine lv_istore (lv' := [(4, .int r_1), (0, .ref a_F), (1, .ref a_P), (2, .int i_i), (3, .int i_k)]) hx hb dX1_remainder_6 hl (by decide) rfl (fun ls hl => ?_)
  refine lv_iconst (v := 0) hx hb dX1_remainder_8 (by decide) ?_
  refine lv_istore (lv' := [(5, .int 0), (4, .int r_1), (0, .ref a_F), (1, .ref a_P), (2, .int i_i), (3, .int i_k)]) hx hb dX1_remainder_9 hl (by decide) rfl (fun ls hl => ?_)
  exact hv _ _ _ hP hD hS (lv_sub hl [0, 1, 2, 3, 4, 5] rfl)
def vc_X1_find_0 (F_known : Int32) (F_rows : Int32) (P_rows : Int32) (P_order : (Nat → Int32)) (P_entries : (Nat → Int32)) (F_below : (Nat → Int32)) (F_pivots : (Nat → Int32)) (F_reciprocals : (Nat → Int32)) (Q : Int32 → Int32 → Int32 → (Nat → Int32) → (Nat → Int32) → (Nat → Int32) → Prop) (G1 : Int32 → Int32 → Int32 → (Nat → Int32) → (Nat → Int32) → (Nat → Int32) → Prop) (G2 : Int32 → Int32 → Int32 → Int32 → Int32 → (Nat → Int32) → (Nat → Int32) → (Nat → Int32) → Prop)  : Prop := G1 0 0 P_rows F_below F_pivots F_reciprocals
def vc_X1_find_1 (F_known : Int32) (F_rows : Int32) (P_rows : Int32) (P_order : (Nat → Int32)) (P_entries : (Nat → Int32)) (F_below : (Nat → Int32)) (F_pivots : (Nat → Int32)) (F_reciprocals : (Nat → Int32)) (Q : Int32 → Int32 → Int32 → (Nat → Int32) → (Nat → Int32) → (Nat → Int32) → Prop) (G1 : Int32 → Int32 → Int32 → (Nat → Int32) → (Nat → Int32) → (Nat → Int32) → Prop) (G2 : Int32 → Int32 → Int32 → Int32 → Int32 → (Nat → Int32) → (Nat → Int32) → (Nat → Int32) → Prop) (x2 : Int32) (v_F_known : Int32) (v_F_rows : Int32) (v_F_below : (Nat → Int32)) (v_F_pivots : (Nat → Int32)) (v_F_reciprocals : (Nat → Int32)) : Prop := (v_F_rows ≤ x2 → (Q v_F_rows 1 v_F_rows v_F_below v_F_pivots v_F_reciprocals)) ∧ (¬ v_F_rows ≤ x2 → (wp_X1_remainder x2 x2 P_rows P_order P_entries v_F_known v_F_rows v_F_below v_F_pivots (fun r_1 => (r_1 = 0 → (Q x2 v_F_known v_F_rows v_F_below v_F_pivots v_F_reciprocals)) ∧ (¬ r_1 = 0 → (vp_in x2 16 ∧ (vp_in x2 16 ∧ (∀ x4_5 : Int32, x4_5 = (x2 + 1) → (G2 x4_5 r_1 x2 v_F_known v_F_rows v_F_below (upd v_F_pivots (Int32.toNatClampNeg x2) r_1) (upd v_F_reciprocals (Int32.toNatClampNeg x2) (f_rec r_1))))))))))
def vc_X1_find_2 (F_known : Int32) (F_rows : Int32) (P_rows : Int32) (P_order : (Nat → Int32)) (P_entries : (Nat → Int32)) (F_below : (Nat → Int32)) (F_pivots : (Nat → Int32)) (F_reciprocals : (Nat → Int32)) (Q : Int32 → Int32 → Int32 → (Nat → Int32) → (Nat → Int32) → (Nat → Int32) → Prop) (G1 : Int32 → Int32 → Int32 → (Nat → Int32) → (Nat → Int32) → (Nat → Int32) → Prop) (G2 : Int32 → Int32 → Int32 → Int32 → Int32 → (Nat → Int32) → (Nat → Int32) → (Nat → Int32) → Prop) (x4 : Int32) (x3 : Int32) (x2 : Int32) (v_F_known : Int32) (v_F_rows : Int32) (v_F_below : (Nat → Int32)) (v_F_pivots : (Nat → Int32)) (v_F_reciprocals : (Nat → Int32)) : Prop := (v_F_rows ≤ x4 → (∀ x2_1 : Int32, x2_1 = x2 + 1 → (G1 x2_1 v_F_known v_F_rows v_F_below v_F_pivots v_F_reciprocals))) ∧ (¬ v_F_rows ≤ x4 → (wp_X1_remainder x4 x2 P_rows P_order P_entries v_F_known v_F_rows v_F_below v_F_pivots (fun r_3 => vp_in x2 16 ∧ (vp_in (f_cell x4 x2) 256 ∧ (∀ x4_7 : Int32, x4_7 = x4 + 1 → (G2 x4_7 x3 x2 v_F_known v_F_rows (upd v_F_below (Int32.toNatClampNeg (f_cell x4 x2)) (f_times r_3 (v_F_reciprocals (Int32.toNatClampNeg x2)))) v_F_pivots v_F_reciprocals))))))
def wp_X1_find (F_known : Int32) (F_rows : Int32) (P_rows : Int32) (P_order : (Nat → Int32)) (P_entries : (Nat → Int32)) (F_below : (Nat → Int32)) (F_pivots : (Nat → Int32)) (F_reciprocals : (Nat → Int32)) (Q : Int32 → Int32 → Int32 → (Nat → Int32) → (Nat → Int32) → (Nat → Int32) → Prop) : Prop := ∀ (G1 : Int32 → Int32 → Int32 → (Nat → Int32) → (Nat → Int32) → (Nat → Int32) → Prop) (G2 : Int32 → Int32 → Int32 → Int32 → Int32 → (Nat → Int32) → (Nat → Int32) → (Nat → Int32) → Prop), (∀ (x2 : Int32) (v_F_known : Int32) (v_F_rows : Int32) (v_F_below : (Nat → Int32)) (v_F_pivots : (Nat → Int32)) (v_F_reciprocals : (Nat → Int32)), vc_X1_find_1 F_known F_rows P_rows P_order P_entries F_below F_pivots F_reciprocals Q G1 G2 x2 v_F_known v_F_rows v_F_below v_F_pivots v_F_reciprocals → G1 x2 v_F_known v_F_rows v_F_below v_F_pivots v_F_reciprocals) → (∀ (x4 : Int32) (x3 : Int32) (x2 : Int32) (v_F_known : Int32) (v_F_rows : Int32) (v_F_below : (Nat → Int32)) (v_F_pivots : (Nat → Int32)) (v_F_reciprocals : (Nat → Int32)), vc_X1_find_2 F_known F_rows P_rows P_order P_entries F_below F_pivots F_reciprocals Q G1 G2 x4 x3 x2 v_F_known v_F_rows v_F_below v_F_pivots v_F_reciprocals → G2 x4 x3 x2 v_F_known v_F_rows v_F_below v_F_pivots v_F_reciprocals) → vc_X1_find_0 F_known F_rows P_rows P_order P_entries F_below F_pivots F_reciprocals Q G1 G2
abbrev w0_X1_find (g : cx_G) (a_F a_P a_F_pivots a_F_reciprocals a_F_below a_P_entries a_P_order a_P_places a_P_rights a_P_weights : Nat) (F_known : Int32) (F_rows : Int32) (P_rows : Int32) (P_order : (Nat → Int32)) (P_entries : (Nat → Int32)) (F_below : (Nat → Int32)) (F_pivots : (Nat → Int32)) (F_reciprocals : (Nat → Int32)) : va_W := [(a_F, .inr (1, [.int F_known, .int F_rows, .ref a_F_pivots, .ref a_F_reciprocals, .ref a_F_below])), (a_P, .inr (2, [.int P_rows, .ref a_P_entries, .ref a_P_order, .ref a_P_places, .ref a_P_rights, .ref a_P_weights])), (a_P_order, .inl (g.2.1, 16, .inl P_order)), (a_P_entries, .inl (g.2.1, 256, .inl P_entries)), (a_F_below, .inl (g.2.1, 256, .inl F_below)), (a_F_pivots, .inl (g.2.1, 16, .inl F_pivots)), (a_F_reciprocals, .inl (g.2.1, 16, .inl F_reciprocals))]
abbrev w1_X1_find (g : cx_G) (a_F a_P a_F_pivots a_F_reciprocals a_F_below a_P_entries a_P_order a_P_places a_P_rights a_P_weights : Nat) (F_known : Int32) (F_rows : Int32) (P_rows : Int32) (P_order : (Nat → Int32)) (P_entries : (Nat → Int32)) (F_below : (Nat → Int32)) (F_pivots : (Nat → Int32)) (F_reciprocals : (Nat → Int32)) (u : Int32 × Int32 × (Nat → Int32) × (Nat → Int32) × (Nat → Int32)) : va_W := [(a_F, .inr (1, [.int u.1, .int u.2.1, .ref a_F_pivots, .ref a_F_reciprocals, .ref a_F_below])), (a_P, .inr (2, [.int P_rows, .ref a_P_entries, .ref a_P_order, .ref a_P_places, .ref a_P_rights, .ref a_P_weights])), (a_P_order, .inl (g.2.1, 16, .inl P_order)), (a_P_entries, .inl (g.2.1, 256, .inl P_entries)), (a_F_below, .inl (g.2.1, 256, .inl u.2.2.1)), (a_F_pivots, .inl (g.2.1, 16, .inl u.2.2.2.1)), (a_F_reciprocals, .inl (g.2.1, 16, .inl u.2.2.2.2))]
set_option maxHeartbeats 4000000 in
set_option maxRecDepth 100000 in
theorem c_X1_find (l : Launch) (g : cx_G) (a_F a_P a_F_pivots a_F_reciprocals a_F_below a_P_entries a_P_order a_P_places a_P_rights a_P_weights : Nat) (F_known : Int32) (F_rows : Int32) (P_rows : Int32) (P_order : (Nat → Int32)) (P_entries : (Nat → Int32)) (F_below : (Nat → Int32)) (F_pivots : (Nat → Int32)) (F_reciprocals : (Nat → Int32)) {Q : Int32 → Int32 → Int32 → (Nat → Int32) → (Nat → Int32) → (Nat → Int32) → Prop} (hv : wp_X1_find F_known F_rows P_rows P_order P_entries F_below F_pivots F_reciprocals Q) : cx_Mi l g yX1_find (Cond.code yX1_find cX1_find 5 (some .int) :: cx_T) ({ frames := 3, cells := 0, slots := 0, locals := 69 } : Room) [.ref a_F, .ref a_P] (w0_X1_find g a_F a_P a_F_pivots a_F_reciprocals a_F_below a_P_entries a_P_order a_P_places a_P_rights a_P_weights F_known F_rows P_rows P_order P_entries F_below F_pivots F_reciprocals) (fun (r : Int32) (u : Int32 × Int32 × (Nat → Int32) × (Nat → Int32) × (Nat → Int32)) => Q r u.1 u.2.1 u.2.2.1 u.2.2.2.1 u.2.2.2.2) (w1_X1_find g a_F a_P a_F_pivots a_F_reciprocals a_F_below a_P_entries a_P_order a_P_places a_P_rights a_P_weights F_known F_rows P_rows P_order P_entries F_below F_pivots F_reciprocals) 0 0 := by
  intro sz
  refine Met.ofW (cc := cX1_find) (maxL := 5) (ret := (some .int)) (by decide) rfl ?_
  intro p e s m args below meth c s₁ B hml hpre
  obtain ⟨rfl, hsz, hP, hK, hD0⟩ := hpre
  have hx := B.exec
  have hb := B.bytes
  have hr := B.returns
  have hts0 := atoms_spec (ws := (Cond.code yX1_find cX1_find 5 (some .int) :: cx_T)) B.pre
  have hts : ∀ w ∈ cx_T, w.before _ s = true := fun w h => hts0 w (List.mem_cons_of_mem _ h)
  have hown : s.vm.findClass RX1 = some m.cls := findClass_of_methodNamed B.named
  have hlocks := B.notSynchronized
  subst hsz
  have hD := hD0.self (sz := s.heap.size)
  obtain ⟨A, hAe⟩ : ∃ A : Nat → Prop, A = va_A (w0_X1_find g a_F a_P a_F_pivots a_F_reciprocals a_F_below a_P_entries a_P_order a_P_places a_P_rights a_P_weights F_known F_rows P_rows P_order P_entries F_below F_pivots F_reciprocals) s.heap.size := ⟨_, rfl⟩
  rw [← hAe] at hD
  have hA : ∀ q : Nat, s.heap.size ≤ q → A q := fun q h => by rw [hAe]; exact Or.inr h
  have hS : va_S A s.heap s.heap [] := va_S.rf
  have hP : va_P g.1 vwCl [(a_F, .inr (1, [.int F_known, .int F_rows, .ref a_F_pivots, .ref a_F_reciprocals, .ref a_F_below])), (a_P, .inr (2, [.int P_rows, .ref a_P_entries, .ref a_P_order, .ref a_P_places, .ref a_P_rights, .ref a_P_weights])), (a_P_order, .inl (g.2.1, 16, .inl P_order)), (a_P_entries, .inl (g.2.1, 256, .inl P_entries)), (a_F_below, .inl (g.2.1, 256, .inl F_below)), (a_F_pivots, .inl (g.2.1, 16, .inl F_pivots)), (a_F_reciprocals, .inl (g.2.1, 16, .inl F_reciprocals))] s.heap := hP
  have hD : va_D A [(a_F, .inr (1, [.int F_known, .int F_rows, .ref a_F_pivots, .ref a_F_reciprocals, .ref a_F_below])), (a_P, .inr (2, [.int P_rows, .ref a_P_entries, .ref a_P_order, .ref a_P_places, .ref a_P_rights, .ref a_P_weights])), (a_P_order, .inl (g.2.1, 16, .inl P_order)), (a_P_entries, .inl (g.2.1, 256, .inl P_entries)), (a_F_below, .inl (g.2.1, 256, .inl F_below)), (a_F_pivots, .inl (g.2.1, 16, .inl F_pivots)), (a_F_reciprocals, .inl (g.2.1, 16, .inl F_reciprocals))] := hD
  have hl := lv_entry ([.ref a_F, .ref a_P]) (n := 5) (Nat.le_of_ble_eq_true rfl)
  rw [lg_entry_eq]
  generalize (lg_sl ([.ref a_F, .ref a_P]) ++ List.replicate (5 - (lg_sl ([.ref a_F, .ref a_P])).length) Slot.unset).toArray = ls at hl ⊢
  have hl : lv_has ls 5 [(0, .ref a_F), (1, .ref a_P)] := hl
  obtain ⟨G1, hG1⟩ : ∃ G : Int32 → Int32 → Int32 → (Nat → Int32) → (Nat → Int32) → (Nat → Int32) → Prop, G = (fun (x2 : Int32) (v_F_known : Int32) (v_F_rows : Int32) (v_F_below : (Nat → Int32)) (v_F_pivots : (Nat → Int32)) (v_F_reciprocals : (Nat → Int32)) => ∀ (H : Heap) (locs : List Loc) (ls : Array Slot), va_P g.1 vwCl [(a_F, .inr (1, [.int v_F_known, .int v_F_rows, .ref a_F_pivots, .ref a_F_reciprocals, .ref a_F_below])), (a_P, .inr (2, [.int P_rows, .ref a_P_entries, .ref a_P_order, .ref a_P_places, .ref a_P_rights, .ref a_P_weights])), (a_P_order, .inl (g.2.1, 16, .inl P_order)), (a_P_entries, .inl (g.2.1, 256, .inl P_entries)), (a_F_below, .inl (g.2.1, 256, .inl v_F_below)), (a_F_pivots, .inl (g.2.1, 16, .inl v_F_pivots)), (a_F_reciprocals, .inl (g.2.1, 16, .inl v_F_reciprocals))] H → va_D A [(a_F, .inr (1, [.int v_F_known, .int v_F_rows, .ref a_F_pivots, .ref a_F_reciprocals, .ref a_F_below])), (a_P, .inr (2, [.int P_rows, .ref a_P_entries, .ref a_P_order, .ref a_P_places, .ref a_P_rights, .ref a_P_weights])), (a_P_order, .inl (g.2.1, 16, .inl P_order)), (a_P_entries, .inl (g.2.1, 256, .inl P_entries)), (a_F_below, .inl (g.2.1, 256, .inl v_F_below)), (a_F_pivots, .inl (g.2.1, 16, .inl v_F_pivots)), (a_F_reciprocals, .inl (g.2.1, 16, .inl v_F_reciprocals))] → va_S A s.heap H locs → lv_has ls 5 [(2, .int x2), (0, .ref a_F), (1, .ref a_P)] → W p l e (headSpec (Cond.code yX1_find cX1_find 5 (some .int) :: cx_T) ({ frames := 3, cells := 0, slots := 0, locals := 69 } : Room)).room s m ([.ref a_F, .ref a_P] : List Value).toArray below meth c H locs 0 0 (MQ below (va_Qi (fun (r : Int32) (u : Int32 × Int32 × (Nat → Int32) × (Nat → Int32) × (Nat → Int32)) => Q r u.1 u.2.1 u.2.2.1 u.2.2.2.1 u.2.2.2.2) (cx_B g (w0_X1_find g a_F a_P a_F_pivots a_F_reciprocals a_F_below a_P_entries a_P_order a_P_places a_P_rights a_P_weights F_known F_rows P_rows P_order P_entries F_below F_pivots F_reciprocals) s.heap.size (w1_X1_find g a_F a_P a_F_pivots a_F_reciprocals a_F_below a_P_entries a_P_order a_P_places a_P_rights a_P_weights F_known F_rows P_rows P_order P_entries F_below F_pivots F_reciprocals)) (va_A (w0_X1_find g a_F a_P a_F_pivots a_F_reciprocals a_F_below a_P_entries a_P_order a_P_places a_P_rights a_P_weights F_known F_rows P_rows P_order P_entries F_below F_pivots F_reciprocals) s.heap.size)) ([.ref a_F, .ref a_P] : List Value).toArray s 0 0 (va_A (w0_X1_find g a_F a_P a_F_pivots a_F_reciprocals a_F_below a_P_entries a_P_order a_P_places a_P_rights a_P_weights F_known F_rows P_rows P_order P_entries F_below F_pivots F_reciprocals) s.heap.size)) (F0 m 15 ls [])) := ⟨_, rfl⟩
  obtain ⟨G2, hG2⟩ : ∃ G : Int32 → Int32 → Int32 → Int32 → Int32 → (Nat → Int32) → (Nat → Int32) → (Nat → Int32) → Prop, G = (fun (x4 : Int32) (x3 : Int32) (x2 : Int32) (v_F_known : Int32) (v_F_rows : Int32) (v_F_below : (Nat → Int32)) (v_F_pivots : (Nat → Int32)) (v_F_reciprocals : (Nat → Int32)) => ∀ (H : Heap) (locs : List Loc) (ls : Array Slot), va_P g.1 vwCl [(a_F, .inr (1, [.int v_F_known, .int v_F_rows, .ref a_F_pivots, .ref a_F_reciprocals, .ref a_F_below])), (a_P, .inr (2, [.int P_rows, .ref a_P_entries, .ref a_P_order, .ref a_P_places, .ref a_P_rights, .ref a_P_weights])), (a_P_order, .inl (g.2.1, 16, .inl P_order)), (a_P_entries, .inl (g.2.1, 256, .inl P_entries)), (a_F_below, .inl (g.2.1, 256, .inl v_F_below)), (a_F_pivots, .inl (g.2.1, 16, .inl v_F_pivots)), (a_F_reciprocals, .inl (g.2.1, 16, .inl v_F_reciprocals))] H → va_D A [(a_F, .inr (1, [.int v_F_known, .int v_F_rows, .ref a_F_pivots, .ref a_F_reciprocals, .ref a_F_below])), (a_P, .inr (2, [.int P_rows, .ref a_P_entries, .ref a_P_order, .ref a_P_places, .ref a_P_rights, .ref a_P_weights])), (a_P_order, .inl (g.2.1, 16, .inl P_order)), (a_P_entries, .inl (g.2.1, 256, .inl P_entries)), (a_F_below, .inl (g.2.1, 256, .inl v_F_below)), (a_F_pivots, .inl (g.2.1, 16, .inl v_F_pivots)), (a_F_reciprocals, .inl (g.2.1, 16, .inl v_F_reciprocals))] → va_S A s.heap H locs → lv_has ls 5 [(4, .int x4), (3, .int x3), (2, .int x2), (0, .ref a_F), (1, .ref a_P)] → W p l e (headSpec (Cond.code yX1_find cX1_find 5 (some .int) :: cx_T) ({ frames := 3, cells := 0, slots := 0, locals := 69 } : Room)).room s m ([.ref a_F, .ref a_P] : List Value).toArray below meth c H locs 0 0 (MQ below (va_Qi (fun (r : Int32) (u : Int32 × Int32 × (Nat → Int32) × (Nat → Int32) × (Nat → Int32)) => Q r u.1 u.2.1 u.2.2.1 u.2.2.2.1 u.2.2.2.2) (cx_B g (w0_X1_find g a_F a_P a_F_pivots a_F_reciprocals a_F_below a_P_entries a_P_order a_P_places a_P_rights a_P_weights F_known F_rows P_rows P_order P_entries F_below F_pivots F_reciprocals) s.heap.size (w1_X1_find g a_F a_P a_F_pivots a_F_reciprocals a_F_below a_P_entries a_P_order a_P_places a_P_rights a_P_weights F_known F_rows P_rows P_order P_entries F_below F_pivots F_reciprocals)) (va_A (w0_X1_find g a_F a_P a_F_pivots a_F_reciprocals a_F_below a_P_entries a_P_order a_P_places a_P_rights a_P_weights F_known F_rows P_rows P_order P_entries F_below F_pivots F_reciprocals) s.heap.size)) ([.ref a_F, .ref a_P] : List Value).toArray s 0 0 (va_A (w0_X1_find g a_F a_P a_F_pivots a_F_reciprocals a_F_below a_P_entries a_P_order a_P_places a_P_rights a_P_weights F_known F_rows P_rows P_order P_entries F_below F_pivots F_reciprocals) s.heap.size)) (F0 m 59 ls [])) := ⟨_, rfl⟩
  have hs1 : ∀ (x2 : Int32) (v_F_known : Int32) (v_F_rows : Int32) (v_F_below : (Nat → Int32)) (v_F_pivots : (Nat → Int32)) (v_F_reciprocals : (Nat → Int32)), vc_X1_find_1 F_known F_rows P_rows P_order P_entries F_below F_pivots F_reciprocals Q G1 G2 x2 v_F_known v_F_rows v_F_below v_F_pivots v_F_reciprocals → G1 x2 v_F_known v_F_rows v_F_below v_F_pivots v_F_reciprocals := by
    rw [hG1, hG2]
    intro x2 v_F_known v_F_rows v_F_below v_F_pivots v_F_reciprocals hv H locs ls hP hD hS hl
    unfold vc_X1_find_1 at hv
    refine lv_iload_n hx hb dX1_find_15 rfl (lv_at hl 0 rfl) ?_
    refine lv_aload_n hx hb dX1_find_16 rfl (lv_at hl 1 rfl) ?_
    refine va_get (D := g.1) (ci := 1) (v := .int v_F_rows) (C := RX1) (T := TX1) (N := 5) hx hb hts cw_in_X1 hown hK.1 hP 0 rfl rfl 1 (by decide) (hts _ cw_f_X1_15) (fun _ h9 => h9) rfl dX1_find_17 ?_
    refine lv_icmp_ge (tgt := 108) hx hb dX1_find_20 (by decide) (fun hc => ?_) (fun hc => ?_)
    · replace hv := hv.1 hc
      refine lv_aload_n hx hb dX1_find_108 rfl (lv_at hl 1 rfl) ?_
      refine lv_iconst (v := 1) hx hb dX1_find_109 (by decide) ?_
      refine va_put (D := g.1) (ci := 1) (v := .int 1) (ty := .boolean) (C := RX1) (T := TX1) (N := 5) hx hb hts cw_in_X1 tyX1 tyX1_ok nmX1 hown hK.1 hP hD hS 0 rfl rfl 0 (by decide) (hts _ cw_f_X1_9) (fun _ h9 => h9) rfl (by decide +kernel) rfl rfl (Nat.le_of_ble_eq_true rfl) dX1_find_110 (fun H locs hP hD hS => ?_)
      have hP : va_P g.1 vwCl [(a_F, .inr (1, [.int 1, .int v_F_rows, .ref a_F_pivots, .ref a_F_reciprocals, .ref a_F_below])), (a_P, .inr (2, [.int P_rows, .ref a_P_entries, .ref a_P_order, .ref a_P_places, .ref a_P_rights, .ref a_P_weights])), (a_P_order, .inl (g.2.1, 16, .inl P_order)), (a_P_entries, .inl (g.2.1, 256, .inl P_entries)), (a_F_below, .inl (g.2.1, 256, .inl v_F_below)), (a_F_pivots, .inl (g.2.1, 16, .inl v_F_pivots)), (a_F_reciprocals, .inl (g.2.1, 16, .inl v_F_reciprocals))] H := hP
      have hD : va_D A [(a_F, .inr (1, [.int 1, .int v_F_rows, .ref a_F_pivots, .ref a_F_reciprocals, .ref a_F_below])), (a_P, .inr (2, [.int P_rows, .ref a_P_entries, .ref a_P_order, .ref a_P_places, .ref a_P_rights, .ref a_P_weights])), (a_P_order, .inl (g.2.1, 16, .inl P_order)), (a_P_entries, .inl (g.2.1, 256, .inl P_entries)), (a_F_below, .inl (g.2.1, 256, .inl v_F_below)), (a_F_pivots, .inl (g.2.1, 16, .inl v_F_pivots)), (a_F_reciprocals, .inl (g.2.1, 16, .inl v_F_reciprocals))] := hD
      refine lv_aload_n hx hb dX1_find_113 rfl (lv_at hl 1 rfl) ?_
      refine va_get (D := g.1) (ci := 1) (v := .int v_F_rows) (C := RX1) (T := TX1) (N := 5) hx hb hts cw_in_X1 hown hK.1 hP 0 rfl rfl 1 (by decide) (hts _ cw_f_X1_15) (fun _ h9 => h9) rfl dX1_find_114 ?_
      exact cx_iret hx hb hr hlocks hAe hS (1, v_F_rows, v_F_below, v_F_pivots, v_F_reciprocals) hv hP hD dX1_find_117
    · replace hv := hv.2 hc
      refine lv_aload_n hx hb dX1_find_23 rfl (lv_at hl 1 rfl) ?_
      refine lv_aload_n hx hb dX1_find_24 rfl (lv_at hl 2 rfl) ?_
      refine lv_iload_n hx hb dX1_find_25 rfl (lv_at hl 0 rfl) ?_
      refine lv_iload_n hx hb dX1_find_26 rfl (lv_at hl 0 rfl) ?_
      refine cx_iVr (As := [.ref a_P, .int x2, .int x2]) (rest := []) ⟨hx, hb, hml, hown, hts⟩ (c_X1_remainder l g a_F a_P a_P_entries a_P_order a_P_places a_P_rights a_P_weights a_F_pivots a_F_reciprocals a_F_below x2 x2 P_rows P_order P_entries v_F_known v_F_rows v_F_below v_F_pivots hv) (cx_cwV 3 hts cw_m_X1_32 cw_i_X1_remainder cw_s_X1_remainder cw_n_X1 cw_c_X1_remainder rfl rfl (by decide +kernel) ⟨Nat.le_of_ble_eq_true rfl, Nat.le_of_ble_eq_true rfl⟩) hK hP hD hS hA 0 1 rfl rfl [1, 2, 3, 0, 4, 5] rfl rfl rfl hl.1 rfl (Nat.le_of_ble_eq_true rfl) dX1_find_27 ⟨Nat.le_of_ble_eq_true rfl, Nat.le_of_ble_eq_true rfl⟩ (fun r_1 H locs hv hP hS => ?_)
      refine lv_istore_n (lv' := [(3, .int r_1), (2, .int x2), (0, .ref a_F), (1, .ref a_P)]) hx hb dX1_find_30 rfl hl (by decide) rfl (fun ls hl => ?_)
      refine lv_iload_n hx hb dX1_find_31 rfl (lv_at hl 0 rfl) ?_
      refine lv_if_ne (tgt := 37) hx hb dX1_find_32 (by decide) (fun hc => ?_) (fun hc => ?_)
      · replace hv := hv.2 hc
        refine lv_aload_n hx hb dX1_find_37 rfl (lv_at hl 2 rfl) ?_
        refine va_get (D := g.1) (ci := 1) (v := .ref a_F_pivots) (C := RX1) (T := TX1) (N := 5) hx hb hts cw_in_X1 hown hK.1 hP 0 rfl rfl 2 (by decide) (hts _ cw_f_X1_19) (fun _ h9 => h9) rfl dX1_find_38 ?_
        refine lv_iload_n hx hb dX1_find_41 rfl (lv_at hl 1 rfl) ?_
        refine lv_iload_n hx hb dX1_find_42 rfl (lv_at hl 0 rfl) ?_
        obtain ⟨h_2, hv⟩ := hv
        refine va_iast (D := g.1) hx hb hK.1 hP hD hS 5 0 rfl rfl h_2 dX1_find_43 (fun H locs hP hD hS => ?_)
        have hP : va_P g.1 vwCl [(a_F, .inr (1, [.int v_F_known, .int v_F_rows, .ref a_F_pivots, .ref a_F_reciprocals, .ref a_F_below])), (a_P, .inr (2, [.int P_rows, .ref a_P_entries, .ref a_P_order, .ref a_P_places, .ref a_P_rights, .ref a_P_weights])), (a_P_order, .inl (g.2.1, 16, .inl P_order)), (a_P_entries, .inl (g.2.1, 256, .inl P_entries)), (a_F_below, .inl (g.2.1, 256, .inl v_F_below)), (a_F_pivots, .inl (g.2.1, 16, .inl (upd v_F_pivots (Int32.toNatClampNeg x2) r_1))), (a_F_reciprocals, .inl (g.2.1, 16, .inl v_F_reciprocals))] H := hP
        have hD : va_D A [(a_F, .inr (1, [.int v_F_known, .int v_F_rows, .ref a_F_pivots, .ref a_F_reciprocals, .ref a_F_below])), (a_P, .inr (2, [.int P_rows, .ref a_P_entries, .ref a_P_order, .ref a_P_places, .ref a_P_rights, .ref a_P_weights])), (a_P_order, .inl (g.2.1, 16, .inl P_order)), (a_P_entries, .inl (g.2.1, 256, .inl P_entries)), (a_F_below, .inl (g.2.1, 256, .inl v_F_below)), (a_F_pivots, .inl (g.2.1, 16, .inl (upd v_F_pivots (Int32.toNatClampNeg x2) r_1))), (a_F_reciprocals, .inl (g.2.1, 16, .inl v_F_reciprocals))] := hD
        refine lv_aload_n hx hb dX1_find_44 rfl (lv_at hl 2 rfl) ?_
        refine va_get (D := g.1) (ci := 1) (v := .ref a_F_reciprocals) (C := RX1) (T := TX1) (N := 5) hx hb hts cw_in_X1 hown hK.1 hP 0 rfl rfl 3 (by decide) (hts _ cw_f_X1_23) (fun _ h9 => h9) rfl dX1_find_45 ?_
        refine lv_iload_n hx hb dX1_find_48 rfl (lv_at hl 1 rfl) ?_
        refine lv_iload_n hx hb dX1_find_49 rfl (lv_at hl 0 rfl) ?_
        refine cx_iNr (As := [.int r_1]) (rest := [.int x2, .ref a_F_reciprocals]) ⟨hx, hb, hml, hown, hts⟩ (cp_X4_reciprocal l g r_1) (cx_cwN 1 hts (hK.2.at 14 rfl) cw_t_X4_reciprocal cw_n_X4 cw_c_X4_reciprocal rfl rfl (by decide +kernel) ⟨Nat.le_of_ble_eq_true rfl, Nat.le_of_ble_eq_true rfl⟩) hK hP hD hS hA [] rfl rfl rfl hl.1 rfl (Nat.le_of_ble_eq_true rfl) dX1_find_50 ⟨Nat.le_of_ble_eq_true rfl, Nat.le_of_ble_eq_true rfl⟩ (fun r_3 H locs hr9 hP hS => ?_)
        replace hr9 : r_3 = (f_rec r_1) := hr9
        subst hr9
        obtain ⟨h_4, hv⟩ := hv
        refine va_iast (D := g.1) hx hb hK.1 hP hD hS 6 0 rfl rfl h_4 dX1_find_53 (fun H locs hP hD hS => ?_)
        have hP : va_P g.1 vwCl [(a_F, .inr (1, [.int v_F_known, .int v_F_rows, .ref a_F_pivots, .ref a_F_reciprocals, .ref a_F_below])), (a_P, .inr (2, [.int P_rows, .ref a_P_entries, .ref a_P_order, .ref a_P_places, .ref a_P_rights, .ref a_P_weights])), (a_P_order, .inl (g.2.1, 16, .inl P_order)), (a_P_entries, .inl (g.2.1, 256, .inl P_entries)), (a_F_below, .inl (g.2.1, 256, .inl v_F_below)), (a_F_pivots, .inl (g.2.1, 16, .inl (upd v_F_pivots (Int32.toNatClampNeg x2) r_1))), (a_F_reciprocals, .inl (g.2.1, 16, .inl (upd v_F_reciprocals (Int32.toNatClampNeg x2) (f_rec r_1))))] H := hP
        have hD : va_D A [(a_F, .inr (1, [.int v_F_known, .int v_F_rows, .ref a_F_pivots, .ref a_F_reciprocals, .ref a_F_below])), (a_P, .inr (2, [.int P_rows, .ref a_P_entries, .ref a_P_order, .ref a_P_places, .ref a_P_rights, .ref a_P_weights])), (a_P_order, .inl (g.2.1, 16, .inl P_order)), (a_P_entries, .inl (g.2.1, 256, .inl P_entries)), (a_F_below, .inl (g.2.1, 256, .inl v_F_below)), (a_F_pivots, .inl (g.2.1, 16, .inl (upd v_F_pivots (Int32.toNatClampNeg x2) r_1))), (a_F_reciprocals, .inl (g.2.1, 16, .inl (upd v_F_reciprocals (Int32.toNatClampNeg x2) (f_rec r_1))))] := hD
        refine lv_iload_n hx hb dX1_find_54 rfl (lv_at hl 1 rfl) ?_
        refine lv_iconst (v := 1) hx hb dX1_find_55 (by decide) ?_
        refine lv_iadd hx hb dX1_find_56 ?_
        refine lv_topi (fun x4_5 ex4_5 => ?_)
        replace hv := hv x4_5 ex4_5
        refine lv_istore (lv' := [(4, .int x4_5), (3, .int r_1), (2, .int x2), (0, .ref a_F), (1, .ref a_P)]) hx hb dX1_find_57 hl (by decide) rfl (fun ls hl => ?_)
        exact hv _ _ _ hP hD hS (lv_sub hl [0, 1, 2, 3, 4] rfl)
      · replace hv := hv.1 hc
        refine lv_iload_n hx hb dX1_find_35 rfl (lv_at hl 1 rfl) ?_
        exact cx_iret hx hb hr hlocks hAe hS (v_F_known, v_F_rows, v_F_below, v_F_pivots, v_F_reciprocals) hv hP hD dX1_find_36
  have hs2 : ∀ (x4 : Int32) (x3 : Int32) (x2 : Int32) (v_F_known : Int32) (v_F_rows : Int32) (v_F_below : (Nat → Int32)) (v_F_pivots : (Nat → Int32)) (v_F_reciprocals : (Nat → Int32)), vc_X1_find_2 F_known F_rows P_rows P_order P_entries F_below F_pivots F_reciprocals Q G1 G2 x4 x3 x2 v_F_known v_F_rows v_F_below v_F_pivots v_F_reciprocals → G2 x4 x3 x2 v_F_known v_F_rows v_F_below v_F_pivots v_F_reciprocals := by
    rw [hG1, hG2]
    intro x4 x3 x2 v_F_known v_F_rows v_F_below v_F_pivots v_F_reciprocals hv H locs ls hP hD hS hl
    unfold vc_X1_find_2 at hv
    refine lv_iload hx hb dX1_find_59 (lv_at hl 0 rfl) ?_
    refine lv_aload_n hx hb dX1_find_61 rfl (lv_at hl 3 rfl) ?_
    refine va_get (D := g.1) (ci := 1) (v := .int v_F_rows) (C := RX1) (T := TX1) (N := 5) hx hb hts cw_in_X1 hown hK.1 hP 0 rfl rfl 1 (by decide) (hts _ cw_f_X1_15) (fun _ h9 => h9) rfl dX1_find_62 ?_
    refine lv_icmp_ge (tgt := 102) hx hb dX1_find_65 (by decide) (fun hc => ?_) (fun hc => ?_)
    · replace hv := hv.1 hc
      obtain ⟨x2_1, ex2_1⟩ : ∃ y : Int32, y = x2 + 1 := ⟨_, rfl⟩
      replace hv := hv x2_1 ex2_1
      refine lv_iinc (v := x2_1) (lv' := [(2, .int x2_1), (4, .int x4), (3, .int x3), (0, .ref a_F), (1, .ref a_P)]) hx hb dX1_find_102 hl (k := 2) rfl (by rw [ex2_1]; rfl) (by decide) rfl (fun ls hl => ?_)
      refine lv_goto (tgt := 15) hx hb dX1_find_105 (by decide) ?_
      exact hv _ _ _ hP hD hS (lv_sub hl [0, 3, 4] rfl)
    · replace hv := hv.2 hc
      refine lv_aload_n hx hb dX1_find_68 rfl (lv_at hl 3 rfl) ?_
      refine va_get (D := g.1) (ci := 1) (v := .ref a_F_below) (C := RX1) (T := TX1) (N := 5) hx hb hts cw_in_X1 hown hK.1 hP 0 rfl rfl 4 (by decide) (hts _ cw_f_X1_26) (fun _ h9 => h9) rfl dX1_find_69 ?_
      refine lv_iload hx hb dX1_find_72 (lv_at hl 0 rfl) ?_
      refine lv_iload_n hx hb dX1_find_74 rfl (lv_at hl 2 rfl) ?_
      refine cx_iNr (As := [.int x4, .int x2]) (rest := [.ref a_F_below]) ⟨hx, hb, hml, hown, hts⟩ (cp_X4_cell l g x4 x2) (cx_cwN 2 hts (hK.2.at 11 rfl) cw_t_X4_cell cw_n_X4 cw_c_X4_cell rfl rfl (by decide +kernel) ⟨Nat.le_of_ble_eq_true rfl, Nat.le_of_ble_eq_true rfl⟩) hK hP hD hS hA [] rfl rfl rfl hl.1 rfl (Nat.le_of_ble_eq_true rfl) dX1_find_75 ⟨Nat.le_of_ble_eq_true rfl, Nat.le_of_ble_eq_true rfl⟩ (fun r_2 H locs hr9 hP hS => ?_)
      replace hr9 : r_2 = (f_cell x4 x2) := hr9
      subst hr9
      refine lv_aload_n hx hb dX1_find_78 rfl (lv_at hl 3 rfl) ?_
      refine lv_aload_n hx hb dX1_find_79 rfl (lv_at hl 4 rfl) ?_
      refine lv_iload hx hb dX1_find_80 (lv_at hl 0 rfl) ?_
      refine lv_iload_n hx hb dX1_find_82 rfl (lv_at hl 2 rfl) ?_
      refine cx_iVr (As := [.ref a_P, .int x4, .int x2]) (rest := [.int (f_cell x4 x2), .ref a_F_below]) ⟨hx, hb, hml, hown, hts⟩ (c_X1_remainder l g a_F a_P a_P_entries a_P_order a_P_places a_P_rights a_P_weights a_F_pivots a_F_reciprocals a_F_below x4 x2 P_rows P_order P_entries v_F_known v_F_rows v_F_below v_F_pivots hv) (cx_cwV 3 hts cw_m_X1_32 cw_i_X1_remainder cw_s_X1_remainder cw_n_X1 cw_c_X1_remainder rfl rfl (by decide +kernel) ⟨Nat.le_of_ble_eq_true rfl, Nat.le_of_ble_eq_true rfl⟩) hK hP hD hS hA 0 1 rfl rfl [1, 2, 3, 0, 4, 5] rfl rfl rfl hl.1 rfl (Nat.le_of_ble_eq_true rfl) dX1_find_83 ⟨Nat.le_of_ble_eq_true rfl, Nat.le_of_ble_eq_true rfl⟩ (fun r_3 H locs hv hP hS => ?_)
      refine lv_aload_n hx hb dX1_find_86 rfl (lv_at hl 3 rfl) ?_
      refine va_get (D := g.1) (ci := 1) (v := .ref a_F_reciprocals) (C := RX1) (T := TX1) (N := 5) hx hb hts cw_in_X1 hown hK.1 hP 0 rfl rfl 3 (by decide) (hts _ cw_f_X1_23) (fun _ h9 => h9) rfl dX1_find_87 ?_
      refine lv_iload_n hx hb dX1_find_90 rfl (lv_at hl 2 rfl) ?_
      obtain ⟨h_4, hv⟩ := hv
      refine va_iald (D := g.1) hx hb hK.1 hP 6 0 rfl rfl h_4 dX1_find_91 ?_
      refine cx_iNr (As := [.int r_3, .int (v_F_reciprocals (Int32.toNatClampNeg x2))]) (rest := [.int (f_cell x4 x2), .ref a_F_below]) ⟨hx, hb, hml, hown, hts⟩ (cp_X4_times l g r_3 (v_F_reciprocals (Int32.toNatClampNeg x2))) (cx_cwN 2 hts (hK.2.at 12 rfl) cw_t_X4_times cw_n_X4 cw_c_X4_times rfl rfl (by decide +kernel) ⟨Nat.le_of_ble_eq_true rfl, Nat.le_of_ble_eq_true rfl⟩) hK hP hD hS hA [] rfl rfl rfl hl.1 rfl (Nat.le_of_ble_eq_true rfl) dX1_find_92 ⟨Nat.le_of_ble_eq_true rfl, Nat.le_of_ble_eq_true rfl⟩ (fun r_5 H locs hr9 hP hS => ?_)
      replace hr9 : r_5 = (f_times r_3 (v_F_reciprocals (Int32.toNatClampNeg x2))) := hr9
      subst hr9
      obtain ⟨h_6, hv⟩ := hv
      refine va_iast (D := g.1) hx hb hK.1 hP hD hS 4 0 rfl rfl h_6 dX1_find_95 (fun H locs hP hD hS => ?_)
      have hP : va_P g.1 vwCl [(a_F, .inr (1, [.int v_F_known, .int v_F_rows, .ref a_F_pivots, .ref a_F_reciprocals, .ref a_F_below])), (a_P, .inr (2, [.int P_rows, .ref a_P_entries, .ref a_P_order, .ref a_P_places, .ref a_P_rights, .ref a_P_weights])), (a_P_order, .inl (g.2.1, 16, .inl P_order)), (a_P_entries, .inl (g.2.1, 256, .inl P_entries)), (a_F_below, .inl (g.2.1, 256, .inl (upd v_F_below (Int32.toNatClampNeg (f_cell x4 x2)) (f_times r_3 (v_F_reciprocals (Int32.toNatClampNeg x2)))))), (a_F_pivots, .inl (g.2.1, 16, .inl v_F_pivots)), (a_F_reciprocals, .inl (g.2.1, 16, .inl v_F_reciprocals))] H := hP
      have hD : va_D A [(a_F, .inr (1, [.int v_F_known, .int v_F_rows, .ref a_F_pivots, .ref a_F_reciprocals, .ref a_F_below])), (a_P, .inr (2, [.int P_rows, .ref a_P_entries, .ref a_P_order, .ref a_P_places, .ref a_P_rights, .ref a_P_weights])), (a_P_order, .inl (g.2.1, 16, .inl P_order)), (a_P_entries, .inl (g.2.1, 256, .inl P_entries)), (a_F_below, .inl (g.2.1, 256, .inl (upd v_F_below (Int32.toNatClampNeg (f_cell x4 x2)) (f_times r_3 (v_F_reciprocals (Int32.toNatClampNeg x2)))))), (a_F_pivots, .inl (g.2.1, 16, .inl v_F_pivots)), (a_F_reciprocals, .inl (g.2.1, 16, .inl v_F_reciprocals))] := hD
      obtain ⟨x4_7, ex4_7⟩ : ∃ y : Int32, y = x4 + 1 := ⟨_, rfl⟩
      replace hv := hv x4_7 ex4_7
      refine lv_iinc (v := x4_7) (lv' := [(4, .int x4_7), (3, .int x3), (2, .int x2), (0, .ref a_F), (1, .ref a_P)]) hx hb dX1_find_96 hl (k := 0) rfl (by rw [ex4_7]; rfl) (by decide) rfl (fun ls hl => ?_)
      refine lv_goto (tgt := 59) hx hb dX1_find_99 (by decide) ?_
      exact hv _ _ _ hP hD hS (lv_sub hl [0, 1, 2, 3, 4] rfl)
  replace hv := hv G1 G2 hs1 hs2
  rw [hG1, hG2] at hv
  unfold vc_X1_find_0 at hv
  refine lv_aload_n hx hb dX1_find_0 rfl (lv_at hl 0 rfl) ?_
  refine lv_iconst (v := 0) hx hb dX1_find_1 (by decide) ?_
  refine va_put (D := g.1) (ci := 1) (v := .int 0) (ty := .boolean) (C := RX1) (T := TX1) (N := 5) hx hb hts cw_in_X1 tyX1 tyX1_ok nmX1 hown hK.1 hP hD hS 0 rfl rfl 0 (by decide) (hts _ cw_f_X1_9) (fun _ h9 => h9) rfl (by decide +kernel) rfl rfl (Nat.le_of_ble_eq_true rfl) dX1_find_2 (fun H locs hP hD hS => ?_)
  have hP : va_P g.1 vwCl [(a_F, .inr (1, [.int 0, .int F_rows, .ref a_F_pivots, .ref a_F_reciprocals, .ref a_F_below])), (a_P, .inr (2, [.int P_rows, .ref a_P_entries, .ref a_P_order, .ref a_P_places, .ref a_P_rights, .ref a_P_weights])), (a_P_order, .inl (g.2.1, 16, .inl P_order)), (a_P_entries, .inl (g.2.1, 256, .inl P_entries)), (a_F_below, .inl (g.2.1, 256, .inl F_below)), (a_F_pivots, .inl (g.2.1, 16, .inl F_pivots)), (a_F_reciprocals, .inl (g.2.1, 16, .inl F_reciprocals))] H := hP
  have hD : va_D A [(a_F, .inr (1, [.int 0, .int F_rows, .ref a_F_pivots, .ref a_F_reciprocals, .ref a_F_below])), (a_P, .inr (2, [.int P_rows, .ref a_P_entries, .ref a_P_order, .ref a_P_places, .ref a_P_rights, .ref a_P_weights])), (a_P_order, .inl (g.2.1, 16, .inl P_order)), (a_P_entries, .inl (g.2.1, 256, .inl P_entries)), (a_F_below, .inl (g.2.1, 256, .inl F_below)), (a_F_pivots, .inl (g.2.1, 16, .inl F_pivots)), (a_F_reciprocals, .inl (g.2.1, 16, .inl F_reciprocals))] := hD
  refine lv_aload_n hx hb dX1_find_5 rfl (lv_at hl 0 rfl) ?_
  refine lv_aload_n hx hb dX1_find_6 rfl (lv_at hl 1 rfl) ?_
  refine va_get (D := g.1) (ci := 2) (v := .int P_rows) (C := RX2) (T := TX2) (N := 6) hx hb hts cw_in_X2 hown hK.1 hP 1 rfl rfl 0 (by decide) (hts _ cw_f_X1_29) (fun _ h9 => h9) rfl dX1_find_7 ?_
  refine va_put (D := g.1) (ci := 1) (v := .int P_rows) (ty := .int) (C := RX1) (T := TX1) (N := 5) hx hb hts cw_in_X1 tyX1 tyX1_ok nmX1 hown hK.1 hP hD hS 0 rfl rfl 1 (by decide) (hts _ cw_f_X1_15) (fun _ h9 => h9) rfl (by decide +kernel) rfl rfl (Nat.le_of_ble_eq_true rfl) dX1_find_10 (fun H locs hP hD hS => ?_)
  have hP : va_P g.1 vwCl [(a_F, .inr (1, [.int 0, .int P_rows, .ref a_F_pivots, .ref a_F_reciprocals, .ref a_F_below])), (a_P, .inr (2, [.int P_rows, .ref a_P_entries, .ref a_P_order, .ref a_P_places, .ref a_P_rights, .ref a_P_weights])), (a_P_order, .inl (g.2.1, 16, .inl P_order)), (a_P_entries, .inl (g.2.1, 256, .inl P_entries)), (a_F_below, .inl (g.2.1, 256, .inl F_below)), (a_F_pivots, .inl (g.2.1, 16, .inl F_pivots)), (a_F_reciprocals, .inl (g.2.1, 16, .inl F_reciprocals))] H := hP
  have hD : va_D A [(a_F, .inr (1, [.int 0, .int P_rows, .ref a_F_pivots, .ref a_F_reciprocals, .ref a_F_below])), (a_P, .inr (2, [.int P_rows, .ref a_P_entries, .ref a_P_order, .ref a_P_places, .ref a_P_rights, .ref a_P_weights])), (a_P_order, .inl (g.2.1, 16, .inl P_order)), (a_P_entries, .inl (g.2.1, 256, .inl P_entries)), (a_F_below, .inl (g.2.1, 256, .inl F_below)), (a_F_pivots, .inl (g.2.1, 16, .inl F_pivots)), (a_F_reciprocals, .inl (g.2.1, 16, .inl F_reciprocals))] := hD
  refine lv_iconst (v := 0) hx hb dX1_find_13 (by decide) ?_
  refine lv_istore_n (lv' := [(2, .int 0), (0, .ref a_F), (1, .ref a_P)]) hx hb dX1_find_14 rfl hl (by decide) rfl (fun ls hl => ?_)
  exact hv _ _ _ hP hD hS (lv_sub hl [0, 1, 2] rfl)
def vc_X1_resolve_0 (F_known : Int32) (F_rows : Int32) (right : (Nat → Int32)) (F_below : (Nat → Int32)) (F_reciprocals : (Nat → Int32)) (Q : (Nat → Int32) → Prop) (G1 : Int32 → (Nat → Int32) → Prop) (G2 : Int32 → Int32 → (Nat → Int32) → Prop) (G3 : Int32 → (Nat → Int32) → Prop) (G4 : Int32 → (Nat → Int32) → Prop) (G5 : Int32 → Int32 → (Nat → Int32) → Prop)  : Prop := G1 0 right
def vc_X1_resolve_1 (F_known : Int32) (F_rows : Int32) (right : (Nat → Int32)) (F_below : (Nat → Int32)) (F_reciprocals : (Nat → Int32)) (Q : (Nat → Int32) → Prop) (G1 : Int32 → (Nat → Int32) → Prop) (G2 : Int32 → Int32 → (Nat → Int32) → Prop) (G3 : Int32 → (Nat → Int32) → Prop) (G4 : Int32 → (Nat → Int32) → Prop) (G5 : Int32 → Int32 → (Nat → Int32) → Prop) (x2 : Int32) (v_right : (Nat → Int32)) : Prop := (F_rows ≤ x2 → (G3 0 v_right)) ∧ (¬ F_rows ≤ x2 → (G2 0 x2 v_right))
def vc_X1_resolve_2 (F_known : Int32) (F_rows : Int32) (right : (Nat → Int32)) (F_below : (Nat → Int32)) (F_reciprocals : (Nat → Int32)) (Q : (Nat → Int32) → Prop) (G1 : Int32 → (Nat → Int32) → Prop) (G2 : Int32 → Int32 → (Nat → Int32) → Prop) (G3 : Int32 → (Nat → Int32) → Prop) (G4 : Int32 → (Nat → Int32) → Prop) (G5 : Int32 → Int32 → (Nat → Int32) → Prop) (x3 : Int32) (x2 : Int32) (v_right : (Nat → Int32)) : Prop := (x2 ≤ x3 → (∀ x2_1 : Int32, x2_1 = x2 + 1 → (G1 x2_1 v_right))) ∧ (¬ x2 ≤ x3 → (vp_in x2 16 ∧ (vp_in (f_cell x2 x3) 256 ∧ (vp_in x3 16 ∧ (vp_in x2 16 ∧ (∀ x3_9 : Int32, x3_9 = x3 + 1 → (G2 x3_9 x2 (upd v_right (Int32.toNatClampNeg x2) (f_minus (v_right (Int32.toNatClampNeg x2)) (f_times (F_below (Int32.toNatClampNeg (f_cell x2 x3))) (v_right (Int32.toNatClampNeg x3))))))))))))
def vc_X1_resolve_3 (F_known : Int32) (F_rows : Int32) (right : (Nat → Int32)) (F_below : (Nat → Int32)) (F_reciprocals : (Nat → Int32)) (Q : (Nat → Int32) → Prop) (G1 : Int32 → (Nat → Int32) → Prop) (G2 : Int32 → Int32 → (Nat → Int32) → Prop) (G3 : Int32 → (Nat → Int32) → Prop) (G4 : Int32 → (Nat → Int32) → Prop) (G5 : Int32 → Int32 → (Nat → Int32) → Prop) (x2 : Int32) (v_right : (Nat → Int32)) : Prop := (F_rows ≤ x2 → (∀ x2_1 : Int32, x2_1 = (F_rows - 1) → (G4 x2_1 v_right))) ∧ (¬ F_rows ≤ x2 → (vp_in x2 16 ∧ (vp_in x2 16 ∧ (vp_in x2 16 ∧ (∀ x2_6 : Int32, x2_6 = x2 + 1 → (G3 x2_6 (upd v_right (Int32.toNatClampNeg x2) (f_times (v_right (Int32.toNatClampNeg x2)) (F_reciprocals (Int32.toNatClampNeg x2))))))))))
def vc_X1_resolve_4 (F_known : Int32) (F_rows : Int32) (right : (Nat → Int32)) (F_below : (Nat → Int32)) (F_reciprocals : (Nat → Int32)) (Q : (Nat → Int32) → Prop) (G1 : Int32 → (Nat → Int32) → Prop) (G2 : Int32 → Int32 → (Nat → Int32) → Prop) (G3 : Int32 → (Nat → Int32) → Prop) (G4 : Int32 → (Nat → Int32) → Prop) (G5 : Int32 → Int32 → (Nat → Int32) → Prop) (x2 : Int32) (v_right : (Nat → Int32)) : Prop := (x2 < 0 → (Q v_right)) ∧ (¬ x2 < 0 → (∀ x3_1 : Int32, x3_1 = (x2 + 1) → (G5 x3_1 x2 v_right)))
def vc_X1_resolve_5 (F_known : Int32) (F_rows : Int32) (right : (Nat → Int32)) (F_below : (Nat → Int32)) (F_reciprocals : (Nat → Int32)) (Q : (Nat → Int32) → Prop) (G1 : Int32 → (Nat → Int32) → Prop) (G2 : Int32 → Int32 → (Nat → Int32) → Prop) (G3 : Int32 → (Nat → Int32) → Prop) (G4 : Int32 → (Nat → Int32) → Prop) (G5 : Int32 → Int32 → (Nat → Int32) → Prop) (x3 : Int32) (x2 : Int32) (v_right : (Nat → Int32)) : Prop := (F_rows ≤ x3 → (∀ x2_1 : Int32, x2_1 = x2 + (-1) → (G4 x2_1 v_right))) ∧ (¬ F_rows ≤ x3 → (vp_in x2 16 ∧ (vp_in (f_cell x3 x2) 256 ∧ (vp_in x3 16 ∧ (vp_in x2 16 ∧ (∀ x3_9 : Int32, x3_9 = x3 + 1 → (G5 x3_9 x2 (upd v_right (Int32.toNatClampNeg x2) (f_minus (v_right (Int32.toNatClampNeg x2)) (f_times (F_below (Int32.toNatClampNeg (f_cell x3 x2))) (v_right (Int32.toNatClampNeg x3))))))))))))
def wp_X1_resolve (F_known : Int32) (F_rows : Int32) (right : (Nat → Int32)) (F_below : (Nat → Int32)) (F_reciprocals : (Nat → Int32)) (Q : (Nat → Int32) → Prop) : Prop := ∀ (G1 : Int32 → (Nat → Int32) → Prop) (G2 : Int32 → Int32 → (Nat → Int32) → Prop) (G3 : Int32 → (Nat → Int32) → Prop) (G4 : Int32 → (Nat → Int32) → Prop) (G5 : Int32 → Int32 → (Nat → Int32) → Prop), (∀ (x2 : Int32) (v_right : (Nat → Int32)), vc_X1_resolve_1 F_known F_rows right F_below F_reciprocals Q G1 G2 G3 G4 G5 x2 v_right → G1 x2 v_right) → (∀ (x3 : Int32) (x2 : Int32) (v_right : (Nat → Int32)), vc_X1_resolve_2 F_known F_rows right F_below F_reciprocals Q G1 G2 G3 G4 G5 x3 x2 v_right → G2 x3 x2 v_right) → (∀ (x2 : Int32) (v_right : (Nat → Int32)), vc_X1_resolve_3 F_known F_rows right F_below F_reciprocals Q G1 G2 G3 G4 G5 x2 v_right → G3 x2 v_right) → (∀ (x2 : Int32) (v_right : (Nat → Int32)), vc_X1_resolve_4 F_known F_rows right F_below F_reciprocals Q G1 G2 G3 G4 G5 x2 v_right → G4 x2 v_right) → (∀ (x3 : Int32) (x2 : Int32) (v_right : (Nat → Int32)), vc_X1_resolve_5 F_known F_rows right F_below F_reciprocals Q G1 G2 G3 G4 G5 x3 x2 v_right → G5 x3 x2 v_right) → vc_X1_resolve_0 F_known F_rows right F_below F_reciprocals Q G1 G2 G3 G4 G5
abbrev w0_X1_resolve (g : cx_G) (a_F a_right a_F_pivots a_F_reciprocals a_F_below : Nat) (F_known : Int32) (F_rows : Int32) (right : (Nat → Int32)) (F_below : (Nat → Int32)) (F_reciprocals : (Nat → Int32)) : va_W := [(a_F, .inr (1, [.int F_known, .int F_rows, .ref a_F_pivots, .ref a_F_reciprocals, .ref a_F_below])), (a_right, .inl (g.2.1, 16, .inl right)), (a_F_below, .inl (g.2.1, 256, .inl F_below)), (a_F_reciprocals, .inl (g.2.1, 16, .inl F_reciprocals))]
abbrev w1_X1_resolve (g : cx_G) (a_F a_right a_F_pivots a_F_reciprocals a_F_below : Nat) (F_known : Int32) (F_rows : Int32) (right : (Nat → Int32)) (F_below : (Nat → Int32)) (F_reciprocals : (Nat → Int32)) (u : (Nat → Int32)) : va_W := [(a_F, .inr (1, [.int F_known, .int F_rows, .ref a_F_pivots, .ref a_F_reciprocals, .ref a_F_below])), (a_right, .inl (g.2.1, 16, .inl u)), (a_F_below, .inl (g.2.1, 256, .inl F_below)), (a_F_reciprocals, .inl (g.2.1, 16, .inl F_reciprocals))]
set_option maxHeartbeats 4000000 in
set_option maxRecDepth 100000 in
theorem c_X1_resolve (l : Launch) (g : cx_G) (a_F a_right a_F_pivots a_F_reciprocals a_F_below : Nat) (F_known : Int32) (F_rows : Int32) (right : (Nat → Int32)) (F_below : (Nat → Int32)) (F_reciprocals : (Nat → Int32)) {Q : (Nat → Int32) → Prop} (hv : wp_X1_resolve F_known F_rows right F_below F_reciprocals Q) : cx_Mv l g yX1_resolve (Cond.code yX1_resolve cX1_resolve 4 none :: cx_T) ({ frames := 1, cells := 0, slots := 0, locals := 22 } : Room) [.ref a_F, .ref a_right] (w0_X1_resolve g a_F a_right a_F_pivots a_F_reciprocals a_F_below F_known F_rows right F_below F_reciprocals) (fun (u : (Nat → Int32)) => Q u) (w1_X1_resolve g a_F a_right a_F_pivots a_F_reciprocals a_F_below F_known F_rows right F_below F_reciprocals) 0 0 := by
  intro sz
  refine Met.ofW (cc := cX1_resolve) (maxL := 4) (ret := none) (by decide) rfl ?_
  intro p e s m args below meth c s₁ B hml hpre
  obtain ⟨rfl, hsz, hP, hK, hD0⟩ := hpre
  have hx := B.exec
  have hb := B.bytes
  have hr := B.returns
  have hts0 := atoms_spec (ws := (Cond.code yX1_resolve cX1_resolve 4 none :: cx_T)) B.pre
  have hts : ∀ w ∈ cx_T, w.before _ s = true := fun w h => hts0 w (List.mem_cons_of_mem _ h)
  have hown : s.vm.findClass RX1 = some m.cls := findClass_of_methodNamed B.named
  have hlocks := B.notSynchronized
  subst hsz
  have hD := hD0.self (sz := s.heap.size)
  obtain ⟨A, hAe⟩ : ∃ A : Nat → Prop, A = va_A (w0_X1_resolve g a_F a_right a_F_pivots a_F_reciprocals a_F_below F_known F_rows right F_below F_reciprocals) s.heap.size := ⟨_, rfl⟩
  rw [← hAe] at hD
  have hA : ∀ q : Nat, s.heap.size ≤ q → A q := fun q h => by rw [hAe]; exact Or.inr h
  have hS : va_S A s.heap s.heap [] := va_S.rf
  have hP : va_P g.1 vwCl [(a_F, .inr (1, [.int F_known, .int F_rows, .ref a_F_pivots, .ref a_F_reciprocals, .ref a_F_below])), (a_right, .inl (g.2.1, 16, .inl right)), (a_F_below, .inl (g.2.1, 256, .inl F_below)), (a_F_reciprocals, .inl (g.2.1, 16, .inl F_reciprocals))] s.heap := hP
  have hD : va_D A [(a_F, .inr (1, [.int F_known, .int F_rows, .ref a_F_pivots, .ref a_F_reciprocals, .ref a_F_below])), (a_right, .inl (g.2.1, 16, .inl right)), (a_F_below, .inl (g.2.1, 256, .inl F_below)), (a_F_reciprocals, .inl (g.2.1, 16, .inl F_reciprocals))] := hD
  have hl := lv_entry ([.ref a_F, .ref a_right]) (n := 4) (Nat.le_of_ble_eq_true rfl)
  rw [lg_entry_eq]
  generalize (lg_sl ([.ref a_F, .ref a_right]) ++ List.replicate (4 - (lg_sl ([.ref a_F, .ref a_right])).length) Slot.unset).toArray = ls at hl ⊢
  have hl : lv_has ls 4 [(0, .ref a_F), (1, .ref a_right)] := hl
  obtain ⟨G1, hG1⟩ : ∃ G : Int32 → (Nat → Int32) → Prop, G = (fun (x2 : Int32) (v_right : (Nat → Int32)) => ∀ (H : Heap) (locs : List Loc) (ls : Array Slot), va_P g.1 vwCl [(a_F, .inr (1, [.int F_known, .int F_rows, .ref a_F_pivots, .ref a_F_reciprocals, .ref a_F_below])), (a_right, .inl (g.2.1, 16, .inl v_right)), (a_F_below, .inl (g.2.1, 256, .inl F_below)), (a_F_reciprocals, .inl (g.2.1, 16, .inl F_reciprocals))] H → va_D A [(a_F, .inr (1, [.int F_known, .int F_rows, .ref a_F_pivots, .ref a_F_reciprocals, .ref a_F_below])), (a_right, .inl (g.2.1, 16, .inl v_right)), (a_F_below, .inl (g.2.1, 256, .inl F_below)), (a_F_reciprocals, .inl (g.2.1, 16, .inl F_reciprocals))] → va_S A s.heap H locs → lv_has ls 4 [(2, .int x2), (0, .ref a_F), (1, .ref a_right)] → W p l e (headSpec (Cond.code yX1_resolve cX1_resolve 4 none :: cx_T) ({ frames := 1, cells := 0, slots := 0, locals := 22 } : Room)).room s m ([.ref a_F, .ref a_right] : List Value).toArray below meth c H locs 0 0 (MQ below (va_Qv (fun (u : (Nat → Int32)) => Q u) (cx_B g (w0_X1_resolve g a_F a_right a_F_pivots a_F_reciprocals a_F_below F_known F_rows right F_below F_reciprocals) s.heap.size (w1_X1_resolve g a_F a_right a_F_pivots a_F_reciprocals a_F_below F_known F_rows right F_below F_reciprocals)) (va_A (w0_X1_resolve g a_F a_right a_F_pivots a_F_reciprocals a_F_below F_known F_rows right F_below F_reciprocals) s.heap.size)) ([.ref a_F, .ref a_right] : List Value).toArray s 0 0 (va_A (w0_X1_resolve g a_F a_right a_F_pivots a_F_reciprocals a_F_below F_known F_rows right F_below F_reciprocals) s.heap.size)) (F0 m 2 ls [])) := ⟨_, rfl⟩
  obtain ⟨G2, hG2⟩ : ∃ G : Int32 → Int32 → (Nat → Int32) → Prop, G = (fun (x3 : Int32) (x2 : Int32) (v_right : (Nat → Int32)) => ∀ (H : Heap) (locs : List Loc) (ls : Array Slot), va_P g.1 vwCl [(a_F, .inr (1, [.int F_known, .int F_rows, .ref a_F_pivots, .ref a_F_reciprocals, .ref a_F_below])), (a_right, .inl (g.2.1, 16, .inl v_right)), (a_F_below, .inl (g.2.1, 256, .inl F_below)), (a_F_reciprocals, .inl (g.2.1, 16, .inl F_reciprocals))] H → va_D A [(a_F, .inr (1, [.int F_known, .int F_rows, .ref a_F_pivots, .ref a_F_reciprocals, .ref a_F_below])), (a_right, .inl (g.2.1, 16, .inl v_right)), (a_F_below, .inl (g.2.1, 256, .inl F_below)), (a_F_reciprocals, .inl (g.2.1, 16, .inl F_reciprocals))] → va_S A s.heap H locs → lv_has ls 4 [(3, .int x3), (2, .int x2), (0, .ref a_F), (1, .ref a_right)] → W p l e (headSpec (Cond.code yX1_resolve cX1_resolve 4 none :: cx_T) ({ frames := 1, cells := 0, slots := 0, locals := 22 } : Room)).room s m ([.ref a_F, .ref a_right] : List Value).toArray below meth c H locs 0 0 (MQ below (va_Qv (fun (u : (Nat → Int32)) => Q u) (cx_B g (w0_X1_resolve g a_F a_right a_F_pivots a_F_reciprocals a_F_below F_known F_rows right F_below F_reciprocals) s.heap.size (w1_X1_resolve g a_F a_right a_F_pivots a_F_reciprocals a_F_below F_known F_rows right F_below F_reciprocals)) (va_A (w0_X1_resolve g a_F a_right a_F_pivots a_F_reciprocals a_F_below F_known F_rows right F_below F_reciprocals) s.heap.size)) ([.ref a_F, .ref a_right] : List Value).toArray s 0 0 (va_A (w0_X1_resolve g a_F a_right a_F_pivots a_F_reciprocals a_F_below F_known F_rows right F_below F_reciprocals) s.heap.size)) (F0 m 12 ls [])) := ⟨_, rfl⟩
  obtain ⟨G3, hG3⟩ : ∃ G : Int32 → (Nat → Int32) → Prop, G = (fun (x2 : Int32) (v_right : (Nat → Int32)) => ∀ (H : Heap) (locs : List Loc) (ls : Array Slot), va_P g.1 vwCl [(a_F, .inr (1, [.int F_known, .int F_rows, .ref a_F_pivots, .ref a_F_reciprocals, .ref a_F_below])), (a_right, .inl (g.2.1, 16, .inl v_right)), (a_F_below, .inl (g.2.1, 256, .inl F_below)), (a_F_reciprocals, .inl (g.2.1, 16, .inl F_reciprocals))] H → va_D A [(a_F, .inr (1, [.int F_known, .int F_rows, .ref a_F_pivots, .ref a_F_reciprocals, .ref a_F_below])), (a_right, .inl (g.2.1, 16, .inl v_right)), (a_F_below, .inl (g.2.1, 256, .inl F_below)), (a_F_reciprocals, .inl (g.2.1, 16, .inl F_reciprocals))] → va_S A s.heap H locs → lv_has ls 4 [(2, .int x2), (0, .ref a_F), (1, .ref a_right)] → W p l e (headSpec (Cond.code yX1_resolve cX1_resolve 4 none :: cx_T) ({ frames := 1, cells := 0, slots := 0, locals := 22 } : Room)).room s m ([.ref a_F, .ref a_right] : List Value).toArray below meth c H locs 0 0 (MQ below (va_Qv (fun (u : (Nat → Int32)) => Q u) (cx_B g (w0_X1_resolve g a_F a_right a_F_pivots a_F_reciprocals a_F_below F_known F_rows right F_below F_reciprocals) s.heap.size (w1_X1_resolve g a_F a_right a_F_pivots a_F_reciprocals a_F_below F_known F_rows right F_below F_reciprocals)) (va_A (w0_X1_resolve g a_F a_right a_F_pivots a_F_reciprocals a_F_below F_known F_rows right F_below F_reciprocals) s.heap.size)) ([.ref a_F, .ref a_right] : List Value).toArray s 0 0 (va_A (w0_X1_resolve g a_F a_right a_F_pivots a_F_reciprocals a_F_below F_known F_rows right F_below F_reciprocals) s.heap.size)) (F0 m 56 ls [])) := ⟨_, rfl⟩
  obtain ⟨G4, hG4⟩ : ∃ G : Int32 → (Nat → Int32) → Prop, G = (fun (x2 : Int32) (v_right : (Nat → Int32)) => ∀ (H : Heap) (locs : List Loc) (ls : Array Slot), va_P g.1 vwCl [(a_F, .inr (1, [.int F_known, .int F_rows, .ref a_F_pivots, .ref a_F_reciprocals, .ref a_F_below])), (a_right, .inl (g.2.1, 16, .inl v_right)), (a_F_below, .inl (g.2.1, 256, .inl F_below)), (a_F_reciprocals, .inl (g.2.1, 16, .inl F_reciprocals))] H → va_D A [(a_F, .inr (1, [.int F_known, .int F_rows, .ref a_F_pivots, .ref a_F_reciprocals, .ref a_F_below])), (a_right, .inl (g.2.1, 16, .inl v_right)), (a_F_below, .inl (g.2.1, 256, .inl F_below)), (a_F_reciprocals, .inl (g.2.1, 16, .inl F_reciprocals))] → va_S A s.heap H locs → lv_has ls 4 [(2, .int x2), (0, .ref a_F), (1, .ref a_right)] → W p l e (headSpec (Cond.code yX1_resolve cX1_resolve 4 none :: cx_T) ({ frames := 1, cells := 0, slots := 0, locals := 22 } : Room)).room s m ([.ref a_F, .ref a_right] : List Value).toArray below meth c H locs 0 0 (MQ below (va_Qv (fun (u : (Nat → Int32)) => Q u) (cx_B g (w0_X1_resolve g a_F a_right a_F_pivots a_F_reciprocals a_F_below F_known F_rows right F_below F_reciprocals) s.heap.size (w1_X1_resolve g a_F a_right a_F_pivots a_F_reciprocals a_F_below F_known F_rows right F_below F_reciprocals)) (va_A (w0_X1_resolve g a_F a_right a_F_pivots a_F_reciprocals a_F_below F_known F_rows right F_below F_reciprocals) s.heap.size)) ([.ref a_F, .ref a_right] : List Value).toArray s 0 0 (va_A (w0_X1_resolve g a_F a_right a_F_pivots a_F_reciprocals a_F_below F_known F_rows right F_below F_reciprocals) s.heap.size)) (F0 m 92 ls [])) := ⟨_, rfl⟩
  obtain ⟨G5, hG5⟩ : ∃ G : Int32 → Int32 → (Nat → Int32) → Prop, G = (fun (x3 : Int32) (x2 : Int32) (v_right : (Nat → Int32)) => ∀ (H : Heap) (locs : List Loc) (ls : Array Slot), va_P g.1 vwCl [(a_F, .inr (1, [.int F_known, .int F_rows, .ref a_F_pivots, .ref a_F_reciprocals, .ref a_F_below])), (a_right, .inl (g.2.1, 16, .inl v_right)), (a_F_below, .inl (g.2.1, 256, .inl F_below)), (a_F_reciprocals, .inl (g.2.1, 16, .inl F_reciprocals))] H → va_D A [(a_F, .inr (1, [.int F_known, .int F_rows, .ref a_F_pivots, .ref a_F_reciprocals, .ref a_F_below])), (a_right, .inl (g.2.1, 16, .inl v_right)), (a_F_below, .inl (g.2.1, 256, .inl F_below)), (a_F_reciprocals, .inl (g.2.1, 16, .inl F_reciprocals))] → va_S A s.heap H locs → lv_has ls 4 [(3, .int x3), (2, .int x2), (0, .ref a_F), (1, .ref a_right)] → W p l e (headSpec (Cond.code yX1_resolve cX1_resolve 4 none :: cx_T) ({ frames := 1, cells := 0, slots := 0, locals := 22 } : Room)).room s m ([.ref a_F, .ref a_right] : List Value).toArray below meth c H locs 0 0 (MQ below (va_Qv (fun (u : (Nat → Int32)) => Q u) (cx_B g (w0_X1_resolve g a_F a_right a_F_pivots a_F_reciprocals a_F_below F_known F_rows right F_below F_reciprocals) s.heap.size (w1_X1_resolve g a_F a_right a_F_pivots a_F_reciprocals a_F_below F_known F_rows right F_below F_reciprocals)) (va_A (w0_X1_resolve g a_F a_right a_F_pivots a_F_reciprocals a_F_below F_known F_rows right F_below F_reciprocals) s.heap.size)) ([.ref a_F, .ref a_right] : List Value).toArray s 0 0 (va_A (w0_X1_resolve g a_F a_right a_F_pivots a_F_reciprocals a_F_below F_known F_rows right F_below F_reciprocals) s.heap.size)) (F0 m 100 ls [])) := ⟨_, rfl⟩
  have hs1 : ∀ (x2 : Int32) (v_right : (Nat → Int32)), vc_X1_resolve_1 F_known F_rows right F_below F_reciprocals Q G1 G2 G3 G4 G5 x2 v_right → G1 x2 v_right := by
    rw [hG1, hG2, hG3, hG4, hG5]
    intro x2 v_right hv H locs ls hP hD hS hl
    unfold vc_X1_resolve_1 at hv
    refine lv_iload_n hx hb dX1_resolve_2 rfl (lv_at hl 0 rfl) ?_
    refine lv_aload_n hx hb dX1_resolve_3 rfl (lv_at hl 1 rfl) ?_
    refine va_get (D := g.1) (ci := 1) (v := .int F_rows) (C := RX1) (T := TX1) (N := 5) hx hb hts cw_in_X1 hown hK.1 hP 0 rfl rfl 1 (by decide) (hts _ cw_f_X1_15) (fun _ h9 => h9) rfl dX1_resolve_4 ?_
    refine lv_icmp_ge (tgt := 54) hx hb dX1_resolve_7 (by decide) (fun hc => ?_) (fun hc => ?_)
    · replace hv := hv.1 hc
      refine lv_iconst (v := 0) hx hb dX1_resolve_54 (by decide) ?_
      refine lv_istore_n (lv' := [(2, .int 0), (0, .ref a_F), (1, .ref a_right)]) hx hb dX1_resolve_55 rfl hl (by decide) rfl (fun ls hl => ?_)
      exact hv _ _ _ hP hD hS (lv_sub hl [0, 1, 2] rfl)
    · replace hv := hv.2 hc
      refine lv_iconst (v := 0) hx hb dX1_resolve_10 (by decide) ?_
      refine lv_istore_n (lv' := [(3, .int 0), (2, .int x2), (0, .ref a_F), (1, .ref a_right)]) hx hb dX1_resolve_11 rfl hl (by decide) rfl (fun ls hl => ?_)
      exact hv _ _ _ hP hD hS (lv_sub hl [0, 1, 2, 3] rfl)
  have hs2 : ∀ (x3 : Int32) (x2 : Int32) (v_right : (Nat → Int32)), vc_X1_resolve_2 F_known F_rows right F_below F_reciprocals Q G1 G2 G3 G4 G5 x3 x2 v_right → G2 x3 x2 v_right := by
    rw [hG1, hG2, hG3, hG4, hG5]
    intro x3 x2 v_right hv H locs ls hP hD hS hl
    unfold vc_X1_resolve_2 at hv
    refine lv_iload_n hx hb dX1_resolve_12 rfl (lv_at hl 0 rfl) ?_
    refine lv_iload_n hx hb dX1_resolve_13 rfl (lv_at hl 1 rfl) ?_
    refine lv_icmp_ge (tgt := 48) hx hb dX1_resolve_14 (by decide) (fun hc => ?_) (fun hc => ?_)
    · replace hv := hv.1 hc
      obtain ⟨x2_1, ex2_1⟩ : ∃ y : Int32, y = x2 + 1 := ⟨_, rfl⟩
      replace hv := hv x2_1 ex2_1
      refine lv_iinc (v := x2_1) (lv' := [(2, .int x2_1), (3, .int x3), (0, .ref a_F), (1, .ref a_right)]) hx hb dX1_resolve_48 hl (k := 1) rfl (by rw [ex2_1]; rfl) (by decide) rfl (fun ls hl => ?_)
      refine lv_goto (tgt := 2) hx hb dX1_resolve_51 (by decide) ?_
      exact hv _ _ _ hP hD hS (lv_sub hl [0, 2, 3] rfl)
    · replace hv := hv.2 hc
      refine lv_aload_n hx hb dX1_resolve_17 rfl (lv_at hl 3 rfl) ?_
      refine lv_iload_n hx hb dX1_resolve_18 rfl (lv_at hl 1 rfl) ?_
      refine lv_aload_n hx hb dX1_resolve_19 rfl (lv_at hl 3 rfl) ?_
      refine lv_iload_n hx hb dX1_resolve_20 rfl (lv_at hl 1 rfl) ?_
      obtain ⟨h_2, hv⟩ := hv
      refine va_iald (D := g.1) hx hb hK.1 hP 1 0 rfl rfl h_2 dX1_resolve_21 ?_
      refine lv_aload_n hx hb dX1_resolve_22 rfl (lv_at hl 2 rfl) ?_
      refine va_get (D := g.1) (ci := 1) (v := .ref a_F_below) (C := RX1) (T := TX1) (N := 5) hx hb hts cw_in_X1 hown hK.1 hP 0 rfl rfl 4 (by decide) (hts _ cw_f_X1_26) (fun _ h9 => h9) rfl dX1_resolve_23 ?_
      refine lv_iload_n hx hb dX1_resolve_26 rfl (lv_at hl 1 rfl) ?_
      refine lv_iload_n hx hb dX1_resolve_27 rfl (lv_at hl 0 rfl) ?_
      refine cx_iNr (As := [.int x2, .int x3]) (rest := [.ref a_F_below, .int (v_right (Int32.toNatClampNeg x2)), .int x2, .ref a_right]) ⟨hx, hb, hml, hown, hts⟩ (cp_X4_cell l g x2 x3) (cx_cwN 2 hts (hK.2.at 11 rfl) cw_t_X4_cell cw_n_X4 cw_c_X4_cell rfl rfl (by decide +kernel) ⟨Nat.le_of_ble_eq_true rfl, Nat.le_of_ble_eq_true rfl⟩) hK hP hD hS hA [] rfl rfl rfl hl.1 rfl (Nat.le_of_ble_eq_true rfl) dX1_resolve_28 ⟨Nat.le_of_ble_eq_true rfl, Nat.le_of_ble_eq_true rfl⟩ (fun r_3 H locs hr9 hP hS => ?_)
      replace hr9 : r_3 = (f_cell x2 x3) := hr9
      subst hr9
      obtain ⟨h_4, hv⟩ := hv
      refine va_iald (D := g.1) hx hb hK.1 hP 2 0 rfl rfl h_4 dX1_resolve_31 ?_
      refine lv_aload_n hx hb dX1_resolve_32 rfl (lv_at hl 3 rfl) ?_
      refine lv_iload_n hx hb dX1_resolve_33 rfl (lv_at hl 0 rfl) ?_
      obtain ⟨h_5, hv⟩ := hv
      refine va_iald (D := g.1) hx hb hK.1 hP 1 0 rfl rfl h_5 dX1_resolve_34 ?_
      refine cx_iNr (As := [.int (F_below (Int32.toNatClampNeg (f_cell x2 x3))), .int (v_right (Int32.toNatClampNeg x3))]) (rest := [.int (v_right (Int32.toNatClampNeg x2)), .int x2, .ref a_right]) ⟨hx, hb, hml, hown, hts⟩ (cp_X4_times l g (F_below (Int32.toNatClampNeg (f_cell x2 x3))) (v_right (Int32.toNatClampNeg x3))) (cx_cwN 2 hts (hK.2.at 12 rfl) cw_t_X4_times cw_n_X4 cw_c_X4_times rfl rfl (by decide +kernel) ⟨Nat.le_of_ble_eq_true rfl, Nat.le_of_ble_eq_true rfl⟩) hK hP hD hS hA [] rfl rfl rfl hl.1 rfl (Nat.le_of_ble_eq_true rfl) dX1_resolve_35 ⟨Nat.le_of_ble_eq_true rfl, Nat.le_of_ble_eq_true rfl⟩ (fun r_6 H locs hr9 hP hS => ?_)
      replace hr9 : r_6 = (f_times (F_below (Int32.toNatClampNeg (f_cell x2 x3))) (v_right (Int32.toNatClampNeg x3))) := hr9
      subst hr9
      refine cx_iNr (As := [.int (v_right (Int32.toNatClampNeg x2)), .int (f_times (F_below (Int32.toNatClampNeg (f_cell x2 x3))) (v_right (Int32.toNatClampNeg x3)))]) (rest := [.int x2, .ref a_right]) ⟨hx, hb, hml, hown, hts⟩ (cp_X4_minus l g (v_right (Int32.toNatClampNeg x2)) (f_times (F_below (Int32.toNatClampNeg (f_cell x2 x3))) (v_right (Int32.toNatClampNeg x3)))) (cx_cwN 2 hts (hK.2.at 13 rfl) cw_t_X4_minus cw_n_X4 cw_c_X4_minus rfl rfl (by decide +kernel) ⟨Nat.le_of_ble_eq_true rfl, Nat.le_of_ble_eq_true rfl⟩) hK hP hD hS hA [] rfl rfl rfl hl.1 rfl (Nat.le_of_ble_eq_true rfl) dX1_resolve_38 ⟨Nat.le_of_ble_eq_true rfl, Nat.le_of_ble_eq_true rfl⟩ (fun r_7 H locs hr9 hP hS => ?_)
      replace hr9 : r_7 = (f_minus (v_right (Int32.toNatClampNeg x2)) (f_times (F_below (Int32.toNatClampNeg (f_cell x2 x3))) (v_right (Int32.toNatClampNeg x3)))) := hr9
      subst hr9
      obtain ⟨h_8, hv⟩ := hv
      refine va_iast (D := g.1) hx hb hK.1 hP hD hS 1 0 rfl rfl h_8 dX1_resolve_41 (fun H locs hP hD hS => ?_)
      have hP : va_P g.1 vwCl [(a_F, .inr (1, [.int F_known, .int F_rows, .ref a_F_pivots, .ref a_F_reciprocals, .ref a_F_below])), (a_right, .inl (g.2.1, 16, .inl (upd v_right (Int32.toNatClampNeg x2) (f_minus (v_right (Int32.toNatClampNeg x2)) (f_times (F_below (Int32.toNatClampNeg (f_cell x2 x3))) (v_right (Int32.toNatClampNeg x3))))))), (a_F_below, .inl (g.2.1, 256, .inl F_below)), (a_F_reciprocals, .inl (g.2.1, 16, .inl F_reciprocals))] H := hP
      have hD : va_D A [(a_F, .inr (1, [.int F_known, .int F_rows, .ref a_F_pivots, .ref a_F_reciprocals, .ref a_F_below])), (a_right, .inl (g.2.1, 16, .inl (upd v_right (Int32.toNatClampNeg x2) (f_minus (v_right (Int32.toNatClampNeg x2)) (f_times (F_below (Int32.toNatClampNeg (f_cell x2 x3))) (v_right (Int32.toNatClampNeg x3))))))), (a_F_below, .inl (g.2.1, 256, .inl F_below)), (a_F_reciprocals, .inl (g.2.1, 16, .inl F_reciprocals))] := hD
      obtain ⟨x3_9, ex3_9⟩ : ∃ y : Int32, y = x3 + 1 := ⟨_, rfl⟩
      replace hv := hv x3_9 ex3_9
      refine lv_iinc (v := x3_9) (lv' := [(3, .int x3_9), (2, .int x2), (0, .ref a_F), (1, .ref a_right)]) hx hb dX1_resolve_42 hl (k := 0) rfl (by rw [ex3_9]; rfl) (by decide) rfl (fun ls hl => ?_)
      refine lv_goto (tgt := 12) hx hb dX1_resolve_45 (by decide) ?_
      exact hv _ _ _ hP hD hS (lv_sub hl [0, 1, 2, 3] rfl)
  have hs3 : ∀ (x2 : Int32) (v_right : (Nat → Int32)), vc_X1_resolve_3 F_known F_rows right F_below F_reciprocals Q G1 G2 G3 G4 G5 x2 v_right → G3 x2 v_right := by
    rw [hG1, hG2, hG3, hG4, hG5]
    intro x2 v_right hv H locs ls hP hD hS hl
    unfold vc_X1_resolve_3 at hv
    refine lv_iload_n hx hb dX1_resolve_56 rfl (lv_at hl 0 rfl) ?_
    refine lv_aload_n hx hb dX1_resolve_57 rfl (lv_at hl 1 rfl) ?_
    refine va_get (D := g.1) (ci := 1) (v := .int F_rows) (C := RX1) (T := TX1) (N := 5) hx hb hts cw_in_X1 hown hK.1 hP 0 rfl rfl 1 (by decide) (hts _ cw_f_X1_15) (fun _ h9 => h9) rfl dX1_resolve_58 ?_
    refine lv_icmp_ge (tgt := 85) hx hb dX1_resolve_61 (by decide) (fun hc => ?_) (fun hc => ?_)
    · replace hv := hv.1 hc
      refine lv_aload_n hx hb dX1_resolve_85 rfl (lv_at hl 1 rfl) ?_
      refine va_get (D := g.1) (ci := 1) (v := .int F_rows) (C := RX1) (T := TX1) (N := 5) hx hb hts cw_in_X1 hown hK.1 hP 0 rfl rfl 1 (by decide) (hts _ cw_f_X1_15) (fun _ h9 => h9) rfl dX1_resolve_86 ?_
      refine lv_iconst (v := 1) hx hb dX1_resolve_89 (by decide) ?_
      refine lv_isub hx hb dX1_resolve_90 ?_
      refine lv_topi (fun x2_1 ex2_1 => ?_)
      replace hv := hv x2_1 ex2_1
      refine lv_istore_n (lv' := [(2, .int x2_1), (0, .ref a_F), (1, .ref a_right)]) hx hb dX1_resolve_91 rfl hl (by decide) rfl (fun ls hl => ?_)
      exact hv _ _ _ hP hD hS (lv_sub hl [0, 1, 2] rfl)
    · replace hv := hv.2 hc
      refine lv_aload_n hx hb dX1_resolve_64 rfl (lv_at hl 2 rfl) ?_
      refine lv_iload_n hx hb dX1_resolve_65 rfl (lv_at hl 0 rfl) ?_
      refine lv_aload_n hx hb dX1_resolve_66 rfl (lv_at hl 2 rfl) ?_
      refine lv_iload_n hx hb dX1_resolve_67 rfl (lv_at hl 0 rfl) ?_
      obtain ⟨h_2, hv⟩ := hv
      refine va_iald (D := g.1) hx hb hK.1 hP 1 0 rfl rfl h_2 dX1_resolve_68 ?_
      refine lv_aload_n hx hb dX1_resolve_69 rfl (lv_at hl 1 rfl) ?_
      refine va_get (D := g.1) (ci := 1) (v := .ref a_F_reciprocals) (C := RX1) (T := TX1) (N := 5) hx hb hts cw_in_X1 hown hK.1 hP 0 rfl rfl 3 (by decide) (hts _ cw_f_X1_23) (fun _ h9 => h9) rfl dX1_resolve_70 ?_
      refine lv_iload_n hx hb dX1_resolve_73 rfl (lv_at hl 0 rfl) ?_
      obtain ⟨h_3, hv⟩ := hv
      refine va_iald (D := g.1) hx hb hK.1 hP 3 0 rfl rfl h_3 dX1_resolve_74 ?_
      refine cx_iNr (As := [.int (v_right (Int32.toNatClampNeg x2)), .int (F_reciprocals (Int32.toNatClampNeg x2))]) (rest := [.int x2, .ref a_right]) ⟨hx, hb, hml, hown, hts⟩ (cp_X4_times l g (v_right (Int32.toNatClampNeg x2)) (F_reciprocals (Int32.toNatClampNeg x2))) (cx_cwN 2 hts (hK.2.at 12 rfl) cw_t_X4_times cw_n_X4 cw_c_X4_times rfl rfl (by decide +kernel) ⟨Nat.le_of_ble_eq_true rfl, Nat.le_of_ble_eq_true rfl⟩) hK hP hD hS hA [] rfl rfl rfl hl.1 rfl (Nat.le_of_ble_eq_true rfl) dX1_resolve_75 ⟨Nat.le_of_ble_eq_true rfl, Nat.le_of_ble_eq_true rfl⟩ (fun r_4 H locs hr9 hP hS => ?_)
      replace hr9 : r_4 = (f_times (v_right (Int32.toNatClampNeg x2)) (F_reciprocals (Int32.toNatClampNeg x2))) := hr9
      subst hr9
      obtain ⟨h_5, hv⟩ := hv
      refine va_iast (D := g.1) hx hb hK.1 hP hD hS 1 0 rfl rfl h_5 dX1_resolve_78 (fun H locs hP hD hS => ?_)
      have hP : va_P g.1 vwCl [(a_F, .inr (1, [.int F_known, .int F_rows, .ref a_F_pivots, .ref a_F_reciprocals, .ref a_F_below])), (a_right, .inl (g.2.1, 16, .inl (upd v_right (Int32.toNatClampNeg x2) (f_times (v_right (Int32.toNatClampNeg x2)) (F_reciprocals (Int32.toNatClampNeg x2)))))), (a_F_below, .inl (g.2.1, 256, .inl F_below)), (a_F_reciprocals, .inl (g.2.1, 16, .inl F_reciprocals))] H := hP
      have hD : va_D A [(a_F, .inr (1, [.int F_known, .int F_rows, .ref a_F_pivots, .ref a_F_reciprocals, .ref a_F_below])), (a_right, .inl (g.2.1, 16, .inl (upd v_right (Int32.toNatClampNeg x2) (f_times (v_right (Int32.toNatClampNeg x2)) (F_reciprocals (Int32.toNatClampNeg x2)))))), (a_F_below, .inl (g.2.1, 256, .inl F_below)), (a_F_reciprocals, .inl (g.2.1, 16, .inl F_reciprocals))] := hD
      obtain ⟨x2_6, ex2_6⟩ : ∃ y : Int32, y = x2 + 1 := ⟨_, rfl⟩
      replace hv := hv x2_6 ex2_6
      refine lv_iinc (v := x2_6) (lv' := [(2, .int x2_6), (0, .ref a_F), (1, .ref a_right)]) hx hb dX1_resolve_79 hl (k := 0) rfl (by rw [ex2_6]; rfl) (by decide) rfl (fun ls hl => ?_)
      refine lv_goto (tgt := 56) hx hb dX1_resolve_82 (by decide) ?_
      exact hv _ _ _ hP hD hS (lv_sub hl [0, 1, 2] rfl)
  have hs4 : ∀ (x2 : Int32) (v_right : (Nat → Int32)), vc_X1_resolve_4 F_known F_rows right F_below F_reciprocals Q G1 G2 G3 G4 G5 x2 v_right → G4 x2 v_right := by
    rw [hG1, hG2, hG3, hG4, hG5]
    intro x2 v_right hv H locs ls hP hD hS hl
    unfold vc_X1_resolve_4 at hv
    refine lv_iload_n hx hb dX1_resolve_92 rfl (lv_at hl 0 rfl) ?_
    refine lv_if_lt (tgt := 145) hx hb dX1_resolve_93 (by decide) (fun hc => ?_) (fun hc => ?_)
    · replace hv := hv.1 hc
      exact cx_vret hx hb hr hlocks hAe hS v_right hv hP hD dX1_resolve_145
    · replace hv := hv.2 hc
      refine lv_iload_n hx hb dX1_resolve_96 rfl (lv_at hl 0 rfl) ?_
      refine lv_iconst (v := 1) hx hb dX1_resolve_97 (by decide) ?_
      refine lv_iadd hx hb dX1_resolve_98 ?_
      refine lv_topi (fun x3_1 ex3_1 => ?_)
      replace hv := hv x3_1 ex3_1
      refine lv_istore_n (lv' := [(3, .int x3_1), (2, .int x2), (0, .ref a_F), (1, .ref a_right)]) hx hb dX1_resolve_99 rfl hl (by decide) rfl (fun ls hl => ?_)
      exact hv _ _ _ hP hD hS (lv_sub hl [0, 1, 2, 3] rfl)
  have hs5 : ∀ (x3 : Int32) (x2 : Int32) (v_right : (Nat → Int32)), vc_X1_resolve_5 F_known F_rows right F_below F_reciprocals Q G1 G2 G3 G4 G5 x3 x2 v_right → G5 x3 x2 v_right := by
    rw [hG1, hG2, hG3, hG4, hG5]
    intro x3 x2 v_right hv H locs ls hP hD hS hl
    unfold vc_X1_resolve_5 at hv
    refine lv_iload_n hx hb dX1_resolve_100 rfl (lv_at hl 0 rfl) ?_
    refine lv_aload_n hx hb dX1_resolve_101 rfl (lv_at hl 2 rfl) ?_
    refine va_get (D := g.1) (ci := 1) (v := .int F_rows) (C := RX1) (T := TX1) (N := 5) hx hb hts cw_in_X1 hown hK.1 hP 0 rfl rfl 1 (by decide) (hts _ cw_f_X1_15) (fun _ h9 => h9) rfl dX1_resolve_102 ?_
    refine lv_icmp_ge (tgt := 139) hx hb dX1_resolve_105 (by decide) (fun hc => ?_) (fun hc => ?_)
    · replace hv := hv.1 hc
      obtain ⟨x2_1, ex2_1⟩ : ∃ y : Int32, y = x2 + (-1) := ⟨_, rfl⟩
      replace hv := hv x2_1 ex2_1
      refine lv_iinc (v := x2_1) (lv' := [(2, .int x2_1), (3, .int x3), (0, .ref a_F), (1, .ref a_right)]) hx hb dX1_resolve_139 hl (k := 1) rfl (by rw [ex2_1]; rfl) (by decide) rfl (fun ls hl => ?_)
      refine lv_goto (tgt := 92) hx hb dX1_resolve_142 (by decide) ?_
      exact hv _ _ _ hP hD hS (lv_sub hl [0, 2, 3] rfl)
    · replace hv := hv.2 hc
      refine lv_aload_n hx hb dX1_resolve_108 rfl (lv_at hl 3 rfl) ?_
      refine lv_iload_n hx hb dX1_resolve_109 rfl (lv_at hl 1 rfl) ?_
      refine lv_aload_n hx hb dX1_resolve_110 rfl (lv_at hl 3 rfl) ?_
      refine lv_iload_n hx hb dX1_resolve_111 rfl (lv_at hl 1 rfl) ?_
      obtain ⟨h_2, hv⟩ := hv
      refine va_iald (D := g.1) hx hb hK.1 hP 1 0 rfl rfl h_2 dX1_resolve_112 ?_
      refine lv_aload_n hx hb dX1_resolve_113 rfl (lv_at hl 2 rfl) ?_
      refine va_get (D := g.1) (ci := 1) (v := .ref a_F_below) (C := RX1) (T := TX1) (N := 5) hx hb hts cw_in_X1 hown hK.1 hP 0 rfl rfl 4 (by decide) (hts _ cw_f_X1_26) (fun _ h9 => h9) rfl dX1_resolve_114 ?_
      refine lv_iload_n hx hb dX1_resolve_117 rfl (lv_at hl 0 rfl) ?_
      refine lv_iload_n hx hb dX1_resolve_118 rfl (lv_at hl 1 rfl) ?_
      refine cx_iNr (As := [.int x3, .int x2]) (rest := [.ref a_F_below, .int (v_right (Int32.toNatClampNeg x2)), .int x2, .ref a_right]) ⟨hx, hb, hml, hown, hts⟩ (cp_X4_cell l g x3 x2) (cx_cwN 2 hts (hK.2.at 11 rfl) cw_t_X4_cell cw_n_X4 cw_c_X4_cell rfl rfl (by decide +kernel) ⟨Nat.le_of_ble_eq_true rfl, Nat.le_of_ble_eq_true rfl⟩) hK hP hD hS hA [] rfl rfl rfl hl.1 rfl (Nat.le_of_ble_eq_true rfl) dX1_resolve_119 ⟨Nat.le_of_ble_eq_true rfl, Nat.le_of_ble_eq_true rfl⟩ (fun r_3 H locs hr9 hP hS => ?_)
      replace hr9 : r_3 = (f_cell x3 x2) := hr9
      subst hr9
      obtain ⟨h_4, hv⟩ := hv
      refine va_iald (D := g.1) hx hb hK.1 hP 2 0 rfl rfl h_4 dX1_resolve_122 ?_
      refine lv_aload_n hx hb dX1_resolve_123 rfl (lv_at hl 3 rfl) ?_
      refine lv_iload_n hx hb dX1_resolve_124 rfl (lv_at hl 0 rfl) ?_
      obtain ⟨h_5, hv⟩ := hv
      refine va_iald (D := g.1) hx hb hK.1 hP 1 0 rfl rfl h_5 dX1_resolve_125 ?_
      refine cx_iNr (As := [.int (F_below (Int32.toNatClampNeg (f_cell x3 x2))), .int (v_right (Int32.toNatClampNeg x3))]) (rest := [.int (v_right (Int32.toNatClampNeg x2)), .int x2, .ref a_right]) ⟨hx, hb, hml, hown, hts⟩ (cp_X4_times l g (F_below (Int32.toNatClampNeg (f_cell x3 x2))) (v_right (Int32.toNatClampNeg x3))) (cx_cwN 2 hts (hK.2.at 12 rfl) cw_t_X4_times cw_n_X4 cw_c_X4_times rfl rfl (by decide +kernel) ⟨Nat.le_of_ble_eq_true rfl, Nat.le_of_ble_eq_true rfl⟩) hK hP hD hS hA [] rfl rfl rfl hl.1 rfl (Nat.le_of_ble_eq_true rfl) dX1_resolve_126 ⟨Nat.le_of_ble_eq_true rfl, Nat.le_of_ble_eq_true rfl⟩ (fun r_6 H locs hr9 hP hS => ?_)
      replace hr9 : r_6 = (f_times (F_below (Int32.toNatClampNeg (f_cell x3 x2))) (v_right (Int32.toNatClampNeg x3))) := hr9
      subst hr9
      refine cx_iNr (As := [.int (v_right (Int32.toNatClampNeg x2)), .int (f_times (F_below (Int32.toNatClampNeg (f_cell x3 x2))) (v_right (Int32.toNatClampNeg x3)))]) (rest := [.int x2, .ref a_right]) ⟨hx, hb, hml, hown, hts⟩ (cp_X4_minus l g (v_right (Int32.toNatClampNeg x2)) (f_times (F_below (Int32.toNatClampNeg (f_cell x3 x2))) (v_right (Int32.toNatClampNeg x3)))) (cx_cwN 2 hts (hK.2.at 13 rfl) cw_t_X4_minus cw_n_X4 cw_c_X4_minus rfl rfl (by decide +kernel) ⟨Nat.le_of_ble_eq_true rfl, Nat.le_of_ble_eq_true rfl⟩) hK hP hD hS hA [] rfl rfl rfl hl.1 rfl (Nat.le_of_ble_eq_true rfl) dX1_resolve_129 ⟨Nat.le_of_ble_eq_true rfl, Nat.le_of_ble_eq_true rfl⟩ (fun r_7 H locs hr9 hP hS => ?_)
      replace hr9 : r_7 = (f_minus (v_right (Int32.toNatClampNeg x2)) (f_times (F_below (Int32.toNatClampNeg (f_cell x3 x2))) (v_right (Int32.toNatClampNeg x3)))) := hr9
      subst hr9
      obtain ⟨h_8, hv⟩ := hv
      refine va_iast (D := g.1) hx hb hK.1 hP hD hS 1 0 rfl rfl h_8 dX1_resolve_132 (fun H locs hP hD hS => ?_)
      have hP : va_P g.1 vwCl [(a_F, .inr (1, [.int F_known, .int F_rows, .ref a_F_pivots, .ref a_F_reciprocals, .ref a_F_below])), (a_right, .inl (g.2.1, 16, .inl (upd v_right (Int32.toNatClampNeg x2) (f_minus (v_right (Int32.toNatClampNeg x2)) (f_times (F_below (Int32.toNatClampNeg (f_cell x3 x2))) (v_right (Int32.toNatClampNeg x3))))))), (a_F_below, .inl (g.2.1, 256, .inl F_below)), (a_F_reciprocals, .inl (g.2.1, 16, .inl F_reciprocals))] H := hP
      have hD : va_D A [(a_F, .inr (1, [.int F_known, .int F_rows, .ref a_F_pivots, .ref a_F_reciprocals, .ref a_F_below])), (a_right, .inl (g.2.1, 16, .inl (upd v_right (Int32.toNatClampNeg x2) (f_minus (v_right (Int32.toNatClampNeg x2)) (f_times (F_below (Int32.toNatClampNeg (f_cell x3 x2))) (v_right (Int32.toNatClampNeg x3))))))), (a_F_below, .inl (g.2.1, 256, .inl F_below)), (a_F_reciprocals, .inl (g.2.1, 16, .inl F_reciprocals))] := hD
      obtain ⟨x3_9, ex3_9⟩ : ∃ y : Int32, y = x3 + 1 := ⟨_, rfl⟩
      replace hv := hv x3_9 ex3_9
      refine lv_iinc (v := x3_9) (lv' := [(3, .int x3_9), (2, .int x2), (0, .ref a_F), (1, .ref a_right)]) hx hb dX1_resolve_133 hl (k := 0) rfl (by rw [ex3_9]; rfl) (by decide) rfl (fun ls hl => ?_)
      refine lv_goto (tgt := 100) hx hb dX1_resolve_136 (by decide) ?_
      exact hv _ _ _ hP hD hS (lv_sub hl [0, 1, 2, 3] rfl)
  replace hv := hv G1 G2 G3 G4 G5 hs1 hs2 hs3 hs4 hs5
  rw [hG1, hG2, hG3, hG4, hG5] at hv
  unfold vc_X1_resolve_0 at hv
  refine lv_iconst (v := 0) hx hb dX1_resolve_0 (by decide) ?_
  refine lv_istore_n (lv' := [(2, .int 0), (0, .ref a_F), (1, .ref a_right)]) hx hb dX1_resolve_1 rfl hl (by decide) rfl (fun ls hl => ?_)
  exact hv _ _ _ hP hD hS (lv_sub hl [0, 1, 2] rfl)
def vc_X0_joinLinked_0 (P_rows : Int32) (P_entries : (Nat → Int32)) (E_joined : (Nat → Int32)) (Q : (Nat → Int32) → Prop) (G1 : Int32 → (Nat → Int32) → Prop)  : Prop := G1 0 E_joined
def vc_X0_joinLinked_1 (P_rows : Int32) (P_entries : (Nat → Int32)) (E_joined : (Nat → Int32)) (Q : (Nat → Int32) → Prop) (G1 : Int32 → (Nat → Int32) → Prop) (x2 : Int32) (v_E_joined : (Nat → Int32)) : Prop := (P_rows ≤ x2 → (Q v_E_joined)) ∧ (¬ P_rows ≤ x2 → (wp_X2_linksOf x2 P_rows P_entries (fun r_1 => vp_in x2 16 ∧ (∀ x2_3 : Int32, x2_3 = x2 + 1 → (G1 x2_3 (upd v_E_joined (Int32.toNatClampNeg x2) r_1))))))
def wp_X0_joinLinked (P_rows : Int32) (P_entries : (Nat → Int32)) (E_joined : (Nat → Int32)) (Q : (Nat → Int32) → Prop) : Prop := ∀ (G1 : Int32 → (Nat → Int32) → Prop), (∀ (x2 : Int32) (v_E_joined : (Nat → Int32)), vc_X0_joinLinked_1 P_rows P_entries E_joined Q G1 x2 v_E_joined → G1 x2 v_E_joined) → vc_X0_joinLinked_0 P_rows P_entries E_joined Q G1
abbrev w0_X0_joinLinked (g : cx_G) (a_E a_P a_P_entries a_P_order a_P_places a_P_rights a_P_weights a_E_joined a_E_later a_E_paths : Nat) (P_rows : Int32) (P_entries : (Nat → Int32)) (E_joined : (Nat → Int32)) : va_W := [(a_P, .inr (2, [.int P_rows, .ref a_P_entries, .ref a_P_order, .ref a_P_places, .ref a_P_rights, .ref a_P_weights])), (a_E, .inr (0, [.ref a_E_joined, .ref a_E_later, .ref a_E_paths])), (a_P_entries, .inl (g.2.1, 256, .inl P_entries)), (a_E_joined, .inl (g.2.1, 16, .inl E_joined))]
abbrev w1_X0_joinLinked (g : cx_G) (a_E a_P a_P_entries a_P_order a_P_places a_P_rights a_P_weights a_E_joined a_E_later a_E_paths : Nat) (P_rows : Int32) (P_entries : (Nat → Int32)) (E_joined : (Nat → Int32)) (u : (Nat → Int32)) : va_W := [(a_P, .inr (2, [.int P_rows, .ref a_P_entries, .ref a_P_order, .ref a_P_places, .ref a_P_rights, .ref a_P_weights])), (a_E, .inr (0, [.ref a_E_joined, .ref a_E_later, .ref a_E_paths])), (a_P_entries, .inl (g.2.1, 256, .inl P_entries)), (a_E_joined, .inl (g.2.1, 16, .inl u))]
set_option maxHeartbeats 4000000 in
set_option maxRecDepth 100000 in
theorem c_X0_joinLinked (l : Launch) (g : cx_G) (a_E a_P a_P_entries a_P_order a_P_places a_P_rights a_P_weights a_E_joined a_E_later a_E_paths : Nat) (P_rows : Int32) (P_entries : (Nat → Int32)) (E_joined : (Nat → Int32)) {Q : (Nat → Int32) → Prop} (hv : wp_X0_joinLinked P_rows P_entries E_joined Q) : cx_Mv l g yX0_joinLinked (Cond.code yX0_joinLinked cX0_joinLinked 3 none :: cx_T) ({ frames := 3, cells := 0, slots := 0, locals := 66 } : Room) [.ref a_E, .ref a_P] (w0_X0_joinLinked g a_E a_P a_P_entries a_P_order a_P_places a_P_rights a_P_weights a_E_joined a_E_later a_E_paths P_rows P_entries E_joined) (fun (u : (Nat → Int32)) => Q u) (w1_X0_joinLinked g a_E a_P a_P_entries a_P_order a_P_places a_P_rights a_P_weights a_E_joined a_E_later a_E_paths P_rows P_entries E_joined) 0 0 := by
  intro sz
  refine Met.ofW (cc := cX0_joinLinked) (maxL := 3) (ret := none) (by decide) rfl ?_
  intro p e s m args below meth c s₁ B hml hpre
  obtain ⟨rfl, hsz, hP, hK, hD0⟩ := hpre
  have hx := B.exec
  have hb := B.bytes
  have hr := B.returns
  have hts0 := atoms_spec (ws := (Cond.code yX0_joinLinked cX0_joinLinked 3 none :: cx_T)) B.pre
  have hts : ∀ w ∈ cx_T, w.before _ s = true := fun w h => hts0 w (List.mem_cons_of_mem _ h)
  have hown : s.vm.findClass RX0 = some m.cls := findClass_of_methodNamed B.named
  have hlocks := B.notSynchronized
  subst hsz
  have hD := hD0.self (sz := s.heap.size)
  obtain ⟨A, hAe⟩ : ∃ A : Nat → Prop, A = va_A (w0_X0_joinLinked g a_E a_P a_P_entries a_P_order a_P_places a_P_rights a_P_weights a_E_joined a_E_later a_E_paths P_rows P_entries E_joined) s.heap.size := ⟨_, rfl⟩
  rw [← hAe] at hD
  have hA : ∀ q : Nat, s.heap.size ≤ q → A q := fun q h => by rw [hAe]; exact Or.inr h
  have hS : va_S A s.heap s.heap [] := va_S.rf
  have hP : va_P g.1 vwCl [(a_P, .inr (2, [.int P_rows, .ref a_P_entries, .ref a_P_order, .ref a_P_places, .ref a_P_rights, .ref a_P_weights])), (a_E, .inr (0, [.ref a_E_joined, .ref a_E_later, .ref a_E_paths])), (a_P_entries, .inl (g.2.1, 256, .inl P_entries)), (a_E_joined, .inl (g.2.1, 16, .inl E_joined))] s.heap := hP
  have hD : va_D A [(a_P, .inr (2, [.int P_rows, .ref a_P_entries, .ref a_P_order, .ref a_P_places, .ref a_P_rights, .ref a_P_weights])), (a_E, .inr (0, [.ref a_E_joined, .ref a_E_later, .ref a_E_paths])), (a_P_entries, .inl (g.2.1, 256, .inl P_entries)), (a_E_joined, .inl (g.2.1, 16, .inl E_joined))] := hD
  have hl := lv_entry ([.ref a_E, .ref a_P]) (n := 3) (Nat.le_of_ble_eq_true rfl)
  rw [lg_entry_eq]
  generalize (lg_sl ([.ref a_E, .ref a_P]) ++ List.replicate (3 - (lg_sl ([.ref a_E, .ref a_P])).length) Slot.unset).toArray = ls at hl ⊢
  have hl : lv_has ls 3 [(0, .ref a_E), (1, .ref a_P)] := hl
  obtain ⟨G1, hG1⟩ : ∃ G : Int32 → (Nat → Int32) → Prop, G = (fun (x2 : Int32) (v_E_joined : (Nat → Int32)) => ∀ (H : Heap) (locs : List Loc) (ls : Array Slot), va_P g.1 vwCl [(a_P, .inr (2, [.int P_rows, .ref a_P_entries, .ref a_P_order, .ref a_P_places, .ref a_P_rights, .ref a_P_weights])), (a_E, .inr (0, [.ref a_E_joined, .ref a_E_later, .ref a_E_paths])), (a_P_entries, .inl (g.2.1, 256, .inl P_entries)), (a_E_joined, .inl (g.2.1, 16, .inl v_E_joined))] H → va_D A [(a_P, .inr (2, [.int P_rows, .ref a_P_entries, .ref a_P_order, .ref a_P_places, .ref a_P_rights, .ref a_P_weights])), (a_E, .inr (0, [.ref a_E_joined, .ref a_E_later, .ref a_E_paths])), (a_P_entries, .inl (g.2.1, 256, .inl P_entries)), (a_E_joined, .inl (g.2.1, 16, .inl v_E_joined))] → va_S A s.heap H locs → lv_has ls 3 [(2, .int x2), (0, .ref a_E), (1, .ref a_P)] → W p l e (headSpec (Cond.code yX0_joinLinked cX0_joinLinked 3 none :: cx_T) ({ frames := 3, cells := 0, slots := 0, locals := 66 } : Room)).room s m ([.ref a_E, .ref a_P] : List Value).toArray below meth c H locs 0 0 (MQ below (va_Qv (fun (u : (Nat → Int32)) => Q u) (cx_B g (w0_X0_joinLinked g a_E a_P a_P_entries a_P_order a_P_places a_P_rights a_P_weights a_E_joined a_E_later a_E_paths P_rows P_entries E_joined) s.heap.size (w1_X0_joinLinked g a_E a_P a_P_entries a_P_order a_P_places a_P_rights a_P_weights a_E_joined a_E_later a_E_paths P_rows P_entries E_joined)) (va_A (w0_X0_joinLinked g a_E a_P a_P_entries a_P_order a_P_places a_P_rights a_P_weights a_E_joined a_E_later a_E_paths P_rows P_entries E_joined) s.heap.size)) ([.ref a_E, .ref a_P] : List Value).toArray s 0 0 (va_A (w0_X0_joinLinked g a_E a_P a_P_entries a_P_order a_P_places a_P_rights a_P_weights a_E_joined a_E_later a_E_paths P_rows P_entries E_joined) s.heap.size)) (F0 m 2 ls [])) := ⟨_, rfl⟩
  have hs1 : ∀ (x2 : Int32) (v_E_joined : (Nat → Int32)), vc_X0_joinLinked_1 P_rows P_entries E_joined Q G1 x2 v_E_joined → G1 x2 v_E_joined := by
    rw [hG1]
    intro x2 v_E_joined hv H locs ls hP hD hS hl
    unfold vc_X0_joinLinked_1 at hv
    refine lv_iload_n hx hb dX0_joinLinked_2 rfl (lv_at hl 0 rfl) ?_
    refine lv_aload_n hx hb dX0_joinLinked_3 rfl (lv_at hl 2 rfl) ?_
    refine va_get (D := g.1) (ci := 2) (v := .int P_rows) (C := RX2) (T := TX2) (N := 6) hx hb hts cw_in_X2 hown hK.1 hP 0 rfl rfl 0 (by decide) (hts _ cw_f_X0_31) (fun _ h9 => h9) rfl dX0_joinLinked_4 ?_
    refine lv_icmp_ge (tgt := 27) hx hb dX0_joinLinked_7 (by decide) (fun hc => ?_) (fun hc => ?_)
    · replace hv := hv.1 hc
      exact cx_vret hx hb hr hlocks hAe hS v_E_joined hv hP hD dX0_joinLinked_27
    · replace hv := hv.2 hc
      refine lv_aload_n hx hb dX0_joinLinked_10 rfl (lv_at hl 1 rfl) ?_
      refine va_get (D := g.1) (ci := 0) (v := .ref a_E_joined) (C := RX0) (T := TX0) (N := 3) hx hb hts cw_in_X0 hown hK.1 hP 1 rfl rfl 0 (by decide) (hts _ cw_f_X0_9) (fun _ h9 => h9) rfl dX0_joinLinked_11 ?_
      refine lv_iload_n hx hb dX0_joinLinked_14 rfl (lv_at hl 0 rfl) ?_
      refine lv_aload_n hx hb dX0_joinLinked_15 rfl (lv_at hl 2 rfl) ?_
      refine lv_iload_n hx hb dX0_joinLinked_16 rfl (lv_at hl 0 rfl) ?_
      refine cx_iVr (As := [.int x2]) (rest := [.int x2, .ref a_E_joined]) ⟨hx, hb, hml, hown, hts⟩ (c_X2_linksOf l g a_P a_P_entries a_P_order a_P_places a_P_rights a_P_weights x2 P_rows P_entries hv) (cx_cwV 1 hts cw_m_X0_61 cw_i_X2_linksOf cw_s_X2_linksOf cw_n_X2 cw_c_X2_linksOf rfl rfl (by decide +kernel) ⟨Nat.le_of_ble_eq_true rfl, Nat.le_of_ble_eq_true rfl⟩) hK hP hD hS hA 0 2 rfl rfl [0, 2] rfl rfl rfl hl.1 rfl (Nat.le_of_ble_eq_true rfl) dX0_joinLinked_17 ⟨Nat.le_of_ble_eq_true rfl, Nat.le_of_ble_eq_true rfl⟩ (fun r_1 H locs hv hP hS => ?_)
      obtain ⟨h_2, hv⟩ := hv
      refine va_iast (D := g.1) hx hb hK.1 hP hD hS 3 0 rfl rfl h_2 dX0_joinLinked_20 (fun H locs hP hD hS => ?_)
      have hP : va_P g.1 vwCl [(a_P, .inr (2, [.int P_rows, .ref a_P_entries, .ref a_P_order, .ref a_P_places, .ref a_P_rights, .ref a_P_weights])), (a_E, .inr (0, [.ref a_E_joined, .ref a_E_later, .ref a_E_paths])), (a_P_entries, .inl (g.2.1, 256, .inl P_entries)), (a_E_joined, .inl (g.2.1, 16, .inl (upd v_E_joined (Int32.toNatClampNeg x2) r_1)))] H := hP
      have hD : va_D A [(a_P, .inr (2, [.int P_rows, .ref a_P_entries, .ref a_P_order, .ref a_P_places, .ref a_P_rights, .ref a_P_weights])), (a_E, .inr (0, [.ref a_E_joined, .ref a_E_later, .ref a_E_paths])), (a_P_entries, .inl (g.2.1, 256, .inl P_entries)), (a_E_joined, .inl (g.2.1, 16, .inl (upd v_E_joined (Int32.toNatClampNeg x2) r_1)))] := hD
      obtain ⟨x2_3, ex2_3⟩ : ∃ y : Int32, y = x2 + 1 := ⟨_, rfl⟩
      replace hv := hv x2_3 ex2_3
      refine lv_iinc (v := x2_3) (lv' := [(2, .int x2_3), (0, .ref a_E), (1, .ref a_P)]) hx hb dX0_joinLinked_21 hl (k := 0) rfl (by rw [ex2_3]; rfl) (by decide) rfl (fun ls hl => ?_)
      refine lv_goto (tgt := 2) hx hb dX0_joinLinked_24 (by decide) ?_
      exact hv _ _ _ hP hD hS (lv_sub hl [0, 1, 2] rfl)
  replace hv := hv G1 hs1
  rw [hG1] at hv
  unfold vc_X0_joinLinked_0 at hv
  refine lv_iconst (v := 0) hx hb dX0_joinLinked_0 (by decide) ?_
  refine lv_istore_n (lv' := [(2, .int 0), (0, .ref a_E), (1, .ref a_P)]) hx hb dX0_joinLinked_1 rfl hl (by decide) rfl (fun ls hl => ?_)
  exact hv _ _ _ hP hD hS (lv_sub hl [0, 1, 2] rfl)
def vc_X0_joinAll_0 (i_k : Int32) (E_joined : (Nat → Int32)) (Q : (Nat → Int32) → Prop) (G1 : Int32 → (Nat → Int32) → Prop)  : Prop := G1 0 E_joined
def vc_X0_joinAll_1 (i_k : Int32) (E_joined : (Nat → Int32)) (Q : (Nat → Int32) → Prop) (G1 : Int32 → (Nat → Int32) → Prop) (x2 : Int32) (v_E_joined : (Nat → Int32)) : Prop := (16 ≤ x2 → (Q v_E_joined)) ∧ (¬ 16 ≤ x2 → (((f_has i_k x2) = 0 → (∀ x2_2 : Int32, x2_2 = x2 + 1 → (G1 x2_2 v_E_joined))) ∧ (¬ (f_has i_k x2) = 0 → (vp_in x2 16 ∧ (vp_in x2 16 ∧ (∀ x2_6 : Int32, x2_6 = x2 + 1 → (G1 x2_6 (upd v_E_joined (Int32.toNatClampNeg x2) ((v_E_joined (Int32.toNatClampNeg x2)) ||| (i_k &&& ((f_bit x2) ^^^ (-1))))))))))))
def wp_X0_joinAll (i_k : Int32) (E_joined : (Nat → Int32)) (Q : (Nat → Int32) → Prop) : Prop := ∀ (G1 : Int32 → (Nat → Int32) → Prop), (∀ (x2 : Int32) (v_E_joined : (Nat → Int32)), vc_X0_joinAll_1 i_k E_joined Q G1 x2 v_E_joined → G1 x2 v_E_joined) → vc_X0_joinAll_0 i_k E_joined Q G1
abbrev w0_X0_joinAll (g : cx_G) (a_E a_E_joined a_E_later a_E_paths : Nat) (E_joined : (Nat → Int32)) : va_W := [(a_E, .inr (0, [.ref a_E_joined, .ref a_E_later, .ref a_E_paths])), (a_E_joined, .inl (g.2.1, 16, .inl E_joined))]
abbrev w1_X0_joinAll (g : cx_G) (a_E a_E_joined a_E_later a_E_paths : Nat) (E_joined : (Nat → Int32)) (u : (Nat → Int32)) : va_W := [(a_E, .inr (0, [.ref a_E_joined, .ref a_E_later, .ref a_E_paths])), (a_E_joined, .inl (g.2.1, 16, .inl u))]
set_option maxHeartbeats 4000000 in
set_option maxRecDepth 100000 in
theorem c_X0_joinAll (l : Launch) (g : cx_G) (a_E a_E_joined a_E_later a_E_paths : Nat) (i_k : Int32) (E_joined : (Nat → Int32)) {Q : (Nat → Int32) → Prop} (hv : wp_X0_joinAll i_k E_joined Q) : cx_Mv l g yX0_joinAll (Cond.code yX0_joinAll cX0_joinAll 3 none :: cx_T) ({ frames := 2, cells := 0, slots := 0, locals := 41 } : Room) [.ref a_E, .int i_k] (w0_X0_joinAll g a_E a_E_joined a_E_later a_E_paths E_joined) (fun (u : (Nat → Int32)) => Q u) (w1_X0_joinAll g a_E a_E_joined a_E_later a_E_paths E_joined) 0 0 := by
  intro sz
  refine Met.ofW (cc := cX0_joinAll) (maxL := 3) (ret := none) (by decide) rfl ?_
  intro p e s m args below meth c s₁ B hml hpre
  obtain ⟨rfl, hsz, hP, hK, hD0⟩ := hpre
  have hx := B.exec
  have hb := B.bytes
  have hr := B.returns
  have hts0 := atoms_spec (ws := (Cond.code yX0_joinAll cX0_joinAll 3 none :: cx_T)) B.pre
  have hts : ∀ w ∈ cx_T, w.before _ s = true := fun w h => hts0 w (List.mem_cons_of_mem _ h)
  have hown : s.vm.findClass RX0 = some m.cls := findClass_of_methodNamed B.named
  have hlocks := B.notSynchronized
  subst hsz
  have hD := hD0.self (sz := s.heap.size)
  obtain ⟨A, hAe⟩ : ∃ A : Nat → Prop, A = va_A (w0_X0_joinAll g a_E a_E_joined a_E_later a_E_paths E_joined) s.heap.size := ⟨_, rfl⟩
  rw [← hAe] at hD
  have hA : ∀ q : Nat, s.heap.size ≤ q → A q := fun q h => by rw [hAe]; exact Or.inr h
  have hS : va_S A s.heap s.heap [] := va_S.rf
  have hP : va_P g.1 vwCl [(a_E, .inr (0, [.ref a_E_joined, .ref a_E_later, .ref a_E_paths])), (a_E_joined, .inl (g.2.1, 16, .inl E_joined))] s.heap := hP
  have hD : va_D A [(a_E, .inr (0, [.ref a_E_joined, .ref a_E_later, .ref a_E_paths])), (a_E_joined, .inl (g.2.1, 16, .inl E_joined))] := hD
  have hl := lv_entry ([.ref a_E, .int i_k]) (n := 3) (Nat.le_of_ble_eq_true rfl)
  rw [lg_entry_eq]
  generalize (lg_sl ([.ref a_E, .int i_k]) ++ List.replicate (3 - (lg_sl ([.ref a_E, .int i_k])).length) Slot.unset).toArray = ls at hl ⊢
  have hl : lv_has ls 3 [(0, .ref a_E), (1, .int i_k)] := hl
  obtain ⟨G1, hG1⟩ : ∃ G : Int32 → (Nat → Int32) → Prop, G = (fun (x2 : Int32) (v_E_joined : (Nat → Int32)) => ∀ (H : Heap) (locs : List Loc) (ls : Array Slot), va_P g.1 vwCl [(a_E, .inr (0, [.ref a_E_joined, .ref a_E_later, .ref a_E_paths])), (a_E_joined, .inl (g.2.1, 16, .inl v_E_joined))] H → va_D A [(a_E, .inr (0, [.ref a_E_joined, .ref a_E_later, .ref a_E_paths])), (a_E_joined, .inl (g.2.1, 16, .inl v_E_joined))] → va_S A s.heap H locs → lv_has ls 3 [(2, .int x2), (0, .ref a_E), (1, .int i_k)] → W p l e (headSpec (Cond.code yX0_joinAll cX0_joinAll 3 none :: cx_T) ({ frames := 2, cells := 0, slots := 0, locals := 41 } : Room)).room s m ([.ref a_E, .int i_k] : List Value).toArray below meth c H locs 0 0 (MQ below (va_Qv (fun (u : (Nat → Int32)) => Q u) (cx_B g (w0_X0_joinAll g a_E a_E_joined a_E_later a_E_paths E_joined) s.heap.size (w1_X0_joinAll g a_E a_E_joined a_E_later a_E_paths E_joined)) (va_A (w0_X0_joinAll g a_E a_E_joined a_E_later a_E_paths E_joined) s.heap.size)) ([.ref a_E, .int i_k] : List Value).toArray s 0 0 (va_A (w0_X0_joinAll g a_E a_E_joined a_E_later a_E_paths E_joined) s.heap.size)) (F0 m 2 ls [])) := ⟨_, rfl⟩
  have hs1 : ∀ (x2 : Int32) (v_E_joined : (Nat → Int32)), vc_X0_joinAll_1 i_k E_joined Q G1 x2 v_E_joined → G1 x2 v_E_joined := by
    rw [hG1]
    intro x2 v_E_joined hv H locs ls hP hD hS hl
    unfold vc_X0_joinAll_1 at hv
    refine lv_iload_n hx hb dX0_joinAll_2 rfl (lv_at hl 0 rfl) ?_
    refine lv_bipush (v := 16) hx hb dX0_joinAll_3 (by decide) ?_
    refine lv_icmp_ge (tgt := 39) hx hb dX0_joinAll_5 (by decide) (fun hc => ?_) (fun hc => ?_)
    · replace hv := hv.1 hc
      exact cx_vret hx hb hr hlocks hAe hS v_E_joined hv hP hD dX0_joinAll_39
    · replace hv := hv.2 hc
      refine lv_iload_n hx hb dX0_joinAll_8 rfl (lv_at hl 2 rfl) ?_
      refine lv_iload_n hx hb dX0_joinAll_9 rfl (lv_at hl 0 rfl) ?_
      refine cx_iNr (As := [.int i_k, .int x2]) (rest := []) ⟨hx, hb, hml, hown, hts⟩ (cp_X4_has l g i_k x2) (cx_cwN 2 hts (hK.2.at 9 rfl) cw_t_X4_has cw_n_X4 cw_c_X4_has rfl rfl (by decide +kernel) ⟨Nat.le_of_ble_eq_true rfl, Nat.le_of_ble_eq_true rfl⟩) hK hP hD hS hA [] rfl rfl rfl hl.1 rfl (Nat.le_of_ble_eq_true rfl) dX0_joinAll_10 ⟨Nat.le_of_ble_eq_true rfl, Nat.le_of_ble_eq_true rfl⟩ (fun r_1 H locs hr9 hP hS => ?_)
      replace hr9 : r_1 = (f_has i_k x2) := hr9
      subst hr9
      refine lv_if_eq (tgt := 33) hx hb dX0_joinAll_13 (by decide) (fun hc => ?_) (fun hc => ?_)
      · replace hv := hv.1 hc
        obtain ⟨x2_2, ex2_2⟩ : ∃ y : Int32, y = x2 + 1 := ⟨_, rfl⟩
        replace hv := hv x2_2 ex2_2
        refine lv_iinc (v := x2_2) (lv' := [(2, .int x2_2), (0, .ref a_E), (1, .int i_k)]) hx hb dX0_joinAll_33 hl (k := 0) rfl (by rw [ex2_2]; rfl) (by decide) rfl (fun ls hl => ?_)
        refine lv_goto (tgt := 2) hx hb dX0_joinAll_36 (by decide) ?_
        exact hv _ _ _ hP hD hS (lv_sub hl [0, 1, 2] rfl)
      · replace hv := hv.2 hc
        refine lv_aload_n hx hb dX0_joinAll_16 rfl (lv_at hl 1 rfl) ?_
        refine va_get (D := g.1) (ci := 0) (v := .ref a_E_joined) (C := RX0) (T := TX0) (N := 3) hx hb hts cw_in_X0 hown hK.1 hP 0 rfl rfl 0 (by decide) (hts _ cw_f_X0_9) (fun _ h9 => h9) rfl dX0_joinAll_17 ?_
        refine lv_iload_n hx hb dX0_joinAll_20 rfl (lv_at hl 0 rfl) ?_
        refine lv_dup2_11 hx hb dX0_joinAll_21 rfl rfl ?_
        obtain ⟨h_3, hv⟩ := hv
        refine va_iald (D := g.1) hx hb hK.1 hP 1 0 rfl rfl h_3 dX0_joinAll_22 ?_
        refine lv_iload_n hx hb dX0_joinAll_23 rfl (lv_at hl 2 rfl) ?_
        refine lv_iload_n hx hb dX0_joinAll_24 rfl (lv_at hl 0 rfl) ?_
        refine cx_iNr (As := [.int x2]) (rest := [.int i_k, .int (v_E_joined (Int32.toNatClampNeg x2)), .int x2, .ref a_E_joined]) ⟨hx, hb, hml, hown, hts⟩ (cp_X4_bit l g x2) (cx_cwN 1 hts (hK.2.at 10 rfl) cw_t_X4_bit cw_n_X4 cw_c_X4_bit rfl rfl (by decide +kernel) ⟨Nat.le_of_ble_eq_true rfl, Nat.le_of_ble_eq_true rfl⟩) hK hP hD hS hA [] rfl rfl rfl hl.1 rfl (Nat.le_of_ble_eq_true rfl) dX0_joinAll_25 ⟨Nat.le_of_ble_eq_true rfl, Nat.le_of_ble_eq_true rfl⟩ (fun r_4 H locs hr9 hP hS => ?_)
        replace hr9 : r_4 = (f_bit x2) := hr9
        subst hr9
        refine lv_iconst (v := (-1)) hx hb dX0_joinAll_28 (by decide) ?_
        refine lv_ixor hx hb dX0_joinAll_29 ?_
        refine lv_iand hx hb dX0_joinAll_30 ?_
        refine lv_ior hx hb dX0_joinAll_31 ?_
        obtain ⟨h_5, hv⟩ := hv
        refine va_iast (D := g.1) hx hb hK.1 hP hD hS 1 0 rfl rfl h_5 dX0_joinAll_32 (fun H locs hP hD hS => ?_)
        have hP : va_P g.1 vwCl [(a_E, .inr (0, [.ref a_E_joined, .ref a_E_later, .ref a_E_paths])), (a_E_joined, .inl (g.2.1, 16, .inl (upd v_E_joined (Int32.toNatClampNeg x2) ((v_E_joined (Int32.toNatClampNeg x2)) ||| (i_k &&& ((f_bit x2) ^^^ (-1)))))))] H := hP
        have hD : va_D A [(a_E, .inr (0, [.ref a_E_joined, .ref a_E_later, .ref a_E_paths])), (a_E_joined, .inl (g.2.1, 16, .inl (upd v_E_joined (Int32.toNatClampNeg x2) ((v_E_joined (Int32.toNatClampNeg x2)) ||| (i_k &&& ((f_bit x2) ^^^ (-1)))))))] := hD
        obtain ⟨x2_6, ex2_6⟩ : ∃ y : Int32, y = x2 + 1 := ⟨_, rfl⟩
        replace hv := hv x2_6 ex2_6
        refine lv_iinc (v := x2_6) (lv' := [(2, .int x2_6), (0, .ref a_E), (1, .int i_k)]) hx hb dX0_joinAll_33 hl (k := 0) rfl (by rw [ex2_6]; rfl) (by decide) rfl (fun ls hl => ?_)
        refine lv_goto (tgt := 2) hx hb dX0_joinAll_36 (by decide) ?_
        exact hv _ _ _ hP hD hS (lv_sub hl [0, 1, 2] rfl)
  replace hv := hv G1 hs1
  rw [hG1] at hv
  unfold vc_X0_joinAll_0 at hv
  refine lv_iconst (v := 0) hx hb dX0_joinAll_0 (by decide) ?_
  refine lv_istore_n (lv' := [(2, .int 0), (0, .ref a_E), (1, .int i_k)]) hx hb dX0_joinAll_1 rfl hl (by decide) rfl (fun ls hl => ?_)
  exact hv _ _ _ hP hD hS (lv_sub hl [0, 1, 2] rfl)
def vc_X0_lowestDegree_0 (i_k : Int32) (E_joined : (Nat → Int32)) (Q : Int32 → Prop) (G1 : Int32 → Int32 → Int32 → Prop)  : Prop := G1 0 16 (-1)
def vc_X0_lowestDegree_1 (i_k : Int32) (E_joined : (Nat → Int32)) (Q : Int32 → Prop) (G1 : Int32 → Int32 → Int32 → Prop) (x4 : Int32) (x3 : Int32) (x2 : Int32) : Prop := (16 ≤ x4 → (Q x2)) ∧ (¬ 16 ≤ x4 → (vp_in x4 16 ∧ (∀ x5_3 : Int32, x5_3 = (f_bc ((E_joined (Int32.toNatClampNeg x4)) &&& i_k)) → (((f_has i_k x4) = 0 → (∀ x4_5 : Int32, x4_5 = x4 + 1 → (G1 x4_5 x3 x2))) ∧ (¬ (f_has i_k x4) = 0 → ((x3 ≤ x5_3 → (∀ x4_6 : Int32, x4_6 = x4 + 1 → (G1 x4_6 x3 x2))) ∧ (¬ x3 ≤ x5_3 → (∀ x4_7 : Int32, x4_7 = x4 + 1 → (G1 x4_7 x5_3 x4)))))))))
def wp_X0_lowestDegree (i_k : Int32) (E_joined : (Nat → Int32)) (Q : Int32 → Prop) : Prop := ∀ (G1 : Int32 → Int32 → Int32 → Prop), (∀ (x4 : Int32) (x3 : Int32) (x2 : Int32), vc_X0_lowestDegree_1 i_k E_joined Q G1 x4 x3 x2 → G1 x4 x3 x2) → vc_X0_lowestDegree_0 i_k E_joined Q G1
abbrev w0_X0_lowestDegree (g : cx_G) (a_E a_E_joined a_E_later a_E_paths : Nat) (E_joined : (Nat → Int32)) : va_W := [(a_E, .inr (0, [.ref a_E_joined, .ref a_E_later, .ref a_E_paths])), (a_E_joined, .inl (g.2.1, 16, .inl E_joined))]
set_option maxHeartbeats 4000000 in
set_option maxRecDepth 100000 in
theorem c_X0_lowestDegree (l : Launch) (g : cx_G) (a_E a_E_joined a_E_later a_E_paths : Nat) (i_k : Int32) (E_joined : (Nat → Int32)) {Q : Int32 → Prop} (hv : wp_X0_lowestDegree i_k E_joined Q) : cx_Mi l g yX0_lowestDegree (Cond.code yX0_lowestDegree cX0_lowestDegree 6 (some .int) :: cx_T) ({ frames := 2, cells := 0, slots := 0, locals := 41 } : Room) [.ref a_E, .int i_k] (w0_X0_lowestDegree g a_E a_E_joined a_E_later a_E_paths E_joined) (fun (r : Int32) (_ : Unit) => Q r) (fun _ : Unit => (w0_X0_lowestDegree g a_E a_E_joined a_E_later a_E_paths E_joined)) 0 0 := by
  intro sz
  refine Met.ofW (cc := cX0_lowestDegree) (maxL := 6) (ret := (some .int)) (by decide) rfl ?_
  intro p e s m args below meth c s₁ B hml hpre
  obtain ⟨rfl, hsz, hP, hK, hD0⟩ := hpre
  have hx := B.exec
  have hb := B.bytes
  have hr := B.returns
  have hts0 := atoms_spec (ws := (Cond.code yX0_lowestDegree cX0_lowestDegree 6 (some .int) :: cx_T)) B.pre
  have hts : ∀ w ∈ cx_T, w.before _ s = true := fun w h => hts0 w (List.mem_cons_of_mem _ h)
  have hown : s.vm.findClass RX0 = some m.cls := findClass_of_methodNamed B.named
  have hlocks := B.notSynchronized
  subst hsz
  have hD := hD0.self (sz := s.heap.size)
  obtain ⟨A, hAe⟩ : ∃ A : Nat → Prop, A = va_A (w0_X0_lowestDegree g a_E a_E_joined a_E_later a_E_paths E_joined) s.heap.size := ⟨_, rfl⟩
  rw [← hAe] at hD
  have hA : ∀ q : Nat, s.heap.size ≤ q → A q := fun q h => by rw [hAe]; exact Or.inr h
  have hS : va_S A s.heap s.heap [] := va_S.rf
  have hP : va_P g.1 vwCl [(a_E, .inr (0, [.ref a_E_joined, .ref a_E_later, .ref a_E_paths])), (a_E_joined, .inl (g.2.1, 16, .inl E_joined))] s.heap := hP
  have hD : va_D A [(a_E, .inr (0, [.ref a_E_joined, .ref a_E_later, .ref a_E_paths])), (a_E_joined, .inl (g.2.1, 16, .inl E_joined))] := hD
  have hl := lv_entry ([.ref a_E, .int i_k]) (n := 6) (Nat.le_of_ble_eq_true rfl)
  rw [lg_entry_eq]
  generalize (lg_sl ([.ref a_E, .int i_k]) ++ List.replicate (6 - (lg_sl ([.ref a_E, .int i_k])).length) Slot.unset).toArray = ls at hl ⊢
  have hl : lv_has ls 6 [(0, .ref a_E), (1, .int i_k)] := hl
  obtain ⟨G1, hG1⟩ : ∃ G : Int32 → Int32 → Int32 → Prop, G = (fun (x4 : Int32) (x3 : Int32) (x2 : Int32) => ∀ (H : Heap) (locs : List Loc) (ls : Array Slot), va_P g.1 vwCl [(a_E, .inr (0, [.ref a_E_joined, .ref a_E_later, .ref a_E_paths])), (a_E_joined, .inl (g.2.1, 16, .inl E_joined))] H → va_D A [(a_E, .inr (0, [.ref a_E_joined, .ref a_E_later, .ref a_E_paths])), (a_E_joined, .inl (g.2.1, 16, .inl E_joined))] → va_S A s.heap H locs → lv_has ls 6 [(4, .int x4), (3, .int x3), (2, .int x2), (0, .ref a_E), (1, .int i_k)] → W p l e (headSpec (Cond.code yX0_lowestDegree cX0_lowestDegree 6 (some .int) :: cx_T) ({ frames := 2, cells := 0, slots := 0, locals := 41 } : Room)).room s m ([.ref a_E, .int i_k] : List Value).toArray below meth c H locs 0 0 (MQ below (va_Qi (fun (r : Int32) (_ : Unit) => Q r) (cx_B g (w0_X0_lowestDegree g a_E a_E_joined a_E_later a_E_paths E_joined) s.heap.size (fun _ : Unit => (w0_X0_lowestDegree g a_E a_E_joined a_E_later a_E_paths E_joined))) (va_A (w0_X0_lowestDegree g a_E a_E_joined a_E_later a_E_paths E_joined) s.heap.size)) ([.ref a_E, .int i_k] : List Value).toArray s 0 0 (va_A (w0_X0_lowestDegree g a_E a_E_joined a_E_later a_E_paths E_joined) s.heap.size)) (F0 m 8 ls [])) := ⟨_, rfl⟩
  have hs1 : ∀ (x4 : Int32) (x3 : Int32) (x2 : Int32), vc_X0_lowestDegree_1 i_k E_joined Q G1 x4 x3 x2 → G1 x4 x3 x2 := by
    rw [hG1]
    intro x4 x3 x2 hv H locs ls hP hD hS hl
    unfold vc_X0_lowestDegree_1 at hv
    refine lv_iload hx hb dX0_lowestDegree_8 (lv_at hl 0 rfl) ?_
    refine lv_bipush (v := 16) hx hb dX0_lowestDegree_10 (by decide) ?_
    refine lv_icmp_ge (tgt := 56) hx hb dX0_lowestDegree_12 (by decide) (fun hc => ?_) (fun hc => ?_)
    · replace hv := hv.1 hc
      refine lv_iload_n hx hb dX0_lowestDegree_56 rfl (lv_at hl 2 rfl) ?_
      exact cx_iret hx hb hr hlocks hAe hS () hv hP hD dX0_lowestDegree_57
    · replace hv := hv.2 hc
      refine lv_aload_n hx hb dX0_lowestDegree_15 rfl (lv_at hl 3 rfl) ?_
      refine va_get (D := g.1) (ci := 0) (v := .ref a_E_joined) (C := RX0) (T := TX0) (N := 3) hx hb hts cw_in_X0 hown hK.1 hP 0 rfl rfl 0 (by decide) (hts _ cw_f_X0_9) (fun _ h9 => h9) rfl dX0_lowestDegree_16 ?_
      refine lv_iload hx hb dX0_lowestDegree_19 (lv_at hl 0 rfl) ?_
      obtain ⟨h_1, hv⟩ := hv
      refine va_iald (D := g.1) hx hb hK.1 hP 1 0 rfl rfl h_1 dX0_lowestDegree_21 ?_
      refine lv_iload_n hx hb dX0_lowestDegree_22 rfl (lv_at hl 4 rfl) ?_
      refine lv_iand hx hb dX0_lowestDegree_23 ?_
      refine cx_iSr (As := [.int ((E_joined (Int32.toNatClampNeg x4)) &&& i_k)]) (rest := []) ⟨hx, hb, hml, hown, hts⟩ (cp_J6_bitCount_0f7a4 l g ((E_joined (Int32.toNatClampNeg x4)) &&& i_k)) (cx_cwS 1 hts cw_m_X0_56 cw_t_J6_bitCount_0f7a4 cw_n_J6 cw_c_J6_bitCount_0f7a4 rfl rfl (by decide +kernel) ⟨Nat.le_of_ble_eq_true rfl, Nat.le_of_ble_eq_true rfl⟩) hK hP hD hS hA [] rfl rfl rfl hl.1 rfl (Nat.le_of_ble_eq_true rfl) dX0_lowestDegree_24 ⟨Nat.le_of_ble_eq_true rfl, Nat.le_of_ble_eq_true rfl⟩ (fun r_2 H locs hr9 hP hS => ?_)
      replace hr9 : r_2 = (f_bc ((E_joined (Int32.toNatClampNeg x4)) &&& i_k)) := hr9
      subst hr9
      refine lv_topi (fun x5_3 ex5_3 => ?_)
      replace hv := hv x5_3 ex5_3
      refine lv_istore (lv' := [(5, .int x5_3), (4, .int x4), (3, .int x3), (2, .int x2), (0, .ref a_E), (1, .int i_k)]) hx hb dX0_lowestDegree_27 hl (by decide) rfl (fun ls hl => ?_)
      refine lv_iload_n hx hb dX0_lowestDegree_29 rfl (lv_at hl 5 rfl) ?_
      refine lv_iload hx hb dX0_lowestDegree_30 (lv_at hl 1 rfl) ?_
      refine cx_iNr (As := [.int i_k, .int x4]) (rest := []) ⟨hx, hb, hml, hown, hts⟩ (cp_X4_has l g i_k x4) (cx_cwN 2 hts (hK.2.at 9 rfl) cw_t_X4_has cw_n_X4 cw_c_X4_has rfl rfl (by decide +kernel) ⟨Nat.le_of_ble_eq_true rfl, Nat.le_of_ble_eq_true rfl⟩) hK hP hD hS hA [] rfl rfl rfl hl.1 rfl (Nat.le_of_ble_eq_true rfl) dX0_lowestDegree_32 ⟨Nat.le_of_ble_eq_true rfl, Nat.le_of_ble_eq_true rfl⟩ (fun r_4 H locs hr9 hP hS => ?_)
      replace hr9 : r_4 = (f_has i_k x4) := hr9
      subst hr9
      refine lv_if_eq (tgt := 50) hx hb dX0_lowestDegree_35 (by decide) (fun hc => ?_) (fun hc => ?_)
      · replace hv := hv.1 hc
        obtain ⟨x4_5, ex4_5⟩ : ∃ y : Int32, y = x4 + 1 := ⟨_, rfl⟩
        replace hv := hv x4_5 ex4_5
        refine lv_iinc (v := x4_5) (lv' := [(4, .int x4_5), (5, .int x5_3), (3, .int x3), (2, .int x2), (0, .ref a_E), (1, .int i_k)]) hx hb dX0_lowestDegree_50 hl (k := 1) rfl (by rw [ex4_5]; rfl) (by decide) rfl (fun ls hl => ?_)
        refine lv_goto (tgt := 8) hx hb dX0_lowestDegree_53 (by decide) ?_
        exact hv _ _ _ hP hD hS (lv_sub hl [0, 2, 3, 4, 5] rfl)
      · replace hv := hv.2 hc
        refine lv_iload hx hb dX0_lowestDegree_38 (lv_at hl 0 rfl) ?_
        refine lv_iload_n hx hb dX0_lowestDegree_40 rfl (lv_at hl 2 rfl) ?_
        refine lv_icmp_ge (tgt := 50) hx hb dX0_lowestDegree_41 (by decide) (fun hc => ?_) (fun hc => ?_)
        · replace hv := hv.1 hc
          obtain ⟨x4_6, ex4_6⟩ : ∃ y : Int32, y = x4 + 1 := ⟨_, rfl⟩
          replace hv := hv x4_6 ex4_6
          refine lv_iinc (v := x4_6) (lv' := [(4, .int x4_6), (5, .int x5_3), (3, .int x3), (2, .int x2), (0, .ref a_E), (1, .int i_k)]) hx hb dX0_lowestDegree_50 hl (k := 1) rfl (by rw [ex4_6]; rfl) (by decide) rfl (fun ls hl => ?_)
          refine lv_goto (tgt := 8) hx hb dX0_lowestDegree_53 (by decide) ?_
          exact hv _ _ _ hP hD hS (lv_sub hl [0, 2, 3, 4, 5] rfl)
        · replace hv := hv.2 hc
          refine lv_iload hx hb dX0_lowestDegree_44 (lv_at hl 1 rfl) ?_
          refine lv_istore_n (lv' := [(2, .int x4), (5, .int x5_3), (4, .int x4), (3, .int x3), (0, .ref a_E), (1, .int i_k)]) hx hb dX0_lowestDegree_46 rfl hl (by decide) rfl (fun ls hl => ?_)
          refine lv_iload hx hb dX0_lowestDegree_47 (lv_at hl 1 rfl) ?_
          refine lv_istore_n (lv' := [(3, .int x5_3), (2, .int x4), (5, .int x5_3), (4, .int x4), (0, .ref a_E), (1, .int i_k)]) hx hb dX0_lowestDegree_49 rfl hl (by decide) rfl (fun ls hl => ?_)
          obtain ⟨x4_7, ex4_7⟩ : ∃ y : Int32, y = x4 + 1 := ⟨_, rfl⟩
          replace hv := hv x4_7 ex4_7
          refine lv_iinc (v := x4_7) (lv' := [(4, .int x4_7), (3, .int x5_3), (2, .int x4), (5, .int x5_3), (0, .ref a_E), (1, .int i_k)]) hx hb dX0_lowestDegree_50 hl (k := 3) rfl (by rw [ex4_7]; rfl) (by decide) rfl (fun ls hl => ?_)
          refine lv_goto (tgt := 8) hx hb dX0_lowestDegree_53 (by decide) ?_
          exact hv _ _ _ hP hD hS (lv_sub hl [0, 1, 2, 4, 5] rfl)
  replace hv := hv G1 hs1
  rw [hG1] at hv
  unfold vc_X0_lowestDegree_0 at hv
  refine lv_iconst (v := (-1)) hx hb dX0_lowestDegree_0 (by decide) ?_
  refine lv_istore_n (lv' := [(2, .int (-1)), (0, .ref a_E), (1, .int i_k)]) hx hb dX0_lowestDegree_1 rfl hl (by decide) rfl (fun ls hl => ?_)
  refine lv_bipush (v := 16) hx hb dX0_lowestDegree_2 (by decide) ?_
  refine lv_istore_n (lv' := [(3, .int 16), (2, .int (-1)), (0, .ref a_E), (1, .int i_k)]) hx hb dX0_lowestDegree_4 rfl hl (by decide) rfl (fun ls hl => ?_)
  refine lv_iconst (v := 0) hx hb dX0_lowestDegree_5 (by decide) ?_
  refine lv_istore (lv' := [(4, .int 0), (3, .int 16), (2, .int (-1)), (0, .ref a_E), (1, .int i_k)]) hx hb dX0_lowestDegree_6 hl (by decide) rfl (fun ls hl => ?_)
  exact hv _ _ _ hP hD hS (lv_sub hl [0, 1, 2, 3, 4] rfl)
def vc_X0_findPaths_0 (P_rows : Int32) (P_order : (Nat → Int32)) (E_later : (Nat → Int32)) (E_paths : (Nat → Int32)) (Q : (Nat → Int32) → Prop) (G1 : Int32 → (Nat → Int32) → Prop)  : Prop := ∀ x2_1 : Int32, x2_1 = (P_rows - 1) → (G1 x2_1 E_paths)
def vc_X0_findPaths_1 (P_rows : Int32) (P_order : (Nat → Int32)) (E_later : (Nat → Int32)) (E_paths : (Nat → Int32)) (Q : (Nat → Int32) → Prop) (G1 : Int32 → (Nat → Int32) → Prop) (x2 : Int32) (v_E_paths : (Nat → Int32)) : Prop := (x2 < 0 → (Q v_E_paths)) ∧ (¬ x2 < 0 → (vp_in x2 16 ∧ (∀ x3_2 : Int32, x3_2 = (P_order (Int32.toNatClampNeg x2)) → (vp_in x3_2 16 ∧ (wp_X2_firstOf (E_later (Int32.toNatClampNeg x3_2)) P_rows P_order (fun r_4 => (r_4 = (-1) → (vp_in x3_2 16 ∧ (∀ x2_10 : Int32, x2_10 = x2 + (-1) → (G1 x2_10 (upd v_E_paths (Int32.toNatClampNeg x3_2) ((f_bit x3_2) ||| 0)))))) ∧ (¬ r_4 = (-1) → (vp_in r_4 16 ∧ (vp_in x3_2 16 ∧ (∀ x2_8 : Int32, x2_8 = x2 + (-1) → (G1 x2_8 (upd v_E_paths (Int32.toNatClampNeg x3_2) ((f_bit x3_2) ||| (v_E_paths (Int32.toNatClampNeg r_4)))))))))))))))
def wp_X0_findPaths (P_rows : Int32) (P_order : (Nat → Int32)) (E_later : (Nat → Int32)) (E_paths : (Nat → Int32)) (Q : (Nat → Int32) → Prop) : Prop := ∀ (G1 : Int32 → (Nat → Int32) → Prop), (∀ (x2 : Int32) (v_E_paths : (Nat → Int32)), vc_X0_findPaths_1 P_rows P_order E_later E_paths Q G1 x2 v_E_paths → G1 x2 v_E_paths) → vc_X0_findPaths_0 P_rows P_order E_later E_paths Q G1
abbrev w0_X0_findPaths (g : cx_G) (a_E a_P a_P_entries a_P_order a_P_places a_P_rights a_P_weights a_E_joined a_E_later a_E_paths : Nat) (P_rows : Int32) (P_order : (Nat → Int32)) (E_later : (Nat → Int32)) (E_paths : (Nat → Int32)) : va_W := [(a_P, .inr (2, [.int P_rows, .ref a_P_entries, .ref a_P_order, .ref a_P_places, .ref a_P_rights, .ref a_P_weights])), (a_P_order, .inl (g.2.1, 16, .inl P_order)), (a_E, .inr (0, [.ref a_E_joined, .ref a_E_later, .ref a_E_paths])), (a_E_later, .inl (g.2.1, 16, .inl E_later)), (a_E_paths, .inl (g.2.1, 16, .inl E_paths))]
abbrev w1_X0_findPaths (g : cx_G) (a_E a_P a_P_entries a_P_order a_P_places a_P_rights a_P_weights a_E_joined a_E_later a_E_paths : Nat) (P_rows : Int32) (P_order : (Nat → Int32)) (E_later : (Nat → Int32)) (E_paths : (Nat → Int32)) (u : (Nat → Int32)) : va_W := [(a_P, .inr (2, [.int P_rows, .ref a_P_entries, .ref a_P_order, .ref a_P_places, .ref a_P_rights, .ref a_P_weights])), (a_P_order, .inl (g.2.1, 16, .inl P_order)), (a_E, .inr (0, [.ref a_E_joined, .ref a_E_later, .ref a_E_paths])), (a_E_later, .inl (g.2.1, 16, .inl E_later)), (a_E_paths, .inl (g.2.1, 16, .inl u))]
set_option maxHeartbeats 4000000 in
set_option maxRecDepth 100000 in
theorem c_X0_findPaths (l : Launch) (g : cx_G) (a_E a_P a_P_entries a_P_order a_P_places a_P_rights a_P_weights a_E_joined a_E_later a_E_paths : Nat) (P_rows : Int32) (P_order : (Nat → Int32)) (E_later : (Nat → Int32)) (E_paths : (Nat → Int32)) {Q : (Nat → Int32) → Prop} (hv : wp_X0_findPaths P_rows P_order E_later E_paths Q) : cx_Mv l g yX0_findPaths (Cond.code yX0_findPaths cX0_findPaths 5 none :: cx_T) ({ frames := 3, cells := 0, slots := 0, locals := 63 } : Room) [.ref a_E, .ref a_P] (w0_X0_findPaths g a_E a_P a_P_entries a_P_order a_P_places a_P_rights a_P_weights a_E_joined a_E_later a_E_paths P_rows P_order E_later E_paths) (fun (u : (Nat → Int32)) => Q u) (w1_X0_findPaths g a_E a_P a_P_entries a_P_order a_P_places a_P_rights a_P_weights a_E_joined a_E_later a_E_paths P_rows P_order E_later E_paths) 0 0 := by
  intro sz
  refine Met.ofW (cc := cX0_findPaths) (maxL := 5) (ret := none) (by decide) rfl ?_
  intro p e s m args below meth c s₁ B hml hpre
  obtain ⟨rfl, hsz, hP, hK, hD0⟩ := hpre
  have hx := B.exec
  have hb := B.bytes
  have hr := B.returns
  have hts0 := atoms_spec (ws := (Cond.code yX0_findPaths cX0_findPaths 5 none :: cx_T)) B.pre
  have hts : ∀ w ∈ cx_T, w.before _ s = true := fun w h => hts0 w (List.mem_cons_of_mem _ h)
  have hown : s.vm.findClass RX0 = some m.cls := findClass_of_methodNamed B.named
  have hlocks := B.notSynchronized
  subst hsz
  have hD := hD0.self (sz := s.heap.size)
  obtain ⟨A, hAe⟩ : ∃ A : Nat → Prop, A = va_A (w0_X0_findPaths g a_E a_P a_P_entries a_P_order a_P_places a_P_rights a_P_weights a_E_joined a_E_later a_E_paths P_rows P_order E_later E_paths) s.heap.size := ⟨_, rfl⟩
  rw [← hAe] at hD
  have hA : ∀ q : Nat, s.heap.size ≤ q → A q := fun q h => by rw [hAe]; exact Or.inr h
  have hS : va_S A s.heap s.heap [] := va_S.rf
  have hP : va_P g.1 vwCl [(a_P, .inr (2, [.int P_rows, .ref a_P_entries, .ref a_P_order, .ref a_P_places, .ref a_P_rights, .ref a_P_weights])), (a_P_order, .inl (g.2.1, 16, .inl P_order)), (a_E, .inr (0, [.ref a_E_joined, .ref a_E_later, .ref a_E_paths])), (a_E_later, .inl (g.2.1, 16, .inl E_later)), (a_E_paths, .inl (g.2.1, 16, .inl E_paths))] s.heap := hP
  have hD : va_D A [(a_P, .inr (2, [.int P_rows, .ref a_P_entries, .ref a_P_order, .ref a_P_places, .ref a_P_rights, .ref a_P_weights])), (a_P_order, .inl (g.2.1, 16, .inl P_order)), (a_E, .inr (0, [.ref a_E_joined, .ref a_E_later, .ref a_E_paths])), (a_E_later, .inl (g.2.1, 16, .inl E_later)), (a_E_paths, .inl (g.2.1, 16, .inl E_paths))] := hD
  have hl := lv_entry ([.ref a_E, .ref a_P]) (n := 5) (Nat.le_of_ble_eq_true rfl)
  rw [lg_entry_eq]
  generalize (lg_sl ([.ref a_E, .ref a_P]) ++ List.replicate (5 - (lg_sl ([.ref a_E, .ref a_P])).length) Slot.unset).toArray = ls at hl ⊢
  have hl : lv_has ls 5 [(0, .ref a_E), (1, .ref a_P)] := hl
  obtain ⟨G1, hG1⟩ : ∃ G : Int32 → (Nat → Int32) → Prop, G = (fun (x2 : Int32) (v_E_paths : (Nat → Int32)) => ∀ (H : Heap) (locs : List Loc) (ls : Array Slot), va_P g.1 vwCl [(a_P, .inr (2, [.int P_rows, .ref a_P_entries, .ref a_P_order, .ref a_P_places, .ref a_P_rights, .ref a_P_weights])), (a_P_order, .inl (g.2.1, 16, .inl P_order)), (a_E, .inr (0, [.ref a_E_joined, .ref a_E_later, .ref a_E_paths])), (a_E_later, .inl (g.2.1, 16, .inl E_later)), (a_E_paths, .inl (g.2.1, 16, .inl v_E_paths))] H → va_D A [(a_P, .inr (2, [.int P_rows, .ref a_P_entries, .ref a_P_order, .ref a_P_places, .ref a_P_rights, .ref a_P_weights])), (a_P_order, .inl (g.2.1, 16, .inl P_order)), (a_E, .inr (0, [.ref a_E_joined, .ref a_E_later, .ref a_E_paths])), (a_E_later, .inl (g.2.1, 16, .inl E_later)), (a_E_paths, .inl (g.2.1, 16, .inl v_E_paths))] → va_S A s.heap H locs → lv_has ls 5 [(2, .int x2), (0, .ref a_E), (1, .ref a_P)] → W p l e (headSpec (Cond.code yX0_findPaths cX0_findPaths 5 none :: cx_T) ({ frames := 3, cells := 0, slots := 0, locals := 63 } : Room)).room s m ([.ref a_E, .ref a_P] : List Value).toArray below meth c H locs 0 0 (MQ below (va_Qv (fun (u : (Nat → Int32)) => Q u) (cx_B g (w0_X0_findPaths g a_E a_P a_P_entries a_P_order a_P_places a_P_rights a_P_weights a_E_joined a_E_later a_E_paths P_rows P_order E_later E_paths) s.heap.size (w1_X0_findPaths g a_E a_P a_P_entries a_P_order a_P_places a_P_rights a_P_weights a_E_joined a_E_later a_E_paths P_rows P_order E_later E_paths)) (va_A (w0_X0_findPaths g a_E a_P a_P_entries a_P_order a_P_places a_P_rights a_P_weights a_E_joined a_E_later a_E_paths P_rows P_order E_later E_paths) s.heap.size)) ([.ref a_E, .ref a_P] : List Value).toArray s 0 0 (va_A (w0_X0_findPaths g a_E a_P a_P_entries a_P_order a_P_places a_P_rights a_P_weights a_E_joined a_E_later a_E_paths P_rows P_order E_later E_paths) s.heap.size)) (F0 m 7 ls [])) := ⟨_, rfl⟩
  have hs1 : ∀ (x2 : Int32) (v_E_paths : (Nat → Int32)), vc_X0_findPaths_1 P_rows P_order E_later E_paths Q G1 x2 v_E_paths → G1 x2 v_E_paths := by
    rw [hG1]
    intro x2 v_E_paths hv H locs ls hP hD hS hl
    unfold vc_X0_findPaths_1 at hv
    refine lv_iload_n hx hb dX0_findPaths_7 rfl (lv_at hl 0 rfl) ?_
    refine lv_if_lt (tgt := 64) hx hb dX0_findPaths_8 (by decide) (fun hc => ?_) (fun hc => ?_)
    · replace hv := hv.1 hc
      exact cx_vret hx hb hr hlocks hAe hS v_E_paths hv hP hD dX0_findPaths_64
    · replace hv := hv.2 hc
      refine lv_aload_n hx hb dX0_findPaths_11 rfl (lv_at hl 2 rfl) ?_
      refine va_get (D := g.1) (ci := 2) (v := .ref a_P_order) (C := RX2) (T := TX2) (N := 6) hx hb hts cw_in_X2 hown hK.1 hP 0 rfl rfl 2 (by decide) (hts _ cw_f_X0_35) (fun _ h9 => h9) rfl dX0_findPaths_12 ?_
      refine lv_iload_n hx hb dX0_findPaths_15 rfl (lv_at hl 0 rfl) ?_
      obtain ⟨h_1, hv⟩ := hv
      refine va_iald (D := g.1) hx hb hK.1 hP 1 0 rfl rfl h_1 dX0_findPaths_16 ?_
      refine lv_topi (fun x3_2 ex3_2 => ?_)
      replace hv := hv x3_2 ex3_2
      refine lv_istore_n (lv' := [(3, .int x3_2), (2, .int x2), (0, .ref a_E), (1, .ref a_P)]) hx hb dX0_findPaths_17 rfl hl (by decide) rfl (fun ls hl => ?_)
      refine lv_aload_n hx hb dX0_findPaths_18 rfl (lv_at hl 3 rfl) ?_
      refine lv_aload_n hx hb dX0_findPaths_19 rfl (lv_at hl 2 rfl) ?_
      refine va_get (D := g.1) (ci := 0) (v := .ref a_E_later) (C := RX0) (T := TX0) (N := 3) hx hb hts cw_in_X0 hown hK.1 hP 2 rfl rfl 1 (by decide) (hts _ cw_f_X0_15) (fun _ h9 => h9) rfl dX0_findPaths_20 ?_
      refine lv_iload_n hx hb dX0_findPaths_23 rfl (lv_at hl 0 rfl) ?_
      obtain ⟨h_3, hv⟩ := hv
      refine va_iald (D := g.1) hx hb hK.1 hP 3 0 rfl rfl h_3 dX0_findPaths_24 ?_
      refine cx_iVr (As := [.int (E_later (Int32.toNatClampNeg x3_2))]) (rest := []) ⟨hx, hb, hml, hown, hts⟩ (c_X2_firstOf l g a_P a_P_entries a_P_order a_P_places a_P_rights a_P_weights (E_later (Int32.toNatClampNeg x3_2)) P_rows P_order hv) (cx_cwV 1 hts cw_m_X0_68 cw_i_X2_firstOf cw_s_X2_firstOf cw_n_X2 cw_c_X2_firstOf rfl rfl (by decide +kernel) ⟨Nat.le_of_ble_eq_true rfl, Nat.le_of_ble_eq_true rfl⟩) hK hP hD hS hA 0 2 rfl rfl [0, 1] rfl rfl rfl hl.1 rfl (Nat.le_of_ble_eq_true rfl) dX0_findPaths_25 ⟨Nat.le_of_ble_eq_true rfl, Nat.le_of_ble_eq_true rfl⟩ (fun r_4 H locs hv hP hS => ?_)
      refine lv_istore (lv' := [(4, .int r_4), (3, .int x3_2), (2, .int x2), (0, .ref a_E), (1, .ref a_P)]) hx hb dX0_findPaths_28 hl (by decide) rfl (fun ls hl => ?_)
      refine lv_aload_n hx hb dX0_findPaths_30 rfl (lv_at hl 3 rfl) ?_
      refine va_get (D := g.1) (ci := 0) (v := .ref a_E_paths) (C := RX0) (T := TX0) (N := 3) hx hb hts cw_in_X0 hown hK.1 hP 2 rfl rfl 2 (by decide) (hts _ cw_f_X0_18) (fun _ h9 => h9) rfl dX0_findPaths_31 ?_
      refine lv_iload_n hx hb dX0_findPaths_34 rfl (lv_at hl 1 rfl) ?_
      refine lv_iload_n hx hb dX0_findPaths_35 rfl (lv_at hl 1 rfl) ?_
      refine cx_iNr (As := [.int x3_2]) (rest := [.int x3_2, .ref a_E_paths]) ⟨hx, hb, hml, hown, hts⟩ (cp_X4_bit l g x3_2) (cx_cwN 1 hts (hK.2.at 10 rfl) cw_t_X4_bit cw_n_X4 cw_c_X4_bit rfl rfl (by decide +kernel) ⟨Nat.le_of_ble_eq_true rfl, Nat.le_of_ble_eq_true rfl⟩) hK hP hD hS hA [] rfl rfl rfl hl.1 rfl (Nat.le_of_ble_eq_true rfl) dX0_findPaths_36 ⟨Nat.le_of_ble_eq_true rfl, Nat.le_of_ble_eq_true rfl⟩ (fun r_5 H locs hr9 hP hS => ?_)
      replace hr9 : r_5 = (f_bit x3_2) := hr9
      subst hr9
      refine lv_iload hx hb dX0_findPaths_39 (lv_at hl 0 rfl) ?_
      refine lv_iconst (v := (-1)) hx hb dX0_findPaths_41 (by decide) ?_
      refine lv_icmp_ne (tgt := 49) hx hb dX0_findPaths_42 (by decide) (fun hc => ?_) (fun hc => ?_)
      · replace hv := hv.2 hc
        refine lv_aload_n hx hb dX0_findPaths_49 rfl (lv_at hl 3 rfl) ?_
        refine va_get (D := g.1) (ci := 0) (v := .ref a_E_paths) (C := RX0) (T := TX0) (N := 3) hx hb hts cw_in_X0 hown hK.1 hP 2 rfl rfl 2 (by decide) (hts _ cw_f_X0_18) (fun _ h9 => h9) rfl dX0_findPaths_50 ?_
        refine lv_iload hx hb dX0_findPaths_53 (lv_at hl 0 rfl) ?_
        obtain ⟨h_6, hv⟩ := hv
        refine va_iald (D := g.1) hx hb hK.1 hP 4 0 rfl rfl h_6 dX0_findPaths_55 ?_
        refine lv_ior hx hb dX0_findPaths_56 ?_
        obtain ⟨h_7, hv⟩ := hv
        refine va_iast (D := g.1) hx hb hK.1 hP hD hS 4 0 rfl rfl h_7 dX0_findPaths_57 (fun H locs hP hD hS => ?_)
        have hP : va_P g.1 vwCl [(a_P, .inr (2, [.int P_rows, .ref a_P_entries, .ref a_P_order, .ref a_P_places, .ref a_P_rights, .ref a_P_weights])), (a_P_order, .inl (g.2.1, 16, .inl P_order)), (a_E, .inr (0, [.ref a_E_joined, .ref a_E_later, .ref a_E_paths])), (a_E_later, .inl (g.2.1, 16, .inl E_later)), (a_E_paths, .inl (g.2.1, 16, .inl (upd v_E_paths (Int32.toNatClampNeg x3_2) ((f_bit x3_2) ||| (v_E_paths (Int32.toNatClampNeg r_4))))))] H := hP
        have hD : va_D A [(a_P, .inr (2, [.int P_rows, .ref a_P_entries, .ref a_P_order, .ref a_P_places, .ref a_P_rights, .ref a_P_weights])), (a_P_order, .inl (g.2.1, 16, .inl P_order)), (a_E, .inr (0, [.ref a_E_joined, .ref a_E_later, .ref a_E_paths])), (a_E_later, .inl (g.2.1, 16, .inl E_later)), (a_E_paths, .inl (g.2.1, 16, .inl (upd v_E_paths (Int32.toNatClampNeg x3_2) ((f_bit x3_2) ||| (v_E_paths (Int32.toNatClampNeg r_4))))))] := hD
        obtain ⟨x2_8, ex2_8⟩ : ∃ y : Int32, y = x2 + (-1) := ⟨_, rfl⟩
        replace hv := hv x2_8 ex2_8
        refine lv_iinc (v := x2_8) (lv' := [(2, .int x2_8), (4, .int r_4), (3, .int x3_2), (0, .ref a_E), (1, .ref a_P)]) hx hb dX0_findPaths_58 hl (k := 2) rfl (by rw [ex2_8]; rfl) (by decide) rfl (fun ls hl => ?_)
        refine lv_goto (tgt := 7) hx hb dX0_findPaths_61 (by decide) ?_
        exact hv _ _ _ hP hD hS (lv_sub hl [0, 3, 4] rfl)
      · replace hv := hv.1 hc
        refine lv_iconst (v := 0) hx hb dX0_findPaths_45 (by decide) ?_
        refine lv_goto (tgt := 56) hx hb dX0_findPaths_46 (by decide) ?_
        refine lv_ior hx hb dX0_findPaths_56 ?_
        obtain ⟨h_9, hv⟩ := hv
        refine va_iast (D := g.1) hx hb hK.1 hP hD hS 4 0 rfl rfl h_9 dX0_findPaths_57 (fun H locs hP hD hS => ?_)
        have hP : va_P g.1 vwCl [(a_P, .inr (2, [.int P_rows, .ref a_P_entries, .ref a_P_order, .ref a_P_places, .ref a_P_rights, .ref a_P_weights])), (a_P_order, .inl (g.2.1, 16, .inl P_order)), (a_E, .inr (0, [.ref a_E_joined, .ref a_E_later, .ref a_E_paths])), (a_E_later, .inl (g.2.1, 16, .inl E_later)), (a_E_paths, .inl (g.2.1, 16, .inl (upd v_E_paths (Int32.toNatClampNeg x3_2) ((f_bit x3_2) ||| 0))))] H := hP
        have hD : va_D A [(a_P, .inr (2, [.int P_rows, .ref a_P_entries, .ref a_P_order, .ref a_P_places, .ref a_P_rights, .ref a_P_weights])), (a_P_order, .inl (g.2.1, 16, .inl P_order)), (a_E, .inr (0, [.ref a_E_joined, .ref a_E_later, .ref a_E_paths])), (a_E_later, .inl (g.2.1, 16, .inl E_later)), (a_E_paths, .inl (g.2.1, 16, .inl (upd v_E_paths (Int32.toNatClampNeg x3_2) ((f_bit x3_2) ||| 0))))] := hD
        obtain ⟨x2_10, ex2_10⟩ : ∃ y : Int32, y = x2 + (-1) := ⟨_, rfl⟩
        replace hv := hv x2_10 ex2_10
        refine lv_iinc (v := x2_10) (lv' := [(2, .int x2_10), (4, .int r_4), (3, .int x3_2), (0, .ref a_E), (1, .ref a_P)]) hx hb dX0_findPaths_58 hl (k := 2) rfl (by rw [ex2_10]; rfl) (by decide) rfl (fun ls hl => ?_)
        refine lv_goto (tgt := 7) hx hb dX0_findPaths_61 (by decide) ?_
        exact hv _ _ _ hP hD hS (lv_sub hl [0, 3, 4] rfl)
  replace hv := hv G1 hs1
  rw [hG1] at hv
  unfold vc_X0_findPaths_0 at hv
  refine lv_aload_n hx hb dX0_findPaths_0 rfl (lv_at hl 1 rfl) ?_
  refine va_get (D := g.1) (ci := 2) (v := .int P_rows) (C := RX2) (T := TX2) (N := 6) hx hb hts cw_in_X2 hown hK.1 hP 0 rfl rfl 0 (by decide) (hts _ cw_f_X0_31) (fun _ h9 => h9) rfl dX0_findPaths_1 ?_
  refine lv_iconst (v := 1) hx hb dX0_findPaths_4 (by decide) ?_
  refine lv_isub hx hb dX0_findPaths_5 ?_
  refine lv_topi (fun x2_1 ex2_1 => ?_)
  replace hv := hv x2_1 ex2_1
  refine lv_istore_n (lv' := [(2, .int x2_1), (0, .ref a_E), (1, .ref a_P)]) hx hb dX0_findPaths_6 rfl hl (by decide) rfl (fun ls hl => ?_)
  exact hv _ _ _ hP hD hS (lv_sub hl [0, 1, 2] rfl)
def vc_X0_run_0 (P_rows : Int32) (P_entries : (Nat → Int32)) (E_joined : (Nat → Int32)) (P_order : (Nat → Int32)) (E_later : (Nat → Int32)) (E_paths : (Nat → Int32)) (Q : (Nat → Int32) → (Nat → Int32) → (Nat → Int32) → Prop) (G1 : Int32 → Int32 → (Nat → Int32) → (Nat → Int32) → (Nat → Int32) → Prop)  : Prop := wp_X0_joinLinked P_rows P_entries E_joined (fun u_2 => wp_X2_allRows P_rows (fun r_4 => G1 0 r_4 u_2 E_later E_paths))
def vc_X0_run_1 (P_rows : Int32) (P_entries : (Nat → Int32)) (E_joined : (Nat → Int32)) (P_order : (Nat → Int32)) (E_later : (Nat → Int32)) (E_paths : (Nat → Int32)) (Q : (Nat → Int32) → (Nat → Int32) → (Nat → Int32) → Prop) (G1 : Int32 → Int32 → (Nat → Int32) → (Nat → Int32) → (Nat → Int32) → Prop) (x3 : Int32) (x2 : Int32) (v_E_joined : (Nat → Int32)) (v_E_later : (Nat → Int32)) (v_E_paths : (Nat → Int32)) : Prop := (P_rows ≤ x3 → (wp_X0_findPaths P_rows P_order v_E_later v_E_paths (fun u_2 => Q v_E_joined v_E_later u_2))) ∧ (¬ P_rows ≤ x3 → (vp_in x3 16 ∧ (∀ x4_5 : Int32, x4_5 = (P_order (Int32.toNatClampNeg x3)) → (∀ x2_7 : Int32, x2_7 = (x2 &&& ((f_bit x4_5) ^^^ (-1))) → (vp_in x4_5 16 ∧ (vp_in x4_5 16 ∧ (vp_in x4_5 16 ∧ (wp_X0_joinAll ((upd v_E_later (Int32.toNatClampNeg x4_5) ((v_E_joined (Int32.toNatClampNeg x4_5)) &&& x2_7)) (Int32.toNatClampNeg x4_5)) v_E_joined (fun u_12 => ∀ x3_14 : Int32, x3_14 = x3 + 1 → (G1 x3_14 x2_7 u_12 (upd v_E_later (Int32.toNatClampNeg x4_5) ((v_E_joined (Int32.toNatClampNeg x4_5)) &&& x2_7)) v_E_paths))))))))))
def wp_X0_run (P_rows : Int32) (P_entries : (Nat → Int32)) (E_joined : (Nat → Int32)) (P_order : (Nat → Int32)) (E_later : (Nat → Int32)) (E_paths : (Nat → Int32)) (Q : (Nat → Int32) → (Nat → Int32) → (Nat → Int32) → Prop) : Prop := ∀ (G1 : Int32 → Int32 → (Nat → Int32) → (Nat → Int32) → (Nat → Int32) → Prop), (∀ (x3 : Int32) (x2 : Int32) (v_E_joined : (Nat → Int32)) (v_E_later : (Nat → Int32)) (v_E_paths : (Nat → Int32)), vc_X0_run_1 P_rows P_entries E_joined P_order E_later E_paths Q G1 x3 x2 v_E_joined v_E_later v_E_paths → G1 x3 x2 v_E_joined v_E_later v_E_paths) → vc_X0_run_0 P_rows P_entries E_joined P_order E_later E_paths Q G1
abbrev w0_X0_run (g : cx_G) (a_E a_P a_P_entries a_P_order a_P_places a_P_rights a_P_weights a_E_joined a_E_later a_E_paths : Nat) (P_rows : Int32) (P_entries : (Nat → Int32)) (E_joined : (Nat → Int32)) (P_order : (Nat → Int32)) (E_later : (Nat → Int32)) (E_paths : (Nat → Int32)) : va_W := [(a_P, .inr (2, [.int P_rows, .ref a_P_entries, .ref a_P_order, .ref a_P_places, .ref a_P_rights, .ref a_P_weights])), (a_E, .inr (0, [.ref a_E_joined, .ref a_E_later, .ref a_E_paths])), (a_P_entries, .inl (g.2.1, 256, .inl P_entries)), (a_E_joined, .inl (g.2.1, 16, .inl E_joined)), (a_P_order, .inl (g.2.1, 16, .inl P_order)), (a_E_later, .inl (g.2.1, 16, .inl E_later)), (a_E_paths, .inl (g.2.1, 16, .inl E_paths))]
abbrev w1_X0_run (g : cx_G) (a_E a_P a_P_entries a_P_order a_P_places a_P_rights a_P_weights a_E_joined a_E_later a_E_paths : Nat) (P_rows : Int32) (P_entries : (Nat → Int32)) (E_joined : (Nat → Int32)) (P_order : (Nat → Int32)) (E_later : (Nat → Int32)) (E_paths : (Nat → Int32)) (u : (Nat → Int32) × (Nat → Int32) × (Nat → Int32)) : va_W := [(a_P, .inr (2, [.int P_rows, .ref a_P_entries, .ref a_P_order, .ref a_P_places, .ref a_P_rights, .ref a_P_weights])), (a_E, .inr (0, [.ref a_E_joined, .ref a_E_later, .ref a_E_paths])), (a_P_entries, .inl (g.2.1, 256, .inl P_entries)), (a_E_joined, .inl (g.2.1, 16, .inl u.1)), (a_P_order, .inl (g.2.1, 16, .inl P_order)), (a_E_later, .inl (g.2.1, 16, .inl u.2.1)), (a_E_paths, .inl (g.2.1, 16, .inl u.2.2))]
set_option maxHeartbeats 4000000 in
set_option maxRecDepth 100000 in
theorem c_X0_run (l : Launch) (g : cx_G) (a_E a_P a_P_entries a_P_order a_P_places a_P_rights a_P_weights a_E_joined a_E_later a_E_paths : Nat) (P_rows : Int32) (P_entries : (Nat → Int32)) (E_joined : (Nat → Int32)) (P_order : (Nat → Int32)) (E_later : (Nat → Int32)) (E_paths : (Nat → Int32)) {Q : (Nat → Int32) → (Nat → Int32) → (Nat → Int32) → Prop} (hv : wp_X0_run P_rows P_entries E_joined P_order E_later E_paths Q) : cx_Mv l g yX0_run (Cond.code yX0_run cX0_run 5 none :: cx_T) ({ frames := 4, cells := 0, slots := 0, locals := 88 } : Room) [.ref a_E, .ref a_P] (w0_X0_run g a_E a_P a_P_entries a_P_order a_P_places a_P_rights a_P_weights a_E_joined a_E_later a_E_paths P_rows P_entries E_joined P_order E_later E_paths) (fun (u : (Nat → Int32) × (Nat → Int32) × (Nat → Int32)) => Q u.1 u.2.1 u.2.2) (w1_X0_run g a_E a_P a_P_entries a_P_order a_P_places a_P_rights a_P_weights a_E_joined a_E_later a_E_paths P_rows P_entries E_joined P_order E_later E_paths) 0 0 := by
  intro sz
  refine Met.ofW (cc := cX0_run) (maxL := 5) (ret := none) (by decide) rfl ?_
  intro p e s m args below meth c s₁ B hml hpre
  obtain ⟨rfl, hsz, hP, hK, hD0⟩ := hpre
  have hx := B.exec
  have hb := B.bytes
  have hr := B.returns
  have hts0 := atoms_spec (ws := (Cond.code yX0_run cX0_run 5 none :: cx_T)) B.pre
  have hts : ∀ w ∈ cx_T, w.before _ s = true := fun w h => hts0 w (List.mem_cons_of_mem _ h)
  have hown : s.vm.findClass RX0 = some m.cls := findClass_of_methodNamed B.named
  have hlocks := B.notSynchronized
  subst hsz
  have hD := hD0.self (sz := s.heap.size)
  obtain ⟨A, hAe⟩ : ∃ A : Nat → Prop, A = va_A (w0_X0_run g a_E a_P a_P_entries a_P_order a_P_places a_P_rights a_P_weights a_E_joined a_E_later a_E_paths P_rows P_entries E_joined P_order E_later E_paths) s.heap.size := ⟨_, rfl⟩
  rw [← hAe] at hD
  have hA : ∀ q : Nat, s.heap.size ≤ q → A q := fun q h => by rw [hAe]; exact Or.inr h
  have hS : va_S A s.heap s.heap [] := va_S.rf
  have hP : va_P g.1 vwCl [(a_P, .inr (2, [.int P_rows, .ref a_P_entries, .ref a_P_order, .ref a_P_places, .ref a_P_rights, .ref a_P_weights])), (a_E, .inr (0, [.ref a_E_joined, .ref a_E_later, .ref a_E_paths])), (a_P_entries, .inl (g.2.1, 256, .inl P_entries)), (a_E_joined, .inl (g.2.1, 16, .inl E_joined)), (a_P_order, .inl (g.2.1, 16, .inl P_order)), (a_E_later, .inl (g.2.1, 16, .inl E_later)), (a_E_paths, .inl (g.2.1, 16, .inl E_paths))] s.heap := hP
  have hD : va_D A [(a_P, .inr (2, [.int P_rows, .ref a_P_entries, .ref a_P_order, .ref a_P_places, .ref a_P_rights, .ref a_P_weights])), (a_E, .inr (0, [.ref a_E_joined, .ref a_E_later, .ref a_E_paths])), (a_P_entries, .inl (g.2.1, 256, .inl P_entries)), (a_E_joined, .inl (g.2.1, 16, .inl E_joined)), (a_P_order, .inl (g.2.1, 16, .inl P_order)), (a_E_later, .inl (g.2.1, 16, .inl E_later)), (a_E_paths, .inl (g.2.1, 16, .inl E_paths))] := hD
  have hl := lv_entry ([.ref a_E, .ref a_P]) (n := 5) (Nat.le_of_ble_eq_true rfl)
  rw [lg_entry_eq]
  generalize (lg_sl ([.ref a_E, .ref a_P]) ++ List.replicate (5 - (lg_sl ([.ref a_E, .ref a_P])).length) Slot.unset).toArray = ls at hl ⊢
  have hl : lv_has ls 5 [(0, .ref a_E), (1, .ref a_P)] := hl
  obtain ⟨G1, hG1⟩ : ∃ G : Int32 → Int32 → (Nat → Int32) → (Nat → Int32) → (Nat → Int32) → Prop, G = (fun (x3 : Int32) (x2 : Int32) (v_E_joined : (Nat → Int32)) (v_E_later : (Nat → Int32)) (v_E_paths : (Nat → Int32)) => ∀ (H : Heap) (locs : List Loc) (ls : Array Slot), va_P g.1 vwCl [(a_P, .inr (2, [.int P_rows, .ref a_P_entries, .ref a_P_order, .ref a_P_places, .ref a_P_rights, .ref a_P_weights])), (a_E, .inr (0, [.ref a_E_joined, .ref a_E_later, .ref a_E_paths])), (a_P_entries, .inl (g.2.1, 256, .inl P_entries)), (a_E_joined, .inl (g.2.1, 16, .inl v_E_joined)), (a_P_order, .inl (g.2.1, 16, .inl P_order)), (a_E_later, .inl (g.2.1, 16, .inl v_E_later)), (a_E_paths, .inl (g.2.1, 16, .inl v_E_paths))] H → va_D A [(a_P, .inr (2, [.int P_rows, .ref a_P_entries, .ref a_P_order, .ref a_P_places, .ref a_P_rights, .ref a_P_weights])), (a_E, .inr (0, [.ref a_E_joined, .ref a_E_later, .ref a_E_paths])), (a_P_entries, .inl (g.2.1, 256, .inl P_entries)), (a_E_joined, .inl (g.2.1, 16, .inl v_E_joined)), (a_P_order, .inl (g.2.1, 16, .inl P_order)), (a_E_later, .inl (g.2.1, 16, .inl v_E_later)), (a_E_paths, .inl (g.2.1, 16, .inl v_E_paths))] → va_S A s.heap H locs → lv_has ls 5 [(3, .int x3), (2, .int x2), (0, .ref a_E), (1, .ref a_P)] → W p l e (headSpec (Cond.code yX0_run cX0_run 5 none :: cx_T) ({ frames := 4, cells := 0, slots := 0, locals := 88 } : Room)).room s m ([.ref a_E, .ref a_P] : List Value).toArray below meth c H locs 0 0 (MQ below (va_Qv (fun (u : (Nat → Int32) × (Nat → Int32) × (Nat → Int32)) => Q u.1 u.2.1 u.2.2) (cx_B g (w0_X0_run g a_E a_P a_P_entries a_P_order a_P_places a_P_rights a_P_weights a_E_joined a_E_later a_E_paths P_rows P_entries E_joined P_order E_later E_paths) s.heap.size (w1_X0_run g a_E a_P a_P_entries a_P_order a_P_places a_P_rights a_P_weights a_E_joined a_E_later a_E_paths P_rows P_entries E_joined P_order E_later E_paths)) (va_A (w0_X0_run g a_E a_P a_P_entries a_P_order a_P_places a_P_rights a_P_weights a_E_joined a_E_later a_E_paths P_rows P_entries E_joined P_order E_later E_paths) s.heap.size)) ([.ref a_E, .ref a_P] : List Value).toArray s 0 0 (va_A (w0_X0_run g a_E a_P a_P_entries a_P_order a_P_places a_P_rights a_P_weights a_E_joined a_E_later a_E_paths P_rows P_entries E_joined P_order E_later E_paths) s.heap.size)) (F0 m 12 ls [])) := ⟨_, rfl⟩
  have hs1 : ∀ (x3 : Int32) (x2 : Int32) (v_E_joined : (Nat → Int32)) (v_E_later : (Nat → Int32)) (v_E_paths : (Nat → Int32)), vc_X0_run_1 P_rows P_entries E_joined P_order E_later E_paths Q G1 x3 x2 v_E_joined v_E_later v_E_paths → G1 x3 x2 v_E_joined v_E_later v_E_paths := by
    rw [hG1]
    intro x3 x2 v_E_joined v_E_later v_E_paths hv H locs ls hP hD hS hl
    unfold vc_X0_run_1 at hv
    refine lv_iload_n hx hb dX0_run_12 rfl (lv_at hl 0 rfl) ?_
    refine lv_aload_n hx hb dX0_run_13 rfl (lv_at hl 3 rfl) ?_
    refine va_get (D := g.1) (ci := 2) (v := .int P_rows) (C := RX2) (T := TX2) (N := 6) hx hb hts cw_in_X2 hown hK.1 hP 0 rfl rfl 0 (by decide) (hts _ cw_f_X0_31) (fun _ h9 => h9) rfl dX0_run_14 ?_
    refine lv_icmp_ge (tgt := 71) hx hb dX0_run_17 (by decide) (fun hc => ?_) (fun hc => ?_)
    · replace hv := hv.1 hc
      refine lv_aload_n hx hb dX0_run_71 rfl (lv_at hl 2 rfl) ?_
      refine lv_aload_n hx hb dX0_run_72 rfl (lv_at hl 3 rfl) ?_
      refine cx_vV (wr := [(a_P_entries, .inl (g.2.1, 256, .inl P_entries)), (a_E_joined, .inl (g.2.1, 16, .inl v_E_joined))]) (As := [.ref a_P]) (rest := []) ⟨hx, hb, hml, hown, hts⟩ (c_X0_findPaths l g a_E a_P a_P_entries a_P_order a_P_places a_P_rights a_P_weights a_E_joined a_E_later a_E_paths P_rows P_order v_E_later v_E_paths hv) (cx_cwV 1 hts cw_m_X0_46 cw_i_X0_findPaths cw_s_X0_findPaths cw_n_X0 cw_c_X0_findPaths rfl rfl (by decide +kernel) ⟨Nat.le_of_ble_eq_true rfl, Nat.le_of_ble_eq_true rfl⟩) hK hP hD hS hA 1 0 rfl rfl [0, 4, 1, 5, 6] [2, 3] rfl rfl rfl rfl (by decide) rfl hl.1 rfl (Nat.le_of_ble_eq_true rfl) dX0_run_73 ⟨Nat.le_of_ble_eq_true rfl, Nat.le_of_ble_eq_true rfl⟩ (fun w_3 H locs hv hP hD hS => ?_)
      obtain ⟨u_2, rfl⟩ : ∃ z, z = w_3 := ⟨_, rfl⟩
      have hP : va_P g.1 vwCl [(a_P, .inr (2, [.int P_rows, .ref a_P_entries, .ref a_P_order, .ref a_P_places, .ref a_P_rights, .ref a_P_weights])), (a_E, .inr (0, [.ref a_E_joined, .ref a_E_later, .ref a_E_paths])), (a_P_entries, .inl (g.2.1, 256, .inl P_entries)), (a_E_joined, .inl (g.2.1, 16, .inl v_E_joined)), (a_P_order, .inl (g.2.1, 16, .inl P_order)), (a_E_later, .inl (g.2.1, 16, .inl v_E_later)), (a_E_paths, .inl (g.2.1, 16, .inl u_2))] H := hP.sub [2, 4, 0, 1, 3, 5, 6] rfl
      have hD : va_D A [(a_P, .inr (2, [.int P_rows, .ref a_P_entries, .ref a_P_order, .ref a_P_places, .ref a_P_rights, .ref a_P_weights])), (a_E, .inr (0, [.ref a_E_joined, .ref a_E_later, .ref a_E_paths])), (a_P_entries, .inl (g.2.1, 256, .inl P_entries)), (a_E_joined, .inl (g.2.1, 16, .inl v_E_joined)), (a_P_order, .inl (g.2.1, 16, .inl P_order)), (a_E_later, .inl (g.2.1, 16, .inl v_E_later)), (a_E_paths, .inl (g.2.1, 16, .inl u_2))] := hD.sub [2, 4, 0, 1, 3, 5, 6] (by decide) rfl
      exact cx_vret hx hb hr hlocks hAe hS (v_E_joined, v_E_later, u_2) hv hP hD dX0_run_76
    · replace hv := hv.2 hc
      refine lv_aload_n hx hb dX0_run_20 rfl (lv_at hl 3 rfl) ?_
      refine va_get (D := g.1) (ci := 2) (v := .ref a_P_order) (C := RX2) (T := TX2) (N := 6) hx hb hts cw_in_X2 hown hK.1 hP 0 rfl rfl 2 (by decide) (hts _ cw_f_X0_35) (fun _ h9 => h9) rfl dX0_run_21 ?_
      refine lv_iload_n hx hb dX0_run_24 rfl (lv_at hl 0 rfl) ?_
      obtain ⟨h_4, hv⟩ := hv
      refine va_iald (D := g.1) hx hb hK.1 hP 4 0 rfl rfl h_4 dX0_run_25 ?_
      refine lv_topi (fun x4_5 ex4_5 => ?_)
      replace hv := hv x4_5 ex4_5
      refine lv_istore (lv' := [(4, .int x4_5), (3, .int x3), (2, .int x2), (0, .ref a_E), (1, .ref a_P)]) hx hb dX0_run_26 hl (by decide) rfl (fun ls hl => ?_)
      refine lv_iload_n hx hb dX0_run_28 rfl (lv_at hl 2 rfl) ?_
      refine lv_iload hx hb dX0_run_29 (lv_at hl 0 rfl) ?_
      refine cx_iNr (As := [.int x4_5]) (rest := [.int x2]) ⟨hx, hb, hml, hown, hts⟩ (cp_X4_bit l g x4_5) (cx_cwN 1 hts (hK.2.at 10 rfl) cw_t_X4_bit cw_n_X4 cw_c_X4_bit rfl rfl (by decide +kernel) ⟨Nat.le_of_ble_eq_true rfl, Nat.le_of_ble_eq_true rfl⟩) hK hP hD hS hA [] rfl rfl rfl hl.1 rfl (Nat.le_of_ble_eq_true rfl) dX0_run_31 ⟨Nat.le_of_ble_eq_true rfl, Nat.le_of_ble_eq_true rfl⟩ (fun r_6 H locs hr9 hP hS => ?_)
      replace hr9 : r_6 = (f_bit x4_5) := hr9
      subst hr9
      refine lv_iconst (v := (-1)) hx hb dX0_run_34 (by decide) ?_
      refine lv_ixor hx hb dX0_run_35 ?_
      refine lv_iand hx hb dX0_run_36 ?_
      refine lv_topi (fun x2_7 ex2_7 => ?_)
      replace hv := hv x2_7 ex2_7
      refine lv_istore_n (lv' := [(2, .int x2_7), (4, .int x4_5), (3, .int x3), (0, .ref a_E), (1, .ref a_P)]) hx hb dX0_run_37 rfl hl (by decide) rfl (fun ls hl => ?_)
      refine lv_aload_n hx hb dX0_run_38 rfl (lv_at hl 3 rfl) ?_
      refine va_get (D := g.1) (ci := 0) (v := .ref a_E_later) (C := RX0) (T := TX0) (N := 3) hx hb hts cw_in_X0 hown hK.1 hP 1 rfl rfl 1 (by decide) (hts _ cw_f_X0_15) (fun _ h9 => h9) rfl dX0_run_39 ?_
      refine lv_iload hx hb dX0_run_42 (lv_at hl 1 rfl) ?_
      refine lv_aload_n hx hb dX0_run_44 rfl (lv_at hl 3 rfl) ?_
      refine va_get (D := g.1) (ci := 0) (v := .ref a_E_joined) (C := RX0) (T := TX0) (N := 3) hx hb hts cw_in_X0 hown hK.1 hP 1 rfl rfl 0 (by decide) (hts _ cw_f_X0_9) (fun _ h9 => h9) rfl dX0_run_45 ?_
      refine lv_iload hx hb dX0_run_48 (lv_at hl 1 rfl) ?_
      obtain ⟨h_8, hv⟩ := hv
      refine va_iald (D := g.1) hx hb hK.1 hP 3 0 rfl rfl h_8 dX0_run_50 ?_
      refine lv_iload_n hx hb dX0_run_51 rfl (lv_at hl 0 rfl) ?_
      refine lv_iand hx hb dX0_run_52 ?_
      obtain ⟨h_9, hv⟩ := hv
      refine va_iast (D := g.1) hx hb hK.1 hP hD hS 5 0 rfl rfl h_9 dX0_run_53 (fun H locs hP hD hS => ?_)
      have hP : va_P g.1 vwCl [(a_P, .inr (2, [.int P_rows, .ref a_P_entries, .ref a_P_order, .ref a_P_places, .ref a_P_rights, .ref a_P_weights])), (a_E, .inr (0, [.ref a_E_joined, .ref a_E_later, .ref a_E_paths])), (a_P_entries, .inl (g.2.1, 256, .inl P_entries)), (a_E_joined, .inl (g.2.1, 16, .inl v_E_joined)), (a_P_order, .inl (g.2.1, 16, .inl P_order)), (a_E_later, .inl (g.2.1, 16, .inl (upd v_E_later (Int32.toNatClampNeg x4_5) ((v_E_joined (Int32.toNatClampNeg x4_5)) &&& x2_7)))), (a_E_paths, .inl (g.2.1, 16, .inl v_E_paths))] H := hP
      have hD : va_D A [(a_P, .inr (2, [.int P_rows, .ref a_P_entries, .ref a_P_order, .ref a_P_places, .ref a_P_rights, .ref a_P_weights])), (a_E, .inr (0, [.ref a_E_joined, .ref a_E_later, .ref a_E_paths])), (a_P_entries, .inl (g.2.1, 256, .inl P_entries)), (a_E_joined, .inl (g.2.1, 16, .inl v_E_joined)), (a_P_order, .inl (g.2.1, 16, .inl P_order)), (a_E_later, .inl (g.2.1, 16, .inl (upd v_E_later (Int32.toNatClampNeg x4_5) ((v_E_joined (Int32.toNatClampNeg x4_5)) &&& x2_7)))), (a_E_paths, .inl (g.2.1, 16, .inl v_E_paths))] := hD
      refine lv_aload_n hx hb dX0_run_54 rfl (lv_at hl 3 rfl) ?_
      refine lv_aload_n hx hb dX0_run_55 rfl (lv_at hl 3 rfl) ?_
      refine va_get (D := g.1) (ci := 0) (v := .ref a_E_later) (C := RX0) (T := TX0) (N := 3) hx hb hts cw_in_X0 hown hK.1 hP 1 rfl rfl 1 (by decide) (hts _ cw_f_X0_15) (fun _ h9 => h9) rfl dX0_run_56 ?_
      refine lv_iload hx hb dX0_run_59 (lv_at hl 1 rfl) ?_
      obtain ⟨h_10, hv⟩ := hv
      refine va_iald (D := g.1) hx hb hK.1 hP 5 0 rfl rfl h_10 dX0_run_61 ?_
      refine cx_vV (wr := [(a_P, .inr (2, [.int P_rows, .ref a_P_entries, .ref a_P_order, .ref a_P_places, .ref a_P_rights, .ref a_P_weights])), (a_P_entries, .inl (g.2.1, 256, .inl P_entries)), (a_P_order, .inl (g.2.1, 16, .inl P_order)), (a_E_later, .inl (g.2.1, 16, .inl (upd v_E_later (Int32.toNatClampNeg x4_5) ((v_E_joined (Int32.toNatClampNeg x4_5)) &&& x2_7)))), (a_E_paths, .inl (g.2.1, 16, .inl v_E_paths))]) (As := [.int ((upd v_E_later (Int32.toNatClampNeg x4_5) ((v_E_joined (Int32.toNatClampNeg x4_5)) &&& x2_7)) (Int32.toNatClampNeg x4_5))]) (rest := []) ⟨hx, hb, hml, hown, hts⟩ (c_X0_joinAll l g a_E a_E_joined a_E_later a_E_paths ((upd v_E_later (Int32.toNatClampNeg x4_5) ((v_E_joined (Int32.toNatClampNeg x4_5)) &&& x2_7)) (Int32.toNatClampNeg x4_5)) v_E_joined hv) (cx_cwV 1 hts cw_m_X0_42 cw_i_X0_joinAll cw_s_X0_joinAll cw_n_X0 cw_c_X0_joinAll rfl rfl (by decide +kernel) ⟨Nat.le_of_ble_eq_true rfl, Nat.le_of_ble_eq_true rfl⟩) hK hP hD hS hA 1 0 rfl rfl [1, 3] [0, 2, 4, 5, 6] rfl rfl rfl rfl (by decide) rfl hl.1 rfl (Nat.le_of_ble_eq_true rfl) dX0_run_62 ⟨Nat.le_of_ble_eq_true rfl, Nat.le_of_ble_eq_true rfl⟩ (fun w_13 H locs hv hP hD hS => ?_)
      obtain ⟨u_12, rfl⟩ : ∃ z, z = w_13 := ⟨_, rfl⟩
      have hP : va_P g.1 vwCl [(a_P, .inr (2, [.int P_rows, .ref a_P_entries, .ref a_P_order, .ref a_P_places, .ref a_P_rights, .ref a_P_weights])), (a_E, .inr (0, [.ref a_E_joined, .ref a_E_later, .ref a_E_paths])), (a_P_entries, .inl (g.2.1, 256, .inl P_entries)), (a_E_joined, .inl (g.2.1, 16, .inl u_12)), (a_P_order, .inl (g.2.1, 16, .inl P_order)), (a_E_later, .inl (g.2.1, 16, .inl (upd v_E_later (Int32.toNatClampNeg x4_5) ((v_E_joined (Int32.toNatClampNeg x4_5)) &&& x2_7)))), (a_E_paths, .inl (g.2.1, 16, .inl v_E_paths))] H := hP.sub [0, 5, 1, 6, 2, 3, 4] rfl
      have hD : va_D A [(a_P, .inr (2, [.int P_rows, .ref a_P_entries, .ref a_P_order, .ref a_P_places, .ref a_P_rights, .ref a_P_weights])), (a_E, .inr (0, [.ref a_E_joined, .ref a_E_later, .ref a_E_paths])), (a_P_entries, .inl (g.2.1, 256, .inl P_entries)), (a_E_joined, .inl (g.2.1, 16, .inl u_12)), (a_P_order, .inl (g.2.1, 16, .inl P_order)), (a_E_later, .inl (g.2.1, 16, .inl (upd v_E_later (Int32.toNatClampNeg x4_5) ((v_E_joined (Int32.toNatClampNeg x4_5)) &&& x2_7)))), (a_E_paths, .inl (g.2.1, 16, .inl v_E_paths))] := hD.sub [0, 5, 1, 6, 2, 3, 4] (by decide) rfl
      obtain ⟨x3_14, ex3_14⟩ : ∃ y : Int32, y = x3 + 1 := ⟨_, rfl⟩
      replace hv := hv x3_14 ex3_14
      refine lv_iinc (v := x3_14) (lv' := [(3, .int x3_14), (2, .int x2_7), (4, .int x4_5), (0, .ref a_E), (1, .ref a_P)]) hx hb dX0_run_65 hl (k := 2) rfl (by rw [ex3_14]; rfl) (by decide) rfl (fun ls hl => ?_)
      refine lv_goto (tgt := 12) hx hb dX0_run_68 (by decide) ?_
      exact hv _ _ _ hP hD hS (lv_sub hl [0, 1, 3, 4] rfl)
  replace hv := hv G1 hs1
  rw [hG1] at hv
  unfold vc_X0_run_0 at hv
  refine lv_aload_n hx hb dX0_run_0 rfl (lv_at hl 0 rfl) ?_
  refine lv_aload_n hx hb dX0_run_1 rfl (lv_at hl 1 rfl) ?_
  refine cx_vV (wr := [(a_P_order, .inl (g.2.1, 16, .inl P_order)), (a_E_later, .inl (g.2.1, 16, .inl E_later)), (a_E_paths, .inl (g.2.1, 16, .inl E_paths))]) (As := [.ref a_P]) (rest := []) ⟨hx, hb, hml, hown, hts⟩ (c_X0_joinLinked l g a_E a_P a_P_entries a_P_order a_P_places a_P_rights a_P_weights a_E_joined a_E_later a_E_paths P_rows P_entries E_joined hv) (cx_cwV 1 hts cw_m_X0_21 cw_i_X0_joinLinked cw_s_X0_joinLinked cw_n_X0 cw_c_X0_joinLinked rfl rfl (by decide +kernel) ⟨Nat.le_of_ble_eq_true rfl, Nat.le_of_ble_eq_true rfl⟩) hK hP hD hS hA 1 0 rfl rfl [0, 1, 2, 3] [4, 5, 6] rfl rfl rfl rfl (by decide) rfl hl.1 rfl (Nat.le_of_ble_eq_true rfl) dX0_run_2 ⟨Nat.le_of_ble_eq_true rfl, Nat.le_of_ble_eq_true rfl⟩ (fun w_3 H locs hv hP hD hS => ?_)
  obtain ⟨u_2, rfl⟩ : ∃ z, z = w_3 := ⟨_, rfl⟩
  have hP : va_P g.1 vwCl [(a_P, .inr (2, [.int P_rows, .ref a_P_entries, .ref a_P_order, .ref a_P_places, .ref a_P_rights, .ref a_P_weights])), (a_E, .inr (0, [.ref a_E_joined, .ref a_E_later, .ref a_E_paths])), (a_P_entries, .inl (g.2.1, 256, .inl P_entries)), (a_E_joined, .inl (g.2.1, 16, .inl u_2)), (a_P_order, .inl (g.2.1, 16, .inl P_order)), (a_E_later, .inl (g.2.1, 16, .inl E_later)), (a_E_paths, .inl (g.2.1, 16, .inl E_paths))] H := hP.sub [3, 4, 5, 6, 0, 1, 2] rfl
  have hD : va_D A [(a_P, .inr (2, [.int P_rows, .ref a_P_entries, .ref a_P_order, .ref a_P_places, .ref a_P_rights, .ref a_P_weights])), (a_E, .inr (0, [.ref a_E_joined, .ref a_E_later, .ref a_E_paths])), (a_P_entries, .inl (g.2.1, 256, .inl P_entries)), (a_E_joined, .inl (g.2.1, 16, .inl u_2)), (a_P_order, .inl (g.2.1, 16, .inl P_order)), (a_E_later, .inl (g.2.1, 16, .inl E_later)), (a_E_paths, .inl (g.2.1, 16, .inl E_paths))] := hD.sub [3, 4, 5, 6, 0, 1, 2] (by decide) rfl
  refine lv_aload_n hx hb dX0_run_5 rfl (lv_at hl 1 rfl) ?_
  refine cx_iVr (As := []) (rest := []) ⟨hx, hb, hml, hown, hts⟩ (c_X2_allRows l g a_P a_P_entries a_P_order a_P_places a_P_rights a_P_weights P_rows hv) (cx_cwV 0 hts cw_m_X0_25 cw_i_X2_allRows cw_s_X2_allRows cw_n_X2 cw_c_X2_allRows rfl rfl (by decide +kernel) ⟨Nat.le_of_ble_eq_true rfl, Nat.le_of_ble_eq_true rfl⟩) hK hP hD hS hA 0 2 rfl rfl [0] rfl rfl rfl hl.1 rfl (Nat.le_of_ble_eq_true rfl) dX0_run_6 ⟨Nat.le_of_ble_eq_true rfl, Nat.le_of_ble_eq_true rfl⟩ (fun r_4 H locs hv hP hS => ?_)
  refine lv_istore_n (lv' := [(2, .int r_4), (0, .ref a_E), (1, .ref a_P)]) hx hb dX0_run_9 rfl hl (by decide) rfl (fun ls hl => ?_)
  refine lv_iconst (v := 0) hx hb dX0_run_10 (by decide) ?_
  refine lv_istore_n (lv' := [(3, .int 0), (2, .int r_4), (0, .ref a_E), (1, .ref a_P)]) hx hb dX0_run_11 rfl hl (by decide) rfl (fun ls hl => ?_)
  exact hv _ _ _ hP hD hS (lv_sub hl [0, 1, 2, 3] rfl)
def vc_X0_orderByDegree_0 (P_rows : Int32) (P_entries : (Nat → Int32)) (E_joined : (Nat → Int32)) (P_order : (Nat → Int32)) (P_places : (Nat → Int32)) (Q : (Nat → Int32) → (Nat → Int32) → (Nat → Int32) → Prop) (G1 : Int32 → Int32 → (Nat → Int32) → (Nat → Int32) → (Nat → Int32) → Prop)  : Prop := wp_X0_joinLinked P_rows P_entries E_joined (fun u_2 => wp_X2_allRows P_rows (fun r_4 => G1 0 r_4 u_2 P_order P_places))
def vc_X0_orderByDegree_1 (P_rows : Int32) (P_entries : (Nat → Int32)) (E_joined : (Nat → Int32)) (P_order : (Nat → Int32)) (P_places : (Nat → Int32)) (Q : (Nat → Int32) → (Nat → Int32) → (Nat → Int32) → Prop) (G1 : Int32 → Int32 → (Nat → Int32) → (Nat → Int32) → (Nat → Int32) → Prop) (x3 : Int32) (x2 : Int32) (v_E_joined : (Nat → Int32)) (v_P_order : (Nat → Int32)) (v_P_places : (Nat → Int32)) : Prop := (P_rows ≤ x3 → (Q v_E_joined v_P_order v_P_places)) ∧ (¬ P_rows ≤ x3 → (wp_X0_lowestDegree x2 v_E_joined (fun r_1 => (r_1 = (-1) → (Q v_E_joined v_P_order v_P_places)) ∧ (¬ r_1 = (-1) → (wp_X2_place r_1 x3 P_rows v_P_order v_P_places (fun u_3 u_4 => ∀ x2_7 : Int32, x2_7 = (x2 &&& ((f_bit r_1) ^^^ (-1))) → (vp_in r_1 16 ∧ (wp_X0_joinAll ((v_E_joined (Int32.toNatClampNeg r_1)) &&& x2_7) v_E_joined (fun u_10 => ∀ x3_12 : Int32, x3_12 = x3 + 1 → (G1 x3_12 x2_7 u_10 u_3 u_4))))))))))
def wp_X0_orderByDegree (P_rows : Int32) (P_entries : (Nat → Int32)) (E_joined : (Nat → Int32)) (P_order : (Nat → Int32)) (P_places : (Nat → Int32)) (Q : (Nat → Int32) → (Nat → Int32) → (Nat → Int32) → Prop) : Prop := ∀ (G1 : Int32 → Int32 → (Nat → Int32) → (Nat → Int32) → (Nat → Int32) → Prop), (∀ (x3 : Int32) (x2 : Int32) (v_E_joined : (Nat → Int32)) (v_P_order : (Nat → Int32)) (v_P_places : (Nat → Int32)), vc_X0_orderByDegree_1 P_rows P_entries E_joined P_order P_places Q G1 x3 x2 v_E_joined v_P_order v_P_places → G1 x3 x2 v_E_joined v_P_order v_P_places) → vc_X0_orderByDegree_0 P_rows P_entries E_joined P_order P_places Q G1
abbrev w0_X0_orderByDegree (g : cx_G) (a_E a_P a_P_entries a_P_order a_P_places a_P_rights a_P_weights a_E_joined a_E_later a_E_paths : Nat) (P_rows : Int32) (P_entries : (Nat → Int32)) (E_joined : (Nat → Int32)) (P_order : (Nat → Int32)) (P_places : (Nat → Int32)) : va_W := [(a_P, .inr (2, [.int P_rows, .ref a_P_entries, .ref a_P_order, .ref a_P_places, .ref a_P_rights, .ref a_P_weights])), (a_E, .inr (0, [.ref a_E_joined, .ref a_E_later, .ref a_E_paths])), (a_P_entries, .inl (g.2.1, 256, .inl P_entries)), (a_E_joined, .inl (g.2.1, 16, .inl E_joined)), (a_P_order, .inl (g.2.1, 16, .inl P_order)), (a_P_places, .inl (g.2.1, 16, .inl P_places))]
abbrev w1_X0_orderByDegree (g : cx_G) (a_E a_P a_P_entries a_P_order a_P_places a_P_rights a_P_weights a_E_joined a_E_later a_E_paths : Nat) (P_rows : Int32) (P_entries : (Nat → Int32)) (E_joined : (Nat → Int32)) (P_order : (Nat → Int32)) (P_places : (Nat → Int32)) (u : (Nat → Int32) × (Nat → Int32) × (Nat → Int32)) : va_W := [(a_P, .inr (2, [.int P_rows, .ref a_P_entries, .ref a_P_order, .ref a_P_places, .ref a_P_rights, .ref a_P_weights])), (a_E, .inr (0, [.ref a_E_joined, .ref a_E_later, .ref a_E_paths])), (a_P_entries, .inl (g.2.1, 256, .inl P_entries)), (a_E_joined, .inl (g.2.1, 16, .inl u.1)), (a_P_order, .inl (g.2.1, 16, .inl u.2.1)), (a_P_places, .inl (g.2.1, 16, .inl u.2.2))]
set_option maxHeartbeats 4000000 in
set_option maxRecDepth 100000 in
theorem c_X0_orderByDegree (l : Launch) (g : cx_G) (a_E a_P a_P_entries a_P_order a_P_places a_P_rights a_P_weights a_E_joined a_E_later a_E_paths : Nat) (P_rows : Int32) (P_entries : (Nat → Int32)) (E_joined : (Nat → Int32)) (P_order : (Nat → Int32)) (P_places : (Nat → Int32)) {Q : (Nat → Int32) → (Nat → Int32) → (Nat → Int32) → Prop} (hv : wp_X0_orderByDegree P_rows P_entries E_joined P_order P_places Q) : cx_Mv l g yX0_orderByDegree (Cond.code yX0_orderByDegree cX0_orderByDegree 5 none :: cx_T) ({ frames := 4, cells := 0, slots := 0, locals := 88 } : Room) [.ref a_E, .ref a_P] (w0_X0_orderByDegree g a_E a_P a_P_entries a_P_order a_P_places a_P_rights a_P_weights a_E_joined a_E_later a_E_paths P_rows P_entries E_joined P_order P_places) (fun (u : (Nat → Int32) × (Nat → Int32) × (Nat → Int32)) => Q u.1 u.2.1 u.2.2) (w1_X0_orderByDegree g a_E a_P a_P_entries a_P_order a_P_places a_P_rights a_P_weights a_E_joined a_E_later a_E_paths P_rows P_entries E_joined P_order P_places) 0 0 := by
  intro sz
  refine Met.ofW (cc := cX0_orderByDegree) (maxL := 5) (ret := none) (by decide) rfl ?_
  intro p e s m args below meth c s₁ B hml hpre
  obtain ⟨rfl, hsz, hP, hK, hD0⟩ := hpre
  have hx := B.exec
  have hb := B.bytes
  have hr := B.returns
  have hts0 := atoms_spec (ws := (Cond.code yX0_orderByDegree cX0_orderByDegree 5 none :: cx_T)) B.pre
  have hts : ∀ w ∈ cx_T, w.before _ s = true := fun w h => hts0 w (List.mem_cons_of_mem _ h)
  have hown : s.vm.findClass RX0 = some m.cls := findClass_of_methodNamed B.named
  have hlocks := B.notSynchronized
  subst hsz
  have hD := hD0.self (sz := s.heap.size)
  obtain ⟨A, hAe⟩ : ∃ A : Nat → Prop, A = va_A (w0_X0_orderByDegree g a_E a_P a_P_entries a_P_order a_P_places a_P_rights a_P_weights a_E_joined a_E_later a_E_paths P_rows P_entries E_joined P_order P_places) s.heap.size := ⟨_, rfl⟩
  rw [← hAe] at hD
  have hA : ∀ q : Nat, s.heap.size ≤ q → A q := fun q h => by rw [hAe]; exact Or.inr h
  have hS : va_S A s.heap s.heap [] := va_S.rf
  have hP : va_P g.1 vwCl [(a_P, .inr (2, [.int P_rows, .ref a_P_entries, .ref a_P_order, .ref a_P_places, .ref a_P_rights, .ref a_P_weights])), (a_E, .inr (0, [.ref a_E_joined, .ref a_E_later, .ref a_E_paths])), (a_P_entries, .inl (g.2.1, 256, .inl P_entries)), (a_E_joined, .inl (g.2.1, 16, .inl E_joined)), (a_P_order, .inl (g.2.1, 16, .inl P_order)), (a_P_places, .inl (g.2.1, 16, .inl P_places))] s.heap := hP
  have hD : va_D A [(a_P, .inr (2, [.int P_rows, .ref a_P_entries, .ref a_P_order, .ref a_P_places, .ref a_P_rights, .ref a_P_weights])), (a_E, .inr (0, [.ref a_E_joined, .ref a_E_later, .ref a_E_paths])), (a_P_entries, .inl (g.2.1, 256, .inl P_entries)), (a_E_joined, .inl (g.2.1, 16, .inl E_joined)), (a_P_order, .inl (g.2.1, 16, .inl P_order)), (a_P_places, .inl (g.2.1, 16, .inl P_places))] := hD
  have hl := lv_entry ([.ref a_E, .ref a_P]) (n := 5) (Nat.le_of_ble_eq_true rfl)
  rw [lg_entry_eq]
  generalize (lg_sl ([.ref a_E, .ref a_P]) ++ List.replicate (5 - (lg_sl ([.ref a_E, .ref a_P])).length) Slot.unset).toArray = ls at hl ⊢
  have hl : lv_has ls 5 [(0, .ref a_E), (1, .ref a_P)] := hl
  obtain ⟨G1, hG1⟩ : ∃ G : Int32 → Int32 → (Nat → Int32) → (Nat → Int32) → (Nat → Int32) → Prop, G = (fun (x3 : Int32) (x2 : Int32) (v_E_joined : (Nat → Int32)) (v_P_order : (Nat → Int32)) (v_P_places : (Nat → Int32)) => ∀ (H : Heap) (locs : List Loc) (ls : Array Slot), va_P g.1 vwCl [(a_P, .inr (2, [.int P_rows, .ref a_P_entries, .ref a_P_order, .ref a_P_places, .ref a_P_rights, .ref a_P_weights])), (a_E, .inr (0, [.ref a_E_joined, .ref a_E_later, .ref a_E_paths])), (a_P_entries, .inl (g.2.1, 256, .inl P_entries)), (a_E_joined, .inl (g.2.1, 16, .inl v_E_joined)), (a_P_order, .inl (g.2.1, 16, .inl v_P_order)), (a_P_places, .inl (g.2.1, 16, .inl v_P_places))] H → va_D A [(a_P, .inr (2, [.int P_rows, .ref a_P_entries, .ref a_P_order, .ref a_P_places, .ref a_P_rights, .ref a_P_weights])), (a_E, .inr (0, [.ref a_E_joined, .ref a_E_later, .ref a_E_paths])), (a_P_entries, .inl (g.2.1, 256, .inl P_entries)), (a_E_joined, .inl (g.2.1, 16, .inl v_E_joined)), (a_P_order, .inl (g.2.1, 16, .inl v_P_order)), (a_P_places, .inl (g.2.1, 16, .inl v_P_places))] → va_S A s.heap H locs → lv_has ls 5 [(3, .int x3), (2, .int x2), (0, .ref a_E), (1, .ref a_P)] → W p l e (headSpec (Cond.code yX0_orderByDegree cX0_orderByDegree 5 none :: cx_T) ({ frames := 4, cells := 0, slots := 0, locals := 88 } : Room)).room s m ([.ref a_E, .ref a_P] : List Value).toArray below meth c H locs 0 0 (MQ below (va_Qv (fun (u : (Nat → Int32) × (Nat → Int32) × (Nat → Int32)) => Q u.1 u.2.1 u.2.2) (cx_B g (w0_X0_orderByDegree g a_E a_P a_P_entries a_P_order a_P_places a_P_rights a_P_weights a_E_joined a_E_later a_E_paths P_rows P_entries E_joined P_order P_places) s.heap.size (w1_X0_orderByDegree g a_E a_P a_P_entries a_P_order a_P_places a_P_rights a_P_weights a_E_joined a_E_later a_E_paths P_rows P_entries E_joined P_order P_places)) (va_A (w0_X0_orderByDegree g a_E a_P a_P_entries a_P_order a_P_places a_P_rights a_P_weights a_E_joined a_E_later a_E_paths P_rows P_entries E_joined P_order P_places) s.heap.size)) ([.ref a_E, .ref a_P] : List Value).toArray s 0 0 (va_A (w0_X0_orderByDegree g a_E a_P a_P_entries a_P_order a_P_places a_P_rights a_P_weights a_E_joined a_E_later a_E_paths P_rows P_entries E_joined P_order P_places) s.heap.size)) (F0 m 12 ls [])) := ⟨_, rfl⟩
  have hs1 : ∀ (x3 : Int32) (x2 : Int32) (v_E_joined : (Nat → Int32)) (v_P_order : (Nat → Int32)) (v_P_places : (Nat → Int32)), vc_X0_orderByDegree_1 P_rows P_entries E_joined P_order P_places Q G1 x3 x2 v_E_joined v_P_order v_P_places → G1 x3 x2 v_E_joined v_P_order v_P_places := by
    rw [hG1]
    intro x3 x2 v_E_joined v_P_order v_P_places hv H locs ls hP hD hS hl
    unfold vc_X0_orderByDegree_1 at hv
    refine lv_iload_n hx hb dX0_orderByDegree_12 rfl (lv_at hl 0 rfl) ?_
    refine lv_aload_n hx hb dX0_orderByDegree_13 rfl (lv_at hl 3 rfl) ?_
    refine va_get (D := g.1) (ci := 2) (v := .int P_rows) (C := RX2) (T := TX2) (N := 6) hx hb hts cw_in_X2 hown hK.1 hP 0 rfl rfl 0 (by decide) (hts _ cw_f_X0_31) (fun _ h9 => h9) rfl dX0_orderByDegree_14 ?_
    refine lv_icmp_ge (tgt := 70) hx hb dX0_orderByDegree_17 (by decide) (fun hc => ?_) (fun hc => ?_)
    · replace hv := hv.1 hc
      exact cx_vret hx hb hr hlocks hAe hS (v_E_joined, v_P_order, v_P_places) hv hP hD dX0_orderByDegree_70
    · replace hv := hv.2 hc
      refine lv_aload_n hx hb dX0_orderByDegree_20 rfl (lv_at hl 2 rfl) ?_
      refine lv_iload_n hx hb dX0_orderByDegree_21 rfl (lv_at hl 1 rfl) ?_
      refine cx_iVr (As := [.int x2]) (rest := []) ⟨hx, hb, hml, hown, hts⟩ (c_X0_lowestDegree l g a_E a_E_joined a_E_later a_E_paths x2 v_E_joined hv) (cx_cwV 1 hts cw_m_X0_49 cw_i_X0_lowestDegree cw_s_X0_lowestDegree cw_n_X0 cw_c_X0_lowestDegree rfl rfl (by decide +kernel) ⟨Nat.le_of_ble_eq_true rfl, Nat.le_of_ble_eq_true rfl⟩) hK hP hD hS hA 1 0 rfl rfl [1, 3] rfl rfl rfl hl.1 rfl (Nat.le_of_ble_eq_true rfl) dX0_orderByDegree_22 ⟨Nat.le_of_ble_eq_true rfl, Nat.le_of_ble_eq_true rfl⟩ (fun r_1 H locs hv hP hS => ?_)
      refine lv_istore (lv' := [(4, .int r_1), (3, .int x3), (2, .int x2), (0, .ref a_E), (1, .ref a_P)]) hx hb dX0_orderByDegree_25 hl (by decide) rfl (fun ls hl => ?_)
      refine lv_iload hx hb dX0_orderByDegree_27 (lv_at hl 0 rfl) ?_
      refine lv_iconst (v := (-1)) hx hb dX0_orderByDegree_29 (by decide) ?_
      refine lv_icmp_ne (tgt := 34) hx hb dX0_orderByDegree_30 (by decide) (fun hc => ?_) (fun hc => ?_)
      · replace hv := hv.2 hc
        refine lv_aload_n hx hb dX0_orderByDegree_34 rfl (lv_at hl 4 rfl) ?_
        refine lv_iload hx hb dX0_orderByDegree_35 (lv_at hl 0 rfl) ?_
        refine lv_iload_n hx hb dX0_orderByDegree_37 rfl (lv_at hl 1 rfl) ?_
        refine cx_vV (wr := [(a_E, .inr (0, [.ref a_E_joined, .ref a_E_later, .ref a_E_paths])), (a_P_entries, .inl (g.2.1, 256, .inl P_entries)), (a_E_joined, .inl (g.2.1, 16, .inl v_E_joined))]) (As := [.int r_1, .int x3]) (rest := []) ⟨hx, hb, hml, hown, hts⟩ (c_X2_place l g a_P a_P_entries a_P_order a_P_places a_P_rights a_P_weights r_1 x3 P_rows v_P_order v_P_places hv) (cx_cwV 2 hts cw_m_X0_52 cw_i_X2_place cw_s_X2_place cw_n_X2 cw_c_X2_place rfl rfl (by decide +kernel) ⟨Nat.le_of_ble_eq_true rfl, Nat.le_of_ble_eq_true rfl⟩) hK hP hD hS hA 0 2 rfl rfl [0, 4, 5] [1, 2, 3] rfl rfl rfl rfl (by decide) rfl hl.1 rfl (Nat.le_of_ble_eq_true rfl) dX0_orderByDegree_38 ⟨Nat.le_of_ble_eq_true rfl, Nat.le_of_ble_eq_true rfl⟩ (fun w_5 H locs hv hP hD hS => ?_)
        obtain ⟨u_3, u_4⟩ := w_5
        have hP : va_P g.1 vwCl [(a_P, .inr (2, [.int P_rows, .ref a_P_entries, .ref a_P_order, .ref a_P_places, .ref a_P_rights, .ref a_P_weights])), (a_E, .inr (0, [.ref a_E_joined, .ref a_E_later, .ref a_E_paths])), (a_P_entries, .inl (g.2.1, 256, .inl P_entries)), (a_E_joined, .inl (g.2.1, 16, .inl v_E_joined)), (a_P_order, .inl (g.2.1, 16, .inl u_3)), (a_P_places, .inl (g.2.1, 16, .inl u_4))] H := hP.sub [3, 0, 1, 2, 4, 5] rfl
        have hD : va_D A [(a_P, .inr (2, [.int P_rows, .ref a_P_entries, .ref a_P_order, .ref a_P_places, .ref a_P_rights, .ref a_P_weights])), (a_E, .inr (0, [.ref a_E_joined, .ref a_E_later, .ref a_E_paths])), (a_P_entries, .inl (g.2.1, 256, .inl P_entries)), (a_E_joined, .inl (g.2.1, 16, .inl v_E_joined)), (a_P_order, .inl (g.2.1, 16, .inl u_3)), (a_P_places, .inl (g.2.1, 16, .inl u_4))] := hD.sub [3, 0, 1, 2, 4, 5] (by decide) rfl
        refine lv_iload_n hx hb dX0_orderByDegree_41 rfl (lv_at hl 2 rfl) ?_
        refine lv_iload hx hb dX0_orderByDegree_42 (lv_at hl 0 rfl) ?_
        refine cx_iNr (As := [.int r_1]) (rest := [.int x2]) ⟨hx, hb, hml, hown, hts⟩ (cp_X4_bit l g r_1) (cx_cwN 1 hts (hK.2.at 10 rfl) cw_t_X4_bit cw_n_X4 cw_c_X4_bit rfl rfl (by decide +kernel) ⟨Nat.le_of_ble_eq_true rfl, Nat.le_of_ble_eq_true rfl⟩) hK hP hD hS hA [] rfl rfl rfl hl.1 rfl (Nat.le_of_ble_eq_true rfl) dX0_orderByDegree_44 ⟨Nat.le_of_ble_eq_true rfl, Nat.le_of_ble_eq_true rfl⟩ (fun r_6 H locs hr9 hP hS => ?_)
        replace hr9 : r_6 = (f_bit r_1) := hr9
        subst hr9
        refine lv_iconst (v := (-1)) hx hb dX0_orderByDegree_47 (by decide) ?_
        refine lv_ixor hx hb dX0_orderByDegree_48 ?_
        refine lv_iand hx hb dX0_orderByDegree_49 ?_
        refine lv_topi (fun x2_7 ex2_7 => ?_)
        replace hv := hv x2_7 ex2_7
        refine lv_istore_n (lv' := [(2, .int x2_7), (4, .int r_1), (3, .int x3), (0, .ref a_E), (1, .ref a_P)]) hx hb dX0_orderByDegree_50 rfl hl (by decide) rfl (fun ls hl => ?_)
        refine lv_aload_n hx hb dX0_orderByDegree_51 rfl (lv_at hl 3 rfl) ?_
        refine lv_aload_n hx hb dX0_orderByDegree_52 rfl (lv_at hl 3 rfl) ?_
        refine va_get (D := g.1) (ci := 0) (v := .ref a_E_joined) (C := RX0) (T := TX0) (N := 3) hx hb hts cw_in_X0 hown hK.1 hP 1 rfl rfl 0 (by decide) (hts _ cw_f_X0_9) (fun _ h9 => h9) rfl dX0_orderByDegree_53 ?_
        refine lv_iload hx hb dX0_orderByDegree_56 (lv_at hl 1 rfl) ?_
        obtain ⟨h_8, hv⟩ := hv
        refine va_iald (D := g.1) hx hb hK.1 hP 3 0 rfl rfl h_8 dX0_orderByDegree_58 ?_
        refine lv_iload_n hx hb dX0_orderByDegree_59 rfl (lv_at hl 0 rfl) ?_
        refine lv_iand hx hb dX0_orderByDegree_60 ?_
        refine cx_vV (wr := [(a_P, .inr (2, [.int P_rows, .ref a_P_entries, .ref a_P_order, .ref a_P_places, .ref a_P_rights, .ref a_P_weights])), (a_P_entries, .inl (g.2.1, 256, .inl P_entries)), (a_P_order, .inl (g.2.1, 16, .inl u_3)), (a_P_places, .inl (g.2.1, 16, .inl u_4))]) (As := [.int ((v_E_joined (Int32.toNatClampNeg r_1)) &&& x2_7)]) (rest := []) ⟨hx, hb, hml, hown, hts⟩ (c_X0_joinAll l g a_E a_E_joined a_E_later a_E_paths ((v_E_joined (Int32.toNatClampNeg r_1)) &&& x2_7) v_E_joined hv) (cx_cwV 1 hts cw_m_X0_42 cw_i_X0_joinAll cw_s_X0_joinAll cw_n_X0 cw_c_X0_joinAll rfl rfl (by decide +kernel) ⟨Nat.le_of_ble_eq_true rfl, Nat.le_of_ble_eq_true rfl⟩) hK hP hD hS hA 1 0 rfl rfl [1, 3] [0, 2, 4, 5] rfl rfl rfl rfl (by decide) rfl hl.1 rfl (Nat.le_of_ble_eq_true rfl) dX0_orderByDegree_61 ⟨Nat.le_of_ble_eq_true rfl, Nat.le_of_ble_eq_true rfl⟩ (fun w_11 H locs hv hP hD hS => ?_)
        obtain ⟨u_10, rfl⟩ : ∃ z, z = w_11 := ⟨_, rfl⟩
        have hP : va_P g.1 vwCl [(a_P, .inr (2, [.int P_rows, .ref a_P_entries, .ref a_P_order, .ref a_P_places, .ref a_P_rights, .ref a_P_weights])), (a_E, .inr (0, [.ref a_E_joined, .ref a_E_later, .ref a_E_paths])), (a_P_entries, .inl (g.2.1, 256, .inl P_entries)), (a_E_joined, .inl (g.2.1, 16, .inl u_10)), (a_P_order, .inl (g.2.1, 16, .inl u_3)), (a_P_places, .inl (g.2.1, 16, .inl u_4))] H := hP.sub [0, 4, 1, 5, 2, 3] rfl
        have hD : va_D A [(a_P, .inr (2, [.int P_rows, .ref a_P_entries, .ref a_P_order, .ref a_P_places, .ref a_P_rights, .ref a_P_weights])), (a_E, .inr (0, [.ref a_E_joined, .ref a_E_later, .ref a_E_paths])), (a_P_entries, .inl (g.2.1, 256, .inl P_entries)), (a_E_joined, .inl (g.2.1, 16, .inl u_10)), (a_P_order, .inl (g.2.1, 16, .inl u_3)), (a_P_places, .inl (g.2.1, 16, .inl u_4))] := hD.sub [0, 4, 1, 5, 2, 3] (by decide) rfl
        obtain ⟨x3_12, ex3_12⟩ : ∃ y : Int32, y = x3 + 1 := ⟨_, rfl⟩
        replace hv := hv x3_12 ex3_12
        refine lv_iinc (v := x3_12) (lv' := [(3, .int x3_12), (2, .int x2_7), (4, .int r_1), (0, .ref a_E), (1, .ref a_P)]) hx hb dX0_orderByDegree_64 hl (k := 2) rfl (by rw [ex3_12]; rfl) (by decide) rfl (fun ls hl => ?_)
        refine lv_goto (tgt := 12) hx hb dX0_orderByDegree_67 (by decide) ?_
        exact hv _ _ _ hP hD hS (lv_sub hl [0, 1, 3, 4] rfl)
      · replace hv := hv.1 hc
        exact cx_vret hx hb hr hlocks hAe hS (v_E_joined, v_P_order, v_P_places) hv hP hD dX0_orderByDegree_33
  replace hv := hv G1 hs1
  rw [hG1] at hv
  unfold vc_X0_orderByDegree_0 at hv
  refine lv_aload_n hx hb dX0_orderByDegree_0 rfl (lv_at hl 0 rfl) ?_
  refine lv_aload_n hx hb dX0_orderByDegree_1 rfl (lv_at hl 1 rfl) ?_
  refine cx_vV (wr := [(a_P_order, .inl (g.2.1, 16, .inl P_order)), (a_P_places, .inl (g.2.1, 16, .inl P_places))]) (As := [.ref a_P]) (rest := []) ⟨hx, hb, hml, hown, hts⟩ (c_X0_joinLinked l g a_E a_P a_P_entries a_P_order a_P_places a_P_rights a_P_weights a_E_joined a_E_later a_E_paths P_rows P_entries E_joined hv) (cx_cwV 1 hts cw_m_X0_21 cw_i_X0_joinLinked cw_s_X0_joinLinked cw_n_X0 cw_c_X0_joinLinked rfl rfl (by decide +kernel) ⟨Nat.le_of_ble_eq_true rfl, Nat.le_of_ble_eq_true rfl⟩) hK hP hD hS hA 1 0 rfl rfl [0, 1, 2, 3] [4, 5] rfl rfl rfl rfl (by decide) rfl hl.1 rfl (Nat.le_of_ble_eq_true rfl) dX0_orderByDegree_2 ⟨Nat.le_of_ble_eq_true rfl, Nat.le_of_ble_eq_true rfl⟩ (fun w_3 H locs hv hP hD hS => ?_)
  obtain ⟨u_2, rfl⟩ : ∃ z, z = w_3 := ⟨_, rfl⟩
  have hP : va_P g.1 vwCl [(a_P, .inr (2, [.int P_rows, .ref a_P_entries, .ref a_P_order, .ref a_P_places, .ref a_P_rights, .ref a_P_weights])), (a_E, .inr (0, [.ref a_E_joined, .ref a_E_later, .ref a_E_paths])), (a_P_entries, .inl (g.2.1, 256, .inl P_entries)), (a_E_joined, .inl (g.2.1, 16, .inl u_2)), (a_P_order, .inl (g.2.1, 16, .inl P_order)), (a_P_places, .inl (g.2.1, 16, .inl P_places))] H := hP.sub [2, 3, 4, 5, 0, 1] rfl
  have hD : va_D A [(a_P, .inr (2, [.int P_rows, .ref a_P_entries, .ref a_P_order, .ref a_P_places, .ref a_P_rights, .ref a_P_weights])), (a_E, .inr (0, [.ref a_E_joined, .ref a_E_later, .ref a_E_paths])), (a_P_entries, .inl (g.2.1, 256, .inl P_entries)), (a_E_joined, .inl (g.2.1, 16, .inl u_2)), (a_P_order, .inl (g.2.1, 16, .inl P_order)), (a_P_places, .inl (g.2.1, 16, .inl P_places))] := hD.sub [2, 3, 4, 5, 0, 1] (by decide) rfl
  refine lv_aload_n hx hb dX0_orderByDegree_5 rfl (lv_at hl 1 rfl) ?_
  refine cx_iVr (As := []) (rest := []) ⟨hx, hb, hml, hown, hts⟩ (c_X2_allRows l g a_P a_P_entries a_P_order a_P_places a_P_rights a_P_weights P_rows hv) (cx_cwV 0 hts cw_m_X0_25 cw_i_X2_allRows cw_s_X2_allRows cw_n_X2 cw_c_X2_allRows rfl rfl (by decide +kernel) ⟨Nat.le_of_ble_eq_true rfl, Nat.le_of_ble_eq_true rfl⟩) hK hP hD hS hA 0 2 rfl rfl [0] rfl rfl rfl hl.1 rfl (Nat.le_of_ble_eq_true rfl) dX0_orderByDegree_6 ⟨Nat.le_of_ble_eq_true rfl, Nat.le_of_ble_eq_true rfl⟩ (fun r_4 H locs hv hP hS => ?_)
  refine lv_istore_n (lv' := [(2, .int r_4), (0, .ref a_E), (1, .ref a_P)]) hx hb dX0_orderByDegree_9 rfl hl (by decide) rfl (fun ls hl => ?_)
  refine lv_iconst (v := 0) hx hb dX0_orderByDegree_10 (by decide) ?_
  refine lv_istore_n (lv' := [(3, .int 0), (2, .int r_4), (0, .ref a_E), (1, .ref a_P)]) hx hb dX0_orderByDegree_11 rfl hl (by decide) rfl (fun ls hl => ?_)
  exact hv _ _ _ hP hD hS (lv_sub hl [0, 1, 2, 3] rfl)
def vc_X0_countJoined_0 (i_n : Int32) (E_later : (Nat → Int32)) (Q : Int32 → Prop) (G1 : Int32 → Int32 → Prop)  : Prop := G1 0 0
def vc_X0_countJoined_1 (i_n : Int32) (E_later : (Nat → Int32)) (Q : Int32 → Prop) (G1 : Int32 → Int32 → Prop) (x3 : Int32) (x2 : Int32) : Prop := (i_n ≤ x3 → (Q x2)) ∧ (¬ i_n ≤ x3 → (vp_in x3 16 ∧ (∀ x2_3 : Int32, x2_3 = (x2 + (f_bc (E_later (Int32.toNatClampNeg x3)))) → (∀ x3_4 : Int32, x3_4 = x3 + 1 → (G1 x3_4 x2_3)))))
def wp_X0_countJoined (i_n : Int32) (E_later : (Nat → Int32)) (Q : Int32 → Prop) : Prop := ∀ (G1 : Int32 → Int32 → Prop), (∀ (x3 : Int32) (x2 : Int32), vc_X0_countJoined_1 i_n E_later Q G1 x3 x2 → G1 x3 x2) → vc_X0_countJoined_0 i_n E_later Q G1
abbrev w0_X0_countJoined (g : cx_G) (a_E a_E_joined a_E_later a_E_paths : Nat) (E_later : (Nat → Int32)) : va_W := [(a_E, .inr (0, [.ref a_E_joined, .ref a_E_later, .ref a_E_paths])), (a_E_later, .inl (g.2.1, 16, .inl E_later))]
set_option maxHeartbeats 4000000 in
set_option maxRecDepth 100000 in
theorem c_X0_countJoined (l : Launch) (g : cx_G) (a_E a_E_joined a_E_later a_E_paths : Nat) (i_n : Int32) (E_later : (Nat → Int32)) {Q : Int32 → Prop} (hv : wp_X0_countJoined i_n E_later Q) : cx_Mi l g yX0_countJoined (Cond.code yX0_countJoined cX0_countJoined 4 (some .int) :: cx_T) ({ frames := 1, cells := 0, slots := 0, locals := 20 } : Room) [.ref a_E, .int i_n] (w0_X0_countJoined g a_E a_E_joined a_E_later a_E_paths E_later) (fun (r : Int32) (_ : Unit) => Q r) (fun _ : Unit => (w0_X0_countJoined g a_E a_E_joined a_E_later a_E_paths E_later)) 0 0 := by
  intro sz
  refine Met.ofW (cc := cX0_countJoined) (maxL := 4) (ret := (some .int)) (by decide) rfl ?_
  intro p e s m args below meth c s₁ B hml hpre
  obtain ⟨rfl, hsz, hP, hK, hD0⟩ := hpre
  have hx := B.exec
  have hb := B.bytes
  have hr := B.returns
  have hts0 := atoms_spec (ws := (Cond.code yX0_countJoined cX0_countJoined 4 (some .int) :: cx_T)) B.pre
  have hts : ∀ w ∈ cx_T, w.before _ s = true := fun w h => hts0 w (List.mem_cons_of_mem _ h)
  have hown : s.vm.findClass RX0 = some m.cls := findClass_of_methodNamed B.named
  have hlocks := B.notSynchronized
  subst hsz
  have hD := hD0.self (sz := s.heap.size)
  obtain ⟨A, hAe⟩ : ∃ A : Nat → Prop, A = va_A (w0_X0_countJoined g a_E a_E_joined a_E_later a_E_paths E_later) s.heap.size := ⟨_, rfl⟩
  rw [← hAe] at hD
  have hA : ∀ q : Nat, s.heap.size ≤ q → A q := fun q h => by rw [hAe]; exact Or.inr h
  have hS : va_S A s.heap s.heap [] := va_S.rf
  have hP : va_P g.1 vwCl [(a_E, .inr (0, [.ref a_E_joined, .ref a_E_later, .ref a_E_paths])), (a_E_later, .inl (g.2.1, 16, .inl E_later))] s.heap := hP
  have hD : va_D A [(a_E, .inr (0, [.ref a_E_joined, .ref a_E_later, .ref a_E_paths])), (a_E_later, .inl (g.2.1, 16, .inl E_later))] := hD
  have hl := lv_entry ([.ref a_E, .int i_n]) (n := 4) (Nat.le_of_ble_eq_true rfl)
  rw [lg_entry_eq]
  generalize (lg_sl ([.ref a_E, .int i_n]) ++ List.replicate (4 - (lg_sl ([.ref a_E, .int i_n])).length) Slot.unset).toArray = ls at hl ⊢
  have hl : lv_has ls 4 [(0, .ref a_E), (1, .int i_n)] := hl
  obtain ⟨G1, hG1⟩ : ∃ G : Int32 → Int32 → Prop, G = (fun (x3 : Int32) (x2 : Int32) => ∀ (H : Heap) (locs : List Loc) (ls : Array Slot), va_P g.1 vwCl [(a_E, .inr (0, [.ref a_E_joined, .ref a_E_later, .ref a_E_paths])), (a_E_later, .inl (g.2.1, 16, .inl E_later))] H → va_D A [(a_E, .inr (0, [.ref a_E_joined, .ref a_E_later, .ref a_E_paths])), (a_E_later, .inl (g.2.1, 16, .inl E_later))] → va_S A s.heap H locs → lv_has ls 4 [(3, .int x3), (2, .int x2), (0, .ref a_E), (1, .int i_n)] → W p l e (headSpec (Cond.code yX0_countJoined cX0_countJoined 4 (some .int) :: cx_T) ({ frames := 1, cells := 0, slots := 0, locals := 20 } : Room)).room s m ([.ref a_E, .int i_n] : List Value).toArray below meth c H locs 0 0 (MQ below (va_Qi (fun (r : Int32) (_ : Unit) => Q r) (cx_B g (w0_X0_countJoined g a_E a_E_joined a_E_later a_E_paths E_later) s.heap.size (fun _ : Unit => (w0_X0_countJoined g a_E a_E_joined a_E_later a_E_paths E_later))) (va_A (w0_X0_countJoined g a_E a_E_joined a_E_later a_E_paths E_later) s.heap.size)) ([.ref a_E, .int i_n] : List Value).toArray s 0 0 (va_A (w0_X0_countJoined g a_E a_E_joined a_E_later a_E_paths E_later) s.heap.size)) (F0 m 4 ls [])) := ⟨_, rfl⟩
  have hs1 : ∀ (x3 : Int32) (x2 : Int32), vc_X0_countJoined_1 i_n E_later Q G1 x3 x2 → G1 x3 x2 := by
    rw [hG1]
    intro x3 x2 hv H locs ls hP hD hS hl
    unfold vc_X0_countJoined_1 at hv
    refine lv_iload_n hx hb dX0_countJoined_4 rfl (lv_at hl 0 rfl) ?_
    refine lv_iload_n hx hb dX0_countJoined_5 rfl (lv_at hl 3 rfl) ?_
    refine lv_icmp_ge (tgt := 27) hx hb dX0_countJoined_6 (by decide) (fun hc => ?_) (fun hc => ?_)
    · replace hv := hv.1 hc
      refine lv_iload_n hx hb dX0_countJoined_27 rfl (lv_at hl 1 rfl) ?_
      exact cx_iret hx hb hr hlocks hAe hS () hv hP hD dX0_countJoined_28
    · replace hv := hv.2 hc
      refine lv_iload_n hx hb dX0_countJoined_9 rfl (lv_at hl 1 rfl) ?_
      refine lv_aload_n hx hb dX0_countJoined_10 rfl (lv_at hl 2 rfl) ?_
      refine va_get (D := g.1) (ci := 0) (v := .ref a_E_later) (C := RX0) (T := TX0) (N := 3) hx hb hts cw_in_X0 hown hK.1 hP 0 rfl rfl 1 (by decide) (hts _ cw_f_X0_15) (fun _ h9 => h9) rfl dX0_countJoined_11 ?_
      refine lv_iload_n hx hb dX0_countJoined_14 rfl (lv_at hl 0 rfl) ?_
      obtain ⟨h_1, hv⟩ := hv
      refine va_iald (D := g.1) hx hb hK.1 hP 1 0 rfl rfl h_1 dX0_countJoined_15 ?_
      refine cx_iSr (As := [.int (E_later (Int32.toNatClampNeg x3))]) (rest := [.int x2]) ⟨hx, hb, hml, hown, hts⟩ (cp_J6_bitCount_0f7a4 l g (E_later (Int32.toNatClampNeg x3))) (cx_cwS 1 hts cw_m_X0_56 cw_t_J6_bitCount_0f7a4 cw_n_J6 cw_c_J6_bitCount_0f7a4 rfl rfl (by decide +kernel) ⟨Nat.le_of_ble_eq_true rfl, Nat.le_of_ble_eq_true rfl⟩) hK hP hD hS hA [] rfl rfl rfl hl.1 rfl (Nat.le_of_ble_eq_true rfl) dX0_countJoined_16 ⟨Nat.le_of_ble_eq_true rfl, Nat.le_of_ble_eq_true rfl⟩ (fun r_2 H locs hr9 hP hS => ?_)
      replace hr9 : r_2 = (f_bc (E_later (Int32.toNatClampNeg x3))) := hr9
      subst hr9
      refine lv_iadd hx hb dX0_countJoined_19 ?_
      refine lv_topi (fun x2_3 ex2_3 => ?_)
      replace hv := hv x2_3 ex2_3
      refine lv_istore_n (lv' := [(2, .int x2_3), (3, .int x3), (0, .ref a_E), (1, .int i_n)]) hx hb dX0_countJoined_20 rfl hl (by decide) rfl (fun ls hl => ?_)
      obtain ⟨x3_4, ex3_4⟩ : ∃ y : Int32, y = x3 + 1 := ⟨_, rfl⟩
      replace hv := hv x3_4 ex3_4
      refine lv_iinc (v := x3_4) (lv' := [(3, .int x3_4), (2, .int x2_3), (0, .ref a_E), (1, .int i_n)]) hx hb dX0_countJoined_21 hl (k := 1) rfl (by rw [ex3_4]; rfl) (by decide) rfl (fun ls hl => ?_)
      refine lv_goto (tgt := 4) hx hb dX0_countJoined_24 (by decide) ?_
      exact hv _ _ _ hP hD hS (lv_sub hl [0, 1, 2, 3] rfl)
  replace hv := hv G1 hs1
  rw [hG1] at hv
  unfold vc_X0_countJoined_0 at hv
  refine lv_iconst (v := 0) hx hb dX0_countJoined_0 (by decide) ?_
  refine lv_istore_n (lv' := [(2, .int 0), (0, .ref a_E), (1, .int i_n)]) hx hb dX0_countJoined_1 rfl hl (by decide) rfl (fun ls hl => ?_)
  refine lv_iconst (v := 0) hx hb dX0_countJoined_2 (by decide) ?_
  refine lv_istore_n (lv' := [(3, .int 0), (2, .int 0), (0, .ref a_E), (1, .int i_n)]) hx hb dX0_countJoined_3 rfl hl (by decide) rfl (fun ls hl => ?_)
  exact hv _ _ _ hP hD hS (lv_sub hl [0, 1, 2, 3] rfl)
def vc_X3_rowWithEntry_0 (i_k : Int32) (i_n : Int32) (R_cells : (Nat → Int32)) (Q : Int32 → Prop) (G1 : Int32 → Prop)  : Prop := G1 i_k
def vc_X3_rowWithEntry_1 (i_k : Int32) (i_n : Int32) (R_cells : (Nat → Int32)) (Q : Int32 → Prop) (G1 : Int32 → Prop) (x3 : Int32) : Prop := (i_n ≤ x3 → (Q (-1))) ∧ (¬ i_n ≤ x3 → (vp_in (f_cell x3 i_k) 256 ∧ (((R_cells (Int32.toNatClampNeg (f_cell x3 i_k))) = 0 → (∀ x3_3 : Int32, x3_3 = x3 + 1 → (G1 x3_3))) ∧ (¬ (R_cells (Int32.toNatClampNeg (f_cell x3 i_k))) = 0 → (Q x3)))))
def wp_X3_rowWithEntry (i_k : Int32) (i_n : Int32) (R_cells : (Nat → Int32)) (Q : Int32 → Prop) : Prop := ∀ (G1 : Int32 → Prop), (∀ (x3 : Int32), vc_X3_rowWithEntry_1 i_k i_n R_cells Q G1 x3 → G1 x3) → vc_X3_rowWithEntry_0 i_k i_n R_cells Q G1
abbrev w0_X3_rowWithEntry (g : cx_G) (a_R a_R_cells : Nat) (R_cells : (Nat → Int32)) : va_W := [(a_R, .inr (3, [.ref a_R_cells])), (a_R_cells, .inl (g.2.1, 256, .inl R_cells))]
set_option maxHeartbeats 4000000 in
set_option maxRecDepth 100000 in
theorem c_X3_rowWithEntry (l : Launch) (g : cx_G) (a_R a_R_cells : Nat) (i_k : Int32) (i_n : Int32) (R_cells : (Nat → Int32)) {Q : Int32 → Prop} (hv : wp_X3_rowWithEntry i_k i_n R_cells Q) : cx_Mi l g yX3_rowWithEntry (Cond.code yX3_rowWithEntry cX3_rowWithEntry 4 (some .int) :: cx_T) ({ frames := 1, cells := 0, slots := 0, locals := 21 } : Room) [.ref a_R, .int i_k, .int i_n] (w0_X3_rowWithEntry g a_R a_R_cells R_cells) (fun (r : Int32) (_ : Unit) => Q r) (fun _ : Unit => (w0_X3_rowWithEntry g a_R a_R_cells R_cells)) 0 0 := by
  intro sz
  refine Met.ofW (cc := cX3_rowWithEntry) (maxL := 4) (ret := (some .int)) (by decide) rfl ?_
  intro p e s m args below meth c s₁ B hml hpre
  obtain ⟨rfl, hsz, hP, hK, hD0⟩ := hpre
  have hx := B.exec
  have hb := B.bytes
  have hr := B.returns
  have hts0 := atoms_spec (ws := (Cond.code yX3_rowWithEntry cX3_rowWithEntry 4 (some .int) :: cx_T)) B.pre
  have hts : ∀ w ∈ cx_T, w.before _ s = true := fun w h => hts0 w (List.mem_cons_of_mem _ h)
  have hown : s.vm.findClass RX3 = some m.cls := findClass_of_methodNamed B.named
  have hlocks := B.notSynchronized
  subst hsz
  have hD := hD0.self (sz := s.heap.size)
  obtain ⟨A, hAe⟩ : ∃ A : Nat → Prop, A = va_A (w0_X3_rowWithEntry g a_R a_R_cells R_cells) s.heap.size := ⟨_, rfl⟩
  rw [← hAe] at hD
  have hA : ∀ q : Nat, s.heap.size ≤ q → A q := fun q h => by rw [hAe]; exact Or.inr h
  have hS : va_S A s.heap s.heap [] := va_S.rf
  have hP : va_P g.1 vwCl [(a_R, .inr (3, [.ref a_R_cells])), (a_R_cells, .inl (g.2.1, 256, .inl R_cells))] s.heap := hP
  have hD : va_D A [(a_R, .inr (3, [.ref a_R_cells])), (a_R_cells, .inl (g.2.1, 256, .inl R_cells))] := hD
  have hl := lv_entry ([.ref a_R, .int i_k, .int i_n]) (n := 4) (Nat.le_of_ble_eq_true rfl)
  rw [lg_entry_eq]
  generalize (lg_sl ([.ref a_R, .int i_k, .int i_n]) ++ List.replicate (4 - (lg_sl ([.ref a_R, .int i_k, .int i_n])).length) Slot.unset).toArray = ls at hl ⊢
  have hl : lv_has ls 4 [(0, .ref a_R), (1, .int i_k), (2, .int i_n)] := hl
  obtain ⟨G1, hG1⟩ : ∃ G : Int32 → Prop, G = (fun (x3 : Int32) => ∀ (H : Heap) (locs : List Loc) (ls : Array Slot), va_P g.1 vwCl [(a_R, .inr (3, [.ref a_R_cells])), (a_R_cells, .inl (g.2.1, 256, .inl R_cells))] H → va_D A [(a_R, .inr (3, [.ref a_R_cells])), (a_R_cells, .inl (g.2.1, 256, .inl R_cells))] → va_S A s.heap H locs → lv_has ls 4 [(3, .int x3), (0, .ref a_R), (1, .int i_k), (2, .int i_n)] → W p l e (headSpec (Cond.code yX3_rowWithEntry cX3_rowWithEntry 4 (some .int) :: cx_T) ({ frames := 1, cells := 0, slots := 0, locals := 21 } : Room)).room s m ([.ref a_R, .int i_k, .int i_n] : List Value).toArray below meth c H locs 0 0 (MQ below (va_Qi (fun (r : Int32) (_ : Unit) => Q r) (cx_B g (w0_X3_rowWithEntry g a_R a_R_cells R_cells) s.heap.size (fun _ : Unit => (w0_X3_rowWithEntry g a_R a_R_cells R_cells))) (va_A (w0_X3_rowWithEntry g a_R a_R_cells R_cells) s.heap.size)) ([.ref a_R, .int i_k, .int i_n] : List Value).toArray s 0 0 (va_A (w0_X3_rowWithEntry g a_R a_R_cells R_cells) s.heap.size)) (F0 m 2 ls [])) := ⟨_, rfl⟩
  have hs1 : ∀ (x3 : Int32), vc_X3_rowWithEntry_1 i_k i_n R_cells Q G1 x3 → G1 x3 := by
    rw [hG1]
    intro x3 hv H locs ls hP hD hS hl
    unfold vc_X3_rowWithEntry_1 at hv
    refine lv_iload_n hx hb dX3_rowWithEntry_2 rfl (lv_at hl 0 rfl) ?_
    refine lv_iload_n hx hb dX3_rowWithEntry_3 rfl (lv_at hl 3 rfl) ?_
    refine lv_icmp_ge (tgt := 28) hx hb dX3_rowWithEntry_4 (by decide) (fun hc => ?_) (fun hc => ?_)
    · replace hv := hv.1 hc
      refine lv_iconst (v := (-1)) hx hb dX3_rowWithEntry_28 (by decide) ?_
      exact cx_iret hx hb hr hlocks hAe hS () hv hP hD dX3_rowWithEntry_29
    · replace hv := hv.2 hc
      refine lv_aload_n hx hb dX3_rowWithEntry_7 rfl (lv_at hl 1 rfl) ?_
      refine va_get (D := g.1) (ci := 3) (v := .ref a_R_cells) (C := RX3) (T := TX3) (N := 1) hx hb hts cw_in_X3 hown hK.1 hP 0 rfl rfl 0 (by decide) (hts _ cw_f_X3_9) (fun _ h9 => h9) rfl dX3_rowWithEntry_8 ?_
      refine lv_iload_n hx hb dX3_rowWithEntry_11 rfl (lv_at hl 0 rfl) ?_
      refine lv_iload_n hx hb dX3_rowWithEntry_12 rfl (lv_at hl 2 rfl) ?_
      refine cx_iNr (As := [.int x3, .int i_k]) (rest := [.ref a_R_cells]) ⟨hx, hb, hml, hown, hts⟩ (cp_X4_cell l g x3 i_k) (cx_cwN 2 hts (hK.2.at 5 rfl) cw_t_X4_cell cw_n_X4 cw_c_X4_cell rfl rfl (by decide +kernel) ⟨Nat.le_of_ble_eq_true rfl, Nat.le_of_ble_eq_true rfl⟩) hK hP hD hS hA [] rfl rfl rfl hl.1 rfl (Nat.le_of_ble_eq_true rfl) dX3_rowWithEntry_13 ⟨Nat.le_of_ble_eq_true rfl, Nat.le_of_ble_eq_true rfl⟩ (fun r_1 H locs hr9 hP hS => ?_)
      replace hr9 : r_1 = (f_cell x3 i_k) := hr9
      subst hr9
      obtain ⟨h_2, hv⟩ := hv
      refine va_iald (D := g.1) hx hb hK.1 hP 1 0 rfl rfl h_2 dX3_rowWithEntry_16 ?_
      refine lv_if_eq (tgt := 22) hx hb dX3_rowWithEntry_17 (by decide) (fun hc => ?_) (fun hc => ?_)
      · replace hv := hv.1 hc
        obtain ⟨x3_3, ex3_3⟩ : ∃ y : Int32, y = x3 + 1 := ⟨_, rfl⟩
        replace hv := hv x3_3 ex3_3
        refine lv_iinc (v := x3_3) (lv' := [(3, .int x3_3), (0, .ref a_R), (1, .int i_k), (2, .int i_n)]) hx hb dX3_rowWithEntry_22 hl (k := 0) rfl (by rw [ex3_3]; rfl) (by decide) rfl (fun ls hl => ?_)
        refine lv_goto (tgt := 2) hx hb dX3_rowWithEntry_25 (by decide) ?_
        exact hv _ _ _ hP hD hS (lv_sub hl [0, 1, 2, 3] rfl)
      · replace hv := hv.2 hc
        refine lv_iload_n hx hb dX3_rowWithEntry_20 rfl (lv_at hl 0 rfl) ?_
        exact cx_iret hx hb hr hlocks hAe hS () hv hP hD dX3_rowWithEntry_21
  replace hv := hv G1 hs1
  rw [hG1] at hv
  unfold vc_X3_rowWithEntry_0 at hv
  refine lv_iload_n hx hb dX3_rowWithEntry_0 rfl (lv_at hl 1 rfl) ?_
  refine lv_istore_n (lv' := [(3, .int i_k), (0, .ref a_R), (1, .int i_k), (2, .int i_n)]) hx hb dX3_rowWithEntry_1 rfl hl (by decide) rfl (fun ls hl => ?_)
  exact hv _ _ _ hP hD hS (lv_sub hl [0, 1, 2, 3] rfl)
def vc_X3_exchangeRows_0 (i_a : Int32) (i_b : Int32) (i_n : Int32) (R_cells : (Nat → Int32)) (Q : (Nat → Int32) → Prop) (G1 : Int32 → (Nat → Int32) → Prop)  : Prop := G1 0 R_cells
def vc_X3_exchangeRows_1 (i_a : Int32) (i_b : Int32) (i_n : Int32) (R_cells : (Nat → Int32)) (Q : (Nat → Int32) → Prop) (G1 : Int32 → (Nat → Int32) → Prop) (x4 : Int32) (v_R_cells : (Nat → Int32)) : Prop := (i_n ≤ x4 → (Q v_R_cells)) ∧ (¬ i_n ≤ x4 → (vp_in (f_cell i_a x4) 256 ∧ (∀ x5_3 : Int32, x5_3 = (v_R_cells (Int32.toNatClampNeg (f_cell i_a x4))) → (vp_in (f_cell i_b x4) 256 ∧ (vp_in (f_cell i_a x4) 256 ∧ (vp_in (f_cell i_b x4) 256 ∧ (∀ x4_10 : Int32, x4_10 = x4 + 1 → (G1 x4_10 (upd (upd v_R_cells (Int32.toNatClampNeg (f_cell i_a x4)) (v_R_cells (Int32.toNatClampNeg (f_cell i_b x4)))) (Int32.toNatClampNeg (f_cell i_b x4)) x5_3)))))))))
def wp_X3_exchangeRows (i_a : Int32) (i_b : Int32) (i_n : Int32) (R_cells : (Nat → Int32)) (Q : (Nat → Int32) → Prop) : Prop := ∀ (G1 : Int32 → (Nat → Int32) → Prop), (∀ (x4 : Int32) (v_R_cells : (Nat → Int32)), vc_X3_exchangeRows_1 i_a i_b i_n R_cells Q G1 x4 v_R_cells → G1 x4 v_R_cells) → vc_X3_exchangeRows_0 i_a i_b i_n R_cells Q G1
abbrev w0_X3_exchangeRows (g : cx_G) (a_R a_R_cells : Nat) (R_cells : (Nat → Int32)) : va_W := [(a_R, .inr (3, [.ref a_R_cells])), (a_R_cells, .inl (g.2.1, 256, .inl R_cells))]
abbrev w1_X3_exchangeRows (g : cx_G) (a_R a_R_cells : Nat) (R_cells : (Nat → Int32)) (u : (Nat → Int32)) : va_W := [(a_R, .inr (3, [.ref a_R_cells])), (a_R_cells, .inl (g.2.1, 256, .inl u))]
set_option maxHeartbeats 4000000 in
set_option maxRecDepth 100000 in
theorem c_X3_exchangeRows (l : Launch) (g : cx_G) (a_R a_R_cells : Nat) (i_a : Int32) (i_b : Int32) (i_n : Int32) (R_cells : (Nat → Int32)) {Q : (Nat → Int32) → Prop} (hv : wp_X3_exchangeRows i_a i_b i_n R_cells Q) : cx_Mv l g yX3_exchangeRows (Cond.code yX3_exchangeRows cX3_exchangeRows 6 none :: cx_T) ({ frames := 1, cells := 0, slots := 0, locals := 21 } : Room) [.ref a_R, .int i_a, .int i_b, .int i_n] (w0_X3_exchangeRows g a_R a_R_cells R_cells) (fun (u : (Nat → Int32)) => Q u) (w1_X3_exchangeRows g a_R a_R_cells R_cells) 0 0 := by
  intro sz
  refine Met.ofW (cc := cX3_exchangeRows) (maxL := 6) (ret := none) (by decide) rfl ?_
  intro p e s m args below meth c s₁ B hml hpre
  obtain ⟨rfl, hsz, hP, hK, hD0⟩ := hpre
  have hx := B.exec
  have hb := B.bytes
  have hr := B.returns
  have hts0 := atoms_spec (ws := (Cond.code yX3_exchangeRows cX3_exchangeRows 6 none :: cx_T)) B.pre
  have hts : ∀ w ∈ cx_T, w.before _ s = true := fun w h => hts0 w (List.mem_cons_of_mem _ h)
  have hown : s.vm.findClass RX3 = some m.cls := findClass_of_methodNamed B.named
  have hlocks := B.notSynchronized
  subst hsz
  have hD := hD0.self (sz := s.heap.size)
  obtain ⟨A, hAe⟩ : ∃ A : Nat → Prop, A = va_A (w0_X3_exchangeRows g a_R a_R_cells R_cells) s.heap.size := ⟨_, rfl⟩
  rw [← hAe] at hD
  have hA : ∀ q : Nat, s.heap.size ≤ q → A q := fun q h => by rw [hAe]; exact Or.inr h
  have hS : va_S A s.heap s.heap [] := va_S.rf
  have hP : va_P g.1 vwCl [(a_R, .inr (3, [.ref a_R_cells])), (a_R_cells, .inl (g.2.1, 256, .inl R_cells))] s.heap := hP
  have hD : va_D A [(a_R, .inr (3, [.ref a_R_cells])), (a_R_cells, .inl (g.2.1, 256, .inl R_cells))] := hD
  have hl := lv_entry ([.ref a_R, .int i_a, .int i_b, .int i_n]) (n := 6) (Nat.le_of_ble_eq_true rfl)
  rw [lg_entry_eq]
  generalize (lg_sl ([.ref a_R, .int i_a, .int i_b, .int i_n]) ++ List.replicate (6 - (lg_sl ([.ref a_R, .int i_a, .int i_b, .int i_n])).length) Slot.unset).toArray = ls at hl ⊢
  have hl : lv_has ls 6 [(0, .ref a_R), (1, .int i_a), (2, .int i_b), (3, .int i_n)] := hl
  obtain ⟨G1, hG1⟩ : ∃ G : Int32 → (Nat → Int32) → Prop, G = (fun (x4 : Int32) (v_R_cells : (Nat → Int32)) => ∀ (H : Heap) (locs : List Loc) (ls : Array Slot), va_P g.1 vwCl [(a_R, .inr (3, [.ref a_R_cells])), (a_R_cells, .inl (g.2.1, 256, .inl v_R_cells))] H → va_D A [(a_R, .inr (3, [.ref a_R_cells])), (a_R_cells, .inl (g.2.1, 256, .inl v_R_cells))] → va_S A s.heap H locs → lv_has ls 6 [(4, .int x4), (0, .ref a_R), (1, .int i_a), (2, .int i_b), (3, .int i_n)] → W p l e (headSpec (Cond.code yX3_exchangeRows cX3_exchangeRows 6 none :: cx_T) ({ frames := 1, cells := 0, slots := 0, locals := 21 } : Room)).room s m ([.ref a_R, .int i_a, .int i_b, .int i_n] : List Value).toArray below meth c H locs 0 0 (MQ below (va_Qv (fun (u : (Nat → Int32)) => Q u) (cx_B g (w0_X3_exchangeRows g a_R a_R_cells R_cells) s.heap.size (w1_X3_exchangeRows g a_R a_R_cells R_cells)) (va_A (w0_X3_exchangeRows g a_R a_R_cells R_cells) s.heap.size)) ([.ref a_R, .int i_a, .int i_b, .int i_n] : List Value).toArray s 0 0 (va_A (w0_X3_exchangeRows g a_R a_R_cells R_cells) s.heap.size)) (F0 m 3 ls [])) := ⟨_, rfl⟩
  have hs1 : ∀ (x4 : Int32) (v_R_cells : (Nat → Int32)), vc_X3_exchangeRows_1 i_a i_b i_n R_cells Q G1 x4 v_R_cells → G1 x4 v_R_cells := by
    rw [hG1]
    intro x4 v_R_cells hv H locs ls hP hD hS hl
    unfold vc_X3_exchangeRows_1 at hv
    refine lv_iload hx hb dX3_exchangeRows_3 (lv_at hl 0 rfl) ?_
    refine lv_iload_n hx hb dX3_exchangeRows_5 rfl (lv_at hl 4 rfl) ?_
    refine lv_icmp_ge (tgt := 63) hx hb dX3_exchangeRows_6 (by decide) (fun hc => ?_) (fun hc => ?_)
    · replace hv := hv.1 hc
      exact cx_vret hx hb hr hlocks hAe hS v_R_cells hv hP hD dX3_exchangeRows_63
    · replace hv := hv.2 hc
      refine lv_aload_n hx hb dX3_exchangeRows_9 rfl (lv_at hl 1 rfl) ?_
      refine va_get (D := g.1) (ci := 3) (v := .ref a_R_cells) (C := RX3) (T := TX3) (N := 1) hx hb hts cw_in_X3 hown hK.1 hP 0 rfl rfl 0 (by decide) (hts _ cw_f_X3_9) (fun _ h9 => h9) rfl dX3_exchangeRows_10 ?_
      refine lv_iload_n hx hb dX3_exchangeRows_13 rfl (lv_at hl 2 rfl) ?_
      refine lv_iload hx hb dX3_exchangeRows_14 (lv_at hl 0 rfl) ?_
      refine cx_iNr (As := [.int i_a, .int x4]) (rest := [.ref a_R_cells]) ⟨hx, hb, hml, hown, hts⟩ (cp_X4_cell l g i_a x4) (cx_cwN 2 hts (hK.2.at 5 rfl) cw_t_X4_cell cw_n_X4 cw_c_X4_cell rfl rfl (by decide +kernel) ⟨Nat.le_of_ble_eq_true rfl, Nat.le_of_ble_eq_true rfl⟩) hK hP hD hS hA [] rfl rfl rfl hl.1 rfl (Nat.le_of_ble_eq_true rfl) dX3_exchangeRows_16 ⟨Nat.le_of_ble_eq_true rfl, Nat.le_of_ble_eq_true rfl⟩ (fun r_1 H locs hr9 hP hS => ?_)
      replace hr9 : r_1 = (f_cell i_a x4) := hr9
      subst hr9
      obtain ⟨h_2, hv⟩ := hv
      refine va_iald (D := g.1) hx hb hK.1 hP 1 0 rfl rfl h_2 dX3_exchangeRows_19 ?_
      refine lv_topi (fun x5_3 ex5_3 => ?_)
      replace hv := hv x5_3 ex5_3
      refine lv_istore (lv' := [(5, .int x5_3), (4, .int x4), (0, .ref a_R), (1, .int i_a), (2, .int i_b), (3, .int i_n)]) hx hb dX3_exchangeRows_20 hl (by decide) rfl (fun ls hl => ?_)
      refine lv_aload_n hx hb dX3_exchangeRows_22 rfl (lv_at hl 2 rfl) ?_
      refine va_get (D := g.1) (ci := 3) (v := .ref a_R_cells) (C := RX3) (T := TX3) (N := 1) hx hb hts cw_in_X3 hown hK.1 hP 0 rfl rfl 0 (by decide) (hts _ cw_f_X3_9) (fun _ h9 => h9) rfl dX3_exchangeRows_23 ?_
      refine lv_iload_n hx hb dX3_exchangeRows_26 rfl (lv_at hl 3 rfl) ?_
      refine lv_iload hx hb dX3_exchangeRows_27 (lv_at hl 1 rfl) ?_
      refine cx_iNr (As := [.int i_a, .int x4]) (rest := [.ref a_R_cells]) ⟨hx, hb, hml, hown, hts⟩ (cp_X4_cell l g i_a x4) (cx_cwN 2 hts (hK.2.at 5 rfl) cw_t_X4_cell cw_n_X4 cw_c_X4_cell rfl rfl (by decide +kernel) ⟨Nat.le_of_ble_eq_true rfl, Nat.le_of_ble_eq_true rfl⟩) hK hP hD hS hA [] rfl rfl rfl hl.1 rfl (Nat.le_of_ble_eq_true rfl) dX3_exchangeRows_29 ⟨Nat.le_of_ble_eq_true rfl, Nat.le_of_ble_eq_true rfl⟩ (fun r_4 H locs hr9 hP hS => ?_)
      replace hr9 : r_4 = (f_cell i_a x4) := hr9
      subst hr9
      refine lv_aload_n hx hb dX3_exchangeRows_32 rfl (lv_at hl 2 rfl) ?_
      refine va_get (D := g.1) (ci := 3) (v := .ref a_R_cells) (C := RX3) (T := TX3) (N := 1) hx hb hts cw_in_X3 hown hK.1 hP 0 rfl rfl 0 (by decide) (hts _ cw_f_X3_9) (fun _ h9 => h9) rfl dX3_exchangeRows_33 ?_
      refine lv_iload_n hx hb dX3_exchangeRows_36 rfl (lv_at hl 4 rfl) ?_
      refine lv_iload hx hb dX3_exchangeRows_37 (lv_at hl 1 rfl) ?_
      refine cx_iNr (As := [.int i_b, .int x4]) (rest := [.ref a_R_cells, .int (f_cell i_a x4), .ref a_R_cells]) ⟨hx, hb, hml, hown, hts⟩ (cp_X4_cell l g i_b x4) (cx_cwN 2 hts (hK.2.at 5 rfl) cw_t_X4_cell cw_n_X4 cw_c_X4_cell rfl rfl (by decide +kernel) ⟨Nat.le_of_ble_eq_true rfl, Nat.le_of_ble_eq_true rfl⟩) hK hP hD hS hA [] rfl rfl rfl hl.1 rfl (Nat.le_of_ble_eq_true rfl) dX3_exchangeRows_39 ⟨Nat.le_of_ble_eq_true rfl, Nat.le_of_ble_eq_true rfl⟩ (fun r_5 H locs hr9 hP hS => ?_)
      replace hr9 : r_5 = (f_cell i_b x4) := hr9
      subst hr9
      obtain ⟨h_6, hv⟩ := hv
      refine va_iald (D := g.1) hx hb hK.1 hP 1 0 rfl rfl h_6 dX3_exchangeRows_42 ?_
      obtain ⟨h_7, hv⟩ := hv
      refine va_iast (D := g.1) hx hb hK.1 hP hD hS 1 0 rfl rfl h_7 dX3_exchangeRows_43 (fun H locs hP hD hS => ?_)
      have hP : va_P g.1 vwCl [(a_R, .inr (3, [.ref a_R_cells])), (a_R_cells, .inl (g.2.1, 256, .inl (upd v_R_cells (Int32.toNatClampNeg (f_cell i_a x4)) (v_R_cells (Int32.toNatClampNeg (f_cell i_b x4))))))] H := hP
      have hD : va_D A [(a_R, .inr (3, [.ref a_R_cells])), (a_R_cells, .inl (g.2.1, 256, .inl (upd v_R_cells (Int32.toNatClampNeg (f_cell i_a x4)) (v_R_cells (Int32.toNatClampNeg (f_cell i_b x4))))))] := hD
      refine lv_aload_n hx hb dX3_exchangeRows_44 rfl (lv_at hl 2 rfl) ?_
      refine va_get (D := g.1) (ci := 3) (v := .ref a_R_cells) (C := RX3) (T := TX3) (N := 1) hx hb hts cw_in_X3 hown hK.1 hP 0 rfl rfl 0 (by decide) (hts _ cw_f_X3_9) (fun _ h9 => h9) rfl dX3_exchangeRows_45 ?_
      refine lv_iload_n hx hb dX3_exchangeRows_48 rfl (lv_at hl 4 rfl) ?_
      refine lv_iload hx hb dX3_exchangeRows_49 (lv_at hl 1 rfl) ?_
      refine cx_iNr (As := [.int i_b, .int x4]) (rest := [.ref a_R_cells]) ⟨hx, hb, hml, hown, hts⟩ (cp_X4_cell l g i_b x4) (cx_cwN 2 hts (hK.2.at 5 rfl) cw_t_X4_cell cw_n_X4 cw_c_X4_cell rfl rfl (by decide +kernel) ⟨Nat.le_of_ble_eq_true rfl, Nat.le_of_ble_eq_true rfl⟩) hK hP hD hS hA [] rfl rfl rfl hl.1 rfl (Nat.le_of_ble_eq_true rfl) dX3_exchangeRows_51 ⟨Nat.le_of_ble_eq_true rfl, Nat.le_of_ble_eq_true rfl⟩ (fun r_8 H locs hr9 hP hS => ?_)
      replace hr9 : r_8 = (f_cell i_b x4) := hr9
      subst hr9
      refine lv_iload hx hb dX3_exchangeRows_54 (lv_at hl 0 rfl) ?_
      obtain ⟨h_9, hv⟩ := hv
      refine va_iast (D := g.1) hx hb hK.1 hP hD hS 1 0 rfl rfl h_9 dX3_exchangeRows_56 (fun H locs hP hD hS => ?_)
      have hP : va_P g.1 vwCl [(a_R, .inr (3, [.ref a_R_cells])), (a_R_cells, .inl (g.2.1, 256, .inl (upd (upd v_R_cells (Int32.toNatClampNeg (f_cell i_a x4)) (v_R_cells (Int32.toNatClampNeg (f_cell i_b x4)))) (Int32.toNatClampNeg (f_cell i_b x4)) x5_3)))] H := hP
      have hD : va_D A [(a_R, .inr (3, [.ref a_R_cells])), (a_R_cells, .inl (g.2.1, 256, .inl (upd (upd v_R_cells (Int32.toNatClampNeg (f_cell i_a x4)) (v_R_cells (Int32.toNatClampNeg (f_cell i_b x4)))) (Int32.toNatClampNeg (f_cell i_b x4)) x5_3)))] := hD
      obtain ⟨x4_10, ex4_10⟩ : ∃ y : Int32, y = x4 + 1 := ⟨_, rfl⟩
      replace hv := hv x4_10 ex4_10
      refine lv_iinc (v := x4_10) (lv' := [(4, .int x4_10), (5, .int x5_3), (0, .ref a_R), (1, .int i_a), (2, .int i_b), (3, .int i_n)]) hx hb dX3_exchangeRows_57 hl (k := 1) rfl (by rw [ex4_10]; rfl) (by decide) rfl (fun ls hl => ?_)
      refine lv_goto (tgt := 3) hx hb dX3_exchangeRows_60 (by decide) ?_
      exact hv _ _ _ hP hD hS (lv_sub hl [0, 2, 3, 4, 5] rfl)
  replace hv := hv G1 hs1
  rw [hG1] at hv
  unfold vc_X3_exchangeRows_0 at hv
  refine lv_iconst (v := 0) hx hb dX3_exchangeRows_0 (by decide) ?_
  refine lv_istore (lv' := [(4, .int 0), (0, .ref a_R), (1, .int i_a), (2, .int i_b), (3, .int i_n)]) hx hb dX3_exchangeRows_1 hl (by decide) rfl (fun ls hl => ?_)
  exact hv _ _ _ hP hD hS (lv_sub hl [0, 1, 2, 3, 4] rfl)
def vc_X3_clearBelow_0 (i_k : Int32) (i_n : Int32) (R_cells : (Nat → Int32)) (Q : (Nat → Int32) → Prop) (G1 : Int32 → Int32 → (Nat → Int32) → Prop) (G2 : Int32 → Int32 → Int32 → Int32 → (Nat → Int32) → Prop)  : Prop := vp_in (f_cell i_k i_k) 256 ∧ (∀ x3_4 : Int32, x3_4 = (f_rec (R_cells (Int32.toNatClampNeg (f_cell i_k i_k)))) → (∀ x4_5 : Int32, x4_5 = (i_k + 1) → (G1 x4_5 x3_4 R_cells)))
def vc_X3_clearBelow_1 (i_k : Int32) (i_n : Int32) (R_cells : (Nat → Int32)) (Q : (Nat → Int32) → Prop) (G1 : Int32 → Int32 → (Nat → Int32) → Prop) (G2 : Int32 → Int32 → Int32 → Int32 → (Nat → Int32) → Prop) (x4 : Int32) (x3 : Int32) (v_R_cells : (Nat → Int32)) : Prop := (i_n ≤ x4 → (Q v_R_cells)) ∧ (¬ i_n ≤ x4 → (vp_in (f_cell x4 i_k) 256 ∧ (∀ x5_4 : Int32, x5_4 = (f_times (v_R_cells (Int32.toNatClampNeg (f_cell x4 i_k))) x3) → (G2 i_k x5_4 x4 x3 v_R_cells))))
def vc_X3_clearBelow_2 (i_k : Int32) (i_n : Int32) (R_cells : (Nat → Int32)) (Q : (Nat → Int32) → Prop) (G1 : Int32 → Int32 → (Nat → Int32) → Prop) (G2 : Int32 → Int32 → Int32 → Int32 → (Nat → Int32) → Prop) (x6 : Int32) (x5 : Int32) (x4 : Int32) (x3 : Int32) (v_R_cells : (Nat → Int32)) : Prop := (i_n ≤ x6 → (∀ x4_1 : Int32, x4_1 = x4 + 1 → (G1 x4_1 x3 v_R_cells))) ∧ (¬ i_n ≤ x6 → (vp_in (f_cell x4 x6) 256 ∧ (vp_in (f_cell i_k x6) 256 ∧ (vp_in (f_cell x4 x6) 256 ∧ (∀ x6_10 : Int32, x6_10 = x6 + 1 → (G2 x6_10 x5 x4 x3 (upd v_R_cells (Int32.toNatClampNeg (f_cell x4 x6)) (f_minus (v_R_cells (Int32.toNatClampNeg (f_cell x4 x6))) (f_times x5 (v_R_cells (Int32.toNatClampNeg (f_cell i_k x6))))))))))))
def wp_X3_clearBelow (i_k : Int32) (i_n : Int32) (R_cells : (Nat → Int32)) (Q : (Nat → Int32) → Prop) : Prop := ∀ (G1 : Int32 → Int32 → (Nat → Int32) → Prop) (G2 : Int32 → Int32 → Int32 → Int32 → (Nat → Int32) → Prop), (∀ (x4 : Int32) (x3 : Int32) (v_R_cells : (Nat → Int32)), vc_X3_clearBelow_1 i_k i_n R_cells Q G1 G2 x4 x3 v_R_cells → G1 x4 x3 v_R_cells) → (∀ (x6 : Int32) (x5 : Int32) (x4 : Int32) (x3 : Int32) (v_R_cells : (Nat → Int32)), vc_X3_clearBelow_2 i_k i_n R_cells Q G1 G2 x6 x5 x4 x3 v_R_cells → G2 x6 x5 x4 x3 v_R_cells) → vc_X3_clearBelow_0 i_k i_n R_cells Q G1 G2
abbrev w0_X3_clearBelow (g : cx_G) (a_R a_R_cells : Nat) (R_cells : (Nat → Int32)) : va_W := [(a_R, .inr (3, [.ref a_R_cells])), (a_R_cells, .inl (g.2.1, 256, .inl R_cells))]
abbrev w1_X3_clearBelow (g : cx_G) (a_R a_R_cells : Nat) (R_cells : (Nat → Int32)) (u : (Nat → Int32)) : va_W := [(a_R, .inr (3, [.ref a_R_cells])), (a_R_cells, .inl (g.2.1, 256, .inl u))]
set_option maxHeartbeats 4000000 in
set_option maxRecDepth 100000 in
theorem c_X3_clearBelow (l : Launch) (g : cx_G) (a_R a_R_cells : Nat) (i_k : Int32) (i_n : Int32) (R_cells : (Nat → Int32)) {Q : (Nat → Int32) → Prop} (hv : wp_X3_clearBelow i_k i_n R_cells Q) : cx_Mv l g yX3_clearBelow (Cond.code yX3_clearBelow cX3_clearBelow 7 none :: cx_T) ({ frames := 3, cells := 0, slots := 0, locals := 64 } : Room) [.ref a_R, .int i_k, .int i_n] (w0_X3_clearBelow g a_R a_R_cells R_cells) (fun (u : (Nat → Int32)) => Q u) (w1_X3_clearBelow g a_R a_R_cells R_cells) 0 0 := by
  intro sz
  refine Met.ofW (cc := cX3_clearBelow) (maxL := 7) (ret := none) (by decide) rfl ?_
  intro p e s m args below meth c s₁ B hml hpre
  obtain ⟨rfl, hsz, hP, hK, hD0⟩ := hpre
  have hx := B.exec
  have hb := B.bytes
  have hr := B.returns
  have hts0 := atoms_spec (ws := (Cond.code yX3_clearBelow cX3_clearBelow 7 none :: cx_T)) B.pre
  have hts : ∀ w ∈ cx_T, w.before _ s = true := fun w h => hts0 w (List.mem_cons_of_mem _ h)
  have hown : s.vm.findClass RX3 = some m.cls := findClass_of_methodNamed B.named
  have hlocks := B.notSynchronized
  subst hsz
  have hD := hD0.self (sz := s.heap.size)
  obtain ⟨A, hAe⟩ : ∃ A : Nat → Prop, A = va_A (w0_X3_clearBelow g a_R a_R_cells R_cells) s.heap.size := ⟨_, rfl⟩
  rw [← hAe] at hD
  have hA : ∀ q : Nat, s.heap.size ≤ q → A q := fun q h => by rw [hAe]; exact Or.inr h
  have hS : va_S A s.heap s.heap [] := va_S.rf
  have hP : va_P g.1 vwCl [(a_R, .inr (3, [.ref a_R_cells])), (a_R_cells, .inl (g.2.1, 256, .inl R_cells))] s.heap := hP
  have hD : va_D A [(a_R, .inr (3, [.ref a_R_cells])), (a_R_cells, .inl (g.2.1, 256, .inl R_cells))] := hD
  have hl := lv_entry ([.ref a_R, .int i_k, .int i_n]) (n := 7) (Nat.le_of_ble_eq_true rfl)
  rw [lg_entry_eq]
  generalize (lg_sl ([.ref a_R, .int i_k, .int i_n]) ++ List.replicate (7 - (lg_sl ([.ref a_R, .int i_k, .int i_n])).length) Slot.unset).toArray = ls at hl ⊢
  have hl : lv_has ls 7 [(0, .ref a_R), (1, .int i_k), (2, .int i_n)] := hl
  obtain ⟨G1, hG1⟩ : ∃ G : Int32 → Int32 → (Nat → Int32) → Prop, G = (fun (x4 : Int32) (x3 : Int32) (v_R_cells : (Nat → Int32)) => ∀ (H : Heap) (locs : List Loc) (ls : Array Slot), va_P g.1 vwCl [(a_R, .inr (3, [.ref a_R_cells])), (a_R_cells, .inl (g.2.1, 256, .inl v_R_cells))] H → va_D A [(a_R, .inr (3, [.ref a_R_cells])), (a_R_cells, .inl (g.2.1, 256, .inl v_R_cells))] → va_S A s.heap H locs → lv_has ls 7 [(4, .int x4), (3, .int x3), (0, .ref a_R), (1, .int i_k), (2, .int i_n)] → W p l e (headSpec (Cond.code yX3_clearBelow cX3_clearBelow 7 none :: cx_T) ({ frames := 3, cells := 0, slots := 0, locals := 64 } : Room)).room s m ([.ref a_R, .int i_k, .int i_n] : List Value).toArray below meth c H locs 0 0 (MQ below (va_Qv (fun (u : (Nat → Int32)) => Q u) (cx_B g (w0_X3_clearBelow g a_R a_R_cells R_cells) s.heap.size (w1_X3_clearBelow g a_R a_R_cells R_cells)) (va_A (w0_X3_clearBelow g a_R a_R_cells R_cells) s.heap.size)) ([.ref a_R, .int i_k, .int i_n] : List Value).toArray s 0 0 (va_A (w0_X3_clearBelow g a_R a_R_cells R_cells) s.heap.size)) (F0 m 19 ls [])) := ⟨_, rfl⟩
  obtain ⟨G2, hG2⟩ : ∃ G : Int32 → Int32 → Int32 → Int32 → (Nat → Int32) → Prop, G = (fun (x6 : Int32) (x5 : Int32) (x4 : Int32) (x3 : Int32) (v_R_cells : (Nat → Int32)) => ∀ (H : Heap) (locs : List Loc) (ls : Array Slot), va_P g.1 vwCl [(a_R, .inr (3, [.ref a_R_cells])), (a_R_cells, .inl (g.2.1, 256, .inl v_R_cells))] H → va_D A [(a_R, .inr (3, [.ref a_R_cells])), (a_R_cells, .inl (g.2.1, 256, .inl v_R_cells))] → va_S A s.heap H locs → lv_has ls 7 [(6, .int x6), (5, .int x5), (4, .int x4), (3, .int x3), (0, .ref a_R), (1, .int i_k), (2, .int i_n)] → W p l e (headSpec (Cond.code yX3_clearBelow cX3_clearBelow 7 none :: cx_T) ({ frames := 3, cells := 0, slots := 0, locals := 64 } : Room)).room s m ([.ref a_R, .int i_k, .int i_n] : List Value).toArray below meth c H locs 0 0 (MQ below (va_Qv (fun (u : (Nat → Int32)) => Q u) (cx_B g (w0_X3_clearBelow g a_R a_R_cells R_cells) s.heap.size (w1_X3_clearBelow g a_R a_R_cells R_cells)) (va_A (w0_X3_clearBelow g a_R a_R_cells R_cells) s.heap.size)) ([.ref a_R, .int i_k, .int i_n] : List Value).toArray s 0 0 (va_A (w0_X3_clearBelow g a_R a_R_cells R_cells) s.heap.size)) (F0 m 45 ls [])) := ⟨_, rfl⟩
  have hs1 : ∀ (x4 : Int32) (x3 : Int32) (v_R_cells : (Nat → Int32)), vc_X3_clearBelow_1 i_k i_n R_cells Q G1 G2 x4 x3 v_R_cells → G1 x4 x3 v_R_cells := by
    rw [hG1, hG2]
    intro x4 x3 v_R_cells hv H locs ls hP hD hS hl
    unfold vc_X3_clearBelow_1 at hv
    refine lv_iload hx hb dX3_clearBelow_19 (lv_at hl 0 rfl) ?_
    refine lv_iload_n hx hb dX3_clearBelow_21 rfl (lv_at hl 4 rfl) ?_
    refine lv_icmp_ge (tgt := 106) hx hb dX3_clearBelow_22 (by decide) (fun hc => ?_) (fun hc => ?_)
    · replace hv := hv.1 hc
      exact cx_vret hx hb hr hlocks hAe hS v_R_cells hv hP hD dX3_clearBelow_106
    · replace hv := hv.2 hc
      refine lv_aload_n hx hb dX3_clearBelow_25 rfl (lv_at hl 2 rfl) ?_
      refine va_get (D := g.1) (ci := 3) (v := .ref a_R_cells) (C := RX3) (T := TX3) (N := 1) hx hb hts cw_in_X3 hown hK.1 hP 0 rfl rfl 0 (by decide) (hts _ cw_f_X3_9) (fun _ h9 => h9) rfl dX3_clearBelow_26 ?_
      refine lv_iload hx hb dX3_clearBelow_29 (lv_at hl 0 rfl) ?_
      refine lv_iload_n hx hb dX3_clearBelow_31 rfl (lv_at hl 3 rfl) ?_
      refine cx_iNr (As := [.int x4, .int i_k]) (rest := [.ref a_R_cells]) ⟨hx, hb, hml, hown, hts⟩ (cp_X4_cell l g x4 i_k) (cx_cwN 2 hts (hK.2.at 5 rfl) cw_t_X4_cell cw_n_X4 cw_c_X4_cell rfl rfl (by decide +kernel) ⟨Nat.le_of_ble_eq_true rfl, Nat.le_of_ble_eq_true rfl⟩) hK hP hD hS hA [] rfl rfl rfl hl.1 rfl (Nat.le_of_ble_eq_true rfl) dX3_clearBelow_32 ⟨Nat.le_of_ble_eq_true rfl, Nat.le_of_ble_eq_true rfl⟩ (fun r_1 H locs hr9 hP hS => ?_)
      replace hr9 : r_1 = (f_cell x4 i_k) := hr9
      subst hr9
      obtain ⟨h_2, hv⟩ := hv
      refine va_iald (D := g.1) hx hb hK.1 hP 1 0 rfl rfl h_2 dX3_clearBelow_35 ?_
      refine lv_iload_n hx hb dX3_clearBelow_36 rfl (lv_at hl 1 rfl) ?_
      refine cx_iNr (As := [.int (v_R_cells (Int32.toNatClampNeg (f_cell x4 i_k))), .int x3]) (rest := []) ⟨hx, hb, hml, hown, hts⟩ (cp_X4_times l g (v_R_cells (Int32.toNatClampNeg (f_cell x4 i_k))) x3) (cx_cwN 2 hts (hK.2.at 7 rfl) cw_t_X4_times cw_n_X4 cw_c_X4_times rfl rfl (by decide +kernel) ⟨Nat.le_of_ble_eq_true rfl, Nat.le_of_ble_eq_true rfl⟩) hK hP hD hS hA [] rfl rfl rfl hl.1 rfl (Nat.le_of_ble_eq_true rfl) dX3_clearBelow_37 ⟨Nat.le_of_ble_eq_true rfl, Nat.le_of_ble_eq_true rfl⟩ (fun r_3 H locs hr9 hP hS => ?_)
      replace hr9 : r_3 = (f_times (v_R_cells (Int32.toNatClampNeg (f_cell x4 i_k))) x3) := hr9
      subst hr9
      refine lv_topi (fun x5_4 ex5_4 => ?_)
      replace hv := hv x5_4 ex5_4
      refine lv_istore (lv' := [(5, .int x5_4), (4, .int x4), (3, .int x3), (0, .ref a_R), (1, .int i_k), (2, .int i_n)]) hx hb dX3_clearBelow_40 hl (by decide) rfl (fun ls hl => ?_)
      refine lv_iload_n hx hb dX3_clearBelow_42 rfl (lv_at hl 4 rfl) ?_
      refine lv_istore (lv' := [(6, .int i_k), (5, .int x5_4), (4, .int x4), (3, .int x3), (0, .ref a_R), (1, .int i_k), (2, .int i_n)]) hx hb dX3_clearBelow_43 hl (by decide) rfl (fun ls hl => ?_)
      exact hv _ _ _ hP hD hS (lv_sub hl [0, 1, 2, 3, 4, 5, 6] rfl)
  have hs2 : ∀ (x6 : Int32) (x5 : Int32) (x4 : Int32) (x3 : Int32) (v_R_cells : (Nat → Int32)), vc_X3_clearBelow_2 i_k i_n R_cells Q G1 G2 x6 x5 x4 x3 v_R_cells → G2 x6 x5 x4 x3 v_R_cells := by
    rw [hG1, hG2]
    intro x6 x5 x4 x3 v_R_cells hv H locs ls hP hD hS hl
    unfold vc_X3_clearBelow_2 at hv
    refine lv_iload hx hb dX3_clearBelow_45 (lv_at hl 0 rfl) ?_
    refine lv_iload_n hx hb dX3_clearBelow_47 rfl (lv_at hl 6 rfl) ?_
    refine lv_icmp_ge (tgt := 100) hx hb dX3_clearBelow_48 (by decide) (fun hc => ?_) (fun hc => ?_)
    · replace hv := hv.1 hc
      obtain ⟨x4_1, ex4_1⟩ : ∃ y : Int32, y = x4 + 1 := ⟨_, rfl⟩
      replace hv := hv x4_1 ex4_1
      refine lv_iinc (v := x4_1) (lv' := [(4, .int x4_1), (6, .int x6), (5, .int x5), (3, .int x3), (0, .ref a_R), (1, .int i_k), (2, .int i_n)]) hx hb dX3_clearBelow_100 hl (k := 2) rfl (by rw [ex4_1]; rfl) (by decide) rfl (fun ls hl => ?_)
      refine lv_goto (tgt := 19) hx hb dX3_clearBelow_103 (by decide) ?_
      exact hv _ _ _ hP hD hS (lv_sub hl [0, 3, 4, 5, 6] rfl)
    · replace hv := hv.2 hc
      refine lv_aload_n hx hb dX3_clearBelow_51 rfl (lv_at hl 4 rfl) ?_
      refine va_get (D := g.1) (ci := 3) (v := .ref a_R_cells) (C := RX3) (T := TX3) (N := 1) hx hb hts cw_in_X3 hown hK.1 hP 0 rfl rfl 0 (by decide) (hts _ cw_f_X3_9) (fun _ h9 => h9) rfl dX3_clearBelow_52 ?_
      refine lv_iload hx hb dX3_clearBelow_55 (lv_at hl 2 rfl) ?_
      refine lv_iload hx hb dX3_clearBelow_57 (lv_at hl 0 rfl) ?_
      refine cx_iNr (As := [.int x4, .int x6]) (rest := [.ref a_R_cells]) ⟨hx, hb, hml, hown, hts⟩ (cp_X4_cell l g x4 x6) (cx_cwN 2 hts (hK.2.at 5 rfl) cw_t_X4_cell cw_n_X4 cw_c_X4_cell rfl rfl (by decide +kernel) ⟨Nat.le_of_ble_eq_true rfl, Nat.le_of_ble_eq_true rfl⟩) hK hP hD hS hA [] rfl rfl rfl hl.1 rfl (Nat.le_of_ble_eq_true rfl) dX3_clearBelow_59 ⟨Nat.le_of_ble_eq_true rfl, Nat.le_of_ble_eq_true rfl⟩ (fun r_2 H locs hr9 hP hS => ?_)
      replace hr9 : r_2 = (f_cell x4 x6) := hr9
      subst hr9
      refine lv_aload_n hx hb dX3_clearBelow_62 rfl (lv_at hl 4 rfl) ?_
      refine va_get (D := g.1) (ci := 3) (v := .ref a_R_cells) (C := RX3) (T := TX3) (N := 1) hx hb hts cw_in_X3 hown hK.1 hP 0 rfl rfl 0 (by decide) (hts _ cw_f_X3_9) (fun _ h9 => h9) rfl dX3_clearBelow_63 ?_
      refine lv_iload hx hb dX3_clearBelow_66 (lv_at hl 2 rfl) ?_
      refine lv_iload hx hb dX3_clearBelow_68 (lv_at hl 0 rfl) ?_
      refine cx_iNr (As := [.int x4, .int x6]) (rest := [.ref a_R_cells, .int (f_cell x4 x6), .ref a_R_cells]) ⟨hx, hb, hml, hown, hts⟩ (cp_X4_cell l g x4 x6) (cx_cwN 2 hts (hK.2.at 5 rfl) cw_t_X4_cell cw_n_X4 cw_c_X4_cell rfl rfl (by decide +kernel) ⟨Nat.le_of_ble_eq_true rfl, Nat.le_of_ble_eq_true rfl⟩) hK hP hD hS hA [] rfl rfl rfl hl.1 rfl (Nat.le_of_ble_eq_true rfl) dX3_clearBelow_70 ⟨Nat.le_of_ble_eq_true rfl, Nat.le_of_ble_eq_true rfl⟩ (fun r_3 H locs hr9 hP hS => ?_)
      replace hr9 : r_3 = (f_cell x4 x6) := hr9
      subst hr9
      obtain ⟨h_4, hv⟩ := hv
      refine va_iald (D := g.1) hx hb hK.1 hP 1 0 rfl rfl h_4 dX3_clearBelow_73 ?_
      refine lv_iload hx hb dX3_clearBelow_74 (lv_at hl 1 rfl) ?_
      refine lv_aload_n hx hb dX3_clearBelow_76 rfl (lv_at hl 4 rfl) ?_
      refine va_get (D := g.1) (ci := 3) (v := .ref a_R_cells) (C := RX3) (T := TX3) (N := 1) hx hb hts cw_in_X3 hown hK.1 hP 0 rfl rfl 0 (by decide) (hts _ cw_f_X3_9) (fun _ h9 => h9) rfl dX3_clearBelow_77 ?_
      refine lv_iload_n hx hb dX3_clearBelow_80 rfl (lv_at hl 5 rfl) ?_
      refine lv_iload hx hb dX3_clearBelow_81 (lv_at hl 0 rfl) ?_
      refine cx_iNr (As := [.int i_k, .int x6]) (rest := [.ref a_R_cells, .int x5, .int (v_R_cells (Int32.toNatClampNeg (f_cell x4 x6))), .int (f_cell x4 x6), .ref a_R_cells]) ⟨hx, hb, hml, hown, hts⟩ (cp_X4_cell l g i_k x6) (cx_cwN 2 hts (hK.2.at 5 rfl) cw_t_X4_cell cw_n_X4 cw_c_X4_cell rfl rfl (by decide +kernel) ⟨Nat.le_of_ble_eq_true rfl, Nat.le_of_ble_eq_true rfl⟩) hK hP hD hS hA [] rfl rfl rfl hl.1 rfl (Nat.le_of_ble_eq_true rfl) dX3_clearBelow_83 ⟨Nat.le_of_ble_eq_true rfl, Nat.le_of_ble_eq_true rfl⟩ (fun r_5 H locs hr9 hP hS => ?_)
      replace hr9 : r_5 = (f_cell i_k x6) := hr9
      subst hr9
      obtain ⟨h_6, hv⟩ := hv
      refine va_iald (D := g.1) hx hb hK.1 hP 1 0 rfl rfl h_6 dX3_clearBelow_86 ?_
      refine cx_iNr (As := [.int x5, .int (v_R_cells (Int32.toNatClampNeg (f_cell i_k x6)))]) (rest := [.int (v_R_cells (Int32.toNatClampNeg (f_cell x4 x6))), .int (f_cell x4 x6), .ref a_R_cells]) ⟨hx, hb, hml, hown, hts⟩ (cp_X4_times l g x5 (v_R_cells (Int32.toNatClampNeg (f_cell i_k x6)))) (cx_cwN 2 hts (hK.2.at 7 rfl) cw_t_X4_times cw_n_X4 cw_c_X4_times rfl rfl (by decide +kernel) ⟨Nat.le_of_ble_eq_true rfl, Nat.le_of_ble_eq_true rfl⟩) hK hP hD hS hA [] rfl rfl rfl hl.1 rfl (Nat.le_of_ble_eq_true rfl) dX3_clearBelow_87 ⟨Nat.le_of_ble_eq_true rfl, Nat.le_of_ble_eq_true rfl⟩ (fun r_7 H locs hr9 hP hS => ?_)
      replace hr9 : r_7 = (f_times x5 (v_R_cells (Int32.toNatClampNeg (f_cell i_k x6)))) := hr9
      subst hr9
      refine cx_iNr (As := [.int (v_R_cells (Int32.toNatClampNeg (f_cell x4 x6))), .int (f_times x5 (v_R_cells (Int32.toNatClampNeg (f_cell i_k x6))))]) (rest := [.int (f_cell x4 x6), .ref a_R_cells]) ⟨hx, hb, hml, hown, hts⟩ (cp_X4_minus l g (v_R_cells (Int32.toNatClampNeg (f_cell x4 x6))) (f_times x5 (v_R_cells (Int32.toNatClampNeg (f_cell i_k x6))))) (cx_cwN 2 hts (hK.2.at 6 rfl) cw_t_X4_minus cw_n_X4 cw_c_X4_minus rfl rfl (by decide +kernel) ⟨Nat.le_of_ble_eq_true rfl, Nat.le_of_ble_eq_true rfl⟩) hK hP hD hS hA [] rfl rfl rfl hl.1 rfl (Nat.le_of_ble_eq_true rfl) dX3_clearBelow_90 ⟨Nat.le_of_ble_eq_true rfl, Nat.le_of_ble_eq_true rfl⟩ (fun r_8 H locs hr9 hP hS => ?_)
      replace hr9 : r_8 = (f_minus (v_R_cells (Int32.toNatClampNeg (f_cell x4 x6))) (f_times x5 (v_R_cells (Int32.toNatClampNeg (f_cell i_k x6))))) := hr9
      subst hr9
      obtain ⟨h_9, hv⟩ := hv
      refine va_iast (D := g.1) hx hb hK.1 hP hD hS 1 0 rfl rfl h_9 dX3_clearBelow_93 (fun H locs hP hD hS => ?_)
      have hP : va_P g.1 vwCl [(a_R, .inr (3, [.ref a_R_cells])), (a_R_cells, .inl (g.2.1, 256, .inl (upd v_R_cells (Int32.toNatClampNeg (f_cell x4 x6)) (f_minus (v_R_cells (Int32.toNatClampNeg (f_cell x4 x6))) (f_times x5 (v_R_cells (Int32.toNatClampNeg (f_cell i_k x6))))))))] H := hP
      have hD : va_D A [(a_R, .inr (3, [.ref a_R_cells])), (a_R_cells, .inl (g.2.1, 256, .inl (upd v_R_cells (Int32.toNatClampNeg (f_cell x4 x6)) (f_minus (v_R_cells (Int32.toNatClampNeg (f_cell x4 x6))) (f_times x5 (v_R_cells (Int32.toNatClampNeg (f_cell i_k x6))))))))] := hD
      obtain ⟨x6_10, ex6_10⟩ : ∃ y : Int32, y = x6 + 1 := ⟨_, rfl⟩
      replace hv := hv x6_10 ex6_10
      refine lv_iinc (v := x6_10) (lv' := [(6, .int x6_10), (5, .int x5), (4, .int x4), (3, .int x3), (0, .ref a_R), (1, .int i_k), (2, .int i_n)]) hx hb dX3_clearBelow_94 hl (k := 0) rfl (by rw [ex6_10]; rfl) (by decide) rfl (fun ls hl => ?_)
      refine lv_goto (tgt := 45) hx hb dX3_clearBelow_97 (by decide) ?_
      exact hv _ _ _ hP hD hS (lv_sub hl [0, 1, 2, 3, 4, 5, 6] rfl)
  replace hv := hv G1 G2 hs1 hs2
  rw [hG1, hG2] at hv
  unfold vc_X3_clearBelow_0 at hv
  refine lv_aload_n hx hb dX3_clearBelow_0 rfl (lv_at hl 0 rfl) ?_
  refine va_get (D := g.1) (ci := 3) (v := .ref a_R_cells) (C := RX3) (T := TX3) (N := 1) hx hb hts cw_in_X3 hown hK.1 hP 0 rfl rfl 0 (by decide) (hts _ cw_f_X3_9) (fun _ h9 => h9) rfl dX3_clearBelow_1 ?_
  refine lv_iload_n hx hb dX3_clearBelow_4 rfl (lv_at hl 1 rfl) ?_
  refine lv_iload_n hx hb dX3_clearBelow_5 rfl (lv_at hl 1 rfl) ?_
  refine cx_iNr (As := [.int i_k, .int i_k]) (rest := [.ref a_R_cells]) ⟨hx, hb, hml, hown, hts⟩ (cp_X4_cell l g i_k i_k) (cx_cwN 2 hts (hK.2.at 5 rfl) cw_t_X4_cell cw_n_X4 cw_c_X4_cell rfl rfl (by decide +kernel) ⟨Nat.le_of_ble_eq_true rfl, Nat.le_of_ble_eq_true rfl⟩) hK hP hD hS hA [] rfl rfl rfl hl.1 rfl (Nat.le_of_ble_eq_true rfl) dX3_clearBelow_6 ⟨Nat.le_of_ble_eq_true rfl, Nat.le_of_ble_eq_true rfl⟩ (fun r_1 H locs hr9 hP hS => ?_)
  replace hr9 : r_1 = (f_cell i_k i_k) := hr9
  subst hr9
  obtain ⟨h_2, hv⟩ := hv
  refine va_iald (D := g.1) hx hb hK.1 hP 1 0 rfl rfl h_2 dX3_clearBelow_9 ?_
  refine cx_iNr (As := [.int (R_cells (Int32.toNatClampNeg (f_cell i_k i_k)))]) (rest := []) ⟨hx, hb, hml, hown, hts⟩ (cp_X4_reciprocal l g (R_cells (Int32.toNatClampNeg (f_cell i_k i_k)))) (cx_cwN 1 hts (hK.2.at 8 rfl) cw_t_X4_reciprocal cw_n_X4 cw_c_X4_reciprocal rfl rfl (by decide +kernel) ⟨Nat.le_of_ble_eq_true rfl, Nat.le_of_ble_eq_true rfl⟩) hK hP hD hS hA [] rfl rfl rfl hl.1 rfl (Nat.le_of_ble_eq_true rfl) dX3_clearBelow_10 ⟨Nat.le_of_ble_eq_true rfl, Nat.le_of_ble_eq_true rfl⟩ (fun r_3 H locs hr9 hP hS => ?_)
  replace hr9 : r_3 = (f_rec (R_cells (Int32.toNatClampNeg (f_cell i_k i_k)))) := hr9
  subst hr9
  refine lv_topi (fun x3_4 ex3_4 => ?_)
  replace hv := hv x3_4 ex3_4
  refine lv_istore_n (lv' := [(3, .int x3_4), (0, .ref a_R), (1, .int i_k), (2, .int i_n)]) hx hb dX3_clearBelow_13 rfl hl (by decide) rfl (fun ls hl => ?_)
  refine lv_iload_n hx hb dX3_clearBelow_14 rfl (lv_at hl 2 rfl) ?_
  refine lv_iconst (v := 1) hx hb dX3_clearBelow_15 (by decide) ?_
  refine lv_iadd hx hb dX3_clearBelow_16 ?_
  refine lv_topi (fun x4_5 ex4_5 => ?_)
  replace hv := hv x4_5 ex4_5
  refine lv_istore (lv' := [(4, .int x4_5), (3, .int x3_4), (0, .ref a_R), (1, .int i_k), (2, .int i_n)]) hx hb dX3_clearBelow_17 hl (by decide) rfl (fun ls hl => ?_)
  exact hv _ _ _ hP hD hS (lv_sub hl [0, 1, 2, 3, 4] rfl)
def vc_X3_determinantOf_0 (P_rows : Int32) (P_entries : (Nat → Int32)) (R_cells : (Nat → Int32)) (Q : Int32 → (Nat → Int32) → Prop) (G1 : Int32 → Int32 → Int32 → (Nat → Int32) → Prop)  : Prop := G1 0 1 P_rows (va_cpy P_entries R_cells (Int32.toNatClampNeg 0) (Int32.toNatClampNeg 0) (Int32.toNatClampNeg 256))
def vc_X3_determinantOf_1 (P_rows : Int32) (P_entries : (Nat → Int32)) (R_cells : (Nat → Int32)) (Q : Int32 → (Nat → Int32) → Prop) (G1 : Int32 → Int32 → Int32 → (Nat → Int32) → Prop) (x4 : Int32) (x3 : Int32) (x2 : Int32) (v_R_cells : (Nat → Int32)) : Prop := (x2 ≤ x4 → (Q x3 v_R_cells)) ∧ (¬ x2 ≤ x4 → (wp_X3_rowWithEntry x4 x2 v_R_cells (fun r_1 => (r_1 = (-1) → (Q 0 v_R_cells)) ∧ (¬ r_1 = (-1) → ((r_1 = x4 → (vp_in (f_cell x4 x4) 256 ∧ (∀ x3_5 : Int32, x3_5 = (f_times x3 (v_R_cells (Int32.toNatClampNeg (f_cell x4 x4)))) → (wp_X3_clearBelow x4 x2 v_R_cells (fun u_7 => ∀ x4_9 : Int32, x4_9 = x4 + 1 → (G1 x4_9 x3_5 x2 u_7)))))) ∧ (¬ r_1 = x4 → (wp_X3_exchangeRows r_1 x4 x2 v_R_cells (fun u_11 => ∀ x3_14 : Int32, x3_14 = (f_minus 0 x3) → (vp_in (f_cell x4 x4) 256 ∧ (∀ x3_18 : Int32, x3_18 = (f_times x3_14 (u_11 (Int32.toNatClampNeg (f_cell x4 x4)))) → (wp_X3_clearBelow x4 x2 u_11 (fun u_20 => ∀ x4_22 : Int32, x4_22 = x4 + 1 → (G1 x4_22 x3_18 x2 u_20)))))))))))))
def wp_X3_determinantOf (P_rows : Int32) (P_entries : (Nat → Int32)) (R_cells : (Nat → Int32)) (Q : Int32 → (Nat → Int32) → Prop) : Prop := ∀ (G1 : Int32 → Int32 → Int32 → (Nat → Int32) → Prop), (∀ (x4 : Int32) (x3 : Int32) (x2 : Int32) (v_R_cells : (Nat → Int32)), vc_X3_determinantOf_1 P_rows P_entries R_cells Q G1 x4 x3 x2 v_R_cells → G1 x4 x3 x2 v_R_cells) → vc_X3_determinantOf_0 P_rows P_entries R_cells Q G1
abbrev w0_X3_determinantOf (g : cx_G) (a_R a_P a_P_entries a_P_order a_P_places a_P_rights a_P_weights a_R_cells : Nat) (P_rows : Int32) (P_entries : (Nat → Int32)) (R_cells : (Nat → Int32)) : va_W := [(a_P, .inr (2, [.int P_rows, .ref a_P_entries, .ref a_P_order, .ref a_P_places, .ref a_P_rights, .ref a_P_weights])), (a_R, .inr (3, [.ref a_R_cells])), (a_P_entries, .inl (g.2.1, 256, .inl P_entries)), (a_R_cells, .inl (g.2.1, 256, .inl R_cells))]
abbrev w1_X3_determinantOf (g : cx_G) (a_R a_P a_P_entries a_P_order a_P_places a_P_rights a_P_weights a_R_cells : Nat) (P_rows : Int32) (P_entries : (Nat → Int32)) (R_cells : (Nat → Int32)) (u : (Nat → Int32)) : va_W := [(a_P, .inr (2, [.int P_rows, .ref a_P_entries, .ref a_P_order, .ref a_P_places, .ref a_P_rights, .ref a_P_weights])), (a_R, .inr (3, [.ref a_R_cells])), (a_P_entries, .inl (g.2.1, 256, .inl P_entries)), (a_R_cells, .inl (g.2.1, 256, .inl u))]
set_option maxHeartbeats 4000000 in
set_option maxRecDepth 100000 in
theorem c_X3_determinantOf (l : Launch) (g : cx_G) (a_R a_P a_P_entries a_P_order a_P_places a_P_rights a_P_weights a_R_cells : Nat) (P_rows : Int32) (P_entries : (Nat → Int32)) (R_cells : (Nat → Int32)) {Q : Int32 → (Nat → Int32) → Prop} (hv : wp_X3_determinantOf P_rows P_entries R_cells Q) : cx_Mi l g yX3_determinantOf (Cond.code yX3_determinantOf cX3_determinantOf 6 (some .int) :: cx_T) ({ frames := 4, cells := 0, slots := 0, locals := 90 } : Room) [.ref a_R, .ref a_P] (w0_X3_determinantOf g a_R a_P a_P_entries a_P_order a_P_places a_P_rights a_P_weights a_R_cells P_rows P_entries R_cells) (fun (r : Int32) (u : (Nat → Int32)) => Q r u) (w1_X3_determinantOf g a_R a_P a_P_entries a_P_order a_P_places a_P_rights a_P_weights a_R_cells P_rows P_entries R_cells) 0 0 := by
  intro sz
  refine Met.ofW (cc := cX3_determinantOf) (maxL := 6) (ret := (some .int)) (by decide) rfl ?_
  intro p e s m args below meth c s₁ B hml hpre
  obtain ⟨rfl, hsz, hP, hK, hD0⟩ := hpre
  have hx := B.exec
  have hb := B.bytes
  have hr := B.returns
  have hts0 := atoms_spec (ws := (Cond.code yX3_determinantOf cX3_determinantOf 6 (some .int) :: cx_T)) B.pre
  have hts : ∀ w ∈ cx_T, w.before _ s = true := fun w h => hts0 w (List.mem_cons_of_mem _ h)
  have hown : s.vm.findClass RX3 = some m.cls := findClass_of_methodNamed B.named
  have hlocks := B.notSynchronized
  subst hsz
  have hD := hD0.self (sz := s.heap.size)
  obtain ⟨A, hAe⟩ : ∃ A : Nat → Prop, A = va_A (w0_X3_determinantOf g a_R a_P a_P_entries a_P_order a_P_places a_P_rights a_P_weights a_R_cells P_rows P_entries R_cells) s.heap.size := ⟨_, rfl⟩
  rw [← hAe] at hD
  have hA : ∀ q : Nat, s.heap.size ≤ q → A q := fun q h => by rw [hAe]; exact Or.inr h
  have hS : va_S A s.heap s.heap [] := va_S.rf
  have hP : va_P g.1 vwCl [(a_P, .inr (2, [.int P_rows, .ref a_P_entries, .ref a_P_order, .ref a_P_places, .ref a_P_rights, .ref a_P_weights])), (a_R, .inr (3, [.ref a_R_cells])), (a_P_entries, .inl (g.2.1, 256, .inl P_entries)), (a_R_cells, .inl (g.2.1, 256, .inl R_cells))] s.heap := hP
  have hD : va_D A [(a_P, .inr (2, [.int P_rows, .ref a_P_entries, .ref a_P_order, .ref a_P_places, .ref a_P_rights, .ref a_P_weights])), (a_R, .inr (3, [.ref a_R_cells])), (a_P_entries, .inl (g.2.1, 256, .inl P_entries)), (a_R_cells, .inl (g.2.1, 256, .inl R_cells))] := hD
  have hl := lv_entry ([.ref a_R, .ref a_P]) (n := 6) (Nat.le_of_ble_eq_true rfl)
  rw [lg_entry_eq]
  generalize (lg_sl ([.ref a_R, .ref a_P]) ++ List.replicate (6 - (lg_sl ([.ref a_R, .ref a_P])).length) Slot.unset).toArray = ls at hl ⊢
  have hl : lv_has ls 6 [(0, .ref a_R), (1, .ref a_P)] := hl
  obtain ⟨G1, hG1⟩ : ∃ G : Int32 → Int32 → Int32 → (Nat → Int32) → Prop, G = (fun (x4 : Int32) (x3 : Int32) (x2 : Int32) (v_R_cells : (Nat → Int32)) => ∀ (H : Heap) (locs : List Loc) (ls : Array Slot), va_P g.1 vwCl [(a_P, .inr (2, [.int P_rows, .ref a_P_entries, .ref a_P_order, .ref a_P_places, .ref a_P_rights, .ref a_P_weights])), (a_R, .inr (3, [.ref a_R_cells])), (a_P_entries, .inl (g.2.1, 256, .inl P_entries)), (a_R_cells, .inl (g.2.1, 256, .inl v_R_cells))] H → va_D A [(a_P, .inr (2, [.int P_rows, .ref a_P_entries, .ref a_P_order, .ref a_P_places, .ref a_P_rights, .ref a_P_weights])), (a_R, .inr (3, [.ref a_R_cells])), (a_P_entries, .inl (g.2.1, 256, .inl P_entries)), (a_R_cells, .inl (g.2.1, 256, .inl v_R_cells))] → va_S A s.heap H locs → lv_has ls 6 [(4, .int x4), (3, .int x3), (2, .int x2), (0, .ref a_R), (1, .ref a_P)] → W p l e (headSpec (Cond.code yX3_determinantOf cX3_determinantOf 6 (some .int) :: cx_T) ({ frames := 4, cells := 0, slots := 0, locals := 90 } : Room)).room s m ([.ref a_R, .ref a_P] : List Value).toArray below meth c H locs 0 0 (MQ below (va_Qi (fun (r : Int32) (u : (Nat → Int32)) => Q r u) (cx_B g (w0_X3_determinantOf g a_R a_P a_P_entries a_P_order a_P_places a_P_rights a_P_weights a_R_cells P_rows P_entries R_cells) s.heap.size (w1_X3_determinantOf g a_R a_P a_P_entries a_P_order a_P_places a_P_rights a_P_weights a_R_cells P_rows P_entries R_cells)) (va_A (w0_X3_determinantOf g a_R a_P a_P_entries a_P_order a_P_places a_P_rights a_P_weights a_R_cells P_rows P_entries R_cells) s.heap.size)) ([.ref a_R, .ref a_P] : List Value).toArray s 0 0 (va_A (w0_X3_determinantOf g a_R a_P a_P_entries a_P_order a_P_places a_P_rights a_P_weights a_R_cells P_rows P_entries R_cells) s.heap.size)) (F0 m 26 ls [])) := ⟨_, rfl⟩
  have hs1 : ∀ (x4 : Int32) (x3 : Int32) (x2 : Int32) (v_R_cells : (Nat → Int32)), vc_X3_determinantOf_1 P_rows P_entries R_cells Q G1 x4 x3 x2 v_R_cells → G1 x4 x3 x2 v_R_cells := by
    rw [hG1]
    intro x4 x3 x2 v_R_cells hv H locs ls hP hD hS hl
    unfold vc_X3_determinantOf_1 at hv
    refine lv_iload hx hb dX3_determinantOf_26 (lv_at hl 0 rfl) ?_
    refine lv_iload_n hx hb dX3_determinantOf_28 rfl (lv_at hl 2 rfl) ?_
    refine lv_icmp_ge (tgt := 101) hx hb dX3_determinantOf_29 (by decide) (fun hc => ?_) (fun hc => ?_)
    · replace hv := hv.1 hc
      refine lv_iload_n hx hb dX3_determinantOf_101 rfl (lv_at hl 1 rfl) ?_
      exact cx_iret hx hb hr hlocks hAe hS v_R_cells hv hP hD dX3_determinantOf_102
    · replace hv := hv.2 hc
      refine lv_aload_n hx hb dX3_determinantOf_32 rfl (lv_at hl 3 rfl) ?_
      refine lv_iload hx hb dX3_determinantOf_33 (lv_at hl 0 rfl) ?_
      refine lv_iload_n hx hb dX3_determinantOf_35 rfl (lv_at hl 2 rfl) ?_
      refine cx_iVr (As := [.int x4, .int x2]) (rest := []) ⟨hx, hb, hml, hown, hts⟩ (c_X3_rowWithEntry l g a_R a_R_cells x4 x2 v_R_cells hv) (cx_cwV 2 hts cw_m_X3_30 cw_i_X3_rowWithEntry cw_s_X3_rowWithEntry cw_n_X3 cw_c_X3_rowWithEntry rfl rfl (by decide +kernel) ⟨Nat.le_of_ble_eq_true rfl, Nat.le_of_ble_eq_true rfl⟩) hK hP hD hS hA 1 3 rfl rfl [1, 3] rfl rfl rfl hl.1 rfl (Nat.le_of_ble_eq_true rfl) dX3_determinantOf_36 ⟨Nat.le_of_ble_eq_true rfl, Nat.le_of_ble_eq_true rfl⟩ (fun r_1 H locs hv hP hS => ?_)
      refine lv_istore (lv' := [(5, .int r_1), (4, .int x4), (3, .int x3), (2, .int x2), (0, .ref a_R), (1, .ref a_P)]) hx hb dX3_determinantOf_39 hl (by decide) rfl (fun ls hl => ?_)
      refine lv_iload hx hb dX3_determinantOf_41 (lv_at hl 0 rfl) ?_
      refine lv_iconst (v := (-1)) hx hb dX3_determinantOf_43 (by decide) ?_
      refine lv_icmp_ne (tgt := 49) hx hb dX3_determinantOf_44 (by decide) (fun hc => ?_) (fun hc => ?_)
      · replace hv := hv.2 hc
        refine lv_iload hx hb dX3_determinantOf_49 (lv_at hl 0 rfl) ?_
        refine lv_iload hx hb dX3_determinantOf_51 (lv_at hl 1 rfl) ?_
        refine lv_icmp_eq (tgt := 71) hx hb dX3_determinantOf_53 (by decide) (fun hc => ?_) (fun hc => ?_)
        · replace hv := hv.1 hc
          refine lv_iload_n hx hb dX3_determinantOf_71 rfl (lv_at hl 2 rfl) ?_
          refine lv_aload_n hx hb dX3_determinantOf_72 rfl (lv_at hl 4 rfl) ?_
          refine va_get (D := g.1) (ci := 3) (v := .ref a_R_cells) (C := RX3) (T := TX3) (N := 1) hx hb hts cw_in_X3 hown hK.1 hP 1 rfl rfl 0 (by decide) (hts _ cw_f_X3_9) (fun _ h9 => h9) rfl dX3_determinantOf_73 ?_
          refine lv_iload hx hb dX3_determinantOf_76 (lv_at hl 1 rfl) ?_
          refine lv_iload hx hb dX3_determinantOf_78 (lv_at hl 1 rfl) ?_
          refine cx_iNr (As := [.int x4, .int x4]) (rest := [.ref a_R_cells, .int x3]) ⟨hx, hb, hml, hown, hts⟩ (cp_X4_cell l g x4 x4) (cx_cwN 2 hts (hK.2.at 5 rfl) cw_t_X4_cell cw_n_X4 cw_c_X4_cell rfl rfl (by decide +kernel) ⟨Nat.le_of_ble_eq_true rfl, Nat.le_of_ble_eq_true rfl⟩) hK hP hD hS hA [] rfl rfl rfl hl.1 rfl (Nat.le_of_ble_eq_true rfl) dX3_determinantOf_80 ⟨Nat.le_of_ble_eq_true rfl, Nat.le_of_ble_eq_true rfl⟩ (fun r_2 H locs hr9 hP hS => ?_)
          replace hr9 : r_2 = (f_cell x4 x4) := hr9
          subst hr9
          obtain ⟨h_3, hv⟩ := hv
          refine va_iald (D := g.1) hx hb hK.1 hP 3 0 rfl rfl h_3 dX3_determinantOf_83 ?_
          refine cx_iNr (As := [.int x3, .int (v_R_cells (Int32.toNatClampNeg (f_cell x4 x4)))]) (rest := []) ⟨hx, hb, hml, hown, hts⟩ (cp_X4_times l g x3 (v_R_cells (Int32.toNatClampNeg (f_cell x4 x4)))) (cx_cwN 2 hts (hK.2.at 7 rfl) cw_t_X4_times cw_n_X4 cw_c_X4_times rfl rfl (by decide +kernel) ⟨Nat.le_of_ble_eq_true rfl, Nat.le_of_ble_eq_true rfl⟩) hK hP hD hS hA [] rfl rfl rfl hl.1 rfl (Nat.le_of_ble_eq_true rfl) dX3_determinantOf_84 ⟨Nat.le_of_ble_eq_true rfl, Nat.le_of_ble_eq_true rfl⟩ (fun r_4 H locs hr9 hP hS => ?_)
          replace hr9 : r_4 = (f_times x3 (v_R_cells (Int32.toNatClampNeg (f_cell x4 x4)))) := hr9
          subst hr9
          refine lv_topi (fun x3_5 ex3_5 => ?_)
          replace hv := hv x3_5 ex3_5
          refine lv_istore_n (lv' := [(3, .int x3_5), (5, .int r_1), (4, .int x4), (2, .int x2), (0, .ref a_R), (1, .ref a_P)]) hx hb dX3_determinantOf_87 rfl hl (by decide) rfl (fun ls hl => ?_)
          refine lv_aload_n hx hb dX3_determinantOf_88 rfl (lv_at hl 4 rfl) ?_
          refine lv_iload hx hb dX3_determinantOf_89 (lv_at hl 2 rfl) ?_
          refine lv_iload_n hx hb dX3_determinantOf_91 rfl (lv_at hl 3 rfl) ?_
          refine cx_vV (wr := [(a_P, .inr (2, [.int P_rows, .ref a_P_entries, .ref a_P_order, .ref a_P_places, .ref a_P_rights, .ref a_P_weights])), (a_P_entries, .inl (g.2.1, 256, .inl P_entries))]) (As := [.int x4, .int x2]) (rest := []) ⟨hx, hb, hml, hown, hts⟩ (c_X3_clearBelow l g a_R a_R_cells x4 x2 v_R_cells hv) (cx_cwV 2 hts cw_m_X3_47 cw_i_X3_clearBelow cw_s_X3_clearBelow cw_n_X3 cw_c_X3_clearBelow rfl rfl (by decide +kernel) ⟨Nat.le_of_ble_eq_true rfl, Nat.le_of_ble_eq_true rfl⟩) hK hP hD hS hA 1 3 rfl rfl [1, 3] [0, 2] rfl rfl rfl rfl (by decide) rfl hl.1 rfl (Nat.le_of_ble_eq_true rfl) dX3_determinantOf_92 ⟨Nat.le_of_ble_eq_true rfl, Nat.le_of_ble_eq_true rfl⟩ (fun w_8 H locs hv hP hD hS => ?_)
          obtain ⟨u_7, rfl⟩ : ∃ z, z = w_8 := ⟨_, rfl⟩
          have hP : va_P g.1 vwCl [(a_P, .inr (2, [.int P_rows, .ref a_P_entries, .ref a_P_order, .ref a_P_places, .ref a_P_rights, .ref a_P_weights])), (a_R, .inr (3, [.ref a_R_cells])), (a_P_entries, .inl (g.2.1, 256, .inl P_entries)), (a_R_cells, .inl (g.2.1, 256, .inl u_7))] H := hP.sub [0, 2, 1, 3] rfl
          have hD : va_D A [(a_P, .inr (2, [.int P_rows, .ref a_P_entries, .ref a_P_order, .ref a_P_places, .ref a_P_rights, .ref a_P_weights])), (a_R, .inr (3, [.ref a_R_cells])), (a_P_entries, .inl (g.2.1, 256, .inl P_entries)), (a_R_cells, .inl (g.2.1, 256, .inl u_7))] := hD.sub [0, 2, 1, 3] (by decide) rfl
          obtain ⟨x4_9, ex4_9⟩ : ∃ y : Int32, y = x4 + 1 := ⟨_, rfl⟩
          replace hv := hv x4_9 ex4_9
          refine lv_iinc (v := x4_9) (lv' := [(4, .int x4_9), (3, .int x3_5), (5, .int r_1), (2, .int x2), (0, .ref a_R), (1, .ref a_P)]) hx hb dX3_determinantOf_95 hl (k := 2) rfl (by rw [ex4_9]; rfl) (by decide) rfl (fun ls hl => ?_)
          refine lv_goto (tgt := 26) hx hb dX3_determinantOf_98 (by decide) ?_
          exact hv _ _ _ hP hD hS (lv_sub hl [0, 1, 3, 4, 5] rfl)
        · replace hv := hv.2 hc
          refine lv_aload_n hx hb dX3_determinantOf_56 rfl (lv_at hl 4 rfl) ?_
          refine lv_iload hx hb dX3_determinantOf_57 (lv_at hl 0 rfl) ?_
          refine lv_iload hx hb dX3_determinantOf_59 (lv_at hl 1 rfl) ?_
          refine lv_iload_n hx hb dX3_determinantOf_61 rfl (lv_at hl 3 rfl) ?_
          refine cx_vV (wr := [(a_P, .inr (2, [.int P_rows, .ref a_P_entries, .ref a_P_order, .ref a_P_places, .ref a_P_rights, .ref a_P_weights])), (a_P_entries, .inl (g.2.1, 256, .inl P_entries))]) (As := [.int r_1, .int x4, .int x2]) (rest := []) ⟨hx, hb, hml, hown, hts⟩ (c_X3_exchangeRows l g a_R a_R_cells r_1 x4 x2 v_R_cells hv) (cx_cwV 3 hts cw_m_X3_34 cw_i_X3_exchangeRows cw_s_X3_exchangeRows cw_n_X3 cw_c_X3_exchangeRows rfl rfl (by decide +kernel) ⟨Nat.le_of_ble_eq_true rfl, Nat.le_of_ble_eq_true rfl⟩) hK hP hD hS hA 1 3 rfl rfl [1, 3] [0, 2] rfl rfl rfl rfl (by decide) rfl hl.1 rfl (Nat.le_of_ble_eq_true rfl) dX3_determinantOf_62 ⟨Nat.le_of_ble_eq_true rfl, Nat.le_of_ble_eq_true rfl⟩ (fun w_12 H locs hv hP hD hS => ?_)
          obtain ⟨u_11, rfl⟩ : ∃ z, z = w_12 := ⟨_, rfl⟩
          have hP : va_P g.1 vwCl [(a_P, .inr (2, [.int P_rows, .ref a_P_entries, .ref a_P_order, .ref a_P_places, .ref a_P_rights, .ref a_P_weights])), (a_R, .inr (3, [.ref a_R_cells])), (a_P_entries, .inl (g.2.1, 256, .inl P_entries)), (a_R_cells, .inl (g.2.1, 256, .inl u_11))] H := hP.sub [0, 2, 1, 3] rfl
          have hD : va_D A [(a_P, .inr (2, [.int P_rows, .ref a_P_entries, .ref a_P_order, .ref a_P_places, .ref a_P_rights, .ref a_P_weights])), (a_R, .inr (3, [.ref a_R_cells])), (a_P_entries, .inl (g.2.1, 256, .inl P_entries)), (a_R_cells, .inl (g.2.1, 256, .inl u_11))] := hD.sub [0, 2, 1, 3] (by decide) rfl
          refine lv_iconst (v := 0) hx hb dX3_determinantOf_65 (by decide) ?_
          refine lv_iload_n hx hb dX3_determinantOf_66 rfl (lv_at hl 2 rfl) ?_
          refine cx_iNr (As := [.int 0, .int x3]) (rest := []) ⟨hx, hb, hml, hown, hts⟩ (cp_X4_minus l g 0 x3) (cx_cwN 2 hts (hK.2.at 6 rfl) cw_t_X4_minus cw_n_X4 cw_c_X4_minus rfl rfl (by decide +kernel) ⟨Nat.le_of_ble_eq_true rfl, Nat.le_of_ble_eq_true rfl⟩) hK hP hD hS hA [] rfl rfl rfl hl.1 rfl (Nat.le_of_ble_eq_true rfl) dX3_determinantOf_67 ⟨Nat.le_of_ble_eq_true rfl, Nat.le_of_ble_eq_true rfl⟩ (fun r_13 H locs hr9 hP hS => ?_)
          replace hr9 : r_13 = (f_minus 0 x3) := hr9
          subst hr9
          refine lv_topi (fun x3_14 ex3_14 => ?_)
          replace hv := hv x3_14 ex3_14
          refine lv_istore_n (lv' := [(3, .int x3_14), (5, .int r_1), (4, .int x4), (2, .int x2), (0, .ref a_R), (1, .ref a_P)]) hx hb dX3_determinantOf_70 rfl hl (by decide) rfl (fun ls hl => ?_)
          refine lv_iload_n hx hb dX3_determinantOf_71 rfl (lv_at hl 0 rfl) ?_
          refine lv_aload_n hx hb dX3_determinantOf_72 rfl (lv_at hl 4 rfl) ?_
          refine va_get (D := g.1) (ci := 3) (v := .ref a_R_cells) (C := RX3) (T := TX3) (N := 1) hx hb hts cw_in_X3 hown hK.1 hP 1 rfl rfl 0 (by decide) (hts _ cw_f_X3_9) (fun _ h9 => h9) rfl dX3_determinantOf_73 ?_
          refine lv_iload hx hb dX3_determinantOf_76 (lv_at hl 2 rfl) ?_
          refine lv_iload hx hb dX3_determinantOf_78 (lv_at hl 2 rfl) ?_
          refine cx_iNr (As := [.int x4, .int x4]) (rest := [.ref a_R_cells, .int x3_14]) ⟨hx, hb, hml, hown, hts⟩ (cp_X4_cell l g x4 x4) (cx_cwN 2 hts (hK.2.at 5 rfl) cw_t_X4_cell cw_n_X4 cw_c_X4_cell rfl rfl (by decide +kernel) ⟨Nat.le_of_ble_eq_true rfl, Nat.le_of_ble_eq_true rfl⟩) hK hP hD hS hA [] rfl rfl rfl hl.1 rfl (Nat.le_of_ble_eq_true rfl) dX3_determinantOf_80 ⟨Nat.le_of_ble_eq_true rfl, Nat.le_of_ble_eq_true rfl⟩ (fun r_15 H locs hr9 hP hS => ?_)
          replace hr9 : r_15 = (f_cell x4 x4) := hr9
          subst hr9
          obtain ⟨h_16, hv⟩ := hv
          refine va_iald (D := g.1) hx hb hK.1 hP 3 0 rfl rfl h_16 dX3_determinantOf_83 ?_
          refine cx_iNr (As := [.int x3_14, .int (u_11 (Int32.toNatClampNeg (f_cell x4 x4)))]) (rest := []) ⟨hx, hb, hml, hown, hts⟩ (cp_X4_times l g x3_14 (u_11 (Int32.toNatClampNeg (f_cell x4 x4)))) (cx_cwN 2 hts (hK.2.at 7 rfl) cw_t_X4_times cw_n_X4 cw_c_X4_times rfl rfl (by decide +kernel) ⟨Nat.le_of_ble_eq_true rfl, Nat.le_of_ble_eq_true rfl⟩) hK hP hD hS hA [] rfl rfl rfl hl.1 rfl (Nat.le_of_ble_eq_true rfl) dX3_determinantOf_84 ⟨Nat.le_of_ble_eq_true rfl, Nat.le_of_ble_eq_true rfl⟩ (fun r_17 H locs hr9 hP hS => ?_)
          replace hr9 : r_17 = (f_times x3_14 (u_11 (Int32.toNatClampNeg (f_cell x4 x4)))) := hr9
          subst hr9
          refine lv_topi (fun x3_18 ex3_18 => ?_)
          replace hv := hv x3_18 ex3_18
          refine lv_istore_n (lv' := [(3, .int x3_18), (5, .int r_1), (4, .int x4), (2, .int x2), (0, .ref a_R), (1, .ref a_P)]) hx hb dX3_determinantOf_87 rfl hl (by decide) rfl (fun ls hl => ?_)
          refine lv_aload_n hx hb dX3_determinantOf_88 rfl (lv_at hl 4 rfl) ?_
          refine lv_iload hx hb dX3_determinantOf_89 (lv_at hl 2 rfl) ?_
          refine lv_iload_n hx hb dX3_determinantOf_91 rfl (lv_at hl 3 rfl) ?_
          refine cx_vV (wr := [(a_P, .inr (2, [.int P_rows, .ref a_P_entries, .ref a_P_order, .ref a_P_places, .ref a_P_rights, .ref a_P_weights])), (a_P_entries, .inl (g.2.1, 256, .inl P_entries))]) (As := [.int x4, .int x2]) (rest := []) ⟨hx, hb, hml, hown, hts⟩ (c_X3_clearBelow l g a_R a_R_cells x4 x2 u_11 hv) (cx_cwV 2 hts cw_m_X3_47 cw_i_X3_clearBelow cw_s_X3_clearBelow cw_n_X3 cw_c_X3_clearBelow rfl rfl (by decide +kernel) ⟨Nat.le_of_ble_eq_true rfl, Nat.le_of_ble_eq_true rfl⟩) hK hP hD hS hA 1 3 rfl rfl [1, 3] [0, 2] rfl rfl rfl rfl (by decide) rfl hl.1 rfl (Nat.le_of_ble_eq_true rfl) dX3_determinantOf_92 ⟨Nat.le_of_ble_eq_true rfl, Nat.le_of_ble_eq_true rfl⟩ (fun w_21 H locs hv hP hD hS => ?_)
          obtain ⟨u_20, rfl⟩ : ∃ z, z = w_21 := ⟨_, rfl⟩
          have hP : va_P g.1 vwCl [(a_P, .inr (2, [.int P_rows, .ref a_P_entries, .ref a_P_order, .ref a_P_places, .ref a_P_rights, .ref a_P_weights])), (a_R, .inr (3, [.ref a_R_cells])), (a_P_entries, .inl (g.2.1, 256, .inl P_entries)), (a_R_cells, .inl (g.2.1, 256, .inl u_20))] H := hP.sub [0, 2, 1, 3] rfl
          have hD : va_D A [(a_P, .inr (2, [.int P_rows, .ref a_P_entries, .ref a_P_order, .ref a_P_places, .ref a_P_rights, .ref a_P_weights])), (a_R, .inr (3, [.ref a_R_cells])), (a_P_entries, .inl (g.2.1, 256, .inl P_entries)), (a_R_cells, .inl (g.2.1, 256, .inl u_20))] := hD.sub [0, 2, 1, 3] (by decide) rfl
          obtain ⟨x4_22, ex4_22⟩ : ∃ y : Int32, y = x4 + 1 := ⟨_, rfl⟩
          replace hv := hv x4_22 ex4_22
          refine lv_iinc (v := x4_22) (lv' := [(4, .int x4_22), (3, .int x3_18), (5, .int r_1), (2, .int x2), (0, .ref a_R), (1, .ref a_P)]) hx hb dX3_determinantOf_95 hl (k := 2) rfl (by rw [ex4_22]; rfl) (by decide) rfl (fun ls hl => ?_)
          refine lv_goto (tgt := 26) hx hb dX3_determinantOf_98 (by decide) ?_
          exact hv _ _ _ hP hD hS (lv_sub hl [0, 1, 3, 4, 5] rfl)
      · replace hv := hv.1 hc
        refine lv_iconst (v := 0) hx hb dX3_determinantOf_47 (by decide) ?_
        exact cx_iret hx hb hr hlocks hAe hS v_R_cells hv hP hD dX3_determinantOf_48
  replace hv := hv G1 hs1
  rw [hG1] at hv
  unfold vc_X3_determinantOf_0 at hv
  refine lv_aload_n hx hb dX3_determinantOf_0 rfl (lv_at hl 1 rfl) ?_
  refine va_get (D := g.1) (ci := 2) (v := .int P_rows) (C := RX2) (T := TX2) (N := 6) hx hb hts cw_in_X2 hown hK.1 hP 0 rfl rfl 0 (by decide) (hts _ cw_f_X3_15) (fun _ h9 => h9) rfl dX3_determinantOf_1 ?_
  refine lv_istore_n (lv' := [(2, .int P_rows), (0, .ref a_R), (1, .ref a_P)]) hx hb dX3_determinantOf_4 rfl hl (by decide) rfl (fun ls hl => ?_)
  refine lv_aload_n hx hb dX3_determinantOf_5 rfl (lv_at hl 2 rfl) ?_
  refine va_get (D := g.1) (ci := 2) (v := .ref a_P_entries) (C := RX2) (T := TX2) (N := 6) hx hb hts cw_in_X2 hown hK.1 hP 0 rfl rfl 1 (by decide) (hts _ cw_f_X3_21) (fun _ h9 => h9) rfl dX3_determinantOf_6 ?_
  refine lv_iconst (v := 0) hx hb dX3_determinantOf_9 (by decide) ?_
  refine lv_aload_n hx hb dX3_determinantOf_10 rfl (lv_at hl 1 rfl) ?_
  refine va_get (D := g.1) (ci := 3) (v := .ref a_R_cells) (C := RX3) (T := TX3) (N := 1) hx hb hts cw_in_X3 hown hK.1 hP 1 rfl rfl 0 (by decide) (hts _ cw_f_X3_9) (fun _ h9 => h9) rfl dX3_determinantOf_11 ?_
  refine lv_iconst (v := 0) hx hb dX3_determinantOf_14 (by decide) ?_
  refine lv_sipush (v := 256) hx hb dX3_determinantOf_15 (by decide) ?_
  refine va_copyi (D := g.1) (ty := .int) hx hb (hml.trans hl.1.symm) hown (hts _ cw_m_X3_24) (hts _ cw_v_arraycopy) (hts _ cw_t_arraycopy) (hts _ cw_n_System) hK.1 hP hD hS 2 3 0 0 rfl rfl rfl rfl rfl (by decide) (by decide) (by decide) (by decide +kernel) (by decide +kernel) (fun _ _ => rfl) (Nat.le_of_ble_eq_true rfl) (Nat.le_of_ble_eq_true rfl) dX3_determinantOf_18 (fun H locs hP hD hS => ?_)
  have hP : va_P g.1 vwCl [(a_P, .inr (2, [.int P_rows, .ref a_P_entries, .ref a_P_order, .ref a_P_places, .ref a_P_rights, .ref a_P_weights])), (a_R, .inr (3, [.ref a_R_cells])), (a_P_entries, .inl (g.2.1, 256, .inl P_entries)), (a_R_cells, .inl (g.2.1, 256, .inl (va_cpy P_entries R_cells (Int32.toNatClampNeg 0) (Int32.toNatClampNeg 0) (Int32.toNatClampNeg 256))))] H := hP
  have hD : va_D A [(a_P, .inr (2, [.int P_rows, .ref a_P_entries, .ref a_P_order, .ref a_P_places, .ref a_P_rights, .ref a_P_weights])), (a_R, .inr (3, [.ref a_R_cells])), (a_P_entries, .inl (g.2.1, 256, .inl P_entries)), (a_R_cells, .inl (g.2.1, 256, .inl (va_cpy P_entries R_cells (Int32.toNatClampNeg 0) (Int32.toNatClampNeg 0) (Int32.toNatClampNeg 256))))] := hD
  refine lv_iconst (v := 1) hx hb dX3_determinantOf_21 (by decide) ?_
  refine lv_istore_n (lv' := [(3, .int 1), (2, .int P_rows), (0, .ref a_R), (1, .ref a_P)]) hx hb dX3_determinantOf_22 rfl hl (by decide) rfl (fun ls hl => ?_)
  refine lv_iconst (v := 0) hx hb dX3_determinantOf_23 (by decide) ?_
  refine lv_istore (lv' := [(4, .int 0), (3, .int 1), (2, .int P_rows), (0, .ref a_R), (1, .ref a_P)]) hx hb dX3_determinantOf_24 hl (by decide) rfl (fun ls hl => ?_)
  exact hv _ _ _ hP hD hS (lv_sub hl [0, 1, 2, 3, 4] rfl)
