def f_cell (i j : Int32) : Int32 := (i * 16) + j
def wp_X4_cell (i_i : Int32) (i_j : Int32) (Q : Int32 → Prop)   : Prop := Q ((i_i * 16) + i_j)
theorem pf_X4_cell (i_i : Int32) (i_j : Int32) : wp_X4_cell i_i i_j (fun r => r = f_cell i_i i_j) := rfl
abbrev w0_X4_cell (g : cx_G)  : va_W := []
set_option maxHeartbeats 4000000 in
set_option maxRecDepth 100000 in
theorem c_X4_cell (l : Launch) (g : cx_G) (i_i : Int32) (i_j : Int32) {Q : Int32 → Prop} (hv : wp_X4_cell i_i i_j Q) : cx_Mi l g yX4_cell (Cond.code yX4_cell cX4_cell 2 (some .int) :: cx_T) ({ frames := 0, cells := 0, slots := 0, locals := 0 } : Room) [.int i_i, .int i_j] (w0_X4_cell g  ) (fun (r : Int32) (_ : Unit) => Q r) (fun _ : Unit => (w0_X4_cell g  )) 0 0 := by
  intro sz
  refine Met.ofW (cc := cX4_cell) (maxL := 2) (ret := (some .int)) (by decide) rfl ?_
  intro p e s m args below meth c s₁ B hml hpre
  obtain ⟨rfl, hsz, hP, hK, hD0⟩ := hpre
  have hx := B.exec
  have hb := B.bytes
  have hr := B.returns
  have hts0 := atoms_spec (ws := (Cond.code yX4_cell cX4_cell 2 (some .int) :: cx_T)) B.pre
  have hts : ∀ w ∈ cx_T, w.before _ s = true := fun w h => hts0 w (List.mem_cons_of_mem _ h)
  have hown : s.vm.findClass RX4 = some m.cls := findClass_of_methodNamed B.named
  have hlocks := B.notSynchronized
  subst hsz
  have hD := hD0.self (sz := s.heap.size)
  obtain ⟨A, hAe⟩ : ∃ A : Nat → Prop, A = va_A (w0_X4_cell g  ) s.heap.size := ⟨_, rfl⟩
  rw [← hAe] at hD
  have hA : ∀ q : Nat, s.heap.size ≤ q → A q := fun q h => by rw [hAe]; exact Or.inr h
  have hS : va_S A s.heap s.heap [] := va_S.rf
  have hP : va_P g.1 vwCl [] s.heap := hP
  have hD : va_D A [] := hD
  have hl := lv_entry ([.int i_i, .int i_j]) (n := 2) (Nat.le_of_ble_eq_true rfl)
  rw [lg_entry_eq]
  generalize (lg_sl ([.int i_i, .int i_j]) ++ List.replicate (2 - (lg_sl ([.int i_i, .int i_j])).length) Slot.unset).toArray = ls at hl ⊢
  have hl : lv_has ls 2 [(0, .int i_i), (1, .int i_j)] := hl
  unfold wp_X4_cell at hv
  refine lv_iload_n hx hb dX4_cell_0 rfl (lv_at hl 0 rfl) ?_
  refine lv_bipush (v := 16) hx hb dX4_cell_1 (by decide) ?_
  refine lv_imul hx hb dX4_cell_3 ?_
  refine lv_iload_n hx hb dX4_cell_4 rfl (lv_at hl 1 rfl) ?_
  refine lv_iadd hx hb dX4_cell_5 ?_
  exact cx_iret hx hb hr hlocks hAe hS () hv hP hD dX4_cell_6
theorem cp_X4_cell (l : Launch) (g : cx_G) (i_i : Int32) (i_j : Int32) : cx_Mi l g yX4_cell (Cond.code yX4_cell cX4_cell 2 (some .int) :: cx_T) ({ frames := 0, cells := 0, slots := 0, locals := 0 } : Room) [.int i_i, .int i_j] (w0_X4_cell g  ) (fun (r : Int32) (_ : Unit) => r = f_cell i_i i_j) (fun _ : Unit => (w0_X4_cell g  )) 0 0 := c_X4_cell l g  i_i i_j (Q := fun r => r = f_cell i_i i_j) (pf_X4_cell i_i i_j)
def f_bit (i : Int32) : Int32 := 1 <<< (i &&& 31)
def wp_X4_bit (i_i : Int32) (Q : Int32 → Prop)   : Prop := Q (1 <<< (i_i &&& 31))
theorem pf_X4_bit (i_i : Int32) : wp_X4_bit i_i (fun r => r = f_bit i_i) := rfl
abbrev w0_X4_bit (g : cx_G)  : va_W := []
set_option maxHeartbeats 4000000 in
set_option maxRecDepth 100000 in
theorem c_X4_bit (l : Launch) (g : cx_G) (i_i : Int32) {Q : Int32 → Prop} (hv : wp_X4_bit i_i Q) : cx_Mi l g yX4_bit (Cond.code yX4_bit cX4_bit 1 (some .int) :: cx_T) ({ frames := 0, cells := 0, slots := 0, locals := 0 } : Room) [.int i_i] (w0_X4_bit g  ) (fun (r : Int32) (_ : Unit) => Q r) (fun _ : Unit => (w0_X4_bit g  )) 0 0 := by
  intro sz
  refine Met.ofW (cc := cX4_bit) (maxL := 1) (ret := (some .int)) (by decide) rfl ?_
  intro p e s m args below meth c s₁ B hml hpre
  obtain ⟨rfl, hsz, hP, hK, hD0⟩ := hpre
  have hx := B.exec
  have hb := B.bytes
  have hr := B.returns
  have hts0 := atoms_spec (ws := (Cond.code yX4_bit cX4_bit 1 (some .int) :: cx_T)) B.pre
  have hts : ∀ w ∈ cx_T, w.before _ s = true := fun w h => hts0 w (List.mem_cons_of_mem _ h)
  have hown : s.vm.findClass RX4 = some m.cls := findClass_of_methodNamed B.named
  have hlocks := B.notSynchronized
  subst hsz
  have hD := hD0.self (sz := s.heap.size)
  obtain ⟨A, hAe⟩ : ∃ A : Nat → Prop, A = va_A (w0_X4_bit g  ) s.heap.size := ⟨_, rfl⟩
  rw [← hAe] at hD
  have hA : ∀ q : Nat, s.heap.size ≤ q → A q := fun q h => by rw [hAe]; exact Or.inr h
  have hS : va_S A s.heap s.heap [] := va_S.rf
  have hP : va_P g.1 vwCl [] s.heap := hP
  have hD : va_D A [] := hD
  have hl := lv_entry ([.int i_i]) (n := 1) (Nat.le_of_ble_eq_true rfl)
  rw [lg_entry_eq]
  generalize (lg_sl ([.int i_i]) ++ List.replicate (1 - (lg_sl ([.int i_i])).length) Slot.unset).toArray = ls at hl ⊢
  have hl : lv_has ls 1 [(0, .int i_i)] := hl
  unfold wp_X4_bit at hv
  refine lv_iconst (v := 1) hx hb dX4_bit_0 (by decide) ?_
  refine lv_iload_n hx hb dX4_bit_1 rfl (lv_at hl 0 rfl) ?_
  refine lv_ishl hx hb dX4_bit_2 ?_
  exact cx_iret hx hb hr hlocks hAe hS () hv hP hD dX4_bit_3
theorem cp_X4_bit (l : Launch) (g : cx_G) (i_i : Int32) : cx_Mi l g yX4_bit (Cond.code yX4_bit cX4_bit 1 (some .int) :: cx_T) ({ frames := 0, cells := 0, slots := 0, locals := 0 } : Room) [.int i_i] (w0_X4_bit g  ) (fun (r : Int32) (_ : Unit) => r = f_bit i_i) (fun _ : Unit => (w0_X4_bit g  )) 0 0 := c_X4_bit l g  i_i (Q := fun r => r = f_bit i_i) (pf_X4_bit i_i)
def f_has (k i : Int32) : Int32 := if k &&& f_bit i = 0 then 0 else 1
def wp_X4_has (i_k : Int32) (i_i : Int32) (Q : Int32 → Prop)   : Prop := ((i_k &&& (f_bit i_i)) = 0 → (Q 0)) ∧ (¬ (i_k &&& (f_bit i_i)) = 0 → (Q 1))
theorem pf_X4_has (i_k : Int32) (i_i : Int32) : wp_X4_has i_k i_i (fun r => r = f_has i_k i_i) := ⟨fun h => by rw [f_has, if_pos h], fun h => by rw [f_has, if_neg h]⟩
abbrev w0_X4_has (g : cx_G)  : va_W := []
set_option maxHeartbeats 4000000 in
set_option maxRecDepth 100000 in
theorem c_X4_has (l : Launch) (g : cx_G) (i_k : Int32) (i_i : Int32) {Q : Int32 → Prop} (hv : wp_X4_has i_k i_i Q) : cx_Mi l g yX4_has (Cond.code yX4_has cX4_has 2 (some .boolean) :: cx_T) ({ frames := 1, cells := 0, slots := 0, locals := 20 } : Room) [.int i_k, .int i_i] (w0_X4_has g  ) (fun (r : Int32) (_ : Unit) => Q r) (fun _ : Unit => (w0_X4_has g  )) 0 0 := by
  intro sz
  refine Met.ofW (cc := cX4_has) (maxL := 2) (ret := (some .boolean)) (by decide) rfl ?_
  intro p e s m args below meth c s₁ B hml hpre
  obtain ⟨rfl, hsz, hP, hK, hD0⟩ := hpre
  have hx := B.exec
  have hb := B.bytes
  have hr := B.returns
  have hts0 := atoms_spec (ws := (Cond.code yX4_has cX4_has 2 (some .boolean) :: cx_T)) B.pre
  have hts : ∀ w ∈ cx_T, w.before _ s = true := fun w h => hts0 w (List.mem_cons_of_mem _ h)
  have hown : s.vm.findClass RX4 = some m.cls := findClass_of_methodNamed B.named
  have hlocks := B.notSynchronized
  subst hsz
  have hD := hD0.self (sz := s.heap.size)
  obtain ⟨A, hAe⟩ : ∃ A : Nat → Prop, A = va_A (w0_X4_has g  ) s.heap.size := ⟨_, rfl⟩
  rw [← hAe] at hD
  have hA : ∀ q : Nat, s.heap.size ≤ q → A q := fun q h => by rw [hAe]; exact Or.inr h
  have hS : va_S A s.heap s.heap [] := va_S.rf
  have hP : va_P g.1 vwCl [] s.heap := hP
  have hD : va_D A [] := hD
  have hl := lv_entry ([.int i_k, .int i_i]) (n := 2) (Nat.le_of_ble_eq_true rfl)
  rw [lg_entry_eq]
  generalize (lg_sl ([.int i_k, .int i_i]) ++ List.replicate (2 - (lg_sl ([.int i_k, .int i_i])).length) Slot.unset).toArray = ls at hl ⊢
  have hl : lv_has ls 2 [(0, .int i_k), (1, .int i_i)] := hl
  unfold wp_X4_has at hv
  refine lv_iload_n hx hb dX4_has_0 rfl (lv_at hl 0 rfl) ?_
  refine lv_iload_n hx hb dX4_has_1 rfl (lv_at hl 1 rfl) ?_
  refine cx_iSr (As := [.int i_i]) (rest := [.int i_k]) ⟨hx, hb, hml, hown, hts⟩ (cp_X4_bit l g i_i) (cx_cwS 1 hts cw_m_X4_222 cw_t_X4_bit cw_n_X4 cw_c_X4_bit rfl rfl (by decide +kernel) ⟨Nat.le_of_ble_eq_true rfl, Nat.le_of_ble_eq_true rfl⟩) hK hP hD hS hA [] rfl rfl rfl hl.1 rfl (Nat.le_of_ble_eq_true rfl) dX4_has_2 ⟨Nat.le_of_ble_eq_true rfl, Nat.le_of_ble_eq_true rfl⟩ (fun r_1 H locs hr9 hP hS => ?_)
  replace hr9 : r_1 = (f_bit i_i) := hr9
  subst hr9
  refine lv_iand hx hb dX4_has_5 ?_
  refine lv_if_eq (tgt := 13) hx hb dX4_has_6 (by decide) (fun hc => ?_) (fun hc => ?_)
  · replace hv := hv.1 hc
    refine lv_iconst (v := 0) hx hb dX4_has_13 (by decide) ?_
    exact cx_zret hx hb hr rfl hlocks hAe hS () hv hP hD dX4_has_14
  · replace hv := hv.2 hc
    refine lv_iconst (v := 1) hx hb dX4_has_9 (by decide) ?_
    refine lv_goto (tgt := 14) hx hb dX4_has_10 (by decide) ?_
    exact cx_zret hx hb hr rfl hlocks hAe hS () hv hP hD dX4_has_14
theorem cp_X4_has (l : Launch) (g : cx_G) (i_k : Int32) (i_i : Int32) : cx_Mi l g yX4_has (Cond.code yX4_has cX4_has 2 (some .boolean) :: cx_T) ({ frames := 1, cells := 0, slots := 0, locals := 20 } : Room) [.int i_k, .int i_i] (w0_X4_has g  ) (fun (r : Int32) (_ : Unit) => r = f_has i_k i_i) (fun _ : Unit => (w0_X4_has g  )) 0 0 := c_X4_has l g  i_k i_i (Q := fun r => r = f_has i_k i_i) (pf_X4_has i_k i_i)
def f_plus (a b : Int32) : Int32 := if a + b < 65521 then a + b else a + b - 65521
def wp_X4_plus (i_a : Int32) (i_b : Int32) (Q : Int32 → Prop)   : Prop := ∀ x2_1 : Int32, x2_1 = (i_a + i_b) → ((x2_1 < 65521 → (Q x2_1)) ∧ (¬ x2_1 < 65521 → (Q (x2_1 - 65521))))
theorem pf_X4_plus (i_a : Int32) (i_b : Int32) : wp_X4_plus i_a i_b (fun r => r = f_plus i_a i_b) := fun x hx => by subst hx; exact ⟨fun h => by rw [f_plus, if_pos h], fun h => by rw [f_plus, if_neg h]⟩
abbrev w0_X4_plus (g : cx_G)  : va_W := []
set_option maxHeartbeats 4000000 in
set_option maxRecDepth 100000 in
theorem c_X4_plus (l : Launch) (g : cx_G) (i_a : Int32) (i_b : Int32) {Q : Int32 → Prop} (hv : wp_X4_plus i_a i_b Q) : cx_Mi l g yX4_plus (Cond.code yX4_plus cX4_plus 3 (some .int) :: cx_T) ({ frames := 0, cells := 0, slots := 0, locals := 0 } : Room) [.int i_a, .int i_b] (w0_X4_plus g  ) (fun (r : Int32) (_ : Unit) => Q r) (fun _ : Unit => (w0_X4_plus g  )) 0 0 := by
  intro sz
  refine Met.ofW (cc := cX4_plus) (maxL := 3) (ret := (some .int)) (by decide) rfl ?_
  intro p e s m args below meth c s₁ B hml hpre
  obtain ⟨rfl, hsz, hP, hK, hD0⟩ := hpre
  have hx := B.exec
  have hb := B.bytes
  have hr := B.returns
  have hts0 := atoms_spec (ws := (Cond.code yX4_plus cX4_plus 3 (some .int) :: cx_T)) B.pre
  have hts : ∀ w ∈ cx_T, w.before _ s = true := fun w h => hts0 w (List.mem_cons_of_mem _ h)
  have hown : s.vm.findClass RX4 = some m.cls := findClass_of_methodNamed B.named
  have hlocks := B.notSynchronized
  subst hsz
  have hD := hD0.self (sz := s.heap.size)
  obtain ⟨A, hAe⟩ : ∃ A : Nat → Prop, A = va_A (w0_X4_plus g  ) s.heap.size := ⟨_, rfl⟩
  rw [← hAe] at hD
  have hA : ∀ q : Nat, s.heap.size ≤ q → A q := fun q h => by rw [hAe]; exact Or.inr h
  have hS : va_S A s.heap s.heap [] := va_S.rf
  have hP : va_P g.1 vwCl [] s.heap := hP
  have hD : va_D A [] := hD
  have hl := lv_entry ([.int i_a, .int i_b]) (n := 3) (Nat.le_of_ble_eq_true rfl)
  rw [lg_entry_eq]
  generalize (lg_sl ([.int i_a, .int i_b]) ++ List.replicate (3 - (lg_sl ([.int i_a, .int i_b])).length) Slot.unset).toArray = ls at hl ⊢
  have hl : lv_has ls 3 [(0, .int i_a), (1, .int i_b)] := hl
  unfold wp_X4_plus at hv
  refine lv_iload_n hx hb dX4_plus_0 rfl (lv_at hl 0 rfl) ?_
  refine lv_iload_n hx hb dX4_plus_1 rfl (lv_at hl 1 rfl) ?_
  refine lv_iadd hx hb dX4_plus_2 ?_
  refine lv_topi (fun x2_1 ex2_1 => ?_)
  replace hv := hv x2_1 ex2_1
  refine lv_istore_n (lv' := [(2, .int x2_1), (0, .int i_a), (1, .int i_b)]) hx hb dX4_plus_3 rfl hl (by decide) rfl (fun ls hl => ?_)
  refine lv_iload_n hx hb dX4_plus_4 rfl (lv_at hl 0 rfl) ?_
  refine lv_ldc hx hb hown (hts _ cw_k_X4_217) dX4_plus_5 ?_
  refine lv_icmp_lt (tgt := 17) hx hb dX4_plus_7 (by decide) (fun hc => ?_) (fun hc => ?_)
  · replace hv := hv.1 hc
    refine lv_iload_n hx hb dX4_plus_17 rfl (lv_at hl 0 rfl) ?_
    exact cx_iret hx hb hr hlocks hAe hS () hv hP hD dX4_plus_18
  · replace hv := hv.2 hc
    refine lv_iload_n hx hb dX4_plus_10 rfl (lv_at hl 0 rfl) ?_
    refine lv_ldc hx hb hown (hts _ cw_k_X4_217) dX4_plus_11 ?_
    refine lv_isub hx hb dX4_plus_13 ?_
    refine lv_goto (tgt := 18) hx hb dX4_plus_14 (by decide) ?_
    exact cx_iret hx hb hr hlocks hAe hS () hv hP hD dX4_plus_18
theorem cp_X4_plus (l : Launch) (g : cx_G) (i_a : Int32) (i_b : Int32) : cx_Mi l g yX4_plus (Cond.code yX4_plus cX4_plus 3 (some .int) :: cx_T) ({ frames := 0, cells := 0, slots := 0, locals := 0 } : Room) [.int i_a, .int i_b] (w0_X4_plus g  ) (fun (r : Int32) (_ : Unit) => r = f_plus i_a i_b) (fun _ : Unit => (w0_X4_plus g  )) 0 0 := c_X4_plus l g  i_a i_b (Q := fun r => r = f_plus i_a i_b) (pf_X4_plus i_a i_b)
def f_minus (a b : Int32) : Int32 := if 0 ≤ a - b then a - b else a - b + 65521
def wp_X4_minus (i_a : Int32) (i_b : Int32) (Q : Int32 → Prop)   : Prop := ∀ x2_1 : Int32, x2_1 = (i_a - i_b) → ((0 ≤ x2_1 → (Q x2_1)) ∧ (¬ 0 ≤ x2_1 → (Q (x2_1 + 65521))))
theorem pf_X4_minus (i_a : Int32) (i_b : Int32) : wp_X4_minus i_a i_b (fun r => r = f_minus i_a i_b) := fun x hx => by subst hx; exact ⟨fun h => by rw [f_minus, if_pos h], fun h => by rw [f_minus, if_neg h]⟩
abbrev w0_X4_minus (g : cx_G)  : va_W := []
set_option maxHeartbeats 4000000 in
set_option maxRecDepth 100000 in
theorem c_X4_minus (l : Launch) (g : cx_G) (i_a : Int32) (i_b : Int32) {Q : Int32 → Prop} (hv : wp_X4_minus i_a i_b Q) : cx_Mi l g yX4_minus (Cond.code yX4_minus cX4_minus 3 (some .int) :: cx_T) ({ frames := 0, cells := 0, slots := 0, locals := 0 } : Room) [.int i_a, .int i_b] (w0_X4_minus g  ) (fun (r : Int32) (_ : Unit) => Q r) (fun _ : Unit => (w0_X4_minus g  )) 0 0 := by
  intro sz
  refine Met.ofW (cc := cX4_minus) (maxL := 3) (ret := (some .int)) (by decide) rfl ?_
  intro p e s m args below meth c s₁ B hml hpre
  obtain ⟨rfl, hsz, hP, hK, hD0⟩ := hpre
  have hx := B.exec
  have hb := B.bytes
  have hr := B.returns
  have hts0 := atoms_spec (ws := (Cond.code yX4_minus cX4_minus 3 (some .int) :: cx_T)) B.pre
  have hts : ∀ w ∈ cx_T, w.before _ s = true := fun w h => hts0 w (List.mem_cons_of_mem _ h)
  have hown : s.vm.findClass RX4 = some m.cls := findClass_of_methodNamed B.named
  have hlocks := B.notSynchronized
  subst hsz
  have hD := hD0.self (sz := s.heap.size)
  obtain ⟨A, hAe⟩ : ∃ A : Nat → Prop, A = va_A (w0_X4_minus g  ) s.heap.size := ⟨_, rfl⟩
  rw [← hAe] at hD
  have hA : ∀ q : Nat, s.heap.size ≤ q → A q := fun q h => by rw [hAe]; exact Or.inr h
  have hS : va_S A s.heap s.heap [] := va_S.rf
  have hP : va_P g.1 vwCl [] s.heap := hP
  have hD : va_D A [] := hD
  have hl := lv_entry ([.int i_a, .int i_b]) (n := 3) (Nat.le_of_ble_eq_true rfl)
  rw [lg_entry_eq]
  generalize (lg_sl ([.int i_a, .int i_b]) ++ List.replicate (3 - (lg_sl ([.int i_a, .int i_b])).length) Slot.unset).toArray = ls at hl ⊢
  have hl : lv_has ls 3 [(0, .int i_a), (1, .int i_b)] := hl
  unfold wp_X4_minus at hv
  refine lv_iload_n hx hb dX4_minus_0 rfl (lv_at hl 0 rfl) ?_
  refine lv_iload_n hx hb dX4_minus_1 rfl (lv_at hl 1 rfl) ?_
  refine lv_isub hx hb dX4_minus_2 ?_
  refine lv_topi (fun x2_1 ex2_1 => ?_)
  replace hv := hv x2_1 ex2_1
  refine lv_istore_n (lv' := [(2, .int x2_1), (0, .int i_a), (1, .int i_b)]) hx hb dX4_minus_3 rfl hl (by decide) rfl (fun ls hl => ?_)
  refine lv_iload_n hx hb dX4_minus_4 rfl (lv_at hl 0 rfl) ?_
  refine lv_if_ge (tgt := 15) hx hb dX4_minus_5 (by decide) (fun hc => ?_) (fun hc => ?_)
  · replace hv := hv.1 hc
    refine lv_iload_n hx hb dX4_minus_15 rfl (lv_at hl 0 rfl) ?_
    exact cx_iret hx hb hr hlocks hAe hS () hv hP hD dX4_minus_16
  · replace hv := hv.2 hc
    refine lv_iload_n hx hb dX4_minus_8 rfl (lv_at hl 0 rfl) ?_
    refine lv_ldc hx hb hown (hts _ cw_k_X4_217) dX4_minus_9 ?_
    refine lv_iadd hx hb dX4_minus_11 ?_
    refine lv_goto (tgt := 16) hx hb dX4_minus_12 (by decide) ?_
    exact cx_iret hx hb hr hlocks hAe hS () hv hP hD dX4_minus_16
theorem cp_X4_minus (l : Launch) (g : cx_G) (i_a : Int32) (i_b : Int32) : cx_Mi l g yX4_minus (Cond.code yX4_minus cX4_minus 3 (some .int) :: cx_T) ({ frames := 0, cells := 0, slots := 0, locals := 0 } : Room) [.int i_a, .int i_b] (w0_X4_minus g  ) (fun (r : Int32) (_ : Unit) => r = f_minus i_a i_b) (fun _ : Unit => (w0_X4_minus g  )) 0 0 := c_X4_minus l g  i_a i_b (Q := fun r => r = f_minus i_a i_b) (pf_X4_minus i_a i_b)
def f_times (a b : Int32) : Int32 := Int64.toInt32 (((Int32.toInt64 a) * (Int32.toInt64 b)) - ((Int32.toInt64 a) * (Int32.toInt64 b)) / 65521 * 65521)
def wp_X4_times (i_a : Int32) (i_b : Int32) (Q : Int32 → Prop)   : Prop := Q (Int64.toInt32 (((Int32.toInt64 i_a) * (Int32.toInt64 i_b)) - ((Int32.toInt64 i_a) * (Int32.toInt64 i_b)) / 65521 * 65521))
theorem pf_X4_times (i_a : Int32) (i_b : Int32) : wp_X4_times i_a i_b (fun r => r = f_times i_a i_b) := rfl
abbrev w0_X4_times (g : cx_G)  : va_W := []
set_option maxHeartbeats 4000000 in
set_option maxRecDepth 100000 in
theorem c_X4_times (l : Launch) (g : cx_G) (i_a : Int32) (i_b : Int32) {Q : Int32 → Prop} (hv : wp_X4_times i_a i_b Q) : cx_Mi l g yX4_times (Cond.code yX4_times cX4_times 2 (some .int) :: cx_T) ({ frames := 0, cells := 0, slots := 0, locals := 0 } : Room) [.int i_a, .int i_b] (w0_X4_times g  ) (fun (r : Int32) (_ : Unit) => Q r) (fun _ : Unit => (w0_X4_times g  )) 0 0 := by
  intro sz
  refine Met.ofW (cc := cX4_times) (maxL := 2) (ret := (some .int)) (by decide) rfl ?_
  intro p e s m args below meth c s₁ B hml hpre
  obtain ⟨rfl, hsz, hP, hK, hD0⟩ := hpre
  have hx := B.exec
  have hb := B.bytes
  have hr := B.returns
  have hts0 := atoms_spec (ws := (Cond.code yX4_times cX4_times 2 (some .int) :: cx_T)) B.pre
  have hts : ∀ w ∈ cx_T, w.before _ s = true := fun w h => hts0 w (List.mem_cons_of_mem _ h)
  have hown : s.vm.findClass RX4 = some m.cls := findClass_of_methodNamed B.named
  have hlocks := B.notSynchronized
  subst hsz
  have hD := hD0.self (sz := s.heap.size)
  obtain ⟨A, hAe⟩ : ∃ A : Nat → Prop, A = va_A (w0_X4_times g  ) s.heap.size := ⟨_, rfl⟩
  rw [← hAe] at hD
  have hA : ∀ q : Nat, s.heap.size ≤ q → A q := fun q h => by rw [hAe]; exact Or.inr h
  have hS : va_S A s.heap s.heap [] := va_S.rf
  have hP : va_P g.1 vwCl [] s.heap := hP
  have hD : va_D A [] := hD
  have hl := lv_entry ([.int i_a, .int i_b]) (n := 2) (Nat.le_of_ble_eq_true rfl)
  rw [lg_entry_eq]
  generalize (lg_sl ([.int i_a, .int i_b]) ++ List.replicate (2 - (lg_sl ([.int i_a, .int i_b])).length) Slot.unset).toArray = ls at hl ⊢
  have hl : lv_has ls 2 [(0, .int i_a), (1, .int i_b)] := hl
  unfold wp_X4_times at hv
  refine lv_iload_n hx hb dX4_times_0 rfl (lv_at hl 0 rfl) ?_
  refine lv_i2l hx hb dX4_times_1 rfl ?_
  refine lv_iload_n hx hb dX4_times_2 rfl (lv_at hl 1 rfl) ?_
  refine lv_i2l hx hb dX4_times_3 rfl ?_
  refine lv_lmul hx hb dX4_times_4 ?_
  refine lv_ldc2 hx hb hown (hts _ cw_l_X4_225) dX4_times_5 ?_
  refine lv_lrem hx hb dX4_times_8 (by decide) ?_
  refine lv_l2i hx hb dX4_times_9 rfl ?_
  exact cx_iret hx hb hr hlocks hAe hS () hv hP hD dX4_times_10
theorem cp_X4_times (l : Launch) (g : cx_G) (i_a : Int32) (i_b : Int32) : cx_Mi l g yX4_times (Cond.code yX4_times cX4_times 2 (some .int) :: cx_T) ({ frames := 0, cells := 0, slots := 0, locals := 0 } : Room) [.int i_a, .int i_b] (w0_X4_times g  ) (fun (r : Int32) (_ : Unit) => r = f_times i_a i_b) (fun _ : Unit => (w0_X4_times g  )) 0 0 := c_X4_times l g  i_a i_b (Q := fun r => r = f_times i_a i_b) (pf_X4_times i_a i_b)
def f_mix (d x : Int64) : Int64 := (d * 31) + x
def wp_X4_mix (i_d : Int64) (i_x : Int64) (Q : Int64 → Prop)   : Prop := Q ((i_d * 31) + i_x)
theorem pf_X4_mix (i_d : Int64) (i_x : Int64) : wp_X4_mix i_d i_x (fun r => r = f_mix i_d i_x) := rfl
abbrev w0_X4_mix (g : cx_G)  : va_W := []
set_option maxHeartbeats 4000000 in
set_option maxRecDepth 100000 in
theorem c_X4_mix (l : Launch) (g : cx_G) (i_d : Int64) (i_x : Int64) {Q : Int64 → Prop} (hv : wp_X4_mix i_d i_x Q) : cx_Ml l g yX4_mix (Cond.code yX4_mix cX4_mix 4 (some .long) :: cx_T) ({ frames := 0, cells := 0, slots := 0, locals := 0 } : Room) [.long i_d, .long i_x] (w0_X4_mix g  ) (fun (r : Int64) (_ : Unit) => Q r) (fun _ : Unit => (w0_X4_mix g  )) 0 0 := by
  intro sz
  refine Met.ofW (cc := cX4_mix) (maxL := 4) (ret := (some .long)) (by decide) rfl ?_
  intro p e s m args below meth c s₁ B hml hpre
  obtain ⟨rfl, hsz, hP, hK, hD0⟩ := hpre
  have hx := B.exec
  have hb := B.bytes
  have hr := B.returns
  have hts0 := atoms_spec (ws := (Cond.code yX4_mix cX4_mix 4 (some .long) :: cx_T)) B.pre
  have hts : ∀ w ∈ cx_T, w.before _ s = true := fun w h => hts0 w (List.mem_cons_of_mem _ h)
  have hown : s.vm.findClass RX4 = some m.cls := findClass_of_methodNamed B.named
  have hlocks := B.notSynchronized
  subst hsz
  have hD := hD0.self (sz := s.heap.size)
  obtain ⟨A, hAe⟩ : ∃ A : Nat → Prop, A = va_A (w0_X4_mix g  ) s.heap.size := ⟨_, rfl⟩
  rw [← hAe] at hD
  have hA : ∀ q : Nat, s.heap.size ≤ q → A q := fun q h => by rw [hAe]; exact Or.inr h
  have hS : va_S A s.heap s.heap [] := va_S.rf
  have hP : va_P g.1 vwCl [] s.heap := hP
  have hD : va_D A [] := hD
  have hl := lv_entry ([.long i_d, .long i_x]) (n := 4) (Nat.le_of_ble_eq_true rfl)
  rw [lg_entry_eq]
  generalize (lg_sl ([.long i_d, .long i_x]) ++ List.replicate (4 - (lg_sl ([.long i_d, .long i_x])).length) Slot.unset).toArray = ls at hl ⊢
  have hl : lv_has ls 4 [(0, .long i_d), (2, .long i_x)] := hl
  unfold wp_X4_mix at hv
  refine lv_lload_n hx hb dX4_mix_0 rfl (lv_at hl 0 rfl) ?_
  refine lv_ldc2 hx hb hown (hts _ cw_l_X4_220) dX4_mix_1 ?_
  refine lv_lmul hx hb dX4_mix_4 ?_
  refine lv_lload_n hx hb dX4_mix_5 rfl (lv_at hl 1 rfl) ?_
  refine lv_ladd hx hb dX4_mix_6 ?_
  exact cx_lret hx hb hr hlocks hAe hS () hv hP hD dX4_mix_7
theorem cp_X4_mix (l : Launch) (g : cx_G) (i_d : Int64) (i_x : Int64) : cx_Ml l g yX4_mix (Cond.code yX4_mix cX4_mix 4 (some .long) :: cx_T) ({ frames := 0, cells := 0, slots := 0, locals := 0 } : Room) [.long i_d, .long i_x] (w0_X4_mix g  ) (fun (r : Int64) (_ : Unit) => r = f_mix i_d i_x) (fun _ : Unit => (w0_X4_mix g  )) 0 0 := c_X4_mix l g  i_d i_x (Q := fun r => r = f_mix i_d i_x) (pf_X4_mix i_d i_x)
def f_b1 (x : Int32) : Int32 := x - (((x).toUInt32 >>> (Int32.toUInt32 1 &&& Int32.toUInt32 31)).toInt32 &&& 1431655765)
def f_b2 (x : Int32) : Int32 := (x &&& 858993459) + (((x).toUInt32 >>> (Int32.toUInt32 2 &&& Int32.toUInt32 31)).toInt32 &&& 858993459)
def f_b3 (x : Int32) : Int32 := (x + ((x).toUInt32 >>> (Int32.toUInt32 4 &&& Int32.toUInt32 31)).toInt32) &&& 252645135
def f_b4 (x : Int32) : Int32 := x + ((x).toUInt32 >>> (Int32.toUInt32 8 &&& Int32.toUInt32 31)).toInt32
def f_b5 (x : Int32) : Int32 := x + ((x).toUInt32 >>> (Int32.toUInt32 16 &&& Int32.toUInt32 31)).toInt32
def f_bc (x : Int32) : Int32 := f_b5 (f_b4 (f_b3 (f_b2 (f_b1 x)))) &&& 63
def wp_J6_bitCount_0f7a4 (i_i : Int32) (Q : Int32 → Prop)   : Prop := ∀ x0_1 : Int32, x0_1 = (i_i - ((((i_i).toUInt32 >>> (Int32.toUInt32 1 &&& Int32.toUInt32 31)).toInt32) &&& 1431655765)) → (∀ x0_2 : Int32, x0_2 = ((x0_1 &&& 858993459) + ((((x0_1).toUInt32 >>> (Int32.toUInt32 2 &&& Int32.toUInt32 31)).toInt32) &&& 858993459)) → (∀ x0_3 : Int32, x0_3 = ((x0_2 + (((x0_2).toUInt32 >>> (Int32.toUInt32 4 &&& Int32.toUInt32 31)).toInt32)) &&& 252645135) → (∀ x0_4 : Int32, x0_4 = (x0_3 + (((x0_3).toUInt32 >>> (Int32.toUInt32 8 &&& Int32.toUInt32 31)).toInt32)) → (∀ x0_5 : Int32, x0_5 = (x0_4 + (((x0_4).toUInt32 >>> (Int32.toUInt32 16 &&& Int32.toUInt32 31)).toInt32)) → (Q (x0_5 &&& 63))))))
theorem pf_J6_bitCount_0f7a4 (i_i : Int32) : wp_J6_bitCount_0f7a4 i_i (fun r => r = f_bc i_i) := fun x1 h1 x2 h2 x3 h3 x4 h4 x5 h5 => by subst h1; subst h2; subst h3; subst h4; subst h5; rfl
abbrev w0_J6_bitCount_0f7a4 (g : cx_G)  : va_W := []
set_option maxHeartbeats 4000000 in
set_option maxRecDepth 100000 in
theorem c_J6_bitCount_0f7a4 (l : Launch) (g : cx_G) (i_i : Int32) {Q : Int32 → Prop} (hv : wp_J6_bitCount_0f7a4 i_i Q) : cx_Mi l g yJ6_bitCount_0f7a4 (Cond.code yJ6_bitCount_0f7a4 cJ6_bitCount_0f7a4 1 (some .int) :: cx_T) ({ frames := 0, cells := 0, slots := 0, locals := 0 } : Room) [.int i_i] (w0_J6_bitCount_0f7a4 g  ) (fun (r : Int32) (_ : Unit) => Q r) (fun _ : Unit => (w0_J6_bitCount_0f7a4 g  )) 0 0 := by
  intro sz
  refine Met.ofW (cc := cJ6_bitCount_0f7a4) (maxL := 1) (ret := (some .int)) (by decide) rfl ?_
  intro p e s m args below meth c s₁ B hml hpre
  obtain ⟨rfl, hsz, hP, hK, hD0⟩ := hpre
  have hx := B.exec
  have hb := B.bytes
  have hr := B.returns
  have hts0 := atoms_spec (ws := (Cond.code yJ6_bitCount_0f7a4 cJ6_bitCount_0f7a4 1 (some .int) :: cx_T)) B.pre
  have hts : ∀ w ∈ cx_T, w.before _ s = true := fun w h => hts0 w (List.mem_cons_of_mem _ h)
  have hown : s.vm.findClass RJ6 = some m.cls := findClass_of_methodNamed B.named
  have hlocks := B.notSynchronized
  subst hsz
  have hD := hD0.self (sz := s.heap.size)
  obtain ⟨A, hAe⟩ : ∃ A : Nat → Prop, A = va_A (w0_J6_bitCount_0f7a4 g  ) s.heap.size := ⟨_, rfl⟩
  rw [← hAe] at hD
  have hA : ∀ q : Nat, s.heap.size ≤ q → A q := fun q h => by rw [hAe]; exact Or.inr h
  have hS : va_S A s.heap s.heap [] := va_S.rf
  have hP : va_P g.1 vwCl [] s.heap := hP
  have hD : va_D A [] := hD
  have hl := lv_entry ([.int i_i]) (n := 1) (Nat.le_of_ble_eq_true rfl)
  rw [lg_entry_eq]
  generalize (lg_sl ([.int i_i]) ++ List.replicate (1 - (lg_sl ([.int i_i])).length) Slot.unset).toArray = ls at hl ⊢
  have hl : lv_has ls 1 [(0, .int i_i)] := hl
  unfold wp_J6_bitCount_0f7a4 at hv
  refine lv_iload_n hx hb dJ6_bitCount_0f7a4_0 rfl (lv_at hl 0 rfl) ?_
  refine lv_iload_n hx hb dJ6_bitCount_0f7a4_1 rfl (lv_at hl 0 rfl) ?_
  refine lv_iconst (v := 1) hx hb dJ6_bitCount_0f7a4_2 (by decide) ?_
  refine lv_iushr hx hb dJ6_bitCount_0f7a4_3 rfl ?_
  refine lv_ldcw hx hb hown (hts _ cw_k_J6_265) dJ6_bitCount_0f7a4_4 ?_
  refine lv_iand hx hb dJ6_bitCount_0f7a4_7 ?_
  refine lv_isub hx hb dJ6_bitCount_0f7a4_8 ?_
  refine lv_topi (fun x0_1 ex0_1 => ?_)
  replace hv := hv x0_1 ex0_1
  refine lv_istore_n (lv' := [(0, .int x0_1)]) hx hb dJ6_bitCount_0f7a4_9 rfl hl (by decide) rfl (fun ls hl => ?_)
  refine lv_iload_n hx hb dJ6_bitCount_0f7a4_10 rfl (lv_at hl 0 rfl) ?_
  refine lv_ldcw hx hb hown (hts _ cw_k_J6_266) dJ6_bitCount_0f7a4_11 ?_
  refine lv_iand hx hb dJ6_bitCount_0f7a4_14 ?_
  refine lv_iload_n hx hb dJ6_bitCount_0f7a4_15 rfl (lv_at hl 0 rfl) ?_
  refine lv_iconst (v := 2) hx hb dJ6_bitCount_0f7a4_16 (by decide) ?_
  refine lv_iushr hx hb dJ6_bitCount_0f7a4_17 rfl ?_
  refine lv_ldcw hx hb hown (hts _ cw_k_J6_266) dJ6_bitCount_0f7a4_18 ?_
  refine lv_iand hx hb dJ6_bitCount_0f7a4_21 ?_
  refine lv_iadd hx hb dJ6_bitCount_0f7a4_22 ?_
  refine lv_topi (fun x0_2 ex0_2 => ?_)
  replace hv := hv x0_2 ex0_2
  refine lv_istore_n (lv' := [(0, .int x0_2)]) hx hb dJ6_bitCount_0f7a4_23 rfl hl (by decide) rfl (fun ls hl => ?_)
  refine lv_iload_n hx hb dJ6_bitCount_0f7a4_24 rfl (lv_at hl 0 rfl) ?_
  refine lv_iload_n hx hb dJ6_bitCount_0f7a4_25 rfl (lv_at hl 0 rfl) ?_
  refine lv_iconst (v := 4) hx hb dJ6_bitCount_0f7a4_26 (by decide) ?_
  refine lv_iushr hx hb dJ6_bitCount_0f7a4_27 rfl ?_
  refine lv_iadd hx hb dJ6_bitCount_0f7a4_28 ?_
  refine lv_ldcw hx hb hown (hts _ cw_k_J6_267) dJ6_bitCount_0f7a4_29 ?_
  refine lv_iand hx hb dJ6_bitCount_0f7a4_32 ?_
  refine lv_topi (fun x0_3 ex0_3 => ?_)
  replace hv := hv x0_3 ex0_3
  refine lv_istore_n (lv' := [(0, .int x0_3)]) hx hb dJ6_bitCount_0f7a4_33 rfl hl (by decide) rfl (fun ls hl => ?_)
  refine lv_iload_n hx hb dJ6_bitCount_0f7a4_34 rfl (lv_at hl 0 rfl) ?_
  refine lv_iload_n hx hb dJ6_bitCount_0f7a4_35 rfl (lv_at hl 0 rfl) ?_
  refine lv_bipush (v := 8) hx hb dJ6_bitCount_0f7a4_36 (by decide) ?_
  refine lv_iushr hx hb dJ6_bitCount_0f7a4_38 rfl ?_
  refine lv_iadd hx hb dJ6_bitCount_0f7a4_39 ?_
  refine lv_topi (fun x0_4 ex0_4 => ?_)
  replace hv := hv x0_4 ex0_4
  refine lv_istore_n (lv' := [(0, .int x0_4)]) hx hb dJ6_bitCount_0f7a4_40 rfl hl (by decide) rfl (fun ls hl => ?_)
  refine lv_iload_n hx hb dJ6_bitCount_0f7a4_41 rfl (lv_at hl 0 rfl) ?_
  refine lv_iload_n hx hb dJ6_bitCount_0f7a4_42 rfl (lv_at hl 0 rfl) ?_
  refine lv_bipush (v := 16) hx hb dJ6_bitCount_0f7a4_43 (by decide) ?_
  refine lv_iushr hx hb dJ6_bitCount_0f7a4_45 rfl ?_
  refine lv_iadd hx hb dJ6_bitCount_0f7a4_46 ?_
  refine lv_topi (fun x0_5 ex0_5 => ?_)
  replace hv := hv x0_5 ex0_5
  refine lv_istore_n (lv' := [(0, .int x0_5)]) hx hb dJ6_bitCount_0f7a4_47 rfl hl (by decide) rfl (fun ls hl => ?_)
  refine lv_iload_n hx hb dJ6_bitCount_0f7a4_48 rfl (lv_at hl 0 rfl) ?_
  refine lv_bipush (v := 63) hx hb dJ6_bitCount_0f7a4_49 (by decide) ?_
  refine lv_iand hx hb dJ6_bitCount_0f7a4_51 ?_
  exact cx_iret hx hb hr hlocks hAe hS () hv hP hD dJ6_bitCount_0f7a4_52
theorem cp_J6_bitCount_0f7a4 (l : Launch) (g : cx_G) (i_i : Int32) : cx_Mi l g yJ6_bitCount_0f7a4 (Cond.code yJ6_bitCount_0f7a4 cJ6_bitCount_0f7a4 1 (some .int) :: cx_T) ({ frames := 0, cells := 0, slots := 0, locals := 0 } : Room) [.int i_i] (w0_J6_bitCount_0f7a4 g  ) (fun (r : Int32) (_ : Unit) => r = f_bc i_i) (fun _ : Unit => (w0_J6_bitCount_0f7a4 g  )) 0 0 := c_J6_bitCount_0f7a4 l g  i_i (Q := fun r => r = f_bc i_i) (pf_J6_bitCount_0f7a4 i_i)
/-- the residue to the powers 2^k, and to the low k bits of 65519 -/
def f_sq : Nat → Int32 → Int32
  | 0, a => a
  | k + 1, a => f_times (f_sq k a) (f_sq k a)
def f_rp : Nat → Int32 → Int32
  | 0, _ => 1
  | k + 1, a => if k = 4 then f_rp k a else f_times (f_rp k a) (f_sq k a)
def f_rec (a : Int32) : Int32 := f_rp 16 a
theorem f_rec_bit : ∀ k, k < 16 → (f_has 65519 (nI k) = 0 ↔ k = 4) := by decide +kernel
theorem f_rec_left : ∀ k, k < 16 → ¬ nI (65519 / 2 ^ k) ≤ 0 ∧ (nI (65519 / 2 ^ k) - nI (65519 / 2 ^ k) / 2 * 2 = 1 ↔ ¬ k = 4) ∧ nI (65519 / 2 ^ k) / 2 = nI (65519 / 2 ^ (k + 1)) := by decide +kernel
def vc_X4_reciprocal_0 (i_a : Int32) (Q : Int32 → Prop) (G1 : Int32 → Int32 → Int32 → Prop)  : Prop := G1 0 i_a 1
def vc_X4_reciprocal_1 (i_a : Int32) (Q : Int32 → Prop) (G1 : Int32 → Int32 → Int32 → Prop) (x3 : Int32) (x2 : Int32) (x1 : Int32) : Prop := (16 ≤ x3 → (Q x1)) ∧ (¬ 16 ≤ x3 → (((f_has 65519 x3) = 0 → (∀ x2_3 : Int32, x2_3 = (f_times x2 x2) → (∀ x3_4 : Int32, x3_4 = x3 + 1 → (G1 x3_4 x2_3 x1)))) ∧ (¬ (f_has 65519 x3) = 0 → (∀ x1_6 : Int32, x1_6 = (f_times x1 x2) → (∀ x2_8 : Int32, x2_8 = (f_times x2 x2) → (∀ x3_9 : Int32, x3_9 = x3 + 1 → (G1 x3_9 x2_8 x1_6)))))))
def wp_X4_reciprocal (i_a : Int32) (Q : Int32 → Prop) : Prop := ∀ (G1 : Int32 → Int32 → Int32 → Prop), (∀ (x3 : Int32) (x2 : Int32) (x1 : Int32), vc_X4_reciprocal_1 i_a Q G1 x3 x2 x1 → G1 x3 x2 x1) → vc_X4_reciprocal_0 i_a Q G1
theorem pf_X4_reciprocal (i_a : Int32) : wp_X4_reciprocal i_a (fun r => r = f_rec i_a) := by
  intro G1 h1
  have key : ∀ d k, k + d = 16 → ∀ x3 x1 x2 : Int32, x3 = nI k → x1 = f_rp k i_a → x2 = f_sq k i_a → G1 x3 x2 x1 := by
    intro d
    induction d with
    | zero =>
      intro k hk x3 x1 x2 e3 e1 e2
      refine h1 _ _ _ ⟨fun _ => ?_, fun c => absurd (show (16 : Int32) ≤ x3 from ?_) c⟩
      · rw [e1, show k = 16 by omega]; rfl
      · rw [e3, show k = 16 by omega]; decide
    | succ d ih =>
      intro k hk x3 x1 x2 e3 e1 e2
      refine h1 _ _ _ ⟨fun c => absurd c (by rw [e3]; exact nI_ge (b := 16) (by omega) (by omega)), fun _ => ⟨fun c => ?_, fun c => ?_⟩⟩
      · rw [e3, f_rec_bit k (by omega)] at c
        intro x hx y hy
        exact ih (k + 1) (by omega) _ _ _ (by rw [hy, e3]; exact nI_1 k) (by rw [e1, f_rp, if_pos c]) (by rw [hx, e2]; rfl)
      · rw [e3, f_rec_bit k (by omega)] at c
        intro z hz x hx y hy
        exact ih (k + 1) (by omega) _ _ _ (by rw [hy, e3]; exact nI_1 k) (by rw [hz, e1, e2, f_rp, if_neg c]) (by rw [hx, e2]; rfl)
  exact key 16 0 rfl _ _ _ rfl rfl rfl
abbrev w0_X4_reciprocal (g : cx_G)  : va_W := []
set_option maxHeartbeats 4000000 in
set_option maxRecDepth 100000 in
theorem c_X4_reciprocal (l : Launch) (g : cx_G) (i_a : Int32) {Q : Int32 → Prop} (hv : wp_X4_reciprocal i_a Q) : cx_Mi l g yX4_reciprocal (Cond.code yX4_reciprocal cX4_reciprocal 4 (some .int) :: cx_T) ({ frames := 2, cells := 0, slots := 0, locals := 41 } : Room) [.int i_a] (w0_X4_reciprocal g  ) (fun (r : Int32) (_ : Unit) => Q r) (fun _ : Unit => (w0_X4_reciprocal g  )) 0 0 := by
  intro sz
  refine Met.ofW (cc := cX4_reciprocal) (maxL := 4) (ret := (some .int)) (by decide) rfl ?_
  intro p e s m args below meth c s₁ B hml hpre
  obtain ⟨rfl, hsz, hP, hK, hD0⟩ := hpre
  have hx := B.exec
  have hb := B.bytes
  have hr := B.returns
  have hts0 := atoms_spec (ws := (Cond.code yX4_reciprocal cX4_reciprocal 4 (some .int) :: cx_T)) B.pre
  have hts : ∀ w ∈ cx_T, w.before _ s = true := fun w h => hts0 w (List.mem_cons_of_mem _ h)
  have hown : s.vm.findClass RX4 = some m.cls := findClass_of_methodNamed B.named
  have hlocks := B.notSynchronized
  subst hsz
  have hD := hD0.self (sz := s.heap.size)
  obtain ⟨A, hAe⟩ : ∃ A : Nat → Prop, A = va_A (w0_X4_reciprocal g  ) s.heap.size := ⟨_, rfl⟩
  rw [← hAe] at hD
  have hA : ∀ q : Nat, s.heap.size ≤ q → A q := fun q h => by rw [hAe]; exact Or.inr h
  have hS : va_S A s.heap s.heap [] := va_S.rf
  have hP : va_P g.1 vwCl [] s.heap := hP
  have hD : va_D A [] := hD
  have hl := lv_entry ([.int i_a]) (n := 4) (Nat.le_of_ble_eq_true rfl)
  rw [lg_entry_eq]
  generalize (lg_sl ([.int i_a]) ++ List.replicate (4 - (lg_sl ([.int i_a])).length) Slot.unset).toArray = ls at hl ⊢
  have hl : lv_has ls 4 [(0, .int i_a)] := hl
  obtain ⟨G1, hG1⟩ : ∃ G : Int32 → Int32 → Int32 → Prop, G = (fun (x3 : Int32) (x2 : Int32) (x1 : Int32) => ∀ (H : Heap) (locs : List Loc) (ls : Array Slot), va_P g.1 vwCl [] H → va_D A [] → va_S A s.heap H locs → lv_has ls 4 [(3, .int x3), (2, .int x2), (1, .int x1), (0, .int i_a)] → W p l e (headSpec (Cond.code yX4_reciprocal cX4_reciprocal 4 (some .int) :: cx_T) ({ frames := 2, cells := 0, slots := 0, locals := 41 } : Room)).room s m ([.int i_a] : List Value).toArray below meth c H locs 0 0 (MQ below (va_Qi (fun (r : Int32) (_ : Unit) => Q r) (cx_B g (w0_X4_reciprocal g  ) s.heap.size (fun _ : Unit => (w0_X4_reciprocal g  ))) (va_A (w0_X4_reciprocal g  ) s.heap.size)) ([.int i_a] : List Value).toArray s 0 0 (va_A (w0_X4_reciprocal g  ) s.heap.size)) (F0 m 6 ls [])) := ⟨_, rfl⟩
  have hs1 : ∀ (x3 : Int32) (x2 : Int32) (x1 : Int32), vc_X4_reciprocal_1 i_a Q G1 x3 x2 x1 → G1 x3 x2 x1 := by
    rw [hG1]
    intro x3 x2 x1 hv H locs ls hP hD hS hl
    unfold vc_X4_reciprocal_1 at hv
    refine lv_iload_n hx hb dX4_reciprocal_6 rfl (lv_at hl 0 rfl) ?_
    refine lv_bipush (v := 16) hx hb dX4_reciprocal_7 (by decide) ?_
    refine lv_icmp_ge (tgt := 39) hx hb dX4_reciprocal_9 (by decide) (fun hc => ?_) (fun hc => ?_)
    · replace hv := hv.1 hc
      refine lv_iload_n hx hb dX4_reciprocal_39 rfl (lv_at hl 2 rfl) ?_
      exact cx_iret hx hb hr hlocks hAe hS () hv hP hD dX4_reciprocal_40
    · replace hv := hv.2 hc
      refine lv_ldc hx hb hown (hts _ cw_k_X4_227) dX4_reciprocal_12 ?_
      refine lv_iload_n hx hb dX4_reciprocal_14 rfl (lv_at hl 0 rfl) ?_
      refine cx_iSr (As := [.int 65519, .int x3]) (rest := []) ⟨hx, hb, hml, hown, hts⟩ (cp_X4_has l g 65519 x3) (cx_cwS 2 hts cw_m_X4_133 cw_t_X4_has cw_n_X4 cw_c_X4_has rfl rfl (by decide +kernel) ⟨Nat.le_of_ble_eq_true rfl, Nat.le_of_ble_eq_true rfl⟩) hK hP hD hS hA [] rfl rfl rfl hl.1 rfl (Nat.le_of_ble_eq_true rfl) dX4_reciprocal_15 ⟨Nat.le_of_ble_eq_true rfl, Nat.le_of_ble_eq_true rfl⟩ (fun r_1 H locs hr9 hP hS => ?_)
      replace hr9 : r_1 = (f_has 65519 x3) := hr9
      subst hr9
      refine lv_if_eq (tgt := 27) hx hb dX4_reciprocal_18 (by decide) (fun hc => ?_) (fun hc => ?_)
      · replace hv := hv.1 hc
        refine lv_iload_n hx hb dX4_reciprocal_27 rfl (lv_at hl 1 rfl) ?_
        refine lv_iload_n hx hb dX4_reciprocal_28 rfl (lv_at hl 1 rfl) ?_
        refine cx_iSr (As := [.int x2, .int x2]) (rest := []) ⟨hx, hb, hml, hown, hts⟩ (cp_X4_times l g x2 x2) (cx_cwS 2 hts cw_m_X4_228 cw_t_X4_times cw_n_X4 cw_c_X4_times rfl rfl (by decide +kernel) ⟨Nat.le_of_ble_eq_true rfl, Nat.le_of_ble_eq_true rfl⟩) hK hP hD hS hA [] rfl rfl rfl hl.1 rfl (Nat.le_of_ble_eq_true rfl) dX4_reciprocal_29 ⟨Nat.le_of_ble_eq_true rfl, Nat.le_of_ble_eq_true rfl⟩ (fun r_2 H locs hr9 hP hS => ?_)
        replace hr9 : r_2 = (f_times x2 x2) := hr9
        subst hr9
        refine lv_topi (fun x2_3 ex2_3 => ?_)
        replace hv := hv x2_3 ex2_3
        refine lv_istore_n (lv' := [(2, .int x2_3), (3, .int x3), (1, .int x1), (0, .int i_a)]) hx hb dX4_reciprocal_32 rfl hl (by decide) rfl (fun ls hl => ?_)
        obtain ⟨x3_4, ex3_4⟩ : ∃ y : Int32, y = x3 + 1 := ⟨_, rfl⟩
        replace hv := hv x3_4 ex3_4
        refine lv_iinc (v := x3_4) (lv' := [(3, .int x3_4), (2, .int x2_3), (1, .int x1), (0, .int i_a)]) hx hb dX4_reciprocal_33 hl (k := 1) rfl (by rw [ex3_4]; rfl) (by decide) rfl (fun ls hl => ?_)
        refine lv_goto (tgt := 6) hx hb dX4_reciprocal_36 (by decide) ?_
        exact hv _ _ _ hP hD hS (lv_sub hl [0, 1, 2, 3] rfl)
      · replace hv := hv.2 hc
        refine lv_iload_n hx hb dX4_reciprocal_21 rfl (lv_at hl 2 rfl) ?_
        refine lv_iload_n hx hb dX4_reciprocal_22 rfl (lv_at hl 1 rfl) ?_
        refine cx_iSr (As := [.int x1, .int x2]) (rest := []) ⟨hx, hb, hml, hown, hts⟩ (cp_X4_times l g x1 x2) (cx_cwS 2 hts cw_m_X4_228 cw_t_X4_times cw_n_X4 cw_c_X4_times rfl rfl (by decide +kernel) ⟨Nat.le_of_ble_eq_true rfl, Nat.le_of_ble_eq_true rfl⟩) hK hP hD hS hA [] rfl rfl rfl hl.1 rfl (Nat.le_of_ble_eq_true rfl) dX4_reciprocal_23 ⟨Nat.le_of_ble_eq_true rfl, Nat.le_of_ble_eq_true rfl⟩ (fun r_5 H locs hr9 hP hS => ?_)
        replace hr9 : r_5 = (f_times x1 x2) := hr9
        subst hr9
        refine lv_topi (fun x1_6 ex1_6 => ?_)
        replace hv := hv x1_6 ex1_6
        refine lv_istore_n (lv' := [(1, .int x1_6), (3, .int x3), (2, .int x2), (0, .int i_a)]) hx hb dX4_reciprocal_26 rfl hl (by decide) rfl (fun ls hl => ?_)
        refine lv_iload_n hx hb dX4_reciprocal_27 rfl (lv_at hl 2 rfl) ?_
        refine lv_iload_n hx hb dX4_reciprocal_28 rfl (lv_at hl 2 rfl) ?_
        refine cx_iSr (As := [.int x2, .int x2]) (rest := []) ⟨hx, hb, hml, hown, hts⟩ (cp_X4_times l g x2 x2) (cx_cwS 2 hts cw_m_X4_228 cw_t_X4_times cw_n_X4 cw_c_X4_times rfl rfl (by decide +kernel) ⟨Nat.le_of_ble_eq_true rfl, Nat.le_of_ble_eq_true rfl⟩) hK hP hD hS hA [] rfl rfl rfl hl.1 rfl (Nat.le_of_ble_eq_true rfl) dX4_reciprocal_29 ⟨Nat.le_of_ble_eq_true rfl, Nat.le_of_ble_eq_true rfl⟩ (fun r_7 H locs hr9 hP hS => ?_)
        replace hr9 : r_7 = (f_times x2 x2) := hr9
        subst hr9
        refine lv_topi (fun x2_8 ex2_8 => ?_)
        replace hv := hv x2_8 ex2_8
        refine lv_istore_n (lv' := [(2, .int x2_8), (1, .int x1_6), (3, .int x3), (0, .int i_a)]) hx hb dX4_reciprocal_32 rfl hl (by decide) rfl (fun ls hl => ?_)
        obtain ⟨x3_9, ex3_9⟩ : ∃ y : Int32, y = x3 + 1 := ⟨_, rfl⟩
        replace hv := hv x3_9 ex3_9
        refine lv_iinc (v := x3_9) (lv' := [(3, .int x3_9), (2, .int x2_8), (1, .int x1_6), (0, .int i_a)]) hx hb dX4_reciprocal_33 hl (k := 2) rfl (by rw [ex3_9]; rfl) (by decide) rfl (fun ls hl => ?_)
        refine lv_goto (tgt := 6) hx hb dX4_reciprocal_36 (by decide) ?_
        exact hv _ _ _ hP hD hS (lv_sub hl [0, 1, 2, 3] rfl)
  replace hv := hv G1 hs1
  rw [hG1] at hv
  unfold vc_X4_reciprocal_0 at hv
  refine lv_iconst (v := 1) hx hb dX4_reciprocal_0 (by decide) ?_
  refine lv_istore_n (lv' := [(1, .int 1), (0, .int i_a)]) hx hb dX4_reciprocal_1 rfl hl (by decide) rfl (fun ls hl => ?_)
  refine lv_iload_n hx hb dX4_reciprocal_2 rfl (lv_at hl 1 rfl) ?_
  refine lv_istore_n (lv' := [(2, .int i_a), (1, .int 1), (0, .int i_a)]) hx hb dX4_reciprocal_3 rfl hl (by decide) rfl (fun ls hl => ?_)
  refine lv_iconst (v := 0) hx hb dX4_reciprocal_4 (by decide) ?_
  refine lv_istore_n (lv' := [(3, .int 0), (2, .int i_a), (1, .int 1), (0, .int i_a)]) hx hb dX4_reciprocal_5 rfl hl (by decide) rfl (fun ls hl => ?_)
  exact hv _ _ _ hP hD hS (lv_sub hl [0, 1, 2, 3] rfl)
theorem cp_X4_reciprocal (l : Launch) (g : cx_G) (i_a : Int32) : cx_Mi l g yX4_reciprocal (Cond.code yX4_reciprocal cX4_reciprocal 4 (some .int) :: cx_T) ({ frames := 2, cells := 0, slots := 0, locals := 41 } : Room) [.int i_a] (w0_X4_reciprocal g  ) (fun (r : Int32) (_ : Unit) => r = f_rec i_a) (fun _ : Unit => (w0_X4_reciprocal g  )) 0 0 := c_X4_reciprocal l g  i_a (Q := fun r => r = f_rec i_a) (pf_X4_reciprocal i_a)
def wp_X5_times (i_x : Int32) (i_y : Int32) (Q : Int32 → Prop)   : Prop := Q (Int64.toInt32 (((Int32.toInt64 i_x) * (Int32.toInt64 i_y)) - ((Int32.toInt64 i_x) * (Int32.toInt64 i_y)) / 65521 * 65521))
theorem pf_X5_times (i_x : Int32) (i_y : Int32) : wp_X5_times i_x i_y (fun r => r = f_times i_x i_y) := rfl
abbrev w0_X5_times (g : cx_G)  : va_W := []
set_option maxHeartbeats 4000000 in
set_option maxRecDepth 100000 in
theorem c_X5_times (l : Launch) (g : cx_G) (i_x : Int32) (i_y : Int32) {Q : Int32 → Prop} (hv : wp_X5_times i_x i_y Q) : cx_Mi l g yX5_times (Cond.code yX5_times cX5_times 2 (some .int) :: cx_T) ({ frames := 0, cells := 0, slots := 0, locals := 0 } : Room) [.int i_x, .int i_y] (w0_X5_times g  ) (fun (r : Int32) (_ : Unit) => Q r) (fun _ : Unit => (w0_X5_times g  )) 0 0 := by
  intro sz
  refine Met.ofW (cc := cX5_times) (maxL := 2) (ret := (some .int)) (by decide) rfl ?_
  intro p e s m args below meth c s₁ B hml hpre
  obtain ⟨rfl, hsz, hP, hK, hD0⟩ := hpre
  have hx := B.exec
  have hb := B.bytes
  have hr := B.returns
  have hts0 := atoms_spec (ws := (Cond.code yX5_times cX5_times 2 (some .int) :: cx_T)) B.pre
  have hts : ∀ w ∈ cx_T, w.before _ s = true := fun w h => hts0 w (List.mem_cons_of_mem _ h)
  have hown : s.vm.findClass RX5 = some m.cls := findClass_of_methodNamed B.named
  have hlocks := B.notSynchronized
  subst hsz
  have hD := hD0.self (sz := s.heap.size)
  obtain ⟨A, hAe⟩ : ∃ A : Nat → Prop, A = va_A (w0_X5_times g  ) s.heap.size := ⟨_, rfl⟩
  rw [← hAe] at hD
  have hA : ∀ q : Nat, s.heap.size ≤ q → A q := fun q h => by rw [hAe]; exact Or.inr h
  have hS : va_S A s.heap s.heap [] := va_S.rf
  have hP : va_P g.1 vwCl [] s.heap := hP
  have hD : va_D A [] := hD
  have hl := lv_entry ([.int i_x, .int i_y]) (n := 2) (Nat.le_of_ble_eq_true rfl)
  rw [lg_entry_eq]
  generalize (lg_sl ([.int i_x, .int i_y]) ++ List.replicate (2 - (lg_sl ([.int i_x, .int i_y])).length) Slot.unset).toArray = ls at hl ⊢
  have hl : lv_has ls 2 [(0, .int i_x), (1, .int i_y)] := hl
  unfold wp_X5_times at hv
  refine lv_iload_n hx hb dX5_times_0 rfl (lv_at hl 0 rfl) ?_
  refine lv_i2l hx hb dX5_times_1 rfl ?_
  refine lv_iload_n hx hb dX5_times_2 rfl (lv_at hl 1 rfl) ?_
  refine lv_i2l hx hb dX5_times_3 rfl ?_
  refine lv_lmul hx hb dX5_times_4 ?_
  refine lv_ldc2 hx hb hown (hts _ cw_l_X5_55) dX5_times_5 ?_
  refine lv_lrem hx hb dX5_times_8 (by decide) ?_
  refine lv_l2i hx hb dX5_times_9 rfl ?_
  exact cx_iret hx hb hr hlocks hAe hS () hv hP hD dX5_times_10
theorem cp_X5_times (l : Launch) (g : cx_G) (i_x : Int32) (i_y : Int32) : cx_Mi l g yX5_times (Cond.code yX5_times cX5_times 2 (some .int) :: cx_T) ({ frames := 0, cells := 0, slots := 0, locals := 0 } : Room) [.int i_x, .int i_y] (w0_X5_times g  ) (fun (r : Int32) (_ : Unit) => r = f_times i_x i_y) (fun _ : Unit => (w0_X5_times g  )) 0 0 := c_X5_times l g  i_x i_y (Q := fun r => r = f_times i_x i_y) (pf_X5_times i_x i_y)
def g_minus (x y : Int32) : Int32 := ((x - y) + 65521) - ((x - y) + 65521) / 65521 * 65521
def wp_X5_minus (i_x : Int32) (i_y : Int32) (Q : Int32 → Prop)   : Prop := Q (((i_x - i_y) + 65521) - ((i_x - i_y) + 65521) / 65521 * 65521)
theorem pf_X5_minus (i_x : Int32) (i_y : Int32) : wp_X5_minus i_x i_y (fun r => r = g_minus i_x i_y) := rfl
abbrev w0_X5_minus (g : cx_G)  : va_W := []
set_option maxHeartbeats 4000000 in
set_option maxRecDepth 100000 in
theorem c_X5_minus (l : Launch) (g : cx_G) (i_x : Int32) (i_y : Int32) {Q : Int32 → Prop} (hv : wp_X5_minus i_x i_y Q) : cx_Mi l g yX5_minus (Cond.code yX5_minus cX5_minus 2 (some .int) :: cx_T) ({ frames := 0, cells := 0, slots := 0, locals := 0 } : Room) [.int i_x, .int i_y] (w0_X5_minus g  ) (fun (r : Int32) (_ : Unit) => Q r) (fun _ : Unit => (w0_X5_minus g  )) 0 0 := by
  intro sz
  refine Met.ofW (cc := cX5_minus) (maxL := 2) (ret := (some .int)) (by decide) rfl ?_
  intro p e s m args below meth c s₁ B hml hpre
  obtain ⟨rfl, hsz, hP, hK, hD0⟩ := hpre
  have hx := B.exec
  have hb := B.bytes
  have hr := B.returns
  have hts0 := atoms_spec (ws := (Cond.code yX5_minus cX5_minus 2 (some .int) :: cx_T)) B.pre
  have hts : ∀ w ∈ cx_T, w.before _ s = true := fun w h => hts0 w (List.mem_cons_of_mem _ h)
  have hown : s.vm.findClass RX5 = some m.cls := findClass_of_methodNamed B.named
  have hlocks := B.notSynchronized
  subst hsz
  have hD := hD0.self (sz := s.heap.size)
  obtain ⟨A, hAe⟩ : ∃ A : Nat → Prop, A = va_A (w0_X5_minus g  ) s.heap.size := ⟨_, rfl⟩
  rw [← hAe] at hD
  have hA : ∀ q : Nat, s.heap.size ≤ q → A q := fun q h => by rw [hAe]; exact Or.inr h
  have hS : va_S A s.heap s.heap [] := va_S.rf
  have hP : va_P g.1 vwCl [] s.heap := hP
  have hD : va_D A [] := hD
  have hl := lv_entry ([.int i_x, .int i_y]) (n := 2) (Nat.le_of_ble_eq_true rfl)
  rw [lg_entry_eq]
  generalize (lg_sl ([.int i_x, .int i_y]) ++ List.replicate (2 - (lg_sl ([.int i_x, .int i_y])).length) Slot.unset).toArray = ls at hl ⊢
  have hl : lv_has ls 2 [(0, .int i_x), (1, .int i_y)] := hl
  unfold wp_X5_minus at hv
  refine lv_iload_n hx hb dX5_minus_0 rfl (lv_at hl 0 rfl) ?_
  refine lv_iload_n hx hb dX5_minus_1 rfl (lv_at hl 1 rfl) ?_
  refine lv_isub hx hb dX5_minus_2 ?_
  refine lv_ldc hx hb hown (hts _ cw_k_X5_54) dX5_minus_3 ?_
  refine lv_iadd hx hb dX5_minus_5 ?_
  refine lv_ldc hx hb hown (hts _ cw_k_X5_54) dX5_minus_6 ?_
  refine lv_irem hx hb dX5_minus_8 (by decide) ?_
  exact cx_iret hx hb hr hlocks hAe hS () hv hP hD dX5_minus_9
theorem cp_X5_minus (l : Launch) (g : cx_G) (i_x : Int32) (i_y : Int32) : cx_Mi l g yX5_minus (Cond.code yX5_minus cX5_minus 2 (some .int) :: cx_T) ({ frames := 0, cells := 0, slots := 0, locals := 0 } : Room) [.int i_x, .int i_y] (w0_X5_minus g  ) (fun (r : Int32) (_ : Unit) => r = g_minus i_x i_y) (fun _ : Unit => (w0_X5_minus g  )) 0 0 := c_X5_minus l g  i_x i_y (Q := fun r => r = g_minus i_x i_y) (pf_X5_minus i_x i_y)
def f_at (i j : Int32) : Int32 := (16 * i) + j
def wp_X5_at (i_i : Int32) (i_j : Int32) (Q : Int32 → Prop)   : Prop := Q ((16 * i_i) + i_j)
theorem pf_X5_at (i_i : Int32) (i_j : Int32) : wp_X5_at i_i i_j (fun r => r = f_at i_i i_j) := rfl
abbrev w0_X5_at (g : cx_G)  : va_W := []
set_option maxHeartbeats 4000000 in
set_option maxRecDepth 100000 in
theorem c_X5_at (l : Launch) (g : cx_G) (i_i : Int32) (i_j : Int32) {Q : Int32 → Prop} (hv : wp_X5_at i_i i_j Q) : cx_Mi l g yX5_at (Cond.code yX5_at cX5_at 2 (some .int) :: cx_T) ({ frames := 0, cells := 0, slots := 0, locals := 0 } : Room) [.int i_i, .int i_j] (w0_X5_at g  ) (fun (r : Int32) (_ : Unit) => Q r) (fun _ : Unit => (w0_X5_at g  )) 0 0 := by
  intro sz
  refine Met.ofW (cc := cX5_at) (maxL := 2) (ret := (some .int)) (by decide) rfl ?_
  intro p e s m args below meth c s₁ B hml hpre
  obtain ⟨rfl, hsz, hP, hK, hD0⟩ := hpre
  have hx := B.exec
  have hb := B.bytes
  have hr := B.returns
  have hts0 := atoms_spec (ws := (Cond.code yX5_at cX5_at 2 (some .int) :: cx_T)) B.pre
  have hts : ∀ w ∈ cx_T, w.before _ s = true := fun w h => hts0 w (List.mem_cons_of_mem _ h)
  have hown : s.vm.findClass RX5 = some m.cls := findClass_of_methodNamed B.named
  have hlocks := B.notSynchronized
  subst hsz
  have hD := hD0.self (sz := s.heap.size)
  obtain ⟨A, hAe⟩ : ∃ A : Nat → Prop, A = va_A (w0_X5_at g  ) s.heap.size := ⟨_, rfl⟩
  rw [← hAe] at hD
  have hA : ∀ q : Nat, s.heap.size ≤ q → A q := fun q h => by rw [hAe]; exact Or.inr h
  have hS : va_S A s.heap s.heap [] := va_S.rf
  have hP : va_P g.1 vwCl [] s.heap := hP
  have hD : va_D A [] := hD
  have hl := lv_entry ([.int i_i, .int i_j]) (n := 2) (Nat.le_of_ble_eq_true rfl)
  rw [lg_entry_eq]
  generalize (lg_sl ([.int i_i, .int i_j]) ++ List.replicate (2 - (lg_sl ([.int i_i, .int i_j])).length) Slot.unset).toArray = ls at hl ⊢
  have hl : lv_has ls 2 [(0, .int i_i), (1, .int i_j)] := hl
  unfold wp_X5_at at hv
  refine lv_bipush (v := 16) hx hb dX5_at_0 (by decide) ?_
  refine lv_iload_n hx hb dX5_at_2 rfl (lv_at hl 0 rfl) ?_
  refine lv_imul hx hb dX5_at_3 ?_
  refine lv_iload_n hx hb dX5_at_4 rfl (lv_at hl 1 rfl) ?_
  refine lv_iadd hx hb dX5_at_5 ?_
  exact cx_iret hx hb hr hlocks hAe hS () hv hP hD dX5_at_6
theorem cp_X5_at (l : Launch) (g : cx_G) (i_i : Int32) (i_j : Int32) : cx_Mi l g yX5_at (Cond.code yX5_at cX5_at 2 (some .int) :: cx_T) ({ frames := 0, cells := 0, slots := 0, locals := 0 } : Room) [.int i_i, .int i_j] (w0_X5_at g  ) (fun (r : Int32) (_ : Unit) => r = f_at i_i i_j) (fun _ : Unit => (w0_X5_at g  )) 0 0 := c_X5_at l g  i_i i_j (Q := fun r => r = f_at i_i i_j) (pf_X5_at i_i i_j)
def f_at17 (i j : Int32) : Int32 := (17 * i) + j
def wp_X5_cell (i_i : Int32) (i_j : Int32) (Q : Int32 → Prop)   : Prop := Q ((17 * i_i) + i_j)
theorem pf_X5_cell (i_i : Int32) (i_j : Int32) : wp_X5_cell i_i i_j (fun r => r = f_at17 i_i i_j) := rfl
abbrev w0_X5_cell (g : cx_G)  : va_W := []
set_option maxHeartbeats 4000000 in
set_option maxRecDepth 100000 in
theorem c_X5_cell (l : Launch) (g : cx_G) (i_i : Int32) (i_j : Int32) {Q : Int32 → Prop} (hv : wp_X5_cell i_i i_j Q) : cx_Mi l g yX5_cell (Cond.code yX5_cell cX5_cell 2 (some .int) :: cx_T) ({ frames := 0, cells := 0, slots := 0, locals := 0 } : Room) [.int i_i, .int i_j] (w0_X5_cell g  ) (fun (r : Int32) (_ : Unit) => Q r) (fun _ : Unit => (w0_X5_cell g  )) 0 0 := by
  intro sz
  refine Met.ofW (cc := cX5_cell) (maxL := 2) (ret := (some .int)) (by decide) rfl ?_
  intro p e s m args below meth c s₁ B hml hpre
  obtain ⟨rfl, hsz, hP, hK, hD0⟩ := hpre
  have hx := B.exec
  have hb := B.bytes
  have hr := B.returns
  have hts0 := atoms_spec (ws := (Cond.code yX5_cell cX5_cell 2 (some .int) :: cx_T)) B.pre
  have hts : ∀ w ∈ cx_T, w.before _ s = true := fun w h => hts0 w (List.mem_cons_of_mem _ h)
  have hown : s.vm.findClass RX5 = some m.cls := findClass_of_methodNamed B.named
  have hlocks := B.notSynchronized
  subst hsz
  have hD := hD0.self (sz := s.heap.size)
  obtain ⟨A, hAe⟩ : ∃ A : Nat → Prop, A = va_A (w0_X5_cell g  ) s.heap.size := ⟨_, rfl⟩
  rw [← hAe] at hD
  have hA : ∀ q : Nat, s.heap.size ≤ q → A q := fun q h => by rw [hAe]; exact Or.inr h
  have hS : va_S A s.heap s.heap [] := va_S.rf
  have hP : va_P g.1 vwCl [] s.heap := hP
  have hD : va_D A [] := hD
  have hl := lv_entry ([.int i_i, .int i_j]) (n := 2) (Nat.le_of_ble_eq_true rfl)
  rw [lg_entry_eq]
  generalize (lg_sl ([.int i_i, .int i_j]) ++ List.replicate (2 - (lg_sl ([.int i_i, .int i_j])).length) Slot.unset).toArray = ls at hl ⊢
  have hl : lv_has ls 2 [(0, .int i_i), (1, .int i_j)] := hl
  unfold wp_X5_cell at hv
  refine lv_bipush (v := 17) hx hb dX5_cell_0 (by decide) ?_
  refine lv_iload_n hx hb dX5_cell_2 rfl (lv_at hl 0 rfl) ?_
  refine lv_imul hx hb dX5_cell_3 ?_
  refine lv_iload_n hx hb dX5_cell_4 rfl (lv_at hl 1 rfl) ?_
  refine lv_iadd hx hb dX5_cell_5 ?_
  exact cx_iret hx hb hr hlocks hAe hS () hv hP hD dX5_cell_6
theorem cp_X5_cell (l : Launch) (g : cx_G) (i_i : Int32) (i_j : Int32) : cx_Mi l g yX5_cell (Cond.code yX5_cell cX5_cell 2 (some .int) :: cx_T) ({ frames := 0, cells := 0, slots := 0, locals := 0 } : Room) [.int i_i, .int i_j] (w0_X5_cell g  ) (fun (r : Int32) (_ : Unit) => r = f_at17 i_i i_j) (fun _ : Unit => (w0_X5_cell g  )) 0 0 := c_X5_cell l g  i_i i_j (Q := fun r => r = f_at17 i_i i_j) (pf_X5_cell i_i i_j)
def f_res (v : Int32) : Int32 := if 0 ≤ v ∧ v < 65521 then 1 else 0
def wp_X5_isResidue (i_v : Int32) (Q : Int32 → Prop)   : Prop := (i_v < 0 → (Q 0)) ∧ (¬ i_v < 0 → ((65521 ≤ i_v → (Q 0)) ∧ (¬ 65521 ≤ i_v → (Q 1))))
theorem pf_X5_isResidue (i_v : Int32) : wp_X5_isResidue i_v (fun r => r = f_res i_v) := ⟨fun h => by rw [f_res, if_neg (fun q => absurd q.1 (fun z => absurd h (Int32.not_lt.mpr z)))], fun h => ⟨fun h2 => by rw [f_res, if_neg (fun q => absurd q.2 (Int32.not_lt.mpr h2))], fun h2 => by rw [f_res, if_pos ⟨Int32.not_lt.mp h, Int32.not_le.mp h2⟩]⟩⟩
abbrev w0_X5_isResidue (g : cx_G)  : va_W := []
set_option maxHeartbeats 4000000 in
set_option maxRecDepth 100000 in
theorem c_X5_isResidue (l : Launch) (g : cx_G) (i_v : Int32) {Q : Int32 → Prop} (hv : wp_X5_isResidue i_v Q) : cx_Mi l g yX5_isResidue (Cond.code yX5_isResidue cX5_isResidue 1 (some .boolean) :: cx_T) ({ frames := 0, cells := 0, slots := 0, locals := 0 } : Room) [.int i_v] (w0_X5_isResidue g  ) (fun (r : Int32) (_ : Unit) => Q r) (fun _ : Unit => (w0_X5_isResidue g  )) 0 0 := by
  intro sz
  refine Met.ofW (cc := cX5_isResidue) (maxL := 1) (ret := (some .boolean)) (by decide) rfl ?_
  intro p e s m args below meth c s₁ B hml hpre
  obtain ⟨rfl, hsz, hP, hK, hD0⟩ := hpre
  have hx := B.exec
  have hb := B.bytes
  have hr := B.returns
  have hts0 := atoms_spec (ws := (Cond.code yX5_isResidue cX5_isResidue 1 (some .boolean) :: cx_T)) B.pre
  have hts : ∀ w ∈ cx_T, w.before _ s = true := fun w h => hts0 w (List.mem_cons_of_mem _ h)
  have hown : s.vm.findClass RX5 = some m.cls := findClass_of_methodNamed B.named
  have hlocks := B.notSynchronized
  subst hsz
  have hD := hD0.self (sz := s.heap.size)
  obtain ⟨A, hAe⟩ : ∃ A : Nat → Prop, A = va_A (w0_X5_isResidue g  ) s.heap.size := ⟨_, rfl⟩
  rw [← hAe] at hD
  have hA : ∀ q : Nat, s.heap.size ≤ q → A q := fun q h => by rw [hAe]; exact Or.inr h
  have hS : va_S A s.heap s.heap [] := va_S.rf
  have hP : va_P g.1 vwCl [] s.heap := hP
  have hD : va_D A [] := hD
  have hl := lv_entry ([.int i_v]) (n := 1) (Nat.le_of_ble_eq_true rfl)
  rw [lg_entry_eq]
  generalize (lg_sl ([.int i_v]) ++ List.replicate (1 - (lg_sl ([.int i_v])).length) Slot.unset).toArray = ls at hl ⊢
  have hl : lv_has ls 1 [(0, .int i_v)] := hl
  unfold wp_X5_isResidue at hv
  refine lv_iload_n hx hb dX5_isResidue_0 rfl (lv_at hl 0 rfl) ?_
  refine lv_if_lt (tgt := 14) hx hb dX5_isResidue_1 (by decide) (fun hc => ?_) (fun hc => ?_)
  · replace hv := hv.1 hc
    refine lv_iconst (v := 0) hx hb dX5_isResidue_14 (by decide) ?_
    exact cx_zret hx hb hr rfl hlocks hAe hS () hv hP hD dX5_isResidue_15
  · replace hv := hv.2 hc
    refine lv_iload_n hx hb dX5_isResidue_4 rfl (lv_at hl 0 rfl) ?_
    refine lv_ldc hx hb hown (hts _ cw_k_X5_54) dX5_isResidue_5 ?_
    refine lv_icmp_ge (tgt := 14) hx hb dX5_isResidue_7 (by decide) (fun hc => ?_) (fun hc => ?_)
    · replace hv := hv.1 hc
      refine lv_iconst (v := 0) hx hb dX5_isResidue_14 (by decide) ?_
      exact cx_zret hx hb hr rfl hlocks hAe hS () hv hP hD dX5_isResidue_15
    · replace hv := hv.2 hc
      refine lv_iconst (v := 1) hx hb dX5_isResidue_10 (by decide) ?_
      refine lv_goto (tgt := 15) hx hb dX5_isResidue_11 (by decide) ?_
      exact cx_zret hx hb hr rfl hlocks hAe hS () hv hP hD dX5_isResidue_15
theorem cp_X5_isResidue (l : Launch) (g : cx_G) (i_v : Int32) : cx_Mi l g yX5_isResidue (Cond.code yX5_isResidue cX5_isResidue 1 (some .boolean) :: cx_T) ({ frames := 0, cells := 0, slots := 0, locals := 0 } : Room) [.int i_v] (w0_X5_isResidue g  ) (fun (r : Int32) (_ : Unit) => r = f_res i_v) (fun _ : Unit => (w0_X5_isResidue g  )) 0 0 := c_X5_isResidue l g  i_v (Q := fun r => r = f_res i_v) (pf_X5_isResidue i_v)
def vc_X5_over_0 (i_a : Int32) (Q : Int32 → Prop) (G1 : Int32 → Int32 → Int32 → Prop)  : Prop := G1 65519 i_a 1
def vc_X5_over_1 (i_a : Int32) (Q : Int32 → Prop) (G1 : Int32 → Int32 → Int32 → Prop) (x3 : Int32) (x2 : Int32) (x1 : Int32) : Prop := (x3 ≤ 0 → (Q x1)) ∧ (¬ x3 ≤ 0 → (((x3 - x3 / 2 * 2) = 1 → (∀ x1_5 : Int32, x1_5 = (f_times x1 x2) → (∀ x2_7 : Int32, x2_7 = (f_times x2 x2) → (∀ x3_8 : Int32, x3_8 = (x3 / 2) → (G1 x3_8 x2_7 x1_5))))) ∧ (¬ (x3 - x3 / 2 * 2) = 1 → (∀ x2_2 : Int32, x2_2 = (f_times x2 x2) → (∀ x3_3 : Int32, x3_3 = (x3 / 2) → (G1 x3_3 x2_2 x1))))))
def wp_X5_over (i_a : Int32) (Q : Int32 → Prop) : Prop := ∀ (G1 : Int32 → Int32 → Int32 → Prop), (∀ (x3 : Int32) (x2 : Int32) (x1 : Int32), vc_X5_over_1 i_a Q G1 x3 x2 x1 → G1 x3 x2 x1) → vc_X5_over_0 i_a Q G1
theorem pf_X5_over (i_a : Int32) : wp_X5_over i_a (fun r => r = f_rec i_a) := by
  intro G1 h1
  have key : ∀ d k, k + d = 16 → ∀ x3 x1 x2 : Int32, x3 = nI (65519 / 2 ^ k) → x1 = f_rp k i_a → x2 = f_sq k i_a → G1 x3 x2 x1 := by
    intro d
    induction d with
    | zero =>
      intro k hk x3 x1 x2 e3 e1 e2
      refine h1 _ _ _ ⟨fun _ => ?_, fun c => absurd (show x3 ≤ 0 from ?_) c⟩
      · rw [e1, show k = 16 by omega]; rfl
      · rw [e3, show k = 16 by omega]; decide
    | succ d ih =>
      intro k hk x3 x1 x2 e3 e1 e2
      obtain ⟨q1, q2, q3⟩ := f_rec_left k (by omega)
      refine h1 _ _ _ ⟨fun c => absurd c (by rw [e3]; exact q1), fun _ => ⟨fun c => ?_, fun c => ?_⟩⟩
      · rw [e3, q2] at c
        intro z hz x hx y hy
        exact ih (k + 1) (by omega) _ _ _ (by rw [hy, e3]; exact q3) (by rw [hz, e1, e2, f_rp, if_neg c]) (by rw [hx, e2]; rfl)
      · rw [e3, q2, Decidable.not_not] at c
        intro x hx y hy
        exact ih (k + 1) (by omega) _ _ _ (by rw [hy, e3]; exact q3) (by rw [e1, f_rp, if_pos c]) (by rw [hx, e2]; rfl)
  exact key 16 0 rfl _ _ _ rfl rfl rfl
abbrev w0_X5_over (g : cx_G)  : va_W := []
set_option maxHeartbeats 4000000 in
set_option maxRecDepth 100000 in
theorem c_X5_over (l : Launch) (g : cx_G) (i_a : Int32) {Q : Int32 → Prop} (hv : wp_X5_over i_a Q) : cx_Mi l g yX5_over (Cond.code yX5_over cX5_over 4 (some .int) :: cx_T) ({ frames := 1, cells := 0, slots := 0, locals := 21 } : Room) [.int i_a] (w0_X5_over g  ) (fun (r : Int32) (_ : Unit) => Q r) (fun _ : Unit => (w0_X5_over g  )) 0 0 := by
  intro sz
  refine Met.ofW (cc := cX5_over) (maxL := 4) (ret := (some .int)) (by decide) rfl ?_
  intro p e s m args below meth c s₁ B hml hpre
  obtain ⟨rfl, hsz, hP, hK, hD0⟩ := hpre
  have hx := B.exec
  have hb := B.bytes
  have hr := B.returns
  have hts0 := atoms_spec (ws := (Cond.code yX5_over cX5_over 4 (some .int) :: cx_T)) B.pre
  have hts : ∀ w ∈ cx_T, w.before _ s = true := fun w h => hts0 w (List.mem_cons_of_mem _ h)
  have hown : s.vm.findClass RX5 = some m.cls := findClass_of_methodNamed B.named
  have hlocks := B.notSynchronized
  subst hsz
  have hD := hD0.self (sz := s.heap.size)
  obtain ⟨A, hAe⟩ : ∃ A : Nat → Prop, A = va_A (w0_X5_over g  ) s.heap.size := ⟨_, rfl⟩
  rw [← hAe] at hD
  have hA : ∀ q : Nat, s.heap.size ≤ q → A q := fun q h => by rw [hAe]; exact Or.inr h
  have hS : va_S A s.heap s.heap [] := va_S.rf
  have hP : va_P g.1 vwCl [] s.heap := hP
  have hD : va_D A [] := hD
  have hl := lv_entry ([.int i_a]) (n := 4) (Nat.le_of_ble_eq_true rfl)
  rw [lg_entry_eq]
  generalize (lg_sl ([.int i_a]) ++ List.replicate (4 - (lg_sl ([.int i_a])).length) Slot.unset).toArray = ls at hl ⊢
  have hl : lv_has ls 4 [(0, .int i_a)] := hl
  obtain ⟨G1, hG1⟩ : ∃ G : Int32 → Int32 → Int32 → Prop, G = (fun (x3 : Int32) (x2 : Int32) (x1 : Int32) => ∀ (H : Heap) (locs : List Loc) (ls : Array Slot), va_P g.1 vwCl [] H → va_D A [] → va_S A s.heap H locs → lv_has ls 4 [(3, .int x3), (2, .int x2), (1, .int x1), (0, .int i_a)] → W p l e (headSpec (Cond.code yX5_over cX5_over 4 (some .int) :: cx_T) ({ frames := 1, cells := 0, slots := 0, locals := 21 } : Room)).room s m ([.int i_a] : List Value).toArray below meth c H locs 0 0 (MQ below (va_Qi (fun (r : Int32) (_ : Unit) => Q r) (cx_B g (w0_X5_over g  ) s.heap.size (fun _ : Unit => (w0_X5_over g  ))) (va_A (w0_X5_over g  ) s.heap.size)) ([.int i_a] : List Value).toArray s 0 0 (va_A (w0_X5_over g  ) s.heap.size)) (F0 m 7 ls [])) := ⟨_, rfl⟩
  have hs1 : ∀ (x3 : Int32) (x2 : Int32) (x1 : Int32), vc_X5_over_1 i_a Q G1 x3 x2 x1 → G1 x3 x2 x1 := by
    rw [hG1]
    intro x3 x2 x1 hv H locs ls hP hD hS hl
    unfold vc_X5_over_1 at hv
    refine lv_iload_n hx hb dX5_over_7 rfl (lv_at hl 0 rfl) ?_
    refine lv_if_le (tgt := 37) hx hb dX5_over_8 (by decide) (fun hc => ?_) (fun hc => ?_)
    · replace hv := hv.1 hc
      refine lv_iload_n hx hb dX5_over_37 rfl (lv_at hl 2 rfl) ?_
      exact cx_iret hx hb hr hlocks hAe hS () hv hP hD dX5_over_38
    · replace hv := hv.2 hc
      refine lv_iload_n hx hb dX5_over_11 rfl (lv_at hl 0 rfl) ?_
      refine lv_iconst (v := 2) hx hb dX5_over_12 (by decide) ?_
      refine lv_irem hx hb dX5_over_13 (by decide) ?_
      refine lv_iconst (v := 1) hx hb dX5_over_14 (by decide) ?_
      refine lv_icmp_ne (tgt := 24) hx hb dX5_over_15 (by decide) (fun hc => ?_) (fun hc => ?_)
      · replace hv := hv.2 hc
        refine lv_iload_n hx hb dX5_over_24 rfl (lv_at hl 1 rfl) ?_
        refine lv_iload_n hx hb dX5_over_25 rfl (lv_at hl 1 rfl) ?_
        refine cx_iSr (As := [.int x2, .int x2]) (rest := []) ⟨hx, hb, hml, hown, hts⟩ (cp_X5_times l g x2 x2) (cx_cwS 2 hts cw_m_X5_58 cw_t_X5_times cw_n_X5 cw_c_X5_times rfl rfl (by decide +kernel) ⟨Nat.le_of_ble_eq_true rfl, Nat.le_of_ble_eq_true rfl⟩) hK hP hD hS hA [] rfl rfl rfl hl.1 rfl (Nat.le_of_ble_eq_true rfl) dX5_over_26 ⟨Nat.le_of_ble_eq_true rfl, Nat.le_of_ble_eq_true rfl⟩ (fun r_1 H locs hr9 hP hS => ?_)
        replace hr9 : r_1 = (f_times x2 x2) := hr9
        subst hr9
        refine lv_topi (fun x2_2 ex2_2 => ?_)
        replace hv := hv x2_2 ex2_2
        refine lv_istore_n (lv' := [(2, .int x2_2), (3, .int x3), (1, .int x1), (0, .int i_a)]) hx hb dX5_over_29 rfl hl (by decide) rfl (fun ls hl => ?_)
        refine lv_iload_n hx hb dX5_over_30 rfl (lv_at hl 1 rfl) ?_
        refine lv_iconst (v := 2) hx hb dX5_over_31 (by decide) ?_
        refine lv_idiv hx hb dX5_over_32 (by decide) ?_
        refine lv_topi (fun x3_3 ex3_3 => ?_)
        replace hv := hv x3_3 ex3_3
        refine lv_istore_n (lv' := [(3, .int x3_3), (2, .int x2_2), (1, .int x1), (0, .int i_a)]) hx hb dX5_over_33 rfl hl (by decide) rfl (fun ls hl => ?_)
        refine lv_goto (tgt := 7) hx hb dX5_over_34 (by decide) ?_
        exact hv _ _ _ hP hD hS (lv_sub hl [0, 1, 2, 3] rfl)
      · replace hv := hv.1 hc
        refine lv_iload_n hx hb dX5_over_18 rfl (lv_at hl 2 rfl) ?_
        refine lv_iload_n hx hb dX5_over_19 rfl (lv_at hl 1 rfl) ?_
        refine cx_iSr (As := [.int x1, .int x2]) (rest := []) ⟨hx, hb, hml, hown, hts⟩ (cp_X5_times l g x1 x2) (cx_cwS 2 hts cw_m_X5_58 cw_t_X5_times cw_n_X5 cw_c_X5_times rfl rfl (by decide +kernel) ⟨Nat.le_of_ble_eq_true rfl, Nat.le_of_ble_eq_true rfl⟩) hK hP hD hS hA [] rfl rfl rfl hl.1 rfl (Nat.le_of_ble_eq_true rfl) dX5_over_20 ⟨Nat.le_of_ble_eq_true rfl, Nat.le_of_ble_eq_true rfl⟩ (fun r_4 H locs hr9 hP hS => ?_)
        replace hr9 : r_4 = (f_times x1 x2) := hr9
        subst hr9
        refine lv_topi (fun x1_5 ex1_5 => ?_)
        replace hv := hv x1_5 ex1_5
        refine lv_istore_n (lv' := [(1, .int x1_5), (3, .int x3), (2, .int x2), (0, .int i_a)]) hx hb dX5_over_23 rfl hl (by decide) rfl (fun ls hl => ?_)
        refine lv_iload_n hx hb dX5_over_24 rfl (lv_at hl 2 rfl) ?_
        refine lv_iload_n hx hb dX5_over_25 rfl (lv_at hl 2 rfl) ?_
        refine cx_iSr (As := [.int x2, .int x2]) (rest := []) ⟨hx, hb, hml, hown, hts⟩ (cp_X5_times l g x2 x2) (cx_cwS 2 hts cw_m_X5_58 cw_t_X5_times cw_n_X5 cw_c_X5_times rfl rfl (by decide +kernel) ⟨Nat.le_of_ble_eq_true rfl, Nat.le_of_ble_eq_true rfl⟩) hK hP hD hS hA [] rfl rfl rfl hl.1 rfl (Nat.le_of_ble_eq_true rfl) dX5_over_26 ⟨Nat.le_of_ble_eq_true rfl, Nat.le_of_ble_eq_true rfl⟩ (fun r_6 H locs hr9 hP hS => ?_)
        replace hr9 : r_6 = (f_times x2 x2) := hr9
        subst hr9
        refine lv_topi (fun x2_7 ex2_7 => ?_)
        replace hv := hv x2_7 ex2_7
        refine lv_istore_n (lv' := [(2, .int x2_7), (1, .int x1_5), (3, .int x3), (0, .int i_a)]) hx hb dX5_over_29 rfl hl (by decide) rfl (fun ls hl => ?_)
        refine lv_iload_n hx hb dX5_over_30 rfl (lv_at hl 2 rfl) ?_
        refine lv_iconst (v := 2) hx hb dX5_over_31 (by decide) ?_
        refine lv_idiv hx hb dX5_over_32 (by decide) ?_
        refine lv_topi (fun x3_8 ex3_8 => ?_)
        replace hv := hv x3_8 ex3_8
        refine lv_istore_n (lv' := [(3, .int x3_8), (2, .int x2_7), (1, .int x1_5), (0, .int i_a)]) hx hb dX5_over_33 rfl hl (by decide) rfl (fun ls hl => ?_)
        refine lv_goto (tgt := 7) hx hb dX5_over_34 (by decide) ?_
        exact hv _ _ _ hP hD hS (lv_sub hl [0, 1, 2, 3] rfl)
  replace hv := hv G1 hs1
  rw [hG1] at hv
  unfold vc_X5_over_0 at hv
  refine lv_iconst (v := 1) hx hb dX5_over_0 (by decide) ?_
  refine lv_istore_n (lv' := [(1, .int 1), (0, .int i_a)]) hx hb dX5_over_1 rfl hl (by decide) rfl (fun ls hl => ?_)
  refine lv_iload_n hx hb dX5_over_2 rfl (lv_at hl 1 rfl) ?_
  refine lv_istore_n (lv' := [(2, .int i_a), (1, .int 1), (0, .int i_a)]) hx hb dX5_over_3 rfl hl (by decide) rfl (fun ls hl => ?_)
  refine lv_ldc hx hb hown (hts _ cw_k_X5_57) dX5_over_4 ?_
  refine lv_istore_n (lv' := [(3, .int 65519), (2, .int i_a), (1, .int 1), (0, .int i_a)]) hx hb dX5_over_6 rfl hl (by decide) rfl (fun ls hl => ?_)
  exact hv _ _ _ hP hD hS (lv_sub hl [0, 1, 2, 3] rfl)
theorem cp_X5_over (l : Launch) (g : cx_G) (i_a : Int32) : cx_Mi l g yX5_over (Cond.code yX5_over cX5_over 4 (some .int) :: cx_T) ({ frames := 1, cells := 0, slots := 0, locals := 21 } : Room) [.int i_a] (w0_X5_over g  ) (fun (r : Int32) (_ : Unit) => r = f_rec i_a) (fun _ : Unit => (w0_X5_over g  )) 0 0 := c_X5_over l g  i_a (Q := fun r => r = f_rec i_a) (pf_X5_over i_a)
