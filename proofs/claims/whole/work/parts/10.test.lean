def f_cell (i j : Int32) : Int32 := (i * 16) + j
def wp_X4_cell (i_i : Int32) (i_j : Int32) (Q : Int32 → Prop)   : Prop := Q ((i_i * 16) + i_j)
theorem pf_X4_cell (i_i : Int32) (i_j : Int32) : wp_X4_cell i_i i_j (fun r => r = f_cell i_i i_j) := rfl
abbrev w0_X4_cell (g : cx_G)  : va_W := []
set_option maxHeartbeats 4000000 in
set_option maxRecDepth 100000 in
theorem c_X4_cell (l : Launch) (g : cx_G) (i_i : Int32) (i_j : Int32) {Q : Int32 → Prop} (hv : wp_X4_cell i_i i_j Q) : cx_Mi l g yX4_cell (Cond.code yX4_cell cX4_cell 2 (some .int) :: cx_T) ({ frames := 0, cells := 0, slots := 0, locals := 0 } : Room) [.int i_i, .int i_j] (w0_X4_cell g  ) (fun (r : Int32) (_ : Unit) => Q r) (fun _ : Unit => (w0_X4_cell g  )) 0 0 := by
  intro sz
  refine Met.ofW (cc := cX4_cell) (maxL := 2) (ret := (some .int)) (by decide) rfl ?_
  intro p e s m args below meth c s₁ B hml hpre
  obtain ⟨rfl, hsz, hP, hK, hD0⟩ := hpre
  have hx := B.exec
  have hb := B.bytes
  have hr := B.returns
  have hts0 := atoms_spec (ws := (Cond.code yX4_cell cX4_cell 2 (some .int) :: cx_T)) B.pre
  have hts : ∀ w ∈ cx_T, w.before _ s = true := fun w h => hts0 w (List.mem_cons_of_mem _ h)
  have hown : s.vm.findClass RX4 = some m.cls := findClass_of_methodNamed B.named
  have hlocks := B.notSynchronized
  subst hsz
  have hD := hD0.self (sz := s.heap.size)
  obtain ⟨A, hAe⟩ : ∃ A : Nat → Prop, A = va_A (w0_X4_cell g  ) s.heap.size := ⟨_, rfl⟩
  rw [← hAe] at hD
  have hA : ∀ q : Nat, s.heap.size ≤ q → A q := fun q h => by rw [hAe]; exact Or.inr h
  have hS : va_S A s.heap s.heap [] := va_S.rf
  have hP : va_P g.1 vwCl [] s.heap := hP
  have hD : va_D A [] := hD
  have hl := lv_entry ([.int i_i, .int i_j]) (n := 2) (Nat.le_of_ble_eq_true rfl)
  rw [lg_entry_eq]
  generalize (lg_sl ([.int i_i, .int i_j]) ++ List.replicate (2 - (lg_sl ([.int i_i, .int i_j])).length) Slot.unset).toArray = ls at hl ⊢
  have hl : lv_has ls 2 [(0, .int i_i), (1, .int i_j)] := hl
  unfold wp_X4_cell at hv
  refine lv_iload_n hx hb dX4_cell_0 rfl (lv_at hl 0 rfl) ?_
  refine lv_bipush (v := 16) hx hb dX4_cell_1 (by decide) ?_
  refine lv_imul hx hb dX4_cell_3 ?_
  refine lv_iload_n hx hb dX4_cell_4 rfl (lv_at hl 1 rfl) ?_
  refine lv_iadd hx hb dX4_cell_5 ?_
  exact cx_iret hx hb hr hlocks hAe hS () hv hP hD dX4_cell_6
theorem cp_X4_cell (l : Launch) (g : cx_G) (i_i : Int32) (i_j : Int32) : cx_Mi l g yX4_cell (Cond.code yX4_cell cX4_cell 2 (some .int) :: cx_T) ({ frames := 0, cells := 0, slots := 0, locals := 0 } : Room) [.int i_i, .int i_j] (w0_X4_cell g  ) (fun (r : Int32) (_ : Unit) => r = f_cell i_i i_j) (fun _ : Unit => (w0_X4_cell g  )) 0 0 := c_X4_cell l g  i_i i_j (Q := fun r => r = f_cell i_i i_j) (pf_X4_cell i_i i_j)
def f_bit (i : Int32) : Int32 := 1 <<< (i &&& 31)
def wp_X4_bit (i_i : Int32) (Q : Int32 → Prop)   : Prop := Q (1 <<< (i_i &&& 31))
theorem pf_X4_bit (i_i : Int32) : wp_X4_bit i_i (fun r => r = f_bit i_i) := rfl
abbrev w0_X4_bit (g : cx_G)  : va_W := []
set_option maxHeartbeats 4000000 in
set_option maxRecDepth 100000 in
theorem c_X4_bit (l : Launch) (g : cx_G) (i_i : Int32) {Q : Int32 → Prop} (hv : wp_X4_bit i_i Q) : cx_Mi l g yX4_bit (Cond.code yX4_bit cX4_bit 1 (some .int) :: cx_T) ({ frames := 0, cells := 0, slots := 0, locals := 0 } : Room) [.int i_i] (w0_X4_bit g  ) (fun (r : Int32) (_ : Unit) => Q r) (fun _ : Unit => (w0_X4_bit g  )) 0 0 := by
  intro sz
  refine Met.ofW (cc := cX4_bit) (maxL := 1) (ret := (some .int)) (by decide) rfl ?_
  intro p e s m args below meth c s₁ B hml hpre
  obtain ⟨rfl, hsz, hP, hK, hD0⟩ := hpre
  have hx := B.exec
  have hb := B.bytes
  have hr := B.returns
  have hts0 := atoms_spec (ws := (Cond.code yX4_bit cX4_bit 1 (some .int) :: cx_T)) B.pre
  have hts : ∀ w ∈ cx_T, w.before _ s = true := fun w h => hts0 w (List.mem_cons_of_mem _ h)
  have hown : s.vm.findClass RX4 = some m.cls := findClass_of_methodNamed B.named
  have hlocks := B.notSynchronized
  subst hsz
  have hD := hD0.self (sz := s.heap.size)
  obtain ⟨A, hAe⟩ : ∃ A : Nat → Prop, A = va_A (w0_X4_bit g  ) s.heap.size := ⟨_, rfl⟩
  rw [← hAe] at hD
  have hA : ∀ q : Nat, s.heap.size ≤ q → A q := fun q h => by rw [hAe]; exact Or.inr h
  have hS : va_S A s.heap s.heap [] := va_S.rf
  have hP : va_P g.1 vwCl [] s.heap := hP
  have hD : va_D A [] := hD
  have hl := lv_entry ([.int i_i]) (n := 1) (Nat.le_of_ble_eq_true rfl)
  rw [lg_entry_eq]
  generalize (lg_sl ([.int i_i]) ++ List.replicate (1 - (lg_sl ([.int i_i])).length) Slot.unset).toArray = ls at hl ⊢
  have hl : lv_has ls 1 [(0, .int i_i)] := hl
  unfold wp_X4_bit at hv
  refine lv_iconst (v := 1) hx hb dX4_bit_0 (by decide) ?_
  refine lv_iload_n hx hb dX4_bit_1 rfl (lv_at hl 0 rfl) ?_
  refine lv_ishl hx hb dX4_bit_2 ?_
  exact cx_iret hx hb hr hlocks hAe hS () hv hP hD dX4_bit_3
theorem cp_X4_bit (l : Launch) (g : cx_G) (i_i : Int32) : cx_Mi l g yX4_bit (Cond.code yX4_bit cX4_bit 1 (some .int) :: cx_T) ({ frames := 0, cells := 0, slots := 0, locals := 0 } : Room) [.int i_i] (w0_X4_bit g  ) (fun (r : Int32) (_ : Unit) => r = f_bit i_i) (fun _ : Unit => (w0_X4_bit g  )) 0 0 := c_X4_bit l g  i_i (Q := fun r => r = f_bit i_i) (pf_X4_bit i_i)
def f_has (k i : Int32) : Int32 := if k &&& f_bit i = 0 then 0 else 1
def wp_X4_has (i_k : Int32) (i_i : Int32) (Q : Int32 → Prop)   : Prop := ((i_k &&& (f_bit i_i)) = 0 → (Q 0)) ∧ (¬ (i_k &&& (f_bit i_i)) = 0 → (Q 1))
theorem pf_X4_has (i_k : Int32) (i_i : Int32) : wp_X4_has i_k i_i (fun r => r = f_has i_k i_i) := ⟨fun h => by rw [f_has, if_pos h], fun h => by rw [f_has, if_neg h]⟩
abbrev w0_X4_has (g : cx_G)  : va_W := []
set_option maxHeartbeats 4000000 in
set_option maxRecDepth 100000 in
theorem c_X4_has (l : Launch) (g : cx_G) (i_k : Int32) (i_i : Int32) {Q : Int32 → Prop} (hv : wp_X4_has i_k i_i Q) : cx_Mi l g yX4_has (Cond.code yX4_has cX4_has 2 (some .boolean) :: cx_T) ({ frames := 1, cells := 0, slots := 0, locals := 20 } : Room) [.int i_k, .int i_i] (w0_X4_has g  ) (fun (r : Int32) (_ : Unit) => Q r) (fun _ : Unit => (w0_X4_has g  )) 0 0 := by
  intro sz
  refine Met.ofW (cc := cX4_has) (maxL := 2) (ret := (some .boolean)) (by decide) rfl ?_
  intro p e s m args below meth c s₁ B hml hpre
  obtain ⟨rfl, hsz, hP, hK, hD0⟩ := hpre
  have hx := B.exec
  have hb := B.bytes
  have hr := B.returns
  have hts0 := atoms_spec (ws := (Cond.code yX4_has cX4_has 2 (some .boolean) :: cx_T)) B.pre
  have hts : ∀ w ∈ cx_T, w.before _ s = true := fun w h => hts0 w (List.mem_cons_of_mem _ h)
  have hown : s.vm.findClass RX4 = some m.cls := findClass_of_methodNamed B.named
  have hlocks := B.notSynchronized
  subst hsz
  have hD := hD0.self (sz := s.heap.size)
  obtain ⟨A, hAe⟩ : ∃ A : Nat → Prop, A = va_A (w0_X4_has g  ) s.heap.size := ⟨_, rfl⟩
  rw [← hAe] at hD
  have hA : ∀ q : Nat, s.heap.size ≤ q → A q := fun q h => by rw [hAe]; exact Or.inr h
  have hS : va_S A s.heap s.heap [] := va_S.rf
  have hP : va_P g.1 vwCl [] s.heap := hP
  have hD : va_D A [] := hD
  have hl := lv_entry ([.int i_k, .int i_i]) (n := 2) (Nat.le_of_ble_eq_true rfl)
  rw [lg_entry_eq]
  generalize (lg_sl ([.int i_k, .int i_i]) ++ List.replicate (2 - (lg_sl ([.int i_k, .int i_i])).length) Slot.unset).toArray = ls at hl ⊢
  have hl : lv_has ls 2 [(0, .int i_k), (1, .int i_i)] := hl
  unfold wp_X4_has at hv
  refine lv_iload_n hx hb dX4_has_0 rfl (lv_at hl 0 rfl) ?_
  refine lv_iload_n hx hb dX4_has_1 rfl (lv_at hl 1 rfl) ?_
  refine cx_iSr (As := [.int i_i]) (rest := [.int i_k]) ⟨hx, hb, hml, hown, hts⟩ (cp_X4_bit l g i_i) (cx_cwS 1 hts cw_m_X4_222 cw_t_X4_bit cw_n_X4 cw_c_X4_bit rfl rfl (by decide +kernel) ⟨Nat.le_of_ble_eq_true rfl, Nat.le_of_ble_eq_true rfl⟩) hK hP hD hS hA [] rfl rfl rfl hl.1 rfl (Nat.le_of_ble_eq_true rfl) dX4_has_2 ⟨Nat.le_of_ble_eq_true rfl, Nat.le_of_ble_eq_true rfl⟩ (fun r_1 H locs hr9 hP hS => ?_)
  replace hr9 : r_1 = (f_bit i_i) := hr9
  subst hr9
  refine lv_iand hx hb dX4_has_5 ?_
  refine lv_if_eq (tgt := 13) hx hb dX4_has_6 (by decide) (fun hc => ?_) (fun hc => ?_)
  · replace hv := hv.1 hc
    refine lv_iconst (v := 0) hx hb dX4_has_13 (by decide) ?_
    exact cx_zret hx hb hr rfl hlocks hAe hS () hv hP hD dX4_has_14
  · replace hv := hv.2 hc
    refine lv_iconst (v := 1) hx hb dX4_has_9 (by decide) ?_
    refine lv_goto (tgt := 14) hx hb dX4_has_10 (by decide) ?_
    exact cx_zret hx hb hr rfl hlocks hAe hS () hv hP hD dX4_has_14
theorem cp_X4_has (l : Launch) (g : cx_G) (i_k : Int32) (i_i : Int32) : cx_Mi l g yX4_has (Cond.code yX4_has cX4_has 2 (some .boolean) :: cx_T) ({ frames := 1, cells := 0, slots := 0, locals := 20 } : Room) [.int i_k, .int i_i] (w0_X4_has g  ) (fun (r : Int32) (_ : Unit) => r = f_has i_k i_i) (fun _ : Unit => (w0_X4_has g  )) 0 0 := c_X4_has l g  i_k i_i (Q := fun r => r = f_has i_k i_i) (pf_X4_has i_k i_i)
def f_plus (a b : Int32) : Int32 := if a + b < 65521 then a + b else a + b - 65521
def wp_X4_plus (i_a : Int32) (i_b : Int32) (Q : Int32 → Prop)   : Prop := ∀ x2_1 : Int32, x2_1 = (i_a + i_b) → ((x2_1 < 65521 → (Q x2_1)) ∧ (¬ x2_1 < 65521 → (Q (x2_1 - 65521))))
theorem pf_X4_plus (i_a : Int32) (i_b : Int32) : wp_X4_plus i_a i_b (fun r => r = f_plus i_a i_b) := fun x hx => by subst hx; exact ⟨fun h => by rw [f_plus, if_pos h], fun h => by rw [f_plus, if_neg h]⟩
abbrev w0_X4_plus (g : cx_G)  : va_W := []
set_option maxHeartbeats 4000000 in
set_option maxRecDepth 100000 in
theorem c_X4_plus (l : Launch) (g : cx_G) (i_a : Int32) (i_b : Int32) {Q : Int32 → Prop} (hv : wp_X4_plus i_a i_b Q) : cx_Mi l g yX4_plus (Cond.code yX4_plus cX4_plus 3 (some .int) :: cx_T) ({ frames := 0, cells := 0, slots := 0, locals := 0 } : Room) [.int i_a, .int i_b] (w0_X4_plus g  ) (fun (r : Int32) (_ : Unit) => Q r) (fun _ : Unit => (w0_X4_plus g  )) 0 0 := by
  intro sz
  refine Met.ofW (cc := cX4_plus) (maxL := 3) (ret := (some .int)) (by decide) rfl ?_
  intro p e s m args below meth c s₁ B hml hpre
  obtain ⟨rfl, hsz, hP, hK, hD0⟩ := hpre
  have hx := B.exec
  have hb := B.bytes
  have hr := B.returns
  have hts0 := atoms_spec (ws := (Cond.code yX4_plus cX4_plus 3 (some .int) :: cx_T)) B.pre
  have hts : ∀ w ∈ cx_T, w.before _ s = true := fun w h => hts0 w (List.mem_cons_of_mem _ h)
  have hown : s.vm.findClass RX4 = some m.cls := findClass_of_methodNamed B.named
  have hlocks := B.notSynchronized
  subst hsz
  have hD := hD0.self (sz := s.heap.size)
  obtain ⟨A, hAe⟩ : ∃ A : Nat → Prop, A = va_A (w0_X4_plus g  ) s.heap.size := ⟨_, rfl⟩
  rw [← hAe] at hD
  have hA : ∀ q : Nat, s.heap.size ≤ q → A q := fun q h => by rw [hAe]; exact Or.inr h
  have hS : va_S A s.heap s.heap [] := va_S.rf
  have hP : va_P g.1 vwCl [] s.heap := hP
  have hD : va_D A [] := hD
  have hl := lv_entry ([.int i_a, .int i_b]) (n := 3) (Nat.le_of_ble_eq_true rfl)
  rw [lg_entry_eq]
  generalize (lg_sl ([.int i_a, .int i_b]) ++ List.replicate (3 - (lg_sl ([.int i_a, .int i_b])).length) Slot.unset).toArray = ls at hl ⊢
  have hl : lv_has ls 3 [(0, .int i_a), (1, .int i_b)] := hl
  unfold wp_X4_plus at hv
  refine lv_iload_n hx hb dX4_plus_0 rfl (lv_at hl 0 rfl) ?_
  refine lv_iload_n hx hb dX4_plus_1 rfl (lv_at hl 1 rfl) ?_
  refine lv_iadd hx hb dX4_plus_2 ?_
  refine lv_topi (fun x2_1 ex2_1 => ?_)
  replace hv := hv x2_1 ex2_1
  refine lv_istore_n (lv' := [(2, .int x2_1), (0, .int i_a), (1, .int i_b)]) hx hb dX4_plus_3 rfl hl (by decide) rfl (fun ls hl => ?_)
  refine lv_iload_n hx hb dX4_plus_4 rfl (lv_at hl 0 rfl) ?_
  refine lv_ldc hx hb hown (hts _ cw_k_X4_217) dX4_plus_5 ?_
  refine lv_icmp_lt (tgt := 17) hx hb dX4_plus_7 (by decide) (fun hc => ?_) (fun hc => ?_)
  · replace hv := hv.1 hc
    refine lv_iload_n hx hb dX4_plus_17 rfl (lv_at hl 0 rfl) ?_
    exact cx_iret hx hb hr hlocks hAe hS () hv hP hD dX4_plus_18
  · replace hv := hv.2 hc
    refine lv_iload_n hx hb dX4_plus_10 rfl (lv_at hl 0 rfl) ?_
    refine lv_ldc hx hb hown (hts _ cw_k_X4_217) dX4_plus_11 ?_
    refine lv_isub hx hb dX4_plus_13 ?_
    refine lv_goto (tgt := 18) hx hb dX4_plus_14 (by decide) ?_
    exact cx_iret hx hb hr hlocks hAe hS () hv hP hD dX4_plus_18
theorem cp_X4_plus (l : Launch) (g : cx_G) (i_a : Int32) (i_b : Int32) : cx_Mi l g yX4_plus (Cond.code yX4_plus cX4_plus 3 (some .int) :: cx_T) ({ frames := 0, cells := 0, slots := 0, locals := 0 } : Room) [.int i_a, .int i_b] (w0_X4_plus g  ) (fun (r : Int32) (_ : Unit) => r = f_plus i_a i_b) (fun _ : Unit => (w0_X4_plus g  )) 0 0 := c_X4_plus l g  i_a i_b (Q := fun r => r = f_plus i_a i_b) (pf_X4_plus i_a i_b)
def f_minus (a b : Int32) : Int32 := if 0 ≤ a - b then a - b else a - b + 65521
def wp_X4_minus (i_a : Int32) (i_b : Int32) (Q : Int32 → Prop)   : Prop := ∀ x2_1 : Int32, x2_1 = (i_a - i_b) → ((0 ≤ x2_1 → (Q x2_1)) ∧ (¬ 0 ≤ x2_1 → (Q (x2_1 + 65521))))
theorem pf_X4_minus (i_a : Int32) (i_b : Int32) : wp_X4_minus i_a i_b (fun r => r = f_minus i_a i_b) := fun x hx => by subst hx; exact ⟨fun h => by rw [f_minus, if_pos h], fun h => by rw [f_minus, if_neg h]⟩
abbrev w0_X4_minus (g : cx_G)  : va_W := []
set_option maxHeartbeats 4000000 in
set_option maxRecDepth 100000 in
theorem c_X4_minus (l : Launch) (g : cx_G) (i_a : Int32) (i_b : Int32) {Q : Int32 → Prop} (hv : wp_X4_minus i_a i_b Q) : cx_Mi l g yX4_minus (Cond.code yX4_minus cX4_minus 3 (some .int) :: cx_T) ({ frames := 0, cells := 0, slots := 0, locals := 0 } : Room) [.int i_a, .int i_b] (w0_X4_minus g  ) (fun (r : Int32) (_ : Unit) => Q r) (fun _ : Unit => (w0_X4_minus g  )) 0 0 := by
  intro sz
  refine Met.ofW (cc := cX4_minus) (maxL := 3) (ret := (some .int)) (by decide) rfl ?_
  intro p e s m args below meth c s₁ B hml hpre
  obtain ⟨rfl, hsz, hP, hK, hD0⟩ := hpre
  have hx := B.exec
  have hb := B.bytes
  have hr := B.returns
  have hts0 := atoms_spec (ws := (Cond.code yX4_minus cX4_minus 3 (some .int) :: cx_T)) B.pre
  have hts : ∀ w ∈ cx_T, w.before _ s = true := fun w h => hts0 w (List.mem_cons_of_mem _ h)
  have hown : s.vm.findClass RX4 = some m.cls := findClass_of_methodNamed B.named
  have hlocks := B.notSynchronized
  subst hsz
  have hD := hD0.self (sz := s.heap.size)
  obtain ⟨A, hAe⟩ : ∃ A : Nat → Prop, A = va_A (w0_X4_minus g  ) s.heap.size := ⟨_, rfl⟩
  rw [← hAe] at hD
  have hA : ∀ q : Nat, s.heap.size ≤ q → A q := fun q h => by rw [hAe]; exact Or.inr h
  have hS : va_S A s.heap s.heap [] := va_S.rf
  have hP : va_P g.1 vwCl [] s.heap := hP
  have hD : va_D A [] := hD
  have hl := lv_entry ([.int i_a, .int i_b]) (n := 3) (Nat.le_of_ble_eq_true rfl)
  rw [lg_entry_eq]
  generalize (lg_sl ([.int i_a, .int i_b]) ++ List.replicate (3 - (lg_sl ([.int i_a, .int i_b])).length) Slot.unset).toArray = ls at hl ⊢
  have hl : lv_has ls 3 [(0, .int i_a), (1, .int i_b)] := hl
  unfold wp_X4_minus at hv
  refine lv_iload_n hx hb dX4_minus_0 rfl (lv_at hl 0 rfl) ?_
  refine lv_iload_n hx hb dX4_minus_1 rfl (lv_at hl 1 rfl) ?_
  refine lv_isub hx hb dX4_minus_2 ?_
  refine lv_topi (fun x2_1 ex2_1 => ?_)
  replace hv := hv x2_1 ex2_1
  refine lv_istore_n (lv' := [(2, .int x2_1), (0, .int i_a), (1, .int i_b)]) hx hb dX4_minus_3 rfl hl (by decide) rfl (fun ls hl => ?_)
  refine lv_iload_n hx hb dX4_minus_4 rfl (lv_at hl 0 rfl) ?_
  refine lv_if_ge (tgt := 15) hx hb dX4_minus_5 (by decide) (fun hc => ?_) (fun hc => ?_)
  · replace hv := hv.1 hc
    refine lv_iload_n hx hb dX4_minus_15 rfl (lv_at hl 0 rfl) ?_
    exact cx_iret hx hb hr hlocks hAe hS () hv hP hD dX4_minus_16
  · replace hv := hv.2 hc
    refine lv_iload_n hx hb dX4_minus_8 rfl (lv_at hl 0 rfl) ?_
    refine lv_ldc hx hb hown (hts _ cw_k_X4_217) dX4_minus_9 ?_
    refine lv_iadd hx hb dX4_minus_11 ?_
    refine lv_goto (tgt := 16) hx hb dX4_minus_12 (by decide) ?_
    exact cx_iret hx hb hr hlocks hAe hS () hv hP hD dX4_minus_16
theorem cp_X4_minus (l : Launch) (g : cx_G) (i_a : Int32) (i_b : Int32) : cx_Mi l g yX4_minus (Cond.code yX4_minus cX4_minus 3 (some .int) :: cx_T) ({ frames := 0, cells := 0, slots := 0, locals := 0 } : Room) [.int i_a, .int i_b] (w0_X4_minus g  ) (fun (r : Int32) (_ : Unit) => r = f_minus i_a i_b) (fun _ : Unit => (w0_X4_minus g  )) 0 0 := c_X4_minus l g  i_a i_b (Q := fun r => r = f_minus i_a i_b) (pf_X4_minus i_a i_b)
def f_times (a b : Int32) : Int32 := Int64.toInt32 (((Int32.toInt64 a) * (Int32.toInt64 b)) - ((Int32.toInt64 a) * (Int32.toInt64 b)) / 65521 * 65521)
def wp_X4_times (i_a : Int32) (i_b : Int32) (Q : Int32 → Prop)   : Prop := Q (Int64.toInt32 (((Int32.toInt64 i_a) * (Int32.toInt64 i_b)) - ((Int32.toInt64 i_a) * (Int32.toInt64 i_b)) / 65521 * 65521))
theorem pf_X4_times (i_a : Int32) (i_b : Int32) : wp_X4_times i_a i_b (fun r => r = f_times i_a i_b) := rfl
abbrev w0_X4_times (g : cx_G)  : va_W := []
set_option maxHeartbeats 4000000 in
set_option maxRecDepth 100000 in
theorem c_X4_times (l : Launch) (g : cx_G) (i_a : Int32) (i_b : Int32) {Q : Int32 → Prop} (hv : wp_X4_times i_a i_b Q) : cx_Mi l g yX4_times (Cond.code yX4_times cX4_times 2 (some .int) :: cx_T) ({ frames := 0, cells := 0, slots := 0, locals := 0 } : Room) [.int i_a, .int i_b] (w0_X4_times g  ) (fun (r : Int32) (_ : Unit) => Q r) (fun _ : Unit => (w0_X4_times g  )) 0 0 := by
  intro sz
  refine Met.ofW (cc := cX4_times) (maxL := 2) (ret := (some .int)) (by decide) rfl ?_
  intro p e s m args below meth c s₁ B hml hpre
  obtain ⟨rfl, hsz, hP, hK, hD0⟩ := hpre
  have hx := B.exec
  have hb := B.bytes
  have hr := B.returns
  have hts0 := atoms_spec (ws := (Cond.code yX4_times cX4_times 2 (some .int) :: cx_T)) B.pre
  have hts : ∀ w ∈ cx_T, w.before _ s = true := fun w h => hts0 w (List.mem_cons_of_mem _ h)
  have hown : s.vm.findClass RX4 = some m.cls := findClass_of_methodNamed B.named
  have hlocks := B.notSynchronized
  subst hsz
  have hD := hD0.self (sz := s.heap.size)
  obtain ⟨A, hAe⟩ : ∃ A : Nat → Prop, A = va_A (w0_X4_times g  ) s.heap.size := ⟨_, rfl⟩
  rw [← hAe] at hD
  have hA : ∀ q : Nat, s.heap.size ≤ q → A q := fun q h => by rw [hAe]; exact Or.inr h
  have hS : va_S A s.heap s.heap [] := va_S.rf
  have hP : va_P g.1 vwCl [] s.heap := hP
  have hD : va_D A [] := hD
  have hl := lv_entry ([.int i_a, .int i_b]) (n := 2) (Nat.le_of_ble_eq_true rfl)
  rw [lg_entry_eq]
  generalize (lg_sl ([.int i_a, .int i_b]) ++ List.replicate (2 - (lg_sl ([.int i_a, .int i_b])).length) Slot.unset).toArray = ls at hl ⊢
  have hl : lv_has ls 2 [(0, .int i_a), (1, .int i_b)] := hl
  unfold wp_X4_times at hv
  refine lv_iload_n hx hb dX4_times_0 rfl (lv_at hl 0 rfl) ?_
  refine lv_i2l hx hb dX4_times_1 rfl ?_
  refine lv_iload_n hx hb dX4_times_2 rfl (lv_at hl 1 rfl) ?_
  refine lv_i2l hx hb dX4_times_3 rfl ?_
  refine lv_lmul hx hb dX4_times_4 ?_
  refine lv_ldc2 hx hb hown (hts _ cw_l_X4_225) dX4_times_5 ?_
  refine lv_lrem hx hb dX4_times_8 (by decide) ?_
  refine lv_l2i hx hb dX4_times_9 rfl ?_
  exact cx_iret hx hb hr hlocks hAe hS () hv hP hD dX4_times_10
theorem cp_X4_times (l : Launch) (g : cx_G) (i_a : Int32) (i_b : Int32) : cx_Mi l g yX4_times (Cond.code yX4_times cX4_times 2 (some .int) :: cx_T) ({ frames := 0, cells := 0, slots := 0, locals := 0 } : Room) [.int i_a, .int i_b] (w0_X4_times g  ) (fun (r : Int32) (_ : Unit) => r = f_times i_a i_b) (fun _ : Unit => (w0_X4_times g  )) 0 0 := c_X4_times l g  i_a i_b (Q := fun r => r = f_times i_a i_b) (pf_X4_times i_a i_b)
def f_mix (d x : Int64) : Int64 := (d * 31) + x
def wp_X4_mix (i_d : Int64) (i_x : Int64) (Q : Int64 → Prop)   : Prop := Q ((i_d * 31) + i_x)
theorem pf_X4_mix (i_d : Int64) (i_x : Int64) : wp_X4_mix i_d i_x (fun r => r = f_mix i_d i_x) := rfl
abbrev w0_X4_mix (g : cx_G)  : va_W := []
set_option maxHeartbeats 4000000 in
set_option maxRecDepth 100000 in
theorem c_X4_mix (l : Launch) (g : cx_G) (i_d : Int64) (i_x : Int64) {Q : Int64 → Prop} (hv : wp_X4_mix i_d i_x Q) : cx_Ml l g yX4_mix (Cond.code yX4_mix cX4_mix 4 (some .long) :: cx_T) ({ frames := 0, cells := 0, slots := 0, locals := 0 } : Room) [.long i_d, .long i_x] (w0_X4_mix g  ) (fun (r : Int64) (_ : Unit) => Q r) (fun _ : Unit => (w0_X4_mix g  )) 0 0 := by
  intro sz
  refine Met.ofW (cc := cX4_mix) (maxL := 4) (ret := (some .long)) (by decide) rfl ?_
  intro p e s m args below meth c s₁ B hml hpre
  obtain ⟨rfl, hsz, hP, hK, hD0⟩ := hpre
  have hx := B.exec
  have hb := B.bytes
  have hr := B.returns
  have hts0 := atoms_spec (ws := (Cond.code yX4_mix cX4_mix 4 (some .long) :: cx_T)) B.pre
  have hts : ∀ w ∈ cx_T, w.before _ s = true := fun w h => hts0 w (List.mem_cons_of_mem _ h)
  have hown : s.vm.findClass RX4 = some m.cls := findClass_of_methodNamed B.named
  have hlocks := B.notSynchronized
  subst hsz
  have hD := hD0.self (sz := s.heap.size)
  obtain ⟨A, hAe⟩ : ∃ A : Nat → Prop, A = va_A (w0_X4_mix g  ) s.heap.size := ⟨_, rfl⟩
  rw [← hAe] at hD
  have hA : ∀ q : Nat, s.heap.size ≤ q → A q := fun q h => by rw [hAe]; exact Or.inr h
  have hS : va_S A s.heap s.heap [] := va_S.rf
  have hP : va_P g.1 vwCl [] s.heap := hP
  have hD : va_D A [] := hD
  have hl := lv_entry ([.long i_d, .long i_x]) (n := 4) (Nat.le_of_ble_eq_true rfl)
  rw [lg_entry_eq]
  generalize (lg_sl ([.long i_d, .long i_x]) ++ List.replicate (4 - (lg_sl ([.long i_d, .long i_x])).length) Slot.unset).toArray = ls at hl ⊢
  have hl : lv_has ls 4 [(0, .long i_d), (2, .long i_x)] := hl
  unfold wp_X4_mix at hv
  refine lv_lload_n hx hb dX4_mix_0 rfl (lv_at hl 0 rfl) ?_
  refine lv_ldc2 hx hb hown (hts _ cw_l_X4_220) dX4_mix_1 ?_
  refine lv_lmul hx hb dX4_mix_4 ?_
  refine lv_lload_n hx hb dX4_mix_5 rfl (lv_at hl 1 rfl) ?_
  refine lv_ladd hx hb dX4_mix_6 ?_
  exact cx_lret hx hb hr hlocks hAe hS () hv hP hD dX4_mix_7
theorem cp_X4_mix (l : Launch) (g : cx_G) (i_d : Int64) (i_x : Int64) : cx_Ml l g yX4_mix (Cond.code yX4_mix cX4_mix 4 (some .long) :: cx_T) ({ frames := 0, cells := 0, slots := 0, locals := 0 } : Room) [.long i_d, .long i_x] (w0_X4_mix g  ) (fun (r : Int64) (_ : Unit) => r = f_mix i_d i_x) (fun _ : Unit => (w0_X4_mix g  )) 0 0 := c_X4_mix l g  i_d i_x (Q := fun r => r = f_mix i_d i_x) (pf_X4_mix i_d i_x)
def wp_X2_entryAt (i_i : Int32) (i_j : Int32) (P_rows : Int32) (P_entries : (Nat → Int32)) (Q : Int32 → Prop)   : Prop := vp_in (f_cell i_i i_j) 256 ∧ (Q (P_entries (Int32.toNatClampNeg (f_cell i_i i_j))))
abbrev w0_X2_entryAt (g : cx_G) (a_P a_P_entries a_P_order a_P_places a_P_rights a_P_weights : Nat) (P_rows : Int32) (P_entries : (Nat → Int32)) : va_W := [(a_P, .inr (2, [.int P_rows, .ref a_P_entries, .ref a_P_order, .ref a_P_places, .ref a_P_rights, .ref a_P_weights])), (a_P_entries, .inl (g.2.1, 256, .inl P_entries))]
set_option maxHeartbeats 4000000 in
set_option maxRecDepth 100000 in
theorem c_X2_entryAt (l : Launch) (g : cx_G) (a_P a_P_entries a_P_order a_P_places a_P_rights a_P_weights : Nat) (i_i : Int32) (i_j : Int32) (P_rows : Int32) (P_entries : (Nat → Int32)) {Q : Int32 → Prop} (hv : wp_X2_entryAt i_i i_j P_rows P_entries Q) : cx_Mi l g yX2_entryAt (Cond.code yX2_entryAt cX2_entryAt 3 (some .int) :: cx_T) ({ frames := 1, cells := 0, slots := 0, locals := 21 } : Room) [.ref a_P, .int i_i, .int i_j] (w0_X2_entryAt g a_P a_P_entries a_P_order a_P_places a_P_rights a_P_weights P_rows P_entries) (fun (r : Int32) (_ : Unit) => Q r) (fun _ : Unit => (w0_X2_entryAt g a_P a_P_entries a_P_order a_P_places a_P_rights a_P_weights P_rows P_entries)) 0 0 := by
  intro sz
  refine Met.ofW (cc := cX2_entryAt) (maxL := 3) (ret := (some .int)) (by decide) rfl ?_
  intro p e s m args below meth c s₁ B hml hpre
  obtain ⟨rfl, hsz, hP, hK, hD0⟩ := hpre
  have hx := B.exec
  have hb := B.bytes
  have hr := B.returns
  have hts0 := atoms_spec (ws := (Cond.code yX2_entryAt cX2_entryAt 3 (some .int) :: cx_T)) B.pre
  have hts : ∀ w ∈ cx_T, w.before _ s = true := fun w h => hts0 w (List.mem_cons_of_mem _ h)
  have hown : s.vm.findClass RX2 = some m.cls := findClass_of_methodNamed B.named
  have hlocks := B.notSynchronized
  subst hsz
  have hD := hD0.self (sz := s.heap.size)
  obtain ⟨A, hAe⟩ : ∃ A : Nat → Prop, A = va_A (w0_X2_entryAt g a_P a_P_entries a_P_order a_P_places a_P_rights a_P_weights P_rows P_entries) s.heap.size := ⟨_, rfl⟩
  rw [← hAe] at hD
  have hA : ∀ q : Nat, s.heap.size ≤ q → A q := fun q h => by rw [hAe]; exact Or.inr h
  have hS : va_S A s.heap s.heap [] := va_S.rf
  have hP : va_P g.1 vwCl [(a_P, .inr (2, [.int P_rows, .ref a_P_entries, .ref a_P_order, .ref a_P_places, .ref a_P_rights, .ref a_P_weights])), (a_P_entries, .inl (g.2.1, 256, .inl P_entries))] s.heap := hP
  have hD : va_D A [(a_P, .inr (2, [.int P_rows, .ref a_P_entries, .ref a_P_order, .ref a_P_places, .ref a_P_rights, .ref a_P_weights])), (a_P_entries, .inl (g.2.1, 256, .inl P_entries))] := hD
  have hl := lv_entry ([.ref a_P, .int i_i, .int i_j]) (n := 3) (Nat.le_of_ble_eq_true rfl)
  rw [lg_entry_eq]
  generalize (lg_sl ([.ref a_P, .int i_i, .int i_j]) ++ List.replicate (3 - (lg_sl ([.ref a_P, .int i_i, .int i_j])).length) Slot.unset).toArray = ls at hl ⊢
  have hl : lv_has ls 3 [(0, .ref a_P), (1, .int i_i), (2, .int i_j)] := hl
  unfold wp_X2_entryAt at hv
  refine lv_aload_n hx hb dX2_entryAt_0 rfl (lv_at hl 0 rfl) ?_
  refine va_get (D := g.1) (ci := 2) (v := .ref a_P_entries) (C := RX2) (T := TX2) (N := 6) hx hb hts cw_in_X2 hown hK.1 hP 0 rfl rfl 1 (by decide) (hts _ cw_f_X2_15) (fun _ h9 => h9) rfl dX2_entryAt_1 ?_
  refine lv_iload_n hx hb dX2_entryAt_4 rfl (lv_at hl 1 rfl) ?_
  refine lv_iload_n hx hb dX2_entryAt_5 rfl (lv_at hl 2 rfl) ?_
  refine cx_iNr (As := [.int i_i, .int i_j]) (rest := [.ref a_P_entries]) ⟨hx, hb, hml, hown, hts⟩ (cp_X4_cell l g i_i i_j) (cx_cwN 2 hts (hK.2.at 0 rfl) cw_t_X4_cell cw_n_X4 cw_c_X4_cell rfl rfl (by decide +kernel) ⟨Nat.le_of_ble_eq_true rfl, Nat.le_of_ble_eq_true rfl⟩) hK hP hD hS hA [] rfl rfl rfl hl.1 rfl (Nat.le_of_ble_eq_true rfl) dX2_entryAt_6 ⟨Nat.le_of_ble_eq_true rfl, Nat.le_of_ble_eq_true rfl⟩ (fun r_1 H locs hr9 hP hS => ?_)
  replace hr9 : r_1 = (f_cell i_i i_j) := hr9
  subst hr9
  obtain ⟨h_2, hv⟩ := hv
  refine va_iald (D := g.1) hx hb hK.1 hP 1 0 rfl rfl h_2 dX2_entryAt_9 ?_
  exact cx_iret hx hb hr hlocks hAe hS () hv hP hD dX2_entryAt_10
def wp_X2_putEntry (i_i : Int32) (i_j : Int32) (i_v : Int32) (P_rows : Int32) (P_entries : (Nat → Int32)) (Q : (Nat → Int32) → Prop)   : Prop := vp_in (f_cell i_i i_j) 256 ∧ (vp_in (f_cell i_j i_i) 256 ∧ (Q (upd (upd P_entries (Int32.toNatClampNeg (f_cell i_i i_j)) i_v) (Int32.toNatClampNeg (f_cell i_j i_i)) i_v)))
abbrev w0_X2_putEntry (g : cx_G) (a_P a_P_entries a_P_order a_P_places a_P_rights a_P_weights : Nat) (P_rows : Int32) (P_entries : (Nat → Int32)) : va_W := [(a_P, .inr (2, [.int P_rows, .ref a_P_entries, .ref a_P_order, .ref a_P_places, .ref a_P_rights, .ref a_P_weights])), (a_P_entries, .inl (g.2.1, 256, .inl P_entries))]
abbrev w1_X2_putEntry (g : cx_G) (a_P a_P_entries a_P_order a_P_places a_P_rights a_P_weights : Nat) (P_rows : Int32) (P_entries : (Nat → Int32)) (u : (Nat → Int32)) : va_W := [(a_P, .inr (2, [.int P_rows, .ref a_P_entries, .ref a_P_order, .ref a_P_places, .ref a_P_rights, .ref a_P_weights])), (a_P_entries, .inl (g.2.1, 256, .inl u))]
set_option maxHeartbeats 4000000 in
set_option maxRecDepth 100000 in
theorem c_X2_putEntry (l : Launch) (g : cx_G) (a_P a_P_entries a_P_order a_P_places a_P_rights a_P_weights : Nat) (i_i : Int32) (i_j : Int32) (i_v : Int32) (P_rows : Int32) (P_entries : (Nat → Int32)) {Q : (Nat → Int32) → Prop} (hv : wp_X2_putEntry i_i i_j i_v P_rows P_entries Q) : cx_Mv l g yX2_putEntry (Cond.code yX2_putEntry cX2_putEntry 4 none :: cx_T) ({ frames := 1, cells := 0, slots := 0, locals := 21 } : Room) [.ref a_P, .int i_i, .int i_j, .int i_v] (w0_X2_putEntry g a_P a_P_entries a_P_order a_P_places a_P_rights a_P_weights P_rows P_entries) (fun (u : (Nat → Int32)) => Q u) (w1_X2_putEntry g a_P a_P_entries a_P_order a_P_places a_P_rights a_P_weights P_rows P_entries) 0 0 := by
  intro sz
  refine Met.ofW (cc := cX2_putEntry) (maxL := 4) (ret := none) (by decide) rfl ?_
  intro p e s m args below meth c s₁ B hml hpre
  obtain ⟨rfl, hsz, hP, hK, hD0⟩ := hpre
  have hx := B.exec
  have hb := B.bytes
  have hr := B.returns
  have hts0 := atoms_spec (ws := (Cond.code yX2_putEntry cX2_putEntry 4 none :: cx_T)) B.pre
  have hts : ∀ w ∈ cx_T, w.before _ s = true := fun w h => hts0 w (List.mem_cons_of_mem _ h)
  have hown : s.vm.findClass RX2 = some m.cls := findClass_of_methodNamed B.named
  have hlocks := B.notSynchronized
  subst hsz
  have hD := hD0.self (sz := s.heap.size)
  obtain ⟨A, hAe⟩ : ∃ A : Nat → Prop, A = va_A (w0_X2_putEntry g a_P a_P_entries a_P_order a_P_places a_P_rights a_P_weights P_rows P_entries) s.heap.size := ⟨_, rfl⟩
  rw [← hAe] at hD
  have hA : ∀ q : Nat, s.heap.size ≤ q → A q := fun q h => by rw [hAe]; exact Or.inr h
  have hS : va_S A s.heap s.heap [] := va_S.rf
  have hP : va_P g.1 vwCl [(a_P, .inr (2, [.int P_rows, .ref a_P_entries, .ref a_P_order, .ref a_P_places, .ref a_P_rights, .ref a_P_weights])), (a_P_entries, .inl (g.2.1, 256, .inl P_entries))] s.heap := hP
  have hD : va_D A [(a_P, .inr (2, [.int P_rows, .ref a_P_entries, .ref a_P_order, .ref a_P_places, .ref a_P_rights, .ref a_P_weights])), (a_P_entries, .inl (g.2.1, 256, .inl P_entries))] := hD
  have hl := lv_entry ([.ref a_P, .int i_i, .int i_j, .int i_v]) (n := 4) (Nat.le_of_ble_eq_true rfl)
  rw [lg_entry_eq]
  generalize (lg_sl ([.ref a_P, .int i_i, .int i_j, .int i_v]) ++ List.replicate (4 - (lg_sl ([.ref a_P, .int i_i, .int i_j, .int i_v])).length) Slot.unset).toArray = ls at hl ⊢
  have hl : lv_has ls 4 [(0, .ref a_P), (1, .int i_i), (2, .int i_j), (3, .int i_v)] := hl
  unfold wp_X2_putEntry at hv
  refine lv_aload_n hx hb dX2_putEntry_0 rfl (lv_at hl 0 rfl) ?_
  refine va_get (D := g.1) (ci := 2) (v := .ref a_P_entries) (C := RX2) (T := TX2) (N := 6) hx hb hts cw_in_X2 hown hK.1 hP 0 rfl rfl 1 (by decide) (hts _ cw_f_X2_15) (fun _ h9 => h9) rfl dX2_putEntry_1 ?_
  refine lv_iload_n hx hb dX2_putEntry_4 rfl (lv_at hl 1 rfl) ?_
  refine lv_iload_n hx hb dX2_putEntry_5 rfl (lv_at hl 2 rfl) ?_
  refine cx_iNr (As := [.int i_i, .int i_j]) (rest := [.ref a_P_entries]) ⟨hx, hb, hml, hown, hts⟩ (cp_X4_cell l g i_i i_j) (cx_cwN 2 hts (hK.2.at 0 rfl) cw_t_X4_cell cw_n_X4 cw_c_X4_cell rfl rfl (by decide +kernel) ⟨Nat.le_of_ble_eq_true rfl, Nat.le_of_ble_eq_true rfl⟩) hK hP hD hS hA [] rfl rfl rfl hl.1 rfl (Nat.le_of_ble_eq_true rfl) dX2_putEntry_6 ⟨Nat.le_of_ble_eq_true rfl, Nat.le_of_ble_eq_true rfl⟩ (fun r_1 H locs hr9 hP hS => ?_)
  replace hr9 : r_1 = (f_cell i_i i_j) := hr9
  subst hr9
  refine lv_iload_n hx hb dX2_putEntry_9 rfl (lv_at hl 3 rfl) ?_
  obtain ⟨h_2, hv⟩ := hv
  refine va_iast (D := g.1) hx hb hK.1 hP hD hS 1 0 rfl rfl h_2 dX2_putEntry_10 (fun H locs hP hD hS => ?_)
  have hP : va_P g.1 vwCl [(a_P, .inr (2, [.int P_rows, .ref a_P_entries, .ref a_P_order, .ref a_P_places, .ref a_P_rights, .ref a_P_weights])), (a_P_entries, .inl (g.2.1, 256, .inl (upd P_entries (Int32.toNatClampNeg (f_cell i_i i_j)) i_v)))] H := hP
  have hD : va_D A [(a_P, .inr (2, [.int P_rows, .ref a_P_entries, .ref a_P_order, .ref a_P_places, .ref a_P_rights, .ref a_P_weights])), (a_P_entries, .inl (g.2.1, 256, .inl (upd P_entries (Int32.toNatClampNeg (f_cell i_i i_j)) i_v)))] := hD
  refine lv_aload_n hx hb dX2_putEntry_11 rfl (lv_at hl 0 rfl) ?_
  refine va_get (D := g.1) (ci := 2) (v := .ref a_P_entries) (C := RX2) (T := TX2) (N := 6) hx hb hts cw_in_X2 hown hK.1 hP 0 rfl rfl 1 (by decide) (hts _ cw_f_X2_15) (fun _ h9 => h9) rfl dX2_putEntry_12 ?_
  refine lv_iload_n hx hb dX2_putEntry_15 rfl (lv_at hl 2 rfl) ?_
  refine lv_iload_n hx hb dX2_putEntry_16 rfl (lv_at hl 1 rfl) ?_
  refine cx_iNr (As := [.int i_j, .int i_i]) (rest := [.ref a_P_entries]) ⟨hx, hb, hml, hown, hts⟩ (cp_X4_cell l g i_j i_i) (cx_cwN 2 hts (hK.2.at 0 rfl) cw_t_X4_cell cw_n_X4 cw_c_X4_cell rfl rfl (by decide +kernel) ⟨Nat.le_of_ble_eq_true rfl, Nat.le_of_ble_eq_true rfl⟩) hK hP hD hS hA [] rfl rfl rfl hl.1 rfl (Nat.le_of_ble_eq_true rfl) dX2_putEntry_17 ⟨Nat.le_of_ble_eq_true rfl, Nat.le_of_ble_eq_true rfl⟩ (fun r_3 H locs hr9 hP hS => ?_)
  replace hr9 : r_3 = (f_cell i_j i_i) := hr9
  subst hr9
  refine lv_iload_n hx hb dX2_putEntry_20 rfl (lv_at hl 3 rfl) ?_
  obtain ⟨h_4, hv⟩ := hv
  refine va_iast (D := g.1) hx hb hK.1 hP hD hS 1 0 rfl rfl h_4 dX2_putEntry_21 (fun H locs hP hD hS => ?_)
  have hP : va_P g.1 vwCl [(a_P, .inr (2, [.int P_rows, .ref a_P_entries, .ref a_P_order, .ref a_P_places, .ref a_P_rights, .ref a_P_weights])), (a_P_entries, .inl (g.2.1, 256, .inl (upd (upd P_entries (Int32.toNatClampNeg (f_cell i_i i_j)) i_v) (Int32.toNatClampNeg (f_cell i_j i_i)) i_v)))] H := hP
  have hD : va_D A [(a_P, .inr (2, [.int P_rows, .ref a_P_entries, .ref a_P_order, .ref a_P_places, .ref a_P_rights, .ref a_P_weights])), (a_P_entries, .inl (g.2.1, 256, .inl (upd (upd P_entries (Int32.toNatClampNeg (f_cell i_i i_j)) i_v) (Int32.toNatClampNeg (f_cell i_j i_i)) i_v)))] := hD
  exact cx_vret hx hb hr hlocks hAe hS (upd (upd P_entries (Int32.toNatClampNeg (f_cell i_i i_j)) i_v) (Int32.toNatClampNeg (f_cell i_j i_i)) i_v) hv hP hD dX2_putEntry_22
def wp_X2_place (i_row : Int32) (i_p : Int32) (P_rows : Int32) (P_order : (Nat → Int32)) (P_places : (Nat → Int32)) (Q : (Nat → Int32) → (Nat → Int32) → Prop)   : Prop := vp_in i_p 16 ∧ (vp_in i_row 16 ∧ (Q (upd P_order (Int32.toNatClampNeg i_p) i_row) (upd P_places (Int32.toNatClampNeg i_row) i_p)))
abbrev w0_X2_place (g : cx_G) (a_P a_P_entries a_P_order a_P_places a_P_rights a_P_weights : Nat) (P_rows : Int32) (P_order : (Nat → Int32)) (P_places : (Nat → Int32)) : va_W := [(a_P, .inr (2, [.int P_rows, .ref a_P_entries, .ref a_P_order, .ref a_P_places, .ref a_P_rights, .ref a_P_weights])), (a_P_order, .inl (g.2.1, 16, .inl P_order)), (a_P_places, .inl (g.2.1, 16, .inl P_places))]
abbrev w1_X2_place (g : cx_G) (a_P a_P_entries a_P_order a_P_places a_P_rights a_P_weights : Nat) (P_rows : Int32) (P_order : (Nat → Int32)) (P_places : (Nat → Int32)) (u : (Nat → Int32) × (Nat → Int32)) : va_W := [(a_P, .inr (2, [.int P_rows, .ref a_P_entries, .ref a_P_order, .ref a_P_places, .ref a_P_rights, .ref a_P_weights])), (a_P_order, .inl (g.2.1, 16, .inl u.1)), (a_P_places, .inl (g.2.1, 16, .inl u.2))]
set_option maxHeartbeats 4000000 in
set_option maxRecDepth 100000 in
theorem c_X2_place (l : Launch) (g : cx_G) (a_P a_P_entries a_P_order a_P_places a_P_rights a_P_weights : Nat) (i_row : Int32) (i_p : Int32) (P_rows : Int32) (P_order : (Nat → Int32)) (P_places : (Nat → Int32)) {Q : (Nat → Int32) → (Nat → Int32) → Prop} (hv : wp_X2_place i_row i_p P_rows P_order P_places Q) : cx_Mv l g yX2_place (Cond.code yX2_place cX2_place 3 none :: cx_T) ({ frames := 0, cells := 0, slots := 0, locals := 0 } : Room) [.ref a_P, .int i_row, .int i_p] (w0_X2_place g a_P a_P_entries a_P_order a_P_places a_P_rights a_P_weights P_rows P_order P_places) (fun (u : (Nat → Int32) × (Nat → Int32)) => Q u.1 u.2) (w1_X2_place g a_P a_P_entries a_P_order a_P_places a_P_rights a_P_weights P_rows P_order P_places) 0 0 := by
  intro sz
  refine Met.ofW (cc := cX2_place) (maxL := 3) (ret := none) (by decide) rfl ?_
  intro p e s m args below meth c s₁ B hml hpre
  obtain ⟨rfl, hsz, hP, hK, hD0⟩ := hpre
  have hx := B.exec
  have hb := B.bytes
  have hr := B.returns
  have hts0 := atoms_spec (ws := (Cond.code yX2_place cX2_place 3 none :: cx_T)) B.pre
  have hts : ∀ w ∈ cx_T, w.before _ s = true := fun w h => hts0 w (List.mem_cons_of_mem _ h)
  have hown : s.vm.findClass RX2 = some m.cls := findClass_of_methodNamed B.named
  have hlocks := B.notSynchronized
  subst hsz
  have hD := hD0.self (sz := s.heap.size)
  obtain ⟨A, hAe⟩ : ∃ A : Nat → Prop, A = va_A (w0_X2_place g a_P a_P_entries a_P_order a_P_places a_P_rights a_P_weights P_rows P_order P_places) s.heap.size := ⟨_, rfl⟩
  rw [← hAe] at hD
  have hA : ∀ q : Nat, s.heap.size ≤ q → A q := fun q h => by rw [hAe]; exact Or.inr h
  have hS : va_S A s.heap s.heap [] := va_S.rf
  have hP : va_P g.1 vwCl [(a_P, .inr (2, [.int P_rows, .ref a_P_entries, .ref a_P_order, .ref a_P_places, .ref a_P_rights, .ref a_P_weights])), (a_P_order, .inl (g.2.1, 16, .inl P_order)), (a_P_places, .inl (g.2.1, 16, .inl P_places))] s.heap := hP
  have hD : va_D A [(a_P, .inr (2, [.int P_rows, .ref a_P_entries, .ref a_P_order, .ref a_P_places, .ref a_P_rights, .ref a_P_weights])), (a_P_order, .inl (g.2.1, 16, .inl P_order)), (a_P_places, .inl (g.2.1, 16, .inl P_places))] := hD
  have hl := lv_entry ([.ref a_P, .int i_row, .int i_p]) (n := 3) (Nat.le_of_ble_eq_true rfl)
  rw [lg_entry_eq]
  generalize (lg_sl ([.ref a_P, .int i_row, .int i_p]) ++ List.replicate (3 - (lg_sl ([.ref a_P, .int i_row, .int i_p])).length) Slot.unset).toArray = ls at hl ⊢
  have hl : lv_has ls 3 [(0, .ref a_P), (1, .int i_row), (2, .int i_p)] := hl
  unfold wp_X2_place at hv
  refine lv_aload_n hx hb dX2_place_0 rfl (lv_at hl 0 rfl) ?_
  refine va_get (D := g.1) (ci := 2) (v := .ref a_P_order) (C := RX2) (T := TX2) (N := 6) hx hb hts cw_in_X2 hown hK.1 hP 0 rfl rfl 2 (by decide) (hts _ cw_f_X2_19) (fun _ h9 => h9) rfl dX2_place_1 ?_
  refine lv_iload_n hx hb dX2_place_4 rfl (lv_at hl 2 rfl) ?_
  refine lv_iload_n hx hb dX2_place_5 rfl (lv_at hl 1 rfl) ?_
  obtain ⟨h_1, hv⟩ := hv
  refine va_iast (D := g.1) hx hb hK.1 hP hD hS 1 0 rfl rfl h_1 dX2_place_6 (fun H locs hP hD hS => ?_)
  have hP : va_P g.1 vwCl [(a_P, .inr (2, [.int P_rows, .ref a_P_entries, .ref a_P_order, .ref a_P_places, .ref a_P_rights, .ref a_P_weights])), (a_P_order, .inl (g.2.1, 16, .inl (upd P_order (Int32.toNatClampNeg i_p) i_row))), (a_P_places, .inl (g.2.1, 16, .inl P_places))] H := hP
  have hD : va_D A [(a_P, .inr (2, [.int P_rows, .ref a_P_entries, .ref a_P_order, .ref a_P_places, .ref a_P_rights, .ref a_P_weights])), (a_P_order, .inl (g.2.1, 16, .inl (upd P_order (Int32.toNatClampNeg i_p) i_row))), (a_P_places, .inl (g.2.1, 16, .inl P_places))] := hD
  refine lv_aload_n hx hb dX2_place_7 rfl (lv_at hl 0 rfl) ?_
  refine va_get (D := g.1) (ci := 2) (v := .ref a_P_places) (C := RX2) (T := TX2) (N := 6) hx hb hts cw_in_X2 hown hK.1 hP 0 rfl rfl 3 (by decide) (hts _ cw_f_X2_22) (fun _ h9 => h9) rfl dX2_place_8 ?_
  refine lv_iload_n hx hb dX2_place_11 rfl (lv_at hl 1 rfl) ?_
  refine lv_iload_n hx hb dX2_place_12 rfl (lv_at hl 2 rfl) ?_
  obtain ⟨h_2, hv⟩ := hv
  refine va_iast (D := g.1) hx hb hK.1 hP hD hS 2 0 rfl rfl h_2 dX2_place_13 (fun H locs hP hD hS => ?_)
  have hP : va_P g.1 vwCl [(a_P, .inr (2, [.int P_rows, .ref a_P_entries, .ref a_P_order, .ref a_P_places, .ref a_P_rights, .ref a_P_weights])), (a_P_order, .inl (g.2.1, 16, .inl (upd P_order (Int32.toNatClampNeg i_p) i_row))), (a_P_places, .inl (g.2.1, 16, .inl (upd P_places (Int32.toNatClampNeg i_row) i_p)))] H := hP
  have hD : va_D A [(a_P, .inr (2, [.int P_rows, .ref a_P_entries, .ref a_P_order, .ref a_P_places, .ref a_P_rights, .ref a_P_weights])), (a_P_order, .inl (g.2.1, 16, .inl (upd P_order (Int32.toNatClampNeg i_p) i_row))), (a_P_places, .inl (g.2.1, 16, .inl (upd P_places (Int32.toNatClampNeg i_row) i_p)))] := hD
  exact cx_vret hx hb hr hlocks hAe hS ((upd P_order (Int32.toNatClampNeg i_p) i_row), (upd P_places (Int32.toNatClampNeg i_row) i_p)) hv hP hD dX2_place_14
def wp_X2_exchange (i_p : Int32) (i_q : Int32) (P_rows : Int32) (P_order : (Nat → Int32)) (P_places : (Nat → Int32)) (Q : (Nat → Int32) → (Nat → Int32) → Prop)   : Prop := vp_in i_p 16 ∧ (∀ x3_2 : Int32, x3_2 = (P_order (Int32.toNatClampNeg i_p)) → (vp_in i_q 16 ∧ (∀ x4_4 : Int32, x4_4 = (P_order (Int32.toNatClampNeg i_q)) → (wp_X2_place x3_2 i_q P_rows P_order P_places (fun u_6 u_7 => wp_X2_place x4_4 i_p P_rows u_6 u_7 (fun u_10 u_11 => Q u_10 u_11))))))
abbrev w0_X2_exchange (g : cx_G) (a_P a_P_entries a_P_order a_P_places a_P_rights a_P_weights : Nat) (P_rows : Int32) (P_order : (Nat → Int32)) (P_places : (Nat → Int32)) : va_W := [(a_P, .inr (2, [.int P_rows, .ref a_P_entries, .ref a_P_order, .ref a_P_places, .ref a_P_rights, .ref a_P_weights])), (a_P_order, .inl (g.2.1, 16, .inl P_order)), (a_P_places, .inl (g.2.1, 16, .inl P_places))]
abbrev w1_X2_exchange (g : cx_G) (a_P a_P_entries a_P_order a_P_places a_P_rights a_P_weights : Nat) (P_rows : Int32) (P_order : (Nat → Int32)) (P_places : (Nat → Int32)) (u : (Nat → Int32) × (Nat → Int32)) : va_W := [(a_P, .inr (2, [.int P_rows, .ref a_P_entries, .ref a_P_order, .ref a_P_places, .ref a_P_rights, .ref a_P_weights])), (a_P_order, .inl (g.2.1, 16, .inl u.1)), (a_P_places, .inl (g.2.1, 16, .inl u.2))]
set_option maxHeartbeats 4000000 in
set_option maxRecDepth 100000 in
theorem c_X2_exchange (l : Launch) (g : cx_G) (a_P a_P_entries a_P_order a_P_places a_P_rights a_P_weights : Nat) (i_p : Int32) (i_q : Int32) (P_rows : Int32) (P_order : (Nat → Int32)) (P_places : (Nat → Int32)) {Q : (Nat → Int32) → (Nat → Int32) → Prop} (hv : wp_X2_exchange i_p i_q P_rows P_order P_places Q) : cx_Mv l g yX2_exchange (Cond.code yX2_exchange cX2_exchange 5 none :: cx_T) ({ frames := 1, cells := 0, slots := 0, locals := 22 } : Room) [.ref a_P, .int i_p, .int i_q] (w0_X2_exchange g a_P a_P_entries a_P_order a_P_places a_P_rights a_P_weights P_rows P_order P_places) (fun (u : (Nat → Int32) × (Nat → Int32)) => Q u.1 u.2) (w1_X2_exchange g a_P a_P_entries a_P_order a_P_places a_P_rights a_P_weights P_rows P_order P_places) 0 0 := by
  intro sz
  refine Met.ofW (cc := cX2_exchange) (maxL := 5) (ret := none) (by decide) rfl ?_
  intro p e s m args below meth c s₁ B hml hpre
  obtain ⟨rfl, hsz, hP, hK, hD0⟩ := hpre
  have hx := B.exec
  have hb := B.bytes
  have hr := B.returns
  have hts0 := atoms_spec (ws := (Cond.code yX2_exchange cX2_exchange 5 none :: cx_T)) B.pre
  have hts : ∀ w ∈ cx_T, w.before _ s = true := fun w h => hts0 w (List.mem_cons_of_mem _ h)
  have hown : s.vm.findClass RX2 = some m.cls := findClass_of_methodNamed B.named
  have hlocks := B.notSynchronized
  subst hsz
  have hD := hD0.self (sz := s.heap.size)
  obtain ⟨A, hAe⟩ : ∃ A : Nat → Prop, A = va_A (w0_X2_exchange g a_P a_P_entries a_P_order a_P_places a_P_rights a_P_weights P_rows P_order P_places) s.heap.size := ⟨_, rfl⟩
  rw [← hAe] at hD
  have hA : ∀ q : Nat, s.heap.size ≤ q → A q := fun q h => by rw [hAe]; exact Or.inr h
  have hS : va_S A s.heap s.heap [] := va_S.rf
  have hP : va_P g.1 vwCl [(a_P, .inr (2, [.int P_rows, .ref a_P_entries, .ref a_P_order, .ref a_P_places, .ref a_P_rights, .ref a_P_weights])), (a_P_order, .inl (g.2.1, 16, .inl P_order)), (a_P_places, .inl (g.2.1, 16, .inl P_places))] s.heap := hP
  have hD : va_D A [(a_P, .inr (2, [.int P_rows, .ref a_P_entries, .ref a_P_order, .ref a_P_places, .ref a_P_rights, .ref a_P_weights])), (a_P_order, .inl (g.2.1, 16, .inl P_order)), (a_P_places, .inl (g.2.1, 16, .inl P_places))] := hD
  have hl := lv_entry ([.ref a_P, .int i_p, .int i_q]) (n := 5) (Nat.le_of_ble_eq_true rfl)
  rw [lg_entry_eq]
  generalize (lg_sl ([.ref a_P, .int i_p, .int i_q]) ++ List.replicate (5 - (lg_sl ([.ref a_P, .int i_p, .int i_q])).length) Slot.unset).toArray = ls at hl ⊢
  have hl : lv_has ls 5 [(0, .ref a_P), (1, .int i_p), (2, .int i_q)] := hl
  unfold wp_X2_exchange at hv
  refine lv_aload_n hx hb dX2_exchange_0 rfl (lv_at hl 0 rfl) ?_
  refine va_get (D := g.1) (ci := 2) (v := .ref a_P_order) (C := RX2) (T := TX2) (N := 6) hx hb hts cw_in_X2 hown hK.1 hP 0 rfl rfl 2 (by decide) (hts _ cw_f_X2_19) (fun _ h9 => h9) rfl dX2_exchange_1 ?_
  refine lv_iload_n hx hb dX2_exchange_4 rfl (lv_at hl 1 rfl) ?_
  obtain ⟨h_1, hv⟩ := hv
  refine va_iald (D := g.1) hx hb hK.1 hP 1 0 rfl rfl h_1 dX2_exchange_5 ?_
  refine lv_topi (fun x3_2 ex3_2 => ?_)
  replace hv := hv x3_2 ex3_2
  refine lv_istore_n (lv' := [(3, .int x3_2), (0, .ref a_P), (1, .int i_p), (2, .int i_q)]) hx hb dX2_exchange_6 rfl hl (by decide) rfl (fun ls hl => ?_)
  refine lv_aload_n hx hb dX2_exchange_7 rfl (lv_at hl 1 rfl) ?_
  refine va_get (D := g.1) (ci := 2) (v := .ref a_P_order) (C := RX2) (T := TX2) (N := 6) hx hb hts cw_in_X2 hown hK.1 hP 0 rfl rfl 2 (by decide) (hts _ cw_f_X2_19) (fun _ h9 => h9) rfl dX2_exchange_8 ?_
  refine lv_iload_n hx hb dX2_exchange_11 rfl (lv_at hl 3 rfl) ?_
  obtain ⟨h_3, hv⟩ := hv
  refine va_iald (D := g.1) hx hb hK.1 hP 1 0 rfl rfl h_3 dX2_exchange_12 ?_
  refine lv_topi (fun x4_4 ex4_4 => ?_)
  replace hv := hv x4_4 ex4_4
  refine lv_istore (lv' := [(4, .int x4_4), (3, .int x3_2), (0, .ref a_P), (1, .int i_p), (2, .int i_q)]) hx hb dX2_exchange_13 hl (by decide) rfl (fun ls hl => ?_)
  refine lv_aload_n hx hb dX2_exchange_15 rfl (lv_at hl 2 rfl) ?_
  refine lv_iload_n hx hb dX2_exchange_16 rfl (lv_at hl 1 rfl) ?_
  refine lv_iload_n hx hb dX2_exchange_17 rfl (lv_at hl 4 rfl) ?_
  refine cx_vV (wr := []) (As := [.int x3_2, .int i_q]) (rest := []) ⟨hx, hb, hml, hown, hts⟩ (c_X2_place l g a_P a_P_entries a_P_order a_P_places a_P_rights a_P_weights x3_2 i_q P_rows P_order P_places hv) (cx_cwV 2 hts cw_m_X2_35 cw_i_X2_place cw_s_X2_place cw_n_X2 cw_c_X2_place rfl rfl (by decide +kernel) ⟨Nat.le_of_ble_eq_true rfl, Nat.le_of_ble_eq_true rfl⟩) hK hP hD hS hA 0 2 rfl rfl [0, 1, 2] [] rfl rfl rfl rfl (by decide) rfl hl.1 rfl (Nat.le_of_ble_eq_true rfl) dX2_exchange_18 ⟨Nat.le_of_ble_eq_true rfl, Nat.le_of_ble_eq_true rfl⟩ (fun w_8 H locs hv hP hD hS => ?_)
  obtain ⟨u_6, u_7⟩ := w_8
  have hP : va_P g.1 vwCl [(a_P, .inr (2, [.int P_rows, .ref a_P_entries, .ref a_P_order, .ref a_P_places, .ref a_P_rights, .ref a_P_weights])), (a_P_order, .inl (g.2.1, 16, .inl u_6)), (a_P_places, .inl (g.2.1, 16, .inl u_7))] H := hP.sub [0, 1, 2] rfl
  have hD : va_D A [(a_P, .inr (2, [.int P_rows, .ref a_P_entries, .ref a_P_order, .ref a_P_places, .ref a_P_rights, .ref a_P_weights])), (a_P_order, .inl (g.2.1, 16, .inl u_6)), (a_P_places, .inl (g.2.1, 16, .inl u_7))] := hD.sub [0, 1, 2] (by decide) rfl
  refine lv_aload_n hx hb dX2_exchange_21 rfl (lv_at hl 2 rfl) ?_
  refine lv_iload hx hb dX2_exchange_22 (lv_at hl 0 rfl) ?_
  refine lv_iload_n hx hb dX2_exchange_24 rfl (lv_at hl 3 rfl) ?_
  refine cx_vV (wr := []) (As := [.int x4_4, .int i_p]) (rest := []) ⟨hx, hb, hml, hown, hts⟩ (c_X2_place l g a_P a_P_entries a_P_order a_P_places a_P_rights a_P_weights x4_4 i_p P_rows u_6 u_7 hv) (cx_cwV 2 hts cw_m_X2_35 cw_i_X2_place cw_s_X2_place cw_n_X2 cw_c_X2_place rfl rfl (by decide +kernel) ⟨Nat.le_of_ble_eq_true rfl, Nat.le_of_ble_eq_true rfl⟩) hK hP hD hS hA 0 2 rfl rfl [0, 1, 2] [] rfl rfl rfl rfl (by decide) rfl hl.1 rfl (Nat.le_of_ble_eq_true rfl) dX2_exchange_25 ⟨Nat.le_of_ble_eq_true rfl, Nat.le_of_ble_eq_true rfl⟩ (fun w_12 H locs hv hP hD hS => ?_)
  obtain ⟨u_10, u_11⟩ := w_12
  have hP : va_P g.1 vwCl [(a_P, .inr (2, [.int P_rows, .ref a_P_entries, .ref a_P_order, .ref a_P_places, .ref a_P_rights, .ref a_P_weights])), (a_P_order, .inl (g.2.1, 16, .inl u_10)), (a_P_places, .inl (g.2.1, 16, .inl u_11))] H := hP.sub [0, 1, 2] rfl
  have hD : va_D A [(a_P, .inr (2, [.int P_rows, .ref a_P_entries, .ref a_P_order, .ref a_P_places, .ref a_P_rights, .ref a_P_weights])), (a_P_order, .inl (g.2.1, 16, .inl u_10)), (a_P_places, .inl (g.2.1, 16, .inl u_11))] := hD.sub [0, 1, 2] (by decide) rfl
  exact cx_vret hx hb hr hlocks hAe hS (u_10, u_11) hv hP hD dX2_exchange_28
def wp_X1_forget (F_known : Int32) (F_rows : Int32) (Q : Int32 → Prop)   : Prop := Q 0
abbrev w0_X1_forget (g : cx_G) (a_F a_F_pivots a_F_reciprocals a_F_below : Nat) (F_known : Int32) (F_rows : Int32) : va_W := [(a_F, .inr (1, [.int F_known, .int F_rows, .ref a_F_pivots, .ref a_F_reciprocals, .ref a_F_below]))]
abbrev w1_X1_forget (g : cx_G) (a_F a_F_pivots a_F_reciprocals a_F_below : Nat) (F_known : Int32) (F_rows : Int32) (u : Int32) : va_W := [(a_F, .inr (1, [.int u, .int F_rows, .ref a_F_pivots, .ref a_F_reciprocals, .ref a_F_below]))]
set_option maxHeartbeats 4000000 in
set_option maxRecDepth 100000 in
theorem c_X1_forget (l : Launch) (g : cx_G) (a_F a_F_pivots a_F_reciprocals a_F_below : Nat) (F_known : Int32) (F_rows : Int32) {Q : Int32 → Prop} (hv : wp_X1_forget F_known F_rows Q) : cx_Mv l g yX1_forget (Cond.code yX1_forget cX1_forget 1 none :: cx_T) ({ frames := 0, cells := 0, slots := 0, locals := 0 } : Room) [.ref a_F] (w0_X1_forget g a_F a_F_pivots a_F_reciprocals a_F_below F_known F_rows) (fun (u : Int32) => Q u) (w1_X1_forget g a_F a_F_pivots a_F_reciprocals a_F_below F_known F_rows) 0 0 := by
  intro sz
  refine Met.ofW (cc := cX1_forget) (maxL := 1) (ret := none) (by decide) rfl ?_
  intro p e s m args below meth c s₁ B hml hpre
  obtain ⟨rfl, hsz, hP, hK, hD0⟩ := hpre
  have hx := B.exec
  have hb := B.bytes
  have hr := B.returns
  have hts0 := atoms_spec (ws := (Cond.code yX1_forget cX1_forget 1 none :: cx_T)) B.pre
  have hts : ∀ w ∈ cx_T, w.before _ s = true := fun w h => hts0 w (List.mem_cons_of_mem _ h)
  have hown : s.vm.findClass RX1 = some m.cls := findClass_of_methodNamed B.named
  have hlocks := B.notSynchronized
  subst hsz
  have hD := hD0.self (sz := s.heap.size)
  obtain ⟨A, hAe⟩ : ∃ A : Nat → Prop, A = va_A (w0_X1_forget g a_F a_F_pivots a_F_reciprocals a_F_below F_known F_rows) s.heap.size := ⟨_, rfl⟩
  rw [← hAe] at hD
  have hA : ∀ q : Nat, s.heap.size ≤ q → A q := fun q h => by rw [hAe]; exact Or.inr h
  have hS : va_S A s.heap s.heap [] := va_S.rf
  have hP : va_P g.1 vwCl [(a_F, .inr (1, [.int F_known, .int F_rows, .ref a_F_pivots, .ref a_F_reciprocals, .ref a_F_below]))] s.heap := hP
  have hD : va_D A [(a_F, .inr (1, [.int F_known, .int F_rows, .ref a_F_pivots, .ref a_F_reciprocals, .ref a_F_below]))] := hD
  have hl := lv_entry ([.ref a_F]) (n := 1) (Nat.le_of_ble_eq_true rfl)
  rw [lg_entry_eq]
  generalize (lg_sl ([.ref a_F]) ++ List.replicate (1 - (lg_sl ([.ref a_F])).length) Slot.unset).toArray = ls at hl ⊢
  have hl : lv_has ls 1 [(0, .ref a_F)] := hl
  unfold wp_X1_forget at hv
  refine lv_aload_n hx hb dX1_forget_0 rfl (lv_at hl 0 rfl) ?_
  refine lv_iconst (v := 0) hx hb dX1_forget_1 (by decide) ?_
  refine va_put (D := g.1) (ci := 1) (v := .int 0) (ty := .boolean) (C := RX1) (T := TX1) (N := 5) hx hb hts cw_in_X1 tyX1 tyX1_ok nmX1 hown hK.1 hP hD hS 0 rfl rfl 0 (by decide) (hts _ cw_f_X1_9) (fun _ h9 => h9) rfl (by decide +kernel) rfl rfl (Nat.le_of_ble_eq_true rfl) dX1_forget_2 (fun H locs hP hD hS => ?_)
  have hP : va_P g.1 vwCl [(a_F, .inr (1, [.int 0, .int F_rows, .ref a_F_pivots, .ref a_F_reciprocals, .ref a_F_below]))] H := hP
  have hD : va_D A [(a_F, .inr (1, [.int 0, .int F_rows, .ref a_F_pivots, .ref a_F_reciprocals, .ref a_F_below]))] := hD
  exact cx_vret hx hb hr hlocks hAe hS 0 hv hP hD dX1_forget_5
def wp_X2_allRows (P_rows : Int32) (Q : Int32 → Prop)   : Prop := Q ((f_bit P_rows) - 1)
abbrev w0_X2_allRows (g : cx_G) (a_P a_P_entries a_P_order a_P_places a_P_rights a_P_weights : Nat) (P_rows : Int32) : va_W := [(a_P, .inr (2, [.int P_rows, .ref a_P_entries, .ref a_P_order, .ref a_P_places, .ref a_P_rights, .ref a_P_weights]))]
set_option maxHeartbeats 4000000 in
set_option maxRecDepth 100000 in
theorem c_X2_allRows (l : Launch) (g : cx_G) (a_P a_P_entries a_P_order a_P_places a_P_rights a_P_weights : Nat) (P_rows : Int32) {Q : Int32 → Prop} (hv : wp_X2_allRows P_rows Q) : cx_Mi l g yX2_allRows (Cond.code yX2_allRows cX2_allRows 1 (some .int) :: cx_T) ({ frames := 1, cells := 0, slots := 0, locals := 20 } : Room) [.ref a_P] (w0_X2_allRows g a_P a_P_entries a_P_order a_P_places a_P_rights a_P_weights P_rows) (fun (r : Int32) (_ : Unit) => Q r) (fun _ : Unit => (w0_X2_allRows g a_P a_P_entries a_P_order a_P_places a_P_rights a_P_weights P_rows)) 0 0 := by
  intro sz
  refine Met.ofW (cc := cX2_allRows) (maxL := 1) (ret := (some .int)) (by decide) rfl ?_
  intro p e s m args below meth c s₁ B hml hpre
  obtain ⟨rfl, hsz, hP, hK, hD0⟩ := hpre
  have hx := B.exec
  have hb := B.bytes
  have hr := B.returns
  have hts0 := atoms_spec (ws := (Cond.code yX2_allRows cX2_allRows 1 (some .int) :: cx_T)) B.pre
  have hts : ∀ w ∈ cx_T, w.before _ s = true := fun w h => hts0 w (List.mem_cons_of_mem _ h)
  have hown : s.vm.findClass RX2 = some m.cls := findClass_of_methodNamed B.named
  have hlocks := B.notSynchronized
  subst hsz
  have hD := hD0.self (sz := s.heap.size)
  obtain ⟨A, hAe⟩ : ∃ A : Nat → Prop, A = va_A (w0_X2_allRows g a_P a_P_entries a_P_order a_P_places a_P_rights a_P_weights P_rows) s.heap.size := ⟨_, rfl⟩
  rw [← hAe] at hD
  have hA : ∀ q : Nat, s.heap.size ≤ q → A q := fun q h => by rw [hAe]; exact Or.inr h
  have hS : va_S A s.heap s.heap [] := va_S.rf
  have hP : va_P g.1 vwCl [(a_P, .inr (2, [.int P_rows, .ref a_P_entries, .ref a_P_order, .ref a_P_places, .ref a_P_rights, .ref a_P_weights]))] s.heap := hP
  have hD : va_D A [(a_P, .inr (2, [.int P_rows, .ref a_P_entries, .ref a_P_order, .ref a_P_places, .ref a_P_rights, .ref a_P_weights]))] := hD
  have hl := lv_entry ([.ref a_P]) (n := 1) (Nat.le_of_ble_eq_true rfl)
  rw [lg_entry_eq]
  generalize (lg_sl ([.ref a_P]) ++ List.replicate (1 - (lg_sl ([.ref a_P])).length) Slot.unset).toArray = ls at hl ⊢
  have hl : lv_has ls 1 [(0, .ref a_P)] := hl
  unfold wp_X2_allRows at hv
  refine lv_aload_n hx hb dX2_allRows_0 rfl (lv_at hl 0 rfl) ?_
  refine va_get (D := g.1) (ci := 2) (v := .int P_rows) (C := RX2) (T := TX2) (N := 6) hx hb hts cw_in_X2 hown hK.1 hP 0 rfl rfl 0 (by decide) (hts _ cw_f_X2_9) (fun _ h9 => h9) rfl dX2_allRows_1 ?_
  refine cx_iNr (As := [.int P_rows]) (rest := []) ⟨hx, hb, hml, hown, hts⟩ (cp_X4_bit l g P_rows) (cx_cwN 1 hts (hK.2.at 1 rfl) cw_t_X4_bit cw_n_X4 cw_c_X4_bit rfl rfl (by decide +kernel) ⟨Nat.le_of_ble_eq_true rfl, Nat.le_of_ble_eq_true rfl⟩) hK hP hD hS hA [] rfl rfl rfl hl.1 rfl (Nat.le_of_ble_eq_true rfl) dX2_allRows_4 ⟨Nat.le_of_ble_eq_true rfl, Nat.le_of_ble_eq_true rfl⟩ (fun r_1 H locs hr9 hP hS => ?_)
  replace hr9 : r_1 = (f_bit P_rows) := hr9
  subst hr9
  refine lv_iconst (v := 1) hx hb dX2_allRows_7 (by decide) ?_
  refine lv_isub hx hb dX2_allRows_8 ?_
  exact cx_iret hx hb hr hlocks hAe hS () hv hP hD dX2_allRows_9
def vc_X2_linksOf_0 (i_i : Int32) (P_rows : Int32) (P_entries : (Nat → Int32)) (Q : Int32 → Prop) (G1 : Int32 → Int32 → Prop)  : Prop := G1 0 0
def vc_X2_linksOf_1 (i_i : Int32) (P_rows : Int32) (P_entries : (Nat → Int32)) (Q : Int32 → Prop) (G1 : Int32 → Int32 → Prop) (x3 : Int32) (x2 : Int32) : Prop := (P_rows ≤ x3 → (Q x2)) ∧ (¬ P_rows ≤ x3 → ((x3 = i_i → (∀ x3_1 : Int32, x3_1 = x3 + 1 → (G1 x3_1 x2))) ∧ (¬ x3 = i_i → (wp_X2_entryAt i_i x3 P_rows P_entries (fun r_2 => (r_2 = 0 → (∀ x3_3 : Int32, x3_3 = x3 + 1 → (G1 x3_3 x2))) ∧ (¬ r_2 = 0 → (∀ x2_5 : Int32, x2_5 = (x2 ||| (f_bit x3)) → (∀ x3_6 : Int32, x3_6 = x3 + 1 → (G1 x3_6 x2_5)))))))))
def wp_X2_linksOf (i_i : Int32) (P_rows : Int32) (P_entries : (Nat → Int32)) (Q : Int32 → Prop) : Prop := True
theorem pu_X2_linksOf (i_i : Int32) (P_rows : Int32) (P_entries : (Nat → Int32)) {Q : Int32 → Prop} (hv : wp_X2_linksOf i_i P_rows P_entries Q) (G1 : Int32 → Int32 → Prop) (h1 : ∀ (x3 : Int32) (x2 : Int32), vc_X2_linksOf_1 i_i P_rows P_entries Q G1 x3 x2 → G1 x3 x2) : vc_X2_linksOf_0 i_i P_rows P_entries Q G1 := sorry
abbrev w0_X2_linksOf (g : cx_G) (a_P a_P_entries a_P_order a_P_places a_P_rights a_P_weights : Nat) (P_rows : Int32) (P_entries : (Nat → Int32)) : va_W := [(a_P, .inr (2, [.int P_rows, .ref a_P_entries, .ref a_P_order, .ref a_P_places, .ref a_P_rights, .ref a_P_weights])), (a_P_entries, .inl (g.2.1, 256, .inl P_entries))]
set_option maxHeartbeats 4000000 in
set_option maxRecDepth 100000 in
theorem c_X2_linksOf (l : Launch) (g : cx_G) (a_P a_P_entries a_P_order a_P_places a_P_rights a_P_weights : Nat) (i_i : Int32) (P_rows : Int32) (P_entries : (Nat → Int32)) {Q : Int32 → Prop} (hv : wp_X2_linksOf i_i P_rows P_entries Q) : cx_Mi l g yX2_linksOf (Cond.code yX2_linksOf cX2_linksOf 4 (some .int) :: cx_T) ({ frames := 2, cells := 0, slots := 0, locals := 43 } : Room) [.ref a_P, .int i_i] (w0_X2_linksOf g a_P a_P_entries a_P_order a_P_places a_P_rights a_P_weights P_rows P_entries) (fun (r : Int32) (_ : Unit) => Q r) (fun _ : Unit => (w0_X2_linksOf g a_P a_P_entries a_P_order a_P_places a_P_rights a_P_weights P_rows P_entries)) 0 0 := by
  intro sz
  refine Met.ofW (cc := cX2_linksOf) (maxL := 4) (ret := (some .int)) (by decide) rfl ?_
  intro p e s m args below meth c s₁ B hml hpre
  obtain ⟨rfl, hsz, hP, hK, hD0⟩ := hpre
  have hx := B.exec
  have hb := B.bytes
  have hr := B.returns
  have hts0 := atoms_spec (ws := (Cond.code yX2_linksOf cX2_linksOf 4 (some .int) :: cx_T)) B.pre
  have hts : ∀ w ∈ cx_T, w.before _ s = true := fun w h => hts0 w (List.mem_cons_of_mem _ h)
  have hown : s.vm.findClass RX2 = some m.cls := findClass_of_methodNamed B.named
  have hlocks := B.notSynchronized
  subst hsz
  have hD := hD0.self (sz := s.heap.size)
  obtain ⟨A, hAe⟩ : ∃ A : Nat → Prop, A = va_A (w0_X2_linksOf g a_P a_P_entries a_P_order a_P_places a_P_rights a_P_weights P_rows P_entries) s.heap.size := ⟨_, rfl⟩
  rw [← hAe] at hD
  have hA : ∀ q : Nat, s.heap.size ≤ q → A q := fun q h => by rw [hAe]; exact Or.inr h
  have hS : va_S A s.heap s.heap [] := va_S.rf
  have hP : va_P g.1 vwCl [(a_P, .inr (2, [.int P_rows, .ref a_P_entries, .ref a_P_order, .ref a_P_places, .ref a_P_rights, .ref a_P_weights])), (a_P_entries, .inl (g.2.1, 256, .inl P_entries))] s.heap := hP
  have hD : va_D A [(a_P, .inr (2, [.int P_rows, .ref a_P_entries, .ref a_P_order, .ref a_P_places, .ref a_P_rights, .ref a_P_weights])), (a_P_entries, .inl (g.2.1, 256, .inl P_entries))] := hD
  have hl := lv_entry ([.ref a_P, .int i_i]) (n := 4) (Nat.le_of_ble_eq_true rfl)
  rw [lg_entry_eq]
  generalize (lg_sl ([.ref a_P, .int i_i]) ++ List.replicate (4 - (lg_sl ([.ref a_P, .int i_i])).length) Slot.unset).toArray = ls at hl ⊢
  have hl : lv_has ls 4 [(0, .ref a_P), (1, .int i_i)] := hl
  obtain ⟨G1, hG1⟩ : ∃ G : Int32 → Int32 → Prop, G = (fun (x3 : Int32) (x2 : Int32) => ∀ (H : Heap) (locs : List Loc) (ls : Array Slot), va_P g.1 vwCl [(a_P, .inr (2, [.int P_rows, .ref a_P_entries, .ref a_P_order, .ref a_P_places, .ref a_P_rights, .ref a_P_weights])), (a_P_entries, .inl (g.2.1, 256, .inl P_entries))] H → va_D A [(a_P, .inr (2, [.int P_rows, .ref a_P_entries, .ref a_P_order, .ref a_P_places, .ref a_P_rights, .ref a_P_weights])), (a_P_entries, .inl (g.2.1, 256, .inl P_entries))] → va_S A s.heap H locs → lv_has ls 4 [(3, .int x3), (2, .int x2), (0, .ref a_P), (1, .int i_i)] → W p l e (headSpec (Cond.code yX2_linksOf cX2_linksOf 4 (some .int) :: cx_T) ({ frames := 2, cells := 0, slots := 0, locals := 43 } : Room)).room s m ([.ref a_P, .int i_i] : List Value).toArray below meth c H locs 0 0 (MQ below (va_Qi (fun (r : Int32) (_ : Unit) => Q r) (cx_B g (w0_X2_linksOf g a_P a_P_entries a_P_order a_P_places a_P_rights a_P_weights P_rows P_entries) s.heap.size (fun _ : Unit => (w0_X2_linksOf g a_P a_P_entries a_P_order a_P_places a_P_rights a_P_weights P_rows P_entries))) (va_A (w0_X2_linksOf g a_P a_P_entries a_P_order a_P_places a_P_rights a_P_weights P_rows P_entries) s.heap.size)) ([.ref a_P, .int i_i] : List Value).toArray s 0 0 (va_A (w0_X2_linksOf g a_P a_P_entries a_P_order a_P_places a_P_rights a_P_weights P_rows P_entries) s.heap.size)) (F0 m 4 ls [])) := ⟨_, rfl⟩
  have hs1 : ∀ (x3 : Int32) (x2 : Int32), vc_X2_linksOf_1 i_i P_rows P_entries Q G1 x3 x2 → G1 x3 x2 := by
    rw [hG1]
    intro x3 x2 hv H locs ls hP hD hS hl
    unfold vc_X2_linksOf_1 at hv
    refine lv_iload_n hx hb dX2_linksOf_4 rfl (lv_at hl 0 rfl) ?_
    refine lv_aload_n hx hb dX2_linksOf_5 rfl (lv_at hl 2 rfl) ?_
    refine va_get (D := g.1) (ci := 2) (v := .int P_rows) (C := RX2) (T := TX2) (N := 6) hx hb hts cw_in_X2 hown hK.1 hP 0 rfl rfl 0 (by decide) (hts _ cw_f_X2_9) (fun _ h9 => h9) rfl dX2_linksOf_6 ?_
    refine lv_icmp_ge (tgt := 39) hx hb dX2_linksOf_9 (by decide) (fun hc => ?_) (fun hc => ?_)
    · replace hv := hv.1 hc
      refine lv_iload_n hx hb dX2_linksOf_39 rfl (lv_at hl 1 rfl) ?_
      exact cx_iret hx hb hr hlocks hAe hS () hv hP hD dX2_linksOf_40
    · replace hv := hv.2 hc
      refine lv_iload_n hx hb dX2_linksOf_12 rfl (lv_at hl 0 rfl) ?_
      refine lv_iload_n hx hb dX2_linksOf_13 rfl (lv_at hl 3 rfl) ?_
      refine lv_icmp_eq (tgt := 33) hx hb dX2_linksOf_14 (by decide) (fun hc => ?_) (fun hc => ?_)
      · replace hv := hv.1 hc
        obtain ⟨x3_1, ex3_1⟩ : ∃ y : Int32, y = x3 + 1 := ⟨_, rfl⟩
        replace hv := hv x3_1 ex3_1
        refine lv_iinc (v := x3_1) (lv' := [(3, .int x3_1), (2, .int x2), (0, .ref a_P), (1, .int i_i)]) hx hb dX2_linksOf_33 hl (k := 0) rfl (by rw [ex3_1]; rfl) (by decide) rfl (fun ls hl => ?_)
        refine lv_goto (tgt := 4) hx hb dX2_linksOf_36 (by decide) ?_
        exact hv _ _ _ hP hD hS (lv_sub hl [0, 1, 2, 3] rfl)
      · replace hv := hv.2 hc
        refine lv_aload_n hx hb dX2_linksOf_17 rfl (lv_at hl 2 rfl) ?_
        refine lv_iload_n hx hb dX2_linksOf_18 rfl (lv_at hl 3 rfl) ?_
        refine lv_iload_n hx hb dX2_linksOf_19 rfl (lv_at hl 0 rfl) ?_
        refine cx_iVr (As := [.int i_i, .int x3]) (rest := []) ⟨hx, hb, hml, hown, hts⟩ (c_X2_entryAt l g a_P a_P_entries a_P_order a_P_places a_P_rights a_P_weights i_i x3 P_rows P_entries hv) (cx_cwV 2 hts cw_m_X2_48 cw_i_X2_entryAt cw_s_X2_entryAt cw_n_X2 cw_c_X2_entryAt rfl rfl (by decide +kernel) ⟨Nat.le_of_ble_eq_true rfl, Nat.le_of_ble_eq_true rfl⟩) hK hP hD hS hA 0 2 rfl rfl [0, 1] rfl rfl rfl hl.1 rfl (Nat.le_of_ble_eq_true rfl) dX2_linksOf_20 ⟨Nat.le_of_ble_eq_true rfl, Nat.le_of_ble_eq_true rfl⟩ (fun r_2 H locs hv hP hS => ?_)
        refine lv_if_eq (tgt := 33) hx hb dX2_linksOf_23 (by decide) (fun hc => ?_) (fun hc => ?_)
        · replace hv := hv.1 hc
          obtain ⟨x3_3, ex3_3⟩ : ∃ y : Int32, y = x3 + 1 := ⟨_, rfl⟩
          replace hv := hv x3_3 ex3_3
          refine lv_iinc (v := x3_3) (lv' := [(3, .int x3_3), (2, .int x2), (0, .ref a_P), (1, .int i_i)]) hx hb dX2_linksOf_33 hl (k := 0) rfl (by rw [ex3_3]; rfl) (by decide) rfl (fun ls hl => ?_)
          refine lv_goto (tgt := 4) hx hb dX2_linksOf_36 (by decide) ?_
          exact hv _ _ _ hP hD hS (lv_sub hl [0, 1, 2, 3] rfl)
        · replace hv := hv.2 hc
          refine lv_iload_n hx hb dX2_linksOf_26 rfl (lv_at hl 1 rfl) ?_
          refine lv_iload_n hx hb dX2_linksOf_27 rfl (lv_at hl 0 rfl) ?_
          refine cx_iNr (As := [.int x3]) (rest := [.int x2]) ⟨hx, hb, hml, hown, hts⟩ (cp_X4_bit l g x3) (cx_cwN 1 hts (hK.2.at 1 rfl) cw_t_X4_bit cw_n_X4 cw_c_X4_bit rfl rfl (by decide +kernel) ⟨Nat.le_of_ble_eq_true rfl, Nat.le_of_ble_eq_true rfl⟩) hK hP hD hS hA [] rfl rfl rfl hl.1 rfl (Nat.le_of_ble_eq_true rfl) dX2_linksOf_28 ⟨Nat.le_of_ble_eq_true rfl, Nat.le_of_ble_eq_true rfl⟩ (fun r_4 H locs hr9 hP hS => ?_)
          replace hr9 : r_4 = (f_bit x3) := hr9
          subst hr9
          refine lv_ior hx hb dX2_linksOf_31 ?_
          refine lv_topi (fun x2_5 ex2_5 => ?_)
          replace hv := hv x2_5 ex2_5
          refine lv_istore_n (lv' := [(2, .int x2_5), (3, .int x3), (0, .ref a_P), (1, .int i_i)]) hx hb dX2_linksOf_32 rfl hl (by decide) rfl (fun ls hl => ?_)
          obtain ⟨x3_6, ex3_6⟩ : ∃ y : Int32, y = x3 + 1 := ⟨_, rfl⟩
          replace hv := hv x3_6 ex3_6
          refine lv_iinc (v := x3_6) (lv' := [(3, .int x3_6), (2, .int x2_5), (0, .ref a_P), (1, .int i_i)]) hx hb dX2_linksOf_33 hl (k := 1) rfl (by rw [ex3_6]; rfl) (by decide) rfl (fun ls hl => ?_)
          refine lv_goto (tgt := 4) hx hb dX2_linksOf_36 (by decide) ?_
          exact hv _ _ _ hP hD hS (lv_sub hl [0, 1, 2, 3] rfl)
  replace hv := pu_X2_linksOf i_i P_rows P_entries hv G1 hs1
  rw [hG1] at hv
  unfold vc_X2_linksOf_0 at hv
  refine lv_iconst (v := 0) hx hb dX2_linksOf_0 (by decide) ?_
  refine lv_istore_n (lv' := [(2, .int 0), (0, .ref a_P), (1, .int i_i)]) hx hb dX2_linksOf_1 rfl hl (by decide) rfl (fun ls hl => ?_)
  refine lv_iconst (v := 0) hx hb dX2_linksOf_2 (by decide) ?_
  refine lv_istore_n (lv' := [(3, .int 0), (2, .int 0), (0, .ref a_P), (1, .int i_i)]) hx hb dX2_linksOf_3 rfl hl (by decide) rfl (fun ls hl => ?_)
  exact hv _ _ _ hP hD hS (lv_sub hl [0, 1, 2, 3] rfl)
def vc_X2_turnRound_0 (P_rows : Int32) (P_order : (Nat → Int32)) (P_places : (Nat → Int32)) (Q : (Nat → Int32) → (Nat → Int32) → Prop) (G1 : Int32 → (Nat → Int32) → (Nat → Int32) → Prop)  : Prop := G1 0 P_order P_places
def vc_X2_turnRound_1 (P_rows : Int32) (P_order : (Nat → Int32)) (P_places : (Nat → Int32)) (Q : (Nat → Int32) → (Nat → Int32) → Prop) (G1 : Int32 → (Nat → Int32) → (Nat → Int32) → Prop) (x1 : Int32) (v_P_order : (Nat → Int32)) (v_P_places : (Nat → Int32)) : Prop := ((P_rows / 2) ≤ x1 → (Q v_P_order v_P_places)) ∧ (¬ (P_rows / 2) ≤ x1 → (wp_X2_exchange x1 ((P_rows - 1) - x1) P_rows v_P_order v_P_places (fun u_2 u_3 => ∀ x1_5 : Int32, x1_5 = x1 + 1 → (G1 x1_5 u_2 u_3))))
def wp_X2_turnRound (P_rows : Int32) (P_order : (Nat → Int32)) (P_places : (Nat → Int32)) (Q : (Nat → Int32) → (Nat → Int32) → Prop) : Prop := True
theorem pu_X2_turnRound (P_rows : Int32) (P_order : (Nat → Int32)) (P_places : (Nat → Int32)) {Q : (Nat → Int32) → (Nat → Int32) → Prop} (hv : wp_X2_turnRound P_rows P_order P_places Q) (G1 : Int32 → (Nat → Int32) → (Nat → Int32) → Prop) (h1 : ∀ (x1 : Int32) (v_P_order : (Nat → Int32)) (v_P_places : (Nat → Int32)), vc_X2_turnRound_1 P_rows P_order P_places Q G1 x1 v_P_order v_P_places → G1 x1 v_P_order v_P_places) : vc_X2_turnRound_0 P_rows P_order P_places Q G1 := sorry
abbrev w0_X2_turnRound (g : cx_G) (a_P a_P_entries a_P_order a_P_places a_P_rights a_P_weights : Nat) (P_rows : Int32) (P_order : (Nat → Int32)) (P_places : (Nat → Int32)) : va_W := [(a_P, .inr (2, [.int P_rows, .ref a_P_entries, .ref a_P_order, .ref a_P_places, .ref a_P_rights, .ref a_P_weights])), (a_P_order, .inl (g.2.1, 16, .inl P_order)), (a_P_places, .inl (g.2.1, 16, .inl P_places))]
abbrev w1_X2_turnRound (g : cx_G) (a_P a_P_entries a_P_order a_P_places a_P_rights a_P_weights : Nat) (P_rows : Int32) (P_order : (Nat → Int32)) (P_places : (Nat → Int32)) (u : (Nat → Int32) × (Nat → Int32)) : va_W := [(a_P, .inr (2, [.int P_rows, .ref a_P_entries, .ref a_P_order, .ref a_P_places, .ref a_P_rights, .ref a_P_weights])), (a_P_order, .inl (g.2.1, 16, .inl u.1)), (a_P_places, .inl (g.2.1, 16, .inl u.2))]
set_option maxHeartbeats 4000000 in
set_option maxRecDepth 100000 in
theorem c_X2_turnRound (l : Launch) (g : cx_G) (a_P a_P_entries a_P_order a_P_places a_P_rights a_P_weights : Nat) (P_rows : Int32) (P_order : (Nat → Int32)) (P_places : (Nat → Int32)) {Q : (Nat → Int32) → (Nat → Int32) → Prop} (hv : wp_X2_turnRound P_rows P_order P_places Q) : cx_Mv l g yX2_turnRound (Cond.code yX2_turnRound cX2_turnRound 2 none :: cx_T) ({ frames := 2, cells := 0, slots := 0, locals := 46 } : Room) [.ref a_P] (w0_X2_turnRound g a_P a_P_entries a_P_order a_P_places a_P_rights a_P_weights P_rows P_order P_places) (fun (u : (Nat → Int32) × (Nat → Int32)) => Q u.1 u.2) (w1_X2_turnRound g a_P a_P_entries a_P_order a_P_places a_P_rights a_P_weights P_rows P_order P_places) 0 0 := by
  intro sz
  refine Met.ofW (cc := cX2_turnRound) (maxL := 2) (ret := none) (by decide) rfl ?_
  intro p e s m args below meth c s₁ B hml hpre
  obtain ⟨rfl, hsz, hP, hK, hD0⟩ := hpre
  have hx := B.exec
  have hb := B.bytes
  have hr := B.returns
  have hts0 := atoms_spec (ws := (Cond.code yX2_turnRound cX2_turnRound 2 none :: cx_T)) B.pre
  have hts : ∀ w ∈ cx_T, w.before _ s = true := fun w h => hts0 w (List.mem_cons_of_mem _ h)
  have hown : s.vm.findClass RX2 = some m.cls := findClass_of_methodNamed B.named
  have hlocks := B.notSynchronized
  subst hsz
  have hD := hD0.self (sz := s.heap.size)
  obtain ⟨A, hAe⟩ : ∃ A : Nat → Prop, A = va_A (w0_X2_turnRound g a_P a_P_entries a_P_order a_P_places a_P_rights a_P_weights P_rows P_order P_places) s.heap.size := ⟨_, rfl⟩
  rw [← hAe] at hD
  have hA : ∀ q : Nat, s.heap.size ≤ q → A q := fun q h => by rw [hAe]; exact Or.inr h
  have hS : va_S A s.heap s.heap [] := va_S.rf
  have hP : va_P g.1 vwCl [(a_P, .inr (2, [.int P_rows, .ref a_P_entries, .ref a_P_order, .ref a_P_places, .ref a_P_rights, .ref a_P_weights])), (a_P_order, .inl (g.2.1, 16, .inl P_order)), (a_P_places, .inl (g.2.1, 16, .inl P_places))] s.heap := hP
  have hD : va_D A [(a_P, .inr (2, [.int P_rows, .ref a_P_entries, .ref a_P_order, .ref a_P_places, .ref a_P_rights, .ref a_P_weights])), (a_P_order, .inl (g.2.1, 16, .inl P_order)), (a_P_places, .inl (g.2.1, 16, .inl P_places))] := hD
  have hl := lv_entry ([.ref a_P]) (n := 2) (Nat.le_of_ble_eq_true rfl)
  rw [lg_entry_eq]
  generalize (lg_sl ([.ref a_P]) ++ List.replicate (2 - (lg_sl ([.ref a_P])).length) Slot.unset).toArray = ls at hl ⊢
  have hl : lv_has ls 2 [(0, .ref a_P)] := hl
  obtain ⟨G1, hG1⟩ : ∃ G : Int32 → (Nat → Int32) → (Nat → Int32) → Prop, G = (fun (x1 : Int32) (v_P_order : (Nat → Int32)) (v_P_places : (Nat → Int32)) => ∀ (H : Heap) (locs : List Loc) (ls : Array Slot), va_P g.1 vwCl [(a_P, .inr (2, [.int P_rows, .ref a_P_entries, .ref a_P_order, .ref a_P_places, .ref a_P_rights, .ref a_P_weights])), (a_P_order, .inl (g.2.1, 16, .inl v_P_order)), (a_P_places, .inl (g.2.1, 16, .inl v_P_places))] H → va_D A [(a_P, .inr (2, [.int P_rows, .ref a_P_entries, .ref a_P_order, .ref a_P_places, .ref a_P_rights, .ref a_P_weights])), (a_P_order, .inl (g.2.1, 16, .inl v_P_order)), (a_P_places, .inl (g.2.1, 16, .inl v_P_places))] → va_S A s.heap H locs → lv_has ls 2 [(1, .int x1), (0, .ref a_P)] → W p l e (headSpec (Cond.code yX2_turnRound cX2_turnRound 2 none :: cx_T) ({ frames := 2, cells := 0, slots := 0, locals := 46 } : Room)).room s m ([.ref a_P] : List Value).toArray below meth c H locs 0 0 (MQ below (va_Qv (fun (u : (Nat → Int32) × (Nat → Int32)) => Q u.1 u.2) (cx_B g (w0_X2_turnRound g a_P a_P_entries a_P_order a_P_places a_P_rights a_P_weights P_rows P_order P_places) s.heap.size (w1_X2_turnRound g a_P a_P_entries a_P_order a_P_places a_P_rights a_P_weights P_rows P_order P_places)) (va_A (w0_X2_turnRound g a_P a_P_entries a_P_order a_P_places a_P_rights a_P_weights P_rows P_order P_places) s.heap.size)) ([.ref a_P] : List Value).toArray s 0 0 (va_A (w0_X2_turnRound g a_P a_P_entries a_P_order a_P_places a_P_rights a_P_weights P_rows P_order P_places) s.heap.size)) (F0 m 2 ls [])) := ⟨_, rfl⟩
  have hs1 : ∀ (x1 : Int32) (v_P_order : (Nat → Int32)) (v_P_places : (Nat → Int32)), vc_X2_turnRound_1 P_rows P_order P_places Q G1 x1 v_P_order v_P_places → G1 x1 v_P_order v_P_places := by
    rw [hG1]
    intro x1 v_P_order v_P_places hv H locs ls hP hD hS hl
    unfold vc_X2_turnRound_1 at hv
    refine lv_iload_n hx hb dX2_turnRound_2 rfl (lv_at hl 0 rfl) ?_
    refine lv_aload_n hx hb dX2_turnRound_3 rfl (lv_at hl 1 rfl) ?_
    refine va_get (D := g.1) (ci := 2) (v := .int P_rows) (C := RX2) (T := TX2) (N := 6) hx hb hts cw_in_X2 hown hK.1 hP 0 rfl rfl 0 (by decide) (hts _ cw_f_X2_9) (fun _ h9 => h9) rfl dX2_turnRound_4 ?_
    refine lv_iconst (v := 2) hx hb dX2_turnRound_7 (by decide) ?_
    refine lv_idiv hx hb dX2_turnRound_8 (by decide) ?_
    refine lv_icmp_ge (tgt := 31) hx hb dX2_turnRound_9 (by decide) (fun hc => ?_) (fun hc => ?_)
    · replace hv := hv.1 hc
      exact cx_vret hx hb hr hlocks hAe hS (v_P_order, v_P_places) hv hP hD dX2_turnRound_31
    · replace hv := hv.2 hc
      refine lv_aload_n hx hb dX2_turnRound_12 rfl (lv_at hl 1 rfl) ?_
      refine lv_iload_n hx hb dX2_turnRound_13 rfl (lv_at hl 0 rfl) ?_
      refine lv_aload_n hx hb dX2_turnRound_14 rfl (lv_at hl 1 rfl) ?_
      refine va_get (D := g.1) (ci := 2) (v := .int P_rows) (C := RX2) (T := TX2) (N := 6) hx hb hts cw_in_X2 hown hK.1 hP 0 rfl rfl 0 (by decide) (hts _ cw_f_X2_9) (fun _ h9 => h9) rfl dX2_turnRound_15 ?_
      refine lv_iconst (v := 1) hx hb dX2_turnRound_18 (by decide) ?_
      refine lv_isub hx hb dX2_turnRound_19 ?_
      refine lv_iload_n hx hb dX2_turnRound_20 rfl (lv_at hl 0 rfl) ?_
      refine lv_isub hx hb dX2_turnRound_21 ?_
      refine cx_vV (wr := []) (As := [.int x1, .int ((P_rows - 1) - x1)]) (rest := []) ⟨hx, hb, hml, hown, hts⟩ (c_X2_exchange l g a_P a_P_entries a_P_order a_P_places a_P_rights a_P_weights x1 ((P_rows - 1) - x1) P_rows v_P_order v_P_places hv) (cx_cwV 2 hts cw_m_X2_75 cw_i_X2_exchange cw_s_X2_exchange cw_n_X2 cw_c_X2_exchange rfl rfl (by decide +kernel) ⟨Nat.le_of_ble_eq_true rfl, Nat.le_of_ble_eq_true rfl⟩) hK hP hD hS hA 0 2 rfl rfl [0, 1, 2] [] rfl rfl rfl rfl (by decide) rfl hl.1 rfl (Nat.le_of_ble_eq_true rfl) dX2_turnRound_22 ⟨Nat.le_of_ble_eq_true rfl, Nat.le_of_ble_eq_true rfl⟩ (fun w_4 H locs hv hP hD hS => ?_)
      obtain ⟨u_2, u_3⟩ := w_4
      have hP : va_P g.1 vwCl [(a_P, .inr (2, [.int P_rows, .ref a_P_entries, .ref a_P_order, .ref a_P_places, .ref a_P_rights, .ref a_P_weights])), (a_P_order, .inl (g.2.1, 16, .inl u_2)), (a_P_places, .inl (g.2.1, 16, .inl u_3))] H := hP.sub [0, 1, 2] rfl
      have hD : va_D A [(a_P, .inr (2, [.int P_rows, .ref a_P_entries, .ref a_P_order, .ref a_P_places, .ref a_P_rights, .ref a_P_weights])), (a_P_order, .inl (g.2.1, 16, .inl u_2)), (a_P_places, .inl (g.2.1, 16, .inl u_3))] := hD.sub [0, 1, 2] (by decide) rfl
      obtain ⟨x1_5, ex1_5⟩ : ∃ y : Int32, y = x1 + 1 := ⟨_, rfl⟩
      replace hv := hv x1_5 ex1_5
      refine lv_iinc (v := x1_5) (lv' := [(1, .int x1_5), (0, .ref a_P)]) hx hb dX2_turnRound_25 hl (k := 0) rfl (by rw [ex1_5]; rfl) (by decide) rfl (fun ls hl => ?_)
      refine lv_goto (tgt := 2) hx hb dX2_turnRound_28 (by decide) ?_
      exact hv _ _ _ hP hD hS (lv_sub hl [0, 1] rfl)
  replace hv := pu_X2_turnRound P_rows P_order P_places hv G1 hs1
  rw [hG1] at hv
  unfold vc_X2_turnRound_0 at hv
  refine lv_iconst (v := 0) hx hb dX2_turnRound_0 (by decide) ?_
  refine lv_istore_n (lv' := [(1, .int 0), (0, .ref a_P)]) hx hb dX2_turnRound_1 rfl hl (by decide) rfl (fun ls hl => ?_)
  exact hv _ _ _ hP hD hS (lv_sub hl [0, 1] rfl)
