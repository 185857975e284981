def vc_X5_rest_0 (i_i : Int32) (i_k : Int32) (i_m : Int32) (M_thrown : Int32) (M_n : Int32) (M_hasFactors : Int32) (M_hasSolution : Int32) (M_levels : Int32) (M_rowAt : (Nat → Int32)) (M_a : (Nat → Int32)) (M_lower : (Nat → Int32)) (M_pivots : (Nat → Int32)) (Q : Int32 → Prop) (G1 : Int32 → Int32 → Prop)  : Prop := vp_in i_i 16 ∧ (vp_in i_k 16 ∧ (vp_in (f_at (M_rowAt (Int32.toNatClampNeg i_i)) (M_rowAt (Int32.toNatClampNeg i_k))) 256 ∧ (∀ x4_5 : Int32, x4_5 = (M_a (Int32.toNatClampNeg (f_at (M_rowAt (Int32.toNatClampNeg i_i)) (M_rowAt (Int32.toNatClampNeg i_k))))) → (G1 0 x4_5))))
def vc_X5_rest_1 (i_i : Int32) (i_k : Int32) (i_m : Int32) (M_thrown : Int32) (M_n : Int32) (M_hasFactors : Int32) (M_hasSolution : Int32) (M_levels : Int32) (M_rowAt : (Nat → Int32)) (M_a : (Nat → Int32)) (M_lower : (Nat → Int32)) (M_pivots : (Nat → Int32)) (Q : Int32 → Prop) (G1 : Int32 → Int32 → Prop) (x5 : Int32) (x4 : Int32) : Prop := (i_m ≤ x5 → (Q x4)) ∧ (¬ i_m ≤ x5 → (vp_in (f_at i_i x5) 256 ∧ (vp_in (f_at i_k x5) 256 ∧ (vp_in x5 16 ∧ (∀ x4_9 : Int32, x4_9 = (g_minus x4 (f_times (f_times (M_lower (Int32.toNatClampNeg (f_at i_i x5))) (M_lower (Int32.toNatClampNeg (f_at i_k x5)))) (M_pivots (Int32.toNatClampNeg x5)))) → (∀ x5_10 : Int32, x5_10 = x5 + 1 → (G1 x5_10 x4_9)))))))
def wp_X5_rest (i_i : Int32) (i_k : Int32) (i_m : Int32) (M_thrown : Int32) (M_n : Int32) (M_hasFactors : Int32) (M_hasSolution : Int32) (M_levels : Int32) (M_rowAt : (Nat → Int32)) (M_a : (Nat → Int32)) (M_lower : (Nat → Int32)) (M_pivots : (Nat → Int32)) (Q : Int32 → Prop) : Prop := ∀ (G1 : Int32 → Int32 → Prop), (∀ (x5 : Int32) (x4 : Int32), vc_X5_rest_1 i_i i_k i_m M_thrown M_n M_hasFactors M_hasSolution M_levels M_rowAt M_a M_lower M_pivots Q G1 x5 x4 → G1 x5 x4) → vc_X5_rest_0 i_i i_k i_m M_thrown M_n M_hasFactors M_hasSolution M_levels M_rowAt M_a M_lower M_pivots Q G1
abbrev w0_X5_rest (g : cx_G) (a_M a_M_a a_M_rowAt a_M_places a_M_rights a_M_weights a_M_pivots a_M_lower a_M_solution a_M_work a_M_isJoined a_M_stored : Nat) (M_thrown : Int32) (M_n : Int32) (M_hasFactors : Int32) (M_hasSolution : Int32) (M_levels : Int32) (M_rowAt : (Nat → Int32)) (M_a : (Nat → Int32)) (M_lower : (Nat → Int32)) (M_pivots : (Nat → Int32)) : va_W := [(a_M, .inr (5, [.int M_thrown, .int M_n, .ref a_M_a, .ref a_M_rowAt, .ref a_M_places, .ref a_M_rights, .ref a_M_weights, .int M_hasFactors, .ref a_M_pivots, .ref a_M_lower, .int M_hasSolution, .ref a_M_solution, .ref a_M_work, .ref a_M_isJoined, .int M_levels, .ref a_M_stored])), (a_M_rowAt, .inl (g.2.1, 16, .inl M_rowAt)), (a_M_a, .inl (g.2.1, 256, .inl M_a)), (a_M_lower, .inl (g.2.1, 256, .inl M_lower)), (a_M_pivots, .inl (g.2.1, 16, .inl M_pivots))]
set_option maxHeartbeats 4000000 in
set_option maxRecDepth 100000 in
theorem c_X5_rest (l : Launch) (g : cx_G) (a_M a_M_a a_M_rowAt a_M_places a_M_rights a_M_weights a_M_pivots a_M_lower a_M_solution a_M_work a_M_isJoined a_M_stored : Nat) (i_i : Int32) (i_k : Int32) (i_m : Int32) (M_thrown : Int32) (M_n : Int32) (M_hasFactors : Int32) (M_hasSolution : Int32) (M_levels : Int32) (M_rowAt : (Nat → Int32)) (M_a : (Nat → Int32)) (M_lower : (Nat → Int32)) (M_pivots : (Nat → Int32)) {Q : Int32 → Prop} (hv : wp_X5_rest i_i i_k i_m M_thrown M_n M_hasFactors M_hasSolution M_levels M_rowAt M_a M_lower M_pivots Q) : cx_Mi l g yX5_rest (Cond.code yX5_rest cX5_rest 6 (some .int) :: cx_T) ({ frames := 1, cells := 0, slots := 0, locals := 21 } : Room) [.ref a_M, .int i_i, .int i_k, .int i_m] (w0_X5_rest g a_M a_M_a a_M_rowAt a_M_places a_M_rights a_M_weights a_M_pivots a_M_lower a_M_solution a_M_work a_M_isJoined a_M_stored M_thrown M_n M_hasFactors M_hasSolution M_levels M_rowAt M_a M_lower M_pivots) (fun (r : Int32) (_ : Unit) => Q r) (fun _ : Unit => (w0_X5_rest g a_M a_M_a a_M_rowAt a_M_places a_M_rights a_M_weights a_M_pivots a_M_lower a_M_solution a_M_work a_M_isJoined a_M_stored M_thrown M_n M_hasFactors M_hasSolution M_levels M_rowAt M_a M_lower M_pivots)) 0 0 := by
  intro sz
  refine Met.ofW (cc := cX5_rest) (maxL := 6) (ret := (some .int)) (by decide) rfl ?_
  intro p e s m args below meth c s₁ B hml hpre
  obtain ⟨rfl, hsz, hP, hK, hD0⟩ := hpre
  have hx := B.exec
  have hb := B.bytes
  have hr := B.returns
  have hts0 := atoms_spec (ws := (Cond.code yX5_rest cX5_rest 6 (some .int) :: cx_T)) B.pre
  have hts : ∀ w ∈ cx_T, w.before _ s = true := fun w h => hts0 w (List.mem_cons_of_mem _ h)
  have hown : s.vm.findClass RX5 = some m.cls := findClass_of_methodNamed B.named
  have hlocks := B.notSynchronized
  subst hsz
  have hD := hD0.self (sz := s.heap.size)
  obtain ⟨A, hAe⟩ : ∃ A : Nat → Prop, A = va_A (w0_X5_rest g a_M a_M_a a_M_rowAt a_M_places a_M_rights a_M_weights a_M_pivots a_M_lower a_M_solution a_M_work a_M_isJoined a_M_stored M_thrown M_n M_hasFactors M_hasSolution M_levels M_rowAt M_a M_lower M_pivots) s.heap.size := ⟨_, rfl⟩
  rw [← hAe] at hD
  have hA : ∀ q : Nat, s.heap.size ≤ q → A q := fun q h => by rw [hAe]; exact Or.inr h
  have hS : va_S A s.heap s.heap [] := va_S.rf
  have hP : va_P g.1 vwCl [(a_M, .inr (5, [.int M_thrown, .int M_n, .ref a_M_a, .ref a_M_rowAt, .ref a_M_places, .ref a_M_rights, .ref a_M_weights, .int M_hasFactors, .ref a_M_pivots, .ref a_M_lower, .int M_hasSolution, .ref a_M_solution, .ref a_M_work, .ref a_M_isJoined, .int M_levels, .ref a_M_stored])), (a_M_rowAt, .inl (g.2.1, 16, .inl M_rowAt)), (a_M_a, .inl (g.2.1, 256, .inl M_a)), (a_M_lower, .inl (g.2.1, 256, .inl M_lower)), (a_M_pivots, .inl (g.2.1, 16, .inl M_pivots))] s.heap := hP
  have hD : va_D A [(a_M, .inr (5, [.int M_thrown, .int M_n, .ref a_M_a, .ref a_M_rowAt, .ref a_M_places, .ref a_M_rights, .ref a_M_weights, .int M_hasFactors, .ref a_M_pivots, .ref a_M_lower, .int M_hasSolution, .ref a_M_solution, .ref a_M_work, .ref a_M_isJoined, .int M_levels, .ref a_M_stored])), (a_M_rowAt, .inl (g.2.1, 16, .inl M_rowAt)), (a_M_a, .inl (g.2.1, 256, .inl M_a)), (a_M_lower, .inl (g.2.1, 256, .inl M_lower)), (a_M_pivots, .inl (g.2.1, 16, .inl M_pivots))] := hD
  have hl := lv_entry ([.ref a_M, .int i_i, .int i_k, .int i_m]) (n := 6) (Nat.le_of_ble_eq_true rfl)
  rw [lg_entry_eq]
  generalize (lg_sl ([.ref a_M, .int i_i, .int i_k, .int i_m]) ++ List.replicate (6 - (lg_sl ([.ref a_M, .int i_i, .int i_k, .int i_m])).length) Slot.unset).toArray = ls at hl ⊢
  have hl : lv_has ls 6 [(0, .ref a_M), (1, .int i_i), (2, .int i_k), (3, .int i_m)] := hl
  obtain ⟨G1, hG1⟩ : ∃ G : Int32 → Int32 → Prop, G = (fun (x5 : Int32) (x4 : Int32) => ∀ (H : Heap) (locs : List Loc) (ls : Array Slot), va_P g.1 vwCl [(a_M, .inr (5, [.int M_thrown, .int M_n, .ref a_M_a, .ref a_M_rowAt, .ref a_M_places, .ref a_M_rights, .ref a_M_weights, .int M_hasFactors, .ref a_M_pivots, .ref a_M_lower, .int M_hasSolution, .ref a_M_solution, .ref a_M_work, .ref a_M_isJoined, .int M_levels, .ref a_M_stored])), (a_M_rowAt, .inl (g.2.1, 16, .inl M_rowAt)), (a_M_a, .inl (g.2.1, 256, .inl M_a)), (a_M_lower, .inl (g.2.1, 256, .inl M_lower)), (a_M_pivots, .inl (g.2.1, 16, .inl M_pivots))] H → va_D A [(a_M, .inr (5, [.int M_thrown, .int M_n, .ref a_M_a, .ref a_M_rowAt, .ref a_M_places, .ref a_M_rights, .ref a_M_weights, .int M_hasFactors, .ref a_M_pivots, .ref a_M_lower, .int M_hasSolution, .ref a_M_solution, .ref a_M_work, .ref a_M_isJoined, .int M_levels, .ref a_M_stored])), (a_M_rowAt, .inl (g.2.1, 16, .inl M_rowAt)), (a_M_a, .inl (g.2.1, 256, .inl M_a)), (a_M_lower, .inl (g.2.1, 256, .inl M_lower)), (a_M_pivots, .inl (g.2.1, 16, .inl M_pivots))] → va_S A s.heap H locs → lv_has ls 6 [(5, .int x5), (4, .int x4), (0, .ref a_M), (1, .int i_i), (2, .int i_k), (3, .int i_m)] → W p l e (headSpec (Cond.code yX5_rest cX5_rest 6 (some .int) :: cx_T) ({ frames := 1, cells := 0, slots := 0, locals := 21 } : Room)).room s m ([.ref a_M, .int i_i, .int i_k, .int i_m] : List Value).toArray below meth c H locs 0 0 (MQ below (va_Qi (fun (r : Int32) (_ : Unit) => Q r) (cx_B g (w0_X5_rest g a_M a_M_a a_M_rowAt a_M_places a_M_rights a_M_weights a_M_pivots a_M_lower a_M_solution a_M_work a_M_isJoined a_M_stored M_thrown M_n M_hasFactors M_hasSolution M_levels M_rowAt M_a M_lower M_pivots) s.heap.size (fun _ : Unit => (w0_X5_rest g a_M a_M_a a_M_rowAt a_M_places a_M_rights a_M_weights a_M_pivots a_M_lower a_M_solution a_M_work a_M_isJoined a_M_stored M_thrown M_n M_hasFactors M_hasSolution M_levels M_rowAt M_a M_lower M_pivots))) (va_A (w0_X5_rest g a_M a_M_a a_M_rowAt a_M_places a_M_rights a_M_weights a_M_pivots a_M_lower a_M_solution a_M_work a_M_isJoined a_M_stored M_thrown M_n M_hasFactors M_hasSolution M_levels M_rowAt M_a M_lower M_pivots) s.heap.size)) ([.ref a_M, .int i_i, .int i_k, .int i_m] : List Value).toArray s 0 0 (va_A (w0_X5_rest g a_M a_M_a a_M_rowAt a_M_places a_M_rights a_M_weights a_M_pivots a_M_lower a_M_solution a_M_work a_M_isJoined a_M_stored M_thrown M_n M_hasFactors M_hasSolution M_levels M_rowAt M_a M_lower M_pivots) s.heap.size)) (F0 m 25 ls [])) := ⟨_, rfl⟩
  have hs1 : ∀ (x5 : Int32) (x4 : Int32), vc_X5_rest_1 i_i i_k i_m M_thrown M_n M_hasFactors M_hasSolution M_levels M_rowAt M_a M_lower M_pivots Q G1 x5 x4 → G1 x5 x4 := by
    rw [hG1]
    intro x5 x4 hv H locs ls hP hD hS hl
    unfold vc_X5_rest_1 at hv
    refine lv_iload hx hb dX5_rest_25 (lv_at hl 0 rfl) ?_
    refine lv_iload_n hx hb dX5_rest_27 rfl (lv_at hl 5 rfl) ?_
    refine lv_icmp_ge (tgt := 79) hx hb dX5_rest_28 (by decide) (fun hc => ?_) (fun hc => ?_)
    · replace hv := hv.1 hc
      refine lv_iload hx hb dX5_rest_79 (lv_at hl 1 rfl) ?_
      exact cx_iret hx hb hr hlocks hAe hS () hv hP hD dX5_rest_81
    · replace hv := hv.2 hc
      refine lv_iload hx hb dX5_rest_31 (lv_at hl 1 rfl) ?_
      refine lv_aload_n hx hb dX5_rest_33 rfl (lv_at hl 2 rfl) ?_
      refine va_get (D := g.1) (ci := 5) (v := .ref a_M_lower) (C := RX5) (T := TX5) (N := 16) hx hb hts cw_in_X5 hown hK.1 hP 0 rfl rfl 9 (by decide) (hts _ cw_f_X5_32) (fun _ h9 => h9) rfl dX5_rest_34 ?_
      refine lv_iload_n hx hb dX5_rest_37 rfl (lv_at hl 3 rfl) ?_
      refine lv_iload hx hb dX5_rest_38 (lv_at hl 0 rfl) ?_
      refine cx_iSr (As := [.int i_i, .int x5]) (rest := [.ref a_M_lower, .int x4]) ⟨hx, hb, hml, hown, hts⟩ (cp_X5_at l g i_i x5) (cx_cwS 2 hts cw_m_X5_62 cw_t_X5_at cw_n_X5 cw_c_X5_at rfl rfl (by decide +kernel) ⟨Nat.le_of_ble_eq_true rfl, Nat.le_of_ble_eq_true rfl⟩) hK hP hD hS hA [] rfl rfl rfl hl.1 rfl (Nat.le_of_ble_eq_true rfl) dX5_rest_40 ⟨Nat.le_of_ble_eq_true rfl, Nat.le_of_ble_eq_true rfl⟩ (fun r_1 H locs hr9 hP hS => ?_)
      replace hr9 : r_1 = (f_at i_i x5) := hr9
      subst hr9
      obtain ⟨h_2, hv⟩ := hv
      refine va_iald (D := g.1) hx hb hK.1 hP 3 0 rfl rfl h_2 dX5_rest_43 ?_
      refine lv_aload_n hx hb dX5_rest_44 rfl (lv_at hl 2 rfl) ?_
      refine va_get (D := g.1) (ci := 5) (v := .ref a_M_lower) (C := RX5) (T := TX5) (N := 16) hx hb hts cw_in_X5 hown hK.1 hP 0 rfl rfl 9 (by decide) (hts _ cw_f_X5_32) (fun _ h9 => h9) rfl dX5_rest_45 ?_
      refine lv_iload_n hx hb dX5_rest_48 rfl (lv_at hl 4 rfl) ?_
      refine lv_iload hx hb dX5_rest_49 (lv_at hl 0 rfl) ?_
      refine cx_iSr (As := [.int i_k, .int x5]) (rest := [.ref a_M_lower, .int (M_lower (Int32.toNatClampNeg (f_at i_i x5))), .int x4]) ⟨hx, hb, hml, hown, hts⟩ (cp_X5_at l g i_k x5) (cx_cwS 2 hts cw_m_X5_62 cw_t_X5_at cw_n_X5 cw_c_X5_at rfl rfl (by decide +kernel) ⟨Nat.le_of_ble_eq_true rfl, Nat.le_of_ble_eq_true rfl⟩) hK hP hD hS hA [] rfl rfl rfl hl.1 rfl (Nat.le_of_ble_eq_true rfl) dX5_rest_51 ⟨Nat.le_of_ble_eq_true rfl, Nat.le_of_ble_eq_true rfl⟩ (fun r_3 H locs hr9 hP hS => ?_)
      replace hr9 : r_3 = (f_at i_k x5) := hr9
      subst hr9
      obtain ⟨h_4, hv⟩ := hv
      refine va_iald (D := g.1) hx hb hK.1 hP 3 0 rfl rfl h_4 dX5_rest_54 ?_
      refine cx_iSr (As := [.int (M_lower (Int32.toNatClampNeg (f_at i_i x5))), .int (M_lower (Int32.toNatClampNeg (f_at i_k x5)))]) (rest := [.int x4]) ⟨hx, hb, hml, hown, hts⟩ (cp_X5_times l g (M_lower (Int32.toNatClampNeg (f_at i_i x5))) (M_lower (Int32.toNatClampNeg (f_at i_k x5)))) (cx_cwS 2 hts cw_m_X5_58 cw_t_X5_times cw_n_X5 cw_c_X5_times rfl rfl (by decide +kernel) ⟨Nat.le_of_ble_eq_true rfl, Nat.le_of_ble_eq_true rfl⟩) hK hP hD hS hA [] rfl rfl rfl hl.1 rfl (Nat.le_of_ble_eq_true rfl) dX5_rest_55 ⟨Nat.le_of_ble_eq_true rfl, Nat.le_of_ble_eq_true rfl⟩ (fun r_5 H locs hr9 hP hS => ?_)
      replace hr9 : r_5 = (f_times (M_lower (Int32.toNatClampNeg (f_at i_i x5))) (M_lower (Int32.toNatClampNeg (f_at i_k x5)))) := hr9
      subst hr9
      refine lv_aload_n hx hb dX5_rest_58 rfl (lv_at hl 2 rfl) ?_
      refine va_get (D := g.1) (ci := 5) (v := .ref a_M_pivots) (C := RX5) (T := TX5) (N := 16) hx hb hts cw_in_X5 hown hK.1 hP 0 rfl rfl 8 (by decide) (hts _ cw_f_X5_29) (fun _ h9 => h9) rfl dX5_rest_59 ?_
      refine lv_iload hx hb dX5_rest_62 (lv_at hl 0 rfl) ?_
      obtain ⟨h_6, hv⟩ := hv
      refine va_iald (D := g.1) hx hb hK.1 hP 4 0 rfl rfl h_6 dX5_rest_64 ?_
      refine cx_iSr (As := [.int (f_times (M_lower (Int32.toNatClampNeg (f_at i_i x5))) (M_lower (Int32.toNatClampNeg (f_at i_k x5)))), .int (M_pivots (Int32.toNatClampNeg x5))]) (rest := [.int x4]) ⟨hx, hb, hml, hown, hts⟩ (cp_X5_times l g (f_times (M_lower (Int32.toNatClampNeg (f_at i_i x5))) (M_lower (Int32.toNatClampNeg (f_at i_k x5)))) (M_pivots (Int32.toNatClampNeg x5))) (cx_cwS 2 hts cw_m_X5_58 cw_t_X5_times cw_n_X5 cw_c_X5_times rfl rfl (by decide +kernel) ⟨Nat.le_of_ble_eq_true rfl, Nat.le_of_ble_eq_true rfl⟩) hK hP hD hS hA [] rfl rfl rfl hl.1 rfl (Nat.le_of_ble_eq_true rfl) dX5_rest_65 ⟨Nat.le_of_ble_eq_true rfl, Nat.le_of_ble_eq_true rfl⟩ (fun r_7 H locs hr9 hP hS => ?_)
      replace hr9 : r_7 = (f_times (f_times (M_lower (Int32.toNatClampNeg (f_at i_i x5))) (M_lower (Int32.toNatClampNeg (f_at i_k x5)))) (M_pivots (Int32.toNatClampNeg x5))) := hr9
      subst hr9
      refine cx_iSr (As := [.int x4, .int (f_times (f_times (M_lower (Int32.toNatClampNeg (f_at i_i x5))) (M_lower (Int32.toNatClampNeg (f_at i_k x5)))) (M_pivots (Int32.toNatClampNeg x5)))]) (rest := []) ⟨hx, hb, hml, hown, hts⟩ (cp_X5_minus l g x4 (f_times (f_times (M_lower (Int32.toNatClampNeg (f_at i_i x5))) (M_lower (Int32.toNatClampNeg (f_at i_k x5)))) (M_pivots (Int32.toNatClampNeg x5)))) (cx_cwS 2 hts cw_m_X5_94 cw_t_X5_minus cw_n_X5 cw_c_X5_minus rfl rfl (by decide +kernel) ⟨Nat.le_of_ble_eq_true rfl, Nat.le_of_ble_eq_true rfl⟩) hK hP hD hS hA [] rfl rfl rfl hl.1 rfl (Nat.le_of_ble_eq_true rfl) dX5_rest_68 ⟨Nat.le_of_ble_eq_true rfl, Nat.le_of_ble_eq_true rfl⟩ (fun r_8 H locs hr9 hP hS => ?_)
      replace hr9 : r_8 = (g_minus x4 (f_times (f_times (M_lower (Int32.toNatClampNeg (f_at i_i x5))) (M_lower (Int32.toNatClampNeg (f_at i_k x5)))) (M_pivots (Int32.toNatClampNeg x5)))) := hr9
      subst hr9
      refine lv_topi (fun x4_9 ex4_9 => ?_)
      replace hv := hv x4_9 ex4_9
      refine lv_istore (lv' := [(4, .int x4_9), (5, .int x5), (0, .ref a_M), (1, .int i_i), (2, .int i_k), (3, .int i_m)]) hx hb dX5_rest_71 hl (by decide) rfl (fun ls hl => ?_)
      obtain ⟨x5_10, ex5_10⟩ : ∃ y : Int32, y = x5 + 1 := ⟨_, rfl⟩
      replace hv := hv x5_10 ex5_10
      refine lv_iinc (v := x5_10) (lv' := [(5, .int x5_10), (4, .int x4_9), (0, .ref a_M), (1, .int i_i), (2, .int i_k), (3, .int i_m)]) hx hb dX5_rest_73 hl (k := 1) rfl (by rw [ex5_10]; rfl) (by decide) rfl (fun ls hl => ?_)
      refine lv_goto (tgt := 25) hx hb dX5_rest_76 (by decide) ?_
      exact hv _ _ _ hP hD hS (lv_sub hl [0, 1, 2, 3, 4, 5] rfl)
  replace hv := hv G1 hs1
  rw [hG1] at hv
  unfold vc_X5_rest_0 at hv
  refine lv_aload_n hx hb dX5_rest_0 rfl (lv_at hl 0 rfl) ?_
  refine va_get (D := g.1) (ci := 5) (v := .ref a_M_a) (C := RX5) (T := TX5) (N := 16) hx hb hts cw_in_X5 hown hK.1 hP 0 rfl rfl 2 (by decide) (hts _ cw_f_X5_13) (fun _ h9 => h9) rfl dX5_rest_1 ?_
  refine lv_aload_n hx hb dX5_rest_4 rfl (lv_at hl 0 rfl) ?_
  refine va_get (D := g.1) (ci := 5) (v := .ref a_M_rowAt) (C := RX5) (T := TX5) (N := 16) hx hb hts cw_in_X5 hown hK.1 hP 0 rfl rfl 3 (by decide) (hts _ cw_f_X5_17) (fun _ h9 => h9) rfl dX5_rest_5 ?_
  refine lv_iload_n hx hb dX5_rest_8 rfl (lv_at hl 1 rfl) ?_
  obtain ⟨h_1, hv⟩ := hv
  refine va_iald (D := g.1) hx hb hK.1 hP 1 0 rfl rfl h_1 dX5_rest_9 ?_
  refine lv_aload_n hx hb dX5_rest_10 rfl (lv_at hl 0 rfl) ?_
  refine va_get (D := g.1) (ci := 5) (v := .ref a_M_rowAt) (C := RX5) (T := TX5) (N := 16) hx hb hts cw_in_X5 hown hK.1 hP 0 rfl rfl 3 (by decide) (hts _ cw_f_X5_17) (fun _ h9 => h9) rfl dX5_rest_11 ?_
  refine lv_iload_n hx hb dX5_rest_14 rfl (lv_at hl 2 rfl) ?_
  obtain ⟨h_2, hv⟩ := hv
  refine va_iald (D := g.1) hx hb hK.1 hP 1 0 rfl rfl h_2 dX5_rest_15 ?_
  refine cx_iSr (As := [.int (M_rowAt (Int32.toNatClampNeg i_i)), .int (M_rowAt (Int32.toNatClampNeg i_k))]) (rest := [.ref a_M_a]) ⟨hx, hb, hml, hown, hts⟩ (cp_X5_at l g (M_rowAt (Int32.toNatClampNeg i_i)) (M_rowAt (Int32.toNatClampNeg i_k))) (cx_cwS 2 hts cw_m_X5_62 cw_t_X5_at cw_n_X5 cw_c_X5_at rfl rfl (by decide +kernel) ⟨Nat.le_of_ble_eq_true rfl, Nat.le_of_ble_eq_true rfl⟩) hK hP hD hS hA [] rfl rfl rfl hl.1 rfl (Nat.le_of_ble_eq_true rfl) dX5_rest_16 ⟨Nat.le_of_ble_eq_true rfl, Nat.le_of_ble_eq_true rfl⟩ (fun r_3 H locs hr9 hP hS => ?_)
  replace hr9 : r_3 = (f_at (M_rowAt (Int32.toNatClampNeg i_i)) (M_rowAt (Int32.toNatClampNeg i_k))) := hr9
  subst hr9
  obtain ⟨h_4, hv⟩ := hv
  refine va_iald (D := g.1) hx hb hK.1 hP 2 0 rfl rfl h_4 dX5_rest_19 ?_
  refine lv_topi (fun x4_5 ex4_5 => ?_)
  replace hv := hv x4_5 ex4_5
  refine lv_istore (lv' := [(4, .int x4_5), (0, .ref a_M), (1, .int i_i), (2, .int i_k), (3, .int i_m)]) hx hb dX5_rest_20 hl (by decide) rfl (fun ls hl => ?_)
  refine lv_iconst (v := 0) hx hb dX5_rest_22 (by decide) ?_
  refine lv_istore (lv' := [(5, .int 0), (4, .int x4_5), (0, .ref a_M), (1, .int i_i), (2, .int i_k), (3, .int i_m)]) hx hb dX5_rest_23 hl (by decide) rfl (fun ls hl => ?_)
  exact hv _ _ _ hP hD hS (lv_sub hl [0, 1, 2, 3, 4, 5] rfl)
def vc_X5_find_0 (M_thrown : Int32) (M_n : Int32) (M_hasFactors : Int32) (M_hasSolution : Int32) (M_levels : Int32) (M_rowAt : (Nat → Int32)) (M_a : (Nat → Int32)) (M_lower : (Nat → Int32)) (M_pivots : (Nat → Int32)) (Q : Int32 → Int32 → (Nat → Int32) → (Nat → Int32) → Prop) (G1 : Int32 → Int32 → (Nat → Int32) → (Nat → Int32) → Prop) (G2 : Int32 → Int32 → Int32 → Int32 → (Nat → Int32) → (Nat → Int32) → Prop)  : Prop := G1 0 0 M_lower M_pivots
def vc_X5_find_1 (M_thrown : Int32) (M_n : Int32) (M_hasFactors : Int32) (M_hasSolution : Int32) (M_levels : Int32) (M_rowAt : (Nat → Int32)) (M_a : (Nat → Int32)) (M_lower : (Nat → Int32)) (M_pivots : (Nat → Int32)) (Q : Int32 → Int32 → (Nat → Int32) → (Nat → Int32) → Prop) (G1 : Int32 → Int32 → (Nat → Int32) → (Nat → Int32) → Prop) (G2 : Int32 → Int32 → Int32 → Int32 → (Nat → Int32) → (Nat → Int32) → Prop) (x1 : Int32) (v_M_hasFactors : Int32) (v_M_lower : (Nat → Int32)) (v_M_pivots : (Nat → Int32)) : Prop := (M_n ≤ x1 → (Q M_n 1 v_M_lower v_M_pivots)) ∧ (¬ M_n ≤ x1 → (wp_X5_rest x1 x1 x1 M_thrown M_n v_M_hasFactors M_hasSolution M_levels M_rowAt M_a v_M_lower v_M_pivots (fun r_1 => vp_in x1 16 ∧ (vp_in x1 16 ∧ ((((upd v_M_pivots (Int32.toNatClampNeg x1) r_1) (Int32.toNatClampNeg x1)) = 0 → (Q x1 v_M_hasFactors v_M_lower (upd v_M_pivots (Int32.toNatClampNeg x1) r_1))) ∧ (¬ ((upd v_M_pivots (Int32.toNatClampNeg x1) r_1) (Int32.toNatClampNeg x1)) = 0 → (vp_in x1 16 ∧ (∀ x2_6 : Int32, x2_6 = (f_rec ((upd v_M_pivots (Int32.toNatClampNeg x1) r_1) (Int32.toNatClampNeg x1))) → (∀ x3_7 : Int32, x3_7 = (x1 + 1) → (G2 x3_7 x2_6 x1 v_M_hasFactors v_M_lower (upd v_M_pivots (Int32.toNatClampNeg x1) r_1)))))))))))
def vc_X5_find_2 (M_thrown : Int32) (M_n : Int32) (M_hasFactors : Int32) (M_hasSolution : Int32) (M_levels : Int32) (M_rowAt : (Nat → Int32)) (M_a : (Nat → Int32)) (M_lower : (Nat → Int32)) (M_pivots : (Nat → Int32)) (Q : Int32 → Int32 → (Nat → Int32) → (Nat → Int32) → Prop) (G1 : Int32 → Int32 → (Nat → Int32) → (Nat → Int32) → Prop) (G2 : Int32 → Int32 → Int32 → Int32 → (Nat → Int32) → (Nat → Int32) → Prop) (x3 : Int32) (x2 : Int32) (x1 : Int32) (v_M_hasFactors : Int32) (v_M_lower : (Nat → Int32)) (v_M_pivots : (Nat → Int32)) : Prop := (M_n ≤ x3 → (∀ x1_1 : Int32, x1_1 = x1 + 1 → (G1 x1_1 v_M_hasFactors v_M_lower v_M_pivots))) ∧ (¬ M_n ≤ x3 → (wp_X5_rest x3 x1 x1 M_thrown M_n v_M_hasFactors M_hasSolution M_levels M_rowAt M_a v_M_lower v_M_pivots (fun r_3 => vp_in (f_at x3 x1) 256 ∧ (∀ x3_6 : Int32, x3_6 = x3 + 1 → (G2 x3_6 x2 x1 v_M_hasFactors (upd v_M_lower (Int32.toNatClampNeg (f_at x3 x1)) (f_times r_3 x2)) v_M_pivots)))))
def wp_X5_find (M_thrown : Int32) (M_n : Int32) (M_hasFactors : Int32) (M_hasSolution : Int32) (M_levels : Int32) (M_rowAt : (Nat → Int32)) (M_a : (Nat → Int32)) (M_lower : (Nat → Int32)) (M_pivots : (Nat → Int32)) (Q : Int32 → Int32 → (Nat → Int32) → (Nat → Int32) → Prop) : Prop := ∀ (G1 : Int32 → Int32 → (Nat → Int32) → (Nat → Int32) → Prop) (G2 : Int32 → Int32 → Int32 → Int32 → (Nat → Int32) → (Nat → Int32) → Prop), (∀ (x1 : Int32) (v_M_hasFactors : Int32) (v_M_lower : (Nat → Int32)) (v_M_pivots : (Nat → Int32)), vc_X5_find_1 M_thrown M_n M_hasFactors M_hasSolution M_levels M_rowAt M_a M_lower M_pivots Q G1 G2 x1 v_M_hasFactors v_M_lower v_M_pivots → G1 x1 v_M_hasFactors v_M_lower v_M_pivots) → (∀ (x3 : Int32) (x2 : Int32) (x1 : Int32) (v_M_hasFactors : Int32) (v_M_lower : (Nat → Int32)) (v_M_pivots : (Nat → Int32)), vc_X5_find_2 M_thrown M_n M_hasFactors M_hasSolution M_levels M_rowAt M_a M_lower M_pivots Q G1 G2 x3 x2 x1 v_M_hasFactors v_M_lower v_M_pivots → G2 x3 x2 x1 v_M_hasFactors v_M_lower v_M_pivots) → vc_X5_find_0 M_thrown M_n M_hasFactors M_hasSolution M_levels M_rowAt M_a M_lower M_pivots Q G1 G2
abbrev w0_X5_find (g : cx_G) (a_M a_M_a a_M_rowAt a_M_places a_M_rights a_M_weights a_M_pivots a_M_lower a_M_solution a_M_work a_M_isJoined a_M_stored : Nat) (M_thrown : Int32) (M_n : Int32) (M_hasFactors : Int32) (M_hasSolution : Int32) (M_levels : Int32) (M_rowAt : (Nat → Int32)) (M_a : (Nat → Int32)) (M_lower : (Nat → Int32)) (M_pivots : (Nat → Int32)) : va_W := [(a_M, .inr (5, [.int M_thrown, .int M_n, .ref a_M_a, .ref a_M_rowAt, .ref a_M_places, .ref a_M_rights, .ref a_M_weights, .int M_hasFactors, .ref a_M_pivots, .ref a_M_lower, .int M_hasSolution, .ref a_M_solution, .ref a_M_work, .ref a_M_isJoined, .int M_levels, .ref a_M_stored])), (a_M_rowAt, .inl (g.2.1, 16, .inl M_rowAt)), (a_M_a, .inl (g.2.1, 256, .inl M_a)), (a_M_lower, .inl (g.2.1, 256, .inl M_lower)), (a_M_pivots, .inl (g.2.1, 16, .inl M_pivots))]
abbrev w1_X5_find (g : cx_G) (a_M a_M_a a_M_rowAt a_M_places a_M_rights a_M_weights a_M_pivots a_M_lower a_M_solution a_M_work a_M_isJoined a_M_stored : Nat) (M_thrown : Int32) (M_n : Int32) (M_hasFactors : Int32) (M_hasSolution : Int32) (M_levels : Int32) (M_rowAt : (Nat → Int32)) (M_a : (Nat → Int32)) (M_lower : (Nat → Int32)) (M_pivots : (Nat → Int32)) (u : Int32 × (Nat → Int32) × (Nat → Int32)) : va_W := [(a_M, .inr (5, [.int M_thrown, .int M_n, .ref a_M_a, .ref a_M_rowAt, .ref a_M_places, .ref a_M_rights, .ref a_M_weights, .int u.1, .ref a_M_pivots, .ref a_M_lower, .int M_hasSolution, .ref a_M_solution, .ref a_M_work, .ref a_M_isJoined, .int M_levels, .ref a_M_stored])), (a_M_rowAt, .inl (g.2.1, 16, .inl M_rowAt)), (a_M_a, .inl (g.2.1, 256, .inl M_a)), (a_M_lower, .inl (g.2.1, 256, .inl u.2.1)), (a_M_pivots, .inl (g.2.1, 16, .inl u.2.2))]
set_option maxHeartbeats 4000000 in
set_option maxRecDepth 100000 in
theorem c_X5_find (l : Launch) (g : cx_G) (a_M a_M_a a_M_rowAt a_M_places a_M_rights a_M_weights a_M_pivots a_M_lower a_M_solution a_M_work a_M_isJoined a_M_stored : Nat) (M_thrown : Int32) (M_n : Int32) (M_hasFactors : Int32) (M_hasSolution : Int32) (M_levels : Int32) (M_rowAt : (Nat → Int32)) (M_a : (Nat → Int32)) (M_lower : (Nat → Int32)) (M_pivots : (Nat → Int32)) {Q : Int32 → Int32 → (Nat → Int32) → (Nat → Int32) → Prop} (hv : wp_X5_find M_thrown M_n M_hasFactors M_hasSolution M_levels M_rowAt M_a M_lower M_pivots Q) : cx_Mi l g yX5_find (Cond.code yX5_find cX5_find 4 (some .int) :: cx_T) ({ frames := 2, cells := 0, slots := 0, locals := 46 } : Room) [.ref a_M] (w0_X5_find g a_M a_M_a a_M_rowAt a_M_places a_M_rights a_M_weights a_M_pivots a_M_lower a_M_solution a_M_work a_M_isJoined a_M_stored M_thrown M_n M_hasFactors M_hasSolution M_levels M_rowAt M_a M_lower M_pivots) (fun (r : Int32) (u : Int32 × (Nat → Int32) × (Nat → Int32)) => Q r u.1 u.2.1 u.2.2) (w1_X5_find g a_M a_M_a a_M_rowAt a_M_places a_M_rights a_M_weights a_M_pivots a_M_lower a_M_solution a_M_work a_M_isJoined a_M_stored M_thrown M_n M_hasFactors M_hasSolution M_levels M_rowAt M_a M_lower M_pivots) 0 0 := by
  intro sz
  refine Met.ofW (cc := cX5_find) (maxL := 4) (ret := (some .int)) (by decide) rfl ?_
  intro p e s m args below meth c s₁ B hml hpre
  obtain ⟨rfl, hsz, hP, hK, hD0⟩ := hpre
  have hx := B.exec
  have hb := B.bytes
  have hr := B.returns
  have hts0 := atoms_spec (ws := (Cond.code yX5_find cX5_find 4 (some .int) :: cx_T)) B.pre
  have hts : ∀ w ∈ cx_T, w.before _ s = true := fun w h => hts0 w (List.mem_cons_of_mem _ h)
  have hown : s.vm.findClass RX5 = some m.cls := findClass_of_methodNamed B.named
  have hlocks := B.notSynchronized
  subst hsz
  have hD := hD0.self (sz := s.heap.size)
  obtain ⟨A, hAe⟩ : ∃ A : Nat → Prop, A = va_A (w0_X5_find g a_M a_M_a a_M_rowAt a_M_places a_M_rights a_M_weights a_M_pivots a_M_lower a_M_solution a_M_work a_M_isJoined a_M_stored M_thrown M_n M_hasFactors M_hasSolution M_levels M_rowAt M_a M_lower M_pivots) s.heap.size := ⟨_, rfl⟩
  rw [← hAe] at hD
  have hA : ∀ q : Nat, s.heap.size ≤ q → A q := fun q h => by rw [hAe]; exact Or.inr h
  have hS : va_S A s.heap s.heap [] := va_S.rf
  have hP : va_P g.1 vwCl [(a_M, .inr (5, [.int M_thrown, .int M_n, .ref a_M_a, .ref a_M_rowAt, .ref a_M_places, .ref a_M_rights, .ref a_M_weights, .int M_hasFactors, .ref a_M_pivots, .ref a_M_lower, .int M_hasSolution, .ref a_M_solution, .ref a_M_work, .ref a_M_isJoined, .int M_levels, .ref a_M_stored])), (a_M_rowAt, .inl (g.2.1, 16, .inl M_rowAt)), (a_M_a, .inl (g.2.1, 256, .inl M_a)), (a_M_lower, .inl (g.2.1, 256, .inl M_lower)), (a_M_pivots, .inl (g.2.1, 16, .inl M_pivots))] s.heap := hP
  have hD : va_D A [(a_M, .inr (5, [.int M_thrown, .int M_n, .ref a_M_a, .ref a_M_rowAt, .ref a_M_places, .ref a_M_rights, .ref a_M_weights, .int M_hasFactors, .ref a_M_pivots, .ref a_M_lower, .int M_hasSolution, .ref a_M_solution, .ref a_M_work, .ref a_M_isJoined, .int M_levels, .ref a_M_stored])), (a_M_rowAt, .inl (g.2.1, 16, .inl M_rowAt)), (a_M_a, .inl (g.2.1, 256, .inl M_a)), (a_M_lower, .inl (g.2.1, 256, .inl M_lower)), (a_M_pivots, .inl (g.2.1, 16, .inl M_pivots))] := hD
  have hl := lv_entry ([.ref a_M]) (n := 4) (Nat.le_of_ble_eq_true rfl)
  rw [lg_entry_eq]
  generalize (lg_sl ([.ref a_M]) ++ List.replicate (4 - (lg_sl ([.ref a_M])).length) Slot.unset).toArray = ls at hl ⊢
  have hl : lv_has ls 4 [(0, .ref a_M)] := hl
  obtain ⟨G1, hG1⟩ : ∃ G : Int32 → Int32 → (Nat → Int32) → (Nat → Int32) → Prop, G = (fun (x1 : Int32) (v_M_hasFactors : Int32) (v_M_lower : (Nat → Int32)) (v_M_pivots : (Nat → Int32)) => ∀ (H : Heap) (locs : List Loc) (ls : Array Slot), va_P g.1 vwCl [(a_M, .inr (5, [.int M_thrown, .int M_n, .ref a_M_a, .ref a_M_rowAt, .ref a_M_places, .ref a_M_rights, .ref a_M_weights, .int v_M_hasFactors, .ref a_M_pivots, .ref a_M_lower, .int M_hasSolution, .ref a_M_solution, .ref a_M_work, .ref a_M_isJoined, .int M_levels, .ref a_M_stored])), (a_M_rowAt, .inl (g.2.1, 16, .inl M_rowAt)), (a_M_a, .inl (g.2.1, 256, .inl M_a)), (a_M_lower, .inl (g.2.1, 256, .inl v_M_lower)), (a_M_pivots, .inl (g.2.1, 16, .inl v_M_pivots))] H → va_D A [(a_M, .inr (5, [.int M_thrown, .int M_n, .ref a_M_a, .ref a_M_rowAt, .ref a_M_places, .ref a_M_rights, .ref a_M_weights, .int v_M_hasFactors, .ref a_M_pivots, .ref a_M_lower, .int M_hasSolution, .ref a_M_solution, .ref a_M_work, .ref a_M_isJoined, .int M_levels, .ref a_M_stored])), (a_M_rowAt, .inl (g.2.1, 16, .inl M_rowAt)), (a_M_a, .inl (g.2.1, 256, .inl M_a)), (a_M_lower, .inl (g.2.1, 256, .inl v_M_lower)), (a_M_pivots, .inl (g.2.1, 16, .inl v_M_pivots))] → va_S A s.heap H locs → lv_has ls 4 [(1, .int x1), (0, .ref a_M)] → W p l e (headSpec (Cond.code yX5_find cX5_find 4 (some .int) :: cx_T) ({ frames := 2, cells := 0, slots := 0, locals := 46 } : Room)).room s m ([.ref a_M] : List Value).toArray below meth c H locs 0 0 (MQ below (va_Qi (fun (r : Int32) (u : Int32 × (Nat → Int32) × (Nat → Int32)) => Q r u.1 u.2.1 u.2.2) (cx_B g (w0_X5_find g a_M a_M_a a_M_rowAt a_M_places a_M_rights a_M_weights a_M_pivots a_M_lower a_M_solution a_M_work a_M_isJoined a_M_stored M_thrown M_n M_hasFactors M_hasSolution M_levels M_rowAt M_a M_lower M_pivots) s.heap.size (w1_X5_find g a_M a_M_a a_M_rowAt a_M_places a_M_rights a_M_weights a_M_pivots a_M_lower a_M_solution a_M_work a_M_isJoined a_M_stored M_thrown M_n M_hasFactors M_hasSolution M_levels M_rowAt M_a M_lower M_pivots)) (va_A (w0_X5_find g a_M a_M_a a_M_rowAt a_M_places a_M_rights a_M_weights a_M_pivots a_M_lower a_M_solution a_M_work a_M_isJoined a_M_stored M_thrown M_n M_hasFactors M_hasSolution M_levels M_rowAt M_a M_lower M_pivots) s.heap.size)) ([.ref a_M] : List Value).toArray s 0 0 (va_A (w0_X5_find g a_M a_M_a a_M_rowAt a_M_places a_M_rights a_M_weights a_M_pivots a_M_lower a_M_solution a_M_work a_M_isJoined a_M_stored M_thrown M_n M_hasFactors M_hasSolution M_levels M_rowAt M_a M_lower M_pivots) s.heap.size)) (F0 m 7 ls [])) := ⟨_, rfl⟩
  obtain ⟨G2, hG2⟩ : ∃ G : Int32 → Int32 → Int32 → Int32 → (Nat → Int32) → (Nat → Int32) → Prop, G = (fun (x3 : Int32) (x2 : Int32) (x1 : Int32) (v_M_hasFactors : Int32) (v_M_lower : (Nat → Int32)) (v_M_pivots : (Nat → Int32)) => ∀ (H : Heap) (locs : List Loc) (ls : Array Slot), va_P g.1 vwCl [(a_M, .inr (5, [.int M_thrown, .int M_n, .ref a_M_a, .ref a_M_rowAt, .ref a_M_places, .ref a_M_rights, .ref a_M_weights, .int v_M_hasFactors, .ref a_M_pivots, .ref a_M_lower, .int M_hasSolution, .ref a_M_solution, .ref a_M_work, .ref a_M_isJoined, .int M_levels, .ref a_M_stored])), (a_M_rowAt, .inl (g.2.1, 16, .inl M_rowAt)), (a_M_a, .inl (g.2.1, 256, .inl M_a)), (a_M_lower, .inl (g.2.1, 256, .inl v_M_lower)), (a_M_pivots, .inl (g.2.1, 16, .inl v_M_pivots))] H → va_D A [(a_M, .inr (5, [.int M_thrown, .int M_n, .ref a_M_a, .ref a_M_rowAt, .ref a_M_places, .ref a_M_rights, .ref a_M_weights, .int v_M_hasFactors, .ref a_M_pivots, .ref a_M_lower, .int M_hasSolution, .ref a_M_solution, .ref a_M_work, .ref a_M_isJoined, .int M_levels, .ref a_M_stored])), (a_M_rowAt, .inl (g.2.1, 16, .inl M_rowAt)), (a_M_a, .inl (g.2.1, 256, .inl M_a)), (a_M_lower, .inl (g.2.1, 256, .inl v_M_lower)), (a_M_pivots, .inl (g.2.1, 16, .inl v_M_pivots))] → va_S A s.heap H locs → lv_has ls 4 [(3, .int x3), (2, .int x2), (1, .int x1), (0, .ref a_M)] → W p l e (headSpec (Cond.code yX5_find cX5_find 4 (some .int) :: cx_T) ({ frames := 2, cells := 0, slots := 0, locals := 46 } : Room)).room s m ([.ref a_M] : List Value).toArray below meth c H locs 0 0 (MQ below (va_Qi (fun (r : Int32) (u : Int32 × (Nat → Int32) × (Nat → Int32)) => Q r u.1 u.2.1 u.2.2) (cx_B g (w0_X5_find g a_M a_M_a a_M_rowAt a_M_places a_M_rights a_M_weights a_M_pivots a_M_lower a_M_solution a_M_work a_M_isJoined a_M_stored M_thrown M_n M_hasFactors M_hasSolution M_levels M_rowAt M_a M_lower M_pivots) s.heap.size (w1_X5_find g a_M a_M_a a_M_rowAt a_M_places a_M_rights a_M_weights a_M_pivots a_M_lower a_M_solution a_M_work a_M_isJoined a_M_stored M_thrown M_n M_hasFactors M_hasSolution M_levels M_rowAt M_a M_lower M_pivots)) (va_A (w0_X5_find g a_M a_M_a a_M_rowAt a_M_places a_M_rights a_M_weights a_M_pivots a_M_lower a_M_solution a_M_work a_M_isJoined a_M_stored M_thrown M_n M_hasFactors M_hasSolution M_levels M_rowAt M_a M_lower M_pivots) s.heap.size)) ([.ref a_M] : List Value).toArray s 0 0 (va_A (w0_X5_find g a_M a_M_a a_M_rowAt a_M_places a_M_rights a_M_weights a_M_pivots a_M_lower a_M_solution a_M_work a_M_isJoined a_M_stored M_thrown M_n M_hasFactors M_hasSolution M_levels M_rowAt M_a M_lower M_pivots) s.heap.size)) (F0 m 53 ls [])) := ⟨_, rfl⟩
  have hs1 : ∀ (x1 : Int32) (v_M_hasFactors : Int32) (v_M_lower : (Nat → Int32)) (v_M_pivots : (Nat → Int32)), vc_X5_find_1 M_thrown M_n M_hasFactors M_hasSolution M_levels M_rowAt M_a M_lower M_pivots Q G1 G2 x1 v_M_hasFactors v_M_lower v_M_pivots → G1 x1 v_M_hasFactors v_M_lower v_M_pivots := by
    rw [hG1, hG2]
    intro x1 v_M_hasFactors v_M_lower v_M_pivots hv H locs ls hP hD hS hl
    unfold vc_X5_find_1 at hv
    refine lv_iload_n hx hb dX5_find_7 rfl (lv_at hl 0 rfl) ?_
    refine lv_aload_n hx hb dX5_find_8 rfl (lv_at hl 1 rfl) ?_
    refine va_get (D := g.1) (ci := 5) (v := .int M_n) (C := RX5) (T := TX5) (N := 16) hx hb hts cw_in_X5 hown hK.1 hP 0 rfl rfl 1 (by decide) (hts _ cw_f_X5_9) (fun _ h9 => h9) rfl dX5_find_9 ?_
    refine lv_icmp_ge (tgt := 94) hx hb dX5_find_12 (by decide) (fun hc => ?_) (fun hc => ?_)
    · replace hv := hv.1 hc
      refine lv_aload_n hx hb dX5_find_94 rfl (lv_at hl 1 rfl) ?_
      refine lv_iconst (v := 1) hx hb dX5_find_95 (by decide) ?_
      refine va_put (D := g.1) (ci := 5) (v := .int 1) (ty := .boolean) (C := RX5) (T := TX5) (N := 16) hx hb hts cw_in_X5 tyX5 tyX5_ok nmX5 hown hK.1 hP hD hS 0 rfl rfl 7 (by decide) (hts _ cw_f_X5_65) (fun _ h9 => h9) rfl (by decide +kernel) rfl rfl (Nat.le_of_ble_eq_true rfl) dX5_find_96 (fun H locs hP hD hS => ?_)
      have hP : va_P g.1 vwCl [(a_M, .inr (5, [.int M_thrown, .int M_n, .ref a_M_a, .ref a_M_rowAt, .ref a_M_places, .ref a_M_rights, .ref a_M_weights, .int 1, .ref a_M_pivots, .ref a_M_lower, .int M_hasSolution, .ref a_M_solution, .ref a_M_work, .ref a_M_isJoined, .int M_levels, .ref a_M_stored])), (a_M_rowAt, .inl (g.2.1, 16, .inl M_rowAt)), (a_M_a, .inl (g.2.1, 256, .inl M_a)), (a_M_lower, .inl (g.2.1, 256, .inl v_M_lower)), (a_M_pivots, .inl (g.2.1, 16, .inl v_M_pivots))] H := hP
      have hD : va_D A [(a_M, .inr (5, [.int M_thrown, .int M_n, .ref a_M_a, .ref a_M_rowAt, .ref a_M_places, .ref a_M_rights, .ref a_M_weights, .int 1, .ref a_M_pivots, .ref a_M_lower, .int M_hasSolution, .ref a_M_solution, .ref a_M_work, .ref a_M_isJoined, .int M_levels, .ref a_M_stored])), (a_M_rowAt, .inl (g.2.1, 16, .inl M_rowAt)), (a_M_a, .inl (g.2.1, 256, .inl M_a)), (a_M_lower, .inl (g.2.1, 256, .inl v_M_lower)), (a_M_pivots, .inl (g.2.1, 16, .inl v_M_pivots))] := hD
      refine lv_aload_n hx hb dX5_find_99 rfl (lv_at hl 1 rfl) ?_
      refine va_get (D := g.1) (ci := 5) (v := .int M_n) (C := RX5) (T := TX5) (N := 16) hx hb hts cw_in_X5 hown hK.1 hP 0 rfl rfl 1 (by decide) (hts _ cw_f_X5_9) (fun _ h9 => h9) rfl dX5_find_100 ?_
      exact cx_iret hx hb hr hlocks hAe hS (1, v_M_lower, v_M_pivots) hv hP hD dX5_find_103
    · replace hv := hv.2 hc
      refine lv_aload_n hx hb dX5_find_15 rfl (lv_at hl 1 rfl) ?_
      refine va_get (D := g.1) (ci := 5) (v := .ref a_M_pivots) (C := RX5) (T := TX5) (N := 16) hx hb hts cw_in_X5 hown hK.1 hP 0 rfl rfl 8 (by decide) (hts _ cw_f_X5_29) (fun _ h9 => h9) rfl dX5_find_16 ?_
      refine lv_iload_n hx hb dX5_find_19 rfl (lv_at hl 0 rfl) ?_
      refine lv_aload_n hx hb dX5_find_20 rfl (lv_at hl 1 rfl) ?_
      refine lv_iload_n hx hb dX5_find_21 rfl (lv_at hl 0 rfl) ?_
      refine lv_iload_n hx hb dX5_find_22 rfl (lv_at hl 0 rfl) ?_
      refine lv_iload_n hx hb dX5_find_23 rfl (lv_at hl 0 rfl) ?_
      refine cx_iVr (As := [.int x1, .int x1, .int x1]) (rest := [.int x1, .ref a_M_pivots]) ⟨hx, hb, hml, hown, hts⟩ (c_X5_rest l g a_M a_M_a a_M_rowAt a_M_places a_M_rights a_M_weights a_M_pivots a_M_lower a_M_solution a_M_work a_M_isJoined a_M_stored x1 x1 x1 M_thrown M_n v_M_hasFactors M_hasSolution M_levels M_rowAt M_a v_M_lower v_M_pivots hv) (cx_cwV 3 hts cw_m_X5_145 cw_i_X5_rest cw_s_X5_rest cw_n_X5 cw_c_X5_rest rfl rfl (by decide +kernel) ⟨Nat.le_of_ble_eq_true rfl, Nat.le_of_ble_eq_true rfl⟩) hK hP hD hS hA 0 5 rfl rfl [0, 1, 2, 3, 4] rfl rfl rfl hl.1 rfl (Nat.le_of_ble_eq_true rfl) dX5_find_24 ⟨Nat.le_of_ble_eq_true rfl, Nat.le_of_ble_eq_true rfl⟩ (fun r_1 H locs hv hP hS => ?_)
      obtain ⟨h_2, hv⟩ := hv
      refine va_iast (D := g.1) hx hb hK.1 hP hD hS 4 0 rfl rfl h_2 dX5_find_27 (fun H locs hP hD hS => ?_)
      have hP : va_P g.1 vwCl [(a_M, .inr (5, [.int M_thrown, .int M_n, .ref a_M_a, .ref a_M_rowAt, .ref a_M_places, .ref a_M_rights, .ref a_M_weights, .int v_M_hasFactors, .ref a_M_pivots, .ref a_M_lower, .int M_hasSolution, .ref a_M_solution, .ref a_M_work, .ref a_M_isJoined, .int M_levels, .ref a_M_stored])), (a_M_rowAt, .inl (g.2.1, 16, .inl M_rowAt)), (a_M_a, .inl (g.2.1, 256, .inl M_a)), (a_M_lower, .inl (g.2.1, 256, .inl v_M_lower)), (a_M_pivots, .inl (g.2.1, 16, .inl (upd v_M_pivots (Int32.toNatClampNeg x1) r_1)))] H := hP
      have hD : va_D A [(a_M, .inr (5, [.int M_thrown, .int M_n, .ref a_M_a, .ref a_M_rowAt, .ref a_M_places, .ref a_M_rights, .ref a_M_weights, .int v_M_hasFactors, .ref a_M_pivots, .ref a_M_lower, .int M_hasSolution, .ref a_M_solution, .ref a_M_work, .ref a_M_isJoined, .int M_levels, .ref a_M_stored])), (a_M_rowAt, .inl (g.2.1, 16, .inl M_rowAt)), (a_M_a, .inl (g.2.1, 256, .inl M_a)), (a_M_lower, .inl (g.2.1, 256, .inl v_M_lower)), (a_M_pivots, .inl (g.2.1, 16, .inl (upd v_M_pivots (Int32.toNatClampNeg x1) r_1)))] := hD
      refine lv_aload_n hx hb dX5_find_28 rfl (lv_at hl 1 rfl) ?_
      refine va_get (D := g.1) (ci := 5) (v := .ref a_M_pivots) (C := RX5) (T := TX5) (N := 16) hx hb hts cw_in_X5 hown hK.1 hP 0 rfl rfl 8 (by decide) (hts _ cw_f_X5_29) (fun _ h9 => h9) rfl dX5_find_29 ?_
      refine lv_iload_n hx hb dX5_find_32 rfl (lv_at hl 0 rfl) ?_
      obtain ⟨h_3, hv⟩ := hv
      refine va_iald (D := g.1) hx hb hK.1 hP 4 0 rfl rfl h_3 dX5_find_33 ?_
      refine lv_if_ne (tgt := 39) hx hb dX5_find_34 (by decide) (fun hc => ?_) (fun hc => ?_)
      · replace hv := hv.2 hc
        refine lv_aload_n hx hb dX5_find_39 rfl (lv_at hl 1 rfl) ?_
        refine va_get (D := g.1) (ci := 5) (v := .ref a_M_pivots) (C := RX5) (T := TX5) (N := 16) hx hb hts cw_in_X5 hown hK.1 hP 0 rfl rfl 8 (by decide) (hts _ cw_f_X5_29) (fun _ h9 => h9) rfl dX5_find_40 ?_
        refine lv_iload_n hx hb dX5_find_43 rfl (lv_at hl 0 rfl) ?_
        obtain ⟨h_4, hv⟩ := hv
        refine va_iald (D := g.1) hx hb hK.1 hP 4 0 rfl rfl h_4 dX5_find_44 ?_
        refine cx_iSr (As := [.int ((upd v_M_pivots (Int32.toNatClampNeg x1) r_1) (Int32.toNatClampNeg x1))]) (rest := []) ⟨hx, hb, hml, hown, hts⟩ (cp_X5_over l g ((upd v_M_pivots (Int32.toNatClampNeg x1) r_1) (Int32.toNatClampNeg x1))) (cx_cwS 1 hts cw_m_X5_97 cw_t_X5_over cw_n_X5 cw_c_X5_over rfl rfl (by decide +kernel) ⟨Nat.le_of_ble_eq_true rfl, Nat.le_of_ble_eq_true rfl⟩) hK hP hD hS hA [] rfl rfl rfl hl.1 rfl (Nat.le_of_ble_eq_true rfl) dX5_find_45 ⟨Nat.le_of_ble_eq_true rfl, Nat.le_of_ble_eq_true rfl⟩ (fun r_5 H locs hr9 hP hS => ?_)
        replace hr9 : r_5 = (f_rec ((upd v_M_pivots (Int32.toNatClampNeg x1) r_1) (Int32.toNatClampNeg x1))) := hr9
        subst hr9
        refine lv_topi (fun x2_6 ex2_6 => ?_)
        replace hv := hv x2_6 ex2_6
        refine lv_istore_n (lv' := [(2, .int x2_6), (1, .int x1), (0, .ref a_M)]) hx hb dX5_find_48 rfl hl (by decide) rfl (fun ls hl => ?_)
        refine lv_iload_n hx hb dX5_find_49 rfl (lv_at hl 1 rfl) ?_
        refine lv_iconst (v := 1) hx hb dX5_find_50 (by decide) ?_
        refine lv_iadd hx hb dX5_find_51 ?_
        refine lv_topi (fun x3_7 ex3_7 => ?_)
        replace hv := hv x3_7 ex3_7
        refine lv_istore_n (lv' := [(3, .int x3_7), (2, .int x2_6), (1, .int x1), (0, .ref a_M)]) hx hb dX5_find_52 rfl hl (by decide) rfl (fun ls hl => ?_)
        exact hv _ _ _ hP hD hS (lv_sub hl [0, 1, 2, 3] rfl)
      · replace hv := hv.1 hc
        refine lv_iload_n hx hb dX5_find_37 rfl (lv_at hl 0 rfl) ?_
        exact cx_iret hx hb hr hlocks hAe hS (v_M_hasFactors, v_M_lower, (upd v_M_pivots (Int32.toNatClampNeg x1) r_1)) hv hP hD dX5_find_38
  have hs2 : ∀ (x3 : Int32) (x2 : Int32) (x1 : Int32) (v_M_hasFactors : Int32) (v_M_lower : (Nat → Int32)) (v_M_pivots : (Nat → Int32)), vc_X5_find_2 M_thrown M_n M_hasFactors M_hasSolution M_levels M_rowAt M_a M_lower M_pivots Q G1 G2 x3 x2 x1 v_M_hasFactors v_M_lower v_M_pivots → G2 x3 x2 x1 v_M_hasFactors v_M_lower v_M_pivots := by
    rw [hG1, hG2]
    intro x3 x2 x1 v_M_hasFactors v_M_lower v_M_pivots hv H locs ls hP hD hS hl
    unfold vc_X5_find_2 at hv
    refine lv_iload_n hx hb dX5_find_53 rfl (lv_at hl 0 rfl) ?_
    refine lv_aload_n hx hb dX5_find_54 rfl (lv_at hl 3 rfl) ?_
    refine va_get (D := g.1) (ci := 5) (v := .int M_n) (C := RX5) (T := TX5) (N := 16) hx hb hts cw_in_X5 hown hK.1 hP 0 rfl rfl 1 (by decide) (hts _ cw_f_X5_9) (fun _ h9 => h9) rfl dX5_find_55 ?_
    refine lv_icmp_ge (tgt := 88) hx hb dX5_find_58 (by decide) (fun hc => ?_) (fun hc => ?_)
    · replace hv := hv.1 hc
      obtain ⟨x1_1, ex1_1⟩ : ∃ y : Int32, y = x1 + 1 := ⟨_, rfl⟩
      replace hv := hv x1_1 ex1_1
      refine lv_iinc (v := x1_1) (lv' := [(1, .int x1_1), (3, .int x3), (2, .int x2), (0, .ref a_M)]) hx hb dX5_find_88 hl (k := 2) rfl (by rw [ex1_1]; rfl) (by decide) rfl (fun ls hl => ?_)
      refine lv_goto (tgt := 7) hx hb dX5_find_91 (by decide) ?_
      exact hv _ _ _ hP hD hS (lv_sub hl [0, 3] rfl)
    · replace hv := hv.2 hc
      refine lv_aload_n hx hb dX5_find_61 rfl (lv_at hl 3 rfl) ?_
      refine va_get (D := g.1) (ci := 5) (v := .ref a_M_lower) (C := RX5) (T := TX5) (N := 16) hx hb hts cw_in_X5 hown hK.1 hP 0 rfl rfl 9 (by decide) (hts _ cw_f_X5_32) (fun _ h9 => h9) rfl dX5_find_62 ?_
      refine lv_iload_n hx hb dX5_find_65 rfl (lv_at hl 0 rfl) ?_
      refine lv_iload_n hx hb dX5_find_66 rfl (lv_at hl 2 rfl) ?_
      refine cx_iSr (As := [.int x3, .int x1]) (rest := [.ref a_M_lower]) ⟨hx, hb, hml, hown, hts⟩ (cp_X5_at l g x3 x1) (cx_cwS 2 hts cw_m_X5_62 cw_t_X5_at cw_n_X5 cw_c_X5_at rfl rfl (by decide +kernel) ⟨Nat.le_of_ble_eq_true rfl, Nat.le_of_ble_eq_true rfl⟩) hK hP hD hS hA [] rfl rfl rfl hl.1 rfl (Nat.le_of_ble_eq_true rfl) dX5_find_67 ⟨Nat.le_of_ble_eq_true rfl, Nat.le_of_ble_eq_true rfl⟩ (fun r_2 H locs hr9 hP hS => ?_)
      replace hr9 : r_2 = (f_at x3 x1) := hr9
      subst hr9
      refine lv_aload_n hx hb dX5_find_70 rfl (lv_at hl 3 rfl) ?_
      refine lv_iload_n hx hb dX5_find_71 rfl (lv_at hl 0 rfl) ?_
      refine lv_iload_n hx hb dX5_find_72 rfl (lv_at hl 2 rfl) ?_
      refine lv_iload_n hx hb dX5_find_73 rfl (lv_at hl 2 rfl) ?_
      refine cx_iVr (As := [.int x3, .int x1, .int x1]) (rest := [.int (f_at x3 x1), .ref a_M_lower]) ⟨hx, hb, hml, hown, hts⟩ (c_X5_rest l g a_M a_M_a a_M_rowAt a_M_places a_M_rights a_M_weights a_M_pivots a_M_lower a_M_solution a_M_work a_M_isJoined a_M_stored x3 x1 x1 M_thrown M_n v_M_hasFactors M_hasSolution M_levels M_rowAt M_a v_M_lower v_M_pivots hv) (cx_cwV 3 hts cw_m_X5_145 cw_i_X5_rest cw_s_X5_rest cw_n_X5 cw_c_X5_rest rfl rfl (by decide +kernel) ⟨Nat.le_of_ble_eq_true rfl, Nat.le_of_ble_eq_true rfl⟩) hK hP hD hS hA 0 5 rfl rfl [0, 1, 2, 3, 4] rfl rfl rfl hl.1 rfl (Nat.le_of_ble_eq_true rfl) dX5_find_74 ⟨Nat.le_of_ble_eq_true rfl, Nat.le_of_ble_eq_true rfl⟩ (fun r_3 H locs hv hP hS => ?_)
      refine lv_iload_n hx hb dX5_find_77 rfl (lv_at hl 1 rfl) ?_
      refine cx_iSr (As := [.int r_3, .int x2]) (rest := [.int (f_at x3 x1), .ref a_M_lower]) ⟨hx, hb, hml, hown, hts⟩ (cp_X5_times l g r_3 x2) (cx_cwS 2 hts cw_m_X5_58 cw_t_X5_times cw_n_X5 cw_c_X5_times rfl rfl (by decide +kernel) ⟨Nat.le_of_ble_eq_true rfl, Nat.le_of_ble_eq_true rfl⟩) hK hP hD hS hA [] rfl rfl rfl hl.1 rfl (Nat.le_of_ble_eq_true rfl) dX5_find_78 ⟨Nat.le_of_ble_eq_true rfl, Nat.le_of_ble_eq_true rfl⟩ (fun r_4 H locs hr9 hP hS => ?_)
      replace hr9 : r_4 = (f_times r_3 x2) := hr9
      subst hr9
      obtain ⟨h_5, hv⟩ := hv
      refine va_iast (D := g.1) hx hb hK.1 hP hD hS 3 0 rfl rfl h_5 dX5_find_81 (fun H locs hP hD hS => ?_)
      have hP : va_P g.1 vwCl [(a_M, .inr (5, [.int M_thrown, .int M_n, .ref a_M_a, .ref a_M_rowAt, .ref a_M_places, .ref a_M_rights, .ref a_M_weights, .int v_M_hasFactors, .ref a_M_pivots, .ref a_M_lower, .int M_hasSolution, .ref a_M_solution, .ref a_M_work, .ref a_M_isJoined, .int M_levels, .ref a_M_stored])), (a_M_rowAt, .inl (g.2.1, 16, .inl M_rowAt)), (a_M_a, .inl (g.2.1, 256, .inl M_a)), (a_M_lower, .inl (g.2.1, 256, .inl (upd v_M_lower (Int32.toNatClampNeg (f_at x3 x1)) (f_times r_3 x2)))), (a_M_pivots, .inl (g.2.1, 16, .inl v_M_pivots))] H := hP
      have hD : va_D A [(a_M, .inr (5, [.int M_thrown, .int M_n, .ref a_M_a, .ref a_M_rowAt, .ref a_M_places, .ref a_M_rights, .ref a_M_weights, .int v_M_hasFactors, .ref a_M_pivots, .ref a_M_lower, .int M_hasSolution, .ref a_M_solution, .ref a_M_work, .ref a_M_isJoined, .int M_levels, .ref a_M_stored])), (a_M_rowAt, .inl (g.2.1, 16, .inl M_rowAt)), (a_M_a, .inl (g.2.1, 256, .inl M_a)), (a_M_lower, .inl (g.2.1, 256, .inl (upd v_M_lower (Int32.toNatClampNeg (f_at x3 x1)) (f_times r_3 x2)))), (a_M_pivots, .inl (g.2.1, 16, .inl v_M_pivots))] := hD
      obtain ⟨x3_6, ex3_6⟩ : ∃ y : Int32, y = x3 + 1 := ⟨_, rfl⟩
      replace hv := hv x3_6 ex3_6
      refine lv_iinc (v := x3_6) (lv' := [(3, .int x3_6), (2, .int x2), (1, .int x1), (0, .ref a_M)]) hx hb dX5_find_82 hl (k := 0) rfl (by rw [ex3_6]; rfl) (by decide) rfl (fun ls hl => ?_)
      refine lv_goto (tgt := 53) hx hb dX5_find_85 (by decide) ?_
      exact hv _ _ _ hP hD hS (lv_sub hl [0, 1, 2, 3] rfl)
  replace hv := hv G1 G2 hs1 hs2
  rw [hG1, hG2] at hv
  unfold vc_X5_find_0 at hv
  refine lv_aload_n hx hb dX5_find_0 rfl (lv_at hl 0 rfl) ?_
  refine lv_iconst (v := 0) hx hb dX5_find_1 (by decide) ?_
  refine va_put (D := g.1) (ci := 5) (v := .int 0) (ty := .boolean) (C := RX5) (T := TX5) (N := 16) hx hb hts cw_in_X5 tyX5 tyX5_ok nmX5 hown hK.1 hP hD hS 0 rfl rfl 7 (by decide) (hts _ cw_f_X5_65) (fun _ h9 => h9) rfl (by decide +kernel) rfl rfl (Nat.le_of_ble_eq_true rfl) dX5_find_2 (fun H locs hP hD hS => ?_)
  have hP : va_P g.1 vwCl [(a_M, .inr (5, [.int M_thrown, .int M_n, .ref a_M_a, .ref a_M_rowAt, .ref a_M_places, .ref a_M_rights, .ref a_M_weights, .int 0, .ref a_M_pivots, .ref a_M_lower, .int M_hasSolution, .ref a_M_solution, .ref a_M_work, .ref a_M_isJoined, .int M_levels, .ref a_M_stored])), (a_M_rowAt, .inl (g.2.1, 16, .inl M_rowAt)), (a_M_a, .inl (g.2.1, 256, .inl M_a)), (a_M_lower, .inl (g.2.1, 256, .inl M_lower)), (a_M_pivots, .inl (g.2.1, 16, .inl M_pivots))] H := hP
  have hD : va_D A [(a_M, .inr (5, [.int M_thrown, .int M_n, .ref a_M_a, .ref a_M_rowAt, .ref a_M_places, .ref a_M_rights, .ref a_M_weights, .int 0, .ref a_M_pivots, .ref a_M_lower, .int M_hasSolution, .ref a_M_solution, .ref a_M_work, .ref a_M_isJoined, .int M_levels, .ref a_M_stored])), (a_M_rowAt, .inl (g.2.1, 16, .inl M_rowAt)), (a_M_a, .inl (g.2.1, 256, .inl M_a)), (a_M_lower, .inl (g.2.1, 256, .inl M_lower)), (a_M_pivots, .inl (g.2.1, 16, .inl M_pivots))] := hD
  refine lv_iconst (v := 0) hx hb dX5_find_5 (by decide) ?_
  refine lv_istore_n (lv' := [(1, .int 0), (0, .ref a_M)]) hx hb dX5_find_6 rfl hl (by decide) rfl (fun ls hl => ?_)
  exact hv _ _ _ hP hD hS (lv_sub hl [0, 1] rfl)
def wp_X5_factor (M_thrown : Int32) (M_n : Int32) (M_hasFactors : Int32) (M_hasSolution : Int32) (M_levels : Int32) (M_rowAt : (Nat → Int32)) (M_a : (Nat → Int32)) (M_lower : (Nat → Int32)) (M_pivots : (Nat → Int32)) (Q : Int32 → Int32 → Int32 → (Nat → Int32) → (Nat → Int32) → Prop)   : Prop := wp_X5_find 0 M_n M_hasFactors M_hasSolution M_levels M_rowAt M_a M_lower M_pivots (fun r_1 u_2 u_3 u_4 => Q r_1 0 u_2 u_3 u_4)
abbrev w0_X5_factor (g : cx_G) (a_M a_M_a a_M_rowAt a_M_places a_M_rights a_M_weights a_M_pivots a_M_lower a_M_solution a_M_work a_M_isJoined a_M_stored : Nat) (M_thrown : Int32) (M_n : Int32) (M_hasFactors : Int32) (M_hasSolution : Int32) (M_levels : Int32) (M_rowAt : (Nat → Int32)) (M_a : (Nat → Int32)) (M_lower : (Nat → Int32)) (M_pivots : (Nat → Int32)) : va_W := [(a_M, .inr (5, [.int M_thrown, .int M_n, .ref a_M_a, .ref a_M_rowAt, .ref a_M_places, .ref a_M_rights, .ref a_M_weights, .int M_hasFactors, .ref a_M_pivots, .ref a_M_lower, .int M_hasSolution, .ref a_M_solution, .ref a_M_work, .ref a_M_isJoined, .int M_levels, .ref a_M_stored])), (a_M_rowAt, .inl (g.2.1, 16, .inl M_rowAt)), (a_M_a, .inl (g.2.1, 256, .inl M_a)), (a_M_lower, .inl (g.2.1, 256, .inl M_lower)), (a_M_pivots, .inl (g.2.1, 16, .inl M_pivots))]
abbrev w1_X5_factor (g : cx_G) (a_M a_M_a a_M_rowAt a_M_places a_M_rights a_M_weights a_M_pivots a_M_lower a_M_solution a_M_work a_M_isJoined a_M_stored : Nat) (M_thrown : Int32) (M_n : Int32) (M_hasFactors : Int32) (M_hasSolution : Int32) (M_levels : Int32) (M_rowAt : (Nat → Int32)) (M_a : (Nat → Int32)) (M_lower : (Nat → Int32)) (M_pivots : (Nat → Int32)) (u : Int32 × Int32 × (Nat → Int32) × (Nat → Int32)) : va_W := [(a_M, .inr (5, [.int u.1, .int M_n, .ref a_M_a, .ref a_M_rowAt, .ref a_M_places, .ref a_M_rights, .ref a_M_weights, .int u.2.1, .ref a_M_pivots, .ref a_M_lower, .int M_hasSolution, .ref a_M_solution, .ref a_M_work, .ref a_M_isJoined, .int M_levels, .ref a_M_stored])), (a_M_rowAt, .inl (g.2.1, 16, .inl M_rowAt)), (a_M_a, .inl (g.2.1, 256, .inl M_a)), (a_M_lower, .inl (g.2.1, 256, .inl u.2.2.1)), (a_M_pivots, .inl (g.2.1, 16, .inl u.2.2.2))]
set_option maxHeartbeats 4000000 in
set_option maxRecDepth 100000 in
theorem c_X5_factor (l : Launch) (g : cx_G) (a_M a_M_a a_M_rowAt a_M_places a_M_rights a_M_weights a_M_pivots a_M_lower a_M_solution a_M_work a_M_isJoined a_M_stored : Nat) (M_thrown : Int32) (M_n : Int32) (M_hasFactors : Int32) (M_hasSolution : Int32) (M_levels : Int32) (M_rowAt : (Nat → Int32)) (M_a : (Nat → Int32)) (M_lower : (Nat → Int32)) (M_pivots : (Nat → Int32)) {Q : Int32 → Int32 → Int32 → (Nat → Int32) → (Nat → Int32) → Prop} (hv : wp_X5_factor M_thrown M_n M_hasFactors M_hasSolution M_levels M_rowAt M_a M_lower M_pivots Q) : cx_Mi l g yX5_factor (Cond.code yX5_factor cX5_factor 1 (some .int) :: cx_T) ({ frames := 3, cells := 0, slots := 0, locals := 69 } : Room) [.ref a_M] (w0_X5_factor g a_M a_M_a a_M_rowAt a_M_places a_M_rights a_M_weights a_M_pivots a_M_lower a_M_solution a_M_work a_M_isJoined a_M_stored M_thrown M_n M_hasFactors M_hasSolution M_levels M_rowAt M_a M_lower M_pivots) (fun (r : Int32) (u : Int32 × Int32 × (Nat → Int32) × (Nat → Int32)) => Q r u.1 u.2.1 u.2.2.1 u.2.2.2) (w1_X5_factor g a_M a_M_a a_M_rowAt a_M_places a_M_rights a_M_weights a_M_pivots a_M_lower a_M_solution a_M_work a_M_isJoined a_M_stored M_thrown M_n M_hasFactors M_hasSolution M_levels M_rowAt M_a M_lower M_pivots) 0 0 := by
  intro sz
  refine Met.ofW (cc := cX5_factor) (maxL := 1) (ret := (some .int)) (by decide) rfl ?_
  intro p e s m args below meth c s₁ B hml hpre
  obtain ⟨rfl, hsz, hP, hK, hD0⟩ := hpre
  have hx := B.exec
  have hb := B.bytes
  have hr := B.returns
  have hts0 := atoms_spec (ws := (Cond.code yX5_factor cX5_factor 1 (some .int) :: cx_T)) B.pre
  have hts : ∀ w ∈ cx_T, w.before _ s = true := fun w h => hts0 w (List.mem_cons_of_mem _ h)
  have hown : s.vm.findClass RX5 = some m.cls := findClass_of_methodNamed B.named
  have hlocks := B.notSynchronized
  subst hsz
  have hD := hD0.self (sz := s.heap.size)
  obtain ⟨A, hAe⟩ : ∃ A : Nat → Prop, A = va_A (w0_X5_factor g a_M a_M_a a_M_rowAt a_M_places a_M_rights a_M_weights a_M_pivots a_M_lower a_M_solution a_M_work a_M_isJoined a_M_stored M_thrown M_n M_hasFactors M_hasSolution M_levels M_rowAt M_a M_lower M_pivots) s.heap.size := ⟨_, rfl⟩
  rw [← hAe] at hD
  have hA : ∀ q : Nat, s.heap.size ≤ q → A q := fun q h => by rw [hAe]; exact Or.inr h
  have hS : va_S A s.heap s.heap [] := va_S.rf
  have hP : va_P g.1 vwCl [(a_M, .inr (5, [.int M_thrown, .int M_n, .ref a_M_a, .ref a_M_rowAt, .ref a_M_places, .ref a_M_rights, .ref a_M_weights, .int M_hasFactors, .ref a_M_pivots, .ref a_M_lower, .int M_hasSolution, .ref a_M_solution, .ref a_M_work, .ref a_M_isJoined, .int M_levels, .ref a_M_stored])), (a_M_rowAt, .inl (g.2.1, 16, .inl M_rowAt)), (a_M_a, .inl (g.2.1, 256, .inl M_a)), (a_M_lower, .inl (g.2.1, 256, .inl M_lower)), (a_M_pivots, .inl (g.2.1, 16, .inl M_pivots))] s.heap := hP
  have hD : va_D A [(a_M, .inr (5, [.int M_thrown, .int M_n, .ref a_M_a, .ref a_M_rowAt, .ref a_M_places, .ref a_M_rights, .ref a_M_weights, .int M_hasFactors, .ref a_M_pivots, .ref a_M_lower, .int M_hasSolution, .ref a_M_solution, .ref a_M_work, .ref a_M_isJoined, .int M_levels, .ref a_M_stored])), (a_M_rowAt, .inl (g.2.1, 16, .inl M_rowAt)), (a_M_a, .inl (g.2.1, 256, .inl M_a)), (a_M_lower, .inl (g.2.1, 256, .inl M_lower)), (a_M_pivots, .inl (g.2.1, 16, .inl M_pivots))] := hD
  have hl := lv_entry ([.ref a_M]) (n := 1) (Nat.le_of_ble_eq_true rfl)
  rw [lg_entry_eq]
  generalize (lg_sl ([.ref a_M]) ++ List.replicate (1 - (lg_sl ([.ref a_M])).length) Slot.unset).toArray = ls at hl ⊢
  have hl : lv_has ls 1 [(0, .ref a_M)] := hl
  unfold wp_X5_factor at hv
  refine lv_aload_n hx hb dX5_factor_0 rfl (lv_at hl 0 rfl) ?_
  refine lv_iconst (v := 0) hx hb dX5_factor_1 (by decide) ?_
  refine va_put (D := g.1) (ci := 5) (v := .int 0) (ty := .int) (C := RX5) (T := TX5) (N := 16) hx hb hts cw_in_X5 tyX5 tyX5_ok nmX5 hown hK.1 hP hD hS 0 rfl rfl 0 (by decide) (hts _ cw_f_X5_51) (fun _ h9 => h9) rfl (by decide +kernel) rfl rfl (Nat.le_of_ble_eq_true rfl) dX5_factor_2 (fun H locs hP hD hS => ?_)
  have hP : va_P g.1 vwCl [(a_M, .inr (5, [.int 0, .int M_n, .ref a_M_a, .ref a_M_rowAt, .ref a_M_places, .ref a_M_rights, .ref a_M_weights, .int M_hasFactors, .ref a_M_pivots, .ref a_M_lower, .int M_hasSolution, .ref a_M_solution, .ref a_M_work, .ref a_M_isJoined, .int M_levels, .ref a_M_stored])), (a_M_rowAt, .inl (g.2.1, 16, .inl M_rowAt)), (a_M_a, .inl (g.2.1, 256, .inl M_a)), (a_M_lower, .inl (g.2.1, 256, .inl M_lower)), (a_M_pivots, .inl (g.2.1, 16, .inl M_pivots))] H := hP
  have hD : va_D A [(a_M, .inr (5, [.int 0, .int M_n, .ref a_M_a, .ref a_M_rowAt, .ref a_M_places, .ref a_M_rights, .ref a_M_weights, .int M_hasFactors, .ref a_M_pivots, .ref a_M_lower, .int M_hasSolution, .ref a_M_solution, .ref a_M_work, .ref a_M_isJoined, .int M_levels, .ref a_M_stored])), (a_M_rowAt, .inl (g.2.1, 16, .inl M_rowAt)), (a_M_a, .inl (g.2.1, 256, .inl M_a)), (a_M_lower, .inl (g.2.1, 256, .inl M_lower)), (a_M_pivots, .inl (g.2.1, 16, .inl M_pivots))] := hD
  refine lv_aload_n hx hb dX5_factor_5 rfl (lv_at hl 0 rfl) ?_
  refine cx_iV (wr := []) (As := []) (rest := []) ⟨hx, hb, hml, hown, hts⟩ (c_X5_find l g a_M a_M_a a_M_rowAt a_M_places a_M_rights a_M_weights a_M_pivots a_M_lower a_M_solution a_M_work a_M_isJoined a_M_stored 0 M_n M_hasFactors M_hasSolution M_levels M_rowAt M_a M_lower M_pivots hv) (cx_cwV 0 hts cw_m_X5_149 cw_i_X5_find cw_s_X5_find cw_n_X5 cw_c_X5_find rfl rfl (by decide +kernel) ⟨Nat.le_of_ble_eq_true rfl, Nat.le_of_ble_eq_true rfl⟩) hK hP hD hS hA 0 5 rfl rfl [0, 1, 2, 3, 4] [] rfl rfl rfl rfl (by decide) rfl hl.1 rfl (Nat.le_of_ble_eq_true rfl) dX5_factor_6 ⟨Nat.le_of_ble_eq_true rfl, Nat.le_of_ble_eq_true rfl⟩ (fun r_1 w_5 H locs hv hP hD hS => ?_)
  obtain ⟨u_2, u_3, u_4⟩ := w_5
  have hP : va_P g.1 vwCl [(a_M, .inr (5, [.int 0, .int M_n, .ref a_M_a, .ref a_M_rowAt, .ref a_M_places, .ref a_M_rights, .ref a_M_weights, .int u_2, .ref a_M_pivots, .ref a_M_lower, .int M_hasSolution, .ref a_M_solution, .ref a_M_work, .ref a_M_isJoined, .int M_levels, .ref a_M_stored])), (a_M_rowAt, .inl (g.2.1, 16, .inl M_rowAt)), (a_M_a, .inl (g.2.1, 256, .inl M_a)), (a_M_lower, .inl (g.2.1, 256, .inl u_3)), (a_M_pivots, .inl (g.2.1, 16, .inl u_4))] H := hP.sub [0, 1, 2, 3, 4] rfl
  have hD : va_D A [(a_M, .inr (5, [.int 0, .int M_n, .ref a_M_a, .ref a_M_rowAt, .ref a_M_places, .ref a_M_rights, .ref a_M_weights, .int u_2, .ref a_M_pivots, .ref a_M_lower, .int M_hasSolution, .ref a_M_solution, .ref a_M_work, .ref a_M_isJoined, .int M_levels, .ref a_M_stored])), (a_M_rowAt, .inl (g.2.1, 16, .inl M_rowAt)), (a_M_a, .inl (g.2.1, 256, .inl M_a)), (a_M_lower, .inl (g.2.1, 256, .inl u_3)), (a_M_pivots, .inl (g.2.1, 16, .inl u_4))] := hD.sub [0, 1, 2, 3, 4] (by decide) rfl
  exact cx_iret hx hb hr hlocks hAe hS (0, u_2, u_3, u_4) hv hP hD dX5_factor_9
def wp_X5_hasFactors (M_thrown : Int32) (M_n : Int32) (M_hasFactors : Int32) (M_hasSolution : Int32) (M_levels : Int32) (Q : Int32 → Int32 → Prop)   : Prop := narrow .boolean (.int M_hasFactors) = .int M_hasFactors ∧ Q M_hasFactors 0
abbrev w0_X5_hasFactors (g : cx_G) (a_M a_M_a a_M_rowAt a_M_places a_M_rights a_M_weights a_M_pivots a_M_lower a_M_solution a_M_work a_M_isJoined a_M_stored : Nat) (M_thrown : Int32) (M_n : Int32) (M_hasFactors : Int32) (M_hasSolution : Int32) (M_levels : Int32) : va_W := [(a_M, .inr (5, [.int M_thrown, .int M_n, .ref a_M_a, .ref a_M_rowAt, .ref a_M_places, .ref a_M_rights, .ref a_M_weights, .int M_hasFactors, .ref a_M_pivots, .ref a_M_lower, .int M_hasSolution, .ref a_M_solution, .ref a_M_work, .ref a_M_isJoined, .int M_levels, .ref a_M_stored]))]
abbrev w1_X5_hasFactors (g : cx_G) (a_M a_M_a a_M_rowAt a_M_places a_M_rights a_M_weights a_M_pivots a_M_lower a_M_solution a_M_work a_M_isJoined a_M_stored : Nat) (M_thrown : Int32) (M_n : Int32) (M_hasFactors : Int32) (M_hasSolution : Int32) (M_levels : Int32) (u : Int32) : va_W := [(a_M, .inr (5, [.int u, .int M_n, .ref a_M_a, .ref a_M_rowAt, .ref a_M_places, .ref a_M_rights, .ref a_M_weights, .int M_hasFactors, .ref a_M_pivots, .ref a_M_lower, .int M_hasSolution, .ref a_M_solution, .ref a_M_work, .ref a_M_isJoined, .int M_levels, .ref a_M_stored]))]
set_option maxHeartbeats 4000000 in
set_option maxRecDepth 100000 in
theorem c_X5_hasFactors (l : Launch) (g : cx_G) (a_M a_M_a a_M_rowAt a_M_places a_M_rights a_M_weights a_M_pivots a_M_lower a_M_solution a_M_work a_M_isJoined a_M_stored : Nat) (M_thrown : Int32) (M_n : Int32) (M_hasFactors : Int32) (M_hasSolution : Int32) (M_levels : Int32) {Q : Int32 → Int32 → Prop} (hv : wp_X5_hasFactors M_thrown M_n M_hasFactors M_hasSolution M_levels Q) : cx_Mi l g yX5_hasFactors (Cond.code yX5_hasFactors cX5_hasFactors 1 (some .boolean) :: cx_T) ({ frames := 0, cells := 0, slots := 0, locals := 0 } : Room) [.ref a_M] (w0_X5_hasFactors g a_M a_M_a a_M_rowAt a_M_places a_M_rights a_M_weights a_M_pivots a_M_lower a_M_solution a_M_work a_M_isJoined a_M_stored M_thrown M_n M_hasFactors M_hasSolution M_levels) (fun (r : Int32) (u : Int32) => Q r u) (w1_X5_hasFactors g a_M a_M_a a_M_rowAt a_M_places a_M_rights a_M_weights a_M_pivots a_M_lower a_M_solution a_M_work a_M_isJoined a_M_stored M_thrown M_n M_hasFactors M_hasSolution M_levels) 0 0 := by
  intro sz
  refine Met.ofW (cc := cX5_hasFactors) (maxL := 1) (ret := (some .boolean)) (by decide) rfl ?_
  intro p e s m args below meth c s₁ B hml hpre
  obtain ⟨rfl, hsz, hP, hK, hD0⟩ := hpre
  have hx := B.exec
  have hb := B.bytes
  have hr := B.returns
  have hts0 := atoms_spec (ws := (Cond.code yX5_hasFactors cX5_hasFactors 1 (some .boolean) :: cx_T)) B.pre
  have hts : ∀ w ∈ cx_T, w.before _ s = true := fun w h => hts0 w (List.mem_cons_of_mem _ h)
  have hown : s.vm.findClass RX5 = some m.cls := findClass_of_methodNamed B.named
  have hlocks := B.notSynchronized
  subst hsz
  have hD := hD0.self (sz := s.heap.size)
  obtain ⟨A, hAe⟩ : ∃ A : Nat → Prop, A = va_A (w0_X5_hasFactors g a_M a_M_a a_M_rowAt a_M_places a_M_rights a_M_weights a_M_pivots a_M_lower a_M_solution a_M_work a_M_isJoined a_M_stored M_thrown M_n M_hasFactors M_hasSolution M_levels) s.heap.size := ⟨_, rfl⟩
  rw [← hAe] at hD
  have hA : ∀ q : Nat, s.heap.size ≤ q → A q := fun q h => by rw [hAe]; exact Or.inr h
  have hS : va_S A s.heap s.heap [] := va_S.rf
  have hP : va_P g.1 vwCl [(a_M, .inr (5, [.int M_thrown, .int M_n, .ref a_M_a, .ref a_M_rowAt, .ref a_M_places, .ref a_M_rights, .ref a_M_weights, .int M_hasFactors, .ref a_M_pivots, .ref a_M_lower, .int M_hasSolution, .ref a_M_solution, .ref a_M_work, .ref a_M_isJoined, .int M_levels, .ref a_M_stored]))] s.heap := hP
  have hD : va_D A [(a_M, .inr (5, [.int M_thrown, .int M_n, .ref a_M_a, .ref a_M_rowAt, .ref a_M_places, .ref a_M_rights, .ref a_M_weights, .int M_hasFactors, .ref a_M_pivots, .ref a_M_lower, .int M_hasSolution, .ref a_M_solution, .ref a_M_work, .ref a_M_isJoined, .int M_levels, .ref a_M_stored]))] := hD
  have hl := lv_entry ([.ref a_M]) (n := 1) (Nat.le_of_ble_eq_true rfl)
  rw [lg_entry_eq]
  generalize (lg_sl ([.ref a_M]) ++ List.replicate (1 - (lg_sl ([.ref a_M])).length) Slot.unset).toArray = ls at hl ⊢
  have hl : lv_has ls 1 [(0, .ref a_M)] := hl
  unfold wp_X5_hasFactors at hv
  refine lv_aload_n hx hb dX5_hasFactors_0 rfl (lv_at hl 0 rfl) ?_
  refine lv_iconst (v := 0) hx hb dX5_hasFactors_1 (by decide) ?_
  refine va_put (D := g.1) (ci := 5) (v := .int 0) (ty := .int) (C := RX5) (T := TX5) (N := 16) hx hb hts cw_in_X5 tyX5 tyX5_ok nmX5 hown hK.1 hP hD hS 0 rfl rfl 0 (by decide) (hts _ cw_f_X5_51) (fun _ h9 => h9) rfl (by decide +kernel) rfl rfl (Nat.le_of_ble_eq_true rfl) dX5_hasFactors_2 (fun H locs hP hD hS => ?_)
  have hP : va_P g.1 vwCl [(a_M, .inr (5, [.int 0, .int M_n, .ref a_M_a, .ref a_M_rowAt, .ref a_M_places, .ref a_M_rights, .ref a_M_weights, .int M_hasFactors, .ref a_M_pivots, .ref a_M_lower, .int M_hasSolution, .ref a_M_solution, .ref a_M_work, .ref a_M_isJoined, .int M_levels, .ref a_M_stored]))] H := hP
  have hD : va_D A [(a_M, .inr (5, [.int 0, .int M_n, .ref a_M_a, .ref a_M_rowAt, .ref a_M_places, .ref a_M_rights, .ref a_M_weights, .int M_hasFactors, .ref a_M_pivots, .ref a_M_lower, .int M_hasSolution, .ref a_M_solution, .ref a_M_work, .ref a_M_isJoined, .int M_levels, .ref a_M_stored]))] := hD
  refine lv_aload_n hx hb dX5_hasFactors_5 rfl (lv_at hl 0 rfl) ?_
  refine va_get (D := g.1) (ci := 5) (v := .int M_hasFactors) (C := RX5) (T := TX5) (N := 16) hx hb hts cw_in_X5 hown hK.1 hP 0 rfl rfl 7 (by decide) (hts _ cw_f_X5_65) (fun _ h9 => h9) rfl dX5_hasFactors_6 ?_
  obtain ⟨hn, hv⟩ := hv
  exact cx_zret hx hb hr hn hlocks hAe hS 0 hv hP hD dX5_hasFactors_9
def wp_X5_pivot (i_p : Int32) (M_thrown : Int32) (M_n : Int32) (M_hasFactors : Int32) (M_hasSolution : Int32) (M_levels : Int32) (M_pivots : (Nat → Int32)) (Q : Int32 → Int32 → Prop)   : Prop := wp_X5_isRow i_p M_thrown M_n M_hasFactors M_hasSolution M_levels (fun r_1 => (r_1 = 0 → (Q 0 1)) ∧ (¬ r_1 = 0 → ((M_hasFactors = 0 → (Q 0 2)) ∧ (¬ M_hasFactors = 0 → (vp_in i_p 16 ∧ (Q (M_pivots (Int32.toNatClampNeg i_p)) 0))))))
abbrev w0_X5_pivot (g : cx_G) (a_M a_M_a a_M_rowAt a_M_places a_M_rights a_M_weights a_M_pivots a_M_lower a_M_solution a_M_work a_M_isJoined a_M_stored : Nat) (M_thrown : Int32) (M_n : Int32) (M_hasFactors : Int32) (M_hasSolution : Int32) (M_levels : Int32) (M_pivots : (Nat → Int32)) : va_W := [(a_M, .inr (5, [.int M_thrown, .int M_n, .ref a_M_a, .ref a_M_rowAt, .ref a_M_places, .ref a_M_rights, .ref a_M_weights, .int M_hasFactors, .ref a_M_pivots, .ref a_M_lower, .int M_hasSolution, .ref a_M_solution, .ref a_M_work, .ref a_M_isJoined, .int M_levels, .ref a_M_stored])), (a_M_pivots, .inl (g.2.1, 16, .inl M_pivots))]
abbrev w1_X5_pivot (g : cx_G) (a_M a_M_a a_M_rowAt a_M_places a_M_rights a_M_weights a_M_pivots a_M_lower a_M_solution a_M_work a_M_isJoined a_M_stored : Nat) (M_thrown : Int32) (M_n : Int32) (M_hasFactors : Int32) (M_hasSolution : Int32) (M_levels : Int32) (M_pivots : (Nat → Int32)) (u : Int32) : va_W := [(a_M, .inr (5, [.int u, .int M_n, .ref a_M_a, .ref a_M_rowAt, .ref a_M_places, .ref a_M_rights, .ref a_M_weights, .int M_hasFactors, .ref a_M_pivots, .ref a_M_lower, .int M_hasSolution, .ref a_M_solution, .ref a_M_work, .ref a_M_isJoined, .int M_levels, .ref a_M_stored])), (a_M_pivots, .inl (g.2.1, 16, .inl M_pivots))]
set_option maxHeartbeats 4000000 in
set_option maxRecDepth 100000 in
theorem c_X5_pivot (l : Launch) (g : cx_G) (a_M a_M_a a_M_rowAt a_M_places a_M_rights a_M_weights a_M_pivots a_M_lower a_M_solution a_M_work a_M_isJoined a_M_stored : Nat) (i_p : Int32) (M_thrown : Int32) (M_n : Int32) (M_hasFactors : Int32) (M_hasSolution : Int32) (M_levels : Int32) (M_pivots : (Nat → Int32)) {Q : Int32 → Int32 → Prop} (hv : wp_X5_pivot i_p M_thrown M_n M_hasFactors M_hasSolution M_levels M_pivots Q) : cx_Mi l g yX5_pivot (Cond.code yX5_pivot cX5_pivot 2 (some .int) :: cx_T) ({ frames := 1, cells := 0, slots := 0, locals := 21 } : Room) [.ref a_M, .int i_p] (w0_X5_pivot g a_M a_M_a a_M_rowAt a_M_places a_M_rights a_M_weights a_M_pivots a_M_lower a_M_solution a_M_work a_M_isJoined a_M_stored M_thrown M_n M_hasFactors M_hasSolution M_levels M_pivots) (fun (r : Int32) (u : Int32) => Q r u) (w1_X5_pivot g a_M a_M_a a_M_rowAt a_M_places a_M_rights a_M_weights a_M_pivots a_M_lower a_M_solution a_M_work a_M_isJoined a_M_stored M_thrown M_n M_hasFactors M_hasSolution M_levels M_pivots) 0 0 := by
  intro sz
  refine Met.ofW (cc := cX5_pivot) (maxL := 2) (ret := (some .int)) (by decide) rfl ?_
  intro p e s m args below meth c s₁ B hml hpre
  obtain ⟨rfl, hsz, hP, hK, hD0⟩ := hpre
  have hx := B.exec
  have hb := B.bytes
  have hr := B.returns
  have hts0 := atoms_spec (ws := (Cond.code yX5_pivot cX5_pivot 2 (some .int) :: cx_T)) B.pre
  have hts : ∀ w ∈ cx_T, w.before _ s = true := fun w h => hts0 w (List.mem_cons_of_mem _ h)
  have hown : s.vm.findClass RX5 = some m.cls := findClass_of_methodNamed B.named
  have hlocks := B.notSynchronized
  subst hsz
  have hD := hD0.self (sz := s.heap.size)
  obtain ⟨A, hAe⟩ : ∃ A : Nat → Prop, A = va_A (w0_X5_pivot g a_M a_M_a a_M_rowAt a_M_places a_M_rights a_M_weights a_M_pivots a_M_lower a_M_solution a_M_work a_M_isJoined a_M_stored M_thrown M_n M_hasFactors M_hasSolution M_levels M_pivots) s.heap.size := ⟨_, rfl⟩
  rw [← hAe] at hD
  have hA : ∀ q : Nat, s.heap.size ≤ q → A q := fun q h => by rw [hAe]; exact Or.inr h
  have hS : va_S A s.heap s.heap [] := va_S.rf
  have hP : va_P g.1 vwCl [(a_M, .inr (5, [.int M_thrown, .int M_n, .ref a_M_a, .ref a_M_rowAt, .ref a_M_places, .ref a_M_rights, .ref a_M_weights, .int M_hasFactors, .ref a_M_pivots, .ref a_M_lower, .int M_hasSolution, .ref a_M_solution, .ref a_M_work, .ref a_M_isJoined, .int M_levels, .ref a_M_stored])), (a_M_pivots, .inl (g.2.1, 16, .inl M_pivots))] s.heap := hP
  have hD : va_D A [(a_M, .inr (5, [.int M_thrown, .int M_n, .ref a_M_a, .ref a_M_rowAt, .ref a_M_places, .ref a_M_rights, .ref a_M_weights, .int M_hasFactors, .ref a_M_pivots, .ref a_M_lower, .int M_hasSolution, .ref a_M_solution, .ref a_M_work, .ref a_M_isJoined, .int M_levels, .ref a_M_stored])), (a_M_pivots, .inl (g.2.1, 16, .inl M_pivots))] := hD
  have hl := lv_entry ([.ref a_M, .int i_p]) (n := 2) (Nat.le_of_ble_eq_true rfl)
  rw [lg_entry_eq]
  generalize (lg_sl ([.ref a_M, .int i_p]) ++ List.replicate (2 - (lg_sl ([.ref a_M, .int i_p])).length) Slot.unset).toArray = ls at hl ⊢
  have hl : lv_has ls 2 [(0, .ref a_M), (1, .int i_p)] := hl
  unfold wp_X5_pivot at hv
  refine lv_aload_n hx hb dX5_pivot_0 rfl (lv_at hl 0 rfl) ?_
  refine lv_aload_n hx hb dX5_pivot_1 rfl (lv_at hl 0 rfl) ?_
  refine lv_iload_n hx hb dX5_pivot_2 rfl (lv_at hl 1 rfl) ?_
  refine cx_iVr (As := [.int i_p]) (rest := [.ref a_M]) ⟨hx, hb, hml, hown, hts⟩ (c_X5_isRow l g a_M a_M_a a_M_rowAt a_M_places a_M_rights a_M_weights a_M_pivots a_M_lower a_M_solution a_M_work a_M_isJoined a_M_stored i_p M_thrown M_n M_hasFactors M_hasSolution M_levels hv) (cx_cwV 1 hts cw_m_X5_76 cw_i_X5_isRow cw_s_X5_isRow cw_n_X5 cw_c_X5_isRow rfl rfl (by decide +kernel) ⟨Nat.le_of_ble_eq_true rfl, Nat.le_of_ble_eq_true rfl⟩) hK hP hD hS hA 0 5 rfl rfl [0] rfl rfl rfl hl.1 rfl (Nat.le_of_ble_eq_true rfl) dX5_pivot_3 ⟨Nat.le_of_ble_eq_true rfl, Nat.le_of_ble_eq_true rfl⟩ (fun r_1 H locs hv hP hS => ?_)
  refine lv_if_ne (tgt := 13) hx hb dX5_pivot_6 (by decide) (fun hc => ?_) (fun hc => ?_)
  · replace hv := hv.2 hc
    refine lv_aload_n hx hb dX5_pivot_13 rfl (lv_at hl 0 rfl) ?_
    refine va_get (D := g.1) (ci := 5) (v := .int M_hasFactors) (C := RX5) (T := TX5) (N := 16) hx hb hts cw_in_X5 hown hK.1 hP 0 rfl rfl 7 (by decide) (hts _ cw_f_X5_65) (fun _ h9 => h9) rfl dX5_pivot_14 ?_
    refine lv_if_ne (tgt := 24) hx hb dX5_pivot_17 (by decide) (fun hc => ?_) (fun hc => ?_)
    · replace hv := hv.2 hc
      refine lv_iconst (v := 0) hx hb dX5_pivot_24 (by decide) ?_
      refine va_put (D := g.1) (ci := 5) (v := .int 0) (ty := .int) (C := RX5) (T := TX5) (N := 16) hx hb hts cw_in_X5 tyX5 tyX5_ok nmX5 hown hK.1 hP hD hS 0 rfl rfl 0 (by decide) (hts _ cw_f_X5_51) (fun _ h9 => h9) rfl (by decide +kernel) rfl rfl (Nat.le_of_ble_eq_true rfl) dX5_pivot_25 (fun H locs hP hD hS => ?_)
      have hP : va_P g.1 vwCl [(a_M, .inr (5, [.int 0, .int M_n, .ref a_M_a, .ref a_M_rowAt, .ref a_M_places, .ref a_M_rights, .ref a_M_weights, .int M_hasFactors, .ref a_M_pivots, .ref a_M_lower, .int M_hasSolution, .ref a_M_solution, .ref a_M_work, .ref a_M_isJoined, .int M_levels, .ref a_M_stored])), (a_M_pivots, .inl (g.2.1, 16, .inl M_pivots))] H := hP
      have hD : va_D A [(a_M, .inr (5, [.int 0, .int M_n, .ref a_M_a, .ref a_M_rowAt, .ref a_M_places, .ref a_M_rights, .ref a_M_weights, .int M_hasFactors, .ref a_M_pivots, .ref a_M_lower, .int M_hasSolution, .ref a_M_solution, .ref a_M_work, .ref a_M_isJoined, .int M_levels, .ref a_M_stored])), (a_M_pivots, .inl (g.2.1, 16, .inl M_pivots))] := hD
      refine lv_aload_n hx hb dX5_pivot_28 rfl (lv_at hl 0 rfl) ?_
      refine va_get (D := g.1) (ci := 5) (v := .int 0) (C := RX5) (T := TX5) (N := 16) hx hb hts cw_in_X5 hown hK.1 hP 0 rfl rfl 0 (by decide) (hts _ cw_f_X5_51) (fun _ h9 => h9) rfl dX5_pivot_29 ?_
      refine lv_if_ne (tgt := 44) hx hb dX5_pivot_32 (by decide) (fun hc => absurd hc (by decide)) (fun _ => ?_)
      refine lv_aload_n hx hb dX5_pivot_35 rfl (lv_at hl 0 rfl) ?_
      refine va_get (D := g.1) (ci := 5) (v := .ref a_M_pivots) (C := RX5) (T := TX5) (N := 16) hx hb hts cw_in_X5 hown hK.1 hP 0 rfl rfl 8 (by decide) (hts _ cw_f_X5_29) (fun _ h9 => h9) rfl dX5_pivot_36 ?_
      refine lv_iload_n hx hb dX5_pivot_39 rfl (lv_at hl 1 rfl) ?_
      obtain ⟨h_2, hv⟩ := hv
      refine va_iald (D := g.1) hx hb hK.1 hP 1 0 rfl rfl h_2 dX5_pivot_40 ?_
      refine lv_goto (tgt := 45) hx hb dX5_pivot_41 (by decide) ?_
      exact cx_iret hx hb hr hlocks hAe hS 0 hv hP hD dX5_pivot_45
    · replace hv := hv.1 hc
      refine lv_iconst (v := 2) hx hb dX5_pivot_20 (by decide) ?_
      refine lv_goto (tgt := 25) hx hb dX5_pivot_21 (by decide) ?_
      refine va_put (D := g.1) (ci := 5) (v := .int 2) (ty := .int) (C := RX5) (T := TX5) (N := 16) hx hb hts cw_in_X5 tyX5 tyX5_ok nmX5 hown hK.1 hP hD hS 0 rfl rfl 0 (by decide) (hts _ cw_f_X5_51) (fun _ h9 => h9) rfl (by decide +kernel) rfl rfl (Nat.le_of_ble_eq_true rfl) dX5_pivot_25 (fun H locs hP hD hS => ?_)
      have hP : va_P g.1 vwCl [(a_M, .inr (5, [.int 2, .int M_n, .ref a_M_a, .ref a_M_rowAt, .ref a_M_places, .ref a_M_rights, .ref a_M_weights, .int M_hasFactors, .ref a_M_pivots, .ref a_M_lower, .int M_hasSolution, .ref a_M_solution, .ref a_M_work, .ref a_M_isJoined, .int M_levels, .ref a_M_stored])), (a_M_pivots, .inl (g.2.1, 16, .inl M_pivots))] H := hP
      have hD : va_D A [(a_M, .inr (5, [.int 2, .int M_n, .ref a_M_a, .ref a_M_rowAt, .ref a_M_places, .ref a_M_rights, .ref a_M_weights, .int M_hasFactors, .ref a_M_pivots, .ref a_M_lower, .int M_hasSolution, .ref a_M_solution, .ref a_M_work, .ref a_M_isJoined, .int M_levels, .ref a_M_stored])), (a_M_pivots, .inl (g.2.1, 16, .inl M_pivots))] := hD
      refine lv_aload_n hx hb dX5_pivot_28 rfl (lv_at hl 0 rfl) ?_
      refine va_get (D := g.1) (ci := 5) (v := .int 2) (C := RX5) (T := TX5) (N := 16) hx hb hts cw_in_X5 hown hK.1 hP 0 rfl rfl 0 (by decide) (hts _ cw_f_X5_51) (fun _ h9 => h9) rfl dX5_pivot_29 ?_
      refine lv_if_ne (tgt := 44) hx hb dX5_pivot_32 (by decide) (fun _ => ?_) (fun hc => absurd hc (by decide))
      refine lv_iconst (v := 0) hx hb dX5_pivot_44 (by decide) ?_
      exact cx_iret hx hb hr hlocks hAe hS 2 hv hP hD dX5_pivot_45
  · replace hv := hv.1 hc
    refine lv_iconst (v := 1) hx hb dX5_pivot_9 (by decide) ?_
    refine lv_goto (tgt := 25) hx hb dX5_pivot_10 (by decide) ?_
    refine va_put (D := g.1) (ci := 5) (v := .int 1) (ty := .int) (C := RX5) (T := TX5) (N := 16) hx hb hts cw_in_X5 tyX5 tyX5_ok nmX5 hown hK.1 hP hD hS 0 rfl rfl 0 (by decide) (hts _ cw_f_X5_51) (fun _ h9 => h9) rfl (by decide +kernel) rfl rfl (Nat.le_of_ble_eq_true rfl) dX5_pivot_25 (fun H locs hP hD hS => ?_)
    have hP : va_P g.1 vwCl [(a_M, .inr (5, [.int 1, .int M_n, .ref a_M_a, .ref a_M_rowAt, .ref a_M_places, .ref a_M_rights, .ref a_M_weights, .int M_hasFactors, .ref a_M_pivots, .ref a_M_lower, .int M_hasSolution, .ref a_M_solution, .ref a_M_work, .ref a_M_isJoined, .int M_levels, .ref a_M_stored])), (a_M_pivots, .inl (g.2.1, 16, .inl M_pivots))] H := hP
    have hD : va_D A [(a_M, .inr (5, [.int 1, .int M_n, .ref a_M_a, .ref a_M_rowAt, .ref a_M_places, .ref a_M_rights, .ref a_M_weights, .int M_hasFactors, .ref a_M_pivots, .ref a_M_lower, .int M_hasSolution, .ref a_M_solution, .ref a_M_work, .ref a_M_isJoined, .int M_levels, .ref a_M_stored])), (a_M_pivots, .inl (g.2.1, 16, .inl M_pivots))] := hD
    refine lv_aload_n hx hb dX5_pivot_28 rfl (lv_at hl 0 rfl) ?_
    refine va_get (D := g.1) (ci := 5) (v := .int 1) (C := RX5) (T := TX5) (N := 16) hx hb hts cw_in_X5 hown hK.1 hP 0 rfl rfl 0 (by decide) (hts _ cw_f_X5_51) (fun _ h9 => h9) rfl dX5_pivot_29 ?_
    refine lv_if_ne (tgt := 44) hx hb dX5_pivot_32 (by decide) (fun _ => ?_) (fun hc => absurd hc (by decide))
    refine lv_iconst (v := 0) hx hb dX5_pivot_44 (by decide) ?_
    exact cx_iret hx hb hr hlocks hAe hS 1 hv hP hD dX5_pivot_45
def wp_X5_lower (i_p : Int32) (i_q : Int32) (M_thrown : Int32) (M_n : Int32) (M_hasFactors : Int32) (M_hasSolution : Int32) (M_levels : Int32) (M_lower : (Nat → Int32)) (Q : Int32 → Int32 → Prop)   : Prop := wp_X5_isRow i_p M_thrown M_n M_hasFactors M_hasSolution M_levels (fun r_1 => (r_1 = 0 → (Q 0 1)) ∧ (¬ r_1 = 0 → (wp_X5_isRow i_q M_thrown M_n M_hasFactors M_hasSolution M_levels (fun r_2 => (r_2 = 0 → (Q 0 1)) ∧ (¬ r_2 = 0 → ((M_hasFactors = 0 → (Q 0 2)) ∧ (¬ M_hasFactors = 0 → ((i_p = i_q → (Q 1 0)) ∧ (¬ i_p = i_q → ((i_q ≤ i_p → (vp_in (f_at i_p i_q) 256 ∧ (Q (M_lower (Int32.toNatClampNeg (f_at i_p i_q))) 0))) ∧ (¬ i_q ≤ i_p → (Q 0 0))))))))))))
abbrev w0_X5_lower (g : cx_G) (a_M a_M_a a_M_rowAt a_M_places a_M_rights a_M_weights a_M_pivots a_M_lower a_M_solution a_M_work a_M_isJoined a_M_stored : Nat) (M_thrown : Int32) (M_n : Int32) (M_hasFactors : Int32) (M_hasSolution : Int32) (M_levels : Int32) (M_lower : (Nat → Int32)) : va_W := [(a_M, .inr (5, [.int M_thrown, .int M_n, .ref a_M_a, .ref a_M_rowAt, .ref a_M_places, .ref a_M_rights, .ref a_M_weights, .int M_hasFactors, .ref a_M_pivots, .ref a_M_lower, .int M_hasSolution, .ref a_M_solution, .ref a_M_work, .ref a_M_isJoined, .int M_levels, .ref a_M_stored])), (a_M_lower, .inl (g.2.1, 256, .inl M_lower))]
abbrev w1_X5_lower (g : cx_G) (a_M a_M_a a_M_rowAt a_M_places a_M_rights a_M_weights a_M_pivots a_M_lower a_M_solution a_M_work a_M_isJoined a_M_stored : Nat) (M_thrown : Int32) (M_n : Int32) (M_hasFactors : Int32) (M_hasSolution : Int32) (M_levels : Int32) (M_lower : (Nat → Int32)) (u : Int32) : va_W := [(a_M, .inr (5, [.int u, .int M_n, .ref a_M_a, .ref a_M_rowAt, .ref a_M_places, .ref a_M_rights, .ref a_M_weights, .int M_hasFactors, .ref a_M_pivots, .ref a_M_lower, .int M_hasSolution, .ref a_M_solution, .ref a_M_work, .ref a_M_isJoined, .int M_levels, .ref a_M_stored])), (a_M_lower, .inl (g.2.1, 256, .inl M_lower))]
set_option maxHeartbeats 4000000 in
set_option maxRecDepth 100000 in
theorem c_X5_lower (l : Launch) (g : cx_G) (a_M a_M_a a_M_rowAt a_M_places a_M_rights a_M_weights a_M_pivots a_M_lower a_M_solution a_M_work a_M_isJoined a_M_stored : Nat) (i_p : Int32) (i_q : Int32) (M_thrown : Int32) (M_n : Int32) (M_hasFactors : Int32) (M_hasSolution : Int32) (M_levels : Int32) (M_lower : (Nat → Int32)) {Q : Int32 → Int32 → Prop} (hv : wp_X5_lower i_p i_q M_thrown M_n M_hasFactors M_hasSolution M_levels M_lower Q) : cx_Mi l g yX5_lower (Cond.code yX5_lower cX5_lower 3 (some .int) :: cx_T) ({ frames := 1, cells := 0, slots := 0, locals := 21 } : Room) [.ref a_M, .int i_p, .int i_q] (w0_X5_lower g a_M a_M_a a_M_rowAt a_M_places a_M_rights a_M_weights a_M_pivots a_M_lower a_M_solution a_M_work a_M_isJoined a_M_stored M_thrown M_n M_hasFactors M_hasSolution M_levels M_lower) (fun (r : Int32) (u : Int32) => Q r u) (w1_X5_lower g a_M a_M_a a_M_rowAt a_M_places a_M_rights a_M_weights a_M_pivots a_M_lower a_M_solution a_M_work a_M_isJoined a_M_stored M_thrown M_n M_hasFactors M_hasSolution M_levels M_lower) 0 0 := by
  intro sz
  refine Met.ofW (cc := cX5_lower) (maxL := 3) (ret := (some .int)) (by decide) rfl ?_
  intro p e s m args below meth c s₁ B hml hpre
  obtain ⟨rfl, hsz, hP, hK, hD0⟩ := hpre
  have hx := B.exec
  have hb := B.bytes
  have hr := B.returns
  have hts0 := atoms_spec (ws := (Cond.code yX5_lower cX5_lower 3 (some .int) :: cx_T)) B.pre
  have hts : ∀ w ∈ cx_T, w.before _ s = true := fun w h => hts0 w (List.mem_cons_of_mem _ h)
  have hown : s.vm.findClass RX5 = some m.cls := findClass_of_methodNamed B.named
  have hlocks := B.notSynchronized
  subst hsz
  have hD := hD0.self (sz := s.heap.size)
  obtain ⟨A, hAe⟩ : ∃ A : Nat → Prop, A = va_A (w0_X5_lower g a_M a_M_a a_M_rowAt a_M_places a_M_rights a_M_weights a_M_pivots a_M_lower a_M_solution a_M_work a_M_isJoined a_M_stored M_thrown M_n M_hasFactors M_hasSolution M_levels M_lower) s.heap.size := ⟨_, rfl⟩
  rw [← hAe] at hD
  have hA : ∀ q : Nat, s.heap.size ≤ q → A q := fun q h => by rw [hAe]; exact Or.inr h
  have hS : va_S A s.heap s.heap [] := va_S.rf
  have hP : va_P g.1 vwCl [(a_M, .inr (5, [.int M_thrown, .int M_n, .ref a_M_a, .ref a_M_rowAt, .ref a_M_places, .ref a_M_rights, .ref a_M_weights, .int M_hasFactors, .ref a_M_pivots, .ref a_M_lower, .int M_hasSolution, .ref a_M_solution, .ref a_M_work, .ref a_M_isJoined, .int M_levels, .ref a_M_stored])), (a_M_lower, .inl (g.2.1, 256, .inl M_lower))] s.heap := hP
  have hD : va_D A [(a_M, .inr (5, [.int M_thrown, .int M_n, .ref a_M_a, .ref a_M_rowAt, .ref a_M_places, .ref a_M_rights, .ref a_M_weights, .int M_hasFactors, .ref a_M_pivots, .ref a_M_lower, .int M_hasSolution, .ref a_M_solution, .ref a_M_work, .ref a_M_isJoined, .int M_levels, .ref a_M_stored])), (a_M_lower, .inl (g.2.1, 256, .inl M_lower))] := hD
  have hl := lv_entry ([.ref a_M, .int i_p, .int i_q]) (n := 3) (Nat.le_of_ble_eq_true rfl)
  rw [lg_entry_eq]
  generalize (lg_sl ([.ref a_M, .int i_p, .int i_q]) ++ List.replicate (3 - (lg_sl ([.ref a_M, .int i_p, .int i_q])).length) Slot.unset).toArray = ls at hl ⊢
  have hl : lv_has ls 3 [(0, .ref a_M), (1, .int i_p), (2, .int i_q)] := hl
  unfold wp_X5_lower at hv
  refine lv_aload_n hx hb dX5_lower_0 rfl (lv_at hl 0 rfl) ?_
  refine lv_aload_n hx hb dX5_lower_1 rfl (lv_at hl 0 rfl) ?_
  refine lv_iload_n hx hb dX5_lower_2 rfl (lv_at hl 1 rfl) ?_
  refine cx_iVr (As := [.int i_p]) (rest := [.ref a_M]) ⟨hx, hb, hml, hown, hts⟩ (c_X5_isRow l g a_M a_M_a a_M_rowAt a_M_places a_M_rights a_M_weights a_M_pivots a_M_lower a_M_solution a_M_work a_M_isJoined a_M_stored i_p M_thrown M_n M_hasFactors M_hasSolution M_levels hv) (cx_cwV 1 hts cw_m_X5_76 cw_i_X5_isRow cw_s_X5_isRow cw_n_X5 cw_c_X5_isRow rfl rfl (by decide +kernel) ⟨Nat.le_of_ble_eq_true rfl, Nat.le_of_ble_eq_true rfl⟩) hK hP hD hS hA 0 5 rfl rfl [0] rfl rfl rfl hl.1 rfl (Nat.le_of_ble_eq_true rfl) dX5_lower_3 ⟨Nat.le_of_ble_eq_true rfl, Nat.le_of_ble_eq_true rfl⟩ (fun r_1 H locs hv hP hS => ?_)
  refine lv_if_eq (tgt := 17) hx hb dX5_lower_6 (by decide) (fun hc => ?_) (fun hc => ?_)
  · replace hv := hv.1 hc
    refine lv_iconst (v := 1) hx hb dX5_lower_17 (by decide) ?_
    refine lv_goto (tgt := 33) hx hb dX5_lower_18 (by decide) ?_
    refine va_put (D := g.1) (ci := 5) (v := .int 1) (ty := .int) (C := RX5) (T := TX5) (N := 16) hx hb hts cw_in_X5 tyX5 tyX5_ok nmX5 hown hK.1 hP hD hS 0 rfl rfl 0 (by decide) (hts _ cw_f_X5_51) (fun _ h9 => h9) rfl (by decide +kernel) rfl rfl (Nat.le_of_ble_eq_true rfl) dX5_lower_33 (fun H locs hP hD hS => ?_)
    have hP : va_P g.1 vwCl [(a_M, .inr (5, [.int 1, .int M_n, .ref a_M_a, .ref a_M_rowAt, .ref a_M_places, .ref a_M_rights, .ref a_M_weights, .int M_hasFactors, .ref a_M_pivots, .ref a_M_lower, .int M_hasSolution, .ref a_M_solution, .ref a_M_work, .ref a_M_isJoined, .int M_levels, .ref a_M_stored])), (a_M_lower, .inl (g.2.1, 256, .inl M_lower))] H := hP
    have hD : va_D A [(a_M, .inr (5, [.int 1, .int M_n, .ref a_M_a, .ref a_M_rowAt, .ref a_M_places, .ref a_M_rights, .ref a_M_weights, .int M_hasFactors, .ref a_M_pivots, .ref a_M_lower, .int M_hasSolution, .ref a_M_solution, .ref a_M_work, .ref a_M_isJoined, .int M_levels, .ref a_M_stored])), (a_M_lower, .inl (g.2.1, 256, .inl M_lower))] := hD
    refine lv_aload_n hx hb dX5_lower_36 rfl (lv_at hl 0 rfl) ?_
    refine va_get (D := g.1) (ci := 5) (v := .int 1) (C := RX5) (T := TX5) (N := 16) hx hb hts cw_in_X5 hown hK.1 hP 0 rfl rfl 0 (by decide) (hts _ cw_f_X5_51) (fun _ h9 => h9) rfl dX5_lower_37 ?_
    refine lv_if_le (tgt := 45) hx hb dX5_lower_40 (by decide) (fun hc => absurd hc (by decide)) (fun _ => ?_)
    refine lv_iconst (v := 0) hx hb dX5_lower_43 (by decide) ?_
    exact cx_iret hx hb hr hlocks hAe hS 1 hv hP hD dX5_lower_44
  · replace hv := hv.2 hc
    refine lv_aload_n hx hb dX5_lower_9 rfl (lv_at hl 0 rfl) ?_
    refine lv_iload_n hx hb dX5_lower_10 rfl (lv_at hl 2 rfl) ?_
    refine cx_iVr (As := [.int i_q]) (rest := [.ref a_M]) ⟨hx, hb, hml, hown, hts⟩ (c_X5_isRow l g a_M a_M_a a_M_rowAt a_M_places a_M_rights a_M_weights a_M_pivots a_M_lower a_M_solution a_M_work a_M_isJoined a_M_stored i_q M_thrown M_n M_hasFactors M_hasSolution M_levels hv) (cx_cwV 1 hts cw_m_X5_76 cw_i_X5_isRow cw_s_X5_isRow cw_n_X5 cw_c_X5_isRow rfl rfl (by decide +kernel) ⟨Nat.le_of_ble_eq_true rfl, Nat.le_of_ble_eq_true rfl⟩) hK hP hD hS hA 0 5 rfl rfl [0] rfl rfl rfl hl.1 rfl (Nat.le_of_ble_eq_true rfl) dX5_lower_11 ⟨Nat.le_of_ble_eq_true rfl, Nat.le_of_ble_eq_true rfl⟩ (fun r_2 H locs hv hP hS => ?_)
    refine lv_if_ne (tgt := 21) hx hb dX5_lower_14 (by decide) (fun hc => ?_) (fun hc => ?_)
    · replace hv := hv.2 hc
      refine lv_aload_n hx hb dX5_lower_21 rfl (lv_at hl 0 rfl) ?_
      refine va_get (D := g.1) (ci := 5) (v := .int M_hasFactors) (C := RX5) (T := TX5) (N := 16) hx hb hts cw_in_X5 hown hK.1 hP 0 rfl rfl 7 (by decide) (hts _ cw_f_X5_65) (fun _ h9 => h9) rfl dX5_lower_22 ?_
      refine lv_if_ne (tgt := 32) hx hb dX5_lower_25 (by decide) (fun hc => ?_) (fun hc => ?_)
      · replace hv := hv.2 hc
        refine lv_iconst (v := 0) hx hb dX5_lower_32 (by decide) ?_
        refine va_put (D := g.1) (ci := 5) (v := .int 0) (ty := .int) (C := RX5) (T := TX5) (N := 16) hx hb hts cw_in_X5 tyX5 tyX5_ok nmX5 hown hK.1 hP hD hS 0 rfl rfl 0 (by decide) (hts _ cw_f_X5_51) (fun _ h9 => h9) rfl (by decide +kernel) rfl rfl (Nat.le_of_ble_eq_true rfl) dX5_lower_33 (fun H locs hP hD hS => ?_)
        have hP : va_P g.1 vwCl [(a_M, .inr (5, [.int 0, .int M_n, .ref a_M_a, .ref a_M_rowAt, .ref a_M_places, .ref a_M_rights, .ref a_M_weights, .int M_hasFactors, .ref a_M_pivots, .ref a_M_lower, .int M_hasSolution, .ref a_M_solution, .ref a_M_work, .ref a_M_isJoined, .int M_levels, .ref a_M_stored])), (a_M_lower, .inl (g.2.1, 256, .inl M_lower))] H := hP
        have hD : va_D A [(a_M, .inr (5, [.int 0, .int M_n, .ref a_M_a, .ref a_M_rowAt, .ref a_M_places, .ref a_M_rights, .ref a_M_weights, .int M_hasFactors, .ref a_M_pivots, .ref a_M_lower, .int M_hasSolution, .ref a_M_solution, .ref a_M_work, .ref a_M_isJoined, .int M_levels, .ref a_M_stored])), (a_M_lower, .inl (g.2.1, 256, .inl M_lower))] := hD
        refine lv_aload_n hx hb dX5_lower_36 rfl (lv_at hl 0 rfl) ?_
        refine va_get (D := g.1) (ci := 5) (v := .int 0) (C := RX5) (T := TX5) (N := 16) hx hb hts cw_in_X5 hown hK.1 hP 0 rfl rfl 0 (by decide) (hts _ cw_f_X5_51) (fun _ h9 => h9) rfl dX5_lower_37 ?_
        refine lv_if_le (tgt := 45) hx hb dX5_lower_40 (by decide) (fun _ => ?_) (fun hc => absurd hc (by decide))
        refine lv_iload_n hx hb dX5_lower_45 rfl (lv_at hl 1 rfl) ?_
        refine lv_iload_n hx hb dX5_lower_46 rfl (lv_at hl 2 rfl) ?_
        refine lv_icmp_ne (tgt := 54) hx hb dX5_lower_47 (by decide) (fun hc => ?_) (fun hc => ?_)
        · replace hv := hv.2 hc
          refine lv_iload_n hx hb dX5_lower_54 rfl (lv_at hl 1 rfl) ?_
          refine lv_iload_n hx hb dX5_lower_55 rfl (lv_at hl 2 rfl) ?_
          refine lv_icmp_ge (tgt := 63) hx hb dX5_lower_56 (by decide) (fun hc => ?_) (fun hc => ?_)
          · replace hv := hv.1 hc
            refine lv_aload_n hx hb dX5_lower_63 rfl (lv_at hl 0 rfl) ?_
            refine va_get (D := g.1) (ci := 5) (v := .ref a_M_lower) (C := RX5) (T := TX5) (N := 16) hx hb hts cw_in_X5 hown hK.1 hP 0 rfl rfl 9 (by decide) (hts _ cw_f_X5_32) (fun _ h9 => h9) rfl dX5_lower_64 ?_
            refine lv_iload_n hx hb dX5_lower_67 rfl (lv_at hl 1 rfl) ?_
            refine lv_iload_n hx hb dX5_lower_68 rfl (lv_at hl 2 rfl) ?_
            refine cx_iSr (As := [.int i_p, .int i_q]) (rest := [.ref a_M_lower]) ⟨hx, hb, hml, hown, hts⟩ (cp_X5_at l g i_p i_q) (cx_cwS 2 hts cw_m_X5_62 cw_t_X5_at cw_n_X5 cw_c_X5_at rfl rfl (by decide +kernel) ⟨Nat.le_of_ble_eq_true rfl, Nat.le_of_ble_eq_true rfl⟩) hK hP hD hS hA [] rfl rfl rfl hl.1 rfl (Nat.le_of_ble_eq_true rfl) dX5_lower_69 ⟨Nat.le_of_ble_eq_true rfl, Nat.le_of_ble_eq_true rfl⟩ (fun r_3 H locs hr9 hP hS => ?_)
            replace hr9 : r_3 = (f_at i_p i_q) := hr9
            subst hr9
            obtain ⟨h_4, hv⟩ := hv
            refine va_iald (D := g.1) hx hb hK.1 hP 1 0 rfl rfl h_4 dX5_lower_72 ?_
            exact cx_iret hx hb hr hlocks hAe hS 0 hv hP hD dX5_lower_73
          · replace hv := hv.2 hc
            refine lv_iconst (v := 0) hx hb dX5_lower_59 (by decide) ?_
            refine lv_goto (tgt := 73) hx hb dX5_lower_60 (by decide) ?_
            exact cx_iret hx hb hr hlocks hAe hS 0 hv hP hD dX5_lower_73
        · replace hv := hv.1 hc
          refine lv_iconst (v := 1) hx hb dX5_lower_50 (by decide) ?_
          refine lv_goto (tgt := 73) hx hb dX5_lower_51 (by decide) ?_
          exact cx_iret hx hb hr hlocks hAe hS 0 hv hP hD dX5_lower_73
      · replace hv := hv.1 hc
        refine lv_iconst (v := 2) hx hb dX5_lower_28 (by decide) ?_
        refine lv_goto (tgt := 33) hx hb dX5_lower_29 (by decide) ?_
        refine va_put (D := g.1) (ci := 5) (v := .int 2) (ty := .int) (C := RX5) (T := TX5) (N := 16) hx hb hts cw_in_X5 tyX5 tyX5_ok nmX5 hown hK.1 hP hD hS 0 rfl rfl 0 (by decide) (hts _ cw_f_X5_51) (fun _ h9 => h9) rfl (by decide +kernel) rfl rfl (Nat.le_of_ble_eq_true rfl) dX5_lower_33 (fun H locs hP hD hS => ?_)
        have hP : va_P g.1 vwCl [(a_M, .inr (5, [.int 2, .int M_n, .ref a_M_a, .ref a_M_rowAt, .ref a_M_places, .ref a_M_rights, .ref a_M_weights, .int M_hasFactors, .ref a_M_pivots, .ref a_M_lower, .int M_hasSolution, .ref a_M_solution, .ref a_M_work, .ref a_M_isJoined, .int M_levels, .ref a_M_stored])), (a_M_lower, .inl (g.2.1, 256, .inl M_lower))] H := hP
        have hD : va_D A [(a_M, .inr (5, [.int 2, .int M_n, .ref a_M_a, .ref a_M_rowAt, .ref a_M_places, .ref a_M_rights, .ref a_M_weights, .int M_hasFactors, .ref a_M_pivots, .ref a_M_lower, .int M_hasSolution, .ref a_M_solution, .ref a_M_work, .ref a_M_isJoined, .int M_levels, .ref a_M_stored])), (a_M_lower, .inl (g.2.1, 256, .inl M_lower))] := hD
        refine lv_aload_n hx hb dX5_lower_36 rfl (lv_at hl 0 rfl) ?_
        refine va_get (D := g.1) (ci := 5) (v := .int 2) (C := RX5) (T := TX5) (N := 16) hx hb hts cw_in_X5 hown hK.1 hP 0 rfl rfl 0 (by decide) (hts _ cw_f_X5_51) (fun _ h9 => h9) rfl dX5_lower_37 ?_
        refine lv_if_le (tgt := 45) hx hb dX5_lower_40 (by decide) (fun hc => absurd hc (by decide)) (fun _ => ?_)
        refine lv_iconst (v := 0) hx hb dX5_lower_43 (by decide) ?_
        exact cx_iret hx hb hr hlocks hAe hS 2 hv hP hD dX5_lower_44
    · replace hv := hv.1 hc
      refine lv_iconst (v := 1) hx hb dX5_lower_17 (by decide) ?_
      refine lv_goto (tgt := 33) hx hb dX5_lower_18 (by decide) ?_
      refine va_put (D := g.1) (ci := 5) (v := .int 1) (ty := .int) (C := RX5) (T := TX5) (N := 16) hx hb hts cw_in_X5 tyX5 tyX5_ok nmX5 hown hK.1 hP hD hS 0 rfl rfl 0 (by decide) (hts _ cw_f_X5_51) (fun _ h9 => h9) rfl (by decide +kernel) rfl rfl (Nat.le_of_ble_eq_true rfl) dX5_lower_33 (fun H locs hP hD hS => ?_)
      have hP : va_P g.1 vwCl [(a_M, .inr (5, [.int 1, .int M_n, .ref a_M_a, .ref a_M_rowAt, .ref a_M_places, .ref a_M_rights, .ref a_M_weights, .int M_hasFactors, .ref a_M_pivots, .ref a_M_lower, .int M_hasSolution, .ref a_M_solution, .ref a_M_work, .ref a_M_isJoined, .int M_levels, .ref a_M_stored])), (a_M_lower, .inl (g.2.1, 256, .inl M_lower))] H := hP
      have hD : va_D A [(a_M, .inr (5, [.int 1, .int M_n, .ref a_M_a, .ref a_M_rowAt, .ref a_M_places, .ref a_M_rights, .ref a_M_weights, .int M_hasFactors, .ref a_M_pivots, .ref a_M_lower, .int M_hasSolution, .ref a_M_solution, .ref a_M_work, .ref a_M_isJoined, .int M_levels, .ref a_M_stored])), (a_M_lower, .inl (g.2.1, 256, .inl M_lower))] := hD
      refine lv_aload_n hx hb dX5_lower_36 rfl (lv_at hl 0 rfl) ?_
      refine va_get (D := g.1) (ci := 5) (v := .int 1) (C := RX5) (T := TX5) (N := 16) hx hb hts cw_in_X5 hown hK.1 hP 0 rfl rfl 0 (by decide) (hts _ cw_f_X5_51) (fun _ h9 => h9) rfl dX5_lower_37 ?_
      refine lv_if_le (tgt := 45) hx hb dX5_lower_40 (by decide) (fun hc => absurd hc (by decide)) (fun _ => ?_)
      refine lv_iconst (v := 0) hx hb dX5_lower_43 (by decide) ?_
      exact cx_iret hx hb hr hlocks hAe hS 1 hv hP hD dX5_lower_44
def wp_X5_setWeight (i_i : Int32) (i_v : Int32) (M_thrown : Int32) (M_n : Int32) (M_hasFactors : Int32) (M_hasSolution : Int32) (M_levels : Int32) (M_weights : (Nat → Int32)) (Q : Int32 → Int32 → (Nat → Int32) → Prop)   : Prop := wp_X5_isRow i_i 0 M_n M_hasFactors M_hasSolution M_levels (fun r_1 => (r_1 = 0 → (wp_X5_no 1 0 M_n M_hasFactors M_hasSolution M_levels (fun r_9 u_10 => Q r_9 u_10 M_weights))) ∧ (¬ r_1 = 0 → (((f_res i_v) = 0 → (wp_X5_no 2 0 M_n M_hasFactors M_hasSolution M_levels (fun r_6 u_7 => Q r_6 u_7 M_weights))) ∧ (¬ (f_res i_v) = 0 → (vp_in i_i 16 ∧ (∀ x3_4 : Int32, x3_4 = (M_weights (Int32.toNatClampNeg i_i)) → (vp_in i_i 16 ∧ (Q x3_4 0 (upd M_weights (Int32.toNatClampNeg i_i) i_v)))))))))
abbrev w0_X5_setWeight (g : cx_G) (a_M a_M_a a_M_rowAt a_M_places a_M_rights a_M_weights a_M_pivots a_M_lower a_M_solution a_M_work a_M_isJoined a_M_stored : Nat) (M_thrown : Int32) (M_n : Int32) (M_hasFactors : Int32) (M_hasSolution : Int32) (M_levels : Int32) (M_weights : (Nat → Int32)) : va_W := [(a_M, .inr (5, [.int M_thrown, .int M_n, .ref a_M_a, .ref a_M_rowAt, .ref a_M_places, .ref a_M_rights, .ref a_M_weights, .int M_hasFactors, .ref a_M_pivots, .ref a_M_lower, .int M_hasSolution, .ref a_M_solution, .ref a_M_work, .ref a_M_isJoined, .int M_levels, .ref a_M_stored])), (a_M_weights, .inl (g.2.1, 16, .inl M_weights))]
abbrev w1_X5_setWeight (g : cx_G) (a_M a_M_a a_M_rowAt a_M_places a_M_rights a_M_weights a_M_pivots a_M_lower a_M_solution a_M_work a_M_isJoined a_M_stored : Nat) (M_thrown : Int32) (M_n : Int32) (M_hasFactors : Int32) (M_hasSolution : Int32) (M_levels : Int32) (M_weights : (Nat → Int32)) (u : Int32 × (Nat → Int32)) : va_W := [(a_M, .inr (5, [.int u.1, .int M_n, .ref a_M_a, .ref a_M_rowAt, .ref a_M_places, .ref a_M_rights, .ref a_M_weights, .int M_hasFactors, .ref a_M_pivots, .ref a_M_lower, .int M_hasSolution, .ref a_M_solution, .ref a_M_work, .ref a_M_isJoined, .int M_levels, .ref a_M_stored])), (a_M_weights, .inl (g.2.1, 16, .inl u.2))]
set_option maxHeartbeats 4000000 in
set_option maxRecDepth 100000 in
theorem c_X5_setWeight (l : Launch) (g : cx_G) (a_M a_M_a a_M_rowAt a_M_places a_M_rights a_M_weights a_M_pivots a_M_lower a_M_solution a_M_work a_M_isJoined a_M_stored : Nat) (i_i : Int32) (i_v : Int32) (M_thrown : Int32) (M_n : Int32) (M_hasFactors : Int32) (M_hasSolution : Int32) (M_levels : Int32) (M_weights : (Nat → Int32)) {Q : Int32 → Int32 → (Nat → Int32) → Prop} (hv : wp_X5_setWeight i_i i_v M_thrown M_n M_hasFactors M_hasSolution M_levels M_weights Q) : cx_Mi l g yX5_setWeight (Cond.code yX5_setWeight cX5_setWeight 4 (some .int) :: cx_T) ({ frames := 1, cells := 0, slots := 0, locals := 21 } : Room) [.ref a_M, .int i_i, .int i_v] (w0_X5_setWeight g a_M a_M_a a_M_rowAt a_M_places a_M_rights a_M_weights a_M_pivots a_M_lower a_M_solution a_M_work a_M_isJoined a_M_stored M_thrown M_n M_hasFactors M_hasSolution M_levels M_weights) (fun (r : Int32) (u : Int32 × (Nat → Int32)) => Q r u.1 u.2) (w1_X5_setWeight g a_M a_M_a a_M_rowAt a_M_places a_M_rights a_M_weights a_M_pivots a_M_lower a_M_solution a_M_work a_M_isJoined a_M_stored M_thrown M_n M_hasFactors M_hasSolution M_levels M_weights) 0 0 := by
  intro sz
  refine Met.ofW (cc := cX5_setWeight) (maxL := 4) (ret := (some .int)) (by decide) rfl ?_
  intro p e s m args below meth c s₁ B hml hpre
  obtain ⟨rfl, hsz, hP, hK, hD0⟩ := hpre
  have hx := B.exec
  have hb := B.bytes
  have hr := B.returns
  have hts0 := atoms_spec (ws := (Cond.code yX5_setWeight cX5_setWeight 4 (some .int) :: cx_T)) B.pre
  have hts : ∀ w ∈ cx_T, w.before _ s = true := fun w h => hts0 w (List.mem_cons_of_mem _ h)
  have hown : s.vm.findClass RX5 = some m.cls := findClass_of_methodNamed B.named
  have hlocks := B.notSynchronized
  subst hsz
  have hD := hD0.self (sz := s.heap.size)
  obtain ⟨A, hAe⟩ : ∃ A : Nat → Prop, A = va_A (w0_X5_setWeight g a_M a_M_a a_M_rowAt a_M_places a_M_rights a_M_weights a_M_pivots a_M_lower a_M_solution a_M_work a_M_isJoined a_M_stored M_thrown M_n M_hasFactors M_hasSolution M_levels M_weights) s.heap.size := ⟨_, rfl⟩
  rw [← hAe] at hD
  have hA : ∀ q : Nat, s.heap.size ≤ q → A q := fun q h => by rw [hAe]; exact Or.inr h
  have hS : va_S A s.heap s.heap [] := va_S.rf
  have hP : va_P g.1 vwCl [(a_M, .inr (5, [.int M_thrown, .int M_n, .ref a_M_a, .ref a_M_rowAt, .ref a_M_places, .ref a_M_rights, .ref a_M_weights, .int M_hasFactors, .ref a_M_pivots, .ref a_M_lower, .int M_hasSolution, .ref a_M_solution, .ref a_M_work, .ref a_M_isJoined, .int M_levels, .ref a_M_stored])), (a_M_weights, .inl (g.2.1, 16, .inl M_weights))] s.heap := hP
  have hD : va_D A [(a_M, .inr (5, [.int M_thrown, .int M_n, .ref a_M_a, .ref a_M_rowAt, .ref a_M_places, .ref a_M_rights, .ref a_M_weights, .int M_hasFactors, .ref a_M_pivots, .ref a_M_lower, .int M_hasSolution, .ref a_M_solution, .ref a_M_work, .ref a_M_isJoined, .int M_levels, .ref a_M_stored])), (a_M_weights, .inl (g.2.1, 16, .inl M_weights))] := hD
  have hl := lv_entry ([.ref a_M, .int i_i, .int i_v]) (n := 4) (Nat.le_of_ble_eq_true rfl)
  rw [lg_entry_eq]
  generalize (lg_sl ([.ref a_M, .int i_i, .int i_v]) ++ List.replicate (4 - (lg_sl ([.ref a_M, .int i_i, .int i_v])).length) Slot.unset).toArray = ls at hl ⊢
  have hl : lv_has ls 4 [(0, .ref a_M), (1, .int i_i), (2, .int i_v)] := hl
  unfold wp_X5_setWeight at hv
  refine lv_aload_n hx hb dX5_setWeight_0 rfl (lv_at hl 0 rfl) ?_
  refine lv_iconst (v := 0) hx hb dX5_setWeight_1 (by decide) ?_
  refine va_put (D := g.1) (ci := 5) (v := .int 0) (ty := .int) (C := RX5) (T := TX5) (N := 16) hx hb hts cw_in_X5 tyX5 tyX5_ok nmX5 hown hK.1 hP hD hS 0 rfl rfl 0 (by decide) (hts _ cw_f_X5_51) (fun _ h9 => h9) rfl (by decide +kernel) rfl rfl (Nat.le_of_ble_eq_true rfl) dX5_setWeight_2 (fun H locs hP hD hS => ?_)
  have hP : va_P g.1 vwCl [(a_M, .inr (5, [.int 0, .int M_n, .ref a_M_a, .ref a_M_rowAt, .ref a_M_places, .ref a_M_rights, .ref a_M_weights, .int M_hasFactors, .ref a_M_pivots, .ref a_M_lower, .int M_hasSolution, .ref a_M_solution, .ref a_M_work, .ref a_M_isJoined, .int M_levels, .ref a_M_stored])), (a_M_weights, .inl (g.2.1, 16, .inl M_weights))] H := hP
  have hD : va_D A [(a_M, .inr (5, [.int 0, .int M_n, .ref a_M_a, .ref a_M_rowAt, .ref a_M_places, .ref a_M_rights, .ref a_M_weights, .int M_hasFactors, .ref a_M_pivots, .ref a_M_lower, .int M_hasSolution, .ref a_M_solution, .ref a_M_work, .ref a_M_isJoined, .int M_levels, .ref a_M_stored])), (a_M_weights, .inl (g.2.1, 16, .inl M_weights))] := hD
  refine lv_aload_n hx hb dX5_setWeight_5 rfl (lv_at hl 0 rfl) ?_
  refine lv_iload_n hx hb dX5_setWeight_6 rfl (lv_at hl 1 rfl) ?_
  refine cx_iVr (As := [.int i_i]) (rest := []) ⟨hx, hb, hml, hown, hts⟩ (c_X5_isRow l g a_M a_M_a a_M_rowAt a_M_places a_M_rights a_M_weights a_M_pivots a_M_lower a_M_solution a_M_work a_M_isJoined a_M_stored i_i 0 M_n M_hasFactors M_hasSolution M_levels hv) (cx_cwV 1 hts cw_m_X5_76 cw_i_X5_isRow cw_s_X5_isRow cw_n_X5 cw_c_X5_isRow rfl rfl (by decide +kernel) ⟨Nat.le_of_ble_eq_true rfl, Nat.le_of_ble_eq_true rfl⟩) hK hP hD hS hA 0 5 rfl rfl [0] rfl rfl rfl hl.1 rfl (Nat.le_of_ble_eq_true rfl) dX5_setWeight_7 ⟨Nat.le_of_ble_eq_true rfl, Nat.le_of_ble_eq_true rfl⟩ (fun r_1 H locs hv hP hS => ?_)
  refine lv_if_ne (tgt := 19) hx hb dX5_setWeight_10 (by decide) (fun hc => ?_) (fun hc => ?_)
  · replace hv := hv.2 hc
    refine lv_iload_n hx hb dX5_setWeight_19 rfl (lv_at hl 2 rfl) ?_
    refine cx_iSr (As := [.int i_v]) (rest := []) ⟨hx, hb, hml, hown, hts⟩ (cp_X5_isResidue l g i_v) (cx_cwS 1 hts cw_m_X5_80 cw_t_X5_isResidue cw_n_X5 cw_c_X5_isResidue rfl rfl (by decide +kernel) ⟨Nat.le_of_ble_eq_true rfl, Nat.le_of_ble_eq_true rfl⟩) hK hP hD hS hA [] rfl rfl rfl hl.1 rfl (Nat.le_of_ble_eq_true rfl) dX5_setWeight_20 ⟨Nat.le_of_ble_eq_true rfl, Nat.le_of_ble_eq_true rfl⟩ (fun r_2 H locs hr9 hP hS => ?_)
    replace hr9 : r_2 = (f_res i_v) := hr9
    subst hr9
    refine lv_if_ne (tgt := 32) hx hb dX5_setWeight_23 (by decide) (fun hc => ?_) (fun hc => ?_)
    · replace hv := hv.2 hc
      refine lv_aload_n hx hb dX5_setWeight_32 rfl (lv_at hl 0 rfl) ?_
      refine va_get (D := g.1) (ci := 5) (v := .ref a_M_weights) (C := RX5) (T := TX5) (N := 16) hx hb hts cw_in_X5 hown hK.1 hP 0 rfl rfl 6 (by decide) (hts _ cw_f_X5_26) (fun _ h9 => h9) rfl dX5_setWeight_33 ?_
      refine lv_iload_n hx hb dX5_setWeight_36 rfl (lv_at hl 1 rfl) ?_
      obtain ⟨h_3, hv⟩ := hv
      refine va_iald (D := g.1) hx hb hK.1 hP 1 0 rfl rfl h_3 dX5_setWeight_37 ?_
      refine lv_topi (fun x3_4 ex3_4 => ?_)
      replace hv := hv x3_4 ex3_4
      refine lv_istore_n (lv' := [(3, .int x3_4), (0, .ref a_M), (1, .int i_i), (2, .int i_v)]) hx hb dX5_setWeight_38 rfl hl (by decide) rfl (fun ls hl => ?_)
      refine lv_aload_n hx hb dX5_setWeight_39 rfl (lv_at hl 1 rfl) ?_
      refine va_get (D := g.1) (ci := 5) (v := .ref a_M_weights) (C := RX5) (T := TX5) (N := 16) hx hb hts cw_in_X5 hown hK.1 hP 0 rfl rfl 6 (by decide) (hts _ cw_f_X5_26) (fun _ h9 => h9) rfl dX5_setWeight_40 ?_
      refine lv_iload_n hx hb dX5_setWeight_43 rfl (lv_at hl 2 rfl) ?_
      refine lv_iload_n hx hb dX5_setWeight_44 rfl (lv_at hl 3 rfl) ?_
      obtain ⟨h_5, hv⟩ := hv
      refine va_iast (D := g.1) hx hb hK.1 hP hD hS 1 0 rfl rfl h_5 dX5_setWeight_45 (fun H locs hP hD hS => ?_)
      have hP : va_P g.1 vwCl [(a_M, .inr (5, [.int 0, .int M_n, .ref a_M_a, .ref a_M_rowAt, .ref a_M_places, .ref a_M_rights, .ref a_M_weights, .int M_hasFactors, .ref a_M_pivots, .ref a_M_lower, .int M_hasSolution, .ref a_M_solution, .ref a_M_work, .ref a_M_isJoined, .int M_levels, .ref a_M_stored])), (a_M_weights, .inl (g.2.1, 16, .inl (upd M_weights (Int32.toNatClampNeg i_i) i_v)))] H := hP
      have hD : va_D A [(a_M, .inr (5, [.int 0, .int M_n, .ref a_M_a, .ref a_M_rowAt, .ref a_M_places, .ref a_M_rights, .ref a_M_weights, .int M_hasFactors, .ref a_M_pivots, .ref a_M_lower, .int M_hasSolution, .ref a_M_solution, .ref a_M_work, .ref a_M_isJoined, .int M_levels, .ref a_M_stored])), (a_M_weights, .inl (g.2.1, 16, .inl (upd M_weights (Int32.toNatClampNeg i_i) i_v)))] := hD
      refine lv_iload_n hx hb dX5_setWeight_46 rfl (lv_at hl 0 rfl) ?_
      exact cx_iret hx hb hr hlocks hAe hS (0, (upd M_weights (Int32.toNatClampNeg i_i) i_v)) hv hP hD dX5_setWeight_47
    · replace hv := hv.1 hc
      refine lv_aload_n hx hb dX5_setWeight_26 rfl (lv_at hl 0 rfl) ?_
      refine lv_iconst (v := 2) hx hb dX5_setWeight_27 (by decide) ?_
      refine cx_iV (wr := [(a_M_weights, .inl (g.2.1, 16, .inl M_weights))]) (As := [.int 2]) (rest := []) ⟨hx, hb, hml, hown, hts⟩ (c_X5_no l g a_M a_M_a a_M_rowAt a_M_places a_M_rights a_M_weights a_M_pivots a_M_lower a_M_solution a_M_work a_M_isJoined a_M_stored 2 0 M_n M_hasFactors M_hasSolution M_levels hv) (cx_cwV 1 hts cw_m_X5_72 cw_i_X5_no cw_s_X5_no cw_n_X5 cw_c_X5_no rfl rfl (by decide +kernel) ⟨Nat.le_of_ble_eq_true rfl, Nat.le_of_ble_eq_true rfl⟩) hK hP hD hS hA 0 5 rfl rfl [0] [1] rfl rfl rfl rfl (by decide) rfl hl.1 rfl (Nat.le_of_ble_eq_true rfl) dX5_setWeight_28 ⟨Nat.le_of_ble_eq_true rfl, Nat.le_of_ble_eq_true rfl⟩ (fun r_6 w_8 H locs hv hP hD hS => ?_)
      obtain ⟨u_7, rfl⟩ : ∃ z, z = w_8 := ⟨_, rfl⟩
      have hP : va_P g.1 vwCl [(a_M, .inr (5, [.int u_7, .int M_n, .ref a_M_a, .ref a_M_rowAt, .ref a_M_places, .ref a_M_rights, .ref a_M_weights, .int M_hasFactors, .ref a_M_pivots, .ref a_M_lower, .int M_hasSolution, .ref a_M_solution, .ref a_M_work, .ref a_M_isJoined, .int M_levels, .ref a_M_stored])), (a_M_weights, .inl (g.2.1, 16, .inl M_weights))] H := hP.sub [1, 0] rfl
      have hD : va_D A [(a_M, .inr (5, [.int u_7, .int M_n, .ref a_M_a, .ref a_M_rowAt, .ref a_M_places, .ref a_M_rights, .ref a_M_weights, .int M_hasFactors, .ref a_M_pivots, .ref a_M_lower, .int M_hasSolution, .ref a_M_solution, .ref a_M_work, .ref a_M_isJoined, .int M_levels, .ref a_M_stored])), (a_M_weights, .inl (g.2.1, 16, .inl M_weights))] := hD.sub [1, 0] (by decide) rfl
      exact cx_iret hx hb hr hlocks hAe hS (u_7, M_weights) hv hP hD dX5_setWeight_31
  · replace hv := hv.1 hc
    refine lv_aload_n hx hb dX5_setWeight_13 rfl (lv_at hl 0 rfl) ?_
    refine lv_iconst (v := 1) hx hb dX5_setWeight_14 (by decide) ?_
    refine cx_iV (wr := [(a_M_weights, .inl (g.2.1, 16, .inl M_weights))]) (As := [.int 1]) (rest := []) ⟨hx, hb, hml, hown, hts⟩ (c_X5_no l g a_M a_M_a a_M_rowAt a_M_places a_M_rights a_M_weights a_M_pivots a_M_lower a_M_solution a_M_work a_M_isJoined a_M_stored 1 0 M_n M_hasFactors M_hasSolution M_levels hv) (cx_cwV 1 hts cw_m_X5_72 cw_i_X5_no cw_s_X5_no cw_n_X5 cw_c_X5_no rfl rfl (by decide +kernel) ⟨Nat.le_of_ble_eq_true rfl, Nat.le_of_ble_eq_true rfl⟩) hK hP hD hS hA 0 5 rfl rfl [0] [1] rfl rfl rfl rfl (by decide) rfl hl.1 rfl (Nat.le_of_ble_eq_true rfl) dX5_setWeight_15 ⟨Nat.le_of_ble_eq_true rfl, Nat.le_of_ble_eq_true rfl⟩ (fun r_9 w_11 H locs hv hP hD hS => ?_)
    obtain ⟨u_10, rfl⟩ : ∃ z, z = w_11 := ⟨_, rfl⟩
    have hP : va_P g.1 vwCl [(a_M, .inr (5, [.int u_10, .int M_n, .ref a_M_a, .ref a_M_rowAt, .ref a_M_places, .ref a_M_rights, .ref a_M_weights, .int M_hasFactors, .ref a_M_pivots, .ref a_M_lower, .int M_hasSolution, .ref a_M_solution, .ref a_M_work, .ref a_M_isJoined, .int M_levels, .ref a_M_stored])), (a_M_weights, .inl (g.2.1, 16, .inl M_weights))] H := hP.sub [1, 0] rfl
    have hD : va_D A [(a_M, .inr (5, [.int u_10, .int M_n, .ref a_M_a, .ref a_M_rowAt, .ref a_M_places, .ref a_M_rights, .ref a_M_weights, .int M_hasFactors, .ref a_M_pivots, .ref a_M_lower, .int M_hasSolution, .ref a_M_solution, .ref a_M_work, .ref a_M_isJoined, .int M_levels, .ref a_M_stored])), (a_M_weights, .inl (g.2.1, 16, .inl M_weights))] := hD.sub [1, 0] (by decide) rfl
    exact cx_iret hx hb hr hlocks hAe hS (u_10, M_weights) hv hP hD dX5_setWeight_18
def vc_X5_update_0 (i_f : Int32) (M_thrown : Int32) (M_n : Int32) (M_hasFactors : Int32) (M_hasSolution : Int32) (M_levels : Int32) (M_rowAt : (Nat → Int32)) (M_a : (Nat → Int32)) (M_lower : (Nat → Int32)) (M_pivots : (Nat → Int32)) (M_weights : (Nat → Int32)) (Q : Int32 → Int32 → Int32 → (Nat → Int32) → (Nat → Int32) → (Nat → Int32) → Prop) (G1 : Int32 → Int32 → Int32 → (Nat → Int32) → (Nat → Int32) → (Nat → Int32) → Prop) (G2 : Int32 → Int32 → Int32 → Int32 → (Nat → Int32) → (Nat → Int32) → (Nat → Int32) → Prop)  : Prop := ((f_res i_f) = 0 → (wp_X5_no 1 0 M_n M_hasFactors M_hasSolution M_levels (fun r_5 u_6 => Q r_5 u_6 M_hasFactors M_a M_lower M_pivots))) ∧ (¬ (f_res i_f) = 0 → ((M_hasFactors = 0 → (wp_X5_no 2 0 M_n M_hasFactors M_hasSolution M_levels (fun r_2 u_3 => Q r_2 u_3 M_hasFactors M_a M_lower M_pivots))) ∧ (¬ M_hasFactors = 0 → (G1 0 0 M_hasFactors M_a M_lower M_pivots))))
def vc_X5_update_1 (i_f : Int32) (M_thrown : Int32) (M_n : Int32) (M_hasFactors : Int32) (M_hasSolution : Int32) (M_levels : Int32) (M_rowAt : (Nat → Int32)) (M_a : (Nat → Int32)) (M_lower : (Nat → Int32)) (M_pivots : (Nat → Int32)) (M_weights : (Nat → Int32)) (Q : Int32 → Int32 → Int32 → (Nat → Int32) → (Nat → Int32) → (Nat → Int32) → Prop) (G1 : Int32 → Int32 → Int32 → (Nat → Int32) → (Nat → Int32) → (Nat → Int32) → Prop) (G2 : Int32 → Int32 → Int32 → Int32 → (Nat → Int32) → (Nat → Int32) → (Nat → Int32) → Prop) (x2 : Int32) (v_M_thrown : Int32) (v_M_hasFactors : Int32) (v_M_a : (Nat → Int32)) (v_M_lower : (Nat → Int32)) (v_M_pivots : (Nat → Int32)) : Prop := (M_n ≤ x2 → (wp_X5_find v_M_thrown M_n v_M_hasFactors M_hasSolution M_levels M_rowAt v_M_a v_M_lower v_M_pivots (fun r_1 u_2 u_3 u_4 => Q r_1 v_M_thrown u_2 v_M_a u_3 u_4))) ∧ (¬ M_n ≤ x2 → (G2 0 x2 v_M_thrown v_M_hasFactors v_M_a v_M_lower v_M_pivots))
def vc_X5_update_2 (i_f : Int32) (M_thrown : Int32) (M_n : Int32) (M_hasFactors : Int32) (M_hasSolution : Int32) (M_levels : Int32) (M_rowAt : (Nat → Int32)) (M_a : (Nat → Int32)) (M_lower : (Nat → Int32)) (M_pivots : (Nat → Int32)) (M_weights : (Nat → Int32)) (Q : Int32 → Int32 → Int32 → (Nat → Int32) → (Nat → Int32) → (Nat → Int32) → Prop) (G1 : Int32 → Int32 → Int32 → (Nat → Int32) → (Nat → Int32) → (Nat → Int32) → Prop) (G2 : Int32 → Int32 → Int32 → Int32 → (Nat → Int32) → (Nat → Int32) → (Nat → Int32) → Prop) (x3 : Int32) (x2 : Int32) (v_M_thrown : Int32) (v_M_hasFactors : Int32) (v_M_a : (Nat → Int32)) (v_M_lower : (Nat → Int32)) (v_M_pivots : (Nat → Int32)) : Prop := (M_n ≤ x3 → (∀ x2_1 : Int32, x2_1 = x2 + 1 → (G1 x2_1 v_M_thrown v_M_hasFactors v_M_a v_M_lower v_M_pivots))) ∧ (¬ M_n ≤ x3 → (vp_in (f_at x2 x3) 256 ∧ (vp_in x2 16 ∧ (vp_in x3 16 ∧ (vp_in (f_at x2 x3) 256 ∧ (∀ x3_10 : Int32, x3_10 = x3 + 1 → (G2 x3_10 x2 v_M_thrown v_M_hasFactors (upd v_M_a (Int32.toNatClampNeg (f_at x2 x3)) (((v_M_a (Int32.toNatClampNeg (f_at x2 x3))) + (f_times i_f (f_times (M_weights (Int32.toNatClampNeg x2)) (M_weights (Int32.toNatClampNeg x3))))) - ((v_M_a (Int32.toNatClampNeg (f_at x2 x3))) + (f_times i_f (f_times (M_weights (Int32.toNatClampNeg x2)) (M_weights (Int32.toNatClampNeg x3))))) / 65521 * 65521)) v_M_lower v_M_pivots)))))))
def wp_X5_update (i_f : Int32) (M_thrown : Int32) (M_n : Int32) (M_hasFactors : Int32) (M_hasSolution : Int32) (M_levels : Int32) (M_rowAt : (Nat → Int32)) (M_a : (Nat → Int32)) (M_lower : (Nat → Int32)) (M_pivots : (Nat → Int32)) (M_weights : (Nat → Int32)) (Q : Int32 → Int32 → Int32 → (Nat → Int32) → (Nat → Int32) → (Nat → Int32) → Prop) : Prop := ∀ (G1 : Int32 → Int32 → Int32 → (Nat → Int32) → (Nat → Int32) → (Nat → Int32) → Prop) (G2 : Int32 → Int32 → Int32 → Int32 → (Nat → Int32) → (Nat → Int32) → (Nat → Int32) → Prop), (∀ (x2 : Int32) (v_M_thrown : Int32) (v_M_hasFactors : Int32) (v_M_a : (Nat → Int32)) (v_M_lower : (Nat → Int32)) (v_M_pivots : (Nat → Int32)), vc_X5_update_1 i_f M_thrown M_n M_hasFactors M_hasSolution M_levels M_rowAt M_a M_lower M_pivots M_weights Q G1 G2 x2 v_M_thrown v_M_hasFactors v_M_a v_M_lower v_M_pivots → G1 x2 v_M_thrown v_M_hasFactors v_M_a v_M_lower v_M_pivots) → (∀ (x3 : Int32) (x2 : Int32) (v_M_thrown : Int32) (v_M_hasFactors : Int32) (v_M_a : (Nat → Int32)) (v_M_lower : (Nat → Int32)) (v_M_pivots : (Nat → Int32)), vc_X5_update_2 i_f M_thrown M_n M_hasFactors M_hasSolution M_levels M_rowAt M_a M_lower M_pivots M_weights Q G1 G2 x3 x2 v_M_thrown v_M_hasFactors v_M_a v_M_lower v_M_pivots → G2 x3 x2 v_M_thrown v_M_hasFactors v_M_a v_M_lower v_M_pivots) → vc_X5_update_0 i_f M_thrown M_n M_hasFactors M_hasSolution M_levels M_rowAt M_a M_lower M_pivots M_weights Q G1 G2
abbrev w0_X5_update (g : cx_G) (a_M a_M_a a_M_rowAt a_M_places a_M_rights a_M_weights a_M_pivots a_M_lower a_M_solution a_M_work a_M_isJoined a_M_stored : Nat) (M_thrown : Int32) (M_n : Int32) (M_hasFactors : Int32) (M_hasSolution : Int32) (M_levels : Int32) (M_rowAt : (Nat → Int32)) (M_a : (Nat → Int32)) (M_lower : (Nat → Int32)) (M_pivots : (Nat → Int32)) (M_weights : (Nat → Int32)) : va_W := [(a_M, .inr (5, [.int M_thrown, .int M_n, .ref a_M_a, .ref a_M_rowAt, .ref a_M_places, .ref a_M_rights, .ref a_M_weights, .int M_hasFactors, .ref a_M_pivots, .ref a_M_lower, .int M_hasSolution, .ref a_M_solution, .ref a_M_work, .ref a_M_isJoined, .int M_levels, .ref a_M_stored])), (a_M_rowAt, .inl (g.2.1, 16, .inl M_rowAt)), (a_M_a, .inl (g.2.1, 256, .inl M_a)), (a_M_lower, .inl (g.2.1, 256, .inl M_lower)), (a_M_pivots, .inl (g.2.1, 16, .inl M_pivots)), (a_M_weights, .inl (g.2.1, 16, .inl M_weights))]
abbrev w1_X5_update (g : cx_G) (a_M a_M_a a_M_rowAt a_M_places a_M_rights a_M_weights a_M_pivots a_M_lower a_M_solution a_M_work a_M_isJoined a_M_stored : Nat) (M_thrown : Int32) (M_n : Int32) (M_hasFactors : Int32) (M_hasSolution : Int32) (M_levels : Int32) (M_rowAt : (Nat → Int32)) (M_a : (Nat → Int32)) (M_lower : (Nat → Int32)) (M_pivots : (Nat → Int32)) (M_weights : (Nat → Int32)) (u : Int32 × Int32 × (Nat → Int32) × (Nat → Int32) × (Nat → Int32)) : va_W := [(a_M, .inr (5, [.int u.1, .int M_n, .ref a_M_a, .ref a_M_rowAt, .ref a_M_places, .ref a_M_rights, .ref a_M_weights, .int u.2.1, .ref a_M_pivots, .ref a_M_lower, .int M_hasSolution, .ref a_M_solution, .ref a_M_work, .ref a_M_isJoined, .int M_levels, .ref a_M_stored])), (a_M_rowAt, .inl (g.2.1, 16, .inl M_rowAt)), (a_M_a, .inl (g.2.1, 256, .inl u.2.2.1)), (a_M_lower, .inl (g.2.1, 256, .inl u.2.2.2.1)), (a_M_pivots, .inl (g.2.1, 16, .inl u.2.2.2.2)), (a_M_weights, .inl (g.2.1, 16, .inl M_weights))]
set_option maxHeartbeats 4000000 in
set_option maxRecDepth 100000 in
theorem c_X5_update (l : Launch) (g : cx_G) (a_M a_M_a a_M_rowAt a_M_places a_M_rights a_M_weights a_M_pivots a_M_lower a_M_solution a_M_work a_M_isJoined a_M_stored : Nat) (i_f : Int32) (M_thrown : Int32) (M_n : Int32) (M_hasFactors : Int32) (M_hasSolution : Int32) (M_levels : Int32) (M_rowAt : (Nat → Int32)) (M_a : (Nat → Int32)) (M_lower : (Nat → Int32)) (M_pivots : (Nat → Int32)) (M_weights : (Nat → Int32)) {Q : Int32 → Int32 → Int32 → (Nat → Int32) → (Nat → Int32) → (Nat → Int32) → Prop} (hv : wp_X5_update i_f M_thrown M_n M_hasFactors M_hasSolution M_levels M_rowAt M_a M_lower M_pivots M_weights Q) : cx_Mi l g yX5_update (Cond.code yX5_update cX5_update 4 (some .int) :: cx_T) ({ frames := 3, cells := 0, slots := 0, locals := 69 } : Room) [.ref a_M, .int i_f] (w0_X5_update g a_M a_M_a a_M_rowAt a_M_places a_M_rights a_M_weights a_M_pivots a_M_lower a_M_solution a_M_work a_M_isJoined a_M_stored M_thrown M_n M_hasFactors M_hasSolution M_levels M_rowAt M_a M_lower M_pivots M_weights) (fun (r : Int32) (u : Int32 × Int32 × (Nat → Int32) × (Nat → Int32) × (Nat → Int32)) => Q r u.1 u.2.1 u.2.2.1 u.2.2.2.1 u.2.2.2.2) (w1_X5_update g a_M a_M_a a_M_rowAt a_M_places a_M_rights a_M_weights a_M_pivots a_M_lower a_M_solution a_M_work a_M_isJoined a_M_stored M_thrown M_n M_hasFactors M_hasSolution M_levels M_rowAt M_a M_lower M_pivots M_weights) 0 0 := by
  intro sz
  refine Met.ofW (cc := cX5_update) (maxL := 4) (ret := (some .int)) (by decide) rfl ?_
  intro p e s m args below meth c s₁ B hml hpre
  obtain ⟨rfl, hsz, hP, hK, hD0⟩ := hpre
  have hx := B.exec
  have hb := B.bytes
  have hr := B.returns
  have hts0 := atoms_spec (ws := (Cond.code yX5_update cX5_update 4 (some .int) :: cx_T)) B.pre
  have hts : ∀ w ∈ cx_T, w.before _ s = true := fun w h => hts0 w (List.mem_cons_of_mem _ h)
  have hown : s.vm.findClass RX5 = some m.cls := findClass_of_methodNamed B.named
  have hlocks := B.notSynchronized
  subst hsz
  have hD := hD0.self (sz := s.heap.size)
  obtain ⟨A, hAe⟩ : ∃ A : Nat → Prop, A = va_A (w0_X5_update g a_M a_M_a a_M_rowAt a_M_places a_M_rights a_M_weights a_M_pivots a_M_lower a_M_solution a_M_work a_M_isJoined a_M_stored M_thrown M_n M_hasFactors M_hasSolution M_levels M_rowAt M_a M_lower M_pivots M_weights) s.heap.size := ⟨_, rfl⟩
  rw [← hAe] at hD
  have hA : ∀ q : Nat, s.heap.size ≤ q → A q := fun q h => by rw [hAe]; exact Or.inr h
  have hS : va_S A s.heap s.heap [] := va_S.rf
  have hP : va_P g.1 vwCl [(a_M, .inr (5, [.int M_thrown, .int M_n, .ref a_M_a, .ref a_M_rowAt, .ref a_M_places, .ref a_M_rights, .ref a_M_weights, .int M_hasFactors, .ref a_M_pivots, .ref a_M_lower, .int M_hasSolution, .ref a_M_solution, .ref a_M_work, .ref a_M_isJoined, .int M_levels, .ref a_M_stored])), (a_M_rowAt, .inl (g.2.1, 16, .inl M_rowAt)), (a_M_a, .inl (g.2.1, 256, .inl M_a)), (a_M_lower, .inl (g.2.1, 256, .inl M_lower)), (a_M_pivots, .inl (g.2.1, 16, .inl M_pivots)), (a_M_weights, .inl (g.2.1, 16, .inl M_weights))] s.heap := hP
  have hD : va_D A [(a_M, .inr (5, [.int M_thrown, .int M_n, .ref a_M_a, .ref a_M_rowAt, .ref a_M_places, .ref a_M_rights, .ref a_M_weights, .int M_hasFactors, .ref a_M_pivots, .ref a_M_lower, .int M_hasSolution, .ref a_M_solution, .ref a_M_work, .ref a_M_isJoined, .int M_levels, .ref a_M_stored])), (a_M_rowAt, .inl (g.2.1, 16, .inl M_rowAt)), (a_M_a, .inl (g.2.1, 256, .inl M_a)), (a_M_lower, .inl (g.2.1, 256, .inl M_lower)), (a_M_pivots, .inl (g.2.1, 16, .inl M_pivots)), (a_M_weights, .inl (g.2.1, 16, .inl M_weights))] := hD
  have hl := lv_entry ([.ref a_M, .int i_f]) (n := 4) (Nat.le_of_ble_eq_true rfl)
  rw [lg_entry_eq]
  generalize (lg_sl ([.ref a_M, .int i_f]) ++ List.replicate (4 - (lg_sl ([.ref a_M, .int i_f])).length) Slot.unset).toArray = ls at hl ⊢
  have hl : lv_has ls 4 [(0, .ref a_M), (1, .int i_f)] := hl
  obtain ⟨G1, hG1⟩ : ∃ G : Int32 → Int32 → Int32 → (Nat → Int32) → (Nat → Int32) → (Nat → Int32) → Prop, G = (fun (x2 : Int32) (v_M_thrown : Int32) (v_M_hasFactors : Int32) (v_M_a : (Nat → Int32)) (v_M_lower : (Nat → Int32)) (v_M_pivots : (Nat → Int32)) => ∀ (H : Heap) (locs : List Loc) (ls : Array Slot), va_P g.1 vwCl [(a_M, .inr (5, [.int v_M_thrown, .int M_n, .ref a_M_a, .ref a_M_rowAt, .ref a_M_places, .ref a_M_rights, .ref a_M_weights, .int v_M_hasFactors, .ref a_M_pivots, .ref a_M_lower, .int M_hasSolution, .ref a_M_solution, .ref a_M_work, .ref a_M_isJoined, .int M_levels, .ref a_M_stored])), (a_M_rowAt, .inl (g.2.1, 16, .inl M_rowAt)), (a_M_a, .inl (g.2.1, 256, .inl v_M_a)), (a_M_lower, .inl (g.2.1, 256, .inl v_M_lower)), (a_M_pivots, .inl (g.2.1, 16, .inl v_M_pivots)), (a_M_weights, .inl (g.2.1, 16, .inl M_weights))] H → va_D A [(a_M, .inr (5, [.int v_M_thrown, .int M_n, .ref a_M_a, .ref a_M_rowAt, .ref a_M_places, .ref a_M_rights, .ref a_M_weights, .int v_M_hasFactors, .ref a_M_pivots, .ref a_M_lower, .int M_hasSolution, .ref a_M_solution, .ref a_M_work, .ref a_M_isJoined, .int M_levels, .ref a_M_stored])), (a_M_rowAt, .inl (g.2.1, 16, .inl M_rowAt)), (a_M_a, .inl (g.2.1, 256, .inl v_M_a)), (a_M_lower, .inl (g.2.1, 256, .inl v_M_lower)), (a_M_pivots, .inl (g.2.1, 16, .inl v_M_pivots)), (a_M_weights, .inl (g.2.1, 16, .inl M_weights))] → va_S A s.heap H locs → lv_has ls 4 [(2, .int x2), (0, .ref a_M), (1, .int i_f)] → W p l e (headSpec (Cond.code yX5_update cX5_update 4 (some .int) :: cx_T) ({ frames := 3, cells := 0, slots := 0, locals := 69 } : Room)).room s m ([.ref a_M, .int i_f] : List Value).toArray below meth c H locs 0 0 (MQ below (va_Qi (fun (r : Int32) (u : Int32 × Int32 × (Nat → Int32) × (Nat → Int32) × (Nat → Int32)) => Q r u.1 u.2.1 u.2.2.1 u.2.2.2.1 u.2.2.2.2) (cx_B g (w0_X5_update g a_M a_M_a a_M_rowAt a_M_places a_M_rights a_M_weights a_M_pivots a_M_lower a_M_solution a_M_work a_M_isJoined a_M_stored M_thrown M_n M_hasFactors M_hasSolution M_levels M_rowAt M_a M_lower M_pivots M_weights) s.heap.size (w1_X5_update g a_M a_M_a a_M_rowAt a_M_places a_M_rights a_M_weights a_M_pivots a_M_lower a_M_solution a_M_work a_M_isJoined a_M_stored M_thrown M_n M_hasFactors M_hasSolution M_levels M_rowAt M_a M_lower M_pivots M_weights)) (va_A (w0_X5_update g a_M a_M_a a_M_rowAt a_M_places a_M_rights a_M_weights a_M_pivots a_M_lower a_M_solution a_M_work a_M_isJoined a_M_stored M_thrown M_n M_hasFactors M_hasSolution M_levels M_rowAt M_a M_lower M_pivots M_weights) s.heap.size)) ([.ref a_M, .int i_f] : List Value).toArray s 0 0 (va_A (w0_X5_update g a_M a_M_a a_M_rowAt a_M_places a_M_rights a_M_weights a_M_pivots a_M_lower a_M_solution a_M_work a_M_isJoined a_M_stored M_thrown M_n M_hasFactors M_hasSolution M_levels M_rowAt M_a M_lower M_pivots M_weights) s.heap.size)) (F0 m 33 ls [])) := ⟨_, rfl⟩
  obtain ⟨G2, hG2⟩ : ∃ G : Int32 → Int32 → Int32 → Int32 → (Nat → Int32) → (Nat → Int32) → (Nat → Int32) → Prop, G = (fun (x3 : Int32) (x2 : Int32) (v_M_thrown : Int32) (v_M_hasFactors : Int32) (v_M_a : (Nat → Int32)) (v_M_lower : (Nat → Int32)) (v_M_pivots : (Nat → Int32)) => ∀ (H : Heap) (locs : List Loc) (ls : Array Slot), va_P g.1 vwCl [(a_M, .inr (5, [.int v_M_thrown, .int M_n, .ref a_M_a, .ref a_M_rowAt, .ref a_M_places, .ref a_M_rights, .ref a_M_weights, .int v_M_hasFactors, .ref a_M_pivots, .ref a_M_lower, .int M_hasSolution, .ref a_M_solution, .ref a_M_work, .ref a_M_isJoined, .int M_levels, .ref a_M_stored])), (a_M_rowAt, .inl (g.2.1, 16, .inl M_rowAt)), (a_M_a, .inl (g.2.1, 256, .inl v_M_a)), (a_M_lower, .inl (g.2.1, 256, .inl v_M_lower)), (a_M_pivots, .inl (g.2.1, 16, .inl v_M_pivots)), (a_M_weights, .inl (g.2.1, 16, .inl M_weights))] H → va_D A [(a_M, .inr (5, [.int v_M_thrown, .int M_n, .ref a_M_a, .ref a_M_rowAt, .ref a_M_places, .ref a_M_rights, .ref a_M_weights, .int v_M_hasFactors, .ref a_M_pivots, .ref a_M_lower, .int M_hasSolution, .ref a_M_solution, .ref a_M_work, .ref a_M_isJoined, .int M_levels, .ref a_M_stored])), (a_M_rowAt, .inl (g.2.1, 16, .inl M_rowAt)), (a_M_a, .inl (g.2.1, 256, .inl v_M_a)), (a_M_lower, .inl (g.2.1, 256, .inl v_M_lower)), (a_M_pivots, .inl (g.2.1, 16, .inl v_M_pivots)), (a_M_weights, .inl (g.2.1, 16, .inl M_weights))] → va_S A s.heap H locs → lv_has ls 4 [(3, .int x3), (2, .int x2), (0, .ref a_M), (1, .int i_f)] → W p l e (headSpec (Cond.code yX5_update cX5_update 4 (some .int) :: cx_T) ({ frames := 3, cells := 0, slots := 0, locals := 69 } : Room)).room s m ([.ref a_M, .int i_f] : List Value).toArray below meth c H locs 0 0 (MQ below (va_Qi (fun (r : Int32) (u : Int32 × Int32 × (Nat → Int32) × (Nat → Int32) × (Nat → Int32)) => Q r u.1 u.2.1 u.2.2.1 u.2.2.2.1 u.2.2.2.2) (cx_B g (w0_X5_update g a_M a_M_a a_M_rowAt a_M_places a_M_rights a_M_weights a_M_pivots a_M_lower a_M_solution a_M_work a_M_isJoined a_M_stored M_thrown M_n M_hasFactors M_hasSolution M_levels M_rowAt M_a M_lower M_pivots M_weights) s.heap.size (w1_X5_update g a_M a_M_a a_M_rowAt a_M_places a_M_rights a_M_weights a_M_pivots a_M_lower a_M_solution a_M_work a_M_isJoined a_M_stored M_thrown M_n M_hasFactors M_hasSolution M_levels M_rowAt M_a M_lower M_pivots M_weights)) (va_A (w0_X5_update g a_M a_M_a a_M_rowAt a_M_places a_M_rights a_M_weights a_M_pivots a_M_lower a_M_solution a_M_work a_M_isJoined a_M_stored M_thrown M_n M_hasFactors M_hasSolution M_levels M_rowAt M_a M_lower M_pivots M_weights) s.heap.size)) ([.ref a_M, .int i_f] : List Value).toArray s 0 0 (va_A (w0_X5_update g a_M a_M_a a_M_rowAt a_M_places a_M_rights a_M_weights a_M_pivots a_M_lower a_M_solution a_M_work a_M_isJoined a_M_stored M_thrown M_n M_hasFactors M_hasSolution M_levels M_rowAt M_a M_lower M_pivots M_weights) s.heap.size)) (F0 m 43 ls [])) := ⟨_, rfl⟩
  have hs1 : ∀ (x2 : Int32) (v_M_thrown : Int32) (v_M_hasFactors : Int32) (v_M_a : (Nat → Int32)) (v_M_lower : (Nat → Int32)) (v_M_pivots : (Nat → Int32)), vc_X5_update_1 i_f M_thrown M_n M_hasFactors M_hasSolution M_levels M_rowAt M_a M_lower M_pivots M_weights Q G1 G2 x2 v_M_thrown v_M_hasFactors v_M_a v_M_lower v_M_pivots → G1 x2 v_M_thrown v_M_hasFactors v_M_a v_M_lower v_M_pivots := by
    rw [hG1, hG2]
    intro x2 v_M_thrown v_M_hasFactors v_M_a v_M_lower v_M_pivots hv H locs ls hP hD hS hl
    unfold vc_X5_update_1 at hv
    refine lv_iload_n hx hb dX5_update_33 rfl (lv_at hl 0 rfl) ?_
    refine lv_aload_n hx hb dX5_update_34 rfl (lv_at hl 1 rfl) ?_
    refine va_get (D := g.1) (ci := 5) (v := .int M_n) (C := RX5) (T := TX5) (N := 16) hx hb hts cw_in_X5 hown hK.1 hP 0 rfl rfl 1 (by decide) (hts _ cw_f_X5_9) (fun _ h9 => h9) rfl dX5_update_35 ?_
    refine lv_icmp_ge (tgt := 106) hx hb dX5_update_38 (by decide) (fun hc => ?_) (fun hc => ?_)
    · replace hv := hv.1 hc
      refine lv_aload_n hx hb dX5_update_106 rfl (lv_at hl 1 rfl) ?_
      refine cx_iV (wr := [(a_M_weights, .inl (g.2.1, 16, .inl M_weights))]) (As := []) (rest := []) ⟨hx, hb, hml, hown, hts⟩ (c_X5_find l g a_M a_M_a a_M_rowAt a_M_places a_M_rights a_M_weights a_M_pivots a_M_lower a_M_solution a_M_work a_M_isJoined a_M_stored v_M_thrown M_n v_M_hasFactors M_hasSolution M_levels M_rowAt v_M_a v_M_lower v_M_pivots hv) (cx_cwV 0 hts cw_m_X5_149 cw_i_X5_find cw_s_X5_find cw_n_X5 cw_c_X5_find rfl rfl (by decide +kernel) ⟨Nat.le_of_ble_eq_true rfl, Nat.le_of_ble_eq_true rfl⟩) hK hP hD hS hA 0 5 rfl rfl [0, 1, 2, 3, 4] [5] rfl rfl rfl rfl (by decide) rfl hl.1 rfl (Nat.le_of_ble_eq_true rfl) dX5_update_107 ⟨Nat.le_of_ble_eq_true rfl, Nat.le_of_ble_eq_true rfl⟩ (fun r_1 w_5 H locs hv hP hD hS => ?_)
      obtain ⟨u_2, u_3, u_4⟩ := w_5
      have hP : va_P g.1 vwCl [(a_M, .inr (5, [.int v_M_thrown, .int M_n, .ref a_M_a, .ref a_M_rowAt, .ref a_M_places, .ref a_M_rights, .ref a_M_weights, .int u_2, .ref a_M_pivots, .ref a_M_lower, .int M_hasSolution, .ref a_M_solution, .ref a_M_work, .ref a_M_isJoined, .int M_levels, .ref a_M_stored])), (a_M_rowAt, .inl (g.2.1, 16, .inl M_rowAt)), (a_M_a, .inl (g.2.1, 256, .inl v_M_a)), (a_M_lower, .inl (g.2.1, 256, .inl u_3)), (a_M_pivots, .inl (g.2.1, 16, .inl u_4)), (a_M_weights, .inl (g.2.1, 16, .inl M_weights))] H := hP.sub [1, 2, 3, 4, 5, 0] rfl
      have hD : va_D A [(a_M, .inr (5, [.int v_M_thrown, .int M_n, .ref a_M_a, .ref a_M_rowAt, .ref a_M_places, .ref a_M_rights, .ref a_M_weights, .int u_2, .ref a_M_pivots, .ref a_M_lower, .int M_hasSolution, .ref a_M_solution, .ref a_M_work, .ref a_M_isJoined, .int M_levels, .ref a_M_stored])), (a_M_rowAt, .inl (g.2.1, 16, .inl M_rowAt)), (a_M_a, .inl (g.2.1, 256, .inl v_M_a)), (a_M_lower, .inl (g.2.1, 256, .inl u_3)), (a_M_pivots, .inl (g.2.1, 16, .inl u_4)), (a_M_weights, .inl (g.2.1, 16, .inl M_weights))] := hD.sub [1, 2, 3, 4, 5, 0] (by decide) rfl
      exact cx_iret hx hb hr hlocks hAe hS (v_M_thrown, u_2, v_M_a, u_3, u_4) hv hP hD dX5_update_110
    · replace hv := hv.2 hc
      refine lv_iconst (v := 0) hx hb dX5_update_41 (by decide) ?_
      refine lv_istore_n (lv' := [(3, .int 0), (2, .int x2), (0, .ref a_M), (1, .int i_f)]) hx hb dX5_update_42 rfl hl (by decide) rfl (fun ls hl => ?_)
      exact hv _ _ _ hP hD hS (lv_sub hl [0, 1, 2, 3] rfl)
  have hs2 : ∀ (x3 : Int32) (x2 : Int32) (v_M_thrown : Int32) (v_M_hasFactors : Int32) (v_M_a : (Nat → Int32)) (v_M_lower : (Nat → Int32)) (v_M_pivots : (Nat → Int32)), vc_X5_update_2 i_f M_thrown M_n M_hasFactors M_hasSolution M_levels M_rowAt M_a M_lower M_pivots M_weights Q G1 G2 x3 x2 v_M_thrown v_M_hasFactors v_M_a v_M_lower v_M_pivots → G2 x3 x2 v_M_thrown v_M_hasFactors v_M_a v_M_lower v_M_pivots := by
    rw [hG1, hG2]
    intro x3 x2 v_M_thrown v_M_hasFactors v_M_a v_M_lower v_M_pivots hv H locs ls hP hD hS hl
    unfold vc_X5_update_2 at hv
    refine lv_iload_n hx hb dX5_update_43 rfl (lv_at hl 0 rfl) ?_
    refine lv_aload_n hx hb dX5_update_44 rfl (lv_at hl 2 rfl) ?_
    refine va_get (D := g.1) (ci := 5) (v := .int M_n) (C := RX5) (T := TX5) (N := 16) hx hb hts cw_in_X5 hown hK.1 hP 0 rfl rfl 1 (by decide) (hts _ cw_f_X5_9) (fun _ h9 => h9) rfl dX5_update_45 ?_
    refine lv_icmp_ge (tgt := 100) hx hb dX5_update_48 (by decide) (fun hc => ?_) (fun hc => ?_)
    · replace hv := hv.1 hc
      obtain ⟨x2_1, ex2_1⟩ : ∃ y : Int32, y = x2 + 1 := ⟨_, rfl⟩
      replace hv := hv x2_1 ex2_1
      refine lv_iinc (v := x2_1) (lv' := [(2, .int x2_1), (3, .int x3), (0, .ref a_M), (1, .int i_f)]) hx hb dX5_update_100 hl (k := 1) rfl (by rw [ex2_1]; rfl) (by decide) rfl (fun ls hl => ?_)
      refine lv_goto (tgt := 33) hx hb dX5_update_103 (by decide) ?_
      exact hv _ _ _ hP hD hS (lv_sub hl [0, 2, 3] rfl)
    · replace hv := hv.2 hc
      refine lv_aload_n hx hb dX5_update_51 rfl (lv_at hl 2 rfl) ?_
      refine va_get (D := g.1) (ci := 5) (v := .ref a_M_a) (C := RX5) (T := TX5) (N := 16) hx hb hts cw_in_X5 hown hK.1 hP 0 rfl rfl 2 (by decide) (hts _ cw_f_X5_13) (fun _ h9 => h9) rfl dX5_update_52 ?_
      refine lv_iload_n hx hb dX5_update_55 rfl (lv_at hl 1 rfl) ?_
      refine lv_iload_n hx hb dX5_update_56 rfl (lv_at hl 0 rfl) ?_
      refine cx_iSr (As := [.int x2, .int x3]) (rest := [.ref a_M_a]) ⟨hx, hb, hml, hown, hts⟩ (cp_X5_at l g x2 x3) (cx_cwS 2 hts cw_m_X5_62 cw_t_X5_at cw_n_X5 cw_c_X5_at rfl rfl (by decide +kernel) ⟨Nat.le_of_ble_eq_true rfl, Nat.le_of_ble_eq_true rfl⟩) hK hP hD hS hA [] rfl rfl rfl hl.1 rfl (Nat.le_of_ble_eq_true rfl) dX5_update_57 ⟨Nat.le_of_ble_eq_true rfl, Nat.le_of_ble_eq_true rfl⟩ (fun r_2 H locs hr9 hP hS => ?_)
      replace hr9 : r_2 = (f_at x2 x3) := hr9
      subst hr9
      refine lv_aload_n hx hb dX5_update_60 rfl (lv_at hl 2 rfl) ?_
      refine va_get (D := g.1) (ci := 5) (v := .ref a_M_a) (C := RX5) (T := TX5) (N := 16) hx hb hts cw_in_X5 hown hK.1 hP 0 rfl rfl 2 (by decide) (hts _ cw_f_X5_13) (fun _ h9 => h9) rfl dX5_update_61 ?_
      refine lv_iload_n hx hb dX5_update_64 rfl (lv_at hl 1 rfl) ?_
      refine lv_iload_n hx hb dX5_update_65 rfl (lv_at hl 0 rfl) ?_
      refine cx_iSr (As := [.int x2, .int x3]) (rest := [.ref a_M_a, .int (f_at x2 x3), .ref a_M_a]) ⟨hx, hb, hml, hown, hts⟩ (cp_X5_at l g x2 x3) (cx_cwS 2 hts cw_m_X5_62 cw_t_X5_at cw_n_X5 cw_c_X5_at rfl rfl (by decide +kernel) ⟨Nat.le_of_ble_eq_true rfl, Nat.le_of_ble_eq_true rfl⟩) hK hP hD hS hA [] rfl rfl rfl hl.1 rfl (Nat.le_of_ble_eq_true rfl) dX5_update_66 ⟨Nat.le_of_ble_eq_true rfl, Nat.le_of_ble_eq_true rfl⟩ (fun r_3 H locs hr9 hP hS => ?_)
      replace hr9 : r_3 = (f_at x2 x3) := hr9
      subst hr9
      obtain ⟨h_4, hv⟩ := hv
      refine va_iald (D := g.1) hx hb hK.1 hP 2 0 rfl rfl h_4 dX5_update_69 ?_
      refine lv_iload_n hx hb dX5_update_70 rfl (lv_at hl 3 rfl) ?_
      refine lv_aload_n hx hb dX5_update_71 rfl (lv_at hl 2 rfl) ?_
      refine va_get (D := g.1) (ci := 5) (v := .ref a_M_weights) (C := RX5) (T := TX5) (N := 16) hx hb hts cw_in_X5 hown hK.1 hP 0 rfl rfl 6 (by decide) (hts _ cw_f_X5_26) (fun _ h9 => h9) rfl dX5_update_72 ?_
      refine lv_iload_n hx hb dX5_update_75 rfl (lv_at hl 1 rfl) ?_
      obtain ⟨h_5, hv⟩ := hv
      refine va_iald (D := g.1) hx hb hK.1 hP 5 0 rfl rfl h_5 dX5_update_76 ?_
      refine lv_aload_n hx hb dX5_update_77 rfl (lv_at hl 2 rfl) ?_
      refine va_get (D := g.1) (ci := 5) (v := .ref a_M_weights) (C := RX5) (T := TX5) (N := 16) hx hb hts cw_in_X5 hown hK.1 hP 0 rfl rfl 6 (by decide) (hts _ cw_f_X5_26) (fun _ h9 => h9) rfl dX5_update_78 ?_
      refine lv_iload_n hx hb dX5_update_81 rfl (lv_at hl 0 rfl) ?_
      obtain ⟨h_6, hv⟩ := hv
      refine va_iald (D := g.1) hx hb hK.1 hP 5 0 rfl rfl h_6 dX5_update_82 ?_
      refine cx_iSr (As := [.int (M_weights (Int32.toNatClampNeg x2)), .int (M_weights (Int32.toNatClampNeg x3))]) (rest := [.int i_f, .int (v_M_a (Int32.toNatClampNeg (f_at x2 x3))), .int (f_at x2 x3), .ref a_M_a]) ⟨hx, hb, hml, hown, hts⟩ (cp_X5_times l g (M_weights (Int32.toNatClampNeg x2)) (M_weights (Int32.toNatClampNeg x3))) (cx_cwS 2 hts cw_m_X5_58 cw_t_X5_times cw_n_X5 cw_c_X5_times rfl rfl (by decide +kernel) ⟨Nat.le_of_ble_eq_true rfl, Nat.le_of_ble_eq_true rfl⟩) hK hP hD hS hA [] rfl rfl rfl hl.1 rfl (Nat.le_of_ble_eq_true rfl) dX5_update_83 ⟨Nat.le_of_ble_eq_true rfl, Nat.le_of_ble_eq_true rfl⟩ (fun r_7 H locs hr9 hP hS => ?_)
      replace hr9 : r_7 = (f_times (M_weights (Int32.toNatClampNeg x2)) (M_weights (Int32.toNatClampNeg x3))) := hr9
      subst hr9
      refine cx_iSr (As := [.int i_f, .int (f_times (M_weights (Int32.toNatClampNeg x2)) (M_weights (Int32.toNatClampNeg x3)))]) (rest := [.int (v_M_a (Int32.toNatClampNeg (f_at x2 x3))), .int (f_at x2 x3), .ref a_M_a]) ⟨hx, hb, hml, hown, hts⟩ (cp_X5_times l g i_f (f_times (M_weights (Int32.toNatClampNeg x2)) (M_weights (Int32.toNatClampNeg x3)))) (cx_cwS 2 hts cw_m_X5_58 cw_t_X5_times cw_n_X5 cw_c_X5_times rfl rfl (by decide +kernel) ⟨Nat.le_of_ble_eq_true rfl, Nat.le_of_ble_eq_true rfl⟩) hK hP hD hS hA [] rfl rfl rfl hl.1 rfl (Nat.le_of_ble_eq_true rfl) dX5_update_86 ⟨Nat.le_of_ble_eq_true rfl, Nat.le_of_ble_eq_true rfl⟩ (fun r_8 H locs hr9 hP hS => ?_)
      replace hr9 : r_8 = (f_times i_f (f_times (M_weights (Int32.toNatClampNeg x2)) (M_weights (Int32.toNatClampNeg x3)))) := hr9
      subst hr9
      refine lv_iadd hx hb dX5_update_89 ?_
      refine lv_ldc hx hb hown (hts _ cw_k_X5_54) dX5_update_90 ?_
      refine lv_irem hx hb dX5_update_92 (by decide) ?_
      obtain ⟨h_9, hv⟩ := hv
      refine va_iast (D := g.1) hx hb hK.1 hP hD hS 2 0 rfl rfl h_9 dX5_update_93 (fun H locs hP hD hS => ?_)
      have hP : va_P g.1 vwCl [(a_M, .inr (5, [.int v_M_thrown, .int M_n, .ref a_M_a, .ref a_M_rowAt, .ref a_M_places, .ref a_M_rights, .ref a_M_weights, .int v_M_hasFactors, .ref a_M_pivots, .ref a_M_lower, .int M_hasSolution, .ref a_M_solution, .ref a_M_work, .ref a_M_isJoined, .int M_levels, .ref a_M_stored])), (a_M_rowAt, .inl (g.2.1, 16, .inl M_rowAt)), (a_M_a, .inl (g.2.1, 256, .inl (upd v_M_a (Int32.toNatClampNeg (f_at x2 x3)) (((v_M_a (Int32.toNatClampNeg (f_at x2 x3))) + (f_times i_f (f_times (M_weights (Int32.toNatClampNeg x2)) (M_weights (Int32.toNatClampNeg x3))))) - ((v_M_a (Int32.toNatClampNeg (f_at x2 x3))) + (f_times i_f (f_times (M_weights (Int32.toNatClampNeg x2)) (M_weights (Int32.toNatClampNeg x3))))) / 65521 * 65521)))), (a_M_lower, .inl (g.2.1, 256, .inl v_M_lower)), (a_M_pivots, .inl (g.2.1, 16, .inl v_M_pivots)), (a_M_weights, .inl (g.2.1, 16, .inl M_weights))] H := hP
      have hD : va_D A [(a_M, .inr (5, [.int v_M_thrown, .int M_n, .ref a_M_a, .ref a_M_rowAt, .ref a_M_places, .ref a_M_rights, .ref a_M_weights, .int v_M_hasFactors, .ref a_M_pivots, .ref a_M_lower, .int M_hasSolution, .ref a_M_solution, .ref a_M_work, .ref a_M_isJoined, .int M_levels, .ref a_M_stored])), (a_M_rowAt, .inl (g.2.1, 16, .inl M_rowAt)), (a_M_a, .inl (g.2.1, 256, .inl (upd v_M_a (Int32.toNatClampNeg (f_at x2 x3)) (((v_M_a (Int32.toNatClampNeg (f_at x2 x3))) + (f_times i_f (f_times (M_weights (Int32.toNatClampNeg x2)) (M_weights (Int32.toNatClampNeg x3))))) - ((v_M_a (Int32.toNatClampNeg (f_at x2 x3))) + (f_times i_f (f_times (M_weights (Int32.toNatClampNeg x2)) (M_weights (Int32.toNatClampNeg x3))))) / 65521 * 65521)))), (a_M_lower, .inl (g.2.1, 256, .inl v_M_lower)), (a_M_pivots, .inl (g.2.1, 16, .inl v_M_pivots)), (a_M_weights, .inl (g.2.1, 16, .inl M_weights))] := hD
      obtain ⟨x3_10, ex3_10⟩ : ∃ y : Int32, y = x3 + 1 := ⟨_, rfl⟩
      replace hv := hv x3_10 ex3_10
      refine lv_iinc (v := x3_10) (lv' := [(3, .int x3_10), (2, .int x2), (0, .ref a_M), (1, .int i_f)]) hx hb dX5_update_94 hl (k := 0) rfl (by rw [ex3_10]; rfl) (by decide) rfl (fun ls hl => ?_)
      refine lv_goto (tgt := 43) hx hb dX5_update_97 (by decide) ?_
      exact hv _ _ _ hP hD hS (lv_sub hl [0, 1, 2, 3] rfl)
  replace hv := hv G1 G2 hs1 hs2
  rw [hG1, hG2] at hv
  unfold vc_X5_update_0 at hv
  refine lv_aload_n hx hb dX5_update_0 rfl (lv_at hl 0 rfl) ?_
  refine lv_iconst (v := 0) hx hb dX5_update_1 (by decide) ?_
  refine va_put (D := g.1) (ci := 5) (v := .int 0) (ty := .int) (C := RX5) (T := TX5) (N := 16) hx hb hts cw_in_X5 tyX5 tyX5_ok nmX5 hown hK.1 hP hD hS 0 rfl rfl 0 (by decide) (hts _ cw_f_X5_51) (fun _ h9 => h9) rfl (by decide +kernel) rfl rfl (Nat.le_of_ble_eq_true rfl) dX5_update_2 (fun H locs hP hD hS => ?_)
  have hP : va_P g.1 vwCl [(a_M, .inr (5, [.int 0, .int M_n, .ref a_M_a, .ref a_M_rowAt, .ref a_M_places, .ref a_M_rights, .ref a_M_weights, .int M_hasFactors, .ref a_M_pivots, .ref a_M_lower, .int M_hasSolution, .ref a_M_solution, .ref a_M_work, .ref a_M_isJoined, .int M_levels, .ref a_M_stored])), (a_M_rowAt, .inl (g.2.1, 16, .inl M_rowAt)), (a_M_a, .inl (g.2.1, 256, .inl M_a)), (a_M_lower, .inl (g.2.1, 256, .inl M_lower)), (a_M_pivots, .inl (g.2.1, 16, .inl M_pivots)), (a_M_weights, .inl (g.2.1, 16, .inl M_weights))] H := hP
  have hD : va_D A [(a_M, .inr (5, [.int 0, .int M_n, .ref a_M_a, .ref a_M_rowAt, .ref a_M_places, .ref a_M_rights, .ref a_M_weights, .int M_hasFactors, .ref a_M_pivots, .ref a_M_lower, .int M_hasSolution, .ref a_M_solution, .ref a_M_work, .ref a_M_isJoined, .int M_levels, .ref a_M_stored])), (a_M_rowAt, .inl (g.2.1, 16, .inl M_rowAt)), (a_M_a, .inl (g.2.1, 256, .inl M_a)), (a_M_lower, .inl (g.2.1, 256, .inl M_lower)), (a_M_pivots, .inl (g.2.1, 16, .inl M_pivots)), (a_M_weights, .inl (g.2.1, 16, .inl M_weights))] := hD
  refine lv_iload_n hx hb dX5_update_5 rfl (lv_at hl 1 rfl) ?_
  refine cx_iSr (As := [.int i_f]) (rest := []) ⟨hx, hb, hml, hown, hts⟩ (cp_X5_isResidue l g i_f) (cx_cwS 1 hts cw_m_X5_80 cw_t_X5_isResidue cw_n_X5 cw_c_X5_isResidue rfl rfl (by decide +kernel) ⟨Nat.le_of_ble_eq_true rfl, Nat.le_of_ble_eq_true rfl⟩) hK hP hD hS hA [] rfl rfl rfl hl.1 rfl (Nat.le_of_ble_eq_true rfl) dX5_update_6 ⟨Nat.le_of_ble_eq_true rfl, Nat.le_of_ble_eq_true rfl⟩ (fun r_1 H locs hr9 hP hS => ?_)
  replace hr9 : r_1 = (f_res i_f) := hr9
  subst hr9
  refine lv_if_ne (tgt := 18) hx hb dX5_update_9 (by decide) (fun hc => ?_) (fun hc => ?_)
  · replace hv := hv.2 hc
    refine lv_aload_n hx hb dX5_update_18 rfl (lv_at hl 0 rfl) ?_
    refine va_get (D := g.1) (ci := 5) (v := .int M_hasFactors) (C := RX5) (T := TX5) (N := 16) hx hb hts cw_in_X5 hown hK.1 hP 0 rfl rfl 7 (by decide) (hts _ cw_f_X5_65) (fun _ h9 => h9) rfl dX5_update_19 ?_
    refine lv_if_ne (tgt := 31) hx hb dX5_update_22 (by decide) (fun hc => ?_) (fun hc => ?_)
    · replace hv := hv.2 hc
      refine lv_iconst (v := 0) hx hb dX5_update_31 (by decide) ?_
      refine lv_istore_n (lv' := [(2, .int 0), (0, .ref a_M), (1, .int i_f)]) hx hb dX5_update_32 rfl hl (by decide) rfl (fun ls hl => ?_)
      exact hv _ _ _ hP hD hS (lv_sub hl [0, 1, 2] rfl)
    · replace hv := hv.1 hc
      refine lv_aload_n hx hb dX5_update_25 rfl (lv_at hl 0 rfl) ?_
      refine lv_iconst (v := 2) hx hb dX5_update_26 (by decide) ?_
      refine cx_iV (wr := [(a_M_rowAt, .inl (g.2.1, 16, .inl M_rowAt)), (a_M_a, .inl (g.2.1, 256, .inl M_a)), (a_M_lower, .inl (g.2.1, 256, .inl M_lower)), (a_M_pivots, .inl (g.2.1, 16, .inl M_pivots)), (a_M_weights, .inl (g.2.1, 16, .inl M_weights))]) (As := [.int 2]) (rest := []) ⟨hx, hb, hml, hown, hts⟩ (c_X5_no l g a_M a_M_a a_M_rowAt a_M_places a_M_rights a_M_weights a_M_pivots a_M_lower a_M_solution a_M_work a_M_isJoined a_M_stored 2 0 M_n M_hasFactors M_hasSolution M_levels hv) (cx_cwV 1 hts cw_m_X5_72 cw_i_X5_no cw_s_X5_no cw_n_X5 cw_c_X5_no rfl rfl (by decide +kernel) ⟨Nat.le_of_ble_eq_true rfl, Nat.le_of_ble_eq_true rfl⟩) hK hP hD hS hA 0 5 rfl rfl [0] [1, 2, 3, 4, 5] rfl rfl rfl rfl (by decide) rfl hl.1 rfl (Nat.le_of_ble_eq_true rfl) dX5_update_27 ⟨Nat.le_of_ble_eq_true rfl, Nat.le_of_ble_eq_true rfl⟩ (fun r_2 w_4 H locs hv hP hD hS => ?_)
      obtain ⟨u_3, rfl⟩ : ∃ z, z = w_4 := ⟨_, rfl⟩
      have hP : va_P g.1 vwCl [(a_M, .inr (5, [.int u_3, .int M_n, .ref a_M_a, .ref a_M_rowAt, .ref a_M_places, .ref a_M_rights, .ref a_M_weights, .int M_hasFactors, .ref a_M_pivots, .ref a_M_lower, .int M_hasSolution, .ref a_M_solution, .ref a_M_work, .ref a_M_isJoined, .int M_levels, .ref a_M_stored])), (a_M_rowAt, .inl (g.2.1, 16, .inl M_rowAt)), (a_M_a, .inl (g.2.1, 256, .inl M_a)), (a_M_lower, .inl (g.2.1, 256, .inl M_lower)), (a_M_pivots, .inl (g.2.1, 16, .inl M_pivots)), (a_M_weights, .inl (g.2.1, 16, .inl M_weights))] H := hP.sub [5, 0, 1, 2, 3, 4] rfl
      have hD : va_D A [(a_M, .inr (5, [.int u_3, .int M_n, .ref a_M_a, .ref a_M_rowAt, .ref a_M_places, .ref a_M_rights, .ref a_M_weights, .int M_hasFactors, .ref a_M_pivots, .ref a_M_lower, .int M_hasSolution, .ref a_M_solution, .ref a_M_work, .ref a_M_isJoined, .int M_levels, .ref a_M_stored])), (a_M_rowAt, .inl (g.2.1, 16, .inl M_rowAt)), (a_M_a, .inl (g.2.1, 256, .inl M_a)), (a_M_lower, .inl (g.2.1, 256, .inl M_lower)), (a_M_pivots, .inl (g.2.1, 16, .inl M_pivots)), (a_M_weights, .inl (g.2.1, 16, .inl M_weights))] := hD.sub [5, 0, 1, 2, 3, 4] (by decide) rfl
      exact cx_iret hx hb hr hlocks hAe hS (u_3, M_hasFactors, M_a, M_lower, M_pivots) hv hP hD dX5_update_30
  · replace hv := hv.1 hc
    refine lv_aload_n hx hb dX5_update_12 rfl (lv_at hl 0 rfl) ?_
    refine lv_iconst (v := 1) hx hb dX5_update_13 (by decide) ?_
    refine cx_iV (wr := [(a_M_rowAt, .inl (g.2.1, 16, .inl M_rowAt)), (a_M_a, .inl (g.2.1, 256, .inl M_a)), (a_M_lower, .inl (g.2.1, 256, .inl M_lower)), (a_M_pivots, .inl (g.2.1, 16, .inl M_pivots)), (a_M_weights, .inl (g.2.1, 16, .inl M_weights))]) (As := [.int 1]) (rest := []) ⟨hx, hb, hml, hown, hts⟩ (c_X5_no l g a_M a_M_a a_M_rowAt a_M_places a_M_rights a_M_weights a_M_pivots a_M_lower a_M_solution a_M_work a_M_isJoined a_M_stored 1 0 M_n M_hasFactors M_hasSolution M_levels hv) (cx_cwV 1 hts cw_m_X5_72 cw_i_X5_no cw_s_X5_no cw_n_X5 cw_c_X5_no rfl rfl (by decide +kernel) ⟨Nat.le_of_ble_eq_true rfl, Nat.le_of_ble_eq_true rfl⟩) hK hP hD hS hA 0 5 rfl rfl [0] [1, 2, 3, 4, 5] rfl rfl rfl rfl (by decide) rfl hl.1 rfl (Nat.le_of_ble_eq_true rfl) dX5_update_14 ⟨Nat.le_of_ble_eq_true rfl, Nat.le_of_ble_eq_true rfl⟩ (fun r_5 w_7 H locs hv hP hD hS => ?_)
    obtain ⟨u_6, rfl⟩ : ∃ z, z = w_7 := ⟨_, rfl⟩
    have hP : va_P g.1 vwCl [(a_M, .inr (5, [.int u_6, .int M_n, .ref a_M_a, .ref a_M_rowAt, .ref a_M_places, .ref a_M_rights, .ref a_M_weights, .int M_hasFactors, .ref a_M_pivots, .ref a_M_lower, .int M_hasSolution, .ref a_M_solution, .ref a_M_work, .ref a_M_isJoined, .int M_levels, .ref a_M_stored])), (a_M_rowAt, .inl (g.2.1, 16, .inl M_rowAt)), (a_M_a, .inl (g.2.1, 256, .inl M_a)), (a_M_lower, .inl (g.2.1, 256, .inl M_lower)), (a_M_pivots, .inl (g.2.1, 16, .inl M_pivots)), (a_M_weights, .inl (g.2.1, 16, .inl M_weights))] H := hP.sub [5, 0, 1, 2, 3, 4] rfl
    have hD : va_D A [(a_M, .inr (5, [.int u_6, .int M_n, .ref a_M_a, .ref a_M_rowAt, .ref a_M_places, .ref a_M_rights, .ref a_M_weights, .int M_hasFactors, .ref a_M_pivots, .ref a_M_lower, .int M_hasSolution, .ref a_M_solution, .ref a_M_work, .ref a_M_isJoined, .int M_levels, .ref a_M_stored])), (a_M_rowAt, .inl (g.2.1, 16, .inl M_rowAt)), (a_M_a, .inl (g.2.1, 256, .inl M_a)), (a_M_lower, .inl (g.2.1, 256, .inl M_lower)), (a_M_pivots, .inl (g.2.1, 16, .inl M_pivots)), (a_M_weights, .inl (g.2.1, 16, .inl M_weights))] := hD.sub [5, 0, 1, 2, 3, 4] (by decide) rfl
    exact cx_iret hx hb hr hlocks hAe hS (u_6, M_hasFactors, M_a, M_lower, M_pivots) hv hP hD dX5_update_17
def wp_X5_setRight (i_i : Int32) (i_v : Int32) (M_thrown : Int32) (M_n : Int32) (M_hasFactors : Int32) (M_hasSolution : Int32) (M_levels : Int32) (M_rights : (Nat → Int32)) (Q : Int32 → Int32 → (Nat → Int32) → Prop)   : Prop := wp_X5_isRow i_i 0 M_n M_hasFactors M_hasSolution M_levels (fun r_1 => (r_1 = 0 → (wp_X5_no 1 0 M_n M_hasFactors M_hasSolution M_levels (fun r_9 u_10 => Q r_9 u_10 M_rights))) ∧ (¬ r_1 = 0 → (((f_res i_v) = 0 → (wp_X5_no 2 0 M_n M_hasFactors M_hasSolution M_levels (fun r_6 u_7 => Q r_6 u_7 M_rights))) ∧ (¬ (f_res i_v) = 0 → (vp_in i_i 16 ∧ (∀ x3_4 : Int32, x3_4 = (M_rights (Int32.toNatClampNeg i_i)) → (vp_in i_i 16 ∧ (Q x3_4 0 (upd M_rights (Int32.toNatClampNeg i_i) i_v)))))))))
abbrev w0_X5_setRight (g : cx_G) (a_M a_M_a a_M_rowAt a_M_places a_M_rights a_M_weights a_M_pivots a_M_lower a_M_solution a_M_work a_M_isJoined a_M_stored : Nat) (M_thrown : Int32) (M_n : Int32) (M_hasFactors : Int32) (M_hasSolution : Int32) (M_levels : Int32) (M_rights : (Nat → Int32)) : va_W := [(a_M, .inr (5, [.int M_thrown, .int M_n, .ref a_M_a, .ref a_M_rowAt, .ref a_M_places, .ref a_M_rights, .ref a_M_weights, .int M_hasFactors, .ref a_M_pivots, .ref a_M_lower, .int M_hasSolution, .ref a_M_solution, .ref a_M_work, .ref a_M_isJoined, .int M_levels, .ref a_M_stored])), (a_M_rights, .inl (g.2.1, 16, .inl M_rights))]
abbrev w1_X5_setRight (g : cx_G) (a_M a_M_a a_M_rowAt a_M_places a_M_rights a_M_weights a_M_pivots a_M_lower a_M_solution a_M_work a_M_isJoined a_M_stored : Nat) (M_thrown : Int32) (M_n : Int32) (M_hasFactors : Int32) (M_hasSolution : Int32) (M_levels : Int32) (M_rights : (Nat → Int32)) (u : Int32 × (Nat → Int32)) : va_W := [(a_M, .inr (5, [.int u.1, .int M_n, .ref a_M_a, .ref a_M_rowAt, .ref a_M_places, .ref a_M_rights, .ref a_M_weights, .int M_hasFactors, .ref a_M_pivots, .ref a_M_lower, .int M_hasSolution, .ref a_M_solution, .ref a_M_work, .ref a_M_isJoined, .int M_levels, .ref a_M_stored])), (a_M_rights, .inl (g.2.1, 16, .inl u.2))]
set_option maxHeartbeats 4000000 in
set_option maxRecDepth 100000 in
theorem c_X5_setRight (l : Launch) (g : cx_G) (a_M a_M_a a_M_rowAt a_M_places a_M_rights a_M_weights a_M_pivots a_M_lower a_M_solution a_M_work a_M_isJoined a_M_stored : Nat) (i_i : Int32) (i_v : Int32) (M_thrown : Int32) (M_n : Int32) (M_hasFactors : Int32) (M_hasSolution : Int32) (M_levels : Int32) (M_rights : (Nat → Int32)) {Q : Int32 → Int32 → (Nat → Int32) → Prop} (hv : wp_X5_setRight i_i i_v M_thrown M_n M_hasFactors M_hasSolution M_levels M_rights Q) : cx_Mi l g yX5_setRight (Cond.code yX5_setRight cX5_setRight 4 (some .int) :: cx_T) ({ frames := 1, cells := 0, slots := 0, locals := 21 } : Room) [.ref a_M, .int i_i, .int i_v] (w0_X5_setRight g a_M a_M_a a_M_rowAt a_M_places a_M_rights a_M_weights a_M_pivots a_M_lower a_M_solution a_M_work a_M_isJoined a_M_stored M_thrown M_n M_hasFactors M_hasSolution M_levels M_rights) (fun (r : Int32) (u : Int32 × (Nat → Int32)) => Q r u.1 u.2) (w1_X5_setRight g a_M a_M_a a_M_rowAt a_M_places a_M_rights a_M_weights a_M_pivots a_M_lower a_M_solution a_M_work a_M_isJoined a_M_stored M_thrown M_n M_hasFactors M_hasSolution M_levels M_rights) 0 0 := by
  intro sz
  refine Met.ofW (cc := cX5_setRight) (maxL := 4) (ret := (some .int)) (by decide) rfl ?_
  intro p e s m args below meth c s₁ B hml hpre
  obtain ⟨rfl, hsz, hP, hK, hD0⟩ := hpre
  have hx := B.exec
  have hb := B.bytes
  have hr := B.returns
  have hts0 := atoms_spec (ws := (Cond.code yX5_setRight cX5_setRight 4 (some .int) :: cx_T)) B.pre
  have hts : ∀ w ∈ cx_T, w.before _ s = true := fun w h => hts0 w (List.mem_cons_of_mem _ h)
  have hown : s.vm.findClass RX5 = some m.cls := findClass_of_methodNamed B.named
  have hlocks := B.notSynchronized
  subst hsz
  have hD := hD0.self (sz := s.heap.size)
  obtain ⟨A, hAe⟩ : ∃ A : Nat → Prop, A = va_A (w0_X5_setRight g a_M a_M_a a_M_rowAt a_M_places a_M_rights a_M_weights a_M_pivots a_M_lower a_M_solution a_M_work a_M_isJoined a_M_stored M_thrown M_n M_hasFactors M_hasSolution M_levels M_rights) s.heap.size := ⟨_, rfl⟩
  rw [← hAe] at hD
  have hA : ∀ q : Nat, s.heap.size ≤ q → A q := fun q h => by rw [hAe]; exact Or.inr h
  have hS : va_S A s.heap s.heap [] := va_S.rf
  have hP : va_P g.1 vwCl [(a_M, .inr (5, [.int M_thrown, .int M_n, .ref a_M_a, .ref a_M_rowAt, .ref a_M_places, .ref a_M_rights, .ref a_M_weights, .int M_hasFactors, .ref a_M_pivots, .ref a_M_lower, .int M_hasSolution, .ref a_M_solution, .ref a_M_work, .ref a_M_isJoined, .int M_levels, .ref a_M_stored])), (a_M_rights, .inl (g.2.1, 16, .inl M_rights))] s.heap := hP
  have hD : va_D A [(a_M, .inr (5, [.int M_thrown, .int M_n, .ref a_M_a, .ref a_M_rowAt, .ref a_M_places, .ref a_M_rights, .ref a_M_weights, .int M_hasFactors, .ref a_M_pivots, .ref a_M_lower, .int M_hasSolution, .ref a_M_solution, .ref a_M_work, .ref a_M_isJoined, .int M_levels, .ref a_M_stored])), (a_M_rights, .inl (g.2.1, 16, .inl M_rights))] := hD
  have hl := lv_entry ([.ref a_M, .int i_i, .int i_v]) (n := 4) (Nat.le_of_ble_eq_true rfl)
  rw [lg_entry_eq]
  generalize (lg_sl ([.ref a_M, .int i_i, .int i_v]) ++ List.replicate (4 - (lg_sl ([.ref a_M, .int i_i, .int i_v])).length) Slot.unset).toArray = ls at hl ⊢
  have hl : lv_has ls 4 [(0, .ref a_M), (1, .int i_i), (2, .int i_v)] := hl
  unfold wp_X5_setRight at hv
  refine lv_aload_n hx hb dX5_setRight_0 rfl (lv_at hl 0 rfl) ?_
  refine lv_iconst (v := 0) hx hb dX5_setRight_1 (by decide) ?_
  refine va_put (D := g.1) (ci := 5) (v := .int 0) (ty := .int) (C := RX5) (T := TX5) (N := 16) hx hb hts cw_in_X5 tyX5 tyX5_ok nmX5 hown hK.1 hP hD hS 0 rfl rfl 0 (by decide) (hts _ cw_f_X5_51) (fun _ h9 => h9) rfl (by decide +kernel) rfl rfl (Nat.le_of_ble_eq_true rfl) dX5_setRight_2 (fun H locs hP hD hS => ?_)
  have hP : va_P g.1 vwCl [(a_M, .inr (5, [.int 0, .int M_n, .ref a_M_a, .ref a_M_rowAt, .ref a_M_places, .ref a_M_rights, .ref a_M_weights, .int M_hasFactors, .ref a_M_pivots, .ref a_M_lower, .int M_hasSolution, .ref a_M_solution, .ref a_M_work, .ref a_M_isJoined, .int M_levels, .ref a_M_stored])), (a_M_rights, .inl (g.2.1, 16, .inl M_rights))] H := hP
  have hD : va_D A [(a_M, .inr (5, [.int 0, .int M_n, .ref a_M_a, .ref a_M_rowAt, .ref a_M_places, .ref a_M_rights, .ref a_M_weights, .int M_hasFactors, .ref a_M_pivots, .ref a_M_lower, .int M_hasSolution, .ref a_M_solution, .ref a_M_work, .ref a_M_isJoined, .int M_levels, .ref a_M_stored])), (a_M_rights, .inl (g.2.1, 16, .inl M_rights))] := hD
  refine lv_aload_n hx hb dX5_setRight_5 rfl (lv_at hl 0 rfl) ?_
  refine lv_iload_n hx hb dX5_setRight_6 rfl (lv_at hl 1 rfl) ?_
  refine cx_iVr (As := [.int i_i]) (rest := []) ⟨hx, hb, hml, hown, hts⟩ (c_X5_isRow l g a_M a_M_a a_M_rowAt a_M_places a_M_rights a_M_weights a_M_pivots a_M_lower a_M_solution a_M_work a_M_isJoined a_M_stored i_i 0 M_n M_hasFactors M_hasSolution M_levels hv) (cx_cwV 1 hts cw_m_X5_76 cw_i_X5_isRow cw_s_X5_isRow cw_n_X5 cw_c_X5_isRow rfl rfl (by decide +kernel) ⟨Nat.le_of_ble_eq_true rfl, Nat.le_of_ble_eq_true rfl⟩) hK hP hD hS hA 0 5 rfl rfl [0] rfl rfl rfl hl.1 rfl (Nat.le_of_ble_eq_true rfl) dX5_setRight_7 ⟨Nat.le_of_ble_eq_true rfl, Nat.le_of_ble_eq_true rfl⟩ (fun r_1 H locs hv hP hS => ?_)
  refine lv_if_ne (tgt := 19) hx hb dX5_setRight_10 (by decide) (fun hc => ?_) (fun hc => ?_)
  · replace hv := hv.2 hc
    refine lv_iload_n hx hb dX5_setRight_19 rfl (lv_at hl 2 rfl) ?_
    refine cx_iSr (As := [.int i_v]) (rest := []) ⟨hx, hb, hml, hown, hts⟩ (cp_X5_isResidue l g i_v) (cx_cwS 1 hts cw_m_X5_80 cw_t_X5_isResidue cw_n_X5 cw_c_X5_isResidue rfl rfl (by decide +kernel) ⟨Nat.le_of_ble_eq_true rfl, Nat.le_of_ble_eq_true rfl⟩) hK hP hD hS hA [] rfl rfl rfl hl.1 rfl (Nat.le_of_ble_eq_true rfl) dX5_setRight_20 ⟨Nat.le_of_ble_eq_true rfl, Nat.le_of_ble_eq_true rfl⟩ (fun r_2 H locs hr9 hP hS => ?_)
    replace hr9 : r_2 = (f_res i_v) := hr9
    subst hr9
    refine lv_if_ne (tgt := 32) hx hb dX5_setRight_23 (by decide) (fun hc => ?_) (fun hc => ?_)
    · replace hv := hv.2 hc
      refine lv_aload_n hx hb dX5_setRight_32 rfl (lv_at hl 0 rfl) ?_
      refine va_get (D := g.1) (ci := 5) (v := .ref a_M_rights) (C := RX5) (T := TX5) (N := 16) hx hb hts cw_in_X5 hown hK.1 hP 0 rfl rfl 5 (by decide) (hts _ cw_f_X5_23) (fun _ h9 => h9) rfl dX5_setRight_33 ?_
      refine lv_iload_n hx hb dX5_setRight_36 rfl (lv_at hl 1 rfl) ?_
      obtain ⟨h_3, hv⟩ := hv
      refine va_iald (D := g.1) hx hb hK.1 hP 1 0 rfl rfl h_3 dX5_setRight_37 ?_
      refine lv_topi (fun x3_4 ex3_4 => ?_)
      replace hv := hv x3_4 ex3_4
      refine lv_istore_n (lv' := [(3, .int x3_4), (0, .ref a_M), (1, .int i_i), (2, .int i_v)]) hx hb dX5_setRight_38 rfl hl (by decide) rfl (fun ls hl => ?_)
      refine lv_aload_n hx hb dX5_setRight_39 rfl (lv_at hl 1 rfl) ?_
      refine va_get (D := g.1) (ci := 5) (v := .ref a_M_rights) (C := RX5) (T := TX5) (N := 16) hx hb hts cw_in_X5 hown hK.1 hP 0 rfl rfl 5 (by decide) (hts _ cw_f_X5_23) (fun _ h9 => h9) rfl dX5_setRight_40 ?_
      refine lv_iload_n hx hb dX5_setRight_43 rfl (lv_at hl 2 rfl) ?_
      refine lv_iload_n hx hb dX5_setRight_44 rfl (lv_at hl 3 rfl) ?_
      obtain ⟨h_5, hv⟩ := hv
      refine va_iast (D := g.1) hx hb hK.1 hP hD hS 1 0 rfl rfl h_5 dX5_setRight_45 (fun H locs hP hD hS => ?_)
      have hP : va_P g.1 vwCl [(a_M, .inr (5, [.int 0, .int M_n, .ref a_M_a, .ref a_M_rowAt, .ref a_M_places, .ref a_M_rights, .ref a_M_weights, .int M_hasFactors, .ref a_M_pivots, .ref a_M_lower, .int M_hasSolution, .ref a_M_solution, .ref a_M_work, .ref a_M_isJoined, .int M_levels, .ref a_M_stored])), (a_M_rights, .inl (g.2.1, 16, .inl (upd M_rights (Int32.toNatClampNeg i_i) i_v)))] H := hP
      have hD : va_D A [(a_M, .inr (5, [.int 0, .int M_n, .ref a_M_a, .ref a_M_rowAt, .ref a_M_places, .ref a_M_rights, .ref a_M_weights, .int M_hasFactors, .ref a_M_pivots, .ref a_M_lower, .int M_hasSolution, .ref a_M_solution, .ref a_M_work, .ref a_M_isJoined, .int M_levels, .ref a_M_stored])), (a_M_rights, .inl (g.2.1, 16, .inl (upd M_rights (Int32.toNatClampNeg i_i) i_v)))] := hD
      refine lv_iload_n hx hb dX5_setRight_46 rfl (lv_at hl 0 rfl) ?_
      exact cx_iret hx hb hr hlocks hAe hS (0, (upd M_rights (Int32.toNatClampNeg i_i) i_v)) hv hP hD dX5_setRight_47
    · replace hv := hv.1 hc
      refine lv_aload_n hx hb dX5_setRight_26 rfl (lv_at hl 0 rfl) ?_
      refine lv_iconst (v := 2) hx hb dX5_setRight_27 (by decide) ?_
      refine cx_iV (wr := [(a_M_rights, .inl (g.2.1, 16, .inl M_rights))]) (As := [.int 2]) (rest := []) ⟨hx, hb, hml, hown, hts⟩ (c_X5_no l g a_M a_M_a a_M_rowAt a_M_places a_M_rights a_M_weights a_M_pivots a_M_lower a_M_solution a_M_work a_M_isJoined a_M_stored 2 0 M_n M_hasFactors M_hasSolution M_levels hv) (cx_cwV 1 hts cw_m_X5_72 cw_i_X5_no cw_s_X5_no cw_n_X5 cw_c_X5_no rfl rfl (by decide +kernel) ⟨Nat.le_of_ble_eq_true rfl, Nat.le_of_ble_eq_true rfl⟩) hK hP hD hS hA 0 5 rfl rfl [0] [1] rfl rfl rfl rfl (by decide) rfl hl.1 rfl (Nat.le_of_ble_eq_true rfl) dX5_setRight_28 ⟨Nat.le_of_ble_eq_true rfl, Nat.le_of_ble_eq_true rfl⟩ (fun r_6 w_8 H locs hv hP hD hS => ?_)
      obtain ⟨u_7, rfl⟩ : ∃ z, z = w_8 := ⟨_, rfl⟩
      have hP : va_P g.1 vwCl [(a_M, .inr (5, [.int u_7, .int M_n, .ref a_M_a, .ref a_M_rowAt, .ref a_M_places, .ref a_M_rights, .ref a_M_weights, .int M_hasFactors, .ref a_M_pivots, .ref a_M_lower, .int M_hasSolution, .ref a_M_solution, .ref a_M_work, .ref a_M_isJoined, .int M_levels, .ref a_M_stored])), (a_M_rights, .inl (g.2.1, 16, .inl M_rights))] H := hP.sub [1, 0] rfl
      have hD : va_D A [(a_M, .inr (5, [.int u_7, .int M_n, .ref a_M_a, .ref a_M_rowAt, .ref a_M_places, .ref a_M_rights, .ref a_M_weights, .int M_hasFactors, .ref a_M_pivots, .ref a_M_lower, .int M_hasSolution, .ref a_M_solution, .ref a_M_work, .ref a_M_isJoined, .int M_levels, .ref a_M_stored])), (a_M_rights, .inl (g.2.1, 16, .inl M_rights))] := hD.sub [1, 0] (by decide) rfl
      exact cx_iret hx hb hr hlocks hAe hS (u_7, M_rights) hv hP hD dX5_setRight_31
  · replace hv := hv.1 hc
    refine lv_aload_n hx hb dX5_setRight_13 rfl (lv_at hl 0 rfl) ?_
    refine lv_iconst (v := 1) hx hb dX5_setRight_14 (by decide) ?_
    refine cx_iV (wr := [(a_M_rights, .inl (g.2.1, 16, .inl M_rights))]) (As := [.int 1]) (rest := []) ⟨hx, hb, hml, hown, hts⟩ (c_X5_no l g a_M a_M_a a_M_rowAt a_M_places a_M_rights a_M_weights a_M_pivots a_M_lower a_M_solution a_M_work a_M_isJoined a_M_stored 1 0 M_n M_hasFactors M_hasSolution M_levels hv) (cx_cwV 1 hts cw_m_X5_72 cw_i_X5_no cw_s_X5_no cw_n_X5 cw_c_X5_no rfl rfl (by decide +kernel) ⟨Nat.le_of_ble_eq_true rfl, Nat.le_of_ble_eq_true rfl⟩) hK hP hD hS hA 0 5 rfl rfl [0] [1] rfl rfl rfl rfl (by decide) rfl hl.1 rfl (Nat.le_of_ble_eq_true rfl) dX5_setRight_15 ⟨Nat.le_of_ble_eq_true rfl, Nat.le_of_ble_eq_true rfl⟩ (fun r_9 w_11 H locs hv hP hD hS => ?_)
    obtain ⟨u_10, rfl⟩ : ∃ z, z = w_11 := ⟨_, rfl⟩
    have hP : va_P g.1 vwCl [(a_M, .inr (5, [.int u_10, .int M_n, .ref a_M_a, .ref a_M_rowAt, .ref a_M_places, .ref a_M_rights, .ref a_M_weights, .int M_hasFactors, .ref a_M_pivots, .ref a_M_lower, .int M_hasSolution, .ref a_M_solution, .ref a_M_work, .ref a_M_isJoined, .int M_levels, .ref a_M_stored])), (a_M_rights, .inl (g.2.1, 16, .inl M_rights))] H := hP.sub [1, 0] rfl
    have hD : va_D A [(a_M, .inr (5, [.int u_10, .int M_n, .ref a_M_a, .ref a_M_rowAt, .ref a_M_places, .ref a_M_rights, .ref a_M_weights, .int M_hasFactors, .ref a_M_pivots, .ref a_M_lower, .int M_hasSolution, .ref a_M_solution, .ref a_M_work, .ref a_M_isJoined, .int M_levels, .ref a_M_stored])), (a_M_rights, .inl (g.2.1, 16, .inl M_rights))] := hD.sub [1, 0] (by decide) rfl
    exact cx_iret hx hb hr hlocks hAe hS (u_10, M_rights) hv hP hD dX5_setRight_18
def vc_X5_solve_0 (M_thrown : Int32) (M_n : Int32) (M_hasFactors : Int32) (M_hasSolution : Int32) (M_levels : Int32) (M_a : (Nat → Int32)) (M_work : (Nat → Int32)) (M_rights : (Nat → Int32)) (M_solution : (Nat → Int32)) (Q : Int32 → Int32 → Int32 → (Nat → Int32) → (Nat → Int32) → Prop) (G1 : Int32 → Int32 → Int32 → (Nat → Int32) → (Nat → Int32) → Prop) (G2 : Int32 → Int32 → Int32 → Int32 → (Nat → Int32) → (Nat → Int32) → Prop)  : Prop := (M_hasFactors = 0 → (wp_X5_no 1 0 M_n M_hasFactors M_hasSolution M_levels (fun r_4 u_5 => Q r_4 u_5 M_hasSolution M_work M_solution))) ∧ (¬ M_hasFactors = 0 → (wp_X5_copy 0 M_n M_hasFactors M_hasSolution M_levels M_a M_work (fun u_2 => G1 0 0 M_hasSolution u_2 M_solution)))
def vc_X5_solve_1 (M_thrown : Int32) (M_n : Int32) (M_hasFactors : Int32) (M_hasSolution : Int32) (M_levels : Int32) (M_a : (Nat → Int32)) (M_work : (Nat → Int32)) (M_rights : (Nat → Int32)) (M_solution : (Nat → Int32)) (Q : Int32 → Int32 → Int32 → (Nat → Int32) → (Nat → Int32) → Prop) (G1 : Int32 → Int32 → Int32 → (Nat → Int32) → (Nat → Int32) → Prop) (G2 : Int32 → Int32 → Int32 → Int32 → (Nat → Int32) → (Nat → Int32) → Prop) (x1 : Int32) (v_M_thrown : Int32) (v_M_hasSolution : Int32) (v_M_work : (Nat → Int32)) (v_M_solution : (Nat → Int32)) : Prop := (M_n ≤ x1 → (wp_X5_eliminate v_M_thrown M_n M_hasFactors v_M_hasSolution M_levels v_M_work (fun r_1 u_2 => (r_1 = 0 → (Q (-1) v_M_thrown v_M_hasSolution u_2 v_M_solution)) ∧ (¬ r_1 = 0 → (G2 0 0 v_M_thrown v_M_hasSolution u_2 v_M_solution))))) ∧ (¬ M_n ≤ x1 → (vp_in x1 16 ∧ (vp_in (f_at17 x1 16) 272 ∧ (∀ x1_7 : Int32, x1_7 = x1 + 1 → (G1 x1_7 v_M_thrown v_M_hasSolution (upd v_M_work (Int32.toNatClampNeg (f_at17 x1 16)) (M_rights (Int32.toNatClampNeg x1))) v_M_solution)))))
def vc_X5_solve_2 (M_thrown : Int32) (M_n : Int32) (M_hasFactors : Int32) (M_hasSolution : Int32) (M_levels : Int32) (M_a : (Nat → Int32)) (M_work : (Nat → Int32)) (M_rights : (Nat → Int32)) (M_solution : (Nat → Int32)) (Q : Int32 → Int32 → Int32 → (Nat → Int32) → (Nat → Int32) → Prop) (G1 : Int32 → Int32 → Int32 → (Nat → Int32) → (Nat → Int32) → Prop) (G2 : Int32 → Int32 → Int32 → Int32 → (Nat → Int32) → (Nat → Int32) → Prop) (x2 : Int32) (x1 : Int32) (v_M_thrown : Int32) (v_M_hasSolution : Int32) (v_M_work : (Nat → Int32)) (v_M_solution : (Nat → Int32)) : Prop := (M_n ≤ x2 → (Q x1 v_M_thrown 1 v_M_work v_M_solution)) ∧ (¬ M_n ≤ x2 → (vp_in (f_at17 x2 16) 272 ∧ (vp_in x2 16 ∧ (vp_in x2 16 ∧ ((((upd v_M_solution (Int32.toNatClampNeg x2) (v_M_work (Int32.toNatClampNeg (f_at17 x2 16)))) (Int32.toNatClampNeg x2)) = 0 → (∀ x1_7 : Int32, x1_7 = (x1 + 0) → (∀ x2_8 : Int32, x2_8 = x2 + 1 → (G2 x2_8 x1_7 v_M_thrown v_M_hasSolution v_M_work (upd v_M_solution (Int32.toNatClampNeg x2) (v_M_work (Int32.toNatClampNeg (f_at17 x2 16)))))))) ∧ (¬ ((upd v_M_solution (Int32.toNatClampNeg x2) (v_M_work (Int32.toNatClampNeg (f_at17 x2 16)))) (Int32.toNatClampNeg x2)) = 0 → (∀ x1_5 : Int32, x1_5 = (x1 + 1) → (∀ x2_6 : Int32, x2_6 = x2 + 1 → (G2 x2_6 x1_5 v_M_thrown v_M_hasSolution v_M_work (upd v_M_solution (Int32.toNatClampNeg x2) (v_M_work (Int32.toNatClampNeg (f_at17 x2 16)))))))))))))
def wp_X5_solve (M_thrown : Int32) (M_n : Int32) (M_hasFactors : Int32) (M_hasSolution : Int32) (M_levels : Int32) (M_a : (Nat → Int32)) (M_work : (Nat → Int32)) (M_rights : (Nat → Int32)) (M_solution : (Nat → Int32)) (Q : Int32 → Int32 → Int32 → (Nat → Int32) → (Nat → Int32) → Prop) : Prop := ∀ (G1 : Int32 → Int32 → Int32 → (Nat → Int32) → (Nat → Int32) → Prop) (G2 : Int32 → Int32 → Int32 → Int32 → (Nat → Int32) → (Nat → Int32) → Prop), (∀ (x1 : Int32) (v_M_thrown : Int32) (v_M_hasSolution : Int32) (v_M_work : (Nat → Int32)) (v_M_solution : (Nat → Int32)), vc_X5_solve_1 M_thrown M_n M_hasFactors M_hasSolution M_levels M_a M_work M_rights M_solution Q G1 G2 x1 v_M_thrown v_M_hasSolution v_M_work v_M_solution → G1 x1 v_M_thrown v_M_hasSolution v_M_work v_M_solution) → (∀ (x2 : Int32) (x1 : Int32) (v_M_thrown : Int32) (v_M_hasSolution : Int32) (v_M_work : (Nat → Int32)) (v_M_solution : (Nat → Int32)), vc_X5_solve_2 M_thrown M_n M_hasFactors M_hasSolution M_levels M_a M_work M_rights M_solution Q G1 G2 x2 x1 v_M_thrown v_M_hasSolution v_M_work v_M_solution → G2 x2 x1 v_M_thrown v_M_hasSolution v_M_work v_M_solution) → vc_X5_solve_0 M_thrown M_n M_hasFactors M_hasSolution M_levels M_a M_work M_rights M_solution Q G1 G2
abbrev w0_X5_solve (g : cx_G) (a_M a_M_a a_M_rowAt a_M_places a_M_rights a_M_weights a_M_pivots a_M_lower a_M_solution a_M_work a_M_isJoined a_M_stored : Nat) (M_thrown : Int32) (M_n : Int32) (M_hasFactors : Int32) (M_hasSolution : Int32) (M_levels : Int32) (M_a : (Nat → Int32)) (M_work : (Nat → Int32)) (M_rights : (Nat → Int32)) (M_solution : (Nat → Int32)) : va_W := [(a_M, .inr (5, [.int M_thrown, .int M_n, .ref a_M_a, .ref a_M_rowAt, .ref a_M_places, .ref a_M_rights, .ref a_M_weights, .int M_hasFactors, .ref a_M_pivots, .ref a_M_lower, .int M_hasSolution, .ref a_M_solution, .ref a_M_work, .ref a_M_isJoined, .int M_levels, .ref a_M_stored])), (a_M_a, .inl (g.2.1, 256, .inl M_a)), (a_M_work, .inl (g.2.1, 272, .inl M_work)), (a_M_rights, .inl (g.2.1, 16, .inl M_rights)), (a_M_solution, .inl (g.2.1, 16, .inl M_solution))]
abbrev w1_X5_solve (g : cx_G) (a_M a_M_a a_M_rowAt a_M_places a_M_rights a_M_weights a_M_pivots a_M_lower a_M_solution a_M_work a_M_isJoined a_M_stored : Nat) (M_thrown : Int32) (M_n : Int32) (M_hasFactors : Int32) (M_hasSolution : Int32) (M_levels : Int32) (M_a : (Nat → Int32)) (M_work : (Nat → Int32)) (M_rights : (Nat → Int32)) (M_solution : (Nat → Int32)) (u : Int32 × Int32 × (Nat → Int32) × (Nat → Int32)) : va_W := [(a_M, .inr (5, [.int u.1, .int M_n, .ref a_M_a, .ref a_M_rowAt, .ref a_M_places, .ref a_M_rights, .ref a_M_weights, .int M_hasFactors, .ref a_M_pivots, .ref a_M_lower, .int u.2.1, .ref a_M_solution, .ref a_M_work, .ref a_M_isJoined, .int M_levels, .ref a_M_stored])), (a_M_a, .inl (g.2.1, 256, .inl M_a)), (a_M_work, .inl (g.2.1, 272, .inl u.2.2.1)), (a_M_rights, .inl (g.2.1, 16, .inl M_rights)), (a_M_solution, .inl (g.2.1, 16, .inl u.2.2.2))]
set_option maxHeartbeats 4000000 in
set_option maxRecDepth 100000 in
theorem c_X5_solve (l : Launch) (g : cx_G) (a_M a_M_a a_M_rowAt a_M_places a_M_rights a_M_weights a_M_pivots a_M_lower a_M_solution a_M_work a_M_isJoined a_M_stored : Nat) (M_thrown : Int32) (M_n : Int32) (M_hasFactors : Int32) (M_hasSolution : Int32) (M_levels : Int32) (M_a : (Nat → Int32)) (M_work : (Nat → Int32)) (M_rights : (Nat → Int32)) (M_solution : (Nat → Int32)) {Q : Int32 → Int32 → Int32 → (Nat → Int32) → (Nat → Int32) → Prop} (hv : wp_X5_solve M_thrown M_n M_hasFactors M_hasSolution M_levels M_a M_work M_rights M_solution Q) : cx_Mi l g yX5_solve (Cond.code yX5_solve cX5_solve 3 (some .int) :: cx_T) ({ frames := 3, cells := 0, slots := 0, locals := 71 } : Room) [.ref a_M] (w0_X5_solve g a_M a_M_a a_M_rowAt a_M_places a_M_rights a_M_weights a_M_pivots a_M_lower a_M_solution a_M_work a_M_isJoined a_M_stored M_thrown M_n M_hasFactors M_hasSolution M_levels M_a M_work M_rights M_solution) (fun (r : Int32) (u : Int32 × Int32 × (Nat → Int32) × (Nat → Int32)) => Q r u.1 u.2.1 u.2.2.1 u.2.2.2) (w1_X5_solve g a_M a_M_a a_M_rowAt a_M_places a_M_rights a_M_weights a_M_pivots a_M_lower a_M_solution a_M_work a_M_isJoined a_M_stored M_thrown M_n M_hasFactors M_hasSolution M_levels M_a M_work M_rights M_solution) 0 0 := by
  intro sz
  refine Met.ofW (cc := cX5_solve) (maxL := 3) (ret := (some .int)) (by decide) rfl ?_
  intro p e s m args below meth c s₁ B hml hpre
  obtain ⟨rfl, hsz, hP, hK, hD0⟩ := hpre
  have hx := B.exec
  have hb := B.bytes
  have hr := B.returns
  have hts0 := atoms_spec (ws := (Cond.code yX5_solve cX5_solve 3 (some .int) :: cx_T)) B.pre
  have hts : ∀ w ∈ cx_T, w.before _ s = true := fun w h => hts0 w (List.mem_cons_of_mem _ h)
  have hown : s.vm.findClass RX5 = some m.cls := findClass_of_methodNamed B.named
  have hlocks := B.notSynchronized
  subst hsz
  have hD := hD0.self (sz := s.heap.size)
  obtain ⟨A, hAe⟩ : ∃ A : Nat → Prop, A = va_A (w0_X5_solve g a_M a_M_a a_M_rowAt a_M_places a_M_rights a_M_weights a_M_pivots a_M_lower a_M_solution a_M_work a_M_isJoined a_M_stored M_thrown M_n M_hasFactors M_hasSolution M_levels M_a M_work M_rights M_solution) s.heap.size := ⟨_, rfl⟩
  rw [← hAe] at hD
  have hA : ∀ q : Nat, s.heap.size ≤ q → A q := fun q h => by rw [hAe]; exact Or.inr h
  have hS : va_S A s.heap s.heap [] := va_S.rf
  have hP : va_P g.1 vwCl [(a_M, .inr (5, [.int M_thrown, .int M_n, .ref a_M_a, .ref a_M_rowAt, .ref a_M_places, .ref a_M_rights, .ref a_M_weights, .int M_hasFactors, .ref a_M_pivots, .ref a_M_lower, .int M_hasSolution, .ref a_M_solution, .ref a_M_work, .ref a_M_isJoined, .int M_levels, .ref a_M_stored])), (a_M_a, .inl (g.2.1, 256, .inl M_a)), (a_M_work, .inl (g.2.1, 272, .inl M_work)), (a_M_rights, .inl (g.2.1, 16, .inl M_rights)), (a_M_solution, .inl (g.2.1, 16, .inl M_solution))] s.heap := hP
  have hD : va_D A [(a_M, .inr (5, [.int M_thrown, .int M_n, .ref a_M_a, .ref a_M_rowAt, .ref a_M_places, .ref a_M_rights, .ref a_M_weights, .int M_hasFactors, .ref a_M_pivots, .ref a_M_lower, .int M_hasSolution, .ref a_M_solution, .ref a_M_work, .ref a_M_isJoined, .int M_levels, .ref a_M_stored])), (a_M_a, .inl (g.2.1, 256, .inl M_a)), (a_M_work, .inl (g.2.1, 272, .inl M_work)), (a_M_rights, .inl (g.2.1, 16, .inl M_rights)), (a_M_solution, .inl (g.2.1, 16, .inl M_solution))] := hD
  have hl := lv_entry ([.ref a_M]) (n := 3) (Nat.le_of_ble_eq_true rfl)
  rw [lg_entry_eq]
  generalize (lg_sl ([.ref a_M]) ++ List.replicate (3 - (lg_sl ([.ref a_M])).length) Slot.unset).toArray = ls at hl ⊢
  have hl : lv_has ls 3 [(0, .ref a_M)] := hl
  obtain ⟨G1, hG1⟩ : ∃ G : Int32 → Int32 → Int32 → (Nat → Int32) → (Nat → Int32) → Prop, G = (fun (x1 : Int32) (v_M_thrown : Int32) (v_M_hasSolution : Int32) (v_M_work : (Nat → Int32)) (v_M_solution : (Nat → Int32)) => ∀ (H : Heap) (locs : List Loc) (ls : Array Slot), va_P g.1 vwCl [(a_M, .inr (5, [.int v_M_thrown, .int M_n, .ref a_M_a, .ref a_M_rowAt, .ref a_M_places, .ref a_M_rights, .ref a_M_weights, .int M_hasFactors, .ref a_M_pivots, .ref a_M_lower, .int v_M_hasSolution, .ref a_M_solution, .ref a_M_work, .ref a_M_isJoined, .int M_levels, .ref a_M_stored])), (a_M_a, .inl (g.2.1, 256, .inl M_a)), (a_M_work, .inl (g.2.1, 272, .inl v_M_work)), (a_M_rights, .inl (g.2.1, 16, .inl M_rights)), (a_M_solution, .inl (g.2.1, 16, .inl v_M_solution))] H → va_D A [(a_M, .inr (5, [.int v_M_thrown, .int M_n, .ref a_M_a, .ref a_M_rowAt, .ref a_M_places, .ref a_M_rights, .ref a_M_weights, .int M_hasFactors, .ref a_M_pivots, .ref a_M_lower, .int v_M_hasSolution, .ref a_M_solution, .ref a_M_work, .ref a_M_isJoined, .int M_levels, .ref a_M_stored])), (a_M_a, .inl (g.2.1, 256, .inl M_a)), (a_M_work, .inl (g.2.1, 272, .inl v_M_work)), (a_M_rights, .inl (g.2.1, 16, .inl M_rights)), (a_M_solution, .inl (g.2.1, 16, .inl v_M_solution))] → va_S A s.heap H locs → lv_has ls 3 [(1, .int x1), (0, .ref a_M)] → W p l e (headSpec (Cond.code yX5_solve cX5_solve 3 (some .int) :: cx_T) ({ frames := 3, cells := 0, slots := 0, locals := 71 } : Room)).room s m ([.ref a_M] : List Value).toArray below meth c H locs 0 0 (MQ below (va_Qi (fun (r : Int32) (u : Int32 × Int32 × (Nat → Int32) × (Nat → Int32)) => Q r u.1 u.2.1 u.2.2.1 u.2.2.2) (cx_B g (w0_X5_solve g a_M a_M_a a_M_rowAt a_M_places a_M_rights a_M_weights a_M_pivots a_M_lower a_M_solution a_M_work a_M_isJoined a_M_stored M_thrown M_n M_hasFactors M_hasSolution M_levels M_a M_work M_rights M_solution) s.heap.size (w1_X5_solve g a_M a_M_a a_M_rowAt a_M_places a_M_rights a_M_weights a_M_pivots a_M_lower a_M_solution a_M_work a_M_isJoined a_M_stored M_thrown M_n M_hasFactors M_hasSolution M_levels M_a M_work M_rights M_solution)) (va_A (w0_X5_solve g a_M a_M_a a_M_rowAt a_M_places a_M_rights a_M_weights a_M_pivots a_M_lower a_M_solution a_M_work a_M_isJoined a_M_stored M_thrown M_n M_hasFactors M_hasSolution M_levels M_a M_work M_rights M_solution) s.heap.size)) ([.ref a_M] : List Value).toArray s 0 0 (va_A (w0_X5_solve g a_M a_M_a a_M_rowAt a_M_places a_M_rights a_M_weights a_M_pivots a_M_lower a_M_solution a_M_work a_M_isJoined a_M_stored M_thrown M_n M_hasFactors M_hasSolution M_levels M_a M_work M_rights M_solution) s.heap.size)) (F0 m 24 ls [])) := ⟨_, rfl⟩
  obtain ⟨G2, hG2⟩ : ∃ G : Int32 → Int32 → Int32 → Int32 → (Nat → Int32) → (Nat → Int32) → Prop, G = (fun (x2 : Int32) (x1 : Int32) (v_M_thrown : Int32) (v_M_hasSolution : Int32) (v_M_work : (Nat → Int32)) (v_M_solution : (Nat → Int32)) => ∀ (H : Heap) (locs : List Loc) (ls : Array Slot), va_P g.1 vwCl [(a_M, .inr (5, [.int v_M_thrown, .int M_n, .ref a_M_a, .ref a_M_rowAt, .ref a_M_places, .ref a_M_rights, .ref a_M_weights, .int M_hasFactors, .ref a_M_pivots, .ref a_M_lower, .int v_M_hasSolution, .ref a_M_solution, .ref a_M_work, .ref a_M_isJoined, .int M_levels, .ref a_M_stored])), (a_M_a, .inl (g.2.1, 256, .inl M_a)), (a_M_work, .inl (g.2.1, 272, .inl v_M_work)), (a_M_rights, .inl (g.2.1, 16, .inl M_rights)), (a_M_solution, .inl (g.2.1, 16, .inl v_M_solution))] H → va_D A [(a_M, .inr (5, [.int v_M_thrown, .int M_n, .ref a_M_a, .ref a_M_rowAt, .ref a_M_places, .ref a_M_rights, .ref a_M_weights, .int M_hasFactors, .ref a_M_pivots, .ref a_M_lower, .int v_M_hasSolution, .ref a_M_solution, .ref a_M_work, .ref a_M_isJoined, .int M_levels, .ref a_M_stored])), (a_M_a, .inl (g.2.1, 256, .inl M_a)), (a_M_work, .inl (g.2.1, 272, .inl v_M_work)), (a_M_rights, .inl (g.2.1, 16, .inl M_rights)), (a_M_solution, .inl (g.2.1, 16, .inl v_M_solution))] → va_S A s.heap H locs → lv_has ls 3 [(2, .int x2), (1, .int x1), (0, .ref a_M)] → W p l e (headSpec (Cond.code yX5_solve cX5_solve 3 (some .int) :: cx_T) ({ frames := 3, cells := 0, slots := 0, locals := 71 } : Room)).room s m ([.ref a_M] : List Value).toArray below meth c H locs 0 0 (MQ below (va_Qi (fun (r : Int32) (u : Int32 × Int32 × (Nat → Int32) × (Nat → Int32)) => Q r u.1 u.2.1 u.2.2.1 u.2.2.2) (cx_B g (w0_X5_solve g a_M a_M_a a_M_rowAt a_M_places a_M_rights a_M_weights a_M_pivots a_M_lower a_M_solution a_M_work a_M_isJoined a_M_stored M_thrown M_n M_hasFactors M_hasSolution M_levels M_a M_work M_rights M_solution) s.heap.size (w1_X5_solve g a_M a_M_a a_M_rowAt a_M_places a_M_rights a_M_weights a_M_pivots a_M_lower a_M_solution a_M_work a_M_isJoined a_M_stored M_thrown M_n M_hasFactors M_hasSolution M_levels M_a M_work M_rights M_solution)) (va_A (w0_X5_solve g a_M a_M_a a_M_rowAt a_M_places a_M_rights a_M_weights a_M_pivots a_M_lower a_M_solution a_M_work a_M_isJoined a_M_stored M_thrown M_n M_hasFactors M_hasSolution M_levels M_a M_work M_rights M_solution) s.heap.size)) ([.ref a_M] : List Value).toArray s 0 0 (va_A (w0_X5_solve g a_M a_M_a a_M_rowAt a_M_places a_M_rights a_M_weights a_M_pivots a_M_lower a_M_solution a_M_work a_M_isJoined a_M_stored M_thrown M_n M_hasFactors M_hasSolution M_levels M_a M_work M_rights M_solution) s.heap.size)) (F0 m 68 ls [])) := ⟨_, rfl⟩
  have hs1 : ∀ (x1 : Int32) (v_M_thrown : Int32) (v_M_hasSolution : Int32) (v_M_work : (Nat → Int32)) (v_M_solution : (Nat → Int32)), vc_X5_solve_1 M_thrown M_n M_hasFactors M_hasSolution M_levels M_a M_work M_rights M_solution Q G1 G2 x1 v_M_thrown v_M_hasSolution v_M_work v_M_solution → G1 x1 v_M_thrown v_M_hasSolution v_M_work v_M_solution := by
    rw [hG1, hG2]
    intro x1 v_M_thrown v_M_hasSolution v_M_work v_M_solution hv H locs ls hP hD hS hl
    unfold vc_X5_solve_1 at hv
    refine lv_iload_n hx hb dX5_solve_24 rfl (lv_at hl 0 rfl) ?_
    refine lv_aload_n hx hb dX5_solve_25 rfl (lv_at hl 1 rfl) ?_
    refine va_get (D := g.1) (ci := 5) (v := .int M_n) (C := RX5) (T := TX5) (N := 16) hx hb hts cw_in_X5 hown hK.1 hP 0 rfl rfl 1 (by decide) (hts _ cw_f_X5_9) (fun _ h9 => h9) rfl dX5_solve_26 ?_
    refine lv_icmp_ge (tgt := 55) hx hb dX5_solve_29 (by decide) (fun hc => ?_) (fun hc => ?_)
    · replace hv := hv.1 hc
      refine lv_aload_n hx hb dX5_solve_55 rfl (lv_at hl 1 rfl) ?_
      refine cx_iV (wr := [(a_M_a, .inl (g.2.1, 256, .inl M_a)), (a_M_rights, .inl (g.2.1, 16, .inl M_rights)), (a_M_solution, .inl (g.2.1, 16, .inl v_M_solution))]) (As := []) (rest := []) ⟨hx, hb, hml, hown, hts⟩ (c_X5_eliminate l g a_M a_M_a a_M_rowAt a_M_places a_M_rights a_M_weights a_M_pivots a_M_lower a_M_solution a_M_work a_M_isJoined a_M_stored v_M_thrown M_n M_hasFactors v_M_hasSolution M_levels v_M_work hv) (cx_cwV 0 hts cw_m_X5_103 cw_i_X5_eliminate cw_s_X5_eliminate cw_n_X5 cw_c_X5_eliminate rfl rfl (by decide +kernel) ⟨Nat.le_of_ble_eq_true rfl, Nat.le_of_ble_eq_true rfl⟩) hK hP hD hS hA 0 5 rfl rfl [0, 2] [1, 3, 4] rfl rfl rfl rfl (by decide) rfl hl.1 rfl (Nat.le_of_ble_eq_true rfl) dX5_solve_56 ⟨Nat.le_of_ble_eq_true rfl, Nat.le_of_ble_eq_true rfl⟩ (fun r_1 w_3 H locs hv hP hD hS => ?_)
      obtain ⟨u_2, rfl⟩ : ∃ z, z = w_3 := ⟨_, rfl⟩
      have hP : va_P g.1 vwCl [(a_M, .inr (5, [.int v_M_thrown, .int M_n, .ref a_M_a, .ref a_M_rowAt, .ref a_M_places, .ref a_M_rights, .ref a_M_weights, .int M_hasFactors, .ref a_M_pivots, .ref a_M_lower, .int v_M_hasSolution, .ref a_M_solution, .ref a_M_work, .ref a_M_isJoined, .int M_levels, .ref a_M_stored])), (a_M_a, .inl (g.2.1, 256, .inl M_a)), (a_M_work, .inl (g.2.1, 272, .inl u_2)), (a_M_rights, .inl (g.2.1, 16, .inl M_rights)), (a_M_solution, .inl (g.2.1, 16, .inl v_M_solution))] H := hP.sub [3, 0, 4, 1, 2] rfl
      have hD : va_D A [(a_M, .inr (5, [.int v_M_thrown, .int M_n, .ref a_M_a, .ref a_M_rowAt, .ref a_M_places, .ref a_M_rights, .ref a_M_weights, .int M_hasFactors, .ref a_M_pivots, .ref a_M_lower, .int v_M_hasSolution, .ref a_M_solution, .ref a_M_work, .ref a_M_isJoined, .int M_levels, .ref a_M_stored])), (a_M_a, .inl (g.2.1, 256, .inl M_a)), (a_M_work, .inl (g.2.1, 272, .inl u_2)), (a_M_rights, .inl (g.2.1, 16, .inl M_rights)), (a_M_solution, .inl (g.2.1, 16, .inl v_M_solution))] := hD.sub [3, 0, 4, 1, 2] (by decide) rfl
      refine lv_if_ne (tgt := 64) hx hb dX5_solve_59 (by decide) (fun hc => ?_) (fun hc => ?_)
      · replace hv := hv.2 hc
        refine lv_iconst (v := 0) hx hb dX5_solve_64 (by decide) ?_
        refine lv_istore_n (lv' := [(1, .int 0), (0, .ref a_M)]) hx hb dX5_solve_65 rfl hl (by decide) rfl (fun ls hl => ?_)
        refine lv_iconst (v := 0) hx hb dX5_solve_66 (by decide) ?_
        refine lv_istore_n (lv' := [(2, .int 0), (1, .int 0), (0, .ref a_M)]) hx hb dX5_solve_67 rfl hl (by decide) rfl (fun ls hl => ?_)
        exact hv _ _ _ hP hD hS (lv_sub hl [0, 1, 2] rfl)
      · replace hv := hv.1 hc
        refine lv_iconst (v := (-1)) hx hb dX5_solve_62 (by decide) ?_
        exact cx_iret hx hb hr hlocks hAe hS (v_M_thrown, v_M_hasSolution, u_2, v_M_solution) hv hP hD dX5_solve_63
    · replace hv := hv.2 hc
      refine lv_aload_n hx hb dX5_solve_32 rfl (lv_at hl 1 rfl) ?_
      refine va_get (D := g.1) (ci := 5) (v := .ref a_M_work) (C := RX5) (T := TX5) (N := 16) hx hb hts cw_in_X5 hown hK.1 hP 0 rfl rfl 12 (by decide) (hts _ cw_f_X5_38) (fun _ h9 => h9) rfl dX5_solve_33 ?_
      refine lv_iload_n hx hb dX5_solve_36 rfl (lv_at hl 0 rfl) ?_
      refine lv_bipush (v := 16) hx hb dX5_solve_37 (by decide) ?_
      refine cx_iSr (As := [.int x1, .int 16]) (rest := [.ref a_M_work]) ⟨hx, hb, hml, hown, hts⟩ (cp_X5_cell l g x1 16) (cx_cwS 2 hts cw_m_X5_91 cw_t_X5_cell cw_n_X5 cw_c_X5_cell rfl rfl (by decide +kernel) ⟨Nat.le_of_ble_eq_true rfl, Nat.le_of_ble_eq_true rfl⟩) hK hP hD hS hA [] rfl rfl rfl hl.1 rfl (Nat.le_of_ble_eq_true rfl) dX5_solve_39 ⟨Nat.le_of_ble_eq_true rfl, Nat.le_of_ble_eq_true rfl⟩ (fun r_4 H locs hr9 hP hS => ?_)
      replace hr9 : r_4 = (f_at17 x1 16) := hr9
      subst hr9
      refine lv_aload_n hx hb dX5_solve_42 rfl (lv_at hl 1 rfl) ?_
      refine va_get (D := g.1) (ci := 5) (v := .ref a_M_rights) (C := RX5) (T := TX5) (N := 16) hx hb hts cw_in_X5 hown hK.1 hP 0 rfl rfl 5 (by decide) (hts _ cw_f_X5_23) (fun _ h9 => h9) rfl dX5_solve_43 ?_
      refine lv_iload_n hx hb dX5_solve_46 rfl (lv_at hl 0 rfl) ?_
      obtain ⟨h_5, hv⟩ := hv
      refine va_iald (D := g.1) hx hb hK.1 hP 3 0 rfl rfl h_5 dX5_solve_47 ?_
      obtain ⟨h_6, hv⟩ := hv
      refine va_iast (D := g.1) hx hb hK.1 hP hD hS 2 0 rfl rfl h_6 dX5_solve_48 (fun H locs hP hD hS => ?_)
      have hP : va_P g.1 vwCl [(a_M, .inr (5, [.int v_M_thrown, .int M_n, .ref a_M_a, .ref a_M_rowAt, .ref a_M_places, .ref a_M_rights, .ref a_M_weights, .int M_hasFactors, .ref a_M_pivots, .ref a_M_lower, .int v_M_hasSolution, .ref a_M_solution, .ref a_M_work, .ref a_M_isJoined, .int M_levels, .ref a_M_stored])), (a_M_a, .inl (g.2.1, 256, .inl M_a)), (a_M_work, .inl (g.2.1, 272, .inl (upd v_M_work (Int32.toNatClampNeg (f_at17 x1 16)) (M_rights (Int32.toNatClampNeg x1))))), (a_M_rights, .inl (g.2.1, 16, .inl M_rights)), (a_M_solution, .inl (g.2.1, 16, .inl v_M_solution))] H := hP
      have hD : va_D A [(a_M, .inr (5, [.int v_M_thrown, .int M_n, .ref a_M_a, .ref a_M_rowAt, .ref a_M_places, .ref a_M_rights, .ref a_M_weights, .int M_hasFactors, .ref a_M_pivots, .ref a_M_lower, .int v_M_hasSolution, .ref a_M_solution, .ref a_M_work, .ref a_M_isJoined, .int M_levels, .ref a_M_stored])), (a_M_a, .inl (g.2.1, 256, .inl M_a)), (a_M_work, .inl (g.2.1, 272, .inl (upd v_M_work (Int32.toNatClampNeg (f_at17 x1 16)) (M_rights (Int32.toNatClampNeg x1))))), (a_M_rights, .inl (g.2.1, 16, .inl M_rights)), (a_M_solution, .inl (g.2.1, 16, .inl v_M_solution))] := hD
      obtain ⟨x1_7, ex1_7⟩ : ∃ y : Int32, y = x1 + 1 := ⟨_, rfl⟩
      replace hv := hv x1_7 ex1_7
      refine lv_iinc (v := x1_7) (lv' := [(1, .int x1_7), (0, .ref a_M)]) hx hb dX5_solve_49 hl (k := 0) rfl (by rw [ex1_7]; rfl) (by decide) rfl (fun ls hl => ?_)
      refine lv_goto (tgt := 24) hx hb dX5_solve_52 (by decide) ?_
      exact hv _ _ _ hP hD hS (lv_sub hl [0, 1] rfl)
  have hs2 : ∀ (x2 : Int32) (x1 : Int32) (v_M_thrown : Int32) (v_M_hasSolution : Int32) (v_M_work : (Nat → Int32)) (v_M_solution : (Nat → Int32)), vc_X5_solve_2 M_thrown M_n M_hasFactors M_hasSolution M_levels M_a M_work M_rights M_solution Q G1 G2 x2 x1 v_M_thrown v_M_hasSolution v_M_work v_M_solution → G2 x2 x1 v_M_thrown v_M_hasSolution v_M_work v_M_solution := by
    rw [hG1, hG2]
    intro x2 x1 v_M_thrown v_M_hasSolution v_M_work v_M_solution hv H locs ls hP hD hS hl
    unfold vc_X5_solve_2 at hv
    refine lv_iload_n hx hb dX5_solve_68 rfl (lv_at hl 0 rfl) ?_
    refine lv_aload_n hx hb dX5_solve_69 rfl (lv_at hl 2 rfl) ?_
    refine va_get (D := g.1) (ci := 5) (v := .int M_n) (C := RX5) (T := TX5) (N := 16) hx hb hts cw_in_X5 hown hK.1 hP 0 rfl rfl 1 (by decide) (hts _ cw_f_X5_9) (fun _ h9 => h9) rfl dX5_solve_70 ?_
    refine lv_icmp_ge (tgt := 116) hx hb dX5_solve_73 (by decide) (fun hc => ?_) (fun hc => ?_)
    · replace hv := hv.1 hc
      refine lv_aload_n hx hb dX5_solve_116 rfl (lv_at hl 2 rfl) ?_
      refine lv_iconst (v := 1) hx hb dX5_solve_117 (by decide) ?_
      refine va_put (D := g.1) (ci := 5) (v := .int 1) (ty := .boolean) (C := RX5) (T := TX5) (N := 16) hx hb hts cw_in_X5 tyX5 tyX5_ok nmX5 hown hK.1 hP hD hS 0 rfl rfl 10 (by decide) (hts _ cw_f_X5_69) (fun _ h9 => h9) rfl (by decide +kernel) rfl rfl (Nat.le_of_ble_eq_true rfl) dX5_solve_118 (fun H locs hP hD hS => ?_)
      have hP : va_P g.1 vwCl [(a_M, .inr (5, [.int v_M_thrown, .int M_n, .ref a_M_a, .ref a_M_rowAt, .ref a_M_places, .ref a_M_rights, .ref a_M_weights, .int M_hasFactors, .ref a_M_pivots, .ref a_M_lower, .int 1, .ref a_M_solution, .ref a_M_work, .ref a_M_isJoined, .int M_levels, .ref a_M_stored])), (a_M_a, .inl (g.2.1, 256, .inl M_a)), (a_M_work, .inl (g.2.1, 272, .inl v_M_work)), (a_M_rights, .inl (g.2.1, 16, .inl M_rights)), (a_M_solution, .inl (g.2.1, 16, .inl v_M_solution))] H := hP
      have hD : va_D A [(a_M, .inr (5, [.int v_M_thrown, .int M_n, .ref a_M_a, .ref a_M_rowAt, .ref a_M_places, .ref a_M_rights, .ref a_M_weights, .int M_hasFactors, .ref a_M_pivots, .ref a_M_lower, .int 1, .ref a_M_solution, .ref a_M_work, .ref a_M_isJoined, .int M_levels, .ref a_M_stored])), (a_M_a, .inl (g.2.1, 256, .inl M_a)), (a_M_work, .inl (g.2.1, 272, .inl v_M_work)), (a_M_rights, .inl (g.2.1, 16, .inl M_rights)), (a_M_solution, .inl (g.2.1, 16, .inl v_M_solution))] := hD
      refine lv_iload_n hx hb dX5_solve_121 rfl (lv_at hl 1 rfl) ?_
      exact cx_iret hx hb hr hlocks hAe hS (v_M_thrown, 1, v_M_work, v_M_solution) hv hP hD dX5_solve_122
    · replace hv := hv.2 hc
      refine lv_aload_n hx hb dX5_solve_76 rfl (lv_at hl 2 rfl) ?_
      refine va_get (D := g.1) (ci := 5) (v := .ref a_M_solution) (C := RX5) (T := TX5) (N := 16) hx hb hts cw_in_X5 hown hK.1 hP 0 rfl rfl 11 (by decide) (hts _ cw_f_X5_35) (fun _ h9 => h9) rfl dX5_solve_77 ?_
      refine lv_iload_n hx hb dX5_solve_80 rfl (lv_at hl 0 rfl) ?_
      refine lv_aload_n hx hb dX5_solve_81 rfl (lv_at hl 2 rfl) ?_
      refine va_get (D := g.1) (ci := 5) (v := .ref a_M_work) (C := RX5) (T := TX5) (N := 16) hx hb hts cw_in_X5 hown hK.1 hP 0 rfl rfl 12 (by decide) (hts _ cw_f_X5_38) (fun _ h9 => h9) rfl dX5_solve_82 ?_
      refine lv_iload_n hx hb dX5_solve_85 rfl (lv_at hl 0 rfl) ?_
      refine lv_bipush (v := 16) hx hb dX5_solve_86 (by decide) ?_
      refine cx_iSr (As := [.int x2, .int 16]) (rest := [.ref a_M_work, .int x2, .ref a_M_solution]) ⟨hx, hb, hml, hown, hts⟩ (cp_X5_cell l g x2 16) (cx_cwS 2 hts cw_m_X5_91 cw_t_X5_cell cw_n_X5 cw_c_X5_cell rfl rfl (by decide +kernel) ⟨Nat.le_of_ble_eq_true rfl, Nat.le_of_ble_eq_true rfl⟩) hK hP hD hS hA [] rfl rfl rfl hl.1 rfl (Nat.le_of_ble_eq_true rfl) dX5_solve_88 ⟨Nat.le_of_ble_eq_true rfl, Nat.le_of_ble_eq_true rfl⟩ (fun r_1 H locs hr9 hP hS => ?_)
      replace hr9 : r_1 = (f_at17 x2 16) := hr9
      subst hr9
      obtain ⟨h_2, hv⟩ := hv
      refine va_iald (D := g.1) hx hb hK.1 hP 2 0 rfl rfl h_2 dX5_solve_91 ?_
      obtain ⟨h_3, hv⟩ := hv
      refine va_iast (D := g.1) hx hb hK.1 hP hD hS 4 0 rfl rfl h_3 dX5_solve_92 (fun H locs hP hD hS => ?_)
      have hP : va_P g.1 vwCl [(a_M, .inr (5, [.int v_M_thrown, .int M_n, .ref a_M_a, .ref a_M_rowAt, .ref a_M_places, .ref a_M_rights, .ref a_M_weights, .int M_hasFactors, .ref a_M_pivots, .ref a_M_lower, .int v_M_hasSolution, .ref a_M_solution, .ref a_M_work, .ref a_M_isJoined, .int M_levels, .ref a_M_stored])), (a_M_a, .inl (g.2.1, 256, .inl M_a)), (a_M_work, .inl (g.2.1, 272, .inl v_M_work)), (a_M_rights, .inl (g.2.1, 16, .inl M_rights)), (a_M_solution, .inl (g.2.1, 16, .inl (upd v_M_solution (Int32.toNatClampNeg x2) (v_M_work (Int32.toNatClampNeg (f_at17 x2 16))))))] H := hP
      have hD : va_D A [(a_M, .inr (5, [.int v_M_thrown, .int M_n, .ref a_M_a, .ref a_M_rowAt, .ref a_M_places, .ref a_M_rights, .ref a_M_weights, .int M_hasFactors, .ref a_M_pivots, .ref a_M_lower, .int v_M_hasSolution, .ref a_M_solution, .ref a_M_work, .ref a_M_isJoined, .int M_levels, .ref a_M_stored])), (a_M_a, .inl (g.2.1, 256, .inl M_a)), (a_M_work, .inl (g.2.1, 272, .inl v_M_work)), (a_M_rights, .inl (g.2.1, 16, .inl M_rights)), (a_M_solution, .inl (g.2.1, 16, .inl (upd v_M_solution (Int32.toNatClampNeg x2) (v_M_work (Int32.toNatClampNeg (f_at17 x2 16))))))] := hD
      refine lv_iload_n hx hb dX5_solve_93 rfl (lv_at hl 1 rfl) ?_
      refine lv_aload_n hx hb dX5_solve_94 rfl (lv_at hl 2 rfl) ?_
      refine va_get (D := g.1) (ci := 5) (v := .ref a_M_solution) (C := RX5) (T := TX5) (N := 16) hx hb hts cw_in_X5 hown hK.1 hP 0 rfl rfl 11 (by decide) (hts _ cw_f_X5_35) (fun _ h9 => h9) rfl dX5_solve_95 ?_
      refine lv_iload_n hx hb dX5_solve_98 rfl (lv_at hl 0 rfl) ?_
      obtain ⟨h_4, hv⟩ := hv
      refine va_iald (D := g.1) hx hb hK.1 hP 4 0 rfl rfl h_4 dX5_solve_99 ?_
      refine lv_if_ne (tgt := 107) hx hb dX5_solve_100 (by decide) (fun hc => ?_) (fun hc => ?_)
      · replace hv := hv.2 hc
        refine lv_iconst (v := 1) hx hb dX5_solve_107 (by decide) ?_
        refine lv_iadd hx hb dX5_solve_108 ?_
        refine lv_topi (fun x1_5 ex1_5 => ?_)
        replace hv := hv x1_5 ex1_5
        refine lv_istore_n (lv' := [(1, .int x1_5), (2, .int x2), (0, .ref a_M)]) hx hb dX5_solve_109 rfl hl (by decide) rfl (fun ls hl => ?_)
        obtain ⟨x2_6, ex2_6⟩ : ∃ y : Int32, y = x2 + 1 := ⟨_, rfl⟩
        replace hv := hv x2_6 ex2_6
        refine lv_iinc (v := x2_6) (lv' := [(2, .int x2_6), (1, .int x1_5), (0, .ref a_M)]) hx hb dX5_solve_110 hl (k := 1) rfl (by rw [ex2_6]; rfl) (by decide) rfl (fun ls hl => ?_)
        refine lv_goto (tgt := 68) hx hb dX5_solve_113 (by decide) ?_
        exact hv _ _ _ hP hD hS (lv_sub hl [0, 1, 2] rfl)
      · replace hv := hv.1 hc
        refine lv_iconst (v := 0) hx hb dX5_solve_103 (by decide) ?_
        refine lv_goto (tgt := 108) hx hb dX5_solve_104 (by decide) ?_
        refine lv_iadd hx hb dX5_solve_108 ?_
        refine lv_topi (fun x1_7 ex1_7 => ?_)
        replace hv := hv x1_7 ex1_7
        refine lv_istore_n (lv' := [(1, .int x1_7), (2, .int x2), (0, .ref a_M)]) hx hb dX5_solve_109 rfl hl (by decide) rfl (fun ls hl => ?_)
        obtain ⟨x2_8, ex2_8⟩ : ∃ y : Int32, y = x2 + 1 := ⟨_, rfl⟩
        replace hv := hv x2_8 ex2_8
        refine lv_iinc (v := x2_8) (lv' := [(2, .int x2_8), (1, .int x1_7), (0, .ref a_M)]) hx hb dX5_solve_110 hl (k := 1) rfl (by rw [ex2_8]; rfl) (by decide) rfl (fun ls hl => ?_)
        refine lv_goto (tgt := 68) hx hb dX5_solve_113 (by decide) ?_
        exact hv _ _ _ hP hD hS (lv_sub hl [0, 1, 2] rfl)
  replace hv := hv G1 G2 hs1 hs2
  rw [hG1, hG2] at hv
  unfold vc_X5_solve_0 at hv
  refine lv_aload_n hx hb dX5_solve_0 rfl (lv_at hl 0 rfl) ?_
  refine lv_iconst (v := 0) hx hb dX5_solve_1 (by decide) ?_
  refine va_put (D := g.1) (ci := 5) (v := .int 0) (ty := .int) (C := RX5) (T := TX5) (N := 16) hx hb hts cw_in_X5 tyX5 tyX5_ok nmX5 hown hK.1 hP hD hS 0 rfl rfl 0 (by decide) (hts _ cw_f_X5_51) (fun _ h9 => h9) rfl (by decide +kernel) rfl rfl (Nat.le_of_ble_eq_true rfl) dX5_solve_2 (fun H locs hP hD hS => ?_)
  have hP : va_P g.1 vwCl [(a_M, .inr (5, [.int 0, .int M_n, .ref a_M_a, .ref a_M_rowAt, .ref a_M_places, .ref a_M_rights, .ref a_M_weights, .int M_hasFactors, .ref a_M_pivots, .ref a_M_lower, .int M_hasSolution, .ref a_M_solution, .ref a_M_work, .ref a_M_isJoined, .int M_levels, .ref a_M_stored])), (a_M_a, .inl (g.2.1, 256, .inl M_a)), (a_M_work, .inl (g.2.1, 272, .inl M_work)), (a_M_rights, .inl (g.2.1, 16, .inl M_rights)), (a_M_solution, .inl (g.2.1, 16, .inl M_solution))] H := hP
  have hD : va_D A [(a_M, .inr (5, [.int 0, .int M_n, .ref a_M_a, .ref a_M_rowAt, .ref a_M_places, .ref a_M_rights, .ref a_M_weights, .int M_hasFactors, .ref a_M_pivots, .ref a_M_lower, .int M_hasSolution, .ref a_M_solution, .ref a_M_work, .ref a_M_isJoined, .int M_levels, .ref a_M_stored])), (a_M_a, .inl (g.2.1, 256, .inl M_a)), (a_M_work, .inl (g.2.1, 272, .inl M_work)), (a_M_rights, .inl (g.2.1, 16, .inl M_rights)), (a_M_solution, .inl (g.2.1, 16, .inl M_solution))] := hD
  refine lv_aload_n hx hb dX5_solve_5 rfl (lv_at hl 0 rfl) ?_
  refine va_get (D := g.1) (ci := 5) (v := .int M_hasFactors) (C := RX5) (T := TX5) (N := 16) hx hb hts cw_in_X5 hown hK.1 hP 0 rfl rfl 7 (by decide) (hts _ cw_f_X5_65) (fun _ h9 => h9) rfl dX5_solve_6 ?_
  refine lv_if_ne (tgt := 18) hx hb dX5_solve_9 (by decide) (fun hc => ?_) (fun hc => ?_)
  · replace hv := hv.2 hc
    refine lv_aload_n hx hb dX5_solve_18 rfl (lv_at hl 0 rfl) ?_
    refine cx_vV (wr := [(a_M_rights, .inl (g.2.1, 16, .inl M_rights)), (a_M_solution, .inl (g.2.1, 16, .inl M_solution))]) (As := []) (rest := []) ⟨hx, hb, hml, hown, hts⟩ (c_X5_copy l g a_M a_M_a a_M_rowAt a_M_places a_M_rights a_M_weights a_M_pivots a_M_lower a_M_solution a_M_work a_M_isJoined a_M_stored 0 M_n M_hasFactors M_hasSolution M_levels M_a M_work hv) (cx_cwV 0 hts cw_m_X5_100 cw_i_X5_copy cw_s_X5_copy cw_n_X5 cw_c_X5_copy rfl rfl (by decide +kernel) ⟨Nat.le_of_ble_eq_true rfl, Nat.le_of_ble_eq_true rfl⟩) hK hP hD hS hA 0 5 rfl rfl [0, 1, 2] [3, 4] rfl rfl rfl rfl (by decide) rfl hl.1 rfl (Nat.le_of_ble_eq_true rfl) dX5_solve_19 ⟨Nat.le_of_ble_eq_true rfl, Nat.le_of_ble_eq_true rfl⟩ (fun w_3 H locs hv hP hD hS => ?_)
    obtain ⟨u_2, rfl⟩ : ∃ z, z = w_3 := ⟨_, rfl⟩
    have hP : va_P g.1 vwCl [(a_M, .inr (5, [.int 0, .int M_n, .ref a_M_a, .ref a_M_rowAt, .ref a_M_places, .ref a_M_rights, .ref a_M_weights, .int M_hasFactors, .ref a_M_pivots, .ref a_M_lower, .int M_hasSolution, .ref a_M_solution, .ref a_M_work, .ref a_M_isJoined, .int M_levels, .ref a_M_stored])), (a_M_a, .inl (g.2.1, 256, .inl M_a)), (a_M_work, .inl (g.2.1, 272, .inl u_2)), (a_M_rights, .inl (g.2.1, 16, .inl M_rights)), (a_M_solution, .inl (g.2.1, 16, .inl M_solution))] H := hP.sub [2, 3, 4, 0, 1] rfl
    have hD : va_D A [(a_M, .inr (5, [.int 0, .int M_n, .ref a_M_a, .ref a_M_rowAt, .ref a_M_places, .ref a_M_rights, .ref a_M_weights, .int M_hasFactors, .ref a_M_pivots, .ref a_M_lower, .int M_hasSolution, .ref a_M_solution, .ref a_M_work, .ref a_M_isJoined, .int M_levels, .ref a_M_stored])), (a_M_a, .inl (g.2.1, 256, .inl M_a)), (a_M_work, .inl (g.2.1, 272, .inl u_2)), (a_M_rights, .inl (g.2.1, 16, .inl M_rights)), (a_M_solution, .inl (g.2.1, 16, .inl M_solution))] := hD.sub [2, 3, 4, 0, 1] (by decide) rfl
    refine lv_iconst (v := 0) hx hb dX5_solve_22 (by decide) ?_
    refine lv_istore_n (lv' := [(1, .int 0), (0, .ref a_M)]) hx hb dX5_solve_23 rfl hl (by decide) rfl (fun ls hl => ?_)
    exact hv _ _ _ hP hD hS (lv_sub hl [0, 1] rfl)
  · replace hv := hv.1 hc
    refine lv_aload_n hx hb dX5_solve_12 rfl (lv_at hl 0 rfl) ?_
    refine lv_iconst (v := 1) hx hb dX5_solve_13 (by decide) ?_
    refine cx_iV (wr := [(a_M_a, .inl (g.2.1, 256, .inl M_a)), (a_M_work, .inl (g.2.1, 272, .inl M_work)), (a_M_rights, .inl (g.2.1, 16, .inl M_rights)), (a_M_solution, .inl (g.2.1, 16, .inl M_solution))]) (As := [.int 1]) (rest := []) ⟨hx, hb, hml, hown, hts⟩ (c_X5_no l g a_M a_M_a a_M_rowAt a_M_places a_M_rights a_M_weights a_M_pivots a_M_lower a_M_solution a_M_work a_M_isJoined a_M_stored 1 0 M_n M_hasFactors M_hasSolution M_levels hv) (cx_cwV 1 hts cw_m_X5_72 cw_i_X5_no cw_s_X5_no cw_n_X5 cw_c_X5_no rfl rfl (by decide +kernel) ⟨Nat.le_of_ble_eq_true rfl, Nat.le_of_ble_eq_true rfl⟩) hK hP hD hS hA 0 5 rfl rfl [0] [1, 2, 3, 4] rfl rfl rfl rfl (by decide) rfl hl.1 rfl (Nat.le_of_ble_eq_true rfl) dX5_solve_14 ⟨Nat.le_of_ble_eq_true rfl, Nat.le_of_ble_eq_true rfl⟩ (fun r_4 w_6 H locs hv hP hD hS => ?_)
    obtain ⟨u_5, rfl⟩ : ∃ z, z = w_6 := ⟨_, rfl⟩
    have hP : va_P g.1 vwCl [(a_M, .inr (5, [.int u_5, .int M_n, .ref a_M_a, .ref a_M_rowAt, .ref a_M_places, .ref a_M_rights, .ref a_M_weights, .int M_hasFactors, .ref a_M_pivots, .ref a_M_lower, .int M_hasSolution, .ref a_M_solution, .ref a_M_work, .ref a_M_isJoined, .int M_levels, .ref a_M_stored])), (a_M_a, .inl (g.2.1, 256, .inl M_a)), (a_M_work, .inl (g.2.1, 272, .inl M_work)), (a_M_rights, .inl (g.2.1, 16, .inl M_rights)), (a_M_solution, .inl (g.2.1, 16, .inl M_solution))] H := hP.sub [4, 0, 1, 2, 3] rfl
    have hD : va_D A [(a_M, .inr (5, [.int u_5, .int M_n, .ref a_M_a, .ref a_M_rowAt, .ref a_M_places, .ref a_M_rights, .ref a_M_weights, .int M_hasFactors, .ref a_M_pivots, .ref a_M_lower, .int M_hasSolution, .ref a_M_solution, .ref a_M_work, .ref a_M_isJoined, .int M_levels, .ref a_M_stored])), (a_M_a, .inl (g.2.1, 256, .inl M_a)), (a_M_work, .inl (g.2.1, 272, .inl M_work)), (a_M_rights, .inl (g.2.1, 16, .inl M_rights)), (a_M_solution, .inl (g.2.1, 16, .inl M_solution))] := hD.sub [4, 0, 1, 2, 3] (by decide) rfl
    exact cx_iret hx hb hr hlocks hAe hS (u_5, M_hasSolution, M_work, M_solution) hv hP hD dX5_solve_17
def wp_X5_component (i_i : Int32) (M_thrown : Int32) (M_n : Int32) (M_hasFactors : Int32) (M_hasSolution : Int32) (M_levels : Int32) (M_solution : (Nat → Int32)) (Q : Int32 → Int32 → Prop)   : Prop := wp_X5_isRow i_i M_thrown M_n M_hasFactors M_hasSolution M_levels (fun r_1 => (r_1 = 0 → (Q 0 1)) ∧ (¬ r_1 = 0 → ((M_hasSolution = 0 → (Q 0 2)) ∧ (¬ M_hasSolution = 0 → (vp_in i_i 16 ∧ (Q (M_solution (Int32.toNatClampNeg i_i)) 0))))))
abbrev w0_X5_component (g : cx_G) (a_M a_M_a a_M_rowAt a_M_places a_M_rights a_M_weights a_M_pivots a_M_lower a_M_solution a_M_work a_M_isJoined a_M_stored : Nat) (M_thrown : Int32) (M_n : Int32) (M_hasFactors : Int32) (M_hasSolution : Int32) (M_levels : Int32) (M_solution : (Nat → Int32)) : va_W := [(a_M, .inr (5, [.int M_thrown, .int M_n, .ref a_M_a, .ref a_M_rowAt, .ref a_M_places, .ref a_M_rights, .ref a_M_weights, .int M_hasFactors, .ref a_M_pivots, .ref a_M_lower, .int M_hasSolution, .ref a_M_solution, .ref a_M_work, .ref a_M_isJoined, .int M_levels, .ref a_M_stored])), (a_M_solution, .inl (g.2.1, 16, .inl M_solution))]
abbrev w1_X5_component (g : cx_G) (a_M a_M_a a_M_rowAt a_M_places a_M_rights a_M_weights a_M_pivots a_M_lower a_M_solution a_M_work a_M_isJoined a_M_stored : Nat) (M_thrown : Int32) (M_n : Int32) (M_hasFactors : Int32) (M_hasSolution : Int32) (M_levels : Int32) (M_solution : (Nat → Int32)) (u : Int32) : va_W := [(a_M, .inr (5, [.int u, .int M_n, .ref a_M_a, .ref a_M_rowAt, .ref a_M_places, .ref a_M_rights, .ref a_M_weights, .int M_hasFactors, .ref a_M_pivots, .ref a_M_lower, .int M_hasSolution, .ref a_M_solution, .ref a_M_work, .ref a_M_isJoined, .int M_levels, .ref a_M_stored])), (a_M_solution, .inl (g.2.1, 16, .inl M_solution))]
set_option maxHeartbeats 4000000 in
set_option maxRecDepth 100000 in
theorem c_X5_component (l : Launch) (g : cx_G) (a_M a_M_a a_M_rowAt a_M_places a_M_rights a_M_weights a_M_pivots a_M_lower a_M_solution a_M_work a_M_isJoined a_M_stored : Nat) (i_i : Int32) (M_thrown : Int32) (M_n : Int32) (M_hasFactors : Int32) (M_hasSolution : Int32) (M_levels : Int32) (M_solution : (Nat → Int32)) {Q : Int32 → Int32 → Prop} (hv : wp_X5_component i_i M_thrown M_n M_hasFactors M_hasSolution M_levels M_solution Q) : cx_Mi l g yX5_component (Cond.code yX5_component cX5_component 2 (some .int) :: cx_T) ({ frames := 1, cells := 0, slots := 0, locals := 21 } : Room) [.ref a_M, .int i_i] (w0_X5_component g a_M a_M_a a_M_rowAt a_M_places a_M_rights a_M_weights a_M_pivots a_M_lower a_M_solution a_M_work a_M_isJoined a_M_stored M_thrown M_n M_hasFactors M_hasSolution M_levels M_solution) (fun (r : Int32) (u : Int32) => Q r u) (w1_X5_component g a_M a_M_a a_M_rowAt a_M_places a_M_rights a_M_weights a_M_pivots a_M_lower a_M_solution a_M_work a_M_isJoined a_M_stored M_thrown M_n M_hasFactors M_hasSolution M_levels M_solution) 0 0 := by
  intro sz
  refine Met.ofW (cc := cX5_component) (maxL := 2) (ret := (some .int)) (by decide) rfl ?_
  intro p e s m args below meth c s₁ B hml hpre
  obtain ⟨rfl, hsz, hP, hK, hD0⟩ := hpre
  have hx := B.exec
  have hb := B.bytes
  have hr := B.returns
  have hts0 := atoms_spec (ws := (Cond.code yX5_component cX5_component 2 (some .int) :: cx_T)) B.pre
  have hts : ∀ w ∈ cx_T, w.before _ s = true := fun w h => hts0 w (List.mem_cons_of_mem _ h)
  have hown : s.vm.findClass RX5 = some m.cls := findClass_of_methodNamed B.named
  have hlocks := B.notSynchronized
  subst hsz
  have hD := hD0.self (sz := s.heap.size)
  obtain ⟨A, hAe⟩ : ∃ A : Nat → Prop, A = va_A (w0_X5_component g a_M a_M_a a_M_rowAt a_M_places a_M_rights a_M_weights a_M_pivots a_M_lower a_M_solution a_M_work a_M_isJoined a_M_stored M_thrown M_n M_hasFactors M_hasSolution M_levels M_solution) s.heap.size := ⟨_, rfl⟩
  rw [← hAe] at hD
  have hA : ∀ q : Nat, s.heap.size ≤ q → A q := fun q h => by rw [hAe]; exact Or.inr h
  have hS : va_S A s.heap s.heap [] := va_S.rf
  have hP : va_P g.1 vwCl [(a_M, .inr (5, [.int M_thrown, .int M_n, .ref a_M_a, .ref a_M_rowAt, .ref a_M_places, .ref a_M_rights, .ref a_M_weights, .int M_hasFactors, .ref a_M_pivots, .ref a_M_lower, .int M_hasSolution, .ref a_M_solution, .ref a_M_work, .ref a_M_isJoined, .int M_levels, .ref a_M_stored])), (a_M_solution, .inl (g.2.1, 16, .inl M_solution))] s.heap := hP
  have hD : va_D A [(a_M, .inr (5, [.int M_thrown, .int M_n, .ref a_M_a, .ref a_M_rowAt, .ref a_M_places, .ref a_M_rights, .ref a_M_weights, .int M_hasFactors, .ref a_M_pivots, .ref a_M_lower, .int M_hasSolution, .ref a_M_solution, .ref a_M_work, .ref a_M_isJoined, .int M_levels, .ref a_M_stored])), (a_M_solution, .inl (g.2.1, 16, .inl M_solution))] := hD
  have hl := lv_entry ([.ref a_M, .int i_i]) (n := 2) (Nat.le_of_ble_eq_true rfl)
  rw [lg_entry_eq]
  generalize (lg_sl ([.ref a_M, .int i_i]) ++ List.replicate (2 - (lg_sl ([.ref a_M, .int i_i])).length) Slot.unset).toArray = ls at hl ⊢
  have hl : lv_has ls 2 [(0, .ref a_M), (1, .int i_i)] := hl
  unfold wp_X5_component at hv
  refine lv_aload_n hx hb dX5_component_0 rfl (lv_at hl 0 rfl) ?_
  refine lv_aload_n hx hb dX5_component_1 rfl (lv_at hl 0 rfl) ?_
  refine lv_iload_n hx hb dX5_component_2 rfl (lv_at hl 1 rfl) ?_
  refine cx_iVr (As := [.int i_i]) (rest := [.ref a_M]) ⟨hx, hb, hml, hown, hts⟩ (c_X5_isRow l g a_M a_M_a a_M_rowAt a_M_places a_M_rights a_M_weights a_M_pivots a_M_lower a_M_solution a_M_work a_M_isJoined a_M_stored i_i M_thrown M_n M_hasFactors M_hasSolution M_levels hv) (cx_cwV 1 hts cw_m_X5_76 cw_i_X5_isRow cw_s_X5_isRow cw_n_X5 cw_c_X5_isRow rfl rfl (by decide +kernel) ⟨Nat.le_of_ble_eq_true rfl, Nat.le_of_ble_eq_true rfl⟩) hK hP hD hS hA 0 5 rfl rfl [0] rfl rfl rfl hl.1 rfl (Nat.le_of_ble_eq_true rfl) dX5_component_3 ⟨Nat.le_of_ble_eq_true rfl, Nat.le_of_ble_eq_true rfl⟩ (fun r_1 H locs hv hP hS => ?_)
  refine lv_if_ne (tgt := 13) hx hb dX5_component_6 (by decide) (fun hc => ?_) (fun hc => ?_)
  · replace hv := hv.2 hc
    refine lv_aload_n hx hb dX5_component_13 rfl (lv_at hl 0 rfl) ?_
    refine va_get (D := g.1) (ci := 5) (v := .int M_hasSolution) (C := RX5) (T := TX5) (N := 16) hx hb hts cw_in_X5 hown hK.1 hP 0 rfl rfl 10 (by decide) (hts _ cw_f_X5_69) (fun _ h9 => h9) rfl dX5_component_14 ?_
    refine lv_if_ne (tgt := 24) hx hb dX5_component_17 (by decide) (fun hc => ?_) (fun hc => ?_)
    · replace hv := hv.2 hc
      refine lv_iconst (v := 0) hx hb dX5_component_24 (by decide) ?_
      refine va_put (D := g.1) (ci := 5) (v := .int 0) (ty := .int) (C := RX5) (T := TX5) (N := 16) hx hb hts cw_in_X5 tyX5 tyX5_ok nmX5 hown hK.1 hP hD hS 0 rfl rfl 0 (by decide) (hts _ cw_f_X5_51) (fun _ h9 => h9) rfl (by decide +kernel) rfl rfl (Nat.le_of_ble_eq_true rfl) dX5_component_25 (fun H locs hP hD hS => ?_)
      have hP : va_P g.1 vwCl [(a_M, .inr (5, [.int 0, .int M_n, .ref a_M_a, .ref a_M_rowAt, .ref a_M_places, .ref a_M_rights, .ref a_M_weights, .int M_hasFactors, .ref a_M_pivots, .ref a_M_lower, .int M_hasSolution, .ref a_M_solution, .ref a_M_work, .ref a_M_isJoined, .int M_levels, .ref a_M_stored])), (a_M_solution, .inl (g.2.1, 16, .inl M_solution))] H := hP
      have hD : va_D A [(a_M, .inr (5, [.int 0, .int M_n, .ref a_M_a, .ref a_M_rowAt, .ref a_M_places, .ref a_M_rights, .ref a_M_weights, .int M_hasFactors, .ref a_M_pivots, .ref a_M_lower, .int M_hasSolution, .ref a_M_solution, .ref a_M_work, .ref a_M_isJoined, .int M_levels, .ref a_M_stored])), (a_M_solution, .inl (g.2.1, 16, .inl M_solution))] := hD
      refine lv_aload_n hx hb dX5_component_28 rfl (lv_at hl 0 rfl) ?_
      refine va_get (D := g.1) (ci := 5) (v := .int 0) (C := RX5) (T := TX5) (N := 16) hx hb hts cw_in_X5 hown hK.1 hP 0 rfl rfl 0 (by decide) (hts _ cw_f_X5_51) (fun _ h9 => h9) rfl dX5_component_29 ?_
      refine lv_if_ne (tgt := 44) hx hb dX5_component_32 (by decide) (fun hc => absurd hc (by decide)) (fun _ => ?_)
      refine lv_aload_n hx hb dX5_component_35 rfl (lv_at hl 0 rfl) ?_
      refine va_get (D := g.1) (ci := 5) (v := .ref a_M_solution) (C := RX5) (T := TX5) (N := 16) hx hb hts cw_in_X5 hown hK.1 hP 0 rfl rfl 11 (by decide) (hts _ cw_f_X5_35) (fun _ h9 => h9) rfl dX5_component_36 ?_
      refine lv_iload_n hx hb dX5_component_39 rfl (lv_at hl 1 rfl) ?_
      obtain ⟨h_2, hv⟩ := hv
      refine va_iald (D := g.1) hx hb hK.1 hP 1 0 rfl rfl h_2 dX5_component_40 ?_
      refine lv_goto (tgt := 45) hx hb dX5_component_41 (by decide) ?_
      exact cx_iret hx hb hr hlocks hAe hS 0 hv hP hD dX5_component_45
    · replace hv := hv.1 hc
      refine lv_iconst (v := 2) hx hb dX5_component_20 (by decide) ?_
      refine lv_goto (tgt := 25) hx hb dX5_component_21 (by decide) ?_
      refine va_put (D := g.1) (ci := 5) (v := .int 2) (ty := .int) (C := RX5) (T := TX5) (N := 16) hx hb hts cw_in_X5 tyX5 tyX5_ok nmX5 hown hK.1 hP hD hS 0 rfl rfl 0 (by decide) (hts _ cw_f_X5_51) (fun _ h9 => h9) rfl (by decide +kernel) rfl rfl (Nat.le_of_ble_eq_true rfl) dX5_component_25 (fun H locs hP hD hS => ?_)
      have hP : va_P g.1 vwCl [(a_M, .inr (5, [.int 2, .int M_n, .ref a_M_a, .ref a_M_rowAt, .ref a_M_places, .ref a_M_rights, .ref a_M_weights, .int M_hasFactors, .ref a_M_pivots, .ref a_M_lower, .int M_hasSolution, .ref a_M_solution, .ref a_M_work, .ref a_M_isJoined, .int M_levels, .ref a_M_stored])), (a_M_solution, .inl (g.2.1, 16, .inl M_solution))] H := hP
      have hD : va_D A [(a_M, .inr (5, [.int 2, .int M_n, .ref a_M_a, .ref a_M_rowAt, .ref a_M_places, .ref a_M_rights, .ref a_M_weights, .int M_hasFactors, .ref a_M_pivots, .ref a_M_lower, .int M_hasSolution, .ref a_M_solution, .ref a_M_work, .ref a_M_isJoined, .int M_levels, .ref a_M_stored])), (a_M_solution, .inl (g.2.1, 16, .inl M_solution))] := hD
      refine lv_aload_n hx hb dX5_component_28 rfl (lv_at hl 0 rfl) ?_
      refine va_get (D := g.1) (ci := 5) (v := .int 2) (C := RX5) (T := TX5) (N := 16) hx hb hts cw_in_X5 hown hK.1 hP 0 rfl rfl 0 (by decide) (hts _ cw_f_X5_51) (fun _ h9 => h9) rfl dX5_component_29 ?_
      refine lv_if_ne (tgt := 44) hx hb dX5_component_32 (by decide) (fun _ => ?_) (fun hc => absurd hc (by decide))
      refine lv_iconst (v := 0) hx hb dX5_component_44 (by decide) ?_
      exact cx_iret hx hb hr hlocks hAe hS 2 hv hP hD dX5_component_45
  · replace hv := hv.1 hc
    refine lv_iconst (v := 1) hx hb dX5_component_9 (by decide) ?_
    refine lv_goto (tgt := 25) hx hb dX5_component_10 (by decide) ?_
    refine va_put (D := g.1) (ci := 5) (v := .int 1) (ty := .int) (C := RX5) (T := TX5) (N := 16) hx hb hts cw_in_X5 tyX5 tyX5_ok nmX5 hown hK.1 hP hD hS 0 rfl rfl 0 (by decide) (hts _ cw_f_X5_51) (fun _ h9 => h9) rfl (by decide +kernel) rfl rfl (Nat.le_of_ble_eq_true rfl) dX5_component_25 (fun H locs hP hD hS => ?_)
    have hP : va_P g.1 vwCl [(a_M, .inr (5, [.int 1, .int M_n, .ref a_M_a, .ref a_M_rowAt, .ref a_M_places, .ref a_M_rights, .ref a_M_weights, .int M_hasFactors, .ref a_M_pivots, .ref a_M_lower, .int M_hasSolution, .ref a_M_solution, .ref a_M_work, .ref a_M_isJoined, .int M_levels, .ref a_M_stored])), (a_M_solution, .inl (g.2.1, 16, .inl M_solution))] H := hP
    have hD : va_D A [(a_M, .inr (5, [.int 1, .int M_n, .ref a_M_a, .ref a_M_rowAt, .ref a_M_places, .ref a_M_rights, .ref a_M_weights, .int M_hasFactors, .ref a_M_pivots, .ref a_M_lower, .int M_hasSolution, .ref a_M_solution, .ref a_M_work, .ref a_M_isJoined, .int M_levels, .ref a_M_stored])), (a_M_solution, .inl (g.2.1, 16, .inl M_solution))] := hD
    refine lv_aload_n hx hb dX5_component_28 rfl (lv_at hl 0 rfl) ?_
    refine va_get (D := g.1) (ci := 5) (v := .int 1) (C := RX5) (T := TX5) (N := 16) hx hb hts cw_in_X5 hown hK.1 hP 0 rfl rfl 0 (by decide) (hts _ cw_f_X5_51) (fun _ h9 => h9) rfl dX5_component_29 ?_
    refine lv_if_ne (tgt := 44) hx hb dX5_component_32 (by decide) (fun _ => ?_) (fun hc => absurd hc (by decide))
    refine lv_iconst (v := 0) hx hb dX5_component_44 (by decide) ?_
    exact cx_iret hx hb hr hlocks hAe hS 1 hv hP hD dX5_component_45
def vc_X5_inverse_0 (i_i : Int32) (i_j : Int32) (M_thrown : Int32) (M_n : Int32) (M_hasFactors : Int32) (M_hasSolution : Int32) (M_levels : Int32) (M_a : (Nat → Int32)) (M_work : (Nat → Int32)) (Q : Int32 → Int32 → (Nat → Int32) → Prop) (G1 : Int32 → Int32 → (Nat → Int32) → Prop)  : Prop := wp_X5_isRow i_i M_thrown M_n M_hasFactors M_hasSolution M_levels (fun r_1 => (r_1 = 0 → (Q 0 1 M_work)) ∧ (¬ r_1 = 0 → (wp_X5_isRow i_j M_thrown M_n M_hasFactors M_hasSolution M_levels (fun r_2 => (r_2 = 0 → (Q 0 1 M_work)) ∧ (¬ r_2 = 0 → ((M_hasFactors = 0 → (Q 0 2 M_work)) ∧ (¬ M_hasFactors = 0 → (wp_X5_copy 0 M_n M_hasFactors M_hasSolution M_levels M_a M_work (fun u_4 => G1 0 0 u_4)))))))))
def vc_X5_inverse_1 (i_i : Int32) (i_j : Int32) (M_thrown : Int32) (M_n : Int32) (M_hasFactors : Int32) (M_hasSolution : Int32) (M_levels : Int32) (M_a : (Nat → Int32)) (M_work : (Nat → Int32)) (Q : Int32 → Int32 → (Nat → Int32) → Prop) (G1 : Int32 → Int32 → (Nat → Int32) → Prop) (x3 : Int32) (v_M_thrown : Int32) (v_M_work : (Nat → Int32)) : Prop := (M_n ≤ x3 → (wp_X5_eliminate v_M_thrown M_n M_hasFactors M_hasSolution M_levels v_M_work (fun r_1 u_2 => (r_1 = 0 → (Q (-1) v_M_thrown u_2)) ∧ (¬ r_1 = 0 → (vp_in (f_at17 i_i 16) 272 ∧ (Q (u_2 (Int32.toNatClampNeg (f_at17 i_i 16))) v_M_thrown u_2)))))) ∧ (¬ M_n ≤ x3 → ((x3 = i_j → (vp_in (f_at17 x3 16) 272 ∧ (∀ x3_10 : Int32, x3_10 = x3 + 1 → (G1 x3_10 v_M_thrown (upd v_M_work (Int32.toNatClampNeg (f_at17 x3 16)) 1))))) ∧ (¬ x3 = i_j → (vp_in (f_at17 x3 16) 272 ∧ (∀ x3_8 : Int32, x3_8 = x3 + 1 → (G1 x3_8 v_M_thrown (upd v_M_work (Int32.toNatClampNeg (f_at17 x3 16)) 0)))))))
def wp_X5_inverse (i_i : Int32) (i_j : Int32) (M_thrown : Int32) (M_n : Int32) (M_hasFactors : Int32) (M_hasSolution : Int32) (M_levels : Int32) (M_a : (Nat → Int32)) (M_work : (Nat → Int32)) (Q : Int32 → Int32 → (Nat → Int32) → Prop) : Prop := ∀ (G1 : Int32 → Int32 → (Nat → Int32) → Prop), (∀ (x3 : Int32) (v_M_thrown : Int32) (v_M_work : (Nat → Int32)), vc_X5_inverse_1 i_i i_j M_thrown M_n M_hasFactors M_hasSolution M_levels M_a M_work Q G1 x3 v_M_thrown v_M_work → G1 x3 v_M_thrown v_M_work) → vc_X5_inverse_0 i_i i_j M_thrown M_n M_hasFactors M_hasSolution M_levels M_a M_work Q G1
abbrev w0_X5_inverse (g : cx_G) (a_M a_M_a a_M_rowAt a_M_places a_M_rights a_M_weights a_M_pivots a_M_lower a_M_solution a_M_work a_M_isJoined a_M_stored : Nat) (M_thrown : Int32) (M_n : Int32) (M_hasFactors : Int32) (M_hasSolution : Int32) (M_levels : Int32) (M_a : (Nat → Int32)) (M_work : (Nat → Int32)) : va_W := [(a_M, .inr (5, [.int M_thrown, .int M_n, .ref a_M_a, .ref a_M_rowAt, .ref a_M_places, .ref a_M_rights, .ref a_M_weights, .int M_hasFactors, .ref a_M_pivots, .ref a_M_lower, .int M_hasSolution, .ref a_M_solution, .ref a_M_work, .ref a_M_isJoined, .int M_levels, .ref a_M_stored])), (a_M_a, .inl (g.2.1, 256, .inl M_a)), (a_M_work, .inl (g.2.1, 272, .inl M_work))]
abbrev w1_X5_inverse (g : cx_G) (a_M a_M_a a_M_rowAt a_M_places a_M_rights a_M_weights a_M_pivots a_M_lower a_M_solution a_M_work a_M_isJoined a_M_stored : Nat) (M_thrown : Int32) (M_n : Int32) (M_hasFactors : Int32) (M_hasSolution : Int32) (M_levels : Int32) (M_a : (Nat → Int32)) (M_work : (Nat → Int32)) (u : Int32 × (Nat → Int32)) : va_W := [(a_M, .inr (5, [.int u.1, .int M_n, .ref a_M_a, .ref a_M_rowAt, .ref a_M_places, .ref a_M_rights, .ref a_M_weights, .int M_hasFactors, .ref a_M_pivots, .ref a_M_lower, .int M_hasSolution, .ref a_M_solution, .ref a_M_work, .ref a_M_isJoined, .int M_levels, .ref a_M_stored])), (a_M_a, .inl (g.2.1, 256, .inl M_a)), (a_M_work, .inl (g.2.1, 272, .inl u.2))]
set_option maxHeartbeats 4000000 in
set_option maxRecDepth 100000 in
theorem c_X5_inverse (l : Launch) (g : cx_G) (a_M a_M_a a_M_rowAt a_M_places a_M_rights a_M_weights a_M_pivots a_M_lower a_M_solution a_M_work a_M_isJoined a_M_stored : Nat) (i_i : Int32) (i_j : Int32) (M_thrown : Int32) (M_n : Int32) (M_hasFactors : Int32) (M_hasSolution : Int32) (M_levels : Int32) (M_a : (Nat → Int32)) (M_work : (Nat → Int32)) {Q : Int32 → Int32 → (Nat → Int32) → Prop} (hv : wp_X5_inverse i_i i_j M_thrown M_n M_hasFactors M_hasSolution M_levels M_a M_work Q) : cx_Mi l g yX5_inverse (Cond.code yX5_inverse cX5_inverse 4 (some .int) :: cx_T) ({ frames := 3, cells := 0, slots := 0, locals := 71 } : Room) [.ref a_M, .int i_i, .int i_j] (w0_X5_inverse g a_M a_M_a a_M_rowAt a_M_places a_M_rights a_M_weights a_M_pivots a_M_lower a_M_solution a_M_work a_M_isJoined a_M_stored M_thrown M_n M_hasFactors M_hasSolution M_levels M_a M_work) (fun (r : Int32) (u : Int32 × (Nat → Int32)) => Q r u.1 u.2) (w1_X5_inverse g a_M a_M_a a_M_rowAt a_M_places a_M_rights a_M_weights a_M_pivots a_M_lower a_M_solution a_M_work a_M_isJoined a_M_stored M_thrown M_n M_hasFactors M_hasSolution M_levels M_a M_work) 0 0 := by
  intro sz
  refine Met.ofW (cc := cX5_inverse) (maxL := 4) (ret := (some .int)) (by decide) rfl ?_
  intro p e s m args below meth c s₁ B hml hpre
  obtain ⟨rfl, hsz, hP, hK, hD0⟩ := hpre
  have hx := B.exec
  have hb := B.bytes
  have hr := B.returns
  have hts0 := atoms_spec (ws := (Cond.code yX5_inverse cX5_inverse 4 (some .int) :: cx_T)) B.pre
  have hts : ∀ w ∈ cx_T, w.before _ s = true := fun w h => hts0 w (List.mem_cons_of_mem _ h)
  have hown : s.vm.findClass RX5 = some m.cls := findClass_of_methodNamed B.named
  have hlocks := B.notSynchronized
  subst hsz
  have hD := hD0.self (sz := s.heap.size)
  obtain ⟨A, hAe⟩ : ∃ A : Nat → Prop, A = va_A (w0_X5_inverse g a_M a_M_a a_M_rowAt a_M_places a_M_rights a_M_weights a_M_pivots a_M_lower a_M_solution a_M_work a_M_isJoined a_M_stored M_thrown M_n M_hasFactors M_hasSolution M_levels M_a M_work) s.heap.size := ⟨_, rfl⟩
  rw [← hAe] at hD
  have hA : ∀ q : Nat, s.heap.size ≤ q → A q := fun q h => by rw [hAe]; exact Or.inr h
  have hS : va_S A s.heap s.heap [] := va_S.rf
  have hP : va_P g.1 vwCl [(a_M, .inr (5, [.int M_thrown, .int M_n, .ref a_M_a, .ref a_M_rowAt, .ref a_M_places, .ref a_M_rights, .ref a_M_weights, .int M_hasFactors, .ref a_M_pivots, .ref a_M_lower, .int M_hasSolution, .ref a_M_solution, .ref a_M_work, .ref a_M_isJoined, .int M_levels, .ref a_M_stored])), (a_M_a, .inl (g.2.1, 256, .inl M_a)), (a_M_work, .inl (g.2.1, 272, .inl M_work))] s.heap := hP
  have hD : va_D A [(a_M, .inr (5, [.int M_thrown, .int M_n, .ref a_M_a, .ref a_M_rowAt, .ref a_M_places, .ref a_M_rights, .ref a_M_weights, .int M_hasFactors, .ref a_M_pivots, .ref a_M_lower, .int M_hasSolution, .ref a_M_solution, .ref a_M_work, .ref a_M_isJoined, .int M_levels, .ref a_M_stored])), (a_M_a, .inl (g.2.1, 256, .inl M_a)), (a_M_work, .inl (g.2.1, 272, .inl M_work))] := hD
  have hl := lv_entry ([.ref a_M, .int i_i, .int i_j]) (n := 4) (Nat.le_of_ble_eq_true rfl)
  rw [lg_entry_eq]
  generalize (lg_sl ([.ref a_M, .int i_i, .int i_j]) ++ List.replicate (4 - (lg_sl ([.ref a_M, .int i_i, .int i_j])).length) Slot.unset).toArray = ls at hl ⊢
  have hl : lv_has ls 4 [(0, .ref a_M), (1, .int i_i), (2, .int i_j)] := hl
  obtain ⟨G1, hG1⟩ : ∃ G : Int32 → Int32 → (Nat → Int32) → Prop, G = (fun (x3 : Int32) (v_M_thrown : Int32) (v_M_work : (Nat → Int32)) => ∀ (H : Heap) (locs : List Loc) (ls : Array Slot), va_P g.1 vwCl [(a_M, .inr (5, [.int v_M_thrown, .int M_n, .ref a_M_a, .ref a_M_rowAt, .ref a_M_places, .ref a_M_rights, .ref a_M_weights, .int M_hasFactors, .ref a_M_pivots, .ref a_M_lower, .int M_hasSolution, .ref a_M_solution, .ref a_M_work, .ref a_M_isJoined, .int M_levels, .ref a_M_stored])), (a_M_a, .inl (g.2.1, 256, .inl M_a)), (a_M_work, .inl (g.2.1, 272, .inl v_M_work))] H → va_D A [(a_M, .inr (5, [.int v_M_thrown, .int M_n, .ref a_M_a, .ref a_M_rowAt, .ref a_M_places, .ref a_M_rights, .ref a_M_weights, .int M_hasFactors, .ref a_M_pivots, .ref a_M_lower, .int M_hasSolution, .ref a_M_solution, .ref a_M_work, .ref a_M_isJoined, .int M_levels, .ref a_M_stored])), (a_M_a, .inl (g.2.1, 256, .inl M_a)), (a_M_work, .inl (g.2.1, 272, .inl v_M_work))] → va_S A s.heap H locs → lv_has ls 4 [(3, .int x3), (0, .ref a_M), (1, .int i_i), (2, .int i_j)] → W p l e (headSpec (Cond.code yX5_inverse cX5_inverse 4 (some .int) :: cx_T) ({ frames := 3, cells := 0, slots := 0, locals := 71 } : Room)).room s m ([.ref a_M, .int i_i, .int i_j] : List Value).toArray below meth c H locs 0 0 (MQ below (va_Qi (fun (r : Int32) (u : Int32 × (Nat → Int32)) => Q r u.1 u.2) (cx_B g (w0_X5_inverse g a_M a_M_a a_M_rowAt a_M_places a_M_rights a_M_weights a_M_pivots a_M_lower a_M_solution a_M_work a_M_isJoined a_M_stored M_thrown M_n M_hasFactors M_hasSolution M_levels M_a M_work) s.heap.size (w1_X5_inverse g a_M a_M_a a_M_rowAt a_M_places a_M_rights a_M_weights a_M_pivots a_M_lower a_M_solution a_M_work a_M_isJoined a_M_stored M_thrown M_n M_hasFactors M_hasSolution M_levels M_a M_work)) (va_A (w0_X5_inverse g a_M a_M_a a_M_rowAt a_M_places a_M_rights a_M_weights a_M_pivots a_M_lower a_M_solution a_M_work a_M_isJoined a_M_stored M_thrown M_n M_hasFactors M_hasSolution M_levels M_a M_work) s.heap.size)) ([.ref a_M, .int i_i, .int i_j] : List Value).toArray s 0 0 (va_A (w0_X5_inverse g a_M a_M_a a_M_rowAt a_M_places a_M_rights a_M_weights a_M_pivots a_M_lower a_M_solution a_M_work a_M_isJoined a_M_stored M_thrown M_n M_hasFactors M_hasSolution M_levels M_a M_work) s.heap.size)) (F0 m 51 ls [])) := ⟨_, rfl⟩
  have hs1 : ∀ (x3 : Int32) (v_M_thrown : Int32) (v_M_work : (Nat → Int32)), vc_X5_inverse_1 i_i i_j M_thrown M_n M_hasFactors M_hasSolution M_levels M_a M_work Q G1 x3 v_M_thrown v_M_work → G1 x3 v_M_thrown v_M_work := by
    rw [hG1]
    intro x3 v_M_thrown v_M_work hv H locs ls hP hD hS hl
    unfold vc_X5_inverse_1 at hv
    refine lv_iload_n hx hb dX5_inverse_51 rfl (lv_at hl 0 rfl) ?_
    refine lv_aload_n hx hb dX5_inverse_52 rfl (lv_at hl 1 rfl) ?_
    refine va_get (D := g.1) (ci := 5) (v := .int M_n) (C := RX5) (T := TX5) (N := 16) hx hb hts cw_in_X5 hown hK.1 hP 0 rfl rfl 1 (by decide) (hts _ cw_f_X5_9) (fun _ h9 => h9) rfl dX5_inverse_53 ?_
    refine lv_icmp_ge (tgt := 86) hx hb dX5_inverse_56 (by decide) (fun hc => ?_) (fun hc => ?_)
    · replace hv := hv.1 hc
      refine lv_aload_n hx hb dX5_inverse_86 rfl (lv_at hl 1 rfl) ?_
      refine cx_iV (wr := [(a_M_a, .inl (g.2.1, 256, .inl M_a))]) (As := []) (rest := []) ⟨hx, hb, hml, hown, hts⟩ (c_X5_eliminate l g a_M a_M_a a_M_rowAt a_M_places a_M_rights a_M_weights a_M_pivots a_M_lower a_M_solution a_M_work a_M_isJoined a_M_stored v_M_thrown M_n M_hasFactors M_hasSolution M_levels v_M_work hv) (cx_cwV 0 hts cw_m_X5_103 cw_i_X5_eliminate cw_s_X5_eliminate cw_n_X5 cw_c_X5_eliminate rfl rfl (by decide +kernel) ⟨Nat.le_of_ble_eq_true rfl, Nat.le_of_ble_eq_true rfl⟩) hK hP hD hS hA 0 5 rfl rfl [0, 2] [1] rfl rfl rfl rfl (by decide) rfl hl.1 rfl (Nat.le_of_ble_eq_true rfl) dX5_inverse_87 ⟨Nat.le_of_ble_eq_true rfl, Nat.le_of_ble_eq_true rfl⟩ (fun r_1 w_3 H locs hv hP hD hS => ?_)
      obtain ⟨u_2, rfl⟩ : ∃ z, z = w_3 := ⟨_, rfl⟩
      have hP : va_P g.1 vwCl [(a_M, .inr (5, [.int v_M_thrown, .int M_n, .ref a_M_a, .ref a_M_rowAt, .ref a_M_places, .ref a_M_rights, .ref a_M_weights, .int M_hasFactors, .ref a_M_pivots, .ref a_M_lower, .int M_hasSolution, .ref a_M_solution, .ref a_M_work, .ref a_M_isJoined, .int M_levels, .ref a_M_stored])), (a_M_a, .inl (g.2.1, 256, .inl M_a)), (a_M_work, .inl (g.2.1, 272, .inl u_2))] H := hP.sub [1, 0, 2] rfl
      have hD : va_D A [(a_M, .inr (5, [.int v_M_thrown, .int M_n, .ref a_M_a, .ref a_M_rowAt, .ref a_M_places, .ref a_M_rights, .ref a_M_weights, .int M_hasFactors, .ref a_M_pivots, .ref a_M_lower, .int M_hasSolution, .ref a_M_solution, .ref a_M_work, .ref a_M_isJoined, .int M_levels, .ref a_M_stored])), (a_M_a, .inl (g.2.1, 256, .inl M_a)), (a_M_work, .inl (g.2.1, 272, .inl u_2))] := hD.sub [1, 0, 2] (by decide) rfl
      refine lv_if_ne (tgt := 97) hx hb dX5_inverse_90 (by decide) (fun hc => ?_) (fun hc => ?_)
      · replace hv := hv.2 hc
        refine lv_aload_n hx hb dX5_inverse_97 rfl (lv_at hl 1 rfl) ?_
        refine va_get (D := g.1) (ci := 5) (v := .ref a_M_work) (C := RX5) (T := TX5) (N := 16) hx hb hts cw_in_X5 hown hK.1 hP 0 rfl rfl 12 (by decide) (hts _ cw_f_X5_38) (fun _ h9 => h9) rfl dX5_inverse_98 ?_
        refine lv_iload_n hx hb dX5_inverse_101 rfl (lv_at hl 2 rfl) ?_
        refine lv_bipush (v := 16) hx hb dX5_inverse_102 (by decide) ?_
        refine cx_iSr (As := [.int i_i, .int 16]) (rest := [.ref a_M_work]) ⟨hx, hb, hml, hown, hts⟩ (cp_X5_cell l g i_i 16) (cx_cwS 2 hts cw_m_X5_91 cw_t_X5_cell cw_n_X5 cw_c_X5_cell rfl rfl (by decide +kernel) ⟨Nat.le_of_ble_eq_true rfl, Nat.le_of_ble_eq_true rfl⟩) hK hP hD hS hA [] rfl rfl rfl hl.1 rfl (Nat.le_of_ble_eq_true rfl) dX5_inverse_104 ⟨Nat.le_of_ble_eq_true rfl, Nat.le_of_ble_eq_true rfl⟩ (fun r_4 H locs hr9 hP hS => ?_)
        replace hr9 : r_4 = (f_at17 i_i 16) := hr9
        subst hr9
        obtain ⟨h_5, hv⟩ := hv
        refine va_iald (D := g.1) hx hb hK.1 hP 2 0 rfl rfl h_5 dX5_inverse_107 ?_
        exact cx_iret hx hb hr hlocks hAe hS (v_M_thrown, u_2) hv hP hD dX5_inverse_108
      · replace hv := hv.1 hc
        refine lv_iconst (v := (-1)) hx hb dX5_inverse_93 (by decide) ?_
        refine lv_goto (tgt := 108) hx hb dX5_inverse_94 (by decide) ?_
        exact cx_iret hx hb hr hlocks hAe hS (v_M_thrown, u_2) hv hP hD dX5_inverse_108
    · replace hv := hv.2 hc
      refine lv_aload_n hx hb dX5_inverse_59 rfl (lv_at hl 1 rfl) ?_
      refine va_get (D := g.1) (ci := 5) (v := .ref a_M_work) (C := RX5) (T := TX5) (N := 16) hx hb hts cw_in_X5 hown hK.1 hP 0 rfl rfl 12 (by decide) (hts _ cw_f_X5_38) (fun _ h9 => h9) rfl dX5_inverse_60 ?_
      refine lv_iload_n hx hb dX5_inverse_63 rfl (lv_at hl 0 rfl) ?_
      refine lv_bipush (v := 16) hx hb dX5_inverse_64 (by decide) ?_
      refine cx_iSr (As := [.int x3, .int 16]) (rest := [.ref a_M_work]) ⟨hx, hb, hml, hown, hts⟩ (cp_X5_cell l g x3 16) (cx_cwS 2 hts cw_m_X5_91 cw_t_X5_cell cw_n_X5 cw_c_X5_cell rfl rfl (by decide +kernel) ⟨Nat.le_of_ble_eq_true rfl, Nat.le_of_ble_eq_true rfl⟩) hK hP hD hS hA [] rfl rfl rfl hl.1 rfl (Nat.le_of_ble_eq_true rfl) dX5_inverse_66 ⟨Nat.le_of_ble_eq_true rfl, Nat.le_of_ble_eq_true rfl⟩ (fun r_6 H locs hr9 hP hS => ?_)
      replace hr9 : r_6 = (f_at17 x3 16) := hr9
      subst hr9
      refine lv_iload_n hx hb dX5_inverse_69 rfl (lv_at hl 0 rfl) ?_
      refine lv_iload_n hx hb dX5_inverse_70 rfl (lv_at hl 3 rfl) ?_
      refine lv_icmp_ne (tgt := 78) hx hb dX5_inverse_71 (by decide) (fun hc => ?_) (fun hc => ?_)
      · replace hv := hv.2 hc
        refine lv_iconst (v := 0) hx hb dX5_inverse_78 (by decide) ?_
        obtain ⟨h_7, hv⟩ := hv
        refine va_iast (D := g.1) hx hb hK.1 hP hD hS 2 0 rfl rfl h_7 dX5_inverse_79 (fun H locs hP hD hS => ?_)
        have hP : va_P g.1 vwCl [(a_M, .inr (5, [.int v_M_thrown, .int M_n, .ref a_M_a, .ref a_M_rowAt, .ref a_M_places, .ref a_M_rights, .ref a_M_weights, .int M_hasFactors, .ref a_M_pivots, .ref a_M_lower, .int M_hasSolution, .ref a_M_solution, .ref a_M_work, .ref a_M_isJoined, .int M_levels, .ref a_M_stored])), (a_M_a, .inl (g.2.1, 256, .inl M_a)), (a_M_work, .inl (g.2.1, 272, .inl (upd v_M_work (Int32.toNatClampNeg (f_at17 x3 16)) 0)))] H := hP
        have hD : va_D A [(a_M, .inr (5, [.int v_M_thrown, .int M_n, .ref a_M_a, .ref a_M_rowAt, .ref a_M_places, .ref a_M_rights, .ref a_M_weights, .int M_hasFactors, .ref a_M_pivots, .ref a_M_lower, .int M_hasSolution, .ref a_M_solution, .ref a_M_work, .ref a_M_isJoined, .int M_levels, .ref a_M_stored])), (a_M_a, .inl (g.2.1, 256, .inl M_a)), (a_M_work, .inl (g.2.1, 272, .inl (upd v_M_work (Int32.toNatClampNeg (f_at17 x3 16)) 0)))] := hD
        obtain ⟨x3_8, ex3_8⟩ : ∃ y : Int32, y = x3 + 1 := ⟨_, rfl⟩
        replace hv := hv x3_8 ex3_8
        refine lv_iinc (v := x3_8) (lv' := [(3, .int x3_8), (0, .ref a_M), (1, .int i_i), (2, .int i_j)]) hx hb dX5_inverse_80 hl (k := 0) rfl (by rw [ex3_8]; rfl) (by decide) rfl (fun ls hl => ?_)
        refine lv_goto (tgt := 51) hx hb dX5_inverse_83 (by decide) ?_
        exact hv _ _ _ hP hD hS (lv_sub hl [0, 1, 2, 3] rfl)
      · replace hv := hv.1 hc
        refine lv_iconst (v := 1) hx hb dX5_inverse_74 (by decide) ?_
        refine lv_goto (tgt := 79) hx hb dX5_inverse_75 (by decide) ?_
        obtain ⟨h_9, hv⟩ := hv
        refine va_iast (D := g.1) hx hb hK.1 hP hD hS 2 0 rfl rfl h_9 dX5_inverse_79 (fun H locs hP hD hS => ?_)
        have hP : va_P g.1 vwCl [(a_M, .inr (5, [.int v_M_thrown, .int M_n, .ref a_M_a, .ref a_M_rowAt, .ref a_M_places, .ref a_M_rights, .ref a_M_weights, .int M_hasFactors, .ref a_M_pivots, .ref a_M_lower, .int M_hasSolution, .ref a_M_solution, .ref a_M_work, .ref a_M_isJoined, .int M_levels, .ref a_M_stored])), (a_M_a, .inl (g.2.1, 256, .inl M_a)), (a_M_work, .inl (g.2.1, 272, .inl (upd v_M_work (Int32.toNatClampNeg (f_at17 x3 16)) 1)))] H := hP
        have hD : va_D A [(a_M, .inr (5, [.int v_M_thrown, .int M_n, .ref a_M_a, .ref a_M_rowAt, .ref a_M_places, .ref a_M_rights, .ref a_M_weights, .int M_hasFactors, .ref a_M_pivots, .ref a_M_lower, .int M_hasSolution, .ref a_M_solution, .ref a_M_work, .ref a_M_isJoined, .int M_levels, .ref a_M_stored])), (a_M_a, .inl (g.2.1, 256, .inl M_a)), (a_M_work, .inl (g.2.1, 272, .inl (upd v_M_work (Int32.toNatClampNeg (f_at17 x3 16)) 1)))] := hD
        obtain ⟨x3_10, ex3_10⟩ : ∃ y : Int32, y = x3 + 1 := ⟨_, rfl⟩
        replace hv := hv x3_10 ex3_10
        refine lv_iinc (v := x3_10) (lv' := [(3, .int x3_10), (0, .ref a_M), (1, .int i_i), (2, .int i_j)]) hx hb dX5_inverse_80 hl (k := 0) rfl (by rw [ex3_10]; rfl) (by decide) rfl (fun ls hl => ?_)
        refine lv_goto (tgt := 51) hx hb dX5_inverse_83 (by decide) ?_
        exact hv _ _ _ hP hD hS (lv_sub hl [0, 1, 2, 3] rfl)
  replace hv := hv G1 hs1
  rw [hG1] at hv
  unfold vc_X5_inverse_0 at hv
  refine lv_aload_n hx hb dX5_inverse_0 rfl (lv_at hl 0 rfl) ?_
  refine lv_aload_n hx hb dX5_inverse_1 rfl (lv_at hl 0 rfl) ?_
  refine lv_iload_n hx hb dX5_inverse_2 rfl (lv_at hl 1 rfl) ?_
  refine cx_iVr (As := [.int i_i]) (rest := [.ref a_M]) ⟨hx, hb, hml, hown, hts⟩ (c_X5_isRow l g a_M a_M_a a_M_rowAt a_M_places a_M_rights a_M_weights a_M_pivots a_M_lower a_M_solution a_M_work a_M_isJoined a_M_stored i_i M_thrown M_n M_hasFactors M_hasSolution M_levels hv) (cx_cwV 1 hts cw_m_X5_76 cw_i_X5_isRow cw_s_X5_isRow cw_n_X5 cw_c_X5_isRow rfl rfl (by decide +kernel) ⟨Nat.le_of_ble_eq_true rfl, Nat.le_of_ble_eq_true rfl⟩) hK hP hD hS hA 0 5 rfl rfl [0] rfl rfl rfl hl.1 rfl (Nat.le_of_ble_eq_true rfl) dX5_inverse_3 ⟨Nat.le_of_ble_eq_true rfl, Nat.le_of_ble_eq_true rfl⟩ (fun r_1 H locs hv hP hS => ?_)
  refine lv_if_eq (tgt := 17) hx hb dX5_inverse_6 (by decide) (fun hc => ?_) (fun hc => ?_)
  · replace hv := hv.1 hc
    refine lv_iconst (v := 1) hx hb dX5_inverse_17 (by decide) ?_
    refine lv_goto (tgt := 33) hx hb dX5_inverse_18 (by decide) ?_
    refine va_put (D := g.1) (ci := 5) (v := .int 1) (ty := .int) (C := RX5) (T := TX5) (N := 16) hx hb hts cw_in_X5 tyX5 tyX5_ok nmX5 hown hK.1 hP hD hS 0 rfl rfl 0 (by decide) (hts _ cw_f_X5_51) (fun _ h9 => h9) rfl (by decide +kernel) rfl rfl (Nat.le_of_ble_eq_true rfl) dX5_inverse_33 (fun H locs hP hD hS => ?_)
    have hP : va_P g.1 vwCl [(a_M, .inr (5, [.int 1, .int M_n, .ref a_M_a, .ref a_M_rowAt, .ref a_M_places, .ref a_M_rights, .ref a_M_weights, .int M_hasFactors, .ref a_M_pivots, .ref a_M_lower, .int M_hasSolution, .ref a_M_solution, .ref a_M_work, .ref a_M_isJoined, .int M_levels, .ref a_M_stored])), (a_M_a, .inl (g.2.1, 256, .inl M_a)), (a_M_work, .inl (g.2.1, 272, .inl M_work))] H := hP
    have hD : va_D A [(a_M, .inr (5, [.int 1, .int M_n, .ref a_M_a, .ref a_M_rowAt, .ref a_M_places, .ref a_M_rights, .ref a_M_weights, .int M_hasFactors, .ref a_M_pivots, .ref a_M_lower, .int M_hasSolution, .ref a_M_solution, .ref a_M_work, .ref a_M_isJoined, .int M_levels, .ref a_M_stored])), (a_M_a, .inl (g.2.1, 256, .inl M_a)), (a_M_work, .inl (g.2.1, 272, .inl M_work))] := hD
    refine lv_aload_n hx hb dX5_inverse_36 rfl (lv_at hl 0 rfl) ?_
    refine va_get (D := g.1) (ci := 5) (v := .int 1) (C := RX5) (T := TX5) (N := 16) hx hb hts cw_in_X5 hown hK.1 hP 0 rfl rfl 0 (by decide) (hts _ cw_f_X5_51) (fun _ h9 => h9) rfl dX5_inverse_37 ?_
    refine lv_if_le (tgt := 45) hx hb dX5_inverse_40 (by decide) (fun hc => absurd hc (by decide)) (fun _ => ?_)
    refine lv_iconst (v := 0) hx hb dX5_inverse_43 (by decide) ?_
    exact cx_iret hx hb hr hlocks hAe hS (1, M_work) hv hP hD dX5_inverse_44
  · replace hv := hv.2 hc
    refine lv_aload_n hx hb dX5_inverse_9 rfl (lv_at hl 0 rfl) ?_
    refine lv_iload_n hx hb dX5_inverse_10 rfl (lv_at hl 2 rfl) ?_
    refine cx_iVr (As := [.int i_j]) (rest := [.ref a_M]) ⟨hx, hb, hml, hown, hts⟩ (c_X5_isRow l g a_M a_M_a a_M_rowAt a_M_places a_M_rights a_M_weights a_M_pivots a_M_lower a_M_solution a_M_work a_M_isJoined a_M_stored i_j M_thrown M_n M_hasFactors M_hasSolution M_levels hv) (cx_cwV 1 hts cw_m_X5_76 cw_i_X5_isRow cw_s_X5_isRow cw_n_X5 cw_c_X5_isRow rfl rfl (by decide +kernel) ⟨Nat.le_of_ble_eq_true rfl, Nat.le_of_ble_eq_true rfl⟩) hK hP hD hS hA 0 5 rfl rfl [0] rfl rfl rfl hl.1 rfl (Nat.le_of_ble_eq_true rfl) dX5_inverse_11 ⟨Nat.le_of_ble_eq_true rfl, Nat.le_of_ble_eq_true rfl⟩ (fun r_2 H locs hv hP hS => ?_)
    refine lv_if_ne (tgt := 21) hx hb dX5_inverse_14 (by decide) (fun hc => ?_) (fun hc => ?_)
    · replace hv := hv.2 hc
      refine lv_aload_n hx hb dX5_inverse_21 rfl (lv_at hl 0 rfl) ?_
      refine va_get (D := g.1) (ci := 5) (v := .int M_hasFactors) (C := RX5) (T := TX5) (N := 16) hx hb hts cw_in_X5 hown hK.1 hP 0 rfl rfl 7 (by decide) (hts _ cw_f_X5_65) (fun _ h9 => h9) rfl dX5_inverse_22 ?_
      refine lv_if_ne (tgt := 32) hx hb dX5_inverse_25 (by decide) (fun hc => ?_) (fun hc => ?_)
      · replace hv := hv.2 hc
        refine lv_iconst (v := 0) hx hb dX5_inverse_32 (by decide) ?_
        refine va_put (D := g.1) (ci := 5) (v := .int 0) (ty := .int) (C := RX5) (T := TX5) (N := 16) hx hb hts cw_in_X5 tyX5 tyX5_ok nmX5 hown hK.1 hP hD hS 0 rfl rfl 0 (by decide) (hts _ cw_f_X5_51) (fun _ h9 => h9) rfl (by decide +kernel) rfl rfl (Nat.le_of_ble_eq_true rfl) dX5_inverse_33 (fun H locs hP hD hS => ?_)
        have hP : va_P g.1 vwCl [(a_M, .inr (5, [.int 0, .int M_n, .ref a_M_a, .ref a_M_rowAt, .ref a_M_places, .ref a_M_rights, .ref a_M_weights, .int M_hasFactors, .ref a_M_pivots, .ref a_M_lower, .int M_hasSolution, .ref a_M_solution, .ref a_M_work, .ref a_M_isJoined, .int M_levels, .ref a_M_stored])), (a_M_a, .inl (g.2.1, 256, .inl M_a)), (a_M_work, .inl (g.2.1, 272, .inl M_work))] H := hP
        have hD : va_D A [(a_M, .inr (5, [.int 0, .int M_n, .ref a_M_a, .ref a_M_rowAt, .ref a_M_places, .ref a_M_rights, .ref a_M_weights, .int M_hasFactors, .ref a_M_pivots, .ref a_M_lower, .int M_hasSolution, .ref a_M_solution, .ref a_M_work, .ref a_M_isJoined, .int M_levels, .ref a_M_stored])), (a_M_a, .inl (g.2.1, 256, .inl M_a)), (a_M_work, .inl (g.2.1, 272, .inl M_work))] := hD
        refine lv_aload_n hx hb dX5_inverse_36 rfl (lv_at hl 0 rfl) ?_
        refine va_get (D := g.1) (ci := 5) (v := .int 0) (C := RX5) (T := TX5) (N := 16) hx hb hts cw_in_X5 hown hK.1 hP 0 rfl rfl 0 (by decide) (hts _ cw_f_X5_51) (fun _ h9 => h9) rfl dX5_inverse_37 ?_
        refine lv_if_le (tgt := 45) hx hb dX5_inverse_40 (by decide) (fun _ => ?_) (fun hc => absurd hc (by decide))
        refine lv_aload_n hx hb dX5_inverse_45 rfl (lv_at hl 0 rfl) ?_
        refine cx_vV (wr := []) (As := []) (rest := []) ⟨hx, hb, hml, hown, hts⟩ (c_X5_copy l g a_M a_M_a a_M_rowAt a_M_places a_M_rights a_M_weights a_M_pivots a_M_lower a_M_solution a_M_work a_M_isJoined a_M_stored 0 M_n M_hasFactors M_hasSolution M_levels M_a M_work hv) (cx_cwV 0 hts cw_m_X5_100 cw_i_X5_copy cw_s_X5_copy cw_n_X5 cw_c_X5_copy rfl rfl (by decide +kernel) ⟨Nat.le_of_ble_eq_true rfl, Nat.le_of_ble_eq_true rfl⟩) hK hP hD hS hA 0 5 rfl rfl [0, 1, 2] [] rfl rfl rfl rfl (by decide) rfl hl.1 rfl (Nat.le_of_ble_eq_true rfl) dX5_inverse_46 ⟨Nat.le_of_ble_eq_true rfl, Nat.le_of_ble_eq_true rfl⟩ (fun w_5 H locs hv hP hD hS => ?_)
        obtain ⟨u_4, rfl⟩ : ∃ z, z = w_5 := ⟨_, rfl⟩
        have hP : va_P g.1 vwCl [(a_M, .inr (5, [.int 0, .int M_n, .ref a_M_a, .ref a_M_rowAt, .ref a_M_places, .ref a_M_rights, .ref a_M_weights, .int M_hasFactors, .ref a_M_pivots, .ref a_M_lower, .int M_hasSolution, .ref a_M_solution, .ref a_M_work, .ref a_M_isJoined, .int M_levels, .ref a_M_stored])), (a_M_a, .inl (g.2.1, 256, .inl M_a)), (a_M_work, .inl (g.2.1, 272, .inl u_4))] H := hP.sub [0, 1, 2] rfl
        have hD : va_D A [(a_M, .inr (5, [.int 0, .int M_n, .ref a_M_a, .ref a_M_rowAt, .ref a_M_places, .ref a_M_rights, .ref a_M_weights, .int M_hasFactors, .ref a_M_pivots, .ref a_M_lower, .int M_hasSolution, .ref a_M_solution, .ref a_M_work, .ref a_M_isJoined, .int M_levels, .ref a_M_stored])), (a_M_a, .inl (g.2.1, 256, .inl M_a)), (a_M_work, .inl (g.2.1, 272, .inl u_4))] := hD.sub [0, 1, 2] (by decide) rfl
        refine lv_iconst (v := 0) hx hb dX5_inverse_49 (by decide) ?_
        refine lv_istore_n (lv' := [(3, .int 0), (0, .ref a_M), (1, .int i_i), (2, .int i_j)]) hx hb dX5_inverse_50 rfl hl (by decide) rfl (fun ls hl => ?_)
        exact hv _ _ _ hP hD hS (lv_sub hl [0, 1, 2, 3] rfl)
      · replace hv := hv.1 hc
        refine lv_iconst (v := 2) hx hb dX5_inverse_28 (by decide) ?_
        refine lv_goto (tgt := 33) hx hb dX5_inverse_29 (by decide) ?_
        refine va_put (D := g.1) (ci := 5) (v := .int 2) (ty := .int) (C := RX5) (T := TX5) (N := 16) hx hb hts cw_in_X5 tyX5 tyX5_ok nmX5 hown hK.1 hP hD hS 0 rfl rfl 0 (by decide) (hts _ cw_f_X5_51) (fun _ h9 => h9) rfl (by decide +kernel) rfl rfl (Nat.le_of_ble_eq_true rfl) dX5_inverse_33 (fun H locs hP hD hS => ?_)
        have hP : va_P g.1 vwCl [(a_M, .inr (5, [.int 2, .int M_n, .ref a_M_a, .ref a_M_rowAt, .ref a_M_places, .ref a_M_rights, .ref a_M_weights, .int M_hasFactors, .ref a_M_pivots, .ref a_M_lower, .int M_hasSolution, .ref a_M_solution, .ref a_M_work, .ref a_M_isJoined, .int M_levels, .ref a_M_stored])), (a_M_a, .inl (g.2.1, 256, .inl M_a)), (a_M_work, .inl (g.2.1, 272, .inl M_work))] H := hP
        have hD : va_D A [(a_M, .inr (5, [.int 2, .int M_n, .ref a_M_a, .ref a_M_rowAt, .ref a_M_places, .ref a_M_rights, .ref a_M_weights, .int M_hasFactors, .ref a_M_pivots, .ref a_M_lower, .int M_hasSolution, .ref a_M_solution, .ref a_M_work, .ref a_M_isJoined, .int M_levels, .ref a_M_stored])), (a_M_a, .inl (g.2.1, 256, .inl M_a)), (a_M_work, .inl (g.2.1, 272, .inl M_work))] := hD
        refine lv_aload_n hx hb dX5_inverse_36 rfl (lv_at hl 0 rfl) ?_
        refine va_get (D := g.1) (ci := 5) (v := .int 2) (C := RX5) (T := TX5) (N := 16) hx hb hts cw_in_X5 hown hK.1 hP 0 rfl rfl 0 (by decide) (hts _ cw_f_X5_51) (fun _ h9 => h9) rfl dX5_inverse_37 ?_
        refine lv_if_le (tgt := 45) hx hb dX5_inverse_40 (by decide) (fun hc => absurd hc (by decide)) (fun _ => ?_)
        refine lv_iconst (v := 0) hx hb dX5_inverse_43 (by decide) ?_
        exact cx_iret hx hb hr hlocks hAe hS (2, M_work) hv hP hD dX5_inverse_44
    · replace hv := hv.1 hc
      refine lv_iconst (v := 1) hx hb dX5_inverse_17 (by decide) ?_
      refine lv_goto (tgt := 33) hx hb dX5_inverse_18 (by decide) ?_
      refine va_put (D := g.1) (ci := 5) (v := .int 1) (ty := .int) (C := RX5) (T := TX5) (N := 16) hx hb hts cw_in_X5 tyX5 tyX5_ok nmX5 hown hK.1 hP hD hS 0 rfl rfl 0 (by decide) (hts _ cw_f_X5_51) (fun _ h9 => h9) rfl (by decide +kernel) rfl rfl (Nat.le_of_ble_eq_true rfl) dX5_inverse_33 (fun H locs hP hD hS => ?_)
      have hP : va_P g.1 vwCl [(a_M, .inr (5, [.int 1, .int M_n, .ref a_M_a, .ref a_M_rowAt, .ref a_M_places, .ref a_M_rights, .ref a_M_weights, .int M_hasFactors, .ref a_M_pivots, .ref a_M_lower, .int M_hasSolution, .ref a_M_solution, .ref a_M_work, .ref a_M_isJoined, .int M_levels, .ref a_M_stored])), (a_M_a, .inl (g.2.1, 256, .inl M_a)), (a_M_work, .inl (g.2.1, 272, .inl M_work))] H := hP
      have hD : va_D A [(a_M, .inr (5, [.int 1, .int M_n, .ref a_M_a, .ref a_M_rowAt, .ref a_M_places, .ref a_M_rights, .ref a_M_weights, .int M_hasFactors, .ref a_M_pivots, .ref a_M_lower, .int M_hasSolution, .ref a_M_solution, .ref a_M_work, .ref a_M_isJoined, .int M_levels, .ref a_M_stored])), (a_M_a, .inl (g.2.1, 256, .inl M_a)), (a_M_work, .inl (g.2.1, 272, .inl M_work))] := hD
      refine lv_aload_n hx hb dX5_inverse_36 rfl (lv_at hl 0 rfl) ?_
      refine va_get (D := g.1) (ci := 5) (v := .int 1) (C := RX5) (T := TX5) (N := 16) hx hb hts cw_in_X5 hown hK.1 hP 0 rfl rfl 0 (by decide) (hts _ cw_f_X5_51) (fun _ h9 => h9) rfl dX5_inverse_37 ?_
      refine lv_if_le (tgt := 45) hx hb dX5_inverse_40 (by decide) (fun hc => absurd hc (by decide)) (fun _ => ?_)
      refine lv_iconst (v := 0) hx hb dX5_inverse_43 (by decide) ?_
      exact cx_iret hx hb hr hlocks hAe hS (1, M_work) hv hP hD dX5_inverse_44
def vc_X5_push_0 (M_thrown : Int32) (M_n : Int32) (M_hasFactors : Int32) (M_hasSolution : Int32) (M_levels : Int32) (M_stored : (Nat → Int32)) (M_rowAt : (Nat → Int32)) (M_rights : (Nat → Int32)) (M_weights : (Nat → Int32)) (M_a : (Nat → Int32)) (Q : Int32 → Int32 → Int32 → (Nat → Int32) → Prop) (G1 : Int32 → Int32 → Int32 → Int32 → (Nat → Int32) → Prop) (G2 : Int32 → Int32 → Int32 → Int32 → (Nat → Int32) → Prop)  : Prop := (M_levels = 6 → (wp_X5_no 1 0 M_n M_hasFactors M_hasSolution M_levels (fun r_3 u_4 => Q r_3 u_4 M_levels M_stored))) ∧ (¬ M_levels = 6 → (∀ x1_1 : Int32, x1_1 = (305 * M_levels) → (vp_in x1_1 1830 ∧ (G1 0 x1_1 0 M_levels (upd M_stored (Int32.toNatClampNeg x1_1) M_n)))))
def vc_X5_push_1 (M_thrown : Int32) (M_n : Int32) (M_hasFactors : Int32) (M_hasSolution : Int32) (M_levels : Int32) (M_stored : (Nat → Int32)) (M_rowAt : (Nat → Int32)) (M_rights : (Nat → Int32)) (M_weights : (Nat → Int32)) (M_a : (Nat → Int32)) (Q : Int32 → Int32 → Int32 → (Nat → Int32) → Prop) (G1 : Int32 → Int32 → Int32 → Int32 → (Nat → Int32) → Prop) (G2 : Int32 → Int32 → Int32 → Int32 → (Nat → Int32) → Prop) (x2 : Int32) (x1 : Int32) (v_M_thrown : Int32) (v_M_levels : Int32) (v_M_stored : (Nat → Int32)) : Prop := (16 ≤ x2 → (G2 0 x1 v_M_thrown v_M_levels v_M_stored)) ∧ (¬ 16 ≤ x2 → (vp_in x2 16 ∧ (vp_in ((x1 + 1) + x2) 1830 ∧ (vp_in x2 16 ∧ (vp_in (((x1 + 1) + 16) + x2) 1830 ∧ (vp_in x2 16 ∧ (vp_in (((x1 + 1) + 32) + x2) 1830 ∧ (∀ x2_7 : Int32, x2_7 = x2 + 1 → (G1 x2_7 x1 v_M_thrown v_M_levels (upd (upd (upd v_M_stored (Int32.toNatClampNeg ((x1 + 1) + x2)) (M_rowAt (Int32.toNatClampNeg x2))) (Int32.toNatClampNeg (((x1 + 1) + 16) + x2)) (M_rights (Int32.toNatClampNeg x2))) (Int32.toNatClampNeg (((x1 + 1) + 32) + x2)) (M_weights (Int32.toNatClampNeg x2))))))))))))
def vc_X5_push_2 (M_thrown : Int32) (M_n : Int32) (M_hasFactors : Int32) (M_hasSolution : Int32) (M_levels : Int32) (M_stored : (Nat → Int32)) (M_rowAt : (Nat → Int32)) (M_rights : (Nat → Int32)) (M_weights : (Nat → Int32)) (M_a : (Nat → Int32)) (Q : Int32 → Int32 → Int32 → (Nat → Int32) → Prop) (G1 : Int32 → Int32 → Int32 → Int32 → (Nat → Int32) → Prop) (G2 : Int32 → Int32 → Int32 → Int32 → (Nat → Int32) → Prop) (x2 : Int32) (x1 : Int32) (v_M_thrown : Int32) (v_M_levels : Int32) (v_M_stored : (Nat → Int32)) : Prop := (256 ≤ x2 → (Q (v_M_levels + 1) v_M_thrown (v_M_levels + 1) v_M_stored)) ∧ (¬ 256 ≤ x2 → (vp_in x2 256 ∧ (vp_in (((x1 + 1) + 48) + x2) 1830 ∧ (∀ x2_3 : Int32, x2_3 = x2 + 1 → (G2 x2_3 x1 v_M_thrown v_M_levels (upd v_M_stored (Int32.toNatClampNeg (((x1 + 1) + 48) + x2)) (M_a (Int32.toNatClampNeg x2))))))))
def wp_X5_push (M_thrown : Int32) (M_n : Int32) (M_hasFactors : Int32) (M_hasSolution : Int32) (M_levels : Int32) (M_stored : (Nat → Int32)) (M_rowAt : (Nat → Int32)) (M_rights : (Nat → Int32)) (M_weights : (Nat → Int32)) (M_a : (Nat → Int32)) (Q : Int32 → Int32 → Int32 → (Nat → Int32) → Prop) : Prop := ∀ (G1 : Int32 → Int32 → Int32 → Int32 → (Nat → Int32) → Prop) (G2 : Int32 → Int32 → Int32 → Int32 → (Nat → Int32) → Prop), (∀ (x2 : Int32) (x1 : Int32) (v_M_thrown : Int32) (v_M_levels : Int32) (v_M_stored : (Nat → Int32)), vc_X5_push_1 M_thrown M_n M_hasFactors M_hasSolution M_levels M_stored M_rowAt M_rights M_weights M_a Q G1 G2 x2 x1 v_M_thrown v_M_levels v_M_stored → G1 x2 x1 v_M_thrown v_M_levels v_M_stored) → (∀ (x2 : Int32) (x1 : Int32) (v_M_thrown : Int32) (v_M_levels : Int32) (v_M_stored : (Nat → Int32)), vc_X5_push_2 M_thrown M_n M_hasFactors M_hasSolution M_levels M_stored M_rowAt M_rights M_weights M_a Q G1 G2 x2 x1 v_M_thrown v_M_levels v_M_stored → G2 x2 x1 v_M_thrown v_M_levels v_M_stored) → vc_X5_push_0 M_thrown M_n M_hasFactors M_hasSolution M_levels M_stored M_rowAt M_rights M_weights M_a Q G1 G2
abbrev w0_X5_push (g : cx_G) (a_M a_M_a a_M_rowAt a_M_places a_M_rights a_M_weights a_M_pivots a_M_lower a_M_solution a_M_work a_M_isJoined a_M_stored : Nat) (M_thrown : Int32) (M_n : Int32) (M_hasFactors : Int32) (M_hasSolution : Int32) (M_levels : Int32) (M_stored : (Nat → Int32)) (M_rowAt : (Nat → Int32)) (M_rights : (Nat → Int32)) (M_weights : (Nat → Int32)) (M_a : (Nat → Int32)) : va_W := [(a_M, .inr (5, [.int M_thrown, .int M_n, .ref a_M_a, .ref a_M_rowAt, .ref a_M_places, .ref a_M_rights, .ref a_M_weights, .int M_hasFactors, .ref a_M_pivots, .ref a_M_lower, .int M_hasSolution, .ref a_M_solution, .ref a_M_work, .ref a_M_isJoined, .int M_levels, .ref a_M_stored])), (a_M_stored, .inl (g.2.1, 1830, .inl M_stored)), (a_M_rowAt, .inl (g.2.1, 16, .inl M_rowAt)), (a_M_rights, .inl (g.2.1, 16, .inl M_rights)), (a_M_weights, .inl (g.2.1, 16, .inl M_weights)), (a_M_a, .inl (g.2.1, 256, .inl M_a))]
abbrev w1_X5_push (g : cx_G) (a_M a_M_a a_M_rowAt a_M_places a_M_rights a_M_weights a_M_pivots a_M_lower a_M_solution a_M_work a_M_isJoined a_M_stored : Nat) (M_thrown : Int32) (M_n : Int32) (M_hasFactors : Int32) (M_hasSolution : Int32) (M_levels : Int32) (M_stored : (Nat → Int32)) (M_rowAt : (Nat → Int32)) (M_rights : (Nat → Int32)) (M_weights : (Nat → Int32)) (M_a : (Nat → Int32)) (u : Int32 × Int32 × (Nat → Int32)) : va_W := [(a_M, .inr (5, [.int u.1, .int M_n, .ref a_M_a, .ref a_M_rowAt, .ref a_M_places, .ref a_M_rights, .ref a_M_weights, .int M_hasFactors, .ref a_M_pivots, .ref a_M_lower, .int M_hasSolution, .ref a_M_solution, .ref a_M_work, .ref a_M_isJoined, .int u.2.1, .ref a_M_stored])), (a_M_stored, .inl (g.2.1, 1830, .inl u.2.2)), (a_M_rowAt, .inl (g.2.1, 16, .inl M_rowAt)), (a_M_rights, .inl (g.2.1, 16, .inl M_rights)), (a_M_weights, .inl (g.2.1, 16, .inl M_weights)), (a_M_a, .inl (g.2.1, 256, .inl M_a))]
set_option maxHeartbeats 4000000 in
set_option maxRecDepth 100000 in
theorem c_X5_push (l : Launch) (g : cx_G) (a_M a_M_a a_M_rowAt a_M_places a_M_rights a_M_weights a_M_pivots a_M_lower a_M_solution a_M_work a_M_isJoined a_M_stored : Nat) (M_thrown : Int32) (M_n : Int32) (M_hasFactors : Int32) (M_hasSolution : Int32) (M_levels : Int32) (M_stored : (Nat → Int32)) (M_rowAt : (Nat → Int32)) (M_rights : (Nat → Int32)) (M_weights : (Nat → Int32)) (M_a : (Nat → Int32)) {Q : Int32 → Int32 → Int32 → (Nat → Int32) → Prop} (hv : wp_X5_push M_thrown M_n M_hasFactors M_hasSolution M_levels M_stored M_rowAt M_rights M_weights M_a Q) : cx_Mi l g yX5_push (Cond.code yX5_push cX5_push 3 (some .int) :: cx_T) ({ frames := 1, cells := 0, slots := 0, locals := 21 } : Room) [.ref a_M] (w0_X5_push g a_M a_M_a a_M_rowAt a_M_places a_M_rights a_M_weights a_M_pivots a_M_lower a_M_solution a_M_work a_M_isJoined a_M_stored M_thrown M_n M_hasFactors M_hasSolution M_levels M_stored M_rowAt M_rights M_weights M_a) (fun (r : Int32) (u : Int32 × Int32 × (Nat → Int32)) => Q r u.1 u.2.1 u.2.2) (w1_X5_push g a_M a_M_a a_M_rowAt a_M_places a_M_rights a_M_weights a_M_pivots a_M_lower a_M_solution a_M_work a_M_isJoined a_M_stored M_thrown M_n M_hasFactors M_hasSolution M_levels M_stored M_rowAt M_rights M_weights M_a) 0 0 := by
  intro sz
  refine Met.ofW (cc := cX5_push) (maxL := 3) (ret := (some .int)) (by decide) rfl ?_
  intro p e s m args below meth c s₁ B hml hpre
  obtain ⟨rfl, hsz, hP, hK, hD0⟩ := hpre
  have hx := B.exec
  have hb := B.bytes
  have hr := B.returns
  have hts0 := atoms_spec (ws := (Cond.code yX5_push cX5_push 3 (some .int) :: cx_T)) B.pre
  have hts : ∀ w ∈ cx_T, w.before _ s = true := fun w h => hts0 w (List.mem_cons_of_mem _ h)
  have hown : s.vm.findClass RX5 = some m.cls := findClass_of_methodNamed B.named
  have hlocks := B.notSynchronized
  subst hsz
  have hD := hD0.self (sz := s.heap.size)
  obtain ⟨A, hAe⟩ : ∃ A : Nat → Prop, A = va_A (w0_X5_push g a_M a_M_a a_M_rowAt a_M_places a_M_rights a_M_weights a_M_pivots a_M_lower a_M_solution a_M_work a_M_isJoined a_M_stored M_thrown M_n M_hasFactors M_hasSolution M_levels M_stored M_rowAt M_rights M_weights M_a) s.heap.size := ⟨_, rfl⟩
  rw [← hAe] at hD
  have hA : ∀ q : Nat, s.heap.size ≤ q → A q := fun q h => by rw [hAe]; exact Or.inr h
  have hS : va_S A s.heap s.heap [] := va_S.rf
  have hP : va_P g.1 vwCl [(a_M, .inr (5, [.int M_thrown, .int M_n, .ref a_M_a, .ref a_M_rowAt, .ref a_M_places, .ref a_M_rights, .ref a_M_weights, .int M_hasFactors, .ref a_M_pivots, .ref a_M_lower, .int M_hasSolution, .ref a_M_solution, .ref a_M_work, .ref a_M_isJoined, .int M_levels, .ref a_M_stored])), (a_M_stored, .inl (g.2.1, 1830, .inl M_stored)), (a_M_rowAt, .inl (g.2.1, 16, .inl M_rowAt)), (a_M_rights, .inl (g.2.1, 16, .inl M_rights)), (a_M_weights, .inl (g.2.1, 16, .inl M_weights)), (a_M_a, .inl (g.2.1, 256, .inl M_a))] s.heap := hP
  have hD : va_D A [(a_M, .inr (5, [.int M_thrown, .int M_n, .ref a_M_a, .ref a_M_rowAt, .ref a_M_places, .ref a_M_rights, .ref a_M_weights, .int M_hasFactors, .ref a_M_pivots, .ref a_M_lower, .int M_hasSolution, .ref a_M_solution, .ref a_M_work, .ref a_M_isJoined, .int M_levels, .ref a_M_stored])), (a_M_stored, .inl (g.2.1, 1830, .inl M_stored)), (a_M_rowAt, .inl (g.2.1, 16, .inl M_rowAt)), (a_M_rights, .inl (g.2.1, 16, .inl M_rights)), (a_M_weights, .inl (g.2.1, 16, .inl M_weights)), (a_M_a, .inl (g.2.1, 256, .inl M_a))] := hD
  have hl := lv_entry ([.ref a_M]) (n := 3) (Nat.le_of_ble_eq_true rfl)
  rw [lg_entry_eq]
  generalize (lg_sl ([.ref a_M]) ++ List.replicate (3 - (lg_sl ([.ref a_M])).length) Slot.unset).toArray = ls at hl ⊢
  have hl : lv_has ls 3 [(0, .ref a_M)] := hl
  obtain ⟨G1, hG1⟩ : ∃ G : Int32 → Int32 → Int32 → Int32 → (Nat → Int32) → Prop, G = (fun (x2 : Int32) (x1 : Int32) (v_M_thrown : Int32) (v_M_levels : Int32) (v_M_stored : (Nat → Int32)) => ∀ (H : Heap) (locs : List Loc) (ls : Array Slot), va_P g.1 vwCl [(a_M, .inr (5, [.int v_M_thrown, .int M_n, .ref a_M_a, .ref a_M_rowAt, .ref a_M_places, .ref a_M_rights, .ref a_M_weights, .int M_hasFactors, .ref a_M_pivots, .ref a_M_lower, .int M_hasSolution, .ref a_M_solution, .ref a_M_work, .ref a_M_isJoined, .int v_M_levels, .ref a_M_stored])), (a_M_stored, .inl (g.2.1, 1830, .inl v_M_stored)), (a_M_rowAt, .inl (g.2.1, 16, .inl M_rowAt)), (a_M_rights, .inl (g.2.1, 16, .inl M_rights)), (a_M_weights, .inl (g.2.1, 16, .inl M_weights)), (a_M_a, .inl (g.2.1, 256, .inl M_a))] H → va_D A [(a_M, .inr (5, [.int v_M_thrown, .int M_n, .ref a_M_a, .ref a_M_rowAt, .ref a_M_places, .ref a_M_rights, .ref a_M_weights, .int M_hasFactors, .ref a_M_pivots, .ref a_M_lower, .int M_hasSolution, .ref a_M_solution, .ref a_M_work, .ref a_M_isJoined, .int v_M_levels, .ref a_M_stored])), (a_M_stored, .inl (g.2.1, 1830, .inl v_M_stored)), (a_M_rowAt, .inl (g.2.1, 16, .inl M_rowAt)), (a_M_rights, .inl (g.2.1, 16, .inl M_rights)), (a_M_weights, .inl (g.2.1, 16, .inl M_weights)), (a_M_a, .inl (g.2.1, 256, .inl M_a))] → va_S A s.heap H locs → lv_has ls 3 [(2, .int x2), (1, .int x1), (0, .ref a_M)] → W p l e (headSpec (Cond.code yX5_push cX5_push 3 (some .int) :: cx_T) ({ frames := 1, cells := 0, slots := 0, locals := 21 } : Room)).room s m ([.ref a_M] : List Value).toArray below meth c H locs 0 0 (MQ below (va_Qi (fun (r : Int32) (u : Int32 × Int32 × (Nat → Int32)) => Q r u.1 u.2.1 u.2.2) (cx_B g (w0_X5_push g a_M a_M_a a_M_rowAt a_M_places a_M_rights a_M_weights a_M_pivots a_M_lower a_M_solution a_M_work a_M_isJoined a_M_stored M_thrown M_n M_hasFactors M_hasSolution M_levels M_stored M_rowAt M_rights M_weights M_a) s.heap.size (w1_X5_push g a_M a_M_a a_M_rowAt a_M_places a_M_rights a_M_weights a_M_pivots a_M_lower a_M_solution a_M_work a_M_isJoined a_M_stored M_thrown M_n M_hasFactors M_hasSolution M_levels M_stored M_rowAt M_rights M_weights M_a)) (va_A (w0_X5_push g a_M a_M_a a_M_rowAt a_M_places a_M_rights a_M_weights a_M_pivots a_M_lower a_M_solution a_M_work a_M_isJoined a_M_stored M_thrown M_n M_hasFactors M_hasSolution M_levels M_stored M_rowAt M_rights M_weights M_a) s.heap.size)) ([.ref a_M] : List Value).toArray s 0 0 (va_A (w0_X5_push g a_M a_M_a a_M_rowAt a_M_places a_M_rights a_M_weights a_M_pivots a_M_lower a_M_solution a_M_work a_M_isJoined a_M_stored M_thrown M_n M_hasFactors M_hasSolution M_levels M_stored M_rowAt M_rights M_weights M_a) s.heap.size)) (F0 m 41 ls [])) := ⟨_, rfl⟩
  obtain ⟨G2, hG2⟩ : ∃ G : Int32 → Int32 → Int32 → Int32 → (Nat → Int32) → Prop, G = (fun (x2 : Int32) (x1 : Int32) (v_M_thrown : Int32) (v_M_levels : Int32) (v_M_stored : (Nat → Int32)) => ∀ (H : Heap) (locs : List Loc) (ls : Array Slot), va_P g.1 vwCl [(a_M, .inr (5, [.int v_M_thrown, .int M_n, .ref a_M_a, .ref a_M_rowAt, .ref a_M_places, .ref a_M_rights, .ref a_M_weights, .int M_hasFactors, .ref a_M_pivots, .ref a_M_lower, .int M_hasSolution, .ref a_M_solution, .ref a_M_work, .ref a_M_isJoined, .int v_M_levels, .ref a_M_stored])), (a_M_stored, .inl (g.2.1, 1830, .inl v_M_stored)), (a_M_rowAt, .inl (g.2.1, 16, .inl M_rowAt)), (a_M_rights, .inl (g.2.1, 16, .inl M_rights)), (a_M_weights, .inl (g.2.1, 16, .inl M_weights)), (a_M_a, .inl (g.2.1, 256, .inl M_a))] H → va_D A [(a_M, .inr (5, [.int v_M_thrown, .int M_n, .ref a_M_a, .ref a_M_rowAt, .ref a_M_places, .ref a_M_rights, .ref a_M_weights, .int M_hasFactors, .ref a_M_pivots, .ref a_M_lower, .int M_hasSolution, .ref a_M_solution, .ref a_M_work, .ref a_M_isJoined, .int v_M_levels, .ref a_M_stored])), (a_M_stored, .inl (g.2.1, 1830, .inl v_M_stored)), (a_M_rowAt, .inl (g.2.1, 16, .inl M_rowAt)), (a_M_rights, .inl (g.2.1, 16, .inl M_rights)), (a_M_weights, .inl (g.2.1, 16, .inl M_weights)), (a_M_a, .inl (g.2.1, 256, .inl M_a))] → va_S A s.heap H locs → lv_has ls 3 [(2, .int x2), (1, .int x1), (0, .ref a_M)] → W p l e (headSpec (Cond.code yX5_push cX5_push 3 (some .int) :: cx_T) ({ frames := 1, cells := 0, slots := 0, locals := 21 } : Room)).room s m ([.ref a_M] : List Value).toArray below meth c H locs 0 0 (MQ below (va_Qi (fun (r : Int32) (u : Int32 × Int32 × (Nat → Int32)) => Q r u.1 u.2.1 u.2.2) (cx_B g (w0_X5_push g a_M a_M_a a_M_rowAt a_M_places a_M_rights a_M_weights a_M_pivots a_M_lower a_M_solution a_M_work a_M_isJoined a_M_stored M_thrown M_n M_hasFactors M_hasSolution M_levels M_stored M_rowAt M_rights M_weights M_a) s.heap.size (w1_X5_push g a_M a_M_a a_M_rowAt a_M_places a_M_rights a_M_weights a_M_pivots a_M_lower a_M_solution a_M_work a_M_isJoined a_M_stored M_thrown M_n M_hasFactors M_hasSolution M_levels M_stored M_rowAt M_rights M_weights M_a)) (va_A (w0_X5_push g a_M a_M_a a_M_rowAt a_M_places a_M_rights a_M_weights a_M_pivots a_M_lower a_M_solution a_M_work a_M_isJoined a_M_stored M_thrown M_n M_hasFactors M_hasSolution M_levels M_stored M_rowAt M_rights M_weights M_a) s.heap.size)) ([.ref a_M] : List Value).toArray s 0 0 (va_A (w0_X5_push g a_M a_M_a a_M_rowAt a_M_places a_M_rights a_M_weights a_M_pivots a_M_lower a_M_solution a_M_work a_M_isJoined a_M_stored M_thrown M_n M_hasFactors M_hasSolution M_levels M_stored M_rowAt M_rights M_weights M_a) s.heap.size)) (F0 m 109 ls [])) := ⟨_, rfl⟩
  have hs1 : ∀ (x2 : Int32) (x1 : Int32) (v_M_thrown : Int32) (v_M_levels : Int32) (v_M_stored : (Nat → Int32)), vc_X5_push_1 M_thrown M_n M_hasFactors M_hasSolution M_levels M_stored M_rowAt M_rights M_weights M_a Q G1 G2 x2 x1 v_M_thrown v_M_levels v_M_stored → G1 x2 x1 v_M_thrown v_M_levels v_M_stored := by
    rw [hG1, hG2]
    intro x2 x1 v_M_thrown v_M_levels v_M_stored hv H locs ls hP hD hS hl
    unfold vc_X5_push_1 at hv
    refine lv_iload_n hx hb dX5_push_41 rfl (lv_at hl 0 rfl) ?_
    refine lv_bipush (v := 16) hx hb dX5_push_42 (by decide) ?_
    refine lv_icmp_ge (tgt := 107) hx hb dX5_push_44 (by decide) (fun hc => ?_) (fun hc => ?_)
    · replace hv := hv.1 hc
      refine lv_iconst (v := 0) hx hb dX5_push_107 (by decide) ?_
      refine lv_istore_n (lv' := [(2, .int 0), (1, .int x1), (0, .ref a_M)]) hx hb dX5_push_108 rfl hl (by decide) rfl (fun ls hl => ?_)
      exact hv _ _ _ hP hD hS (lv_sub hl [0, 1, 2] rfl)
    · replace hv := hv.2 hc
      refine lv_aload_n hx hb dX5_push_47 rfl (lv_at hl 2 rfl) ?_
      refine va_get (D := g.1) (ci := 5) (v := .ref a_M_stored) (C := RX5) (T := TX5) (N := 16) hx hb hts cw_in_X5 hown hK.1 hP 0 rfl rfl 15 (by decide) (hts _ cw_f_X5_45) (fun _ h9 => h9) rfl dX5_push_48 ?_
      refine lv_iload_n hx hb dX5_push_51 rfl (lv_at hl 1 rfl) ?_
      refine lv_iconst (v := 1) hx hb dX5_push_52 (by decide) ?_
      refine lv_iadd hx hb dX5_push_53 ?_
      refine lv_iload_n hx hb dX5_push_54 rfl (lv_at hl 0 rfl) ?_
      refine lv_iadd hx hb dX5_push_55 ?_
      refine lv_aload_n hx hb dX5_push_56 rfl (lv_at hl 2 rfl) ?_
      refine va_get (D := g.1) (ci := 5) (v := .ref a_M_rowAt) (C := RX5) (T := TX5) (N := 16) hx hb hts cw_in_X5 hown hK.1 hP 0 rfl rfl 3 (by decide) (hts _ cw_f_X5_17) (fun _ h9 => h9) rfl dX5_push_57 ?_
      refine lv_iload_n hx hb dX5_push_60 rfl (lv_at hl 0 rfl) ?_
      obtain ⟨h_1, hv⟩ := hv
      refine va_iald (D := g.1) hx hb hK.1 hP 2 0 rfl rfl h_1 dX5_push_61 ?_
      obtain ⟨h_2, hv⟩ := hv
      refine va_iast (D := g.1) hx hb hK.1 hP hD hS 1 0 rfl rfl h_2 dX5_push_62 (fun H locs hP hD hS => ?_)
      have hP : va_P g.1 vwCl [(a_M, .inr (5, [.int v_M_thrown, .int M_n, .ref a_M_a, .ref a_M_rowAt, .ref a_M_places, .ref a_M_rights, .ref a_M_weights, .int M_hasFactors, .ref a_M_pivots, .ref a_M_lower, .int M_hasSolution, .ref a_M_solution, .ref a_M_work, .ref a_M_isJoined, .int v_M_levels, .ref a_M_stored])), (a_M_stored, .inl (g.2.1, 1830, .inl (upd v_M_stored (Int32.toNatClampNeg ((x1 + 1) + x2)) (M_rowAt (Int32.toNatClampNeg x2))))), (a_M_rowAt, .inl (g.2.1, 16, .inl M_rowAt)), (a_M_rights, .inl (g.2.1, 16, .inl M_rights)), (a_M_weights, .inl (g.2.1, 16, .inl M_weights)), (a_M_a, .inl (g.2.1, 256, .inl M_a))] H := hP
      have hD : va_D A [(a_M, .inr (5, [.int v_M_thrown, .int M_n, .ref a_M_a, .ref a_M_rowAt, .ref a_M_places, .ref a_M_rights, .ref a_M_weights, .int M_hasFactors, .ref a_M_pivots, .ref a_M_lower, .int M_hasSolution, .ref a_M_solution, .ref a_M_work, .ref a_M_isJoined, .int v_M_levels, .ref a_M_stored])), (a_M_stored, .inl (g.2.1, 1830, .inl (upd v_M_stored (Int32.toNatClampNeg ((x1 + 1) + x2)) (M_rowAt (Int32.toNatClampNeg x2))))), (a_M_rowAt, .inl (g.2.1, 16, .inl M_rowAt)), (a_M_rights, .inl (g.2.1, 16, .inl M_rights)), (a_M_weights, .inl (g.2.1, 16, .inl M_weights)), (a_M_a, .inl (g.2.1, 256, .inl M_a))] := hD
      refine lv_aload_n hx hb dX5_push_63 rfl (lv_at hl 2 rfl) ?_
      refine va_get (D := g.1) (ci := 5) (v := .ref a_M_stored) (C := RX5) (T := TX5) (N := 16) hx hb hts cw_in_X5 hown hK.1 hP 0 rfl rfl 15 (by decide) (hts _ cw_f_X5_45) (fun _ h9 => h9) rfl dX5_push_64 ?_
      refine lv_iload_n hx hb dX5_push_67 rfl (lv_at hl 1 rfl) ?_
      refine lv_iconst (v := 1) hx hb dX5_push_68 (by decide) ?_
      refine lv_iadd hx hb dX5_push_69 ?_
      refine lv_bipush (v := 16) hx hb dX5_push_70 (by decide) ?_
      refine lv_iadd hx hb dX5_push_72 ?_
      refine lv_iload_n hx hb dX5_push_73 rfl (lv_at hl 0 rfl) ?_
      refine lv_iadd hx hb dX5_push_74 ?_
      refine lv_aload_n hx hb dX5_push_75 rfl (lv_at hl 2 rfl) ?_
      refine va_get (D := g.1) (ci := 5) (v := .ref a_M_rights) (C := RX5) (T := TX5) (N := 16) hx hb hts cw_in_X5 hown hK.1 hP 0 rfl rfl 5 (by decide) (hts _ cw_f_X5_23) (fun _ h9 => h9) rfl dX5_push_76 ?_
      refine lv_iload_n hx hb dX5_push_79 rfl (lv_at hl 0 rfl) ?_
      obtain ⟨h_3, hv⟩ := hv
      refine va_iald (D := g.1) hx hb hK.1 hP 3 0 rfl rfl h_3 dX5_push_80 ?_
      obtain ⟨h_4, hv⟩ := hv
      refine va_iast (D := g.1) hx hb hK.1 hP hD hS 1 0 rfl rfl h_4 dX5_push_81 (fun H locs hP hD hS => ?_)
      have hP : va_P g.1 vwCl [(a_M, .inr (5, [.int v_M_thrown, .int M_n, .ref a_M_a, .ref a_M_rowAt, .ref a_M_places, .ref a_M_rights, .ref a_M_weights, .int M_hasFactors, .ref a_M_pivots, .ref a_M_lower, .int M_hasSolution, .ref a_M_solution, .ref a_M_work, .ref a_M_isJoined, .int v_M_levels, .ref a_M_stored])), (a_M_stored, .inl (g.2.1, 1830, .inl (upd (upd v_M_stored (Int32.toNatClampNeg ((x1 + 1) + x2)) (M_rowAt (Int32.toNatClampNeg x2))) (Int32.toNatClampNeg (((x1 + 1) + 16) + x2)) (M_rights (Int32.toNatClampNeg x2))))), (a_M_rowAt, .inl (g.2.1, 16, .inl M_rowAt)), (a_M_rights, .inl (g.2.1, 16, .inl M_rights)), (a_M_weights, .inl (g.2.1, 16, .inl M_weights)), (a_M_a, .inl (g.2.1, 256, .inl M_a))] H := hP
      have hD : va_D A [(a_M, .inr (5, [.int v_M_thrown, .int M_n, .ref a_M_a, .ref a_M_rowAt, .ref a_M_places, .ref a_M_rights, .ref a_M_weights, .int M_hasFactors, .ref a_M_pivots, .ref a_M_lower, .int M_hasSolution, .ref a_M_solution, .ref a_M_work, .ref a_M_isJoined, .int v_M_levels, .ref a_M_stored])), (a_M_stored, .inl (g.2.1, 1830, .inl (upd (upd v_M_stored (Int32.toNatClampNeg ((x1 + 1) + x2)) (M_rowAt (Int32.toNatClampNeg x2))) (Int32.toNatClampNeg (((x1 + 1) + 16) + x2)) (M_rights (Int32.toNatClampNeg x2))))), (a_M_rowAt, .inl (g.2.1, 16, .inl M_rowAt)), (a_M_rights, .inl (g.2.1, 16, .inl M_rights)), (a_M_weights, .inl (g.2.1, 16, .inl M_weights)), (a_M_a, .inl (g.2.1, 256, .inl M_a))] := hD
      refine lv_aload_n hx hb dX5_push_82 rfl (lv_at hl 2 rfl) ?_
      refine va_get (D := g.1) (ci := 5) (v := .ref a_M_stored) (C := RX5) (T := TX5) (N := 16) hx hb hts cw_in_X5 hown hK.1 hP 0 rfl rfl 15 (by decide) (hts _ cw_f_X5_45) (fun _ h9 => h9) rfl dX5_push_83 ?_
      refine lv_iload_n hx hb dX5_push_86 rfl (lv_at hl 1 rfl) ?_
      refine lv_iconst (v := 1) hx hb dX5_push_87 (by decide) ?_
      refine lv_iadd hx hb dX5_push_88 ?_
      refine lv_bipush (v := 32) hx hb dX5_push_89 (by decide) ?_
      refine lv_iadd hx hb dX5_push_91 ?_
      refine lv_iload_n hx hb dX5_push_92 rfl (lv_at hl 0 rfl) ?_
      refine lv_iadd hx hb dX5_push_93 ?_
      refine lv_aload_n hx hb dX5_push_94 rfl (lv_at hl 2 rfl) ?_
      refine va_get (D := g.1) (ci := 5) (v := .ref a_M_weights) (C := RX5) (T := TX5) (N := 16) hx hb hts cw_in_X5 hown hK.1 hP 0 rfl rfl 6 (by decide) (hts _ cw_f_X5_26) (fun _ h9 => h9) rfl dX5_push_95 ?_
      refine lv_iload_n hx hb dX5_push_98 rfl (lv_at hl 0 rfl) ?_
      obtain ⟨h_5, hv⟩ := hv
      refine va_iald (D := g.1) hx hb hK.1 hP 4 0 rfl rfl h_5 dX5_push_99 ?_
      obtain ⟨h_6, hv⟩ := hv
      refine va_iast (D := g.1) hx hb hK.1 hP hD hS 1 0 rfl rfl h_6 dX5_push_100 (fun H locs hP hD hS => ?_)
      have hP : va_P g.1 vwCl [(a_M, .inr (5, [.int v_M_thrown, .int M_n, .ref a_M_a, .ref a_M_rowAt, .ref a_M_places, .ref a_M_rights, .ref a_M_weights, .int M_hasFactors, .ref a_M_pivots, .ref a_M_lower, .int M_hasSolution, .ref a_M_solution, .ref a_M_work, .ref a_M_isJoined, .int v_M_levels, .ref a_M_stored])), (a_M_stored, .inl (g.2.1, 1830, .inl (upd (upd (upd v_M_stored (Int32.toNatClampNeg ((x1 + 1) + x2)) (M_rowAt (Int32.toNatClampNeg x2))) (Int32.toNatClampNeg (((x1 + 1) + 16) + x2)) (M_rights (Int32.toNatClampNeg x2))) (Int32.toNatClampNeg (((x1 + 1) + 32) + x2)) (M_weights (Int32.toNatClampNeg x2))))), (a_M_rowAt, .inl (g.2.1, 16, .inl M_rowAt)), (a_M_rights, .inl (g.2.1, 16, .inl M_rights)), (a_M_weights, .inl (g.2.1, 16, .inl M_weights)), (a_M_a, .inl (g.2.1, 256, .inl M_a))] H := hP
      have hD : va_D A [(a_M, .inr (5, [.int v_M_thrown, .int M_n, .ref a_M_a, .ref a_M_rowAt, .ref a_M_places, .ref a_M_rights, .ref a_M_weights, .int M_hasFactors, .ref a_M_pivots, .ref a_M_lower, .int M_hasSolution, .ref a_M_solution, .ref a_M_work, .ref a_M_isJoined, .int v_M_levels, .ref a_M_stored])), (a_M_stored, .inl (g.2.1, 1830, .inl (upd (upd (upd v_M_stored (Int32.toNatClampNeg ((x1 + 1) + x2)) (M_rowAt (Int32.toNatClampNeg x2))) (Int32.toNatClampNeg (((x1 + 1) + 16) + x2)) (M_rights (Int32.toNatClampNeg x2))) (Int32.toNatClampNeg (((x1 + 1) + 32) + x2)) (M_weights (Int32.toNatClampNeg x2))))), (a_M_rowAt, .inl (g.2.1, 16, .inl M_rowAt)), (a_M_rights, .inl (g.2.1, 16, .inl M_rights)), (a_M_weights, .inl (g.2.1, 16, .inl M_weights)), (a_M_a, .inl (g.2.1, 256, .inl M_a))] := hD
      obtain ⟨x2_7, ex2_7⟩ : ∃ y : Int32, y = x2 + 1 := ⟨_, rfl⟩
      replace hv := hv x2_7 ex2_7
      refine lv_iinc (v := x2_7) (lv' := [(2, .int x2_7), (1, .int x1), (0, .ref a_M)]) hx hb dX5_push_101 hl (k := 0) rfl (by rw [ex2_7]; rfl) (by decide) rfl (fun ls hl => ?_)
      refine lv_goto (tgt := 41) hx hb dX5_push_104 (by decide) ?_
      exact hv _ _ _ hP hD hS (lv_sub hl [0, 1, 2] rfl)
  have hs2 : ∀ (x2 : Int32) (x1 : Int32) (v_M_thrown : Int32) (v_M_levels : Int32) (v_M_stored : (Nat → Int32)), vc_X5_push_2 M_thrown M_n M_hasFactors M_hasSolution M_levels M_stored M_rowAt M_rights M_weights M_a Q G1 G2 x2 x1 v_M_thrown v_M_levels v_M_stored → G2 x2 x1 v_M_thrown v_M_levels v_M_stored := by
    rw [hG1, hG2]
    intro x2 x1 v_M_thrown v_M_levels v_M_stored hv H locs ls hP hD hS hl
    unfold vc_X5_push_2 at hv
    refine lv_iload_n hx hb dX5_push_109 rfl (lv_at hl 0 rfl) ?_
    refine lv_sipush (v := 256) hx hb dX5_push_110 (by decide) ?_
    refine lv_icmp_ge (tgt := 141) hx hb dX5_push_113 (by decide) (fun hc => ?_) (fun hc => ?_)
    · replace hv := hv.1 hc
      refine lv_aload_n hx hb dX5_push_141 rfl (lv_at hl 2 rfl) ?_
      refine lv_dup hx hb dX5_push_142 rfl ?_
      refine va_get (D := g.1) (ci := 5) (v := .int v_M_levels) (C := RX5) (T := TX5) (N := 16) hx hb hts cw_in_X5 hown hK.1 hP 0 rfl rfl 14 (by decide) (hts _ cw_f_X5_152) (fun _ h9 => h9) rfl dX5_push_143 ?_
      refine lv_iconst (v := 1) hx hb dX5_push_146 (by decide) ?_
      refine lv_iadd hx hb dX5_push_147 ?_
      refine va_put (D := g.1) (ci := 5) (v := .int (v_M_levels + 1)) (ty := .int) (C := RX5) (T := TX5) (N := 16) hx hb hts cw_in_X5 tyX5 tyX5_ok nmX5 hown hK.1 hP hD hS 0 rfl rfl 14 (by decide) (hts _ cw_f_X5_152) (fun _ h9 => h9) rfl (by decide +kernel) rfl rfl (Nat.le_of_ble_eq_true rfl) dX5_push_148 (fun H locs hP hD hS => ?_)
      have hP : va_P g.1 vwCl [(a_M, .inr (5, [.int v_M_thrown, .int M_n, .ref a_M_a, .ref a_M_rowAt, .ref a_M_places, .ref a_M_rights, .ref a_M_weights, .int M_hasFactors, .ref a_M_pivots, .ref a_M_lower, .int M_hasSolution, .ref a_M_solution, .ref a_M_work, .ref a_M_isJoined, .int (v_M_levels + 1), .ref a_M_stored])), (a_M_stored, .inl (g.2.1, 1830, .inl v_M_stored)), (a_M_rowAt, .inl (g.2.1, 16, .inl M_rowAt)), (a_M_rights, .inl (g.2.1, 16, .inl M_rights)), (a_M_weights, .inl (g.2.1, 16, .inl M_weights)), (a_M_a, .inl (g.2.1, 256, .inl M_a))] H := hP
      have hD : va_D A [(a_M, .inr (5, [.int v_M_thrown, .int M_n, .ref a_M_a, .ref a_M_rowAt, .ref a_M_places, .ref a_M_rights, .ref a_M_weights, .int M_hasFactors, .ref a_M_pivots, .ref a_M_lower, .int M_hasSolution, .ref a_M_solution, .ref a_M_work, .ref a_M_isJoined, .int (v_M_levels + 1), .ref a_M_stored])), (a_M_stored, .inl (g.2.1, 1830, .inl v_M_stored)), (a_M_rowAt, .inl (g.2.1, 16, .inl M_rowAt)), (a_M_rights, .inl (g.2.1, 16, .inl M_rights)), (a_M_weights, .inl (g.2.1, 16, .inl M_weights)), (a_M_a, .inl (g.2.1, 256, .inl M_a))] := hD
      refine lv_aload_n hx hb dX5_push_151 rfl (lv_at hl 2 rfl) ?_
      refine va_get (D := g.1) (ci := 5) (v := .int (v_M_levels + 1)) (C := RX5) (T := TX5) (N := 16) hx hb hts cw_in_X5 hown hK.1 hP 0 rfl rfl 14 (by decide) (hts _ cw_f_X5_152) (fun _ h9 => h9) rfl dX5_push_152 ?_
      exact cx_iret hx hb hr hlocks hAe hS (v_M_thrown, (v_M_levels + 1), v_M_stored) hv hP hD dX5_push_155
    · replace hv := hv.2 hc
      refine lv_aload_n hx hb dX5_push_116 rfl (lv_at hl 2 rfl) ?_
      refine va_get (D := g.1) (ci := 5) (v := .ref a_M_stored) (C := RX5) (T := TX5) (N := 16) hx hb hts cw_in_X5 hown hK.1 hP 0 rfl rfl 15 (by decide) (hts _ cw_f_X5_45) (fun _ h9 => h9) rfl dX5_push_117 ?_
      refine lv_iload_n hx hb dX5_push_120 rfl (lv_at hl 1 rfl) ?_
      refine lv_iconst (v := 1) hx hb dX5_push_121 (by decide) ?_
      refine lv_iadd hx hb dX5_push_122 ?_
      refine lv_bipush (v := 48) hx hb dX5_push_123 (by decide) ?_
      refine lv_iadd hx hb dX5_push_125 ?_
      refine lv_iload_n hx hb dX5_push_126 rfl (lv_at hl 0 rfl) ?_
      refine lv_iadd hx hb dX5_push_127 ?_
      refine lv_aload_n hx hb dX5_push_128 rfl (lv_at hl 2 rfl) ?_
      refine va_get (D := g.1) (ci := 5) (v := .ref a_M_a) (C := RX5) (T := TX5) (N := 16) hx hb hts cw_in_X5 hown hK.1 hP 0 rfl rfl 2 (by decide) (hts _ cw_f_X5_13) (fun _ h9 => h9) rfl dX5_push_129 ?_
      refine lv_iload_n hx hb dX5_push_132 rfl (lv_at hl 0 rfl) ?_
      obtain ⟨h_1, hv⟩ := hv
      refine va_iald (D := g.1) hx hb hK.1 hP 5 0 rfl rfl h_1 dX5_push_133 ?_
      obtain ⟨h_2, hv⟩ := hv
      refine va_iast (D := g.1) hx hb hK.1 hP hD hS 1 0 rfl rfl h_2 dX5_push_134 (fun H locs hP hD hS => ?_)
      have hP : va_P g.1 vwCl [(a_M, .inr (5, [.int v_M_thrown, .int M_n, .ref a_M_a, .ref a_M_rowAt, .ref a_M_places, .ref a_M_rights, .ref a_M_weights, .int M_hasFactors, .ref a_M_pivots, .ref a_M_lower, .int M_hasSolution, .ref a_M_solution, .ref a_M_work, .ref a_M_isJoined, .int v_M_levels, .ref a_M_stored])), (a_M_stored, .inl (g.2.1, 1830, .inl (upd v_M_stored (Int32.toNatClampNeg (((x1 + 1) + 48) + x2)) (M_a (Int32.toNatClampNeg x2))))), (a_M_rowAt, .inl (g.2.1, 16, .inl M_rowAt)), (a_M_rights, .inl (g.2.1, 16, .inl M_rights)), (a_M_weights, .inl (g.2.1, 16, .inl M_weights)), (a_M_a, .inl (g.2.1, 256, .inl M_a))] H := hP
      have hD : va_D A [(a_M, .inr (5, [.int v_M_thrown, .int M_n, .ref a_M_a, .ref a_M_rowAt, .ref a_M_places, .ref a_M_rights, .ref a_M_weights, .int M_hasFactors, .ref a_M_pivots, .ref a_M_lower, .int M_hasSolution, .ref a_M_solution, .ref a_M_work, .ref a_M_isJoined, .int v_M_levels, .ref a_M_stored])), (a_M_stored, .inl (g.2.1, 1830, .inl (upd v_M_stored (Int32.toNatClampNeg (((x1 + 1) + 48) + x2)) (M_a (Int32.toNatClampNeg x2))))), (a_M_rowAt, .inl (g.2.1, 16, .inl M_rowAt)), (a_M_rights, .inl (g.2.1, 16, .inl M_rights)), (a_M_weights, .inl (g.2.1, 16, .inl M_weights)), (a_M_a, .inl (g.2.1, 256, .inl M_a))] := hD
      obtain ⟨x2_3, ex2_3⟩ : ∃ y : Int32, y = x2 + 1 := ⟨_, rfl⟩
      replace hv := hv x2_3 ex2_3
      refine lv_iinc (v := x2_3) (lv' := [(2, .int x2_3), (1, .int x1), (0, .ref a_M)]) hx hb dX5_push_135 hl (k := 0) rfl (by rw [ex2_3]; rfl) (by decide) rfl (fun ls hl => ?_)
      refine lv_goto (tgt := 109) hx hb dX5_push_138 (by decide) ?_
      exact hv _ _ _ hP hD hS (lv_sub hl [0, 1, 2] rfl)
  replace hv := hv G1 G2 hs1 hs2
  rw [hG1, hG2] at hv
  unfold vc_X5_push_0 at hv
  refine lv_aload_n hx hb dX5_push_0 rfl (lv_at hl 0 rfl) ?_
  refine lv_iconst (v := 0) hx hb dX5_push_1 (by decide) ?_
  refine va_put (D := g.1) (ci := 5) (v := .int 0) (ty := .int) (C := RX5) (T := TX5) (N := 16) hx hb hts cw_in_X5 tyX5 tyX5_ok nmX5 hown hK.1 hP hD hS 0 rfl rfl 0 (by decide) (hts _ cw_f_X5_51) (fun _ h9 => h9) rfl (by decide +kernel) rfl rfl (Nat.le_of_ble_eq_true rfl) dX5_push_2 (fun H locs hP hD hS => ?_)
  have hP : va_P g.1 vwCl [(a_M, .inr (5, [.int 0, .int M_n, .ref a_M_a, .ref a_M_rowAt, .ref a_M_places, .ref a_M_rights, .ref a_M_weights, .int M_hasFactors, .ref a_M_pivots, .ref a_M_lower, .int M_hasSolution, .ref a_M_solution, .ref a_M_work, .ref a_M_isJoined, .int M_levels, .ref a_M_stored])), (a_M_stored, .inl (g.2.1, 1830, .inl M_stored)), (a_M_rowAt, .inl (g.2.1, 16, .inl M_rowAt)), (a_M_rights, .inl (g.2.1, 16, .inl M_rights)), (a_M_weights, .inl (g.2.1, 16, .inl M_weights)), (a_M_a, .inl (g.2.1, 256, .inl M_a))] H := hP
  have hD : va_D A [(a_M, .inr (5, [.int 0, .int M_n, .ref a_M_a, .ref a_M_rowAt, .ref a_M_places, .ref a_M_rights, .ref a_M_weights, .int M_hasFactors, .ref a_M_pivots, .ref a_M_lower, .int M_hasSolution, .ref a_M_solution, .ref a_M_work, .ref a_M_isJoined, .int M_levels, .ref a_M_stored])), (a_M_stored, .inl (g.2.1, 1830, .inl M_stored)), (a_M_rowAt, .inl (g.2.1, 16, .inl M_rowAt)), (a_M_rights, .inl (g.2.1, 16, .inl M_rights)), (a_M_weights, .inl (g.2.1, 16, .inl M_weights)), (a_M_a, .inl (g.2.1, 256, .inl M_a))] := hD
  refine lv_aload_n hx hb dX5_push_5 rfl (lv_at hl 0 rfl) ?_
  refine va_get (D := g.1) (ci := 5) (v := .int M_levels) (C := RX5) (T := TX5) (N := 16) hx hb hts cw_in_X5 hown hK.1 hP 0 rfl rfl 14 (by decide) (hts _ cw_f_X5_152) (fun _ h9 => h9) rfl dX5_push_6 ?_
  refine lv_bipush (v := 6) hx hb dX5_push_9 (by decide) ?_
  refine lv_icmp_ne (tgt := 20) hx hb dX5_push_11 (by decide) (fun hc => ?_) (fun hc => ?_)
  · replace hv := hv.2 hc
    refine lv_sipush (v := 305) hx hb dX5_push_20 (by decide) ?_
    refine lv_aload_n hx hb dX5_push_23 rfl (lv_at hl 0 rfl) ?_
    refine va_get (D := g.1) (ci := 5) (v := .int M_levels) (C := RX5) (T := TX5) (N := 16) hx hb hts cw_in_X5 hown hK.1 hP 0 rfl rfl 14 (by decide) (hts _ cw_f_X5_152) (fun _ h9 => h9) rfl dX5_push_24 ?_
    refine lv_imul hx hb dX5_push_27 ?_
    refine lv_topi (fun x1_1 ex1_1 => ?_)
    replace hv := hv x1_1 ex1_1
    refine lv_istore_n (lv' := [(1, .int x1_1), (0, .ref a_M)]) hx hb dX5_push_28 rfl hl (by decide) rfl (fun ls hl => ?_)
    refine lv_aload_n hx hb dX5_push_29 rfl (lv_at hl 1 rfl) ?_
    refine va_get (D := g.1) (ci := 5) (v := .ref a_M_stored) (C := RX5) (T := TX5) (N := 16) hx hb hts cw_in_X5 hown hK.1 hP 0 rfl rfl 15 (by decide) (hts _ cw_f_X5_45) (fun _ h9 => h9) rfl dX5_push_30 ?_
    refine lv_iload_n hx hb dX5_push_33 rfl (lv_at hl 0 rfl) ?_
    refine lv_aload_n hx hb dX5_push_34 rfl (lv_at hl 1 rfl) ?_
    refine va_get (D := g.1) (ci := 5) (v := .int M_n) (C := RX5) (T := TX5) (N := 16) hx hb hts cw_in_X5 hown hK.1 hP 0 rfl rfl 1 (by decide) (hts _ cw_f_X5_9) (fun _ h9 => h9) rfl dX5_push_35 ?_
    obtain ⟨h_2, hv⟩ := hv
    refine va_iast (D := g.1) hx hb hK.1 hP hD hS 1 0 rfl rfl h_2 dX5_push_38 (fun H locs hP hD hS => ?_)
    have hP : va_P g.1 vwCl [(a_M, .inr (5, [.int 0, .int M_n, .ref a_M_a, .ref a_M_rowAt, .ref a_M_places, .ref a_M_rights, .ref a_M_weights, .int M_hasFactors, .ref a_M_pivots, .ref a_M_lower, .int M_hasSolution, .ref a_M_solution, .ref a_M_work, .ref a_M_isJoined, .int M_levels, .ref a_M_stored])), (a_M_stored, .inl (g.2.1, 1830, .inl (upd M_stored (Int32.toNatClampNeg x1_1) M_n))), (a_M_rowAt, .inl (g.2.1, 16, .inl M_rowAt)), (a_M_rights, .inl (g.2.1, 16, .inl M_rights)), (a_M_weights, .inl (g.2.1, 16, .inl M_weights)), (a_M_a, .inl (g.2.1, 256, .inl M_a))] H := hP
    have hD : va_D A [(a_M, .inr (5, [.int 0, .int M_n, .ref a_M_a, .ref a_M_rowAt, .ref a_M_places, .ref a_M_rights, .ref a_M_weights, .int M_hasFactors, .ref a_M_pivots, .ref a_M_lower, .int M_hasSolution, .ref a_M_solution, .ref a_M_work, .ref a_M_isJoined, .int M_levels, .ref a_M_stored])), (a_M_stored, .inl (g.2.1, 1830, .inl (upd M_stored (Int32.toNatClampNeg x1_1) M_n))), (a_M_rowAt, .inl (g.2.1, 16, .inl M_rowAt)), (a_M_rights, .inl (g.2.1, 16, .inl M_rights)), (a_M_weights, .inl (g.2.1, 16, .inl M_weights)), (a_M_a, .inl (g.2.1, 256, .inl M_a))] := hD
    refine lv_iconst (v := 0) hx hb dX5_push_39 (by decide) ?_
    refine lv_istore_n (lv' := [(2, .int 0), (1, .int x1_1), (0, .ref a_M)]) hx hb dX5_push_40 rfl hl (by decide) rfl (fun ls hl => ?_)
    exact hv _ _ _ hP hD hS (lv_sub hl [0, 1, 2] rfl)
  · replace hv := hv.1 hc
    refine lv_aload_n hx hb dX5_push_14 rfl (lv_at hl 0 rfl) ?_
    refine lv_iconst (v := 1) hx hb dX5_push_15 (by decide) ?_
    refine cx_iV (wr := [(a_M_stored, .inl (g.2.1, 1830, .inl M_stored)), (a_M_rowAt, .inl (g.2.1, 16, .inl M_rowAt)), (a_M_rights, .inl (g.2.1, 16, .inl M_rights)), (a_M_weights, .inl (g.2.1, 16, .inl M_weights)), (a_M_a, .inl (g.2.1, 256, .inl M_a))]) (As := [.int 1]) (rest := []) ⟨hx, hb, hml, hown, hts⟩ (c_X5_no l g a_M a_M_a a_M_rowAt a_M_places a_M_rights a_M_weights a_M_pivots a_M_lower a_M_solution a_M_work a_M_isJoined a_M_stored 1 0 M_n M_hasFactors M_hasSolution M_levels hv) (cx_cwV 1 hts cw_m_X5_72 cw_i_X5_no cw_s_X5_no cw_n_X5 cw_c_X5_no rfl rfl (by decide +kernel) ⟨Nat.le_of_ble_eq_true rfl, Nat.le_of_ble_eq_true rfl⟩) hK hP hD hS hA 0 5 rfl rfl [0] [1, 2, 3, 4, 5] rfl rfl rfl rfl (by decide) rfl hl.1 rfl (Nat.le_of_ble_eq_true rfl) dX5_push_16 ⟨Nat.le_of_ble_eq_true rfl, Nat.le_of_ble_eq_true rfl⟩ (fun r_3 w_5 H locs hv hP hD hS => ?_)
    obtain ⟨u_4, rfl⟩ : ∃ z, z = w_5 := ⟨_, rfl⟩
    have hP : va_P g.1 vwCl [(a_M, .inr (5, [.int u_4, .int M_n, .ref a_M_a, .ref a_M_rowAt, .ref a_M_places, .ref a_M_rights, .ref a_M_weights, .int M_hasFactors, .ref a_M_pivots, .ref a_M_lower, .int M_hasSolution, .ref a_M_solution, .ref a_M_work, .ref a_M_isJoined, .int M_levels, .ref a_M_stored])), (a_M_stored, .inl (g.2.1, 1830, .inl M_stored)), (a_M_rowAt, .inl (g.2.1, 16, .inl M_rowAt)), (a_M_rights, .inl (g.2.1, 16, .inl M_rights)), (a_M_weights, .inl (g.2.1, 16, .inl M_weights)), (a_M_a, .inl (g.2.1, 256, .inl M_a))] H := hP.sub [5, 0, 1, 2, 3, 4] rfl
    have hD : va_D A [(a_M, .inr (5, [.int u_4, .int M_n, .ref a_M_a, .ref a_M_rowAt, .ref a_M_places, .ref a_M_rights, .ref a_M_weights, .int M_hasFactors, .ref a_M_pivots, .ref a_M_lower, .int M_hasSolution, .ref a_M_solution, .ref a_M_work, .ref a_M_isJoined, .int M_levels, .ref a_M_stored])), (a_M_stored, .inl (g.2.1, 1830, .inl M_stored)), (a_M_rowAt, .inl (g.2.1, 16, .inl M_rowAt)), (a_M_rights, .inl (g.2.1, 16, .inl M_rights)), (a_M_weights, .inl (g.2.1, 16, .inl M_weights)), (a_M_a, .inl (g.2.1, 256, .inl M_a))] := hD.sub [5, 0, 1, 2, 3, 4] (by decide) rfl
    exact cx_iret hx hb hr hlocks hAe hS (u_4, M_levels, M_stored) hv hP hD dX5_push_19
def vc_X5_pop_0 (M_thrown : Int32) (M_n : Int32) (M_hasFactors : Int32) (M_hasSolution : Int32) (M_levels : Int32) (M_stored : (Nat → Int32)) (M_rowAt : (Nat → Int32)) (M_places : (Nat → Int32)) (M_rights : (Nat → Int32)) (M_weights : (Nat → Int32)) (M_a : (Nat → Int32)) (Q : Int32 → Int32 → Int32 → Int32 → Int32 → Int32 → (Nat → Int32) → (Nat → Int32) → (Nat → Int32) → (Nat → Int32) → (Nat → Int32) → Prop) (G1 : Int32 → Int32 → Int32 → Int32 → Int32 → Int32 → Int32 → (Nat → Int32) → (Nat → Int32) → (Nat → Int32) → (Nat → Int32) → (Nat → Int32) → Prop) (G2 : Int32 → Int32 → Int32 → Int32 → Int32 → Int32 → Int32 → (Nat → Int32) → (Nat → Int32) → (Nat → Int32) → (Nat → Int32) → (Nat → Int32) → Prop)  : Prop := (M_levels = 0 → (wp_X5_no 1 0 M_n M_hasFactors M_hasSolution M_levels (fun r_3 u_4 => Q r_3 u_4 M_n M_hasFactors M_hasSolution M_levels M_rowAt M_places M_rights M_weights M_a))) ∧ (¬ M_levels = 0 → (∀ x1_1 : Int32, x1_1 = (305 * (M_levels - 1)) → (vp_in x1_1 1830 ∧ (G1 0 x1_1 0 (M_stored (Int32.toNatClampNeg x1_1)) M_hasFactors M_hasSolution (M_levels - 1) M_rowAt M_places M_rights M_weights M_a))))
def vc_X5_pop_1 (M_thrown : Int32) (M_n : Int32) (M_hasFactors : Int32) (M_hasSolution : Int32) (M_levels : Int32) (M_stored : (Nat → Int32)) (M_rowAt : (Nat → Int32)) (M_places : (Nat → Int32)) (M_rights : (Nat → Int32)) (M_weights : (Nat → Int32)) (M_a : (Nat → Int32)) (Q : Int32 → Int32 → Int32 → Int32 → Int32 → Int32 → (Nat → Int32) → (Nat → Int32) → (Nat → Int32) → (Nat → Int32) → (Nat → Int32) → Prop) (G1 : Int32 → Int32 → Int32 → Int32 → Int32 → Int32 → Int32 → (Nat → Int32) → (Nat → Int32) → (Nat → Int32) → (Nat → Int32) → (Nat → Int32) → Prop) (G2 : Int32 → Int32 → Int32 → Int32 → Int32 → Int32 → Int32 → (Nat → Int32) → (Nat → Int32) → (Nat → Int32) → (Nat → Int32) → (Nat → Int32) → Prop) (x2 : Int32) (x1 : Int32) (v_M_thrown : Int32) (v_M_n : Int32) (v_M_hasFactors : Int32) (v_M_hasSolution : Int32) (v_M_levels : Int32) (v_M_rowAt : (Nat → Int32)) (v_M_places : (Nat → Int32)) (v_M_rights : (Nat → Int32)) (v_M_weights : (Nat → Int32)) (v_M_a : (Nat → Int32)) : Prop := (16 ≤ x2 → (G2 0 x1 v_M_thrown v_M_n v_M_hasFactors v_M_hasSolution v_M_levels v_M_rowAt v_M_places v_M_rights v_M_weights v_M_a)) ∧ (¬ 16 ≤ x2 → (vp_in ((x1 + 1) + x2) 1830 ∧ (vp_in x2 16 ∧ (vp_in x2 16 ∧ (vp_in ((upd v_M_rowAt (Int32.toNatClampNeg x2) (M_stored (Int32.toNatClampNeg ((x1 + 1) + x2)))) (Int32.toNatClampNeg x2)) 16 ∧ (vp_in (((x1 + 1) + 16) + x2) 1830 ∧ (vp_in x2 16 ∧ (vp_in (((x1 + 1) + 32) + x2) 1830 ∧ (vp_in x2 16 ∧ (∀ x2_9 : Int32, x2_9 = x2 + 1 → (G1 x2_9 x1 v_M_thrown v_M_n v_M_hasFactors v_M_hasSolution v_M_levels (upd v_M_rowAt (Int32.toNatClampNeg x2) (M_stored (Int32.toNatClampNeg ((x1 + 1) + x2)))) (upd v_M_places (Int32.toNatClampNeg ((upd v_M_rowAt (Int32.toNatClampNeg x2) (M_stored (Int32.toNatClampNeg ((x1 + 1) + x2)))) (Int32.toNatClampNeg x2))) x2) (upd v_M_rights (Int32.toNatClampNeg x2) (M_stored (Int32.toNatClampNeg (((x1 + 1) + 16) + x2)))) (upd v_M_weights (Int32.toNatClampNeg x2) (M_stored (Int32.toNatClampNeg (((x1 + 1) + 32) + x2)))) v_M_a)))))))))))
def vc_X5_pop_2 (M_thrown : Int32) (M_n : Int32) (M_hasFactors : Int32) (M_hasSolution : Int32) (M_levels : Int32) (M_stored : (Nat → Int32)) (M_rowAt : (Nat → Int32)) (M_places : (Nat → Int32)) (M_rights : (Nat → Int32)) (M_weights : (Nat → Int32)) (M_a : (Nat → Int32)) (Q : Int32 → Int32 → Int32 → Int32 → Int32 → Int32 → (Nat → Int32) → (Nat → Int32) → (Nat → Int32) → (Nat → Int32) → (Nat → Int32) → Prop) (G1 : Int32 → Int32 → Int32 → Int32 → Int32 → Int32 → Int32 → (Nat → Int32) → (Nat → Int32) → (Nat → Int32) → (Nat → Int32) → (Nat → Int32) → Prop) (G2 : Int32 → Int32 → Int32 → Int32 → Int32 → Int32 → Int32 → (Nat → Int32) → (Nat → Int32) → (Nat → Int32) → (Nat → Int32) → (Nat → Int32) → Prop) (x2 : Int32) (x1 : Int32) (v_M_thrown : Int32) (v_M_n : Int32) (v_M_hasFactors : Int32) (v_M_hasSolution : Int32) (v_M_levels : Int32) (v_M_rowAt : (Nat → Int32)) (v_M_places : (Nat → Int32)) (v_M_rights : (Nat → Int32)) (v_M_weights : (Nat → Int32)) (v_M_a : (Nat → Int32)) : Prop := (256 ≤ x2 → (Q v_M_levels v_M_thrown v_M_n 0 0 v_M_levels v_M_rowAt v_M_places v_M_rights v_M_weights v_M_a)) ∧ (¬ 256 ≤ x2 → (vp_in (((x1 + 1) + 48) + x2) 1830 ∧ (vp_in x2 256 ∧ (∀ x2_3 : Int32, x2_3 = x2 + 1 → (G2 x2_3 x1 v_M_thrown v_M_n v_M_hasFactors v_M_hasSolution v_M_levels v_M_rowAt v_M_places v_M_rights v_M_weights (upd v_M_a (Int32.toNatClampNeg x2) (M_stored (Int32.toNatClampNeg (((x1 + 1) + 48) + x2)))))))))
def wp_X5_pop (M_thrown : Int32) (M_n : Int32) (M_hasFactors : Int32) (M_hasSolution : Int32) (M_levels : Int32) (M_stored : (Nat → Int32)) (M_rowAt : (Nat → Int32)) (M_places : (Nat → Int32)) (M_rights : (Nat → Int32)) (M_weights : (Nat → Int32)) (M_a : (Nat → Int32)) (Q : Int32 → Int32 → Int32 → Int32 → Int32 → Int32 → (Nat → Int32) → (Nat → Int32) → (Nat → Int32) → (Nat → Int32) → (Nat → Int32) → Prop) : Prop := ∀ (G1 : Int32 → Int32 → Int32 → Int32 → Int32 → Int32 → Int32 → (Nat → Int32) → (Nat → Int32) → (Nat → Int32) → (Nat → Int32) → (Nat → Int32) → Prop) (G2 : Int32 → Int32 → Int32 → Int32 → Int32 → Int32 → Int32 → (Nat → Int32) → (Nat → Int32) → (Nat → Int32) → (Nat → Int32) → (Nat → Int32) → Prop), (∀ (x2 : Int32) (x1 : Int32) (v_M_thrown : Int32) (v_M_n : Int32) (v_M_hasFactors : Int32) (v_M_hasSolution : Int32) (v_M_levels : Int32) (v_M_rowAt : (Nat → Int32)) (v_M_places : (Nat → Int32)) (v_M_rights : (Nat → Int32)) (v_M_weights : (Nat → Int32)) (v_M_a : (Nat → Int32)), vc_X5_pop_1 M_thrown M_n M_hasFactors M_hasSolution M_levels M_stored M_rowAt M_places M_rights M_weights M_a Q G1 G2 x2 x1 v_M_thrown v_M_n v_M_hasFactors v_M_hasSolution v_M_levels v_M_rowAt v_M_places v_M_rights v_M_weights v_M_a → G1 x2 x1 v_M_thrown v_M_n v_M_hasFactors v_M_hasSolution v_M_levels v_M_rowAt v_M_places v_M_rights v_M_weights v_M_a) → (∀ (x2 : Int32) (x1 : Int32) (v_M_thrown : Int32) (v_M_n : Int32) (v_M_hasFactors : Int32) (v_M_hasSolution : Int32) (v_M_levels : Int32) (v_M_rowAt : (Nat → Int32)) (v_M_places : (Nat → Int32)) (v_M_rights : (Nat → Int32)) (v_M_weights : (Nat → Int32)) (v_M_a : (Nat → Int32)), vc_X5_pop_2 M_thrown M_n M_hasFactors M_hasSolution M_levels M_stored M_rowAt M_places M_rights M_weights M_a Q G1 G2 x2 x1 v_M_thrown v_M_n v_M_hasFactors v_M_hasSolution v_M_levels v_M_rowAt v_M_places v_M_rights v_M_weights v_M_a → G2 x2 x1 v_M_thrown v_M_n v_M_hasFactors v_M_hasSolution v_M_levels v_M_rowAt v_M_places v_M_rights v_M_weights v_M_a) → vc_X5_pop_0 M_thrown M_n M_hasFactors M_hasSolution M_levels M_stored M_rowAt M_places M_rights M_weights M_a Q G1 G2
abbrev w0_X5_pop (g : cx_G) (a_M a_M_a a_M_rowAt a_M_places a_M_rights a_M_weights a_M_pivots a_M_lower a_M_solution a_M_work a_M_isJoined a_M_stored : Nat) (M_thrown : Int32) (M_n : Int32) (M_hasFactors : Int32) (M_hasSolution : Int32) (M_levels : Int32) (M_stored : (Nat → Int32)) (M_rowAt : (Nat → Int32)) (M_places : (Nat → Int32)) (M_rights : (Nat → Int32)) (M_weights : (Nat → Int32)) (M_a : (Nat → Int32)) : va_W := [(a_M, .inr (5, [.int M_thrown, .int M_n, .ref a_M_a, .ref a_M_rowAt, .ref a_M_places, .ref a_M_rights, .ref a_M_weights, .int M_hasFactors, .ref a_M_pivots, .ref a_M_lower, .int M_hasSolution, .ref a_M_solution, .ref a_M_work, .ref a_M_isJoined, .int M_levels, .ref a_M_stored])), (a_M_stored, .inl (g.2.1, 1830, .inl M_stored)), (a_M_rowAt, .inl (g.2.1, 16, .inl M_rowAt)), (a_M_places, .inl (g.2.1, 16, .inl M_places)), (a_M_rights, .inl (g.2.1, 16, .inl M_rights)), (a_M_weights, .inl (g.2.1, 16, .inl M_weights)), (a_M_a, .inl (g.2.1, 256, .inl M_a))]
abbrev w1_X5_pop (g : cx_G) (a_M a_M_a a_M_rowAt a_M_places a_M_rights a_M_weights a_M_pivots a_M_lower a_M_solution a_M_work a_M_isJoined a_M_stored : Nat) (M_thrown : Int32) (M_n : Int32) (M_hasFactors : Int32) (M_hasSolution : Int32) (M_levels : Int32) (M_stored : (Nat → Int32)) (M_rowAt : (Nat → Int32)) (M_places : (Nat → Int32)) (M_rights : (Nat → Int32)) (M_weights : (Nat → Int32)) (M_a : (Nat → Int32)) (u : Int32 × Int32 × Int32 × Int32 × Int32 × (Nat → Int32) × (Nat → Int32) × (Nat → Int32) × (Nat → Int32) × (Nat → Int32)) : va_W := [(a_M, .inr (5, [.int u.1, .int u.2.1, .ref a_M_a, .ref a_M_rowAt, .ref a_M_places, .ref a_M_rights, .ref a_M_weights, .int u.2.2.1, .ref a_M_pivots, .ref a_M_lower, .int u.2.2.2.1, .ref a_M_solution, .ref a_M_work, .ref a_M_isJoined, .int u.2.2.2.2.1, .ref a_M_stored])), (a_M_stored, .inl (g.2.1, 1830, .inl M_stored)), (a_M_rowAt, .inl (g.2.1, 16, .inl u.2.2.2.2.2.1)), (a_M_places, .inl (g.2.1, 16, .inl u.2.2.2.2.2.2.1)), (a_M_rights, .inl (g.2.1, 16, .inl u.2.2.2.2.2.2.2.1)), (a_M_weights, .inl (g.2.1, 16, .inl u.2.2.2.2.2.2.2.2.1)), (a_M_a, .inl (g.2.1, 256, .inl u.2.2.2.2.2.2.2.2.2))]
set_option maxHeartbeats 4000000 in
set_option maxRecDepth 100000 in
theorem c_X5_pop (l : Launch) (g : cx_G) (a_M a_M_a a_M_rowAt a_M_places a_M_rights a_M_weights a_M_pivots a_M_lower a_M_solution a_M_work a_M_isJoined a_M_stored : Nat) (M_thrown : Int32) (M_n : Int32) (M_hasFactors : Int32) (M_hasSolution : Int32) (M_levels : Int32) (M_stored : (Nat → Int32)) (M_rowAt : (Nat → Int32)) (M_places : (Nat → Int32)) (M_rights : (Nat → Int32)) (M_weights : (Nat → Int32)) (M_a : (Nat → Int32)) {Q : Int32 → Int32 → Int32 → Int32 → Int32 → Int32 → (Nat → Int32) → (Nat → Int32) → (Nat → Int32) → (Nat → Int32) → (Nat → Int32) → Prop} (hv : wp_X5_pop M_thrown M_n M_hasFactors M_hasSolution M_levels M_stored M_rowAt M_places M_rights M_weights M_a Q) : cx_Mi l g yX5_pop (Cond.code yX5_pop cX5_pop 3 (some .int) :: cx_T) ({ frames := 1, cells := 0, slots := 0, locals := 21 } : Room) [.ref a_M] (w0_X5_pop g a_M a_M_a a_M_rowAt a_M_places a_M_rights a_M_weights a_M_pivots a_M_lower a_M_solution a_M_work a_M_isJoined a_M_stored M_thrown M_n M_hasFactors M_hasSolution M_levels M_stored M_rowAt M_places M_rights M_weights M_a) (fun (r : Int32) (u : Int32 × Int32 × Int32 × Int32 × Int32 × (Nat → Int32) × (Nat → Int32) × (Nat → Int32) × (Nat → Int32) × (Nat → Int32)) => Q r u.1 u.2.1 u.2.2.1 u.2.2.2.1 u.2.2.2.2.1 u.2.2.2.2.2.1 u.2.2.2.2.2.2.1 u.2.2.2.2.2.2.2.1 u.2.2.2.2.2.2.2.2.1 u.2.2.2.2.2.2.2.2.2) (w1_X5_pop g a_M a_M_a a_M_rowAt a_M_places a_M_rights a_M_weights a_M_pivots a_M_lower a_M_solution a_M_work a_M_isJoined a_M_stored M_thrown M_n M_hasFactors M_hasSolution M_levels M_stored M_rowAt M_places M_rights M_weights M_a) 0 0 := by
  intro sz
  refine Met.ofW (cc := cX5_pop) (maxL := 3) (ret := (some .int)) (by decide) rfl ?_
  intro p e s m args below meth c s₁ B hml hpre
  obtain ⟨rfl, hsz, hP, hK, hD0⟩ := hpre
  have hx := B.exec
  have hb := B.bytes
  have hr := B.returns
  have hts0 := atoms_spec (ws := (Cond.code yX5_pop cX5_pop 3 (some .int) :: cx_T)) B.pre
  have hts : ∀ w ∈ cx_T, w.before _ s = true := fun w h => hts0 w (List.mem_cons_of_mem _ h)
  have hown : s.vm.findClass RX5 = some m.cls := findClass_of_methodNamed B.named
  have hlocks := B.notSynchronized
  subst hsz
  have hD := hD0.self (sz := s.heap.size)
  obtain ⟨A, hAe⟩ : ∃ A : Nat → Prop, A = va_A (w0_X5_pop g a_M a_M_a a_M_rowAt a_M_places a_M_rights a_M_weights a_M_pivots a_M_lower a_M_solution a_M_work a_M_isJoined a_M_stored M_thrown M_n M_hasFactors M_hasSolution M_levels M_stored M_rowAt M_places M_rights M_weights M_a) s.heap.size := ⟨_, rfl⟩
  rw [← hAe] at hD
  have hA : ∀ q : Nat, s.heap.size ≤ q → A q := fun q h => by rw [hAe]; exact Or.inr h
  have hS : va_S A s.heap s.heap [] := va_S.rf
  have hP : va_P g.1 vwCl [(a_M, .inr (5, [.int M_thrown, .int M_n, .ref a_M_a, .ref a_M_rowAt, .ref a_M_places, .ref a_M_rights, .ref a_M_weights, .int M_hasFactors, .ref a_M_pivots, .ref a_M_lower, .int M_hasSolution, .ref a_M_solution, .ref a_M_work, .ref a_M_isJoined, .int M_levels, .ref a_M_stored])), (a_M_stored, .inl (g.2.1, 1830, .inl M_stored)), (a_M_rowAt, .inl (g.2.1, 16, .inl M_rowAt)), (a_M_places, .inl (g.2.1, 16, .inl M_places)), (a_M_rights, .inl (g.2.1, 16, .inl M_rights)), (a_M_weights, .inl (g.2.1, 16, .inl M_weights)), (a_M_a, .inl (g.2.1, 256, .inl M_a))] s.heap := hP
  have hD : va_D A [(a_M, .inr (5, [.int M_thrown, .int M_n, .ref a_M_a, .ref a_M_rowAt, .ref a_M_places, .ref a_M_rights, .ref a_M_weights, .int M_hasFactors, .ref a_M_pivots, .ref a_M_lower, .int M_hasSolution, .ref a_M_solution, .ref a_M_work, .ref a_M_isJoined, .int M_levels, .ref a_M_stored])), (a_M_stored, .inl (g.2.1, 1830, .inl M_stored)), (a_M_rowAt, .inl (g.2.1, 16, .inl M_rowAt)), (a_M_places, .inl (g.2.1, 16, .inl M_places)), (a_M_rights, .inl (g.2.1, 16, .inl M_rights)), (a_M_weights, .inl (g.2.1, 16, .inl M_weights)), (a_M_a, .inl (g.2.1, 256, .inl M_a))] := hD
  have hl := lv_entry ([.ref a_M]) (n := 3) (Nat.le_of_ble_eq_true rfl)
  rw [lg_entry_eq]
  generalize (lg_sl ([.ref a_M]) ++ List.replicate (3 - (lg_sl ([.ref a_M])).length) Slot.unset).toArray = ls at hl ⊢
  have hl : lv_has ls 3 [(0, .ref a_M)] := hl
  obtain ⟨G1, hG1⟩ : ∃ G : Int32 → Int32 → Int32 → Int32 → Int32 → Int32 → Int32 → (Nat → Int32) → (Nat → Int32) → (Nat → Int32) → (Nat → Int32) → (Nat → Int32) → Prop, G = (fun (x2 : Int32) (x1 : Int32) (v_M_thrown : Int32) (v_M_n : Int32) (v_M_hasFactors : Int32) (v_M_hasSolution : Int32) (v_M_levels : Int32) (v_M_rowAt : (Nat → Int32)) (v_M_places : (Nat → Int32)) (v_M_rights : (Nat → Int32)) (v_M_weights : (Nat → Int32)) (v_M_a : (Nat → Int32)) => ∀ (H : Heap) (locs : List Loc) (ls : Array Slot), va_P g.1 vwCl [(a_M, .inr (5, [.int v_M_thrown, .int v_M_n, .ref a_M_a, .ref a_M_rowAt, .ref a_M_places, .ref a_M_rights, .ref a_M_weights, .int v_M_hasFactors, .ref a_M_pivots, .ref a_M_lower, .int v_M_hasSolution, .ref a_M_solution, .ref a_M_work, .ref a_M_isJoined, .int v_M_levels, .ref a_M_stored])), (a_M_stored, .inl (g.2.1, 1830, .inl M_stored)), (a_M_rowAt, .inl (g.2.1, 16, .inl v_M_rowAt)), (a_M_places, .inl (g.2.1, 16, .inl v_M_places)), (a_M_rights, .inl (g.2.1, 16, .inl v_M_rights)), (a_M_weights, .inl (g.2.1, 16, .inl v_M_weights)), (a_M_a, .inl (g.2.1, 256, .inl v_M_a))] H → va_D A [(a_M, .inr (5, [.int v_M_thrown, .int v_M_n, .ref a_M_a, .ref a_M_rowAt, .ref a_M_places, .ref a_M_rights, .ref a_M_weights, .int v_M_hasFactors, .ref a_M_pivots, .ref a_M_lower, .int v_M_hasSolution, .ref a_M_solution, .ref a_M_work, .ref a_M_isJoined, .int v_M_levels, .ref a_M_stored])), (a_M_stored, .inl (g.2.1, 1830, .inl M_stored)), (a_M_rowAt, .inl (g.2.1, 16, .inl v_M_rowAt)), (a_M_places, .inl (g.2.1, 16, .inl v_M_places)), (a_M_rights, .inl (g.2.1, 16, .inl v_M_rights)), (a_M_weights, .inl (g.2.1, 16, .inl v_M_weights)), (a_M_a, .inl (g.2.1, 256, .inl v_M_a))] → va_S A s.heap H locs → lv_has ls 3 [(2, .int x2), (1, .int x1), (0, .ref a_M)] → W p l e (headSpec (Cond.code yX5_pop cX5_pop 3 (some .int) :: cx_T) ({ frames := 1, cells := 0, slots := 0, locals := 21 } : Room)).room s m ([.ref a_M] : List Value).toArray below meth c H locs 0 0 (MQ below (va_Qi (fun (r : Int32) (u : Int32 × Int32 × Int32 × Int32 × Int32 × (Nat → Int32) × (Nat → Int32) × (Nat → Int32) × (Nat → Int32) × (Nat → Int32)) => Q r u.1 u.2.1 u.2.2.1 u.2.2.2.1 u.2.2.2.2.1 u.2.2.2.2.2.1 u.2.2.2.2.2.2.1 u.2.2.2.2.2.2.2.1 u.2.2.2.2.2.2.2.2.1 u.2.2.2.2.2.2.2.2.2) (cx_B g (w0_X5_pop g a_M a_M_a a_M_rowAt a_M_places a_M_rights a_M_weights a_M_pivots a_M_lower a_M_solution a_M_work a_M_isJoined a_M_stored M_thrown M_n M_hasFactors M_hasSolution M_levels M_stored M_rowAt M_places M_rights M_weights M_a) s.heap.size (w1_X5_pop g a_M a_M_a a_M_rowAt a_M_places a_M_rights a_M_weights a_M_pivots a_M_lower a_M_solution a_M_work a_M_isJoined a_M_stored M_thrown M_n M_hasFactors M_hasSolution M_levels M_stored M_rowAt M_places M_rights M_weights M_a)) (va_A (w0_X5_pop g a_M a_M_a a_M_rowAt a_M_places a_M_rights a_M_weights a_M_pivots a_M_lower a_M_solution a_M_work a_M_isJoined a_M_stored M_thrown M_n M_hasFactors M_hasSolution M_levels M_stored M_rowAt M_places M_rights M_weights M_a) s.heap.size)) ([.ref a_M] : List Value).toArray s 0 0 (va_A (w0_X5_pop g a_M a_M_a a_M_rowAt a_M_places a_M_rights a_M_weights a_M_pivots a_M_lower a_M_solution a_M_work a_M_isJoined a_M_stored M_thrown M_n M_hasFactors M_hasSolution M_levels M_stored M_rowAt M_places M_rights M_weights M_a) s.heap.size)) (F0 m 49 ls [])) := ⟨_, rfl⟩
  obtain ⟨G2, hG2⟩ : ∃ G : Int32 → Int32 → Int32 → Int32 → Int32 → Int32 → Int32 → (Nat → Int32) → (Nat → Int32) → (Nat → Int32) → (Nat → Int32) → (Nat → Int32) → Prop, G = (fun (x2 : Int32) (x1 : Int32) (v_M_thrown : Int32) (v_M_n : Int32) (v_M_hasFactors : Int32) (v_M_hasSolution : Int32) (v_M_levels : Int32) (v_M_rowAt : (Nat → Int32)) (v_M_places : (Nat → Int32)) (v_M_rights : (Nat → Int32)) (v_M_weights : (Nat → Int32)) (v_M_a : (Nat → Int32)) => ∀ (H : Heap) (locs : List Loc) (ls : Array Slot), va_P g.1 vwCl [(a_M, .inr (5, [.int v_M_thrown, .int v_M_n, .ref a_M_a, .ref a_M_rowAt, .ref a_M_places, .ref a_M_rights, .ref a_M_weights, .int v_M_hasFactors, .ref a_M_pivots, .ref a_M_lower, .int v_M_hasSolution, .ref a_M_solution, .ref a_M_work, .ref a_M_isJoined, .int v_M_levels, .ref a_M_stored])), (a_M_stored, .inl (g.2.1, 1830, .inl M_stored)), (a_M_rowAt, .inl (g.2.1, 16, .inl v_M_rowAt)), (a_M_places, .inl (g.2.1, 16, .inl v_M_places)), (a_M_rights, .inl (g.2.1, 16, .inl v_M_rights)), (a_M_weights, .inl (g.2.1, 16, .inl v_M_weights)), (a_M_a, .inl (g.2.1, 256, .inl v_M_a))] H → va_D A [(a_M, .inr (5, [.int v_M_thrown, .int v_M_n, .ref a_M_a, .ref a_M_rowAt, .ref a_M_places, .ref a_M_rights, .ref a_M_weights, .int v_M_hasFactors, .ref a_M_pivots, .ref a_M_lower, .int v_M_hasSolution, .ref a_M_solution, .ref a_M_work, .ref a_M_isJoined, .int v_M_levels, .ref a_M_stored])), (a_M_stored, .inl (g.2.1, 1830, .inl M_stored)), (a_M_rowAt, .inl (g.2.1, 16, .inl v_M_rowAt)), (a_M_places, .inl (g.2.1, 16, .inl v_M_places)), (a_M_rights, .inl (g.2.1, 16, .inl v_M_rights)), (a_M_weights, .inl (g.2.1, 16, .inl v_M_weights)), (a_M_a, .inl (g.2.1, 256, .inl v_M_a))] → va_S A s.heap H locs → lv_has ls 3 [(2, .int x2), (1, .int x1), (0, .ref a_M)] → W p l e (headSpec (Cond.code yX5_pop cX5_pop 3 (some .int) :: cx_T) ({ frames := 1, cells := 0, slots := 0, locals := 21 } : Room)).room s m ([.ref a_M] : List Value).toArray below meth c H locs 0 0 (MQ below (va_Qi (fun (r : Int32) (u : Int32 × Int32 × Int32 × Int32 × Int32 × (Nat → Int32) × (Nat → Int32) × (Nat → Int32) × (Nat → Int32) × (Nat → Int32)) => Q r u.1 u.2.1 u.2.2.1 u.2.2.2.1 u.2.2.2.2.1 u.2.2.2.2.2.1 u.2.2.2.2.2.2.1 u.2.2.2.2.2.2.2.1 u.2.2.2.2.2.2.2.2.1 u.2.2.2.2.2.2.2.2.2) (cx_B g (w0_X5_pop g a_M a_M_a a_M_rowAt a_M_places a_M_rights a_M_weights a_M_pivots a_M_lower a_M_solution a_M_work a_M_isJoined a_M_stored M_thrown M_n M_hasFactors M_hasSolution M_levels M_stored M_rowAt M_places M_rights M_weights M_a) s.heap.size (w1_X5_pop g a_M a_M_a a_M_rowAt a_M_places a_M_rights a_M_weights a_M_pivots a_M_lower a_M_solution a_M_work a_M_isJoined a_M_stored M_thrown M_n M_hasFactors M_hasSolution M_levels M_stored M_rowAt M_places M_rights M_weights M_a)) (va_A (w0_X5_pop g a_M a_M_a a_M_rowAt a_M_places a_M_rights a_M_weights a_M_pivots a_M_lower a_M_solution a_M_work a_M_isJoined a_M_stored M_thrown M_n M_hasFactors M_hasSolution M_levels M_stored M_rowAt M_places M_rights M_weights M_a) s.heap.size)) ([.ref a_M] : List Value).toArray s 0 0 (va_A (w0_X5_pop g a_M a_M_a a_M_rowAt a_M_places a_M_rights a_M_weights a_M_pivots a_M_lower a_M_solution a_M_work a_M_isJoined a_M_stored M_thrown M_n M_hasFactors M_hasSolution M_levels M_stored M_rowAt M_places M_rights M_weights M_a) s.heap.size)) (F0 m 129 ls [])) := ⟨_, rfl⟩
  have hs1 : ∀ (x2 : Int32) (x1 : Int32) (v_M_thrown : Int32) (v_M_n : Int32) (v_M_hasFactors : Int32) (v_M_hasSolution : Int32) (v_M_levels : Int32) (v_M_rowAt : (Nat → Int32)) (v_M_places : (Nat → Int32)) (v_M_rights : (Nat → Int32)) (v_M_weights : (Nat → Int32)) (v_M_a : (Nat → Int32)), vc_X5_pop_1 M_thrown M_n M_hasFactors M_hasSolution M_levels M_stored M_rowAt M_places M_rights M_weights M_a Q G1 G2 x2 x1 v_M_thrown v_M_n v_M_hasFactors v_M_hasSolution v_M_levels v_M_rowAt v_M_places v_M_rights v_M_weights v_M_a → G1 x2 x1 v_M_thrown v_M_n v_M_hasFactors v_M_hasSolution v_M_levels v_M_rowAt v_M_places v_M_rights v_M_weights v_M_a := by
    rw [hG1, hG2]
    intro x2 x1 v_M_thrown v_M_n v_M_hasFactors v_M_hasSolution v_M_levels v_M_rowAt v_M_places v_M_rights v_M_weights v_M_a hv H locs ls hP hD hS hl
    unfold vc_X5_pop_1 at hv
    refine lv_iload_n hx hb dX5_pop_49 rfl (lv_at hl 0 rfl) ?_
    refine lv_bipush (v := 16) hx hb dX5_pop_50 (by decide) ?_
    refine lv_icmp_ge (tgt := 127) hx hb dX5_pop_52 (by decide) (fun hc => ?_) (fun hc => ?_)
    · replace hv := hv.1 hc
      refine lv_iconst (v := 0) hx hb dX5_pop_127 (by decide) ?_
      refine lv_istore_n (lv' := [(2, .int 0), (1, .int x1), (0, .ref a_M)]) hx hb dX5_pop_128 rfl hl (by decide) rfl (fun ls hl => ?_)
      exact hv _ _ _ hP hD hS (lv_sub hl [0, 1, 2] rfl)
    · replace hv := hv.2 hc
      refine lv_aload_n hx hb dX5_pop_55 rfl (lv_at hl 2 rfl) ?_
      refine va_get (D := g.1) (ci := 5) (v := .ref a_M_rowAt) (C := RX5) (T := TX5) (N := 16) hx hb hts cw_in_X5 hown hK.1 hP 0 rfl rfl 3 (by decide) (hts _ cw_f_X5_17) (fun _ h9 => h9) rfl dX5_pop_56 ?_
      refine lv_iload_n hx hb dX5_pop_59 rfl (lv_at hl 0 rfl) ?_
      refine lv_aload_n hx hb dX5_pop_60 rfl (lv_at hl 2 rfl) ?_
      refine va_get (D := g.1) (ci := 5) (v := .ref a_M_stored) (C := RX5) (T := TX5) (N := 16) hx hb hts cw_in_X5 hown hK.1 hP 0 rfl rfl 15 (by decide) (hts _ cw_f_X5_45) (fun _ h9 => h9) rfl dX5_pop_61 ?_
      refine lv_iload_n hx hb dX5_pop_64 rfl (lv_at hl 1 rfl) ?_
      refine lv_iconst (v := 1) hx hb dX5_pop_65 (by decide) ?_
      refine lv_iadd hx hb dX5_pop_66 ?_
      refine lv_iload_n hx hb dX5_pop_67 rfl (lv_at hl 0 rfl) ?_
      refine lv_iadd hx hb dX5_pop_68 ?_
      obtain ⟨h_1, hv⟩ := hv
      refine va_iald (D := g.1) hx hb hK.1 hP 1 0 rfl rfl h_1 dX5_pop_69 ?_
      obtain ⟨h_2, hv⟩ := hv
      refine va_iast (D := g.1) hx hb hK.1 hP hD hS 2 0 rfl rfl h_2 dX5_pop_70 (fun H locs hP hD hS => ?_)
      have hP : va_P g.1 vwCl [(a_M, .inr (5, [.int v_M_thrown, .int v_M_n, .ref a_M_a, .ref a_M_rowAt, .ref a_M_places, .ref a_M_rights, .ref a_M_weights, .int v_M_hasFactors, .ref a_M_pivots, .ref a_M_lower, .int v_M_hasSolution, .ref a_M_solution, .ref a_M_work, .ref a_M_isJoined, .int v_M_levels, .ref a_M_stored])), (a_M_stored, .inl (g.2.1, 1830, .inl M_stored)), (a_M_rowAt, .inl (g.2.1, 16, .inl (upd v_M_rowAt (Int32.toNatClampNeg x2) (M_stored (Int32.toNatClampNeg ((x1 + 1) + x2)))))), (a_M_places, .inl (g.2.1, 16, .inl v_M_places)), (a_M_rights, .inl (g.2.1, 16, .inl v_M_rights)), (a_M_weights, .inl (g.2.1, 16, .inl v_M_weights)), (a_M_a, .inl (g.2.1, 256, .inl v_M_a))] H := hP
      have hD : va_D A [(a_M, .inr (5, [.int v_M_thrown, .int v_M_n, .ref a_M_a, .ref a_M_rowAt, .ref a_M_places, .ref a_M_rights, .ref a_M_weights, .int v_M_hasFactors, .ref a_M_pivots, .ref a_M_lower, .int v_M_hasSolution, .ref a_M_solution, .ref a_M_work, .ref a_M_isJoined, .int v_M_levels, .ref a_M_stored])), (a_M_stored, .inl (g.2.1, 1830, .inl M_stored)), (a_M_rowAt, .inl (g.2.1, 16, .inl (upd v_M_rowAt (Int32.toNatClampNeg x2) (M_stored (Int32.toNatClampNeg ((x1 + 1) + x2)))))), (a_M_places, .inl (g.2.1, 16, .inl v_M_places)), (a_M_rights, .inl (g.2.1, 16, .inl v_M_rights)), (a_M_weights, .inl (g.2.1, 16, .inl v_M_weights)), (a_M_a, .inl (g.2.1, 256, .inl v_M_a))] := hD
      refine lv_aload_n hx hb dX5_pop_71 rfl (lv_at hl 2 rfl) ?_
      refine va_get (D := g.1) (ci := 5) (v := .ref a_M_places) (C := RX5) (T := TX5) (N := 16) hx hb hts cw_in_X5 hown hK.1 hP 0 rfl rfl 4 (by decide) (hts _ cw_f_X5_20) (fun _ h9 => h9) rfl dX5_pop_72 ?_
      refine lv_aload_n hx hb dX5_pop_75 rfl (lv_at hl 2 rfl) ?_
      refine va_get (D := g.1) (ci := 5) (v := .ref a_M_rowAt) (C := RX5) (T := TX5) (N := 16) hx hb hts cw_in_X5 hown hK.1 hP 0 rfl rfl 3 (by decide) (hts _ cw_f_X5_17) (fun _ h9 => h9) rfl dX5_pop_76 ?_
      refine lv_iload_n hx hb dX5_pop_79 rfl (lv_at hl 0 rfl) ?_
      obtain ⟨h_3, hv⟩ := hv
      refine va_iald (D := g.1) hx hb hK.1 hP 2 0 rfl rfl h_3 dX5_pop_80 ?_
      refine lv_iload_n hx hb dX5_pop_81 rfl (lv_at hl 0 rfl) ?_
      obtain ⟨h_4, hv⟩ := hv
      refine va_iast (D := g.1) hx hb hK.1 hP hD hS 3 0 rfl rfl h_4 dX5_pop_82 (fun H locs hP hD hS => ?_)
      have hP : va_P g.1 vwCl [(a_M, .inr (5, [.int v_M_thrown, .int v_M_n, .ref a_M_a, .ref a_M_rowAt, .ref a_M_places, .ref a_M_rights, .ref a_M_weights, .int v_M_hasFactors, .ref a_M_pivots, .ref a_M_lower, .int v_M_hasSolution, .ref a_M_solution, .ref a_M_work, .ref a_M_isJoined, .int v_M_levels, .ref a_M_stored])), (a_M_stored, .inl (g.2.1, 1830, .inl M_stored)), (a_M_rowAt, .inl (g.2.1, 16, .inl (upd v_M_rowAt (Int32.toNatClampNeg x2) (M_stored (Int32.toNatClampNeg ((x1 + 1) + x2)))))), (a_M_places, .inl (g.2.1, 16, .inl (upd v_M_places (Int32.toNatClampNeg ((upd v_M_rowAt (Int32.toNatClampNeg x2) (M_stored (Int32.toNatClampNeg ((x1 + 1) + x2)))) (Int32.toNatClampNeg x2))) x2))), (a_M_rights, .inl (g.2.1, 16, .inl v_M_rights)), (a_M_weights, .inl (g.2.1, 16, .inl v_M_weights)), (a_M_a, .inl (g.2.1, 256, .inl v_M_a))] H := hP
      have hD : va_D A [(a_M, .inr (5, [.int v_M_thrown, .int v_M_n, .ref a_M_a, .ref a_M_rowAt, .ref a_M_places, .ref a_M_rights, .ref a_M_weights, .int v_M_hasFactors, .ref a_M_pivots, .ref a_M_lower, .int v_M_hasSolution, .ref a_M_solution, .ref a_M_work, .ref a_M_isJoined, .int v_M_levels, .ref a_M_stored])), (a_M_stored, .inl (g.2.1, 1830, .inl M_stored)), (a_M_rowAt, .inl (g.2.1, 16, .inl (upd v_M_rowAt (Int32.toNatClampNeg x2) (M_stored (Int32.toNatClampNeg ((x1 + 1) + x2)))))), (a_M_places, .inl (g.2.1, 16, .inl (upd v_M_places (Int32.toNatClampNeg ((upd v_M_rowAt (Int32.toNatClampNeg x2) (M_stored (Int32.toNatClampNeg ((x1 + 1) + x2)))) (Int32.toNatClampNeg x2))) x2))), (a_M_rights, .inl (g.2.1, 16, .inl v_M_rights)), (a_M_weights, .inl (g.2.1, 16, .inl v_M_weights)), (a_M_a, .inl (g.2.1, 256, .inl v_M_a))] := hD
      refine lv_aload_n hx hb dX5_pop_83 rfl (lv_at hl 2 rfl) ?_
      refine va_get (D := g.1) (ci := 5) (v := .ref a_M_rights) (C := RX5) (T := TX5) (N := 16) hx hb hts cw_in_X5 hown hK.1 hP 0 rfl rfl 5 (by decide) (hts _ cw_f_X5_23) (fun _ h9 => h9) rfl dX5_pop_84 ?_
      refine lv_iload_n hx hb dX5_pop_87 rfl (lv_at hl 0 rfl) ?_
      refine lv_aload_n hx hb dX5_pop_88 rfl (lv_at hl 2 rfl) ?_
      refine va_get (D := g.1) (ci := 5) (v := .ref a_M_stored) (C := RX5) (T := TX5) (N := 16) hx hb hts cw_in_X5 hown hK.1 hP 0 rfl rfl 15 (by decide) (hts _ cw_f_X5_45) (fun _ h9 => h9) rfl dX5_pop_89 ?_
      refine lv_iload_n hx hb dX5_pop_92 rfl (lv_at hl 1 rfl) ?_
      refine lv_iconst (v := 1) hx hb dX5_pop_93 (by decide) ?_
      refine lv_iadd hx hb dX5_pop_94 ?_
      refine lv_bipush (v := 16) hx hb dX5_pop_95 (by decide) ?_
      refine lv_iadd hx hb dX5_pop_97 ?_
      refine lv_iload_n hx hb dX5_pop_98 rfl (lv_at hl 0 rfl) ?_
      refine lv_iadd hx hb dX5_pop_99 ?_
      obtain ⟨h_5, hv⟩ := hv
      refine va_iald (D := g.1) hx hb hK.1 hP 1 0 rfl rfl h_5 dX5_pop_100 ?_
      obtain ⟨h_6, hv⟩ := hv
      refine va_iast (D := g.1) hx hb hK.1 hP hD hS 4 0 rfl rfl h_6 dX5_pop_101 (fun H locs hP hD hS => ?_)
      have hP : va_P g.1 vwCl [(a_M, .inr (5, [.int v_M_thrown, .int v_M_n, .ref a_M_a, .ref a_M_rowAt, .ref a_M_places, .ref a_M_rights, .ref a_M_weights, .int v_M_hasFactors, .ref a_M_pivots, .ref a_M_lower, .int v_M_hasSolution, .ref a_M_solution, .ref a_M_work, .ref a_M_isJoined, .int v_M_levels, .ref a_M_stored])), (a_M_stored, .inl (g.2.1, 1830, .inl M_stored)), (a_M_rowAt, .inl (g.2.1, 16, .inl (upd v_M_rowAt (Int32.toNatClampNeg x2) (M_stored (Int32.toNatClampNeg ((x1 + 1) + x2)))))), (a_M_places, .inl (g.2.1, 16, .inl (upd v_M_places (Int32.toNatClampNeg ((upd v_M_rowAt (Int32.toNatClampNeg x2) (M_stored (Int32.toNatClampNeg ((x1 + 1) + x2)))) (Int32.toNatClampNeg x2))) x2))), (a_M_rights, .inl (g.2.1, 16, .inl (upd v_M_rights (Int32.toNatClampNeg x2) (M_stored (Int32.toNatClampNeg (((x1 + 1) + 16) + x2)))))), (a_M_weights, .inl (g.2.1, 16, .inl v_M_weights)), (a_M_a, .inl (g.2.1, 256, .inl v_M_a))] H := hP
      have hD : va_D A [(a_M, .inr (5, [.int v_M_thrown, .int v_M_n, .ref a_M_a, .ref a_M_rowAt, .ref a_M_places, .ref a_M_rights, .ref a_M_weights, .int v_M_hasFactors, .ref a_M_pivots, .ref a_M_lower, .int v_M_hasSolution, .ref a_M_solution, .ref a_M_work, .ref a_M_isJoined, .int v_M_levels, .ref a_M_stored])), (a_M_stored, .inl (g.2.1, 1830, .inl M_stored)), (a_M_rowAt, .inl (g.2.1, 16, .inl (upd v_M_rowAt (Int32.toNatClampNeg x2) (M_stored (Int32.toNatClampNeg ((x1 + 1) + x2)))))), (a_M_places, .inl (g.2.1, 16, .inl (upd v_M_places (Int32.toNatClampNeg ((upd v_M_rowAt (Int32.toNatClampNeg x2) (M_stored (Int32.toNatClampNeg ((x1 + 1) + x2)))) (Int32.toNatClampNeg x2))) x2))), (a_M_rights, .inl (g.2.1, 16, .inl (upd v_M_rights (Int32.toNatClampNeg x2) (M_stored (Int32.toNatClampNeg (((x1 + 1) + 16) + x2)))))), (a_M_weights, .inl (g.2.1, 16, .inl v_M_weights)), (a_M_a, .inl (g.2.1, 256, .inl v_M_a))] := hD
      refine lv_aload_n hx hb dX5_pop_102 rfl (lv_at hl 2 rfl) ?_
      refine va_get (D := g.1) (ci := 5) (v := .ref a_M_weights) (C := RX5) (T := TX5) (N := 16) hx hb hts cw_in_X5 hown hK.1 hP 0 rfl rfl 6 (by decide) (hts _ cw_f_X5_26) (fun _ h9 => h9) rfl dX5_pop_103 ?_
      refine lv_iload_n hx hb dX5_pop_106 rfl (lv_at hl 0 rfl) ?_
      refine lv_aload_n hx hb dX5_pop_107 rfl (lv_at hl 2 rfl) ?_
      refine va_get (D := g.1) (ci := 5) (v := .ref a_M_stored) (C := RX5) (T := TX5) (N := 16) hx hb hts cw_in_X5 hown hK.1 hP 0 rfl rfl 15 (by decide) (hts _ cw_f_X5_45) (fun _ h9 => h9) rfl dX5_pop_108 ?_
      refine lv_iload_n hx hb dX5_pop_111 rfl (lv_at hl 1 rfl) ?_
      refine lv_iconst (v := 1) hx hb dX5_pop_112 (by decide) ?_
      refine lv_iadd hx hb dX5_pop_113 ?_
      refine lv_bipush (v := 32) hx hb dX5_pop_114 (by decide) ?_
      refine lv_iadd hx hb dX5_pop_116 ?_
      refine lv_iload_n hx hb dX5_pop_117 rfl (lv_at hl 0 rfl) ?_
      refine lv_iadd hx hb dX5_pop_118 ?_
      obtain ⟨h_7, hv⟩ := hv
      refine va_iald (D := g.1) hx hb hK.1 hP 1 0 rfl rfl h_7 dX5_pop_119 ?_
      obtain ⟨h_8, hv⟩ := hv
      refine va_iast (D := g.1) hx hb hK.1 hP hD hS 5 0 rfl rfl h_8 dX5_pop_120 (fun H locs hP hD hS => ?_)
      have hP : va_P g.1 vwCl [(a_M, .inr (5, [.int v_M_thrown, .int v_M_n, .ref a_M_a, .ref a_M_rowAt, .ref a_M_places, .ref a_M_rights, .ref a_M_weights, .int v_M_hasFactors, .ref a_M_pivots, .ref a_M_lower, .int v_M_hasSolution, .ref a_M_solution, .ref a_M_work, .ref a_M_isJoined, .int v_M_levels, .ref a_M_stored])), (a_M_stored, .inl (g.2.1, 1830, .inl M_stored)), (a_M_rowAt, .inl (g.2.1, 16, .inl (upd v_M_rowAt (Int32.toNatClampNeg x2) (M_stored (Int32.toNatClampNeg ((x1 + 1) + x2)))))), (a_M_places, .inl (g.2.1, 16, .inl (upd v_M_places (Int32.toNatClampNeg ((upd v_M_rowAt (Int32.toNatClampNeg x2) (M_stored (Int32.toNatClampNeg ((x1 + 1) + x2)))) (Int32.toNatClampNeg x2))) x2))), (a_M_rights, .inl (g.2.1, 16, .inl (upd v_M_rights (Int32.toNatClampNeg x2) (M_stored (Int32.toNatClampNeg (((x1 + 1) + 16) + x2)))))), (a_M_weights, .inl (g.2.1, 16, .inl (upd v_M_weights (Int32.toNatClampNeg x2) (M_stored (Int32.toNatClampNeg (((x1 + 1) + 32) + x2)))))), (a_M_a, .inl (g.2.1, 256, .inl v_M_a))] H := hP
      have hD : va_D A [(a_M, .inr (5, [.int v_M_thrown, .int v_M_n, .ref a_M_a, .ref a_M_rowAt, .ref a_M_places, .ref a_M_rights, .ref a_M_weights, .int v_M_hasFactors, .ref a_M_pivots, .ref a_M_lower, .int v_M_hasSolution, .ref a_M_solution, .ref a_M_work, .ref a_M_isJoined, .int v_M_levels, .ref a_M_stored])), (a_M_stored, .inl (g.2.1, 1830, .inl M_stored)), (a_M_rowAt, .inl (g.2.1, 16, .inl (upd v_M_rowAt (Int32.toNatClampNeg x2) (M_stored (Int32.toNatClampNeg ((x1 + 1) + x2)))))), (a_M_places, .inl (g.2.1, 16, .inl (upd v_M_places (Int32.toNatClampNeg ((upd v_M_rowAt (Int32.toNatClampNeg x2) (M_stored (Int32.toNatClampNeg ((x1 + 1) + x2)))) (Int32.toNatClampNeg x2))) x2))), (a_M_rights, .inl (g.2.1, 16, .inl (upd v_M_rights (Int32.toNatClampNeg x2) (M_stored (Int32.toNatClampNeg (((x1 + 1) + 16) + x2)))))), (a_M_weights, .inl (g.2.1, 16, .inl (upd v_M_weights (Int32.toNatClampNeg x2) (M_stored (Int32.toNatClampNeg (((x1 + 1) + 32) + x2)))))), (a_M_a, .inl (g.2.1, 256, .inl v_M_a))] := hD
      obtain ⟨x2_9, ex2_9⟩ : ∃ y : Int32, y = x2 + 1 := ⟨_, rfl⟩
      replace hv := hv x2_9 ex2_9
      refine lv_iinc (v := x2_9) (lv' := [(2, .int x2_9), (1, .int x1), (0, .ref a_M)]) hx hb dX5_pop_121 hl (k := 0) rfl (by rw [ex2_9]; rfl) (by decide) rfl (fun ls hl => ?_)
      refine lv_goto (tgt := 49) hx hb dX5_pop_124 (by decide) ?_
      exact hv _ _ _ hP hD hS (lv_sub hl [0, 1, 2] rfl)
  have hs2 : ∀ (x2 : Int32) (x1 : Int32) (v_M_thrown : Int32) (v_M_n : Int32) (v_M_hasFactors : Int32) (v_M_hasSolution : Int32) (v_M_levels : Int32) (v_M_rowAt : (Nat → Int32)) (v_M_places : (Nat → Int32)) (v_M_rights : (Nat → Int32)) (v_M_weights : (Nat → Int32)) (v_M_a : (Nat → Int32)), vc_X5_pop_2 M_thrown M_n M_hasFactors M_hasSolution M_levels M_stored M_rowAt M_places M_rights M_weights M_a Q G1 G2 x2 x1 v_M_thrown v_M_n v_M_hasFactors v_M_hasSolution v_M_levels v_M_rowAt v_M_places v_M_rights v_M_weights v_M_a → G2 x2 x1 v_M_thrown v_M_n v_M_hasFactors v_M_hasSolution v_M_levels v_M_rowAt v_M_places v_M_rights v_M_weights v_M_a := by
    rw [hG1, hG2]
    intro x2 x1 v_M_thrown v_M_n v_M_hasFactors v_M_hasSolution v_M_levels v_M_rowAt v_M_places v_M_rights v_M_weights v_M_a hv H locs ls hP hD hS hl
    unfold vc_X5_pop_2 at hv
    refine lv_iload_n hx hb dX5_pop_129 rfl (lv_at hl 0 rfl) ?_
    refine lv_sipush (v := 256) hx hb dX5_pop_130 (by decide) ?_
    refine lv_icmp_ge (tgt := 161) hx hb dX5_pop_133 (by decide) (fun hc => ?_) (fun hc => ?_)
    · replace hv := hv.1 hc
      refine lv_aload_n hx hb dX5_pop_161 rfl (lv_at hl 2 rfl) ?_
      refine lv_iconst (v := 0) hx hb dX5_pop_162 (by decide) ?_
      refine va_put (D := g.1) (ci := 5) (v := .int 0) (ty := .boolean) (C := RX5) (T := TX5) (N := 16) hx hb hts cw_in_X5 tyX5 tyX5_ok nmX5 hown hK.1 hP hD hS 0 rfl rfl 7 (by decide) (hts _ cw_f_X5_65) (fun _ h9 => h9) rfl (by decide +kernel) rfl rfl (Nat.le_of_ble_eq_true rfl) dX5_pop_163 (fun H locs hP hD hS => ?_)
      have hP : va_P g.1 vwCl [(a_M, .inr (5, [.int v_M_thrown, .int v_M_n, .ref a_M_a, .ref a_M_rowAt, .ref a_M_places, .ref a_M_rights, .ref a_M_weights, .int 0, .ref a_M_pivots, .ref a_M_lower, .int v_M_hasSolution, .ref a_M_solution, .ref a_M_work, .ref a_M_isJoined, .int v_M_levels, .ref a_M_stored])), (a_M_stored, .inl (g.2.1, 1830, .inl M_stored)), (a_M_rowAt, .inl (g.2.1, 16, .inl v_M_rowAt)), (a_M_places, .inl (g.2.1, 16, .inl v_M_places)), (a_M_rights, .inl (g.2.1, 16, .inl v_M_rights)), (a_M_weights, .inl (g.2.1, 16, .inl v_M_weights)), (a_M_a, .inl (g.2.1, 256, .inl v_M_a))] H := hP
      have hD : va_D A [(a_M, .inr (5, [.int v_M_thrown, .int v_M_n, .ref a_M_a, .ref a_M_rowAt, .ref a_M_places, .ref a_M_rights, .ref a_M_weights, .int 0, .ref a_M_pivots, .ref a_M_lower, .int v_M_hasSolution, .ref a_M_solution, .ref a_M_work, .ref a_M_isJoined, .int v_M_levels, .ref a_M_stored])), (a_M_stored, .inl (g.2.1, 1830, .inl M_stored)), (a_M_rowAt, .inl (g.2.1, 16, .inl v_M_rowAt)), (a_M_places, .inl (g.2.1, 16, .inl v_M_places)), (a_M_rights, .inl (g.2.1, 16, .inl v_M_rights)), (a_M_weights, .inl (g.2.1, 16, .inl v_M_weights)), (a_M_a, .inl (g.2.1, 256, .inl v_M_a))] := hD
      refine lv_aload_n hx hb dX5_pop_166 rfl (lv_at hl 2 rfl) ?_
      refine lv_iconst (v := 0) hx hb dX5_pop_167 (by decide) ?_
      refine va_put (D := g.1) (ci := 5) (v := .int 0) (ty := .boolean) (C := RX5) (T := TX5) (N := 16) hx hb hts cw_in_X5 tyX5 tyX5_ok nmX5 hown hK.1 hP hD hS 0 rfl rfl 10 (by decide) (hts _ cw_f_X5_69) (fun _ h9 => h9) rfl (by decide +kernel) rfl rfl (Nat.le_of_ble_eq_true rfl) dX5_pop_168 (fun H locs hP hD hS => ?_)
      have hP : va_P g.1 vwCl [(a_M, .inr (5, [.int v_M_thrown, .int v_M_n, .ref a_M_a, .ref a_M_rowAt, .ref a_M_places, .ref a_M_rights, .ref a_M_weights, .int 0, .ref a_M_pivots, .ref a_M_lower, .int 0, .ref a_M_solution, .ref a_M_work, .ref a_M_isJoined, .int v_M_levels, .ref a_M_stored])), (a_M_stored, .inl (g.2.1, 1830, .inl M_stored)), (a_M_rowAt, .inl (g.2.1, 16, .inl v_M_rowAt)), (a_M_places, .inl (g.2.1, 16, .inl v_M_places)), (a_M_rights, .inl (g.2.1, 16, .inl v_M_rights)), (a_M_weights, .inl (g.2.1, 16, .inl v_M_weights)), (a_M_a, .inl (g.2.1, 256, .inl v_M_a))] H := hP
      have hD : va_D A [(a_M, .inr (5, [.int v_M_thrown, .int v_M_n, .ref a_M_a, .ref a_M_rowAt, .ref a_M_places, .ref a_M_rights, .ref a_M_weights, .int 0, .ref a_M_pivots, .ref a_M_lower, .int 0, .ref a_M_solution, .ref a_M_work, .ref a_M_isJoined, .int v_M_levels, .ref a_M_stored])), (a_M_stored, .inl (g.2.1, 1830, .inl M_stored)), (a_M_rowAt, .inl (g.2.1, 16, .inl v_M_rowAt)), (a_M_places, .inl (g.2.1, 16, .inl v_M_places)), (a_M_rights, .inl (g.2.1, 16, .inl v_M_rights)), (a_M_weights, .inl (g.2.1, 16, .inl v_M_weights)), (a_M_a, .inl (g.2.1, 256, .inl v_M_a))] := hD
      refine lv_aload_n hx hb dX5_pop_171 rfl (lv_at hl 2 rfl) ?_
      refine va_get (D := g.1) (ci := 5) (v := .int v_M_levels) (C := RX5) (T := TX5) (N := 16) hx hb hts cw_in_X5 hown hK.1 hP 0 rfl rfl 14 (by decide) (hts _ cw_f_X5_152) (fun _ h9 => h9) rfl dX5_pop_172 ?_
      exact cx_iret hx hb hr hlocks hAe hS (v_M_thrown, v_M_n, 0, 0, v_M_levels, v_M_rowAt, v_M_places, v_M_rights, v_M_weights, v_M_a) hv hP hD dX5_pop_175
    · replace hv := hv.2 hc
      refine lv_aload_n hx hb dX5_pop_136 rfl (lv_at hl 2 rfl) ?_
      refine va_get (D := g.1) (ci := 5) (v := .ref a_M_a) (C := RX5) (T := TX5) (N := 16) hx hb hts cw_in_X5 hown hK.1 hP 0 rfl rfl 2 (by decide) (hts _ cw_f_X5_13) (fun _ h9 => h9) rfl dX5_pop_137 ?_
      refine lv_iload_n hx hb dX5_pop_140 rfl (lv_at hl 0 rfl) ?_
      refine lv_aload_n hx hb dX5_pop_141 rfl (lv_at hl 2 rfl) ?_
      refine va_get (D := g.1) (ci := 5) (v := .ref a_M_stored) (C := RX5) (T := TX5) (N := 16) hx hb hts cw_in_X5 hown hK.1 hP 0 rfl rfl 15 (by decide) (hts _ cw_f_X5_45) (fun _ h9 => h9) rfl dX5_pop_142 ?_
      refine lv_iload_n hx hb dX5_pop_145 rfl (lv_at hl 1 rfl) ?_
      refine lv_iconst (v := 1) hx hb dX5_pop_146 (by decide) ?_
      refine lv_iadd hx hb dX5_pop_147 ?_
      refine lv_bipush (v := 48) hx hb dX5_pop_148 (by decide) ?_
      refine lv_iadd hx hb dX5_pop_150 ?_
      refine lv_iload_n hx hb dX5_pop_151 rfl (lv_at hl 0 rfl) ?_
      refine lv_iadd hx hb dX5_pop_152 ?_
      obtain ⟨h_1, hv⟩ := hv
      refine va_iald (D := g.1) hx hb hK.1 hP 1 0 rfl rfl h_1 dX5_pop_153 ?_
      obtain ⟨h_2, hv⟩ := hv
      refine va_iast (D := g.1) hx hb hK.1 hP hD hS 6 0 rfl rfl h_2 dX5_pop_154 (fun H locs hP hD hS => ?_)
      have hP : va_P g.1 vwCl [(a_M, .inr (5, [.int v_M_thrown, .int v_M_n, .ref a_M_a, .ref a_M_rowAt, .ref a_M_places, .ref a_M_rights, .ref a_M_weights, .int v_M_hasFactors, .ref a_M_pivots, .ref a_M_lower, .int v_M_hasSolution, .ref a_M_solution, .ref a_M_work, .ref a_M_isJoined, .int v_M_levels, .ref a_M_stored])), (a_M_stored, .inl (g.2.1, 1830, .inl M_stored)), (a_M_rowAt, .inl (g.2.1, 16, .inl v_M_rowAt)), (a_M_places, .inl (g.2.1, 16, .inl v_M_places)), (a_M_rights, .inl (g.2.1, 16, .inl v_M_rights)), (a_M_weights, .inl (g.2.1, 16, .inl v_M_weights)), (a_M_a, .inl (g.2.1, 256, .inl (upd v_M_a (Int32.toNatClampNeg x2) (M_stored (Int32.toNatClampNeg (((x1 + 1) + 48) + x2))))))] H := hP
      have hD : va_D A [(a_M, .inr (5, [.int v_M_thrown, .int v_M_n, .ref a_M_a, .ref a_M_rowAt, .ref a_M_places, .ref a_M_rights, .ref a_M_weights, .int v_M_hasFactors, .ref a_M_pivots, .ref a_M_lower, .int v_M_hasSolution, .ref a_M_solution, .ref a_M_work, .ref a_M_isJoined, .int v_M_levels, .ref a_M_stored])), (a_M_stored, .inl (g.2.1, 1830, .inl M_stored)), (a_M_rowAt, .inl (g.2.1, 16, .inl v_M_rowAt)), (a_M_places, .inl (g.2.1, 16, .inl v_M_places)), (a_M_rights, .inl (g.2.1, 16, .inl v_M_rights)), (a_M_weights, .inl (g.2.1, 16, .inl v_M_weights)), (a_M_a, .inl (g.2.1, 256, .inl (upd v_M_a (Int32.toNatClampNeg x2) (M_stored (Int32.toNatClampNeg (((x1 + 1) + 48) + x2))))))] := hD
      obtain ⟨x2_3, ex2_3⟩ : ∃ y : Int32, y = x2 + 1 := ⟨_, rfl⟩
      replace hv := hv x2_3 ex2_3
      refine lv_iinc (v := x2_3) (lv' := [(2, .int x2_3), (1, .int x1), (0, .ref a_M)]) hx hb dX5_pop_155 hl (k := 0) rfl (by rw [ex2_3]; rfl) (by decide) rfl (fun ls hl => ?_)
      refine lv_goto (tgt := 129) hx hb dX5_pop_158 (by decide) ?_
      exact hv _ _ _ hP hD hS (lv_sub hl [0, 1, 2] rfl)
  replace hv := hv G1 G2 hs1 hs2
  rw [hG1, hG2] at hv
  unfold vc_X5_pop_0 at hv
  refine lv_aload_n hx hb dX5_pop_0 rfl (lv_at hl 0 rfl) ?_
  refine lv_iconst (v := 0) hx hb dX5_pop_1 (by decide) ?_
  refine va_put (D := g.1) (ci := 5) (v := .int 0) (ty := .int) (C := RX5) (T := TX5) (N := 16) hx hb hts cw_in_X5 tyX5 tyX5_ok nmX5 hown hK.1 hP hD hS 0 rfl rfl 0 (by decide) (hts _ cw_f_X5_51) (fun _ h9 => h9) rfl (by decide +kernel) rfl rfl (Nat.le_of_ble_eq_true rfl) dX5_pop_2 (fun H locs hP hD hS => ?_)
  have hP : va_P g.1 vwCl [(a_M, .inr (5, [.int 0, .int M_n, .ref a_M_a, .ref a_M_rowAt, .ref a_M_places, .ref a_M_rights, .ref a_M_weights, .int M_hasFactors, .ref a_M_pivots, .ref a_M_lower, .int M_hasSolution, .ref a_M_solution, .ref a_M_work, .ref a_M_isJoined, .int M_levels, .ref a_M_stored])), (a_M_stored, .inl (g.2.1, 1830, .inl M_stored)), (a_M_rowAt, .inl (g.2.1, 16, .inl M_rowAt)), (a_M_places, .inl (g.2.1, 16, .inl M_places)), (a_M_rights, .inl (g.2.1, 16, .inl M_rights)), (a_M_weights, .inl (g.2.1, 16, .inl M_weights)), (a_M_a, .inl (g.2.1, 256, .inl M_a))] H := hP
  have hD : va_D A [(a_M, .inr (5, [.int 0, .int M_n, .ref a_M_a, .ref a_M_rowAt, .ref a_M_places, .ref a_M_rights, .ref a_M_weights, .int M_hasFactors, .ref a_M_pivots, .ref a_M_lower, .int M_hasSolution, .ref a_M_solution, .ref a_M_work, .ref a_M_isJoined, .int M_levels, .ref a_M_stored])), (a_M_stored, .inl (g.2.1, 1830, .inl M_stored)), (a_M_rowAt, .inl (g.2.1, 16, .inl M_rowAt)), (a_M_places, .inl (g.2.1, 16, .inl M_places)), (a_M_rights, .inl (g.2.1, 16, .inl M_rights)), (a_M_weights, .inl (g.2.1, 16, .inl M_weights)), (a_M_a, .inl (g.2.1, 256, .inl M_a))] := hD
  refine lv_aload_n hx hb dX5_pop_5 rfl (lv_at hl 0 rfl) ?_
  refine va_get (D := g.1) (ci := 5) (v := .int M_levels) (C := RX5) (T := TX5) (N := 16) hx hb hts cw_in_X5 hown hK.1 hP 0 rfl rfl 14 (by decide) (hts _ cw_f_X5_152) (fun _ h9 => h9) rfl dX5_pop_6 ?_
  refine lv_if_ne (tgt := 18) hx hb dX5_pop_9 (by decide) (fun hc => ?_) (fun hc => ?_)
  · replace hv := hv.2 hc
    refine lv_aload_n hx hb dX5_pop_18 rfl (lv_at hl 0 rfl) ?_
    refine lv_dup hx hb dX5_pop_19 rfl ?_
    refine va_get (D := g.1) (ci := 5) (v := .int M_levels) (C := RX5) (T := TX5) (N := 16) hx hb hts cw_in_X5 hown hK.1 hP 0 rfl rfl 14 (by decide) (hts _ cw_f_X5_152) (fun _ h9 => h9) rfl dX5_pop_20 ?_
    refine lv_iconst (v := 1) hx hb dX5_pop_23 (by decide) ?_
    refine lv_isub hx hb dX5_pop_24 ?_
    refine va_put (D := g.1) (ci := 5) (v := .int (M_levels - 1)) (ty := .int) (C := RX5) (T := TX5) (N := 16) hx hb hts cw_in_X5 tyX5 tyX5_ok nmX5 hown hK.1 hP hD hS 0 rfl rfl 14 (by decide) (hts _ cw_f_X5_152) (fun _ h9 => h9) rfl (by decide +kernel) rfl rfl (Nat.le_of_ble_eq_true rfl) dX5_pop_25 (fun H locs hP hD hS => ?_)
    have hP : va_P g.1 vwCl [(a_M, .inr (5, [.int 0, .int M_n, .ref a_M_a, .ref a_M_rowAt, .ref a_M_places, .ref a_M_rights, .ref a_M_weights, .int M_hasFactors, .ref a_M_pivots, .ref a_M_lower, .int M_hasSolution, .ref a_M_solution, .ref a_M_work, .ref a_M_isJoined, .int (M_levels - 1), .ref a_M_stored])), (a_M_stored, .inl (g.2.1, 1830, .inl M_stored)), (a_M_rowAt, .inl (g.2.1, 16, .inl M_rowAt)), (a_M_places, .inl (g.2.1, 16, .inl M_places)), (a_M_rights, .inl (g.2.1, 16, .inl M_rights)), (a_M_weights, .inl (g.2.1, 16, .inl M_weights)), (a_M_a, .inl (g.2.1, 256, .inl M_a))] H := hP
    have hD : va_D A [(a_M, .inr (5, [.int 0, .int M_n, .ref a_M_a, .ref a_M_rowAt, .ref a_M_places, .ref a_M_rights, .ref a_M_weights, .int M_hasFactors, .ref a_M_pivots, .ref a_M_lower, .int M_hasSolution, .ref a_M_solution, .ref a_M_work, .ref a_M_isJoined, .int (M_levels - 1), .ref a_M_stored])), (a_M_stored, .inl (g.2.1, 1830, .inl M_stored)), (a_M_rowAt, .inl (g.2.1, 16, .inl M_rowAt)), (a_M_places, .inl (g.2.1, 16, .inl M_places)), (a_M_rights, .inl (g.2.1, 16, .inl M_rights)), (a_M_weights, .inl (g.2.1, 16, .inl M_weights)), (a_M_a, .inl (g.2.1, 256, .inl M_a))] := hD
    refine lv_sipush (v := 305) hx hb dX5_pop_28 (by decide) ?_
    refine lv_aload_n hx hb dX5_pop_31 rfl (lv_at hl 0 rfl) ?_
    refine va_get (D := g.1) (ci := 5) (v := .int (M_levels - 1)) (C := RX5) (T := TX5) (N := 16) hx hb hts cw_in_X5 hown hK.1 hP 0 rfl rfl 14 (by decide) (hts _ cw_f_X5_152) (fun _ h9 => h9) rfl dX5_pop_32 ?_
    refine lv_imul hx hb dX5_pop_35 ?_
    refine lv_topi (fun x1_1 ex1_1 => ?_)
    replace hv := hv x1_1 ex1_1
    refine lv_istore_n (lv' := [(1, .int x1_1), (0, .ref a_M)]) hx hb dX5_pop_36 rfl hl (by decide) rfl (fun ls hl => ?_)
    refine lv_aload_n hx hb dX5_pop_37 rfl (lv_at hl 1 rfl) ?_
    refine lv_aload_n hx hb dX5_pop_38 rfl (lv_at hl 1 rfl) ?_
    refine va_get (D := g.1) (ci := 5) (v := .ref a_M_stored) (C := RX5) (T := TX5) (N := 16) hx hb hts cw_in_X5 hown hK.1 hP 0 rfl rfl 15 (by decide) (hts _ cw_f_X5_45) (fun _ h9 => h9) rfl dX5_pop_39 ?_
    refine lv_iload_n hx hb dX5_pop_42 rfl (lv_at hl 0 rfl) ?_
    obtain ⟨h_2, hv⟩ := hv
    refine va_iald (D := g.1) hx hb hK.1 hP 1 0 rfl rfl h_2 dX5_pop_43 ?_
    refine va_put (D := g.1) (ci := 5) (v := .int (M_stored (Int32.toNatClampNeg x1_1))) (ty := .int) (C := RX5) (T := TX5) (N := 16) hx hb hts cw_in_X5 tyX5 tyX5_ok nmX5 hown hK.1 hP hD hS 0 rfl rfl 1 (by decide) (hts _ cw_f_X5_9) (fun _ h9 => h9) rfl (by decide +kernel) rfl rfl (Nat.le_of_ble_eq_true rfl) dX5_pop_44 (fun H locs hP hD hS => ?_)
    have hP : va_P g.1 vwCl [(a_M, .inr (5, [.int 0, .int (M_stored (Int32.toNatClampNeg x1_1)), .ref a_M_a, .ref a_M_rowAt, .ref a_M_places, .ref a_M_rights, .ref a_M_weights, .int M_hasFactors, .ref a_M_pivots, .ref a_M_lower, .int M_hasSolution, .ref a_M_solution, .ref a_M_work, .ref a_M_isJoined, .int (M_levels - 1), .ref a_M_stored])), (a_M_stored, .inl (g.2.1, 1830, .inl M_stored)), (a_M_rowAt, .inl (g.2.1, 16, .inl M_rowAt)), (a_M_places, .inl (g.2.1, 16, .inl M_places)), (a_M_rights, .inl (g.2.1, 16, .inl M_rights)), (a_M_weights, .inl (g.2.1, 16, .inl M_weights)), (a_M_a, .inl (g.2.1, 256, .inl M_a))] H := hP
    have hD : va_D A [(a_M, .inr (5, [.int 0, .int (M_stored (Int32.toNatClampNeg x1_1)), .ref a_M_a, .ref a_M_rowAt, .ref a_M_places, .ref a_M_rights, .ref a_M_weights, .int M_hasFactors, .ref a_M_pivots, .ref a_M_lower, .int M_hasSolution, .ref a_M_solution, .ref a_M_work, .ref a_M_isJoined, .int (M_levels - 1), .ref a_M_stored])), (a_M_stored, .inl (g.2.1, 1830, .inl M_stored)), (a_M_rowAt, .inl (g.2.1, 16, .inl M_rowAt)), (a_M_places, .inl (g.2.1, 16, .inl M_places)), (a_M_rights, .inl (g.2.1, 16, .inl M_rights)), (a_M_weights, .inl (g.2.1, 16, .inl M_weights)), (a_M_a, .inl (g.2.1, 256, .inl M_a))] := hD
    refine lv_iconst (v := 0) hx hb dX5_pop_47 (by decide) ?_
    refine lv_istore_n (lv' := [(2, .int 0), (1, .int x1_1), (0, .ref a_M)]) hx hb dX5_pop_48 rfl hl (by decide) rfl (fun ls hl => ?_)
    exact hv _ _ _ hP hD hS (lv_sub hl [0, 1, 2] rfl)
  · replace hv := hv.1 hc
    refine lv_aload_n hx hb dX5_pop_12 rfl (lv_at hl 0 rfl) ?_
    refine lv_iconst (v := 1) hx hb dX5_pop_13 (by decide) ?_
    refine cx_iV (wr := [(a_M_stored, .inl (g.2.1, 1830, .inl M_stored)), (a_M_rowAt, .inl (g.2.1, 16, .inl M_rowAt)), (a_M_places, .inl (g.2.1, 16, .inl M_places)), (a_M_rights, .inl (g.2.1, 16, .inl M_rights)), (a_M_weights, .inl (g.2.1, 16, .inl M_weights)), (a_M_a, .inl (g.2.1, 256, .inl M_a))]) (As := [.int 1]) (rest := []) ⟨hx, hb, hml, hown, hts⟩ (c_X5_no l g a_M a_M_a a_M_rowAt a_M_places a_M_rights a_M_weights a_M_pivots a_M_lower a_M_solution a_M_work a_M_isJoined a_M_stored 1 0 M_n M_hasFactors M_hasSolution M_levels hv) (cx_cwV 1 hts cw_m_X5_72 cw_i_X5_no cw_s_X5_no cw_n_X5 cw_c_X5_no rfl rfl (by decide +kernel) ⟨Nat.le_of_ble_eq_true rfl, Nat.le_of_ble_eq_true rfl⟩) hK hP hD hS hA 0 5 rfl rfl [0] [1, 2, 3, 4, 5, 6] rfl rfl rfl rfl (by decide) rfl hl.1 rfl (Nat.le_of_ble_eq_true rfl) dX5_pop_14 ⟨Nat.le_of_ble_eq_true rfl, Nat.le_of_ble_eq_true rfl⟩ (fun r_3 w_5 H locs hv hP hD hS => ?_)
    obtain ⟨u_4, rfl⟩ : ∃ z, z = w_5 := ⟨_, rfl⟩
    have hP : va_P g.1 vwCl [(a_M, .inr (5, [.int u_4, .int M_n, .ref a_M_a, .ref a_M_rowAt, .ref a_M_places, .ref a_M_rights, .ref a_M_weights, .int M_hasFactors, .ref a_M_pivots, .ref a_M_lower, .int M_hasSolution, .ref a_M_solution, .ref a_M_work, .ref a_M_isJoined, .int M_levels, .ref a_M_stored])), (a_M_stored, .inl (g.2.1, 1830, .inl M_stored)), (a_M_rowAt, .inl (g.2.1, 16, .inl M_rowAt)), (a_M_places, .inl (g.2.1, 16, .inl M_places)), (a_M_rights, .inl (g.2.1, 16, .inl M_rights)), (a_M_weights, .inl (g.2.1, 16, .inl M_weights)), (a_M_a, .inl (g.2.1, 256, .inl M_a))] H := hP.sub [6, 0, 1, 2, 3, 4, 5] rfl
    have hD : va_D A [(a_M, .inr (5, [.int u_4, .int M_n, .ref a_M_a, .ref a_M_rowAt, .ref a_M_places, .ref a_M_rights, .ref a_M_weights, .int M_hasFactors, .ref a_M_pivots, .ref a_M_lower, .int M_hasSolution, .ref a_M_solution, .ref a_M_work, .ref a_M_isJoined, .int M_levels, .ref a_M_stored])), (a_M_stored, .inl (g.2.1, 1830, .inl M_stored)), (a_M_rowAt, .inl (g.2.1, 16, .inl M_rowAt)), (a_M_places, .inl (g.2.1, 16, .inl M_places)), (a_M_rights, .inl (g.2.1, 16, .inl M_rights)), (a_M_weights, .inl (g.2.1, 16, .inl M_weights)), (a_M_a, .inl (g.2.1, 256, .inl M_a))] := hD.sub [6, 0, 1, 2, 3, 4, 5] (by decide) rfl
    exact cx_iret hx hb hr hlocks hAe hS (u_4, M_n, M_hasFactors, M_hasSolution, M_levels, M_rowAt, M_places, M_rights, M_weights, M_a) hv hP hD dX5_pop_17
def vc_X5_digest_0 (M_thrown : Int32) (M_n : Int32) (M_hasFactors : Int32) (M_hasSolution : Int32) (M_levels : Int32) (M_places : (Nat → Int32)) (M_rights : (Nat → Int32)) (M_weights : (Nat → Int32)) (M_a : (Nat → Int32)) (M_pivots : (Nat → Int32)) (Q : Int64 → Int32 → Prop) (G1 : Int32 → Int64 → Int32 → Prop) (G2 : Int32 → Int32 → Int64 → Int32 → Prop) (G3 : Int32 → Int64 → Int32 → Prop)  : Prop := ∀ x1_1 : Int64, x1_1 = (2201 + (Int32.toInt64 M_n)) → (G1 0 x1_1 0)
def vc_X5_digest_1 (M_thrown : Int32) (M_n : Int32) (M_hasFactors : Int32) (M_hasSolution : Int32) (M_levels : Int32) (M_places : (Nat → Int32)) (M_rights : (Nat → Int32)) (M_weights : (Nat → Int32)) (M_a : (Nat → Int32)) (M_pivots : (Nat → Int32)) (Q : Int64 → Int32 → Prop) (G1 : Int32 → Int64 → Int32 → Prop) (G2 : Int32 → Int32 → Int64 → Int32 → Prop) (G3 : Int32 → Int64 → Int32 → Prop) (x3 : Int32) (x1 : Int64) (v_M_thrown : Int32) : Prop := (M_n ≤ x3 → ((M_hasFactors = 0 → (∀ x1_1 : Int64, x1_1 = ((((x1 * 31) + (Int32.toInt64 M_levels)) * 31) + 0) → (G3 0 x1_1 v_M_thrown))) ∧ (¬ M_hasFactors = 0 → (∀ x1_2 : Int64, x1_2 = ((((x1 * 31) + (Int32.toInt64 M_levels)) * 31) + 1) → (G3 0 x1_2 v_M_thrown))))) ∧ (¬ M_n ≤ x3 → (G2 0 x3 x1 v_M_thrown))
def vc_X5_digest_2 (M_thrown : Int32) (M_n : Int32) (M_hasFactors : Int32) (M_hasSolution : Int32) (M_levels : Int32) (M_places : (Nat → Int32)) (M_rights : (Nat → Int32)) (M_weights : (Nat → Int32)) (M_a : (Nat → Int32)) (M_pivots : (Nat → Int32)) (Q : Int64 → Int32 → Prop) (G1 : Int32 → Int64 → Int32 → Prop) (G2 : Int32 → Int32 → Int64 → Int32 → Prop) (G3 : Int32 → Int64 → Int32 → Prop) (x4 : Int32) (x3 : Int32) (x1 : Int64) (v_M_thrown : Int32) : Prop := (x3 < x4 → (vp_in x3 16 ∧ (vp_in x3 16 ∧ (vp_in x3 16 ∧ (∀ x1_4 : Int64, x1_4 = ((((((x1 * 31) + (Int32.toInt64 (M_places (Int32.toNatClampNeg x3)))) * 31) + (Int32.toInt64 (M_rights (Int32.toNatClampNeg x3)))) * 31) + (Int32.toInt64 (M_weights (Int32.toNatClampNeg x3)))) → (∀ x3_5 : Int32, x3_5 = x3 + 1 → (G1 x3_5 x1_4 v_M_thrown))))))) ∧ (¬ x3 < x4 → (vp_in (f_at x3 x4) 256 ∧ (∀ x1_8 : Int64, x1_8 = ((x1 * 31) + (Int32.toInt64 (M_a (Int32.toNatClampNeg (f_at x3 x4))))) → (∀ x4_9 : Int32, x4_9 = x4 + 1 → (G2 x4_9 x3 x1_8 v_M_thrown)))))
def vc_X5_digest_3 (M_thrown : Int32) (M_n : Int32) (M_hasFactors : Int32) (M_hasSolution : Int32) (M_levels : Int32) (M_places : (Nat → Int32)) (M_rights : (Nat → Int32)) (M_weights : (Nat → Int32)) (M_a : (Nat → Int32)) (M_pivots : (Nat → Int32)) (Q : Int64 → Int32 → Prop) (G1 : Int32 → Int64 → Int32 → Prop) (G2 : Int32 → Int32 → Int64 → Int32 → Prop) (G3 : Int32 → Int64 → Int32 → Prop) (x3 : Int32) (x1 : Int64) (v_M_thrown : Int32) : Prop := (M_n ≤ x3 → (Q x1 v_M_thrown)) ∧ (¬ M_n ≤ x3 → ((M_hasFactors = 0 → (Q x1 v_M_thrown)) ∧ (¬ M_hasFactors = 0 → (vp_in x3 16 ∧ (∀ x1_2 : Int64, x1_2 = ((x1 * 31) + (Int32.toInt64 (M_pivots (Int32.toNatClampNeg x3)))) → (∀ x3_3 : Int32, x3_3 = x3 + 1 → (G3 x3_3 x1_2 v_M_thrown)))))))
def wp_X5_digest (M_thrown : Int32) (M_n : Int32) (M_hasFactors : Int32) (M_hasSolution : Int32) (M_levels : Int32) (M_places : (Nat → Int32)) (M_rights : (Nat → Int32)) (M_weights : (Nat → Int32)) (M_a : (Nat → Int32)) (M_pivots : (Nat → Int32)) (Q : Int64 → Int32 → Prop) : Prop := ∀ (G1 : Int32 → Int64 → Int32 → Prop) (G2 : Int32 → Int32 → Int64 → Int32 → Prop) (G3 : Int32 → Int64 → Int32 → Prop), (∀ (x3 : Int32) (x1 : Int64) (v_M_thrown : Int32), vc_X5_digest_1 M_thrown M_n M_hasFactors M_hasSolution M_levels M_places M_rights M_weights M_a M_pivots Q G1 G2 G3 x3 x1 v_M_thrown → G1 x3 x1 v_M_thrown) → (∀ (x4 : Int32) (x3 : Int32) (x1 : Int64) (v_M_thrown : Int32), vc_X5_digest_2 M_thrown M_n M_hasFactors M_hasSolution M_levels M_places M_rights M_weights M_a M_pivots Q G1 G2 G3 x4 x3 x1 v_M_thrown → G2 x4 x3 x1 v_M_thrown) → (∀ (x3 : Int32) (x1 : Int64) (v_M_thrown : Int32), vc_X5_digest_3 M_thrown M_n M_hasFactors M_hasSolution M_levels M_places M_rights M_weights M_a M_pivots Q G1 G2 G3 x3 x1 v_M_thrown → G3 x3 x1 v_M_thrown) → vc_X5_digest_0 M_thrown M_n M_hasFactors M_hasSolution M_levels M_places M_rights M_weights M_a M_pivots Q G1 G2 G3
abbrev w0_X5_digest (g : cx_G) (a_M a_M_a a_M_rowAt a_M_places a_M_rights a_M_weights a_M_pivots a_M_lower a_M_solution a_M_work a_M_isJoined a_M_stored : Nat) (M_thrown : Int32) (M_n : Int32) (M_hasFactors : Int32) (M_hasSolution : Int32) (M_levels : Int32) (M_places : (Nat → Int32)) (M_rights : (Nat → Int32)) (M_weights : (Nat → Int32)) (M_a : (Nat → Int32)) (M_pivots : (Nat → Int32)) : va_W := [(a_M, .inr (5, [.int M_thrown, .int M_n, .ref a_M_a, .ref a_M_rowAt, .ref a_M_places, .ref a_M_rights, .ref a_M_weights, .int M_hasFactors, .ref a_M_pivots, .ref a_M_lower, .int M_hasSolution, .ref a_M_solution, .ref a_M_work, .ref a_M_isJoined, .int M_levels, .ref a_M_stored])), (a_M_places, .inl (g.2.1, 16, .inl M_places)), (a_M_rights, .inl (g.2.1, 16, .inl M_rights)), (a_M_weights, .inl (g.2.1, 16, .inl M_weights)), (a_M_a, .inl (g.2.1, 256, .inl M_a)), (a_M_pivots, .inl (g.2.1, 16, .inl M_pivots))]
abbrev w1_X5_digest (g : cx_G) (a_M a_M_a a_M_rowAt a_M_places a_M_rights a_M_weights a_M_pivots a_M_lower a_M_solution a_M_work a_M_isJoined a_M_stored : Nat) (M_thrown : Int32) (M_n : Int32) (M_hasFactors : Int32) (M_hasSolution : Int32) (M_levels : Int32) (M_places : (Nat → Int32)) (M_rights : (Nat → Int32)) (M_weights : (Nat → Int32)) (M_a : (Nat → Int32)) (M_pivots : (Nat → Int32)) (u : Int32) : va_W := [(a_M, .inr (5, [.int u, .int M_n, .ref a_M_a, .ref a_M_rowAt, .ref a_M_places, .ref a_M_rights, .ref a_M_weights, .int M_hasFactors, .ref a_M_pivots, .ref a_M_lower, .int M_hasSolution, .ref a_M_solution, .ref a_M_work, .ref a_M_isJoined, .int M_levels, .ref a_M_stored])), (a_M_places, .inl (g.2.1, 16, .inl M_places)), (a_M_rights, .inl (g.2.1, 16, .inl M_rights)), (a_M_weights, .inl (g.2.1, 16, .inl M_weights)), (a_M_a, .inl (g.2.1, 256, .inl M_a)), (a_M_pivots, .inl (g.2.1, 16, .inl M_pivots))]
set_option maxHeartbeats 4000000 in
set_option maxRecDepth 100000 in
theorem c_X5_digest (l : Launch) (g : cx_G) (a_M a_M_a a_M_rowAt a_M_places a_M_rights a_M_weights a_M_pivots a_M_lower a_M_solution a_M_work a_M_isJoined a_M_stored : Nat) (M_thrown : Int32) (M_n : Int32) (M_hasFactors : Int32) (M_hasSolution : Int32) (M_levels : Int32) (M_places : (Nat → Int32)) (M_rights : (Nat → Int32)) (M_weights : (Nat → Int32)) (M_a : (Nat → Int32)) (M_pivots : (Nat → Int32)) {Q : Int64 → Int32 → Prop} (hv : wp_X5_digest M_thrown M_n M_hasFactors M_hasSolution M_levels M_places M_rights M_weights M_a M_pivots Q) : cx_Ml l g yX5_digest (Cond.code yX5_digest cX5_digest 5 (some .long) :: cx_T) ({ frames := 1, cells := 0, slots := 0, locals := 21 } : Room) [.ref a_M] (w0_X5_digest g a_M a_M_a a_M_rowAt a_M_places a_M_rights a_M_weights a_M_pivots a_M_lower a_M_solution a_M_work a_M_isJoined a_M_stored M_thrown M_n M_hasFactors M_hasSolution M_levels M_places M_rights M_weights M_a M_pivots) (fun (r : Int64) (u : Int32) => Q r u) (w1_X5_digest g a_M a_M_a a_M_rowAt a_M_places a_M_rights a_M_weights a_M_pivots a_M_lower a_M_solution a_M_work a_M_isJoined a_M_stored M_thrown M_n M_hasFactors M_hasSolution M_levels M_places M_rights M_weights M_a M_pivots) 0 0 := by
  intro sz
  refine Met.ofW (cc := cX5_digest) (maxL := 5) (ret := (some .long)) (by decide) rfl ?_
  intro p e s m args below meth c s₁ B hml hpre
  obtain ⟨rfl, hsz, hP, hK, hD0⟩ := hpre
  have hx := B.exec
  have hb := B.bytes
  have hr := B.returns
  have hts0 := atoms_spec (ws := (Cond.code yX5_digest cX5_digest 5 (some .long) :: cx_T)) B.pre
  have hts : ∀ w ∈ cx_T, w.before _ s = true := fun w h => hts0 w (List.mem_cons_of_mem _ h)
  have hown : s.vm.findClass RX5 = some m.cls := findClass_of_methodNamed B.named
  have hlocks := B.notSynchronized
  subst hsz
  have hD := hD0.self (sz := s.heap.size)
  obtain ⟨A, hAe⟩ : ∃ A : Nat → Prop, A = va_A (w0_X5_digest g a_M a_M_a a_M_rowAt a_M_places a_M_rights a_M_weights a_M_pivots a_M_lower a_M_solution a_M_work a_M_isJoined a_M_stored M_thrown M_n M_hasFactors M_hasSolution M_levels M_places M_rights M_weights M_a M_pivots) s.heap.size := ⟨_, rfl⟩
  rw [← hAe] at hD
  have hA : ∀ q : Nat, s.heap.size ≤ q → A q := fun q h => by rw [hAe]; exact Or.inr h
  have hS : va_S A s.heap s.heap [] := va_S.rf
  have hP : va_P g.1 vwCl [(a_M, .inr (5, [.int M_thrown, .int M_n, .ref a_M_a, .ref a_M_rowAt, .ref a_M_places, .ref a_M_rights, .ref a_M_weights, .int M_hasFactors, .ref a_M_pivots, .ref a_M_lower, .int M_hasSolution, .ref a_M_solution, .ref a_M_work, .ref a_M_isJoined, .int M_levels, .ref a_M_stored])), (a_M_places, .inl (g.2.1, 16, .inl M_places)), (a_M_rights, .inl (g.2.1, 16, .inl M_rights)), (a_M_weights, .inl (g.2.1, 16, .inl M_weights)), (a_M_a, .inl (g.2.1, 256, .inl M_a)), (a_M_pivots, .inl (g.2.1, 16, .inl M_pivots))] s.heap := hP
  have hD : va_D A [(a_M, .inr (5, [.int M_thrown, .int M_n, .ref a_M_a, .ref a_M_rowAt, .ref a_M_places, .ref a_M_rights, .ref a_M_weights, .int M_hasFactors, .ref a_M_pivots, .ref a_M_lower, .int M_hasSolution, .ref a_M_solution, .ref a_M_work, .ref a_M_isJoined, .int M_levels, .ref a_M_stored])), (a_M_places, .inl (g.2.1, 16, .inl M_places)), (a_M_rights, .inl (g.2.1, 16, .inl M_rights)), (a_M_weights, .inl (g.2.1, 16, .inl M_weights)), (a_M_a, .inl (g.2.1, 256, .inl M_a)), (a_M_pivots, .inl (g.2.1, 16, .inl M_pivots))] := hD
  have hl := lv_entry ([.ref a_M]) (n := 5) (Nat.le_of_ble_eq_true rfl)
  rw [lg_entry_eq]
  generalize (lg_sl ([.ref a_M]) ++ List.replicate (5 - (lg_sl ([.ref a_M])).length) Slot.unset).toArray = ls at hl ⊢
  have hl : lv_has ls 5 [(0, .ref a_M)] := hl
  obtain ⟨G1, hG1⟩ : ∃ G : Int32 → Int64 → Int32 → Prop, G = (fun (x3 : Int32) (x1 : Int64) (v_M_thrown : Int32) => ∀ (H : Heap) (locs : List Loc) (ls : Array Slot), va_P g.1 vwCl [(a_M, .inr (5, [.int v_M_thrown, .int M_n, .ref a_M_a, .ref a_M_rowAt, .ref a_M_places, .ref a_M_rights, .ref a_M_weights, .int M_hasFactors, .ref a_M_pivots, .ref a_M_lower, .int M_hasSolution, .ref a_M_solution, .ref a_M_work, .ref a_M_isJoined, .int M_levels, .ref a_M_stored])), (a_M_places, .inl (g.2.1, 16, .inl M_places)), (a_M_rights, .inl (g.2.1, 16, .inl M_rights)), (a_M_weights, .inl (g.2.1, 16, .inl M_weights)), (a_M_a, .inl (g.2.1, 256, .inl M_a)), (a_M_pivots, .inl (g.2.1, 16, .inl M_pivots))] H → va_D A [(a_M, .inr (5, [.int v_M_thrown, .int M_n, .ref a_M_a, .ref a_M_rowAt, .ref a_M_places, .ref a_M_rights, .ref a_M_weights, .int M_hasFactors, .ref a_M_pivots, .ref a_M_lower, .int M_hasSolution, .ref a_M_solution, .ref a_M_work, .ref a_M_isJoined, .int M_levels, .ref a_M_stored])), (a_M_places, .inl (g.2.1, 16, .inl M_places)), (a_M_rights, .inl (g.2.1, 16, .inl M_rights)), (a_M_weights, .inl (g.2.1, 16, .inl M_weights)), (a_M_a, .inl (g.2.1, 256, .inl M_a)), (a_M_pivots, .inl (g.2.1, 16, .inl M_pivots))] → va_S A s.heap H locs → lv_has ls 5 [(3, .int x3), (1, .long x1), (0, .ref a_M)] → W p l e (headSpec (Cond.code yX5_digest cX5_digest 5 (some .long) :: cx_T) ({ frames := 1, cells := 0, slots := 0, locals := 21 } : Room)).room s m ([.ref a_M] : List Value).toArray below meth c H locs 0 0 (MQ below (va_Ql (fun (r : Int64) (u : Int32) => Q r u) (cx_B g (w0_X5_digest g a_M a_M_a a_M_rowAt a_M_places a_M_rights a_M_weights a_M_pivots a_M_lower a_M_solution a_M_work a_M_isJoined a_M_stored M_thrown M_n M_hasFactors M_hasSolution M_levels M_places M_rights M_weights M_a M_pivots) s.heap.size (w1_X5_digest g a_M a_M_a a_M_rowAt a_M_places a_M_rights a_M_weights a_M_pivots a_M_lower a_M_solution a_M_work a_M_isJoined a_M_stored M_thrown M_n M_hasFactors M_hasSolution M_levels M_places M_rights M_weights M_a M_pivots)) (va_A (w0_X5_digest g a_M a_M_a a_M_rowAt a_M_places a_M_rights a_M_weights a_M_pivots a_M_lower a_M_solution a_M_work a_M_isJoined a_M_stored M_thrown M_n M_hasFactors M_hasSolution M_levels M_places M_rights M_weights M_a M_pivots) s.heap.size)) ([.ref a_M] : List Value).toArray s 0 0 (va_A (w0_X5_digest g a_M a_M_a a_M_rowAt a_M_places a_M_rights a_M_weights a_M_pivots a_M_lower a_M_solution a_M_work a_M_isJoined a_M_stored M_thrown M_n M_hasFactors M_hasSolution M_levels M_places M_rights M_weights M_a M_pivots) s.heap.size)) (F0 m 17 ls [])) := ⟨_, rfl⟩
  obtain ⟨G2, hG2⟩ : ∃ G : Int32 → Int32 → Int64 → Int32 → Prop, G = (fun (x4 : Int32) (x3 : Int32) (x1 : Int64) (v_M_thrown : Int32) => ∀ (H : Heap) (locs : List Loc) (ls : Array Slot), va_P g.1 vwCl [(a_M, .inr (5, [.int v_M_thrown, .int M_n, .ref a_M_a, .ref a_M_rowAt, .ref a_M_places, .ref a_M_rights, .ref a_M_weights, .int M_hasFactors, .ref a_M_pivots, .ref a_M_lower, .int M_hasSolution, .ref a_M_solution, .ref a_M_work, .ref a_M_isJoined, .int M_levels, .ref a_M_stored])), (a_M_places, .inl (g.2.1, 16, .inl M_places)), (a_M_rights, .inl (g.2.1, 16, .inl M_rights)), (a_M_weights, .inl (g.2.1, 16, .inl M_weights)), (a_M_a, .inl (g.2.1, 256, .inl M_a)), (a_M_pivots, .inl (g.2.1, 16, .inl M_pivots))] H → va_D A [(a_M, .inr (5, [.int v_M_thrown, .int M_n, .ref a_M_a, .ref a_M_rowAt, .ref a_M_places, .ref a_M_rights, .ref a_M_weights, .int M_hasFactors, .ref a_M_pivots, .ref a_M_lower, .int M_hasSolution, .ref a_M_solution, .ref a_M_work, .ref a_M_isJoined, .int M_levels, .ref a_M_stored])), (a_M_places, .inl (g.2.1, 16, .inl M_places)), (a_M_rights, .inl (g.2.1, 16, .inl M_rights)), (a_M_weights, .inl (g.2.1, 16, .inl M_weights)), (a_M_a, .inl (g.2.1, 256, .inl M_a)), (a_M_pivots, .inl (g.2.1, 16, .inl M_pivots))] → va_S A s.heap H locs → lv_has ls 5 [(4, .int x4), (3, .int x3), (1, .long x1), (0, .ref a_M)] → W p l e (headSpec (Cond.code yX5_digest cX5_digest 5 (some .long) :: cx_T) ({ frames := 1, cells := 0, slots := 0, locals := 21 } : Room)).room s m ([.ref a_M] : List Value).toArray below meth c H locs 0 0 (MQ below (va_Ql (fun (r : Int64) (u : Int32) => Q r u) (cx_B g (w0_X5_digest g a_M a_M_a a_M_rowAt a_M_places a_M_rights a_M_weights a_M_pivots a_M_lower a_M_solution a_M_work a_M_isJoined a_M_stored M_thrown M_n M_hasFactors M_hasSolution M_levels M_places M_rights M_weights M_a M_pivots) s.heap.size (w1_X5_digest g a_M a_M_a a_M_rowAt a_M_places a_M_rights a_M_weights a_M_pivots a_M_lower a_M_solution a_M_work a_M_isJoined a_M_stored M_thrown M_n M_hasFactors M_hasSolution M_levels M_places M_rights M_weights M_a M_pivots)) (va_A (w0_X5_digest g a_M a_M_a a_M_rowAt a_M_places a_M_rights a_M_weights a_M_pivots a_M_lower a_M_solution a_M_work a_M_isJoined a_M_stored M_thrown M_n M_hasFactors M_hasSolution M_levels M_places M_rights M_weights M_a M_pivots) s.heap.size)) ([.ref a_M] : List Value).toArray s 0 0 (va_A (w0_X5_digest g a_M a_M_a a_M_rowAt a_M_places a_M_rights a_M_weights a_M_pivots a_M_lower a_M_solution a_M_work a_M_isJoined a_M_stored M_thrown M_n M_hasFactors M_hasSolution M_levels M_places M_rights M_weights M_a M_pivots) s.heap.size)) (F0 m 28 ls [])) := ⟨_, rfl⟩
  obtain ⟨G3, hG3⟩ : ∃ G : Int32 → Int64 → Int32 → Prop, G = (fun (x3 : Int32) (x1 : Int64) (v_M_thrown : Int32) => ∀ (H : Heap) (locs : List Loc) (ls : Array Slot), va_P g.1 vwCl [(a_M, .inr (5, [.int v_M_thrown, .int M_n, .ref a_M_a, .ref a_M_rowAt, .ref a_M_places, .ref a_M_rights, .ref a_M_weights, .int M_hasFactors, .ref a_M_pivots, .ref a_M_lower, .int M_hasSolution, .ref a_M_solution, .ref a_M_work, .ref a_M_isJoined, .int M_levels, .ref a_M_stored])), (a_M_places, .inl (g.2.1, 16, .inl M_places)), (a_M_rights, .inl (g.2.1, 16, .inl M_rights)), (a_M_weights, .inl (g.2.1, 16, .inl M_weights)), (a_M_a, .inl (g.2.1, 256, .inl M_a)), (a_M_pivots, .inl (g.2.1, 16, .inl M_pivots))] H → va_D A [(a_M, .inr (5, [.int v_M_thrown, .int M_n, .ref a_M_a, .ref a_M_rowAt, .ref a_M_places, .ref a_M_rights, .ref a_M_weights, .int M_hasFactors, .ref a_M_pivots, .ref a_M_lower, .int M_hasSolution, .ref a_M_solution, .ref a_M_work, .ref a_M_isJoined, .int M_levels, .ref a_M_stored])), (a_M_places, .inl (g.2.1, 16, .inl M_places)), (a_M_rights, .inl (g.2.1, 16, .inl M_rights)), (a_M_weights, .inl (g.2.1, 16, .inl M_weights)), (a_M_a, .inl (g.2.1, 256, .inl M_a)), (a_M_pivots, .inl (g.2.1, 16, .inl M_pivots))] → va_S A s.heap H locs → lv_has ls 5 [(3, .int x3), (1, .long x1), (0, .ref a_M)] → W p l e (headSpec (Cond.code yX5_digest cX5_digest 5 (some .long) :: cx_T) ({ frames := 1, cells := 0, slots := 0, locals := 21 } : Room)).room s m ([.ref a_M] : List Value).toArray below meth c H locs 0 0 (MQ below (va_Ql (fun (r : Int64) (u : Int32) => Q r u) (cx_B g (w0_X5_digest g a_M a_M_a a_M_rowAt a_M_places a_M_rights a_M_weights a_M_pivots a_M_lower a_M_solution a_M_work a_M_isJoined a_M_stored M_thrown M_n M_hasFactors M_hasSolution M_levels M_places M_rights M_weights M_a M_pivots) s.heap.size (w1_X5_digest g a_M a_M_a a_M_rowAt a_M_places a_M_rights a_M_weights a_M_pivots a_M_lower a_M_solution a_M_work a_M_isJoined a_M_stored M_thrown M_n M_hasFactors M_hasSolution M_levels M_places M_rights M_weights M_a M_pivots)) (va_A (w0_X5_digest g a_M a_M_a a_M_rowAt a_M_places a_M_rights a_M_weights a_M_pivots a_M_lower a_M_solution a_M_work a_M_isJoined a_M_stored M_thrown M_n M_hasFactors M_hasSolution M_levels M_places M_rights M_weights M_a M_pivots) s.heap.size)) ([.ref a_M] : List Value).toArray s 0 0 (va_A (w0_X5_digest g a_M a_M_a a_M_rowAt a_M_places a_M_rights a_M_weights a_M_pivots a_M_lower a_M_solution a_M_work a_M_isJoined a_M_stored M_thrown M_n M_hasFactors M_hasSolution M_levels M_places M_rights M_weights M_a M_pivots) s.heap.size)) (F0 m 134 ls [])) := ⟨_, rfl⟩
  have hs1 : ∀ (x3 : Int32) (x1 : Int64) (v_M_thrown : Int32), vc_X5_digest_1 M_thrown M_n M_hasFactors M_hasSolution M_levels M_places M_rights M_weights M_a M_pivots Q G1 G2 G3 x3 x1 v_M_thrown → G1 x3 x1 v_M_thrown := by
    rw [hG1, hG2, hG3]
    intro x3 x1 v_M_thrown hv H locs ls hP hD hS hl
    unfold vc_X5_digest_1 at hv
    refine lv_iload_n hx hb dX5_digest_17 rfl (lv_at hl 0 rfl) ?_
    refine lv_aload_n hx hb dX5_digest_18 rfl (lv_at hl 2 rfl) ?_
    refine va_get (D := g.1) (ci := 5) (v := .int M_n) (C := RX5) (T := TX5) (N := 16) hx hb hts cw_in_X5 hown hK.1 hP 0 rfl rfl 1 (by decide) (hts _ cw_f_X5_9) (fun _ h9 => h9) rfl dX5_digest_19 ?_
    refine lv_icmp_ge (tgt := 103) hx hb dX5_digest_22 (by decide) (fun hc => ?_) (fun hc => ?_)
    · replace hv := hv.1 hc
      refine lv_lload_n hx hb dX5_digest_103 rfl (lv_at hl 1 rfl) ?_
      refine lv_ldc2 hx hb hown (hts _ cw_l_X5_157) dX5_digest_104 ?_
      refine lv_lmul hx hb dX5_digest_107 ?_
      refine lv_aload_n hx hb dX5_digest_108 rfl (lv_at hl 2 rfl) ?_
      refine va_get (D := g.1) (ci := 5) (v := .int M_levels) (C := RX5) (T := TX5) (N := 16) hx hb hts cw_in_X5 hown hK.1 hP 0 rfl rfl 14 (by decide) (hts _ cw_f_X5_152) (fun _ h9 => h9) rfl dX5_digest_109 ?_
      refine lv_i2l hx hb dX5_digest_112 rfl ?_
      refine lv_ladd hx hb dX5_digest_113 ?_
      refine lv_ldc2 hx hb hown (hts _ cw_l_X5_157) dX5_digest_114 ?_
      refine lv_lmul hx hb dX5_digest_117 ?_
      refine lv_aload_n hx hb dX5_digest_118 rfl (lv_at hl 2 rfl) ?_
      refine va_get (D := g.1) (ci := 5) (v := .int M_hasFactors) (C := RX5) (T := TX5) (N := 16) hx hb hts cw_in_X5 hown hK.1 hP 0 rfl rfl 7 (by decide) (hts _ cw_f_X5_65) (fun _ h9 => h9) rfl dX5_digest_119 ?_
      refine lv_if_eq (tgt := 129) hx hb dX5_digest_122 (by decide) (fun hc => ?_) (fun hc => ?_)
      · replace hv := hv.1 hc
        refine lv_lconst (v := 0) hx hb dX5_digest_129 (by decide) ?_
        refine lv_ladd hx hb dX5_digest_130 ?_
        refine lv_topl (fun x1_1 ex1_1 => ?_)
        replace hv := hv x1_1 ex1_1
        refine lv_lstore_n (lv' := [(1, .long x1_1), (3, .int x3), (0, .ref a_M)]) hx hb dX5_digest_131 rfl hl (by decide) rfl (fun ls hl => ?_)
        refine lv_iconst (v := 0) hx hb dX5_digest_132 (by decide) ?_
        refine lv_istore_n (lv' := [(3, .int 0), (1, .long x1_1), (0, .ref a_M)]) hx hb dX5_digest_133 rfl hl (by decide) rfl (fun ls hl => ?_)
        exact hv _ _ _ hP hD hS (lv_sub hl [0, 1, 2] rfl)
      · replace hv := hv.2 hc
        refine lv_lconst (v := 1) hx hb dX5_digest_125 (by decide) ?_
        refine lv_goto (tgt := 130) hx hb dX5_digest_126 (by decide) ?_
        refine lv_ladd hx hb dX5_digest_130 ?_
        refine lv_topl (fun x1_2 ex1_2 => ?_)
        replace hv := hv x1_2 ex1_2
        refine lv_lstore_n (lv' := [(1, .long x1_2), (3, .int x3), (0, .ref a_M)]) hx hb dX5_digest_131 rfl hl (by decide) rfl (fun ls hl => ?_)
        refine lv_iconst (v := 0) hx hb dX5_digest_132 (by decide) ?_
        refine lv_istore_n (lv' := [(3, .int 0), (1, .long x1_2), (0, .ref a_M)]) hx hb dX5_digest_133 rfl hl (by decide) rfl (fun ls hl => ?_)
        exact hv _ _ _ hP hD hS (lv_sub hl [0, 1, 2] rfl)
    · replace hv := hv.2 hc
      refine lv_iconst (v := 0) hx hb dX5_digest_25 (by decide) ?_
      refine lv_istore (lv' := [(4, .int 0), (3, .int x3), (1, .long x1), (0, .ref a_M)]) hx hb dX5_digest_26 hl (by decide) rfl (fun ls hl => ?_)
      exact hv _ _ _ hP hD hS (lv_sub hl [0, 1, 2, 3] rfl)
  have hs2 : ∀ (x4 : Int32) (x3 : Int32) (x1 : Int64) (v_M_thrown : Int32), vc_X5_digest_2 M_thrown M_n M_hasFactors M_hasSolution M_levels M_places M_rights M_weights M_a M_pivots Q G1 G2 G3 x4 x3 x1 v_M_thrown → G2 x4 x3 x1 v_M_thrown := by
    rw [hG1, hG2, hG3]
    intro x4 x3 x1 v_M_thrown hv H locs ls hP hD hS hl
    unfold vc_X5_digest_2 at hv
    refine lv_iload hx hb dX5_digest_28 (lv_at hl 0 rfl) ?_
    refine lv_iload_n hx hb dX5_digest_30 rfl (lv_at hl 1 rfl) ?_
    refine lv_icmp_gt (tgt := 59) hx hb dX5_digest_31 (by decide) (fun hc => ?_) (fun hc => ?_)
    · replace hv := hv.1 hc
      refine lv_lload_n hx hb dX5_digest_59 rfl (lv_at hl 2 rfl) ?_
      refine lv_ldc2 hx hb hown (hts _ cw_l_X5_157) dX5_digest_60 ?_
      refine lv_lmul hx hb dX5_digest_63 ?_
      refine lv_aload_n hx hb dX5_digest_64 rfl (lv_at hl 3 rfl) ?_
      refine va_get (D := g.1) (ci := 5) (v := .ref a_M_places) (C := RX5) (T := TX5) (N := 16) hx hb hts cw_in_X5 hown hK.1 hP 0 rfl rfl 4 (by decide) (hts _ cw_f_X5_20) (fun _ h9 => h9) rfl dX5_digest_65 ?_
      refine lv_iload_n hx hb dX5_digest_68 rfl (lv_at hl 1 rfl) ?_
      obtain ⟨h_1, hv⟩ := hv
      refine va_iald (D := g.1) hx hb hK.1 hP 1 0 rfl rfl h_1 dX5_digest_69 ?_
      refine lv_i2l hx hb dX5_digest_70 rfl ?_
      refine lv_ladd hx hb dX5_digest_71 ?_
      refine lv_ldc2 hx hb hown (hts _ cw_l_X5_157) dX5_digest_72 ?_
      refine lv_lmul hx hb dX5_digest_75 ?_
      refine lv_aload_n hx hb dX5_digest_76 rfl (lv_at hl 3 rfl) ?_
      refine va_get (D := g.1) (ci := 5) (v := .ref a_M_rights) (C := RX5) (T := TX5) (N := 16) hx hb hts cw_in_X5 hown hK.1 hP 0 rfl rfl 5 (by decide) (hts _ cw_f_X5_23) (fun _ h9 => h9) rfl dX5_digest_77 ?_
      refine lv_iload_n hx hb dX5_digest_80 rfl (lv_at hl 1 rfl) ?_
      obtain ⟨h_2, hv⟩ := hv
      refine va_iald (D := g.1) hx hb hK.1 hP 2 0 rfl rfl h_2 dX5_digest_81 ?_
      refine lv_i2l hx hb dX5_digest_82 rfl ?_
      refine lv_ladd hx hb dX5_digest_83 ?_
      refine lv_ldc2 hx hb hown (hts _ cw_l_X5_157) dX5_digest_84 ?_
      refine lv_lmul hx hb dX5_digest_87 ?_
      refine lv_aload_n hx hb dX5_digest_88 rfl (lv_at hl 3 rfl) ?_
      refine va_get (D := g.1) (ci := 5) (v := .ref a_M_weights) (C := RX5) (T := TX5) (N := 16) hx hb hts cw_in_X5 hown hK.1 hP 0 rfl rfl 6 (by decide) (hts _ cw_f_X5_26) (fun _ h9 => h9) rfl dX5_digest_89 ?_
      refine lv_iload_n hx hb dX5_digest_92 rfl (lv_at hl 1 rfl) ?_
      obtain ⟨h_3, hv⟩ := hv
      refine va_iald (D := g.1) hx hb hK.1 hP 3 0 rfl rfl h_3 dX5_digest_93 ?_
      refine lv_i2l hx hb dX5_digest_94 rfl ?_
      refine lv_ladd hx hb dX5_digest_95 ?_
      refine lv_topl (fun x1_4 ex1_4 => ?_)
      replace hv := hv x1_4 ex1_4
      refine lv_lstore_n (lv' := [(1, .long x1_4), (4, .int x4), (3, .int x3), (0, .ref a_M)]) hx hb dX5_digest_96 rfl hl (by decide) rfl (fun ls hl => ?_)
      obtain ⟨x3_5, ex3_5⟩ : ∃ y : Int32, y = x3 + 1 := ⟨_, rfl⟩
      replace hv := hv x3_5 ex3_5
      refine lv_iinc (v := x3_5) (lv' := [(3, .int x3_5), (1, .long x1_4), (4, .int x4), (0, .ref a_M)]) hx hb dX5_digest_97 hl (k := 2) rfl (by rw [ex3_5]; rfl) (by decide) rfl (fun ls hl => ?_)
      refine lv_goto (tgt := 17) hx hb dX5_digest_100 (by decide) ?_
      exact hv _ _ _ hP hD hS (lv_sub hl [0, 1, 3] rfl)
    · replace hv := hv.2 hc
      refine lv_lload_n hx hb dX5_digest_34 rfl (lv_at hl 2 rfl) ?_
      refine lv_ldc2 hx hb hown (hts _ cw_l_X5_157) dX5_digest_35 ?_
      refine lv_lmul hx hb dX5_digest_38 ?_
      refine lv_aload_n hx hb dX5_digest_39 rfl (lv_at hl 3 rfl) ?_
      refine va_get (D := g.1) (ci := 5) (v := .ref a_M_a) (C := RX5) (T := TX5) (N := 16) hx hb hts cw_in_X5 hown hK.1 hP 0 rfl rfl 2 (by decide) (hts _ cw_f_X5_13) (fun _ h9 => h9) rfl dX5_digest_40 ?_
      refine lv_iload_n hx hb dX5_digest_43 rfl (lv_at hl 1 rfl) ?_
      refine lv_iload hx hb dX5_digest_44 (lv_at hl 0 rfl) ?_
      refine cx_iSr (As := [.int x3, .int x4]) (rest := [.ref a_M_a, .long (x1 * 31)]) ⟨hx, hb, hml, hown, hts⟩ (cp_X5_at l g x3 x4) (cx_cwS 2 hts cw_m_X5_62 cw_t_X5_at cw_n_X5 cw_c_X5_at rfl rfl (by decide +kernel) ⟨Nat.le_of_ble_eq_true rfl, Nat.le_of_ble_eq_true rfl⟩) hK hP hD hS hA [] rfl rfl rfl hl.1 rfl (Nat.le_of_ble_eq_true rfl) dX5_digest_46 ⟨Nat.le_of_ble_eq_true rfl, Nat.le_of_ble_eq_true rfl⟩ (fun r_6 H locs hr9 hP hS => ?_)
      replace hr9 : r_6 = (f_at x3 x4) := hr9
      subst hr9
      obtain ⟨h_7, hv⟩ := hv
      refine va_iald (D := g.1) hx hb hK.1 hP 4 0 rfl rfl h_7 dX5_digest_49 ?_
      refine lv_i2l hx hb dX5_digest_50 rfl ?_
      refine lv_ladd hx hb dX5_digest_51 ?_
      refine lv_topl (fun x1_8 ex1_8 => ?_)
      replace hv := hv x1_8 ex1_8
      refine lv_lstore_n (lv' := [(1, .long x1_8), (4, .int x4), (3, .int x3), (0, .ref a_M)]) hx hb dX5_digest_52 rfl hl (by decide) rfl (fun ls hl => ?_)
      obtain ⟨x4_9, ex4_9⟩ : ∃ y : Int32, y = x4 + 1 := ⟨_, rfl⟩
      replace hv := hv x4_9 ex4_9
      refine lv_iinc (v := x4_9) (lv' := [(4, .int x4_9), (1, .long x1_8), (3, .int x3), (0, .ref a_M)]) hx hb dX5_digest_53 hl (k := 1) rfl (by rw [ex4_9]; rfl) (by decide) rfl (fun ls hl => ?_)
      refine lv_goto (tgt := 28) hx hb dX5_digest_56 (by decide) ?_
      exact hv _ _ _ hP hD hS (lv_sub hl [0, 2, 1, 3] rfl)
  have hs3 : ∀ (x3 : Int32) (x1 : Int64) (v_M_thrown : Int32), vc_X5_digest_3 M_thrown M_n M_hasFactors M_hasSolution M_levels M_places M_rights M_weights M_a M_pivots Q G1 G2 G3 x3 x1 v_M_thrown → G3 x3 x1 v_M_thrown := by
    rw [hG1, hG2, hG3]
    intro x3 x1 v_M_thrown hv H locs ls hP hD hS hl
    unfold vc_X5_digest_3 at hv
    refine lv_iload_n hx hb dX5_digest_134 rfl (lv_at hl 0 rfl) ?_
    refine lv_aload_n hx hb dX5_digest_135 rfl (lv_at hl 2 rfl) ?_
    refine va_get (D := g.1) (ci := 5) (v := .int M_n) (C := RX5) (T := TX5) (N := 16) hx hb hts cw_in_X5 hown hK.1 hP 0 rfl rfl 1 (by decide) (hts _ cw_f_X5_9) (fun _ h9 => h9) rfl dX5_digest_136 ?_
    refine lv_icmp_ge (tgt := 169) hx hb dX5_digest_139 (by decide) (fun hc => ?_) (fun hc => ?_)
    · replace hv := hv.1 hc
      refine lv_lload_n hx hb dX5_digest_169 rfl (lv_at hl 1 rfl) ?_
      exact cx_lret hx hb hr hlocks hAe hS v_M_thrown hv hP hD dX5_digest_170
    · replace hv := hv.2 hc
      refine lv_aload_n hx hb dX5_digest_142 rfl (lv_at hl 2 rfl) ?_
      refine va_get (D := g.1) (ci := 5) (v := .int M_hasFactors) (C := RX5) (T := TX5) (N := 16) hx hb hts cw_in_X5 hown hK.1 hP 0 rfl rfl 7 (by decide) (hts _ cw_f_X5_65) (fun _ h9 => h9) rfl dX5_digest_143 ?_
      refine lv_if_eq (tgt := 169) hx hb dX5_digest_146 (by decide) (fun hc => ?_) (fun hc => ?_)
      · replace hv := hv.1 hc
        refine lv_lload_n hx hb dX5_digest_169 rfl (lv_at hl 1 rfl) ?_
        exact cx_lret hx hb hr hlocks hAe hS v_M_thrown hv hP hD dX5_digest_170
      · replace hv := hv.2 hc
        refine lv_lload_n hx hb dX5_digest_149 rfl (lv_at hl 1 rfl) ?_
        refine lv_ldc2 hx hb hown (hts _ cw_l_X5_157) dX5_digest_150 ?_
        refine lv_lmul hx hb dX5_digest_153 ?_
        refine lv_aload_n hx hb dX5_digest_154 rfl (lv_at hl 2 rfl) ?_
        refine va_get (D := g.1) (ci := 5) (v := .ref a_M_pivots) (C := RX5) (T := TX5) (N := 16) hx hb hts cw_in_X5 hown hK.1 hP 0 rfl rfl 8 (by decide) (hts _ cw_f_X5_29) (fun _ h9 => h9) rfl dX5_digest_155 ?_
        refine lv_iload_n hx hb dX5_digest_158 rfl (lv_at hl 0 rfl) ?_
        obtain ⟨h_1, hv⟩ := hv
        refine va_iald (D := g.1) hx hb hK.1 hP 5 0 rfl rfl h_1 dX5_digest_159 ?_
        refine lv_i2l hx hb dX5_digest_160 rfl ?_
        refine lv_ladd hx hb dX5_digest_161 ?_
        refine lv_topl (fun x1_2 ex1_2 => ?_)
        replace hv := hv x1_2 ex1_2
        refine lv_lstore_n (lv' := [(1, .long x1_2), (3, .int x3), (0, .ref a_M)]) hx hb dX5_digest_162 rfl hl (by decide) rfl (fun ls hl => ?_)
        obtain ⟨x3_3, ex3_3⟩ : ∃ y : Int32, y = x3 + 1 := ⟨_, rfl⟩
        replace hv := hv x3_3 ex3_3
        refine lv_iinc (v := x3_3) (lv' := [(3, .int x3_3), (1, .long x1_2), (0, .ref a_M)]) hx hb dX5_digest_163 hl (k := 1) rfl (by rw [ex3_3]; rfl) (by decide) rfl (fun ls hl => ?_)
        refine lv_goto (tgt := 134) hx hb dX5_digest_166 (by decide) ?_
        exact hv _ _ _ hP hD hS (lv_sub hl [0, 1, 2] rfl)
  replace hv := hv G1 G2 G3 hs1 hs2 hs3
  rw [hG1, hG2, hG3] at hv
  unfold vc_X5_digest_0 at hv
  refine lv_aload_n hx hb dX5_digest_0 rfl (lv_at hl 0 rfl) ?_
  refine lv_iconst (v := 0) hx hb dX5_digest_1 (by decide) ?_
  refine va_put (D := g.1) (ci := 5) (v := .int 0) (ty := .int) (C := RX5) (T := TX5) (N := 16) hx hb hts cw_in_X5 tyX5 tyX5_ok nmX5 hown hK.1 hP hD hS 0 rfl rfl 0 (by decide) (hts _ cw_f_X5_51) (fun _ h9 => h9) rfl (by decide +kernel) rfl rfl (Nat.le_of_ble_eq_true rfl) dX5_digest_2 (fun H locs hP hD hS => ?_)
  have hP : va_P g.1 vwCl [(a_M, .inr (5, [.int 0, .int M_n, .ref a_M_a, .ref a_M_rowAt, .ref a_M_places, .ref a_M_rights, .ref a_M_weights, .int M_hasFactors, .ref a_M_pivots, .ref a_M_lower, .int M_hasSolution, .ref a_M_solution, .ref a_M_work, .ref a_M_isJoined, .int M_levels, .ref a_M_stored])), (a_M_places, .inl (g.2.1, 16, .inl M_places)), (a_M_rights, .inl (g.2.1, 16, .inl M_rights)), (a_M_weights, .inl (g.2.1, 16, .inl M_weights)), (a_M_a, .inl (g.2.1, 256, .inl M_a)), (a_M_pivots, .inl (g.2.1, 16, .inl M_pivots))] H := hP
  have hD : va_D A [(a_M, .inr (5, [.int 0, .int M_n, .ref a_M_a, .ref a_M_rowAt, .ref a_M_places, .ref a_M_rights, .ref a_M_weights, .int M_hasFactors, .ref a_M_pivots, .ref a_M_lower, .int M_hasSolution, .ref a_M_solution, .ref a_M_work, .ref a_M_isJoined, .int M_levels, .ref a_M_stored])), (a_M_places, .inl (g.2.1, 16, .inl M_places)), (a_M_rights, .inl (g.2.1, 16, .inl M_rights)), (a_M_weights, .inl (g.2.1, 16, .inl M_weights)), (a_M_a, .inl (g.2.1, 256, .inl M_a)), (a_M_pivots, .inl (g.2.1, 16, .inl M_pivots))] := hD
  refine lv_ldc2 hx hb hown (hts _ cw_l_X5_155) dX5_digest_5 ?_
  refine lv_aload_n hx hb dX5_digest_8 rfl (lv_at hl 0 rfl) ?_
  refine va_get (D := g.1) (ci := 5) (v := .int M_n) (C := RX5) (T := TX5) (N := 16) hx hb hts cw_in_X5 hown hK.1 hP 0 rfl rfl 1 (by decide) (hts _ cw_f_X5_9) (fun _ h9 => h9) rfl dX5_digest_9 ?_
  refine lv_i2l hx hb dX5_digest_12 rfl ?_
  refine lv_ladd hx hb dX5_digest_13 ?_
  refine lv_topl (fun x1_1 ex1_1 => ?_)
  replace hv := hv x1_1 ex1_1
  refine lv_lstore_n (lv' := [(1, .long x1_1), (0, .ref a_M)]) hx hb dX5_digest_14 rfl hl (by decide) rfl (fun ls hl => ?_)
  refine lv_iconst (v := 0) hx hb dX5_digest_15 (by decide) ?_
  refine lv_istore_n (lv' := [(3, .int 0), (1, .long x1_1), (0, .ref a_M)]) hx hb dX5_digest_16 rfl hl (by decide) rfl (fun ls hl => ?_)
  exact hv _ _ _ hP hD hS (lv_sub hl [0, 1, 2] rfl)
