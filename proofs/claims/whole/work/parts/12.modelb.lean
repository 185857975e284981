def vc_X5_degree_0 (i_a : Int32) (i_f : Int32) (M_thrown : Int32) (M_n : Int32) (M_hasFactors : Int32) (M_hasSolution : Int32) (M_levels : Int32) (M_rowAt : (Nat → Int32)) (M_isJoined : (Nat → Int32)) (Q : Int32 → Prop) (G1 : Int32 → Int32 → Prop)  : Prop := G1 i_f 0
def vc_X5_degree_1 (i_a : Int32) (i_f : Int32) (M_thrown : Int32) (M_n : Int32) (M_hasFactors : Int32) (M_hasSolution : Int32) (M_levels : Int32) (M_rowAt : (Nat → Int32)) (M_isJoined : (Nat → Int32)) (Q : Int32 → Prop) (G1 : Int32 → Int32 → Prop) (x4 : Int32) (x3 : Int32) : Prop := (M_n ≤ x4 → (Q x3)) ∧ (¬ M_n ≤ x4 → (vp_in i_a 16 ∧ (vp_in x4 16 ∧ (vp_in (f_at (M_rowAt (Int32.toNatClampNeg i_a)) (M_rowAt (Int32.toNatClampNeg x4))) 256 ∧ (((M_isJoined (Int32.toNatClampNeg (f_at (M_rowAt (Int32.toNatClampNeg i_a)) (M_rowAt (Int32.toNatClampNeg x4))))) = 0 → (∀ x3_5 : Int32, x3_5 = (x3 + 0) → (∀ x4_6 : Int32, x4_6 = x4 + 1 → (G1 x4_6 x3_5)))) ∧ (¬ (M_isJoined (Int32.toNatClampNeg (f_at (M_rowAt (Int32.toNatClampNeg i_a)) (M_rowAt (Int32.toNatClampNeg x4))))) = 0 → (∀ x3_7 : Int32, x3_7 = (x3 + 1) → (∀ x4_8 : Int32, x4_8 = x4 + 1 → (G1 x4_8 x3_7)))))))))
def wp_X5_degree (i_a : Int32) (i_f : Int32) (M_thrown : Int32) (M_n : Int32) (M_hasFactors : Int32) (M_hasSolution : Int32) (M_levels : Int32) (M_rowAt : (Nat → Int32)) (M_isJoined : (Nat → Int32)) (Q : Int32 → Prop) : Prop := ∀ (G1 : Int32 → Int32 → Prop), (∀ (x4 : Int32) (x3 : Int32), vc_X5_degree_1 i_a i_f M_thrown M_n M_hasFactors M_hasSolution M_levels M_rowAt M_isJoined Q G1 x4 x3 → G1 x4 x3) → vc_X5_degree_0 i_a i_f M_thrown M_n M_hasFactors M_hasSolution M_levels M_rowAt M_isJoined Q G1
abbrev w0_X5_degree (g : cx_G) (a_M a_M_a a_M_rowAt a_M_places a_M_rights a_M_weights a_M_pivots a_M_lower a_M_solution a_M_work a_M_isJoined a_M_stored : Nat) (M_thrown : Int32) (M_n : Int32) (M_hasFactors : Int32) (M_hasSolution : Int32) (M_levels : Int32) (M_rowAt : (Nat → Int32)) (M_isJoined : (Nat → Int32)) : va_W := [(a_M, .inr (5, [.int M_thrown, .int M_n, .ref a_M_a, .ref a_M_rowAt, .ref a_M_places, .ref a_M_rights, .ref a_M_weights, .int M_hasFactors, .ref a_M_pivots, .ref a_M_lower, .int M_hasSolution, .ref a_M_solution, .ref a_M_work, .ref a_M_isJoined, .int M_levels, .ref a_M_stored])), (a_M_rowAt, .inl (g.2.1, 16, .inl M_rowAt)), (a_M_isJoined, .inl (g.2.2.1, 256, .inl M_isJoined))]
set_option maxHeartbeats 4000000 in
set_option maxRecDepth 100000 in
theorem c_X5_degree (l : Launch) (g : cx_G) (a_M a_M_a a_M_rowAt a_M_places a_M_rights a_M_weights a_M_pivots a_M_lower a_M_solution a_M_work a_M_isJoined a_M_stored : Nat) (i_a : Int32) (i_f : Int32) (M_thrown : Int32) (M_n : Int32) (M_hasFactors : Int32) (M_hasSolution : Int32) (M_levels : Int32) (M_rowAt : (Nat → Int32)) (M_isJoined : (Nat → Int32)) {Q : Int32 → Prop} (hv : wp_X5_degree i_a i_f M_thrown M_n M_hasFactors M_hasSolution M_levels M_rowAt M_isJoined Q) : cx_Mi l g yX5_degree (Cond.code yX5_degree cX5_degree 5 (some .int) :: cx_T) ({ frames := 1, cells := 0, slots := 0, locals := 21 } : Room) [.ref a_M, .int i_a, .int i_f] (w0_X5_degree g a_M a_M_a a_M_rowAt a_M_places a_M_rights a_M_weights a_M_pivots a_M_lower a_M_solution a_M_work a_M_isJoined a_M_stored M_thrown M_n M_hasFactors M_hasSolution M_levels M_rowAt M_isJoined) (fun (r : Int32) (_ : Unit) => Q r) (fun _ : Unit => (w0_X5_degree g a_M a_M_a a_M_rowAt a_M_places a_M_rights a_M_weights a_M_pivots a_M_lower a_M_solution a_M_work a_M_isJoined a_M_stored M_thrown M_n M_hasFactors M_hasSolution M_levels M_rowAt M_isJoined)) 0 0 := by
  intro sz
  refine Met.ofW (cc := cX5_degree) (maxL := 5) (ret := (some .int)) (by decide) rfl ?_
  intro p e s m args below meth c s₁ B hml hpre
  obtain ⟨rfl, hsz, hP, hK, hD0⟩ := hpre
  have hx := B.exec
  have hb := B.bytes
  have hr := B.returns
  have hts0 := atoms_spec (ws := (Cond.code yX5_degree cX5_degree 5 (some .int) :: cx_T)) B.pre
  have hts : ∀ w ∈ cx_T, w.before _ s = true := fun w h => hts0 w (List.mem_cons_of_mem _ h)
  have hown : s.vm.findClass RX5 = some m.cls := findClass_of_methodNamed B.named
  have hlocks := B.notSynchronized
  subst hsz
  have hD := hD0.self (sz := s.heap.size)
  obtain ⟨A, hAe⟩ : ∃ A : Nat → Prop, A = va_A (w0_X5_degree g a_M a_M_a a_M_rowAt a_M_places a_M_rights a_M_weights a_M_pivots a_M_lower a_M_solution a_M_work a_M_isJoined a_M_stored M_thrown M_n M_hasFactors M_hasSolution M_levels M_rowAt M_isJoined) s.heap.size := ⟨_, rfl⟩
  rw [← hAe] at hD
  have hA : ∀ q : Nat, s.heap.size ≤ q → A q := fun q h => by rw [hAe]; exact Or.inr h
  have hS : va_S A s.heap s.heap [] := va_S.rf
  have hP : va_P g.1 vwCl [(a_M, .inr (5, [.int M_thrown, .int M_n, .ref a_M_a, .ref a_M_rowAt, .ref a_M_places, .ref a_M_rights, .ref a_M_weights, .int M_hasFactors, .ref a_M_pivots, .ref a_M_lower, .int M_hasSolution, .ref a_M_solution, .ref a_M_work, .ref a_M_isJoined, .int M_levels, .ref a_M_stored])), (a_M_rowAt, .inl (g.2.1, 16, .inl M_rowAt)), (a_M_isJoined, .inl (g.2.2.1, 256, .inl M_isJoined))] s.heap := hP
  have hD : va_D A [(a_M, .inr (5, [.int M_thrown, .int M_n, .ref a_M_a, .ref a_M_rowAt, .ref a_M_places, .ref a_M_rights, .ref a_M_weights, .int M_hasFactors, .ref a_M_pivots, .ref a_M_lower, .int M_hasSolution, .ref a_M_solution, .ref a_M_work, .ref a_M_isJoined, .int M_levels, .ref a_M_stored])), (a_M_rowAt, .inl (g.2.1, 16, .inl M_rowAt)), (a_M_isJoined, .inl (g.2.2.1, 256, .inl M_isJoined))] := hD
  have hl := lv_entry ([.ref a_M, .int i_a, .int i_f]) (n := 5) (Nat.le_of_ble_eq_true rfl)
  rw [lg_entry_eq]
  generalize (lg_sl ([.ref a_M, .int i_a, .int i_f]) ++ List.replicate (5 - (lg_sl ([.ref a_M, .int i_a, .int i_f])).length) Slot.unset).toArray = ls at hl ⊢
  have hl : lv_has ls 5 [(0, .ref a_M), (1, .int i_a), (2, .int i_f)] := hl
  obtain ⟨G1, hG1⟩ : ∃ G : Int32 → Int32 → Prop, G = (fun (x4 : Int32) (x3 : Int32) => ∀ (H : Heap) (locs : List Loc) (ls : Array Slot), va_P g.1 vwCl [(a_M, .inr (5, [.int M_thrown, .int M_n, .ref a_M_a, .ref a_M_rowAt, .ref a_M_places, .ref a_M_rights, .ref a_M_weights, .int M_hasFactors, .ref a_M_pivots, .ref a_M_lower, .int M_hasSolution, .ref a_M_solution, .ref a_M_work, .ref a_M_isJoined, .int M_levels, .ref a_M_stored])), (a_M_rowAt, .inl (g.2.1, 16, .inl M_rowAt)), (a_M_isJoined, .inl (g.2.2.1, 256, .inl M_isJoined))] H → va_D A [(a_M, .inr (5, [.int M_thrown, .int M_n, .ref a_M_a, .ref a_M_rowAt, .ref a_M_places, .ref a_M_rights, .ref a_M_weights, .int M_hasFactors, .ref a_M_pivots, .ref a_M_lower, .int M_hasSolution, .ref a_M_solution, .ref a_M_work, .ref a_M_isJoined, .int M_levels, .ref a_M_stored])), (a_M_rowAt, .inl (g.2.1, 16, .inl M_rowAt)), (a_M_isJoined, .inl (g.2.2.1, 256, .inl M_isJoined))] → va_S A s.heap H locs → lv_has ls 5 [(4, .int x4), (3, .int x3), (0, .ref a_M), (1, .int i_a), (2, .int i_f)] → W p l e (headSpec (Cond.code yX5_degree cX5_degree 5 (some .int) :: cx_T) ({ frames := 1, cells := 0, slots := 0, locals := 21 } : Room)).room s m ([.ref a_M, .int i_a, .int i_f] : List Value).toArray below meth c H locs 0 0 (MQ below (va_Qi (fun (r : Int32) (_ : Unit) => Q r) (cx_B g (w0_X5_degree g a_M a_M_a a_M_rowAt a_M_places a_M_rights a_M_weights a_M_pivots a_M_lower a_M_solution a_M_work a_M_isJoined a_M_stored M_thrown M_n M_hasFactors M_hasSolution M_levels M_rowAt M_isJoined) s.heap.size (fun _ : Unit => (w0_X5_degree g a_M a_M_a a_M_rowAt a_M_places a_M_rights a_M_weights a_M_pivots a_M_lower a_M_solution a_M_work a_M_isJoined a_M_stored M_thrown M_n M_hasFactors M_hasSolution M_levels M_rowAt M_isJoined))) (va_A (w0_X5_degree g a_M a_M_a a_M_rowAt a_M_places a_M_rights a_M_weights a_M_pivots a_M_lower a_M_solution a_M_work a_M_isJoined a_M_stored M_thrown M_n M_hasFactors M_hasSolution M_levels M_rowAt M_isJoined) s.heap.size)) ([.ref a_M, .int i_a, .int i_f] : List Value).toArray s 0 0 (va_A (w0_X5_degree g a_M a_M_a a_M_rowAt a_M_places a_M_rights a_M_weights a_M_pivots a_M_lower a_M_solution a_M_work a_M_isJoined a_M_stored M_thrown M_n M_hasFactors M_hasSolution M_levels M_rowAt M_isJoined) s.heap.size)) (F0 m 5 ls [])) := ⟨_, rfl⟩
  have hs1 : ∀ (x4 : Int32) (x3 : Int32), vc_X5_degree_1 i_a i_f M_thrown M_n M_hasFactors M_hasSolution M_levels M_rowAt M_isJoined Q G1 x4 x3 → G1 x4 x3 := by
    rw [hG1]
    intro x4 x3 hv H locs ls hP hD hS hl
    unfold vc_X5_degree_1 at hv
    refine lv_iload hx hb dX5_degree_5 (lv_at hl 0 rfl) ?_
    refine lv_aload_n hx hb dX5_degree_7 rfl (lv_at hl 2 rfl) ?_
    refine va_get (D := g.1) (ci := 5) (v := .int M_n) (C := RX5) (T := TX5) (N := 16) hx hb hts cw_in_X5 hown hK.1 hP 0 rfl rfl 1 (by decide) (hts _ cw_f_X5_9) (fun _ h9 => h9) rfl dX5_degree_8 ?_
    refine lv_icmp_ge (tgt := 52) hx hb dX5_degree_11 (by decide) (fun hc => ?_) (fun hc => ?_)
    · replace hv := hv.1 hc
      refine lv_iload_n hx hb dX5_degree_52 rfl (lv_at hl 1 rfl) ?_
      exact cx_iret hx hb hr hlocks hAe hS () hv hP hD dX5_degree_53
    · replace hv := hv.2 hc
      refine lv_iload_n hx hb dX5_degree_14 rfl (lv_at hl 1 rfl) ?_
      refine lv_aload_n hx hb dX5_degree_15 rfl (lv_at hl 2 rfl) ?_
      refine va_get (D := g.1) (ci := 5) (v := .ref a_M_isJoined) (C := RX5) (T := TX5) (N := 16) hx hb hts cw_in_X5 hown hK.1 hP 0 rfl rfl 13 (by decide) (hts _ cw_f_X5_41) (fun _ h9 => h9) rfl dX5_degree_16 ?_
      refine lv_aload_n hx hb dX5_degree_19 rfl (lv_at hl 2 rfl) ?_
      refine va_get (D := g.1) (ci := 5) (v := .ref a_M_rowAt) (C := RX5) (T := TX5) (N := 16) hx hb hts cw_in_X5 hown hK.1 hP 0 rfl rfl 3 (by decide) (hts _ cw_f_X5_17) (fun _ h9 => h9) rfl dX5_degree_20 ?_
      refine lv_iload_n hx hb dX5_degree_23 rfl (lv_at hl 3 rfl) ?_
      obtain ⟨h_1, hv⟩ := hv
      refine va_iald (D := g.1) hx hb hK.1 hP 1 0 rfl rfl h_1 dX5_degree_24 ?_
      refine lv_aload_n hx hb dX5_degree_25 rfl (lv_at hl 2 rfl) ?_
      refine va_get (D := g.1) (ci := 5) (v := .ref a_M_rowAt) (C := RX5) (T := TX5) (N := 16) hx hb hts cw_in_X5 hown hK.1 hP 0 rfl rfl 3 (by decide) (hts _ cw_f_X5_17) (fun _ h9 => h9) rfl dX5_degree_26 ?_
      refine lv_iload hx hb dX5_degree_29 (lv_at hl 0 rfl) ?_
      obtain ⟨h_2, hv⟩ := hv
      refine va_iald (D := g.1) hx hb hK.1 hP 1 0 rfl rfl h_2 dX5_degree_31 ?_
      refine cx_iSr (As := [.int (M_rowAt (Int32.toNatClampNeg i_a)), .int (M_rowAt (Int32.toNatClampNeg x4))]) (rest := [.ref a_M_isJoined, .int x3]) ⟨hx, hb, hml, hown, hts⟩ (cp_X5_at l g (M_rowAt (Int32.toNatClampNeg i_a)) (M_rowAt (Int32.toNatClampNeg x4))) (cx_cwS 2 hts cw_m_X5_62 cw_t_X5_at cw_n_X5 cw_c_X5_at rfl rfl (by decide +kernel) ⟨Nat.le_of_ble_eq_true rfl, Nat.le_of_ble_eq_true rfl⟩) hK hP hD hS hA [] rfl rfl rfl hl.1 rfl (Nat.le_of_ble_eq_true rfl) dX5_degree_32 ⟨Nat.le_of_ble_eq_true rfl, Nat.le_of_ble_eq_true rfl⟩ (fun r_3 H locs hr9 hP hS => ?_)
      replace hr9 : r_3 = (f_at (M_rowAt (Int32.toNatClampNeg i_a)) (M_rowAt (Int32.toNatClampNeg x4))) := hr9
      subst hr9
      obtain ⟨h_4, hv⟩ := hv
      refine va_zald (D := g.1) hx hb hK.1 hP 2 1 rfl rfl h_4 dX5_degree_35 ?_
      refine lv_if_eq (tgt := 43) hx hb dX5_degree_36 (by decide) (fun hc => ?_) (fun hc => ?_)
      · replace hv := hv.1 hc
        refine lv_iconst (v := 0) hx hb dX5_degree_43 (by decide) ?_
        refine lv_iadd hx hb dX5_degree_44 ?_
        refine lv_topi (fun x3_5 ex3_5 => ?_)
        replace hv := hv x3_5 ex3_5
        refine lv_istore_n (lv' := [(3, .int x3_5), (4, .int x4), (0, .ref a_M), (1, .int i_a), (2, .int i_f)]) hx hb dX5_degree_45 rfl hl (by decide) rfl (fun ls hl => ?_)
        obtain ⟨x4_6, ex4_6⟩ : ∃ y : Int32, y = x4 + 1 := ⟨_, rfl⟩
        replace hv := hv x4_6 ex4_6
        refine lv_iinc (v := x4_6) (lv' := [(4, .int x4_6), (3, .int x3_5), (0, .ref a_M), (1, .int i_a), (2, .int i_f)]) hx hb dX5_degree_46 hl (k := 1) rfl (by rw [ex4_6]; rfl) (by decide) rfl (fun ls hl => ?_)
        refine lv_goto (tgt := 5) hx hb dX5_degree_49 (by decide) ?_
        exact hv _ _ _ hP hD hS (lv_sub hl [0, 1, 2, 3, 4] rfl)
      · replace hv := hv.2 hc
        refine lv_iconst (v := 1) hx hb dX5_degree_39 (by decide) ?_
        refine lv_goto (tgt := 44) hx hb dX5_degree_40 (by decide) ?_
        refine lv_iadd hx hb dX5_degree_44 ?_
        refine lv_topi (fun x3_7 ex3_7 => ?_)
        replace hv := hv x3_7 ex3_7
        refine lv_istore_n (lv' := [(3, .int x3_7), (4, .int x4), (0, .ref a_M), (1, .int i_a), (2, .int i_f)]) hx hb dX5_degree_45 rfl hl (by decide) rfl (fun ls hl => ?_)
        obtain ⟨x4_8, ex4_8⟩ : ∃ y : Int32, y = x4 + 1 := ⟨_, rfl⟩
        replace hv := hv x4_8 ex4_8
        refine lv_iinc (v := x4_8) (lv' := [(4, .int x4_8), (3, .int x3_7), (0, .ref a_M), (1, .int i_a), (2, .int i_f)]) hx hb dX5_degree_46 hl (k := 1) rfl (by rw [ex4_8]; rfl) (by decide) rfl (fun ls hl => ?_)
        refine lv_goto (tgt := 5) hx hb dX5_degree_49 (by decide) ?_
        exact hv _ _ _ hP hD hS (lv_sub hl [0, 1, 2, 3, 4] rfl)
  replace hv := hv G1 hs1
  rw [hG1] at hv
  unfold vc_X5_degree_0 at hv
  refine lv_iconst (v := 0) hx hb dX5_degree_0 (by decide) ?_
  refine lv_istore_n (lv' := [(3, .int 0), (0, .ref a_M), (1, .int i_a), (2, .int i_f)]) hx hb dX5_degree_1 rfl hl (by decide) rfl (fun ls hl => ?_)
  refine lv_iload_n hx hb dX5_degree_2 rfl (lv_at hl 3 rfl) ?_
  refine lv_istore (lv' := [(4, .int i_f), (3, .int 0), (0, .ref a_M), (1, .int i_a), (2, .int i_f)]) hx hb dX5_degree_3 hl (by decide) rfl (fun ls hl => ?_)
  exact hv _ _ _ hP hD hS (lv_sub hl [0, 1, 2, 3, 4] rfl)
def vc_X5_minimumDegree_0 (M_thrown : Int32) (M_n : Int32) (M_hasFactors : Int32) (M_hasSolution : Int32) (M_levels : Int32) (M_a : (Nat → Int32)) (M_isJoined : (Nat → Int32)) (M_rowAt : (Nat → Int32)) (M_places : (Nat → Int32)) (Q : Int32 → Int32 → Int32 → (Nat → Int32) → (Nat → Int32) → (Nat → Int32) → Prop) (G1 : Int32 → Int32 → Int32 → (Nat → Int32) → (Nat → Int32) → (Nat → Int32) → Prop) (G2 : Int32 → Int32 → Int32 → Int32 → Int32 → (Nat → Int32) → (Nat → Int32) → (Nat → Int32) → Prop)  : Prop := wp_X5_join 0 M_n 0 M_hasSolution M_levels M_a M_isJoined (fun u_2 => G1 0 0 0 u_2 M_rowAt M_places)
def vc_X5_minimumDegree_1 (M_thrown : Int32) (M_n : Int32) (M_hasFactors : Int32) (M_hasSolution : Int32) (M_levels : Int32) (M_a : (Nat → Int32)) (M_isJoined : (Nat → Int32)) (M_rowAt : (Nat → Int32)) (M_places : (Nat → Int32)) (Q : Int32 → Int32 → Int32 → (Nat → Int32) → (Nat → Int32) → (Nat → Int32) → Prop) (G1 : Int32 → Int32 → Int32 → (Nat → Int32) → (Nat → Int32) → (Nat → Int32) → Prop) (G2 : Int32 → Int32 → Int32 → Int32 → Int32 → (Nat → Int32) → (Nat → Int32) → (Nat → Int32) → Prop) (x1 : Int32) (v_M_thrown : Int32) (v_M_hasFactors : Int32) (v_M_isJoined : (Nat → Int32)) (v_M_rowAt : (Nat → Int32)) (v_M_places : (Nat → Int32)) : Prop := (M_n ≤ x1 → (wp_X5_fills v_M_thrown M_n v_M_hasFactors M_hasSolution M_levels M_a v_M_isJoined v_M_rowAt (fun r_1 u_2 => Q r_1 v_M_thrown v_M_hasFactors u_2 v_M_rowAt v_M_places))) ∧ (¬ M_n ≤ x1 → (∀ x3_4 : Int32, x3_4 = (x1 + 1) → (G2 x3_4 x1 x1 v_M_thrown v_M_hasFactors v_M_isJoined v_M_rowAt v_M_places)))
def vc_X5_minimumDegree_2 (M_thrown : Int32) (M_n : Int32) (M_hasFactors : Int32) (M_hasSolution : Int32) (M_levels : Int32) (M_a : (Nat → Int32)) (M_isJoined : (Nat → Int32)) (M_rowAt : (Nat → Int32)) (M_places : (Nat → Int32)) (Q : Int32 → Int32 → Int32 → (Nat → Int32) → (Nat → Int32) → (Nat → Int32) → Prop) (G1 : Int32 → Int32 → Int32 → (Nat → Int32) → (Nat → Int32) → (Nat → Int32) → Prop) (G2 : Int32 → Int32 → Int32 → Int32 → Int32 → (Nat → Int32) → (Nat → Int32) → (Nat → Int32) → Prop) (x3 : Int32) (x2 : Int32) (x1 : Int32) (v_M_thrown : Int32) (v_M_hasFactors : Int32) (v_M_isJoined : (Nat → Int32)) (v_M_rowAt : (Nat → Int32)) (v_M_places : (Nat → Int32)) : Prop := (M_n ≤ x3 → (wp_X5_exchange x1 x2 v_M_thrown M_n v_M_hasFactors M_hasSolution M_levels v_M_rowAt v_M_places (fun u_2 u_3 => wp_X5_eliminate_ x1 v_M_thrown M_n v_M_hasFactors M_hasSolution M_levels u_2 v_M_isJoined (fun u_6 => ∀ x1_8 : Int32, x1_8 = x1 + 1 → (G1 x1_8 v_M_thrown v_M_hasFactors u_6 u_2 u_3))))) ∧ (¬ M_n ≤ x3 → (wp_X5_degree x3 x1 v_M_thrown M_n v_M_hasFactors M_hasSolution M_levels v_M_rowAt v_M_isJoined (fun r_9 => wp_X5_degree x2 x1 v_M_thrown M_n v_M_hasFactors M_hasSolution M_levels v_M_rowAt v_M_isJoined (fun r_10 => (r_9 < r_10 → (∀ x3_11 : Int32, x3_11 = x3 + 1 → (G2 x3_11 x3 x1 v_M_thrown v_M_hasFactors v_M_isJoined v_M_rowAt v_M_places))) ∧ (¬ r_9 < r_10 → (wp_X5_degree x3 x1 v_M_thrown M_n v_M_hasFactors M_hasSolution M_levels v_M_rowAt v_M_isJoined (fun r_12 => wp_X5_degree x2 x1 v_M_thrown M_n v_M_hasFactors M_hasSolution M_levels v_M_rowAt v_M_isJoined (fun r_13 => (r_12 = r_13 → (vp_in x3 16 ∧ (vp_in x2 16 ∧ (((v_M_rowAt (Int32.toNatClampNeg x2)) ≤ (v_M_rowAt (Int32.toNatClampNeg x3)) → (∀ x3_17 : Int32, x3_17 = x3 + 1 → (G2 x3_17 x2 x1 v_M_thrown v_M_hasFactors v_M_isJoined v_M_rowAt v_M_places))) ∧ (¬ (v_M_rowAt (Int32.toNatClampNeg x2)) ≤ (v_M_rowAt (Int32.toNatClampNeg x3)) → (∀ x3_18 : Int32, x3_18 = x3 + 1 → (G2 x3_18 x3 x1 v_M_thrown v_M_hasFactors v_M_isJoined v_M_rowAt v_M_places))))))) ∧ (¬ r_12 = r_13 → (∀ x3_14 : Int32, x3_14 = x3 + 1 → (G2 x3_14 x2 x1 v_M_thrown v_M_hasFactors v_M_isJoined v_M_rowAt v_M_places)))))))))))
def wp_X5_minimumDegree (M_thrown : Int32) (M_n : Int32) (M_hasFactors : Int32) (M_hasSolution : Int32) (M_levels : Int32) (M_a : (Nat → Int32)) (M_isJoined : (Nat → Int32)) (M_rowAt : (Nat → Int32)) (M_places : (Nat → Int32)) (Q : Int32 → Int32 → Int32 → (Nat → Int32) → (Nat → Int32) → (Nat → Int32) → Prop) : Prop := ∀ (G1 : Int32 → Int32 → Int32 → (Nat → Int32) → (Nat → Int32) → (Nat → Int32) → Prop) (G2 : Int32 → Int32 → Int32 → Int32 → Int32 → (Nat → Int32) → (Nat → Int32) → (Nat → Int32) → Prop), (∀ (x1 : Int32) (v_M_thrown : Int32) (v_M_hasFactors : Int32) (v_M_isJoined : (Nat → Int32)) (v_M_rowAt : (Nat → Int32)) (v_M_places : (Nat → Int32)), vc_X5_minimumDegree_1 M_thrown M_n M_hasFactors M_hasSolution M_levels M_a M_isJoined M_rowAt M_places Q G1 G2 x1 v_M_thrown v_M_hasFactors v_M_isJoined v_M_rowAt v_M_places → G1 x1 v_M_thrown v_M_hasFactors v_M_isJoined v_M_rowAt v_M_places) → (∀ (x3 : Int32) (x2 : Int32) (x1 : Int32) (v_M_thrown : Int32) (v_M_hasFactors : Int32) (v_M_isJoined : (Nat → Int32)) (v_M_rowAt : (Nat → Int32)) (v_M_places : (Nat → Int32)), vc_X5_minimumDegree_2 M_thrown M_n M_hasFactors M_hasSolution M_levels M_a M_isJoined M_rowAt M_places Q G1 G2 x3 x2 x1 v_M_thrown v_M_hasFactors v_M_isJoined v_M_rowAt v_M_places → G2 x3 x2 x1 v_M_thrown v_M_hasFactors v_M_isJoined v_M_rowAt v_M_places) → vc_X5_minimumDegree_0 M_thrown M_n M_hasFactors M_hasSolution M_levels M_a M_isJoined M_rowAt M_places Q G1 G2
abbrev w0_X5_minimumDegree (g : cx_G) (a_M a_M_a a_M_rowAt a_M_places a_M_rights a_M_weights a_M_pivots a_M_lower a_M_solution a_M_work a_M_isJoined a_M_stored : Nat) (M_thrown : Int32) (M_n : Int32) (M_hasFactors : Int32) (M_hasSolution : Int32) (M_levels : Int32) (M_a : (Nat → Int32)) (M_isJoined : (Nat → Int32)) (M_rowAt : (Nat → Int32)) (M_places : (Nat → Int32)) : va_W := [(a_M, .inr (5, [.int M_thrown, .int M_n, .ref a_M_a, .ref a_M_rowAt, .ref a_M_places, .ref a_M_rights, .ref a_M_weights, .int M_hasFactors, .ref a_M_pivots, .ref a_M_lower, .int M_hasSolution, .ref a_M_solution, .ref a_M_work, .ref a_M_isJoined, .int M_levels, .ref a_M_stored])), (a_M_a, .inl (g.2.1, 256, .inl M_a)), (a_M_isJoined, .inl (g.2.2.1, 256, .inl M_isJoined)), (a_M_rowAt, .inl (g.2.1, 16, .inl M_rowAt)), (a_M_places, .inl (g.2.1, 16, .inl M_places))]
abbrev w1_X5_minimumDegree (g : cx_G) (a_M a_M_a a_M_rowAt a_M_places a_M_rights a_M_weights a_M_pivots a_M_lower a_M_solution a_M_work a_M_isJoined a_M_stored : Nat) (M_thrown : Int32) (M_n : Int32) (M_hasFactors : Int32) (M_hasSolution : Int32) (M_levels : Int32) (M_a : (Nat → Int32)) (M_isJoined : (Nat → Int32)) (M_rowAt : (Nat → Int32)) (M_places : (Nat → Int32)) (u : Int32 × Int32 × (Nat → Int32) × (Nat → Int32) × (Nat → Int32)) : va_W := [(a_M, .inr (5, [.int u.1, .int M_n, .ref a_M_a, .ref a_M_rowAt, .ref a_M_places, .ref a_M_rights, .ref a_M_weights, .int u.2.1, .ref a_M_pivots, .ref a_M_lower, .int M_hasSolution, .ref a_M_solution, .ref a_M_work, .ref a_M_isJoined, .int M_levels, .ref a_M_stored])), (a_M_a, .inl (g.2.1, 256, .inl M_a)), (a_M_isJoined, .inl (g.2.2.1, 256, .inl u.2.2.1)), (a_M_rowAt, .inl (g.2.1, 16, .inl u.2.2.2.1)), (a_M_places, .inl (g.2.1, 16, .inl u.2.2.2.2))]
set_option maxHeartbeats 4000000 in
set_option maxRecDepth 100000 in
theorem c_X5_minimumDegree (l : Launch) (g : cx_G) (a_M a_M_a a_M_rowAt a_M_places a_M_rights a_M_weights a_M_pivots a_M_lower a_M_solution a_M_work a_M_isJoined a_M_stored : Nat) (M_thrown : Int32) (M_n : Int32) (M_hasFactors : Int32) (M_hasSolution : Int32) (M_levels : Int32) (M_a : (Nat → Int32)) (M_isJoined : (Nat → Int32)) (M_rowAt : (Nat → Int32)) (M_places : (Nat → Int32)) {Q : Int32 → Int32 → Int32 → (Nat → Int32) → (Nat → Int32) → (Nat → Int32) → Prop} (hv : wp_X5_minimumDegree M_thrown M_n M_hasFactors M_hasSolution M_levels M_a M_isJoined M_rowAt M_places Q) : cx_Mi l g yX5_minimumDegree (Cond.code yX5_minimumDegree cX5_minimumDegree 4 (some .int) :: cx_T) ({ frames := 5, cells := 0, slots := 0, locals := 109 } : Room) [.ref a_M] (w0_X5_minimumDegree g a_M a_M_a a_M_rowAt a_M_places a_M_rights a_M_weights a_M_pivots a_M_lower a_M_solution a_M_work a_M_isJoined a_M_stored M_thrown M_n M_hasFactors M_hasSolution M_levels M_a M_isJoined M_rowAt M_places) (fun (r : Int32) (u : Int32 × Int32 × (Nat → Int32) × (Nat → Int32) × (Nat → Int32)) => Q r u.1 u.2.1 u.2.2.1 u.2.2.2.1 u.2.2.2.2) (w1_X5_minimumDegree g a_M a_M_a a_M_rowAt a_M_places a_M_rights a_M_weights a_M_pivots a_M_lower a_M_solution a_M_work a_M_isJoined a_M_stored M_thrown M_n M_hasFactors M_hasSolution M_levels M_a M_isJoined M_rowAt M_places) 0 0 := by
  intro sz
  refine Met.ofW (cc := cX5_minimumDegree) (maxL := 4) (ret := (some .int)) (by decide) rfl ?_
  intro p e s m args below meth c s₁ B hml hpre
  obtain ⟨rfl, hsz, hP, hK, hD0⟩ := hpre
  have hx := B.exec
  have hb := B.bytes
  have hr := B.returns
  have hts0 := atoms_spec (ws := (Cond.code yX5_minimumDegree cX5_minimumDegree 4 (some .int) :: cx_T)) B.pre
  have hts : ∀ w ∈ cx_T, w.before _ s = true := fun w h => hts0 w (List.mem_cons_of_mem _ h)
  have hown : s.vm.findClass RX5 = some m.cls := findClass_of_methodNamed B.named
  have hlocks := B.notSynchronized
  subst hsz
  have hD := hD0.self (sz := s.heap.size)
  obtain ⟨A, hAe⟩ : ∃ A : Nat → Prop, A = va_A (w0_X5_minimumDegree g a_M a_M_a a_M_rowAt a_M_places a_M_rights a_M_weights a_M_pivots a_M_lower a_M_solution a_M_work a_M_isJoined a_M_stored M_thrown M_n M_hasFactors M_hasSolution M_levels M_a M_isJoined M_rowAt M_places) s.heap.size := ⟨_, rfl⟩
  rw [← hAe] at hD
  have hA : ∀ q : Nat, s.heap.size ≤ q → A q := fun q h => by rw [hAe]; exact Or.inr h
  have hS : va_S A s.heap s.heap [] := va_S.rf
  have hP : va_P g.1 vwCl [(a_M, .inr (5, [.int M_thrown, .int M_n, .ref a_M_a, .ref a_M_rowAt, .ref a_M_places, .ref a_M_rights, .ref a_M_weights, .int M_hasFactors, .ref a_M_pivots, .ref a_M_lower, .int M_hasSolution, .ref a_M_solution, .ref a_M_work, .ref a_M_isJoined, .int M_levels, .ref a_M_stored])), (a_M_a, .inl (g.2.1, 256, .inl M_a)), (a_M_isJoined, .inl (g.2.2.1, 256, .inl M_isJoined)), (a_M_rowAt, .inl (g.2.1, 16, .inl M_rowAt)), (a_M_places, .inl (g.2.1, 16, .inl M_places))] s.heap := hP
  have hD : va_D A [(a_M, .inr (5, [.int M_thrown, .int M_n, .ref a_M_a, .ref a_M_rowAt, .ref a_M_places, .ref a_M_rights, .ref a_M_weights, .int M_hasFactors, .ref a_M_pivots, .ref a_M_lower, .int M_hasSolution, .ref a_M_solution, .ref a_M_work, .ref a_M_isJoined, .int M_levels, .ref a_M_stored])), (a_M_a, .inl (g.2.1, 256, .inl M_a)), (a_M_isJoined, .inl (g.2.2.1, 256, .inl M_isJoined)), (a_M_rowAt, .inl (g.2.1, 16, .inl M_rowAt)), (a_M_places, .inl (g.2.1, 16, .inl M_places))] := hD
  have hl := lv_entry ([.ref a_M]) (n := 4) (Nat.le_of_ble_eq_true rfl)
  rw [lg_entry_eq]
  generalize (lg_sl ([.ref a_M]) ++ List.replicate (4 - (lg_sl ([.ref a_M])).length) Slot.unset).toArray = ls at hl ⊢
  have hl : lv_has ls 4 [(0, .ref a_M)] := hl
  obtain ⟨G1, hG1⟩ : ∃ G : Int32 → Int32 → Int32 → (Nat → Int32) → (Nat → Int32) → (Nat → Int32) → Prop, G = (fun (x1 : Int32) (v_M_thrown : Int32) (v_M_hasFactors : Int32) (v_M_isJoined : (Nat → Int32)) (v_M_rowAt : (Nat → Int32)) (v_M_places : (Nat → Int32)) => ∀ (H : Heap) (locs : List Loc) (ls : Array Slot), va_P g.1 vwCl [(a_M, .inr (5, [.int v_M_thrown, .int M_n, .ref a_M_a, .ref a_M_rowAt, .ref a_M_places, .ref a_M_rights, .ref a_M_weights, .int v_M_hasFactors, .ref a_M_pivots, .ref a_M_lower, .int M_hasSolution, .ref a_M_solution, .ref a_M_work, .ref a_M_isJoined, .int M_levels, .ref a_M_stored])), (a_M_a, .inl (g.2.1, 256, .inl M_a)), (a_M_isJoined, .inl (g.2.2.1, 256, .inl v_M_isJoined)), (a_M_rowAt, .inl (g.2.1, 16, .inl v_M_rowAt)), (a_M_places, .inl (g.2.1, 16, .inl v_M_places))] H → va_D A [(a_M, .inr (5, [.int v_M_thrown, .int M_n, .ref a_M_a, .ref a_M_rowAt, .ref a_M_places, .ref a_M_rights, .ref a_M_weights, .int v_M_hasFactors, .ref a_M_pivots, .ref a_M_lower, .int M_hasSolution, .ref a_M_solution, .ref a_M_work, .ref a_M_isJoined, .int M_levels, .ref a_M_stored])), (a_M_a, .inl (g.2.1, 256, .inl M_a)), (a_M_isJoined, .inl (g.2.2.1, 256, .inl v_M_isJoined)), (a_M_rowAt, .inl (g.2.1, 16, .inl v_M_rowAt)), (a_M_places, .inl (g.2.1, 16, .inl v_M_places))] → va_S A s.heap H locs → lv_has ls 4 [(1, .int x1), (0, .ref a_M)] → W p l e (headSpec (Cond.code yX5_minimumDegree cX5_minimumDegree 4 (some .int) :: cx_T) ({ frames := 5, cells := 0, slots := 0, locals := 109 } : Room)).room s m ([.ref a_M] : List Value).toArray below meth c H locs 0 0 (MQ below (va_Qi (fun (r : Int32) (u : Int32 × Int32 × (Nat → Int32) × (Nat → Int32) × (Nat → Int32)) => Q r u.1 u.2.1 u.2.2.1 u.2.2.2.1 u.2.2.2.2) (cx_B g (w0_X5_minimumDegree g a_M a_M_a a_M_rowAt a_M_places a_M_rights a_M_weights a_M_pivots a_M_lower a_M_solution a_M_work a_M_isJoined a_M_stored M_thrown M_n M_hasFactors M_hasSolution M_levels M_a M_isJoined M_rowAt M_places) s.heap.size (w1_X5_minimumDegree g a_M a_M_a a_M_rowAt a_M_places a_M_rights a_M_weights a_M_pivots a_M_lower a_M_solution a_M_work a_M_isJoined a_M_stored M_thrown M_n M_hasFactors M_hasSolution M_levels M_a M_isJoined M_rowAt M_places)) (va_A (w0_X5_minimumDegree g a_M a_M_a a_M_rowAt a_M_places a_M_rights a_M_weights a_M_pivots a_M_lower a_M_solution a_M_work a_M_isJoined a_M_stored M_thrown M_n M_hasFactors M_hasSolution M_levels M_a M_isJoined M_rowAt M_places) s.heap.size)) ([.ref a_M] : List Value).toArray s 0 0 (va_A (w0_X5_minimumDegree g a_M a_M_a a_M_rowAt a_M_places a_M_rights a_M_weights a_M_pivots a_M_lower a_M_solution a_M_work a_M_isJoined a_M_stored M_thrown M_n M_hasFactors M_hasSolution M_levels M_a M_isJoined M_rowAt M_places) s.heap.size)) (F0 m 16 ls [])) := ⟨_, rfl⟩
  obtain ⟨G2, hG2⟩ : ∃ G : Int32 → Int32 → Int32 → Int32 → Int32 → (Nat → Int32) → (Nat → Int32) → (Nat → Int32) → Prop, G = (fun (x3 : Int32) (x2 : Int32) (x1 : Int32) (v_M_thrown : Int32) (v_M_hasFactors : Int32) (v_M_isJoined : (Nat → Int32)) (v_M_rowAt : (Nat → Int32)) (v_M_places : (Nat → Int32)) => ∀ (H : Heap) (locs : List Loc) (ls : Array Slot), va_P g.1 vwCl [(a_M, .inr (5, [.int v_M_thrown, .int M_n, .ref a_M_a, .ref a_M_rowAt, .ref a_M_places, .ref a_M_rights, .ref a_M_weights, .int v_M_hasFactors, .ref a_M_pivots, .ref a_M_lower, .int M_hasSolution, .ref a_M_solution, .ref a_M_work, .ref a_M_isJoined, .int M_levels, .ref a_M_stored])), (a_M_a, .inl (g.2.1, 256, .inl M_a)), (a_M_isJoined, .inl (g.2.2.1, 256, .inl v_M_isJoined)), (a_M_rowAt, .inl (g.2.1, 16, .inl v_M_rowAt)), (a_M_places, .inl (g.2.1, 16, .inl v_M_places))] H → va_D A [(a_M, .inr (5, [.int v_M_thrown, .int M_n, .ref a_M_a, .ref a_M_rowAt, .ref a_M_places, .ref a_M_rights, .ref a_M_weights, .int v_M_hasFactors, .ref a_M_pivots, .ref a_M_lower, .int M_hasSolution, .ref a_M_solution, .ref a_M_work, .ref a_M_isJoined, .int M_levels, .ref a_M_stored])), (a_M_a, .inl (g.2.1, 256, .inl M_a)), (a_M_isJoined, .inl (g.2.2.1, 256, .inl v_M_isJoined)), (a_M_rowAt, .inl (g.2.1, 16, .inl v_M_rowAt)), (a_M_places, .inl (g.2.1, 16, .inl v_M_places))] → va_S A s.heap H locs → lv_has ls 4 [(3, .int x3), (2, .int x2), (1, .int x1), (0, .ref a_M)] → W p l e (headSpec (Cond.code yX5_minimumDegree cX5_minimumDegree 4 (some .int) :: cx_T) ({ frames := 5, cells := 0, slots := 0, locals := 109 } : Room)).room s m ([.ref a_M] : List Value).toArray below meth c H locs 0 0 (MQ below (va_Qi (fun (r : Int32) (u : Int32 × Int32 × (Nat → Int32) × (Nat → Int32) × (Nat → Int32)) => Q r u.1 u.2.1 u.2.2.1 u.2.2.2.1 u.2.2.2.2) (cx_B g (w0_X5_minimumDegree g a_M a_M_a a_M_rowAt a_M_places a_M_rights a_M_weights a_M_pivots a_M_lower a_M_solution a_M_work a_M_isJoined a_M_stored M_thrown M_n M_hasFactors M_hasSolution M_levels M_a M_isJoined M_rowAt M_places) s.heap.size (w1_X5_minimumDegree g a_M a_M_a a_M_rowAt a_M_places a_M_rights a_M_weights a_M_pivots a_M_lower a_M_solution a_M_work a_M_isJoined a_M_stored M_thrown M_n M_hasFactors M_hasSolution M_levels M_a M_isJoined M_rowAt M_places)) (va_A (w0_X5_minimumDegree g a_M a_M_a a_M_rowAt a_M_places a_M_rights a_M_weights a_M_pivots a_M_lower a_M_solution a_M_work a_M_isJoined a_M_stored M_thrown M_n M_hasFactors M_hasSolution M_levels M_a M_isJoined M_rowAt M_places) s.heap.size)) ([.ref a_M] : List Value).toArray s 0 0 (va_A (w0_X5_minimumDegree g a_M a_M_a a_M_rowAt a_M_places a_M_rights a_M_weights a_M_pivots a_M_lower a_M_solution a_M_work a_M_isJoined a_M_stored M_thrown M_n M_hasFactors M_hasSolution M_levels M_a M_isJoined M_rowAt M_places) s.heap.size)) (F0 m 30 ls [])) := ⟨_, rfl⟩
  have hs1 : ∀ (x1 : Int32) (v_M_thrown : Int32) (v_M_hasFactors : Int32) (v_M_isJoined : (Nat → Int32)) (v_M_rowAt : (Nat → Int32)) (v_M_places : (Nat → Int32)), vc_X5_minimumDegree_1 M_thrown M_n M_hasFactors M_hasSolution M_levels M_a M_isJoined M_rowAt M_places Q G1 G2 x1 v_M_thrown v_M_hasFactors v_M_isJoined v_M_rowAt v_M_places → G1 x1 v_M_thrown v_M_hasFactors v_M_isJoined v_M_rowAt v_M_places := by
    rw [hG1, hG2]
    intro x1 v_M_thrown v_M_hasFactors v_M_isJoined v_M_rowAt v_M_places hv H locs ls hP hD hS hl
    unfold vc_X5_minimumDegree_1 at hv
    refine lv_iload_n hx hb dX5_minimumDegree_16 rfl (lv_at hl 0 rfl) ?_
    refine lv_aload_n hx hb dX5_minimumDegree_17 rfl (lv_at hl 1 rfl) ?_
    refine va_get (D := g.1) (ci := 5) (v := .int M_n) (C := RX5) (T := TX5) (N := 16) hx hb hts cw_in_X5 hown hK.1 hP 0 rfl rfl 1 (by decide) (hts _ cw_f_X5_9) (fun _ h9 => h9) rfl dX5_minimumDegree_18 ?_
    refine lv_icmp_ge (tgt := 108) hx hb dX5_minimumDegree_21 (by decide) (fun hc => ?_) (fun hc => ?_)
    · replace hv := hv.1 hc
      refine lv_aload_n hx hb dX5_minimumDegree_108 rfl (lv_at hl 1 rfl) ?_
      refine cx_iV (wr := [(a_M_places, .inl (g.2.1, 16, .inl v_M_places))]) (As := []) (rest := []) ⟨hx, hb, hml, hown, hts⟩ (c_X5_fills l g a_M a_M_a a_M_rowAt a_M_places a_M_rights a_M_weights a_M_pivots a_M_lower a_M_solution a_M_work a_M_isJoined a_M_stored v_M_thrown M_n v_M_hasFactors M_hasSolution M_levels M_a v_M_isJoined v_M_rowAt hv) (cx_cwV 0 hts cw_m_X5_122 cw_i_X5_fills cw_s_X5_fills cw_n_X5 cw_c_X5_fills rfl rfl (by decide +kernel) ⟨Nat.le_of_ble_eq_true rfl, Nat.le_of_ble_eq_true rfl⟩) hK hP hD hS hA 0 5 rfl rfl [0, 1, 2, 3] [4] rfl rfl rfl rfl (by decide) rfl hl.1 rfl (Nat.le_of_ble_eq_true rfl) dX5_minimumDegree_109 ⟨Nat.le_of_ble_eq_true rfl, Nat.le_of_ble_eq_true rfl⟩ (fun r_1 w_3 H locs hv hP hD hS => ?_)
      obtain ⟨u_2, rfl⟩ : ∃ z, z = w_3 := ⟨_, rfl⟩
      have hP : va_P g.1 vwCl [(a_M, .inr (5, [.int v_M_thrown, .int M_n, .ref a_M_a, .ref a_M_rowAt, .ref a_M_places, .ref a_M_rights, .ref a_M_weights, .int v_M_hasFactors, .ref a_M_pivots, .ref a_M_lower, .int M_hasSolution, .ref a_M_solution, .ref a_M_work, .ref a_M_isJoined, .int M_levels, .ref a_M_stored])), (a_M_a, .inl (g.2.1, 256, .inl M_a)), (a_M_isJoined, .inl (g.2.2.1, 256, .inl u_2)), (a_M_rowAt, .inl (g.2.1, 16, .inl v_M_rowAt)), (a_M_places, .inl (g.2.1, 16, .inl v_M_places))] H := hP.sub [1, 2, 3, 4, 0] rfl
      have hD : va_D A [(a_M, .inr (5, [.int v_M_thrown, .int M_n, .ref a_M_a, .ref a_M_rowAt, .ref a_M_places, .ref a_M_rights, .ref a_M_weights, .int v_M_hasFactors, .ref a_M_pivots, .ref a_M_lower, .int M_hasSolution, .ref a_M_solution, .ref a_M_work, .ref a_M_isJoined, .int M_levels, .ref a_M_stored])), (a_M_a, .inl (g.2.1, 256, .inl M_a)), (a_M_isJoined, .inl (g.2.2.1, 256, .inl u_2)), (a_M_rowAt, .inl (g.2.1, 16, .inl v_M_rowAt)), (a_M_places, .inl (g.2.1, 16, .inl v_M_places))] := hD.sub [1, 2, 3, 4, 0] (by decide) rfl
      exact cx_iret hx hb hr hlocks hAe hS (v_M_thrown, v_M_hasFactors, u_2, v_M_rowAt, v_M_places) hv hP hD dX5_minimumDegree_112
    · replace hv := hv.2 hc
      refine lv_iload_n hx hb dX5_minimumDegree_24 rfl (lv_at hl 0 rfl) ?_
      refine lv_istore_n (lv' := [(2, .int x1), (1, .int x1), (0, .ref a_M)]) hx hb dX5_minimumDegree_25 rfl hl (by decide) rfl (fun ls hl => ?_)
      refine lv_iload_n hx hb dX5_minimumDegree_26 rfl (lv_at hl 1 rfl) ?_
      refine lv_iconst (v := 1) hx hb dX5_minimumDegree_27 (by decide) ?_
      refine lv_iadd hx hb dX5_minimumDegree_28 ?_
      refine lv_topi (fun x3_4 ex3_4 => ?_)
      replace hv := hv x3_4 ex3_4
      refine lv_istore_n (lv' := [(3, .int x3_4), (2, .int x1), (1, .int x1), (0, .ref a_M)]) hx hb dX5_minimumDegree_29 rfl hl (by decide) rfl (fun ls hl => ?_)
      exact hv _ _ _ hP hD hS (lv_sub hl [0, 1, 2, 3] rfl)
  have hs2 : ∀ (x3 : Int32) (x2 : Int32) (x1 : Int32) (v_M_thrown : Int32) (v_M_hasFactors : Int32) (v_M_isJoined : (Nat → Int32)) (v_M_rowAt : (Nat → Int32)) (v_M_places : (Nat → Int32)), vc_X5_minimumDegree_2 M_thrown M_n M_hasFactors M_hasSolution M_levels M_a M_isJoined M_rowAt M_places Q G1 G2 x3 x2 x1 v_M_thrown v_M_hasFactors v_M_isJoined v_M_rowAt v_M_places → G2 x3 x2 x1 v_M_thrown v_M_hasFactors v_M_isJoined v_M_rowAt v_M_places := by
    rw [hG1, hG2]
    intro x3 x2 x1 v_M_thrown v_M_hasFactors v_M_isJoined v_M_rowAt v_M_places hv H locs ls hP hD hS hl
    unfold vc_X5_minimumDegree_2 at hv
    refine lv_iload_n hx hb dX5_minimumDegree_30 rfl (lv_at hl 0 rfl) ?_
    refine lv_aload_n hx hb dX5_minimumDegree_31 rfl (lv_at hl 3 rfl) ?_
    refine va_get (D := g.1) (ci := 5) (v := .int M_n) (C := RX5) (T := TX5) (N := 16) hx hb hts cw_in_X5 hown hK.1 hP 0 rfl rfl 1 (by decide) (hts _ cw_f_X5_9) (fun _ h9 => h9) rfl dX5_minimumDegree_32 ?_
    refine lv_icmp_ge (tgt := 91) hx hb dX5_minimumDegree_35 (by decide) (fun hc => ?_) (fun hc => ?_)
    · replace hv := hv.1 hc
      refine lv_aload_n hx hb dX5_minimumDegree_91 rfl (lv_at hl 3 rfl) ?_
      refine lv_iload_n hx hb dX5_minimumDegree_92 rfl (lv_at hl 2 rfl) ?_
      refine lv_iload_n hx hb dX5_minimumDegree_93 rfl (lv_at hl 1 rfl) ?_
      refine cx_vV (wr := [(a_M_a, .inl (g.2.1, 256, .inl M_a)), (a_M_isJoined, .inl (g.2.2.1, 256, .inl v_M_isJoined))]) (As := [.int x1, .int x2]) (rest := []) ⟨hx, hb, hml, hown, hts⟩ (c_X5_exchange l g a_M a_M_a a_M_rowAt a_M_places a_M_rights a_M_weights a_M_pivots a_M_lower a_M_solution a_M_work a_M_isJoined a_M_stored x1 x2 v_M_thrown M_n v_M_hasFactors M_hasSolution M_levels v_M_rowAt v_M_places hv) (cx_cwV 2 hts cw_m_X5_106 cw_i_X5_exchange cw_s_X5_exchange cw_n_X5 cw_c_X5_exchange rfl rfl (by decide +kernel) ⟨Nat.le_of_ble_eq_true rfl, Nat.le_of_ble_eq_true rfl⟩) hK hP hD hS hA 0 5 rfl rfl [0, 3, 4] [1, 2] rfl rfl rfl rfl (by decide) rfl hl.1 rfl (Nat.le_of_ble_eq_true rfl) dX5_minimumDegree_94 ⟨Nat.le_of_ble_eq_true rfl, Nat.le_of_ble_eq_true rfl⟩ (fun w_4 H locs hv hP hD hS => ?_)
      obtain ⟨u_2, u_3⟩ := w_4
      have hP : va_P g.1 vwCl [(a_M, .inr (5, [.int v_M_thrown, .int M_n, .ref a_M_a, .ref a_M_rowAt, .ref a_M_places, .ref a_M_rights, .ref a_M_weights, .int v_M_hasFactors, .ref a_M_pivots, .ref a_M_lower, .int M_hasSolution, .ref a_M_solution, .ref a_M_work, .ref a_M_isJoined, .int M_levels, .ref a_M_stored])), (a_M_a, .inl (g.2.1, 256, .inl M_a)), (a_M_isJoined, .inl (g.2.2.1, 256, .inl v_M_isJoined)), (a_M_rowAt, .inl (g.2.1, 16, .inl u_2)), (a_M_places, .inl (g.2.1, 16, .inl u_3))] H := hP.sub [2, 0, 1, 3, 4] rfl
      have hD : va_D A [(a_M, .inr (5, [.int v_M_thrown, .int M_n, .ref a_M_a, .ref a_M_rowAt, .ref a_M_places, .ref a_M_rights, .ref a_M_weights, .int v_M_hasFactors, .ref a_M_pivots, .ref a_M_lower, .int M_hasSolution, .ref a_M_solution, .ref a_M_work, .ref a_M_isJoined, .int M_levels, .ref a_M_stored])), (a_M_a, .inl (g.2.1, 256, .inl M_a)), (a_M_isJoined, .inl (g.2.2.1, 256, .inl v_M_isJoined)), (a_M_rowAt, .inl (g.2.1, 16, .inl u_2)), (a_M_places, .inl (g.2.1, 16, .inl u_3))] := hD.sub [2, 0, 1, 3, 4] (by decide) rfl
      refine lv_aload_n hx hb dX5_minimumDegree_97 rfl (lv_at hl 3 rfl) ?_
      refine lv_iload_n hx hb dX5_minimumDegree_98 rfl (lv_at hl 2 rfl) ?_
      refine cx_vV (wr := [(a_M_a, .inl (g.2.1, 256, .inl M_a)), (a_M_places, .inl (g.2.1, 16, .inl u_3))]) (As := [.int x1]) (rest := []) ⟨hx, hb, hml, hown, hts⟩ (c_X5_eliminate_ l g a_M a_M_a a_M_rowAt a_M_places a_M_rights a_M_weights a_M_pivots a_M_lower a_M_solution a_M_work a_M_isJoined a_M_stored x1 v_M_thrown M_n v_M_hasFactors M_hasSolution M_levels u_2 v_M_isJoined hv) (cx_cwV 1 hts cw_m_X5_113 cw_i_X5_eliminate_ cw_s_X5_eliminate_ cw_n_X5 cw_c_X5_eliminate_ rfl rfl (by decide +kernel) ⟨Nat.le_of_ble_eq_true rfl, Nat.le_of_ble_eq_true rfl⟩) hK hP hD hS hA 0 5 rfl rfl [0, 3, 2] [1, 4] rfl rfl rfl rfl (by decide) rfl hl.1 rfl (Nat.le_of_ble_eq_true rfl) dX5_minimumDegree_99 ⟨Nat.le_of_ble_eq_true rfl, Nat.le_of_ble_eq_true rfl⟩ (fun w_7 H locs hv hP hD hS => ?_)
      obtain ⟨u_6, rfl⟩ : ∃ z, z = w_7 := ⟨_, rfl⟩
      have hP : va_P g.1 vwCl [(a_M, .inr (5, [.int v_M_thrown, .int M_n, .ref a_M_a, .ref a_M_rowAt, .ref a_M_places, .ref a_M_rights, .ref a_M_weights, .int v_M_hasFactors, .ref a_M_pivots, .ref a_M_lower, .int M_hasSolution, .ref a_M_solution, .ref a_M_work, .ref a_M_isJoined, .int M_levels, .ref a_M_stored])), (a_M_a, .inl (g.2.1, 256, .inl M_a)), (a_M_isJoined, .inl (g.2.2.1, 256, .inl u_6)), (a_M_rowAt, .inl (g.2.1, 16, .inl u_2)), (a_M_places, .inl (g.2.1, 16, .inl u_3))] H := hP.sub [2, 0, 4, 3, 1] rfl
      have hD : va_D A [(a_M, .inr (5, [.int v_M_thrown, .int M_n, .ref a_M_a, .ref a_M_rowAt, .ref a_M_places, .ref a_M_rights, .ref a_M_weights, .int v_M_hasFactors, .ref a_M_pivots, .ref a_M_lower, .int M_hasSolution, .ref a_M_solution, .ref a_M_work, .ref a_M_isJoined, .int M_levels, .ref a_M_stored])), (a_M_a, .inl (g.2.1, 256, .inl M_a)), (a_M_isJoined, .inl (g.2.2.1, 256, .inl u_6)), (a_M_rowAt, .inl (g.2.1, 16, .inl u_2)), (a_M_places, .inl (g.2.1, 16, .inl u_3))] := hD.sub [2, 0, 4, 3, 1] (by decide) rfl
      obtain ⟨x1_8, ex1_8⟩ : ∃ y : Int32, y = x1 + 1 := ⟨_, rfl⟩
      replace hv := hv x1_8 ex1_8
      refine lv_iinc (v := x1_8) (lv' := [(1, .int x1_8), (3, .int x3), (2, .int x2), (0, .ref a_M)]) hx hb dX5_minimumDegree_102 hl (k := 2) rfl (by rw [ex1_8]; rfl) (by decide) rfl (fun ls hl => ?_)
      refine lv_goto (tgt := 16) hx hb dX5_minimumDegree_105 (by decide) ?_
      exact hv _ _ _ hP hD hS (lv_sub hl [0, 3] rfl)
    · replace hv := hv.2 hc
      refine lv_aload_n hx hb dX5_minimumDegree_38 rfl (lv_at hl 3 rfl) ?_
      refine lv_iload_n hx hb dX5_minimumDegree_39 rfl (lv_at hl 0 rfl) ?_
      refine lv_iload_n hx hb dX5_minimumDegree_40 rfl (lv_at hl 2 rfl) ?_
      refine cx_iVr (As := [.int x3, .int x1]) (rest := []) ⟨hx, hb, hml, hown, hts⟩ (c_X5_degree l g a_M a_M_a a_M_rowAt a_M_places a_M_rights a_M_weights a_M_pivots a_M_lower a_M_solution a_M_work a_M_isJoined a_M_stored x3 x1 v_M_thrown M_n v_M_hasFactors M_hasSolution M_levels v_M_rowAt v_M_isJoined hv) (cx_cwV 2 hts cw_m_X5_119 cw_i_X5_degree cw_s_X5_degree cw_n_X5 cw_c_X5_degree rfl rfl (by decide +kernel) ⟨Nat.le_of_ble_eq_true rfl, Nat.le_of_ble_eq_true rfl⟩) hK hP hD hS hA 0 5 rfl rfl [0, 3, 2] rfl rfl rfl hl.1 rfl (Nat.le_of_ble_eq_true rfl) dX5_minimumDegree_41 ⟨Nat.le_of_ble_eq_true rfl, Nat.le_of_ble_eq_true rfl⟩ (fun r_9 H locs hv hP hS => ?_)
      refine lv_aload_n hx hb dX5_minimumDegree_44 rfl (lv_at hl 3 rfl) ?_
      refine lv_iload_n hx hb dX5_minimumDegree_45 rfl (lv_at hl 1 rfl) ?_
      refine lv_iload_n hx hb dX5_minimumDegree_46 rfl (lv_at hl 2 rfl) ?_
      refine cx_iVr (As := [.int x2, .int x1]) (rest := [.int r_9]) ⟨hx, hb, hml, hown, hts⟩ (c_X5_degree l g a_M a_M_a a_M_rowAt a_M_places a_M_rights a_M_weights a_M_pivots a_M_lower a_M_solution a_M_work a_M_isJoined a_M_stored x2 x1 v_M_thrown M_n v_M_hasFactors M_hasSolution M_levels v_M_rowAt v_M_isJoined hv) (cx_cwV 2 hts cw_m_X5_119 cw_i_X5_degree cw_s_X5_degree cw_n_X5 cw_c_X5_degree rfl rfl (by decide +kernel) ⟨Nat.le_of_ble_eq_true rfl, Nat.le_of_ble_eq_true rfl⟩) hK hP hD hS hA 0 5 rfl rfl [0, 3, 2] rfl rfl rfl hl.1 rfl (Nat.le_of_ble_eq_true rfl) dX5_minimumDegree_47 ⟨Nat.le_of_ble_eq_true rfl, Nat.le_of_ble_eq_true rfl⟩ (fun r_10 H locs hv hP hS => ?_)
      refine lv_icmp_lt (tgt := 83) hx hb dX5_minimumDegree_50 (by decide) (fun hc => ?_) (fun hc => ?_)
      · replace hv := hv.1 hc
        refine lv_iload_n hx hb dX5_minimumDegree_83 rfl (lv_at hl 0 rfl) ?_
        refine lv_istore_n (lv' := [(2, .int x3), (3, .int x3), (1, .int x1), (0, .ref a_M)]) hx hb dX5_minimumDegree_84 rfl hl (by decide) rfl (fun ls hl => ?_)
        obtain ⟨x3_11, ex3_11⟩ : ∃ y : Int32, y = x3 + 1 := ⟨_, rfl⟩
        replace hv := hv x3_11 ex3_11
        refine lv_iinc (v := x3_11) (lv' := [(3, .int x3_11), (2, .int x3), (1, .int x1), (0, .ref a_M)]) hx hb dX5_minimumDegree_85 hl (k := 1) rfl (by rw [ex3_11]; rfl) (by decide) rfl (fun ls hl => ?_)
        refine lv_goto (tgt := 30) hx hb dX5_minimumDegree_88 (by decide) ?_
        exact hv _ _ _ hP hD hS (lv_sub hl [0, 1, 2, 3] rfl)
      · replace hv := hv.2 hc
        refine lv_aload_n hx hb dX5_minimumDegree_53 rfl (lv_at hl 3 rfl) ?_
        refine lv_iload_n hx hb dX5_minimumDegree_54 rfl (lv_at hl 0 rfl) ?_
        refine lv_iload_n hx hb dX5_minimumDegree_55 rfl (lv_at hl 2 rfl) ?_
        refine cx_iVr (As := [.int x3, .int x1]) (rest := []) ⟨hx, hb, hml, hown, hts⟩ (c_X5_degree l g a_M a_M_a a_M_rowAt a_M_places a_M_rights a_M_weights a_M_pivots a_M_lower a_M_solution a_M_work a_M_isJoined a_M_stored x3 x1 v_M_thrown M_n v_M_hasFactors M_hasSolution M_levels v_M_rowAt v_M_isJoined hv) (cx_cwV 2 hts cw_m_X5_119 cw_i_X5_degree cw_s_X5_degree cw_n_X5 cw_c_X5_degree rfl rfl (by decide +kernel) ⟨Nat.le_of_ble_eq_true rfl, Nat.le_of_ble_eq_true rfl⟩) hK hP hD hS hA 0 5 rfl rfl [0, 3, 2] rfl rfl rfl hl.1 rfl (Nat.le_of_ble_eq_true rfl) dX5_minimumDegree_56 ⟨Nat.le_of_ble_eq_true rfl, Nat.le_of_ble_eq_true rfl⟩ (fun r_12 H locs hv hP hS => ?_)
        refine lv_aload_n hx hb dX5_minimumDegree_59 rfl (lv_at hl 3 rfl) ?_
        refine lv_iload_n hx hb dX5_minimumDegree_60 rfl (lv_at hl 1 rfl) ?_
        refine lv_iload_n hx hb dX5_minimumDegree_61 rfl (lv_at hl 2 rfl) ?_
        refine cx_iVr (As := [.int x2, .int x1]) (rest := [.int r_12]) ⟨hx, hb, hml, hown, hts⟩ (c_X5_degree l g a_M a_M_a a_M_rowAt a_M_places a_M_rights a_M_weights a_M_pivots a_M_lower a_M_solution a_M_work a_M_isJoined a_M_stored x2 x1 v_M_thrown M_n v_M_hasFactors M_hasSolution M_levels v_M_rowAt v_M_isJoined hv) (cx_cwV 2 hts cw_m_X5_119 cw_i_X5_degree cw_s_X5_degree cw_n_X5 cw_c_X5_degree rfl rfl (by decide +kernel) ⟨Nat.le_of_ble_eq_true rfl, Nat.le_of_ble_eq_true rfl⟩) hK hP hD hS hA 0 5 rfl rfl [0, 3, 2] rfl rfl rfl hl.1 rfl (Nat.le_of_ble_eq_true rfl) dX5_minimumDegree_62 ⟨Nat.le_of_ble_eq_true rfl, Nat.le_of_ble_eq_true rfl⟩ (fun r_13 H locs hv hP hS => ?_)
        refine lv_icmp_ne (tgt := 85) hx hb dX5_minimumDegree_65 (by decide) (fun hc => ?_) (fun hc => ?_)
        · replace hv := hv.2 hc
          obtain ⟨x3_14, ex3_14⟩ : ∃ y : Int32, y = x3 + 1 := ⟨_, rfl⟩
          replace hv := hv x3_14 ex3_14
          refine lv_iinc (v := x3_14) (lv' := [(3, .int x3_14), (2, .int x2), (1, .int x1), (0, .ref a_M)]) hx hb dX5_minimumDegree_85 hl (k := 0) rfl (by rw [ex3_14]; rfl) (by decide) rfl (fun ls hl => ?_)
          refine lv_goto (tgt := 30) hx hb dX5_minimumDegree_88 (by decide) ?_
          exact hv _ _ _ hP hD hS (lv_sub hl [0, 1, 2, 3] rfl)
        · replace hv := hv.1 hc
          refine lv_aload_n hx hb dX5_minimumDegree_68 rfl (lv_at hl 3 rfl) ?_
          refine va_get (D := g.1) (ci := 5) (v := .ref a_M_rowAt) (C := RX5) (T := TX5) (N := 16) hx hb hts cw_in_X5 hown hK.1 hP 0 rfl rfl 3 (by decide) (hts _ cw_f_X5_17) (fun _ h9 => h9) rfl dX5_minimumDegree_69 ?_
          refine lv_iload_n hx hb dX5_minimumDegree_72 rfl (lv_at hl 0 rfl) ?_
          obtain ⟨h_15, hv⟩ := hv
          refine va_iald (D := g.1) hx hb hK.1 hP 3 0 rfl rfl h_15 dX5_minimumDegree_73 ?_
          refine lv_aload_n hx hb dX5_minimumDegree_74 rfl (lv_at hl 3 rfl) ?_
          refine va_get (D := g.1) (ci := 5) (v := .ref a_M_rowAt) (C := RX5) (T := TX5) (N := 16) hx hb hts cw_in_X5 hown hK.1 hP 0 rfl rfl 3 (by decide) (hts _ cw_f_X5_17) (fun _ h9 => h9) rfl dX5_minimumDegree_75 ?_
          refine lv_iload_n hx hb dX5_minimumDegree_78 rfl (lv_at hl 1 rfl) ?_
          obtain ⟨h_16, hv⟩ := hv
          refine va_iald (D := g.1) hx hb hK.1 hP 3 0 rfl rfl h_16 dX5_minimumDegree_79 ?_
          refine lv_icmp_ge (tgt := 85) hx hb dX5_minimumDegree_80 (by decide) (fun hc => ?_) (fun hc => ?_)
          · replace hv := hv.1 hc
            obtain ⟨x3_17, ex3_17⟩ : ∃ y : Int32, y = x3 + 1 := ⟨_, rfl⟩
            replace hv := hv x3_17 ex3_17
            refine lv_iinc (v := x3_17) (lv' := [(3, .int x3_17), (2, .int x2), (1, .int x1), (0, .ref a_M)]) hx hb dX5_minimumDegree_85 hl (k := 0) rfl (by rw [ex3_17]; rfl) (by decide) rfl (fun ls hl => ?_)
            refine lv_goto (tgt := 30) hx hb dX5_minimumDegree_88 (by decide) ?_
            exact hv _ _ _ hP hD hS (lv_sub hl [0, 1, 2, 3] rfl)
          · replace hv := hv.2 hc
            refine lv_iload_n hx hb dX5_minimumDegree_83 rfl (lv_at hl 0 rfl) ?_
            refine lv_istore_n (lv' := [(2, .int x3), (3, .int x3), (1, .int x1), (0, .ref a_M)]) hx hb dX5_minimumDegree_84 rfl hl (by decide) rfl (fun ls hl => ?_)
            obtain ⟨x3_18, ex3_18⟩ : ∃ y : Int32, y = x3 + 1 := ⟨_, rfl⟩
            replace hv := hv x3_18 ex3_18
            refine lv_iinc (v := x3_18) (lv' := [(3, .int x3_18), (2, .int x3), (1, .int x1), (0, .ref a_M)]) hx hb dX5_minimumDegree_85 hl (k := 1) rfl (by rw [ex3_18]; rfl) (by decide) rfl (fun ls hl => ?_)
            refine lv_goto (tgt := 30) hx hb dX5_minimumDegree_88 (by decide) ?_
            exact hv _ _ _ hP hD hS (lv_sub hl [0, 1, 2, 3] rfl)
  replace hv := hv G1 G2 hs1 hs2
  rw [hG1, hG2] at hv
  unfold vc_X5_minimumDegree_0 at hv
  refine lv_aload_n hx hb dX5_minimumDegree_0 rfl (lv_at hl 0 rfl) ?_
  refine lv_iconst (v := 0) hx hb dX5_minimumDegree_1 (by decide) ?_
  refine va_put (D := g.1) (ci := 5) (v := .int 0) (ty := .int) (C := RX5) (T := TX5) (N := 16) hx hb hts cw_in_X5 tyX5 tyX5_ok nmX5 hown hK.1 hP hD hS 0 rfl rfl 0 (by decide) (hts _ cw_f_X5_51) (fun _ h9 => h9) rfl (by decide +kernel) rfl rfl (Nat.le_of_ble_eq_true rfl) dX5_minimumDegree_2 (fun H locs hP hD hS => ?_)
  have hP : va_P g.1 vwCl [(a_M, .inr (5, [.int 0, .int M_n, .ref a_M_a, .ref a_M_rowAt, .ref a_M_places, .ref a_M_rights, .ref a_M_weights, .int M_hasFactors, .ref a_M_pivots, .ref a_M_lower, .int M_hasSolution, .ref a_M_solution, .ref a_M_work, .ref a_M_isJoined, .int M_levels, .ref a_M_stored])), (a_M_a, .inl (g.2.1, 256, .inl M_a)), (a_M_isJoined, .inl (g.2.2.1, 256, .inl M_isJoined)), (a_M_rowAt, .inl (g.2.1, 16, .inl M_rowAt)), (a_M_places, .inl (g.2.1, 16, .inl M_places))] H := hP
  have hD : va_D A [(a_M, .inr (5, [.int 0, .int M_n, .ref a_M_a, .ref a_M_rowAt, .ref a_M_places, .ref a_M_rights, .ref a_M_weights, .int M_hasFactors, .ref a_M_pivots, .ref a_M_lower, .int M_hasSolution, .ref a_M_solution, .ref a_M_work, .ref a_M_isJoined, .int M_levels, .ref a_M_stored])), (a_M_a, .inl (g.2.1, 256, .inl M_a)), (a_M_isJoined, .inl (g.2.2.1, 256, .inl M_isJoined)), (a_M_rowAt, .inl (g.2.1, 16, .inl M_rowAt)), (a_M_places, .inl (g.2.1, 16, .inl M_places))] := hD
  refine lv_aload_n hx hb dX5_minimumDegree_5 rfl (lv_at hl 0 rfl) ?_
  refine lv_iconst (v := 0) hx hb dX5_minimumDegree_6 (by decide) ?_
  refine va_put (D := g.1) (ci := 5) (v := .int 0) (ty := .boolean) (C := RX5) (T := TX5) (N := 16) hx hb hts cw_in_X5 tyX5 tyX5_ok nmX5 hown hK.1 hP hD hS 0 rfl rfl 7 (by decide) (hts _ cw_f_X5_65) (fun _ h9 => h9) rfl (by decide +kernel) rfl rfl (Nat.le_of_ble_eq_true rfl) dX5_minimumDegree_7 (fun H locs hP hD hS => ?_)
  have hP : va_P g.1 vwCl [(a_M, .inr (5, [.int 0, .int M_n, .ref a_M_a, .ref a_M_rowAt, .ref a_M_places, .ref a_M_rights, .ref a_M_weights, .int 0, .ref a_M_pivots, .ref a_M_lower, .int M_hasSolution, .ref a_M_solution, .ref a_M_work, .ref a_M_isJoined, .int M_levels, .ref a_M_stored])), (a_M_a, .inl (g.2.1, 256, .inl M_a)), (a_M_isJoined, .inl (g.2.2.1, 256, .inl M_isJoined)), (a_M_rowAt, .inl (g.2.1, 16, .inl M_rowAt)), (a_M_places, .inl (g.2.1, 16, .inl M_places))] H := hP
  have hD : va_D A [(a_M, .inr (5, [.int 0, .int M_n, .ref a_M_a, .ref a_M_rowAt, .ref a_M_places, .ref a_M_rights, .ref a_M_weights, .int 0, .ref a_M_pivots, .ref a_M_lower, .int M_hasSolution, .ref a_M_solution, .ref a_M_work, .ref a_M_isJoined, .int M_levels, .ref a_M_stored])), (a_M_a, .inl (g.2.1, 256, .inl M_a)), (a_M_isJoined, .inl (g.2.2.1, 256, .inl M_isJoined)), (a_M_rowAt, .inl (g.2.1, 16, .inl M_rowAt)), (a_M_places, .inl (g.2.1, 16, .inl M_places))] := hD
  refine lv_aload_n hx hb dX5_minimumDegree_10 rfl (lv_at hl 0 rfl) ?_
  refine cx_vV (wr := [(a_M_rowAt, .inl (g.2.1, 16, .inl M_rowAt)), (a_M_places, .inl (g.2.1, 16, .inl M_places))]) (As := []) (rest := []) ⟨hx, hb, hml, hown, hts⟩ (c_X5_join l g a_M a_M_a a_M_rowAt a_M_places a_M_rights a_M_weights a_M_pivots a_M_lower a_M_solution a_M_work a_M_isJoined a_M_stored 0 M_n 0 M_hasSolution M_levels M_a M_isJoined hv) (cx_cwV 0 hts cw_m_X5_110 cw_i_X5_join cw_s_X5_join cw_n_X5 cw_c_X5_join rfl rfl (by decide +kernel) ⟨Nat.le_of_ble_eq_true rfl, Nat.le_of_ble_eq_true rfl⟩) hK hP hD hS hA 0 5 rfl rfl [0, 1, 2] [3, 4] rfl rfl rfl rfl (by decide) rfl hl.1 rfl (Nat.le_of_ble_eq_true rfl) dX5_minimumDegree_11 ⟨Nat.le_of_ble_eq_true rfl, Nat.le_of_ble_eq_true rfl⟩ (fun w_3 H locs hv hP hD hS => ?_)
  obtain ⟨u_2, rfl⟩ : ∃ z, z = w_3 := ⟨_, rfl⟩
  have hP : va_P g.1 vwCl [(a_M, .inr (5, [.int 0, .int M_n, .ref a_M_a, .ref a_M_rowAt, .ref a_M_places, .ref a_M_rights, .ref a_M_weights, .int 0, .ref a_M_pivots, .ref a_M_lower, .int M_hasSolution, .ref a_M_solution, .ref a_M_work, .ref a_M_isJoined, .int M_levels, .ref a_M_stored])), (a_M_a, .inl (g.2.1, 256, .inl M_a)), (a_M_isJoined, .inl (g.2.2.1, 256, .inl u_2)), (a_M_rowAt, .inl (g.2.1, 16, .inl M_rowAt)), (a_M_places, .inl (g.2.1, 16, .inl M_places))] H := hP.sub [2, 3, 4, 0, 1] rfl
  have hD : va_D A [(a_M, .inr (5, [.int 0, .int M_n, .ref a_M_a, .ref a_M_rowAt, .ref a_M_places, .ref a_M_rights, .ref a_M_weights, .int 0, .ref a_M_pivots, .ref a_M_lower, .int M_hasSolution, .ref a_M_solution, .ref a_M_work, .ref a_M_isJoined, .int M_levels, .ref a_M_stored])), (a_M_a, .inl (g.2.1, 256, .inl M_a)), (a_M_isJoined, .inl (g.2.2.1, 256, .inl u_2)), (a_M_rowAt, .inl (g.2.1, 16, .inl M_rowAt)), (a_M_places, .inl (g.2.1, 16, .inl M_places))] := hD.sub [2, 3, 4, 0, 1] (by decide) rfl
  refine lv_iconst (v := 0) hx hb dX5_minimumDegree_14 (by decide) ?_
  refine lv_istore_n (lv' := [(1, .int 0), (0, .ref a_M)]) hx hb dX5_minimumDegree_15 rfl hl (by decide) rfl (fun ls hl => ?_)
  exact hv _ _ _ hP hD hS (lv_sub hl [0, 1] rfl)
def vc_X5_reverse_0 (M_thrown : Int32) (M_n : Int32) (M_hasFactors : Int32) (M_hasSolution : Int32) (M_levels : Int32) (M_a : (Nat → Int32)) (M_isJoined : (Nat → Int32)) (M_rowAt : (Nat → Int32)) (M_places : (Nat → Int32)) (Q : Int32 → Int32 → Int32 → (Nat → Int32) → (Nat → Int32) → (Nat → Int32) → Prop) (G1 : Int32 → Int32 → Int32 → (Nat → Int32) → (Nat → Int32) → (Nat → Int32) → Prop)  : Prop := G1 0 0 0 M_isJoined M_rowAt M_places
def vc_X5_reverse_1 (M_thrown : Int32) (M_n : Int32) (M_hasFactors : Int32) (M_hasSolution : Int32) (M_levels : Int32) (M_a : (Nat → Int32)) (M_isJoined : (Nat → Int32)) (M_rowAt : (Nat → Int32)) (M_places : (Nat → Int32)) (Q : Int32 → Int32 → Int32 → (Nat → Int32) → (Nat → Int32) → (Nat → Int32) → Prop) (G1 : Int32 → Int32 → Int32 → (Nat → Int32) → (Nat → Int32) → (Nat → Int32) → Prop) (x1 : Int32) (v_M_thrown : Int32) (v_M_hasFactors : Int32) (v_M_isJoined : (Nat → Int32)) (v_M_rowAt : (Nat → Int32)) (v_M_places : (Nat → Int32)) : Prop := (((M_n - 1) - x1) ≤ x1 → (wp_X5_fills v_M_thrown M_n v_M_hasFactors M_hasSolution M_levels M_a v_M_isJoined v_M_rowAt (fun r_1 u_2 => Q r_1 v_M_thrown v_M_hasFactors u_2 v_M_rowAt v_M_places))) ∧ (¬ ((M_n - 1) - x1) ≤ x1 → (wp_X5_exchange x1 ((M_n - 1) - x1) v_M_thrown M_n v_M_hasFactors M_hasSolution M_levels v_M_rowAt v_M_places (fun u_5 u_6 => ∀ x1_8 : Int32, x1_8 = x1 + 1 → (G1 x1_8 v_M_thrown v_M_hasFactors v_M_isJoined u_5 u_6))))
def wp_X5_reverse (M_thrown : Int32) (M_n : Int32) (M_hasFactors : Int32) (M_hasSolution : Int32) (M_levels : Int32) (M_a : (Nat → Int32)) (M_isJoined : (Nat → Int32)) (M_rowAt : (Nat → Int32)) (M_places : (Nat → Int32)) (Q : Int32 → Int32 → Int32 → (Nat → Int32) → (Nat → Int32) → (Nat → Int32) → Prop) : Prop := ∀ (G1 : Int32 → Int32 → Int32 → (Nat → Int32) → (Nat → Int32) → (Nat → Int32) → Prop), (∀ (x1 : Int32) (v_M_thrown : Int32) (v_M_hasFactors : Int32) (v_M_isJoined : (Nat → Int32)) (v_M_rowAt : (Nat → Int32)) (v_M_places : (Nat → Int32)), vc_X5_reverse_1 M_thrown M_n M_hasFactors M_hasSolution M_levels M_a M_isJoined M_rowAt M_places Q G1 x1 v_M_thrown v_M_hasFactors v_M_isJoined v_M_rowAt v_M_places → G1 x1 v_M_thrown v_M_hasFactors v_M_isJoined v_M_rowAt v_M_places) → vc_X5_reverse_0 M_thrown M_n M_hasFactors M_hasSolution M_levels M_a M_isJoined M_rowAt M_places Q G1
abbrev w0_X5_reverse (g : cx_G) (a_M a_M_a a_M_rowAt a_M_places a_M_rights a_M_weights a_M_pivots a_M_lower a_M_solution a_M_work a_M_isJoined a_M_stored : Nat) (M_thrown : Int32) (M_n : Int32) (M_hasFactors : Int32) (M_hasSolution : Int32) (M_levels : Int32) (M_a : (Nat → Int32)) (M_isJoined : (Nat → Int32)) (M_rowAt : (Nat → Int32)) (M_places : (Nat → Int32)) : va_W := [(a_M, .inr (5, [.int M_thrown, .int M_n, .ref a_M_a, .ref a_M_rowAt, .ref a_M_places, .ref a_M_rights, .ref a_M_weights, .int M_hasFactors, .ref a_M_pivots, .ref a_M_lower, .int M_hasSolution, .ref a_M_solution, .ref a_M_work, .ref a_M_isJoined, .int M_levels, .ref a_M_stored])), (a_M_a, .inl (g.2.1, 256, .inl M_a)), (a_M_isJoined, .inl (g.2.2.1, 256, .inl M_isJoined)), (a_M_rowAt, .inl (g.2.1, 16, .inl M_rowAt)), (a_M_places, .inl (g.2.1, 16, .inl M_places))]
abbrev w1_X5_reverse (g : cx_G) (a_M a_M_a a_M_rowAt a_M_places a_M_rights a_M_weights a_M_pivots a_M_lower a_M_solution a_M_work a_M_isJoined a_M_stored : Nat) (M_thrown : Int32) (M_n : Int32) (M_hasFactors : Int32) (M_hasSolution : Int32) (M_levels : Int32) (M_a : (Nat → Int32)) (M_isJoined : (Nat → Int32)) (M_rowAt : (Nat → Int32)) (M_places : (Nat → Int32)) (u : Int32 × Int32 × (Nat → Int32) × (Nat → Int32) × (Nat → Int32)) : va_W := [(a_M, .inr (5, [.int u.1, .int M_n, .ref a_M_a, .ref a_M_rowAt, .ref a_M_places, .ref a_M_rights, .ref a_M_weights, .int u.2.1, .ref a_M_pivots, .ref a_M_lower, .int M_hasSolution, .ref a_M_solution, .ref a_M_work, .ref a_M_isJoined, .int M_levels, .ref a_M_stored])), (a_M_a, .inl (g.2.1, 256, .inl M_a)), (a_M_isJoined, .inl (g.2.2.1, 256, .inl u.2.2.1)), (a_M_rowAt, .inl (g.2.1, 16, .inl u.2.2.2.1)), (a_M_places, .inl (g.2.1, 16, .inl u.2.2.2.2))]
set_option maxHeartbeats 4000000 in
set_option maxRecDepth 100000 in
theorem c_X5_reverse (l : Launch) (g : cx_G) (a_M a_M_a a_M_rowAt a_M_places a_M_rights a_M_weights a_M_pivots a_M_lower a_M_solution a_M_work a_M_isJoined a_M_stored : Nat) (M_thrown : Int32) (M_n : Int32) (M_hasFactors : Int32) (M_hasSolution : Int32) (M_levels : Int32) (M_a : (Nat → Int32)) (M_isJoined : (Nat → Int32)) (M_rowAt : (Nat → Int32)) (M_places : (Nat → Int32)) {Q : Int32 → Int32 → Int32 → (Nat → Int32) → (Nat → Int32) → (Nat → Int32) → Prop} (hv : wp_X5_reverse M_thrown M_n M_hasFactors M_hasSolution M_levels M_a M_isJoined M_rowAt M_places Q) : cx_Mi l g yX5_reverse (Cond.code yX5_reverse cX5_reverse 2 (some .int) :: cx_T) ({ frames := 5, cells := 0, slots := 0, locals := 109 } : Room) [.ref a_M] (w0_X5_reverse g a_M a_M_a a_M_rowAt a_M_places a_M_rights a_M_weights a_M_pivots a_M_lower a_M_solution a_M_work a_M_isJoined a_M_stored M_thrown M_n M_hasFactors M_hasSolution M_levels M_a M_isJoined M_rowAt M_places) (fun (r : Int32) (u : Int32 × Int32 × (Nat → Int32) × (Nat → Int32) × (Nat → Int32)) => Q r u.1 u.2.1 u.2.2.1 u.2.2.2.1 u.2.2.2.2) (w1_X5_reverse g a_M a_M_a a_M_rowAt a_M_places a_M_rights a_M_weights a_M_pivots a_M_lower a_M_solution a_M_work a_M_isJoined a_M_stored M_thrown M_n M_hasFactors M_hasSolution M_levels M_a M_isJoined M_rowAt M_places) 0 0 := by
  intro sz
  refine Met.ofW (cc := cX5_reverse) (maxL := 2) (ret := (some .int)) (by decide) rfl ?_
  intro p e s m args below meth c s₁ B hml hpre
  obtain ⟨rfl, hsz, hP, hK, hD0⟩ := hpre
  have hx := B.exec
  have hb := B.bytes
  have hr := B.returns
  have hts0 := atoms_spec (ws := (Cond.code yX5_reverse cX5_reverse 2 (some .int) :: cx_T)) B.pre
  have hts : ∀ w ∈ cx_T, w.before _ s = true := fun w h => hts0 w (List.mem_cons_of_mem _ h)
  have hown : s.vm.findClass RX5 = some m.cls := findClass_of_methodNamed B.named
  have hlocks := B.notSynchronized
  subst hsz
  have hD := hD0.self (sz := s.heap.size)
  obtain ⟨A, hAe⟩ : ∃ A : Nat → Prop, A = va_A (w0_X5_reverse g a_M a_M_a a_M_rowAt a_M_places a_M_rights a_M_weights a_M_pivots a_M_lower a_M_solution a_M_work a_M_isJoined a_M_stored M_thrown M_n M_hasFactors M_hasSolution M_levels M_a M_isJoined M_rowAt M_places) s.heap.size := ⟨_, rfl⟩
  rw [← hAe] at hD
  have hA : ∀ q : Nat, s.heap.size ≤ q → A q := fun q h => by rw [hAe]; exact Or.inr h
  have hS : va_S A s.heap s.heap [] := va_S.rf
  have hP : va_P g.1 vwCl [(a_M, .inr (5, [.int M_thrown, .int M_n, .ref a_M_a, .ref a_M_rowAt, .ref a_M_places, .ref a_M_rights, .ref a_M_weights, .int M_hasFactors, .ref a_M_pivots, .ref a_M_lower, .int M_hasSolution, .ref a_M_solution, .ref a_M_work, .ref a_M_isJoined, .int M_levels, .ref a_M_stored])), (a_M_a, .inl (g.2.1, 256, .inl M_a)), (a_M_isJoined, .inl (g.2.2.1, 256, .inl M_isJoined)), (a_M_rowAt, .inl (g.2.1, 16, .inl M_rowAt)), (a_M_places, .inl (g.2.1, 16, .inl M_places))] s.heap := hP
  have hD : va_D A [(a_M, .inr (5, [.int M_thrown, .int M_n, .ref a_M_a, .ref a_M_rowAt, .ref a_M_places, .ref a_M_rights, .ref a_M_weights, .int M_hasFactors, .ref a_M_pivots, .ref a_M_lower, .int M_hasSolution, .ref a_M_solution, .ref a_M_work, .ref a_M_isJoined, .int M_levels, .ref a_M_stored])), (a_M_a, .inl (g.2.1, 256, .inl M_a)), (a_M_isJoined, .inl (g.2.2.1, 256, .inl M_isJoined)), (a_M_rowAt, .inl (g.2.1, 16, .inl M_rowAt)), (a_M_places, .inl (g.2.1, 16, .inl M_places))] := hD
  have hl := lv_entry ([.ref a_M]) (n := 2) (Nat.le_of_ble_eq_true rfl)
  rw [lg_entry_eq]
  generalize (lg_sl ([.ref a_M]) ++ List.replicate (2 - (lg_sl ([.ref a_M])).length) Slot.unset).toArray = ls at hl ⊢
  have hl : lv_has ls 2 [(0, .ref a_M)] := hl
  obtain ⟨G1, hG1⟩ : ∃ G : Int32 → Int32 → Int32 → (Nat → Int32) → (Nat → Int32) → (Nat → Int32) → Prop, G = (fun (x1 : Int32) (v_M_thrown : Int32) (v_M_hasFactors : Int32) (v_M_isJoined : (Nat → Int32)) (v_M_rowAt : (Nat → Int32)) (v_M_places : (Nat → Int32)) => ∀ (H : Heap) (locs : List Loc) (ls : Array Slot), va_P g.1 vwCl [(a_M, .inr (5, [.int v_M_thrown, .int M_n, .ref a_M_a, .ref a_M_rowAt, .ref a_M_places, .ref a_M_rights, .ref a_M_weights, .int v_M_hasFactors, .ref a_M_pivots, .ref a_M_lower, .int M_hasSolution, .ref a_M_solution, .ref a_M_work, .ref a_M_isJoined, .int M_levels, .ref a_M_stored])), (a_M_a, .inl (g.2.1, 256, .inl M_a)), (a_M_isJoined, .inl (g.2.2.1, 256, .inl v_M_isJoined)), (a_M_rowAt, .inl (g.2.1, 16, .inl v_M_rowAt)), (a_M_places, .inl (g.2.1, 16, .inl v_M_places))] H → va_D A [(a_M, .inr (5, [.int v_M_thrown, .int M_n, .ref a_M_a, .ref a_M_rowAt, .ref a_M_places, .ref a_M_rights, .ref a_M_weights, .int v_M_hasFactors, .ref a_M_pivots, .ref a_M_lower, .int M_hasSolution, .ref a_M_solution, .ref a_M_work, .ref a_M_isJoined, .int M_levels, .ref a_M_stored])), (a_M_a, .inl (g.2.1, 256, .inl M_a)), (a_M_isJoined, .inl (g.2.2.1, 256, .inl v_M_isJoined)), (a_M_rowAt, .inl (g.2.1, 16, .inl v_M_rowAt)), (a_M_places, .inl (g.2.1, 16, .inl v_M_places))] → va_S A s.heap H locs → lv_has ls 2 [(1, .int x1), (0, .ref a_M)] → W p l e (headSpec (Cond.code yX5_reverse cX5_reverse 2 (some .int) :: cx_T) ({ frames := 5, cells := 0, slots := 0, locals := 109 } : Room)).room s m ([.ref a_M] : List Value).toArray below meth c H locs 0 0 (MQ below (va_Qi (fun (r : Int32) (u : Int32 × Int32 × (Nat → Int32) × (Nat → Int32) × (Nat → Int32)) => Q r u.1 u.2.1 u.2.2.1 u.2.2.2.1 u.2.2.2.2) (cx_B g (w0_X5_reverse g a_M a_M_a a_M_rowAt a_M_places a_M_rights a_M_weights a_M_pivots a_M_lower a_M_solution a_M_work a_M_isJoined a_M_stored M_thrown M_n M_hasFactors M_hasSolution M_levels M_a M_isJoined M_rowAt M_places) s.heap.size (w1_X5_reverse g a_M a_M_a a_M_rowAt a_M_places a_M_rights a_M_weights a_M_pivots a_M_lower a_M_solution a_M_work a_M_isJoined a_M_stored M_thrown M_n M_hasFactors M_hasSolution M_levels M_a M_isJoined M_rowAt M_places)) (va_A (w0_X5_reverse g a_M a_M_a a_M_rowAt a_M_places a_M_rights a_M_weights a_M_pivots a_M_lower a_M_solution a_M_work a_M_isJoined a_M_stored M_thrown M_n M_hasFactors M_hasSolution M_levels M_a M_isJoined M_rowAt M_places) s.heap.size)) ([.ref a_M] : List Value).toArray s 0 0 (va_A (w0_X5_reverse g a_M a_M_a a_M_rowAt a_M_places a_M_rights a_M_weights a_M_pivots a_M_lower a_M_solution a_M_work a_M_isJoined a_M_stored M_thrown M_n M_hasFactors M_hasSolution M_levels M_a M_isJoined M_rowAt M_places) s.heap.size)) (F0 m 12 ls [])) := ⟨_, rfl⟩
  have hs1 : ∀ (x1 : Int32) (v_M_thrown : Int32) (v_M_hasFactors : Int32) (v_M_isJoined : (Nat → Int32)) (v_M_rowAt : (Nat → Int32)) (v_M_places : (Nat → Int32)), vc_X5_reverse_1 M_thrown M_n M_hasFactors M_hasSolution M_levels M_a M_isJoined M_rowAt M_places Q G1 x1 v_M_thrown v_M_hasFactors v_M_isJoined v_M_rowAt v_M_places → G1 x1 v_M_thrown v_M_hasFactors v_M_isJoined v_M_rowAt v_M_places := by
    rw [hG1]
    intro x1 v_M_thrown v_M_hasFactors v_M_isJoined v_M_rowAt v_M_places hv H locs ls hP hD hS hl
    unfold vc_X5_reverse_1 at hv
    refine lv_iload_n hx hb dX5_reverse_12 rfl (lv_at hl 0 rfl) ?_
    refine lv_aload_n hx hb dX5_reverse_13 rfl (lv_at hl 1 rfl) ?_
    refine va_get (D := g.1) (ci := 5) (v := .int M_n) (C := RX5) (T := TX5) (N := 16) hx hb hts cw_in_X5 hown hK.1 hP 0 rfl rfl 1 (by decide) (hts _ cw_f_X5_9) (fun _ h9 => h9) rfl dX5_reverse_14 ?_
    refine lv_iconst (v := 1) hx hb dX5_reverse_17 (by decide) ?_
    refine lv_isub hx hb dX5_reverse_18 ?_
    refine lv_iload_n hx hb dX5_reverse_19 rfl (lv_at hl 0 rfl) ?_
    refine lv_isub hx hb dX5_reverse_20 ?_
    refine lv_icmp_ge (tgt := 43) hx hb dX5_reverse_21 (by decide) (fun hc => ?_) (fun hc => ?_)
    · replace hv := hv.1 hc
      refine lv_aload_n hx hb dX5_reverse_43 rfl (lv_at hl 1 rfl) ?_
      refine cx_iV (wr := [(a_M_places, .inl (g.2.1, 16, .inl v_M_places))]) (As := []) (rest := []) ⟨hx, hb, hml, hown, hts⟩ (c_X5_fills l g a_M a_M_a a_M_rowAt a_M_places a_M_rights a_M_weights a_M_pivots a_M_lower a_M_solution a_M_work a_M_isJoined a_M_stored v_M_thrown M_n v_M_hasFactors M_hasSolution M_levels M_a v_M_isJoined v_M_rowAt hv) (cx_cwV 0 hts cw_m_X5_122 cw_i_X5_fills cw_s_X5_fills cw_n_X5 cw_c_X5_fills rfl rfl (by decide +kernel) ⟨Nat.le_of_ble_eq_true rfl, Nat.le_of_ble_eq_true rfl⟩) hK hP hD hS hA 0 5 rfl rfl [0, 1, 2, 3] [4] rfl rfl rfl rfl (by decide) rfl hl.1 rfl (Nat.le_of_ble_eq_true rfl) dX5_reverse_44 ⟨Nat.le_of_ble_eq_true rfl, Nat.le_of_ble_eq_true rfl⟩ (fun r_1 w_3 H locs hv hP hD hS => ?_)
      obtain ⟨u_2, rfl⟩ : ∃ z, z = w_3 := ⟨_, rfl⟩
      have hP : va_P g.1 vwCl [(a_M, .inr (5, [.int v_M_thrown, .int M_n, .ref a_M_a, .ref a_M_rowAt, .ref a_M_places, .ref a_M_rights, .ref a_M_weights, .int v_M_hasFactors, .ref a_M_pivots, .ref a_M_lower, .int M_hasSolution, .ref a_M_solution, .ref a_M_work, .ref a_M_isJoined, .int M_levels, .ref a_M_stored])), (a_M_a, .inl (g.2.1, 256, .inl M_a)), (a_M_isJoined, .inl (g.2.2.1, 256, .inl u_2)), (a_M_rowAt, .inl (g.2.1, 16, .inl v_M_rowAt)), (a_M_places, .inl (g.2.1, 16, .inl v_M_places))] H := hP.sub [1, 2, 3, 4, 0] rfl
      have hD : va_D A [(a_M, .inr (5, [.int v_M_thrown, .int M_n, .ref a_M_a, .ref a_M_rowAt, .ref a_M_places, .ref a_M_rights, .ref a_M_weights, .int v_M_hasFactors, .ref a_M_pivots, .ref a_M_lower, .int M_hasSolution, .ref a_M_solution, .ref a_M_work, .ref a_M_isJoined, .int M_levels, .ref a_M_stored])), (a_M_a, .inl (g.2.1, 256, .inl M_a)), (a_M_isJoined, .inl (g.2.2.1, 256, .inl u_2)), (a_M_rowAt, .inl (g.2.1, 16, .inl v_M_rowAt)), (a_M_places, .inl (g.2.1, 16, .inl v_M_places))] := hD.sub [1, 2, 3, 4, 0] (by decide) rfl
      exact cx_iret hx hb hr hlocks hAe hS (v_M_thrown, v_M_hasFactors, u_2, v_M_rowAt, v_M_places) hv hP hD dX5_reverse_47
    · replace hv := hv.2 hc
      refine lv_aload_n hx hb dX5_reverse_24 rfl (lv_at hl 1 rfl) ?_
      refine lv_iload_n hx hb dX5_reverse_25 rfl (lv_at hl 0 rfl) ?_
      refine lv_aload_n hx hb dX5_reverse_26 rfl (lv_at hl 1 rfl) ?_
      refine va_get (D := g.1) (ci := 5) (v := .int M_n) (C := RX5) (T := TX5) (N := 16) hx hb hts cw_in_X5 hown hK.1 hP 0 rfl rfl 1 (by decide) (hts _ cw_f_X5_9) (fun _ h9 => h9) rfl dX5_reverse_27 ?_
      refine lv_iconst (v := 1) hx hb dX5_reverse_30 (by decide) ?_
      refine lv_isub hx hb dX5_reverse_31 ?_
      refine lv_iload_n hx hb dX5_reverse_32 rfl (lv_at hl 0 rfl) ?_
      refine lv_isub hx hb dX5_reverse_33 ?_
      refine cx_vV (wr := [(a_M_a, .inl (g.2.1, 256, .inl M_a)), (a_M_isJoined, .inl (g.2.2.1, 256, .inl v_M_isJoined))]) (As := [.int x1, .int ((M_n - 1) - x1)]) (rest := []) ⟨hx, hb, hml, hown, hts⟩ (c_X5_exchange l g a_M a_M_a a_M_rowAt a_M_places a_M_rights a_M_weights a_M_pivots a_M_lower a_M_solution a_M_work a_M_isJoined a_M_stored x1 ((M_n - 1) - x1) v_M_thrown M_n v_M_hasFactors M_hasSolution M_levels v_M_rowAt v_M_places hv) (cx_cwV 2 hts cw_m_X5_106 cw_i_X5_exchange cw_s_X5_exchange cw_n_X5 cw_c_X5_exchange rfl rfl (by decide +kernel) ⟨Nat.le_of_ble_eq_true rfl, Nat.le_of_ble_eq_true rfl⟩) hK hP hD hS hA 0 5 rfl rfl [0, 3, 4] [1, 2] rfl rfl rfl rfl (by decide) rfl hl.1 rfl (Nat.le_of_ble_eq_true rfl) dX5_reverse_34 ⟨Nat.le_of_ble_eq_true rfl, Nat.le_of_ble_eq_true rfl⟩ (fun w_7 H locs hv hP hD hS => ?_)
      obtain ⟨u_5, u_6⟩ := w_7
      have hP : va_P g.1 vwCl [(a_M, .inr (5, [.int v_M_thrown, .int M_n, .ref a_M_a, .ref a_M_rowAt, .ref a_M_places, .ref a_M_rights, .ref a_M_weights, .int v_M_hasFactors, .ref a_M_pivots, .ref a_M_lower, .int M_hasSolution, .ref a_M_solution, .ref a_M_work, .ref a_M_isJoined, .int M_levels, .ref a_M_stored])), (a_M_a, .inl (g.2.1, 256, .inl M_a)), (a_M_isJoined, .inl (g.2.2.1, 256, .inl v_M_isJoined)), (a_M_rowAt, .inl (g.2.1, 16, .inl u_5)), (a_M_places, .inl (g.2.1, 16, .inl u_6))] H := hP.sub [2, 0, 1, 3, 4] rfl
      have hD : va_D A [(a_M, .inr (5, [.int v_M_thrown, .int M_n, .ref a_M_a, .ref a_M_rowAt, .ref a_M_places, .ref a_M_rights, .ref a_M_weights, .int v_M_hasFactors, .ref a_M_pivots, .ref a_M_lower, .int M_hasSolution, .ref a_M_solution, .ref a_M_work, .ref a_M_isJoined, .int M_levels, .ref a_M_stored])), (a_M_a, .inl (g.2.1, 256, .inl M_a)), (a_M_isJoined, .inl (g.2.2.1, 256, .inl v_M_isJoined)), (a_M_rowAt, .inl (g.2.1, 16, .inl u_5)), (a_M_places, .inl (g.2.1, 16, .inl u_6))] := hD.sub [2, 0, 1, 3, 4] (by decide) rfl
      obtain ⟨x1_8, ex1_8⟩ : ∃ y : Int32, y = x1 + 1 := ⟨_, rfl⟩
      replace hv := hv x1_8 ex1_8
      refine lv_iinc (v := x1_8) (lv' := [(1, .int x1_8), (0, .ref a_M)]) hx hb dX5_reverse_37 hl (k := 0) rfl (by rw [ex1_8]; rfl) (by decide) rfl (fun ls hl => ?_)
      refine lv_goto (tgt := 12) hx hb dX5_reverse_40 (by decide) ?_
      exact hv _ _ _ hP hD hS (lv_sub hl [0, 1] rfl)
  replace hv := hv G1 hs1
  rw [hG1] at hv
  unfold vc_X5_reverse_0 at hv
  refine lv_aload_n hx hb dX5_reverse_0 rfl (lv_at hl 0 rfl) ?_
  refine lv_iconst (v := 0) hx hb dX5_reverse_1 (by decide) ?_
  refine va_put (D := g.1) (ci := 5) (v := .int 0) (ty := .int) (C := RX5) (T := TX5) (N := 16) hx hb hts cw_in_X5 tyX5 tyX5_ok nmX5 hown hK.1 hP hD hS 0 rfl rfl 0 (by decide) (hts _ cw_f_X5_51) (fun _ h9 => h9) rfl (by decide +kernel) rfl rfl (Nat.le_of_ble_eq_true rfl) dX5_reverse_2 (fun H locs hP hD hS => ?_)
  have hP : va_P g.1 vwCl [(a_M, .inr (5, [.int 0, .int M_n, .ref a_M_a, .ref a_M_rowAt, .ref a_M_places, .ref a_M_rights, .ref a_M_weights, .int M_hasFactors, .ref a_M_pivots, .ref a_M_lower, .int M_hasSolution, .ref a_M_solution, .ref a_M_work, .ref a_M_isJoined, .int M_levels, .ref a_M_stored])), (a_M_a, .inl (g.2.1, 256, .inl M_a)), (a_M_isJoined, .inl (g.2.2.1, 256, .inl M_isJoined)), (a_M_rowAt, .inl (g.2.1, 16, .inl M_rowAt)), (a_M_places, .inl (g.2.1, 16, .inl M_places))] H := hP
  have hD : va_D A [(a_M, .inr (5, [.int 0, .int M_n, .ref a_M_a, .ref a_M_rowAt, .ref a_M_places, .ref a_M_rights, .ref a_M_weights, .int M_hasFactors, .ref a_M_pivots, .ref a_M_lower, .int M_hasSolution, .ref a_M_solution, .ref a_M_work, .ref a_M_isJoined, .int M_levels, .ref a_M_stored])), (a_M_a, .inl (g.2.1, 256, .inl M_a)), (a_M_isJoined, .inl (g.2.2.1, 256, .inl M_isJoined)), (a_M_rowAt, .inl (g.2.1, 16, .inl M_rowAt)), (a_M_places, .inl (g.2.1, 16, .inl M_places))] := hD
  refine lv_aload_n hx hb dX5_reverse_5 rfl (lv_at hl 0 rfl) ?_
  refine lv_iconst (v := 0) hx hb dX5_reverse_6 (by decide) ?_
  refine va_put (D := g.1) (ci := 5) (v := .int 0) (ty := .boolean) (C := RX5) (T := TX5) (N := 16) hx hb hts cw_in_X5 tyX5 tyX5_ok nmX5 hown hK.1 hP hD hS 0 rfl rfl 7 (by decide) (hts _ cw_f_X5_65) (fun _ h9 => h9) rfl (by decide +kernel) rfl rfl (Nat.le_of_ble_eq_true rfl) dX5_reverse_7 (fun H locs hP hD hS => ?_)
  have hP : va_P g.1 vwCl [(a_M, .inr (5, [.int 0, .int M_n, .ref a_M_a, .ref a_M_rowAt, .ref a_M_places, .ref a_M_rights, .ref a_M_weights, .int 0, .ref a_M_pivots, .ref a_M_lower, .int M_hasSolution, .ref a_M_solution, .ref a_M_work, .ref a_M_isJoined, .int M_levels, .ref a_M_stored])), (a_M_a, .inl (g.2.1, 256, .inl M_a)), (a_M_isJoined, .inl (g.2.2.1, 256, .inl M_isJoined)), (a_M_rowAt, .inl (g.2.1, 16, .inl M_rowAt)), (a_M_places, .inl (g.2.1, 16, .inl M_places))] H := hP
  have hD : va_D A [(a_M, .inr (5, [.int 0, .int M_n, .ref a_M_a, .ref a_M_rowAt, .ref a_M_places, .ref a_M_rights, .ref a_M_weights, .int 0, .ref a_M_pivots, .ref a_M_lower, .int M_hasSolution, .ref a_M_solution, .ref a_M_work, .ref a_M_isJoined, .int M_levels, .ref a_M_stored])), (a_M_a, .inl (g.2.1, 256, .inl M_a)), (a_M_isJoined, .inl (g.2.2.1, 256, .inl M_isJoined)), (a_M_rowAt, .inl (g.2.1, 16, .inl M_rowAt)), (a_M_places, .inl (g.2.1, 16, .inl M_places))] := hD
  refine lv_iconst (v := 0) hx hb dX5_reverse_10 (by decide) ?_
  refine lv_istore_n (lv' := [(1, .int 0), (0, .ref a_M)]) hx hb dX5_reverse_11 rfl hl (by decide) rfl (fun ls hl => ?_)
  exact hv _ _ _ hP hD hS (lv_sub hl [0, 1] rfl)
def wp_X5_position (i_i : Int32) (M_thrown : Int32) (M_n : Int32) (M_hasFactors : Int32) (M_hasSolution : Int32) (M_levels : Int32) (M_places : (Nat → Int32)) (Q : Int32 → Int32 → Prop)   : Prop := wp_X5_isRow i_i 0 M_n M_hasFactors M_hasSolution M_levels (fun r_1 => (r_1 = 0 → (wp_X5_no 1 0 M_n M_hasFactors M_hasSolution M_levels (fun r_2 u_3 => Q r_2 u_3))) ∧ (¬ r_1 = 0 → (vp_in i_i 16 ∧ (Q (M_places (Int32.toNatClampNeg i_i)) 0))))
abbrev w0_X5_position (g : cx_G) (a_M a_M_a a_M_rowAt a_M_places a_M_rights a_M_weights a_M_pivots a_M_lower a_M_solution a_M_work a_M_isJoined a_M_stored : Nat) (M_thrown : Int32) (M_n : Int32) (M_hasFactors : Int32) (M_hasSolution : Int32) (M_levels : Int32) (M_places : (Nat → Int32)) : va_W := [(a_M, .inr (5, [.int M_thrown, .int M_n, .ref a_M_a, .ref a_M_rowAt, .ref a_M_places, .ref a_M_rights, .ref a_M_weights, .int M_hasFactors, .ref a_M_pivots, .ref a_M_lower, .int M_hasSolution, .ref a_M_solution, .ref a_M_work, .ref a_M_isJoined, .int M_levels, .ref a_M_stored])), (a_M_places, .inl (g.2.1, 16, .inl M_places))]
abbrev w1_X5_position (g : cx_G) (a_M a_M_a a_M_rowAt a_M_places a_M_rights a_M_weights a_M_pivots a_M_lower a_M_solution a_M_work a_M_isJoined a_M_stored : Nat) (M_thrown : Int32) (M_n : Int32) (M_hasFactors : Int32) (M_hasSolution : Int32) (M_levels : Int32) (M_places : (Nat → Int32)) (u : Int32) : va_W := [(a_M, .inr (5, [.int u, .int M_n, .ref a_M_a, .ref a_M_rowAt, .ref a_M_places, .ref a_M_rights, .ref a_M_weights, .int M_hasFactors, .ref a_M_pivots, .ref a_M_lower, .int M_hasSolution, .ref a_M_solution, .ref a_M_work, .ref a_M_isJoined, .int M_levels, .ref a_M_stored])), (a_M_places, .inl (g.2.1, 16, .inl M_places))]
set_option maxHeartbeats 4000000 in
set_option maxRecDepth 100000 in
theorem c_X5_position (l : Launch) (g : cx_G) (a_M a_M_a a_M_rowAt a_M_places a_M_rights a_M_weights a_M_pivots a_M_lower a_M_solution a_M_work a_M_isJoined a_M_stored : Nat) (i_i : Int32) (M_thrown : Int32) (M_n : Int32) (M_hasFactors : Int32) (M_hasSolution : Int32) (M_levels : Int32) (M_places : (Nat → Int32)) {Q : Int32 → Int32 → Prop} (hv : wp_X5_position i_i M_thrown M_n M_hasFactors M_hasSolution M_levels M_places Q) : cx_Mi l g yX5_position (Cond.code yX5_position cX5_position 2 (some .int) :: cx_T) ({ frames := 1, cells := 0, slots := 0, locals := 21 } : Room) [.ref a_M, .int i_i] (w0_X5_position g a_M a_M_a a_M_rowAt a_M_places a_M_rights a_M_weights a_M_pivots a_M_lower a_M_solution a_M_work a_M_isJoined a_M_stored M_thrown M_n M_hasFactors M_hasSolution M_levels M_places) (fun (r : Int32) (u : Int32) => Q r u) (w1_X5_position g a_M a_M_a a_M_rowAt a_M_places a_M_rights a_M_weights a_M_pivots a_M_lower a_M_solution a_M_work a_M_isJoined a_M_stored M_thrown M_n M_hasFactors M_hasSolution M_levels M_places) 0 0 := by
  intro sz
  refine Met.ofW (cc := cX5_position) (maxL := 2) (ret := (some .int)) (by decide) rfl ?_
  intro p e s m args below meth c s₁ B hml hpre
  obtain ⟨rfl, hsz, hP, hK, hD0⟩ := hpre
  have hx := B.exec
  have hb := B.bytes
  have hr := B.returns
  have hts0 := atoms_spec (ws := (Cond.code yX5_position cX5_position 2 (some .int) :: cx_T)) B.pre
  have hts : ∀ w ∈ cx_T, w.before _ s = true := fun w h => hts0 w (List.mem_cons_of_mem _ h)
  have hown : s.vm.findClass RX5 = some m.cls := findClass_of_methodNamed B.named
  have hlocks := B.notSynchronized
  subst hsz
  have hD := hD0.self (sz := s.heap.size)
  obtain ⟨A, hAe⟩ : ∃ A : Nat → Prop, A = va_A (w0_X5_position g a_M a_M_a a_M_rowAt a_M_places a_M_rights a_M_weights a_M_pivots a_M_lower a_M_solution a_M_work a_M_isJoined a_M_stored M_thrown M_n M_hasFactors M_hasSolution M_levels M_places) s.heap.size := ⟨_, rfl⟩
  rw [← hAe] at hD
  have hA : ∀ q : Nat, s.heap.size ≤ q → A q := fun q h => by rw [hAe]; exact Or.inr h
  have hS : va_S A s.heap s.heap [] := va_S.rf
  have hP : va_P g.1 vwCl [(a_M, .inr (5, [.int M_thrown, .int M_n, .ref a_M_a, .ref a_M_rowAt, .ref a_M_places, .ref a_M_rights, .ref a_M_weights, .int M_hasFactors, .ref a_M_pivots, .ref a_M_lower, .int M_hasSolution, .ref a_M_solution, .ref a_M_work, .ref a_M_isJoined, .int M_levels, .ref a_M_stored])), (a_M_places, .inl (g.2.1, 16, .inl M_places))] s.heap := hP
  have hD : va_D A [(a_M, .inr (5, [.int M_thrown, .int M_n, .ref a_M_a, .ref a_M_rowAt, .ref a_M_places, .ref a_M_rights, .ref a_M_weights, .int M_hasFactors, .ref a_M_pivots, .ref a_M_lower, .int M_hasSolution, .ref a_M_solution, .ref a_M_work, .ref a_M_isJoined, .int M_levels, .ref a_M_stored])), (a_M_places, .inl (g.2.1, 16, .inl M_places))] := hD
  have hl := lv_entry ([.ref a_M, .int i_i]) (n := 2) (Nat.le_of_ble_eq_true rfl)
  rw [lg_entry_eq]
  generalize (lg_sl ([.ref a_M, .int i_i]) ++ List.replicate (2 - (lg_sl ([.ref a_M, .int i_i])).length) Slot.unset).toArray = ls at hl ⊢
  have hl : lv_has ls 2 [(0, .ref a_M), (1, .int i_i)] := hl
  unfold wp_X5_position at hv
  refine lv_aload_n hx hb dX5_position_0 rfl (lv_at hl 0 rfl) ?_
  refine lv_iconst (v := 0) hx hb dX5_position_1 (by decide) ?_
  refine va_put (D := g.1) (ci := 5) (v := .int 0) (ty := .int) (C := RX5) (T := TX5) (N := 16) hx hb hts cw_in_X5 tyX5 tyX5_ok nmX5 hown hK.1 hP hD hS 0 rfl rfl 0 (by decide) (hts _ cw_f_X5_51) (fun _ h9 => h9) rfl (by decide +kernel) rfl rfl (Nat.le_of_ble_eq_true rfl) dX5_position_2 (fun H locs hP hD hS => ?_)
  have hP : va_P g.1 vwCl [(a_M, .inr (5, [.int 0, .int M_n, .ref a_M_a, .ref a_M_rowAt, .ref a_M_places, .ref a_M_rights, .ref a_M_weights, .int M_hasFactors, .ref a_M_pivots, .ref a_M_lower, .int M_hasSolution, .ref a_M_solution, .ref a_M_work, .ref a_M_isJoined, .int M_levels, .ref a_M_stored])), (a_M_places, .inl (g.2.1, 16, .inl M_places))] H := hP
  have hD : va_D A [(a_M, .inr (5, [.int 0, .int M_n, .ref a_M_a, .ref a_M_rowAt, .ref a_M_places, .ref a_M_rights, .ref a_M_weights, .int M_hasFactors, .ref a_M_pivots, .ref a_M_lower, .int M_hasSolution, .ref a_M_solution, .ref a_M_work, .ref a_M_isJoined, .int M_levels, .ref a_M_stored])), (a_M_places, .inl (g.2.1, 16, .inl M_places))] := hD
  refine lv_aload_n hx hb dX5_position_5 rfl (lv_at hl 0 rfl) ?_
  refine lv_iload_n hx hb dX5_position_6 rfl (lv_at hl 1 rfl) ?_
  refine cx_iVr (As := [.int i_i]) (rest := []) ⟨hx, hb, hml, hown, hts⟩ (c_X5_isRow l g a_M a_M_a a_M_rowAt a_M_places a_M_rights a_M_weights a_M_pivots a_M_lower a_M_solution a_M_work a_M_isJoined a_M_stored i_i 0 M_n M_hasFactors M_hasSolution M_levels hv) (cx_cwV 1 hts cw_m_X5_76 cw_i_X5_isRow cw_s_X5_isRow cw_n_X5 cw_c_X5_isRow rfl rfl (by decide +kernel) ⟨Nat.le_of_ble_eq_true rfl, Nat.le_of_ble_eq_true rfl⟩) hK hP hD hS hA 0 5 rfl rfl [0] rfl rfl rfl hl.1 rfl (Nat.le_of_ble_eq_true rfl) dX5_position_7 ⟨Nat.le_of_ble_eq_true rfl, Nat.le_of_ble_eq_true rfl⟩ (fun r_1 H locs hv hP hS => ?_)
  refine lv_if_eq (tgt := 22) hx hb dX5_position_10 (by decide) (fun hc => ?_) (fun hc => ?_)
  · replace hv := hv.1 hc
    refine lv_aload_n hx hb dX5_position_22 rfl (lv_at hl 0 rfl) ?_
    refine lv_iconst (v := 1) hx hb dX5_position_23 (by decide) ?_
    refine cx_iV (wr := [(a_M_places, .inl (g.2.1, 16, .inl M_places))]) (As := [.int 1]) (rest := []) ⟨hx, hb, hml, hown, hts⟩ (c_X5_no l g a_M a_M_a a_M_rowAt a_M_places a_M_rights a_M_weights a_M_pivots a_M_lower a_M_solution a_M_work a_M_isJoined a_M_stored 1 0 M_n M_hasFactors M_hasSolution M_levels hv) (cx_cwV 1 hts cw_m_X5_72 cw_i_X5_no cw_s_X5_no cw_n_X5 cw_c_X5_no rfl rfl (by decide +kernel) ⟨Nat.le_of_ble_eq_true rfl, Nat.le_of_ble_eq_true rfl⟩) hK hP hD hS hA 0 5 rfl rfl [0] [1] rfl rfl rfl rfl (by decide) rfl hl.1 rfl (Nat.le_of_ble_eq_true rfl) dX5_position_24 ⟨Nat.le_of_ble_eq_true rfl, Nat.le_of_ble_eq_true rfl⟩ (fun r_2 w_4 H locs hv hP hD hS => ?_)
    obtain ⟨u_3, rfl⟩ : ∃ z, z = w_4 := ⟨_, rfl⟩
    have hP : va_P g.1 vwCl [(a_M, .inr (5, [.int u_3, .int M_n, .ref a_M_a, .ref a_M_rowAt, .ref a_M_places, .ref a_M_rights, .ref a_M_weights, .int M_hasFactors, .ref a_M_pivots, .ref a_M_lower, .int M_hasSolution, .ref a_M_solution, .ref a_M_work, .ref a_M_isJoined, .int M_levels, .ref a_M_stored])), (a_M_places, .inl (g.2.1, 16, .inl M_places))] H := hP.sub [1, 0] rfl
    have hD : va_D A [(a_M, .inr (5, [.int u_3, .int M_n, .ref a_M_a, .ref a_M_rowAt, .ref a_M_places, .ref a_M_rights, .ref a_M_weights, .int M_hasFactors, .ref a_M_pivots, .ref a_M_lower, .int M_hasSolution, .ref a_M_solution, .ref a_M_work, .ref a_M_isJoined, .int M_levels, .ref a_M_stored])), (a_M_places, .inl (g.2.1, 16, .inl M_places))] := hD.sub [1, 0] (by decide) rfl
    exact cx_iret hx hb hr hlocks hAe hS u_3 hv hP hD dX5_position_27
  · replace hv := hv.2 hc
    refine lv_aload_n hx hb dX5_position_13 rfl (lv_at hl 0 rfl) ?_
    refine va_get (D := g.1) (ci := 5) (v := .ref a_M_places) (C := RX5) (T := TX5) (N := 16) hx hb hts cw_in_X5 hown hK.1 hP 0 rfl rfl 4 (by decide) (hts _ cw_f_X5_20) (fun _ h9 => h9) rfl dX5_position_14 ?_
    refine lv_iload_n hx hb dX5_position_17 rfl (lv_at hl 1 rfl) ?_
    obtain ⟨h_5, hv⟩ := hv
    refine va_iald (D := g.1) hx hb hK.1 hP 1 0 rfl rfl h_5 dX5_position_18 ?_
    refine lv_goto (tgt := 27) hx hb dX5_position_19 (by decide) ?_
    exact cx_iret hx hb hr hlocks hAe hS 0 hv hP hD dX5_position_27
def wp_X5_rowAt (i_p : Int32) (M_thrown : Int32) (M_n : Int32) (M_hasFactors : Int32) (M_hasSolution : Int32) (M_levels : Int32) (M_rowAt : (Nat → Int32)) (Q : Int32 → Int32 → Prop)   : Prop := wp_X5_isRow i_p 0 M_n M_hasFactors M_hasSolution M_levels (fun r_1 => (r_1 = 0 → (wp_X5_no 1 0 M_n M_hasFactors M_hasSolution M_levels (fun r_2 u_3 => Q r_2 u_3))) ∧ (¬ r_1 = 0 → (vp_in i_p 16 ∧ (Q (M_rowAt (Int32.toNatClampNeg i_p)) 0))))
abbrev w0_X5_rowAt (g : cx_G) (a_M a_M_a a_M_rowAt a_M_places a_M_rights a_M_weights a_M_pivots a_M_lower a_M_solution a_M_work a_M_isJoined a_M_stored : Nat) (M_thrown : Int32) (M_n : Int32) (M_hasFactors : Int32) (M_hasSolution : Int32) (M_levels : Int32) (M_rowAt : (Nat → Int32)) : va_W := [(a_M, .inr (5, [.int M_thrown, .int M_n, .ref a_M_a, .ref a_M_rowAt, .ref a_M_places, .ref a_M_rights, .ref a_M_weights, .int M_hasFactors, .ref a_M_pivots, .ref a_M_lower, .int M_hasSolution, .ref a_M_solution, .ref a_M_work, .ref a_M_isJoined, .int M_levels, .ref a_M_stored])), (a_M_rowAt, .inl (g.2.1, 16, .inl M_rowAt))]
abbrev w1_X5_rowAt (g : cx_G) (a_M a_M_a a_M_rowAt a_M_places a_M_rights a_M_weights a_M_pivots a_M_lower a_M_solution a_M_work a_M_isJoined a_M_stored : Nat) (M_thrown : Int32) (M_n : Int32) (M_hasFactors : Int32) (M_hasSolution : Int32) (M_levels : Int32) (M_rowAt : (Nat → Int32)) (u : Int32) : va_W := [(a_M, .inr (5, [.int u, .int M_n, .ref a_M_a, .ref a_M_rowAt, .ref a_M_places, .ref a_M_rights, .ref a_M_weights, .int M_hasFactors, .ref a_M_pivots, .ref a_M_lower, .int M_hasSolution, .ref a_M_solution, .ref a_M_work, .ref a_M_isJoined, .int M_levels, .ref a_M_stored])), (a_M_rowAt, .inl (g.2.1, 16, .inl M_rowAt))]
set_option maxHeartbeats 4000000 in
set_option maxRecDepth 100000 in
theorem c_X5_rowAt (l : Launch) (g : cx_G) (a_M a_M_a a_M_rowAt a_M_places a_M_rights a_M_weights a_M_pivots a_M_lower a_M_solution a_M_work a_M_isJoined a_M_stored : Nat) (i_p : Int32) (M_thrown : Int32) (M_n : Int32) (M_hasFactors : Int32) (M_hasSolution : Int32) (M_levels : Int32) (M_rowAt : (Nat → Int32)) {Q : Int32 → Int32 → Prop} (hv : wp_X5_rowAt i_p M_thrown M_n M_hasFactors M_hasSolution M_levels M_rowAt Q) : cx_Mi l g yX5_rowAt (Cond.code yX5_rowAt cX5_rowAt 2 (some .int) :: cx_T) ({ frames := 1, cells := 0, slots := 0, locals := 21 } : Room) [.ref a_M, .int i_p] (w0_X5_rowAt g a_M a_M_a a_M_rowAt a_M_places a_M_rights a_M_weights a_M_pivots a_M_lower a_M_solution a_M_work a_M_isJoined a_M_stored M_thrown M_n M_hasFactors M_hasSolution M_levels M_rowAt) (fun (r : Int32) (u : Int32) => Q r u) (w1_X5_rowAt g a_M a_M_a a_M_rowAt a_M_places a_M_rights a_M_weights a_M_pivots a_M_lower a_M_solution a_M_work a_M_isJoined a_M_stored M_thrown M_n M_hasFactors M_hasSolution M_levels M_rowAt) 0 0 := by
  intro sz
  refine Met.ofW (cc := cX5_rowAt) (maxL := 2) (ret := (some .int)) (by decide) rfl ?_
  intro p e s m args below meth c s₁ B hml hpre
  obtain ⟨rfl, hsz, hP, hK, hD0⟩ := hpre
  have hx := B.exec
  have hb := B.bytes
  have hr := B.returns
  have hts0 := atoms_spec (ws := (Cond.code yX5_rowAt cX5_rowAt 2 (some .int) :: cx_T)) B.pre
  have hts : ∀ w ∈ cx_T, w.before _ s = true := fun w h => hts0 w (List.mem_cons_of_mem _ h)
  have hown : s.vm.findClass RX5 = some m.cls := findClass_of_methodNamed B.named
  have hlocks := B.notSynchronized
  subst hsz
  have hD := hD0.self (sz := s.heap.size)
  obtain ⟨A, hAe⟩ : ∃ A : Nat → Prop, A = va_A (w0_X5_rowAt g a_M a_M_a a_M_rowAt a_M_places a_M_rights a_M_weights a_M_pivots a_M_lower a_M_solution a_M_work a_M_isJoined a_M_stored M_thrown M_n M_hasFactors M_hasSolution M_levels M_rowAt) s.heap.size := ⟨_, rfl⟩
  rw [← hAe] at hD
  have hA : ∀ q : Nat, s.heap.size ≤ q → A q := fun q h => by rw [hAe]; exact Or.inr h
  have hS : va_S A s.heap s.heap [] := va_S.rf
  have hP : va_P g.1 vwCl [(a_M, .inr (5, [.int M_thrown, .int M_n, .ref a_M_a, .ref a_M_rowAt, .ref a_M_places, .ref a_M_rights, .ref a_M_weights, .int M_hasFactors, .ref a_M_pivots, .ref a_M_lower, .int M_hasSolution, .ref a_M_solution, .ref a_M_work, .ref a_M_isJoined, .int M_levels, .ref a_M_stored])), (a_M_rowAt, .inl (g.2.1, 16, .inl M_rowAt))] s.heap := hP
  have hD : va_D A [(a_M, .inr (5, [.int M_thrown, .int M_n, .ref a_M_a, .ref a_M_rowAt, .ref a_M_places, .ref a_M_rights, .ref a_M_weights, .int M_hasFactors, .ref a_M_pivots, .ref a_M_lower, .int M_hasSolution, .ref a_M_solution, .ref a_M_work, .ref a_M_isJoined, .int M_levels, .ref a_M_stored])), (a_M_rowAt, .inl (g.2.1, 16, .inl M_rowAt))] := hD
  have hl := lv_entry ([.ref a_M, .int i_p]) (n := 2) (Nat.le_of_ble_eq_true rfl)
  rw [lg_entry_eq]
  generalize (lg_sl ([.ref a_M, .int i_p]) ++ List.replicate (2 - (lg_sl ([.ref a_M, .int i_p])).length) Slot.unset).toArray = ls at hl ⊢
  have hl : lv_has ls 2 [(0, .ref a_M), (1, .int i_p)] := hl
  unfold wp_X5_rowAt at hv
  refine lv_aload_n hx hb dX5_rowAt_0 rfl (lv_at hl 0 rfl) ?_
  refine lv_iconst (v := 0) hx hb dX5_rowAt_1 (by decide) ?_
  refine va_put (D := g.1) (ci := 5) (v := .int 0) (ty := .int) (C := RX5) (T := TX5) (N := 16) hx hb hts cw_in_X5 tyX5 tyX5_ok nmX5 hown hK.1 hP hD hS 0 rfl rfl 0 (by decide) (hts _ cw_f_X5_51) (fun _ h9 => h9) rfl (by decide +kernel) rfl rfl (Nat.le_of_ble_eq_true rfl) dX5_rowAt_2 (fun H locs hP hD hS => ?_)
  have hP : va_P g.1 vwCl [(a_M, .inr (5, [.int 0, .int M_n, .ref a_M_a, .ref a_M_rowAt, .ref a_M_places, .ref a_M_rights, .ref a_M_weights, .int M_hasFactors, .ref a_M_pivots, .ref a_M_lower, .int M_hasSolution, .ref a_M_solution, .ref a_M_work, .ref a_M_isJoined, .int M_levels, .ref a_M_stored])), (a_M_rowAt, .inl (g.2.1, 16, .inl M_rowAt))] H := hP
  have hD : va_D A [(a_M, .inr (5, [.int 0, .int M_n, .ref a_M_a, .ref a_M_rowAt, .ref a_M_places, .ref a_M_rights, .ref a_M_weights, .int M_hasFactors, .ref a_M_pivots, .ref a_M_lower, .int M_hasSolution, .ref a_M_solution, .ref a_M_work, .ref a_M_isJoined, .int M_levels, .ref a_M_stored])), (a_M_rowAt, .inl (g.2.1, 16, .inl M_rowAt))] := hD
  refine lv_aload_n hx hb dX5_rowAt_5 rfl (lv_at hl 0 rfl) ?_
  refine lv_iload_n hx hb dX5_rowAt_6 rfl (lv_at hl 1 rfl) ?_
  refine cx_iVr (As := [.int i_p]) (rest := []) ⟨hx, hb, hml, hown, hts⟩ (c_X5_isRow l g a_M a_M_a a_M_rowAt a_M_places a_M_rights a_M_weights a_M_pivots a_M_lower a_M_solution a_M_work a_M_isJoined a_M_stored i_p 0 M_n M_hasFactors M_hasSolution M_levels hv) (cx_cwV 1 hts cw_m_X5_76 cw_i_X5_isRow cw_s_X5_isRow cw_n_X5 cw_c_X5_isRow rfl rfl (by decide +kernel) ⟨Nat.le_of_ble_eq_true rfl, Nat.le_of_ble_eq_true rfl⟩) hK hP hD hS hA 0 5 rfl rfl [0] rfl rfl rfl hl.1 rfl (Nat.le_of_ble_eq_true rfl) dX5_rowAt_7 ⟨Nat.le_of_ble_eq_true rfl, Nat.le_of_ble_eq_true rfl⟩ (fun r_1 H locs hv hP hS => ?_)
  refine lv_if_eq (tgt := 22) hx hb dX5_rowAt_10 (by decide) (fun hc => ?_) (fun hc => ?_)
  · replace hv := hv.1 hc
    refine lv_aload_n hx hb dX5_rowAt_22 rfl (lv_at hl 0 rfl) ?_
    refine lv_iconst (v := 1) hx hb dX5_rowAt_23 (by decide) ?_
    refine cx_iV (wr := [(a_M_rowAt, .inl (g.2.1, 16, .inl M_rowAt))]) (As := [.int 1]) (rest := []) ⟨hx, hb, hml, hown, hts⟩ (c_X5_no l g a_M a_M_a a_M_rowAt a_M_places a_M_rights a_M_weights a_M_pivots a_M_lower a_M_solution a_M_work a_M_isJoined a_M_stored 1 0 M_n M_hasFactors M_hasSolution M_levels hv) (cx_cwV 1 hts cw_m_X5_72 cw_i_X5_no cw_s_X5_no cw_n_X5 cw_c_X5_no rfl rfl (by decide +kernel) ⟨Nat.le_of_ble_eq_true rfl, Nat.le_of_ble_eq_true rfl⟩) hK hP hD hS hA 0 5 rfl rfl [0] [1] rfl rfl rfl rfl (by decide) rfl hl.1 rfl (Nat.le_of_ble_eq_true rfl) dX5_rowAt_24 ⟨Nat.le_of_ble_eq_true rfl, Nat.le_of_ble_eq_true rfl⟩ (fun r_2 w_4 H locs hv hP hD hS => ?_)
    obtain ⟨u_3, rfl⟩ : ∃ z, z = w_4 := ⟨_, rfl⟩
    have hP : va_P g.1 vwCl [(a_M, .inr (5, [.int u_3, .int M_n, .ref a_M_a, .ref a_M_rowAt, .ref a_M_places, .ref a_M_rights, .ref a_M_weights, .int M_hasFactors, .ref a_M_pivots, .ref a_M_lower, .int M_hasSolution, .ref a_M_solution, .ref a_M_work, .ref a_M_isJoined, .int M_levels, .ref a_M_stored])), (a_M_rowAt, .inl (g.2.1, 16, .inl M_rowAt))] H := hP.sub [1, 0] rfl
    have hD : va_D A [(a_M, .inr (5, [.int u_3, .int M_n, .ref a_M_a, .ref a_M_rowAt, .ref a_M_places, .ref a_M_rights, .ref a_M_weights, .int M_hasFactors, .ref a_M_pivots, .ref a_M_lower, .int M_hasSolution, .ref a_M_solution, .ref a_M_work, .ref a_M_isJoined, .int M_levels, .ref a_M_stored])), (a_M_rowAt, .inl (g.2.1, 16, .inl M_rowAt))] := hD.sub [1, 0] (by decide) rfl
    exact cx_iret hx hb hr hlocks hAe hS u_3 hv hP hD dX5_rowAt_27
  · replace hv := hv.2 hc
    refine lv_aload_n hx hb dX5_rowAt_13 rfl (lv_at hl 0 rfl) ?_
    refine va_get (D := g.1) (ci := 5) (v := .ref a_M_rowAt) (C := RX5) (T := TX5) (N := 16) hx hb hts cw_in_X5 hown hK.1 hP 0 rfl rfl 3 (by decide) (hts _ cw_f_X5_17) (fun _ h9 => h9) rfl dX5_rowAt_14 ?_
    refine lv_iload_n hx hb dX5_rowAt_17 rfl (lv_at hl 1 rfl) ?_
    obtain ⟨h_5, hv⟩ := hv
    refine va_iald (D := g.1) hx hb hK.1 hP 1 0 rfl rfl h_5 dX5_rowAt_18 ?_
    refine lv_goto (tgt := 27) hx hb dX5_rowAt_19 (by decide) ?_
    exact cx_iret hx hb hr hlocks hAe hS 0 hv hP hD dX5_rowAt_27
def vc_X5_bandwidth_0 (M_thrown : Int32) (M_n : Int32) (M_hasFactors : Int32) (M_hasSolution : Int32) (M_levels : Int32) (M_a : (Nat → Int32)) (M_places : (Nat → Int32)) (Q : Int32 → Int32 → Prop) (G1 : Int32 → Int32 → Int32 → Prop) (G2 : Int32 → Int32 → Int32 → Int32 → Prop)  : Prop := G1 0 0 0
def vc_X5_bandwidth_1 (M_thrown : Int32) (M_n : Int32) (M_hasFactors : Int32) (M_hasSolution : Int32) (M_levels : Int32) (M_a : (Nat → Int32)) (M_places : (Nat → Int32)) (Q : Int32 → Int32 → Prop) (G1 : Int32 → Int32 → Int32 → Prop) (G2 : Int32 → Int32 → Int32 → Int32 → Prop) (x2 : Int32) (x1 : Int32) (v_M_thrown : Int32) : Prop := (M_n ≤ x2 → (Q x1 v_M_thrown)) ∧ (¬ M_n ≤ x2 → (G2 0 x2 x1 v_M_thrown))
def vc_X5_bandwidth_2 (M_thrown : Int32) (M_n : Int32) (M_hasFactors : Int32) (M_hasSolution : Int32) (M_levels : Int32) (M_a : (Nat → Int32)) (M_places : (Nat → Int32)) (Q : Int32 → Int32 → Prop) (G1 : Int32 → Int32 → Int32 → Prop) (G2 : Int32 → Int32 → Int32 → Int32 → Prop) (x3 : Int32) (x2 : Int32) (x1 : Int32) (v_M_thrown : Int32) : Prop := (M_n ≤ x3 → (∀ x2_1 : Int32, x2_1 = x2 + 1 → (G1 x2_1 x1 v_M_thrown))) ∧ (¬ M_n ≤ x3 → (wp_X5_isLinked x2 x3 v_M_thrown M_n M_hasFactors M_hasSolution M_levels M_a (fun r_2 => (r_2 = 0 → (∀ x3_3 : Int32, x3_3 = x3 + 1 → (G2 x3_3 x2 x1 v_M_thrown))) ∧ (¬ r_2 = 0 → (vp_in x2 16 ∧ (vp_in x3 16 ∧ (∀ x1_6 : Int32, x1_6 = (if x1 < ((M_places (Int32.toNatClampNeg x2)) - (M_places (Int32.toNatClampNeg x3))) then ((M_places (Int32.toNatClampNeg x2)) - (M_places (Int32.toNatClampNeg x3))) else x1) → (∀ x3_7 : Int32, x3_7 = x3 + 1 → (G2 x3_7 x2 x1_6 v_M_thrown)))))))))
def wp_X5_bandwidth (M_thrown : Int32) (M_n : Int32) (M_hasFactors : Int32) (M_hasSolution : Int32) (M_levels : Int32) (M_a : (Nat → Int32)) (M_places : (Nat → Int32)) (Q : Int32 → Int32 → Prop) : Prop := ∀ (G1 : Int32 → Int32 → Int32 → Prop) (G2 : Int32 → Int32 → Int32 → Int32 → Prop), (∀ (x2 : Int32) (x1 : Int32) (v_M_thrown : Int32), vc_X5_bandwidth_1 M_thrown M_n M_hasFactors M_hasSolution M_levels M_a M_places Q G1 G2 x2 x1 v_M_thrown → G1 x2 x1 v_M_thrown) → (∀ (x3 : Int32) (x2 : Int32) (x1 : Int32) (v_M_thrown : Int32), vc_X5_bandwidth_2 M_thrown M_n M_hasFactors M_hasSolution M_levels M_a M_places Q G1 G2 x3 x2 x1 v_M_thrown → G2 x3 x2 x1 v_M_thrown) → vc_X5_bandwidth_0 M_thrown M_n M_hasFactors M_hasSolution M_levels M_a M_places Q G1 G2
abbrev w0_X5_bandwidth (g : cx_G) (a_M a_M_a a_M_rowAt a_M_places a_M_rights a_M_weights a_M_pivots a_M_lower a_M_solution a_M_work a_M_isJoined a_M_stored : Nat) (M_thrown : Int32) (M_n : Int32) (M_hasFactors : Int32) (M_hasSolution : Int32) (M_levels : Int32) (M_a : (Nat → Int32)) (M_places : (Nat → Int32)) : va_W := [(a_M, .inr (5, [.int M_thrown, .int M_n, .ref a_M_a, .ref a_M_rowAt, .ref a_M_places, .ref a_M_rights, .ref a_M_weights, .int M_hasFactors, .ref a_M_pivots, .ref a_M_lower, .int M_hasSolution, .ref a_M_solution, .ref a_M_work, .ref a_M_isJoined, .int M_levels, .ref a_M_stored])), (a_M_a, .inl (g.2.1, 256, .inl M_a)), (a_M_places, .inl (g.2.1, 16, .inl M_places))]
abbrev w1_X5_bandwidth (g : cx_G) (a_M a_M_a a_M_rowAt a_M_places a_M_rights a_M_weights a_M_pivots a_M_lower a_M_solution a_M_work a_M_isJoined a_M_stored : Nat) (M_thrown : Int32) (M_n : Int32) (M_hasFactors : Int32) (M_hasSolution : Int32) (M_levels : Int32) (M_a : (Nat → Int32)) (M_places : (Nat → Int32)) (u : Int32) : va_W := [(a_M, .inr (5, [.int u, .int M_n, .ref a_M_a, .ref a_M_rowAt, .ref a_M_places, .ref a_M_rights, .ref a_M_weights, .int M_hasFactors, .ref a_M_pivots, .ref a_M_lower, .int M_hasSolution, .ref a_M_solution, .ref a_M_work, .ref a_M_isJoined, .int M_levels, .ref a_M_stored])), (a_M_a, .inl (g.2.1, 256, .inl M_a)), (a_M_places, .inl (g.2.1, 16, .inl M_places))]
set_option maxHeartbeats 4000000 in
set_option maxRecDepth 100000 in
theorem c_X5_bandwidth (l : Launch) (g : cx_G) (a_M a_M_a a_M_rowAt a_M_places a_M_rights a_M_weights a_M_pivots a_M_lower a_M_solution a_M_work a_M_isJoined a_M_stored : Nat) (M_thrown : Int32) (M_n : Int32) (M_hasFactors : Int32) (M_hasSolution : Int32) (M_levels : Int32) (M_a : (Nat → Int32)) (M_places : (Nat → Int32)) {Q : Int32 → Int32 → Prop} (hv : wp_X5_bandwidth M_thrown M_n M_hasFactors M_hasSolution M_levels M_a M_places Q) : cx_Mi l g yX5_bandwidth (Cond.code yX5_bandwidth cX5_bandwidth 4 (some .int) :: cx_T) ({ frames := 2, cells := 0, slots := 0, locals := 43 } : Room) [.ref a_M] (w0_X5_bandwidth g a_M a_M_a a_M_rowAt a_M_places a_M_rights a_M_weights a_M_pivots a_M_lower a_M_solution a_M_work a_M_isJoined a_M_stored M_thrown M_n M_hasFactors M_hasSolution M_levels M_a M_places) (fun (r : Int32) (u : Int32) => Q r u) (w1_X5_bandwidth g a_M a_M_a a_M_rowAt a_M_places a_M_rights a_M_weights a_M_pivots a_M_lower a_M_solution a_M_work a_M_isJoined a_M_stored M_thrown M_n M_hasFactors M_hasSolution M_levels M_a M_places) 0 0 := by
  intro sz
  refine Met.ofW (cc := cX5_bandwidth) (maxL := 4) (ret := (some .int)) (by decide) rfl ?_
  intro p e s m args below meth c s₁ B hml hpre
  obtain ⟨rfl, hsz, hP, hK, hD0⟩ := hpre
  have hx := B.exec
  have hb := B.bytes
  have hr := B.returns
  have hts0 := atoms_spec (ws := (Cond.code yX5_bandwidth cX5_bandwidth 4 (some .int) :: cx_T)) B.pre
  have hts : ∀ w ∈ cx_T, w.before _ s = true := fun w h => hts0 w (List.mem_cons_of_mem _ h)
  have hown : s.vm.findClass RX5 = some m.cls := findClass_of_methodNamed B.named
  have hlocks := B.notSynchronized
  subst hsz
  have hD := hD0.self (sz := s.heap.size)
  obtain ⟨A, hAe⟩ : ∃ A : Nat → Prop, A = va_A (w0_X5_bandwidth g a_M a_M_a a_M_rowAt a_M_places a_M_rights a_M_weights a_M_pivots a_M_lower a_M_solution a_M_work a_M_isJoined a_M_stored M_thrown M_n M_hasFactors M_hasSolution M_levels M_a M_places) s.heap.size := ⟨_, rfl⟩
  rw [← hAe] at hD
  have hA : ∀ q : Nat, s.heap.size ≤ q → A q := fun q h => by rw [hAe]; exact Or.inr h
  have hS : va_S A s.heap s.heap [] := va_S.rf
  have hP : va_P g.1 vwCl [(a_M, .inr (5, [.int M_thrown, .int M_n, .ref a_M_a, .ref a_M_rowAt, .ref a_M_places, .ref a_M_rights, .ref a_M_weights, .int M_hasFactors, .ref a_M_pivots, .ref a_M_lower, .int M_hasSolution, .ref a_M_solution, .ref a_M_work, .ref a_M_isJoined, .int M_levels, .ref a_M_stored])), (a_M_a, .inl (g.2.1, 256, .inl M_a)), (a_M_places, .inl (g.2.1, 16, .inl M_places))] s.heap := hP
  have hD : va_D A [(a_M, .inr (5, [.int M_thrown, .int M_n, .ref a_M_a, .ref a_M_rowAt, .ref a_M_places, .ref a_M_rights, .ref a_M_weights, .int M_hasFactors, .ref a_M_pivots, .ref a_M_lower, .int M_hasSolution, .ref a_M_solution, .ref a_M_work, .ref a_M_isJoined, .int M_levels, .ref a_M_stored])), (a_M_a, .inl (g.2.1, 256, .inl M_a)), (a_M_places, .inl (g.2.1, 16, .inl M_places))] := hD
  have hl := lv_entry ([.ref a_M]) (n := 4) (Nat.le_of_ble_eq_true rfl)
  rw [lg_entry_eq]
  generalize (lg_sl ([.ref a_M]) ++ List.replicate (4 - (lg_sl ([.ref a_M])).length) Slot.unset).toArray = ls at hl ⊢
  have hl : lv_has ls 4 [(0, .ref a_M)] := hl
  obtain ⟨G1, hG1⟩ : ∃ G : Int32 → Int32 → Int32 → Prop, G = (fun (x2 : Int32) (x1 : Int32) (v_M_thrown : Int32) => ∀ (H : Heap) (locs : List Loc) (ls : Array Slot), va_P g.1 vwCl [(a_M, .inr (5, [.int v_M_thrown, .int M_n, .ref a_M_a, .ref a_M_rowAt, .ref a_M_places, .ref a_M_rights, .ref a_M_weights, .int M_hasFactors, .ref a_M_pivots, .ref a_M_lower, .int M_hasSolution, .ref a_M_solution, .ref a_M_work, .ref a_M_isJoined, .int M_levels, .ref a_M_stored])), (a_M_a, .inl (g.2.1, 256, .inl M_a)), (a_M_places, .inl (g.2.1, 16, .inl M_places))] H → va_D A [(a_M, .inr (5, [.int v_M_thrown, .int M_n, .ref a_M_a, .ref a_M_rowAt, .ref a_M_places, .ref a_M_rights, .ref a_M_weights, .int M_hasFactors, .ref a_M_pivots, .ref a_M_lower, .int M_hasSolution, .ref a_M_solution, .ref a_M_work, .ref a_M_isJoined, .int M_levels, .ref a_M_stored])), (a_M_a, .inl (g.2.1, 256, .inl M_a)), (a_M_places, .inl (g.2.1, 16, .inl M_places))] → va_S A s.heap H locs → lv_has ls 4 [(2, .int x2), (1, .int x1), (0, .ref a_M)] → W p l e (headSpec (Cond.code yX5_bandwidth cX5_bandwidth 4 (some .int) :: cx_T) ({ frames := 2, cells := 0, slots := 0, locals := 43 } : Room)).room s m ([.ref a_M] : List Value).toArray below meth c H locs 0 0 (MQ below (va_Qi (fun (r : Int32) (u : Int32) => Q r u) (cx_B g (w0_X5_bandwidth g a_M a_M_a a_M_rowAt a_M_places a_M_rights a_M_weights a_M_pivots a_M_lower a_M_solution a_M_work a_M_isJoined a_M_stored M_thrown M_n M_hasFactors M_hasSolution M_levels M_a M_places) s.heap.size (w1_X5_bandwidth g a_M a_M_a a_M_rowAt a_M_places a_M_rights a_M_weights a_M_pivots a_M_lower a_M_solution a_M_work a_M_isJoined a_M_stored M_thrown M_n M_hasFactors M_hasSolution M_levels M_a M_places)) (va_A (w0_X5_bandwidth g a_M a_M_a a_M_rowAt a_M_places a_M_rights a_M_weights a_M_pivots a_M_lower a_M_solution a_M_work a_M_isJoined a_M_stored M_thrown M_n M_hasFactors M_hasSolution M_levels M_a M_places) s.heap.size)) ([.ref a_M] : List Value).toArray s 0 0 (va_A (w0_X5_bandwidth g a_M a_M_a a_M_rowAt a_M_places a_M_rights a_M_weights a_M_pivots a_M_lower a_M_solution a_M_work a_M_isJoined a_M_stored M_thrown M_n M_hasFactors M_hasSolution M_levels M_a M_places) s.heap.size)) (F0 m 9 ls [])) := ⟨_, rfl⟩
  obtain ⟨G2, hG2⟩ : ∃ G : Int32 → Int32 → Int32 → Int32 → Prop, G = (fun (x3 : Int32) (x2 : Int32) (x1 : Int32) (v_M_thrown : Int32) => ∀ (H : Heap) (locs : List Loc) (ls : Array Slot), va_P g.1 vwCl [(a_M, .inr (5, [.int v_M_thrown, .int M_n, .ref a_M_a, .ref a_M_rowAt, .ref a_M_places, .ref a_M_rights, .ref a_M_weights, .int M_hasFactors, .ref a_M_pivots, .ref a_M_lower, .int M_hasSolution, .ref a_M_solution, .ref a_M_work, .ref a_M_isJoined, .int M_levels, .ref a_M_stored])), (a_M_a, .inl (g.2.1, 256, .inl M_a)), (a_M_places, .inl (g.2.1, 16, .inl M_places))] H → va_D A [(a_M, .inr (5, [.int v_M_thrown, .int M_n, .ref a_M_a, .ref a_M_rowAt, .ref a_M_places, .ref a_M_rights, .ref a_M_weights, .int M_hasFactors, .ref a_M_pivots, .ref a_M_lower, .int M_hasSolution, .ref a_M_solution, .ref a_M_work, .ref a_M_isJoined, .int M_levels, .ref a_M_stored])), (a_M_a, .inl (g.2.1, 256, .inl M_a)), (a_M_places, .inl (g.2.1, 16, .inl M_places))] → va_S A s.heap H locs → lv_has ls 4 [(3, .int x3), (2, .int x2), (1, .int x1), (0, .ref a_M)] → W p l e (headSpec (Cond.code yX5_bandwidth cX5_bandwidth 4 (some .int) :: cx_T) ({ frames := 2, cells := 0, slots := 0, locals := 43 } : Room)).room s m ([.ref a_M] : List Value).toArray below meth c H locs 0 0 (MQ below (va_Qi (fun (r : Int32) (u : Int32) => Q r u) (cx_B g (w0_X5_bandwidth g a_M a_M_a a_M_rowAt a_M_places a_M_rights a_M_weights a_M_pivots a_M_lower a_M_solution a_M_work a_M_isJoined a_M_stored M_thrown M_n M_hasFactors M_hasSolution M_levels M_a M_places) s.heap.size (w1_X5_bandwidth g a_M a_M_a a_M_rowAt a_M_places a_M_rights a_M_weights a_M_pivots a_M_lower a_M_solution a_M_work a_M_isJoined a_M_stored M_thrown M_n M_hasFactors M_hasSolution M_levels M_a M_places)) (va_A (w0_X5_bandwidth g a_M a_M_a a_M_rowAt a_M_places a_M_rights a_M_weights a_M_pivots a_M_lower a_M_solution a_M_work a_M_isJoined a_M_stored M_thrown M_n M_hasFactors M_hasSolution M_levels M_a M_places) s.heap.size)) ([.ref a_M] : List Value).toArray s 0 0 (va_A (w0_X5_bandwidth g a_M a_M_a a_M_rowAt a_M_places a_M_rights a_M_weights a_M_pivots a_M_lower a_M_solution a_M_work a_M_isJoined a_M_stored M_thrown M_n M_hasFactors M_hasSolution M_levels M_a M_places) s.heap.size)) (F0 m 19 ls [])) := ⟨_, rfl⟩
  have hs1 : ∀ (x2 : Int32) (x1 : Int32) (v_M_thrown : Int32), vc_X5_bandwidth_1 M_thrown M_n M_hasFactors M_hasSolution M_levels M_a M_places Q G1 G2 x2 x1 v_M_thrown → G1 x2 x1 v_M_thrown := by
    rw [hG1, hG2]
    intro x2 x1 v_M_thrown hv H locs ls hP hD hS hl
    unfold vc_X5_bandwidth_1 at hv
    refine lv_iload_n hx hb dX5_bandwidth_9 rfl (lv_at hl 0 rfl) ?_
    refine lv_aload_n hx hb dX5_bandwidth_10 rfl (lv_at hl 2 rfl) ?_
    refine va_get (D := g.1) (ci := 5) (v := .int M_n) (C := RX5) (T := TX5) (N := 16) hx hb hts cw_in_X5 hown hK.1 hP 0 rfl rfl 1 (by decide) (hts _ cw_f_X5_9) (fun _ h9 => h9) rfl dX5_bandwidth_11 ?_
    refine lv_icmp_ge (tgt := 66) hx hb dX5_bandwidth_14 (by decide) (fun hc => ?_) (fun hc => ?_)
    · replace hv := hv.1 hc
      refine lv_iload_n hx hb dX5_bandwidth_66 rfl (lv_at hl 1 rfl) ?_
      exact cx_iret hx hb hr hlocks hAe hS v_M_thrown hv hP hD dX5_bandwidth_67
    · replace hv := hv.2 hc
      refine lv_iconst (v := 0) hx hb dX5_bandwidth_17 (by decide) ?_
      refine lv_istore_n (lv' := [(3, .int 0), (2, .int x2), (1, .int x1), (0, .ref a_M)]) hx hb dX5_bandwidth_18 rfl hl (by decide) rfl (fun ls hl => ?_)
      exact hv _ _ _ hP hD hS (lv_sub hl [0, 1, 2, 3] rfl)
  have hs2 : ∀ (x3 : Int32) (x2 : Int32) (x1 : Int32) (v_M_thrown : Int32), vc_X5_bandwidth_2 M_thrown M_n M_hasFactors M_hasSolution M_levels M_a M_places Q G1 G2 x3 x2 x1 v_M_thrown → G2 x3 x2 x1 v_M_thrown := by
    rw [hG1, hG2]
    intro x3 x2 x1 v_M_thrown hv H locs ls hP hD hS hl
    unfold vc_X5_bandwidth_2 at hv
    refine lv_iload_n hx hb dX5_bandwidth_19 rfl (lv_at hl 0 rfl) ?_
    refine lv_aload_n hx hb dX5_bandwidth_20 rfl (lv_at hl 3 rfl) ?_
    refine va_get (D := g.1) (ci := 5) (v := .int M_n) (C := RX5) (T := TX5) (N := 16) hx hb hts cw_in_X5 hown hK.1 hP 0 rfl rfl 1 (by decide) (hts _ cw_f_X5_9) (fun _ h9 => h9) rfl dX5_bandwidth_21 ?_
    refine lv_icmp_ge (tgt := 60) hx hb dX5_bandwidth_24 (by decide) (fun hc => ?_) (fun hc => ?_)
    · replace hv := hv.1 hc
      obtain ⟨x2_1, ex2_1⟩ : ∃ y : Int32, y = x2 + 1 := ⟨_, rfl⟩
      replace hv := hv x2_1 ex2_1
      refine lv_iinc (v := x2_1) (lv' := [(2, .int x2_1), (3, .int x3), (1, .int x1), (0, .ref a_M)]) hx hb dX5_bandwidth_60 hl (k := 1) rfl (by rw [ex2_1]; rfl) (by decide) rfl (fun ls hl => ?_)
      refine lv_goto (tgt := 9) hx hb dX5_bandwidth_63 (by decide) ?_
      exact hv _ _ _ hP hD hS (lv_sub hl [0, 2, 3] rfl)
    · replace hv := hv.2 hc
      refine lv_aload_n hx hb dX5_bandwidth_27 rfl (lv_at hl 3 rfl) ?_
      refine lv_iload_n hx hb dX5_bandwidth_28 rfl (lv_at hl 1 rfl) ?_
      refine lv_iload_n hx hb dX5_bandwidth_29 rfl (lv_at hl 0 rfl) ?_
      refine cx_iVr (As := [.int x2, .int x3]) (rest := []) ⟨hx, hb, hml, hown, hts⟩ (c_X5_isLinked l g a_M a_M_a a_M_rowAt a_M_places a_M_rights a_M_weights a_M_pivots a_M_lower a_M_solution a_M_work a_M_isJoined a_M_stored x2 x3 v_M_thrown M_n M_hasFactors M_hasSolution M_levels M_a hv) (cx_cwV 2 hts cw_m_X5_83 cw_i_X5_isLinked cw_s_X5_isLinked cw_n_X5 cw_c_X5_isLinked rfl rfl (by decide +kernel) ⟨Nat.le_of_ble_eq_true rfl, Nat.le_of_ble_eq_true rfl⟩) hK hP hD hS hA 0 5 rfl rfl [0, 1] rfl rfl rfl hl.1 rfl (Nat.le_of_ble_eq_true rfl) dX5_bandwidth_30 ⟨Nat.le_of_ble_eq_true rfl, Nat.le_of_ble_eq_true rfl⟩ (fun r_2 H locs hv hP hS => ?_)
      refine lv_if_eq (tgt := 54) hx hb dX5_bandwidth_33 (by decide) (fun hc => ?_) (fun hc => ?_)
      · replace hv := hv.1 hc
        obtain ⟨x3_3, ex3_3⟩ : ∃ y : Int32, y = x3 + 1 := ⟨_, rfl⟩
        replace hv := hv x3_3 ex3_3
        refine lv_iinc (v := x3_3) (lv' := [(3, .int x3_3), (2, .int x2), (1, .int x1), (0, .ref a_M)]) hx hb dX5_bandwidth_54 hl (k := 0) rfl (by rw [ex3_3]; rfl) (by decide) rfl (fun ls hl => ?_)
        refine lv_goto (tgt := 19) hx hb dX5_bandwidth_57 (by decide) ?_
        exact hv _ _ _ hP hD hS (lv_sub hl [0, 1, 2, 3] rfl)
      · replace hv := hv.2 hc
        refine lv_iload_n hx hb dX5_bandwidth_36 rfl (lv_at hl 2 rfl) ?_
        refine lv_aload_n hx hb dX5_bandwidth_37 rfl (lv_at hl 3 rfl) ?_
        refine va_get (D := g.1) (ci := 5) (v := .ref a_M_places) (C := RX5) (T := TX5) (N := 16) hx hb hts cw_in_X5 hown hK.1 hP 0 rfl rfl 4 (by decide) (hts _ cw_f_X5_20) (fun _ h9 => h9) rfl dX5_bandwidth_38 ?_
        refine lv_iload_n hx hb dX5_bandwidth_41 rfl (lv_at hl 1 rfl) ?_
        obtain ⟨h_4, hv⟩ := hv
        refine va_iald (D := g.1) hx hb hK.1 hP 2 0 rfl rfl h_4 dX5_bandwidth_42 ?_
        refine lv_aload_n hx hb dX5_bandwidth_43 rfl (lv_at hl 3 rfl) ?_
        refine va_get (D := g.1) (ci := 5) (v := .ref a_M_places) (C := RX5) (T := TX5) (N := 16) hx hb hts cw_in_X5 hown hK.1 hP 0 rfl rfl 4 (by decide) (hts _ cw_f_X5_20) (fun _ h9 => h9) rfl dX5_bandwidth_44 ?_
        refine lv_iload_n hx hb dX5_bandwidth_47 rfl (lv_at hl 0 rfl) ?_
        obtain ⟨h_5, hv⟩ := hv
        refine va_iald (D := g.1) hx hb hK.1 hP 2 0 rfl rfl h_5 dX5_bandwidth_48 ?_
        refine lv_isub hx hb dX5_bandwidth_49 ?_
        refine va_mmax hx hb (hml.trans hl.1.symm) hown (hts _ cw_m_X5_125) (hts _ cw_t_Math_max) (hts _ cw_n_Math) (hts _ cw_c_Math_max) (Nat.le_of_ble_eq_true rfl) (Nat.le_of_ble_eq_true rfl) (Nat.le_of_ble_eq_true rfl) (Nat.le_of_ble_eq_true rfl) dX5_bandwidth_50 ?_
        refine lv_topi (fun x1_6 ex1_6 => ?_)
        replace hv := hv x1_6 ex1_6
        refine lv_istore_n (lv' := [(1, .int x1_6), (3, .int x3), (2, .int x2), (0, .ref a_M)]) hx hb dX5_bandwidth_53 rfl hl (by decide) rfl (fun ls hl => ?_)
        obtain ⟨x3_7, ex3_7⟩ : ∃ y : Int32, y = x3 + 1 := ⟨_, rfl⟩
        replace hv := hv x3_7 ex3_7
        refine lv_iinc (v := x3_7) (lv' := [(3, .int x3_7), (1, .int x1_6), (2, .int x2), (0, .ref a_M)]) hx hb dX5_bandwidth_54 hl (k := 1) rfl (by rw [ex3_7]; rfl) (by decide) rfl (fun ls hl => ?_)
        refine lv_goto (tgt := 19) hx hb dX5_bandwidth_57 (by decide) ?_
        exact hv _ _ _ hP hD hS (lv_sub hl [0, 2, 1, 3] rfl)
  replace hv := hv G1 G2 hs1 hs2
  rw [hG1, hG2] at hv
  unfold vc_X5_bandwidth_0 at hv
  refine lv_aload_n hx hb dX5_bandwidth_0 rfl (lv_at hl 0 rfl) ?_
  refine lv_iconst (v := 0) hx hb dX5_bandwidth_1 (by decide) ?_
  refine va_put (D := g.1) (ci := 5) (v := .int 0) (ty := .int) (C := RX5) (T := TX5) (N := 16) hx hb hts cw_in_X5 tyX5 tyX5_ok nmX5 hown hK.1 hP hD hS 0 rfl rfl 0 (by decide) (hts _ cw_f_X5_51) (fun _ h9 => h9) rfl (by decide +kernel) rfl rfl (Nat.le_of_ble_eq_true rfl) dX5_bandwidth_2 (fun H locs hP hD hS => ?_)
  have hP : va_P g.1 vwCl [(a_M, .inr (5, [.int 0, .int M_n, .ref a_M_a, .ref a_M_rowAt, .ref a_M_places, .ref a_M_rights, .ref a_M_weights, .int M_hasFactors, .ref a_M_pivots, .ref a_M_lower, .int M_hasSolution, .ref a_M_solution, .ref a_M_work, .ref a_M_isJoined, .int M_levels, .ref a_M_stored])), (a_M_a, .inl (g.2.1, 256, .inl M_a)), (a_M_places, .inl (g.2.1, 16, .inl M_places))] H := hP
  have hD : va_D A [(a_M, .inr (5, [.int 0, .int M_n, .ref a_M_a, .ref a_M_rowAt, .ref a_M_places, .ref a_M_rights, .ref a_M_weights, .int M_hasFactors, .ref a_M_pivots, .ref a_M_lower, .int M_hasSolution, .ref a_M_solution, .ref a_M_work, .ref a_M_isJoined, .int M_levels, .ref a_M_stored])), (a_M_a, .inl (g.2.1, 256, .inl M_a)), (a_M_places, .inl (g.2.1, 16, .inl M_places))] := hD
  refine lv_iconst (v := 0) hx hb dX5_bandwidth_5 (by decide) ?_
  refine lv_istore_n (lv' := [(1, .int 0), (0, .ref a_M)]) hx hb dX5_bandwidth_6 rfl hl (by decide) rfl (fun ls hl => ?_)
  refine lv_iconst (v := 0) hx hb dX5_bandwidth_7 (by decide) ?_
  refine lv_istore_n (lv' := [(2, .int 0), (1, .int 0), (0, .ref a_M)]) hx hb dX5_bandwidth_8 rfl hl (by decide) rfl (fun ls hl => ?_)
  exact hv _ _ _ hP hD hS (lv_sub hl [0, 1, 2] rfl)
def vc_X5_profile_0 (M_thrown : Int32) (M_n : Int32) (M_hasFactors : Int32) (M_hasSolution : Int32) (M_levels : Int32) (M_places : (Nat → Int32)) (M_a : (Nat → Int32)) (Q : Int32 → Int32 → Prop) (G1 : Int32 → Int32 → Int32 → Prop) (G2 : Int32 → Int32 → Int32 → Int32 → Int32 → Prop)  : Prop := G1 0 0 0
def vc_X5_profile_1 (M_thrown : Int32) (M_n : Int32) (M_hasFactors : Int32) (M_hasSolution : Int32) (M_levels : Int32) (M_places : (Nat → Int32)) (M_a : (Nat → Int32)) (Q : Int32 → Int32 → Prop) (G1 : Int32 → Int32 → Int32 → Prop) (G2 : Int32 → Int32 → Int32 → Int32 → Int32 → Prop) (x2 : Int32) (x1 : Int32) (v_M_thrown : Int32) : Prop := (M_n ≤ x2 → (Q x1 v_M_thrown)) ∧ (¬ M_n ≤ x2 → (vp_in x2 16 ∧ (∀ x3_2 : Int32, x3_2 = (M_places (Int32.toNatClampNeg x2)) → (G2 0 x3_2 x2 x1 v_M_thrown))))
def vc_X5_profile_2 (M_thrown : Int32) (M_n : Int32) (M_hasFactors : Int32) (M_hasSolution : Int32) (M_levels : Int32) (M_places : (Nat → Int32)) (M_a : (Nat → Int32)) (Q : Int32 → Int32 → Prop) (G1 : Int32 → Int32 → Int32 → Prop) (G2 : Int32 → Int32 → Int32 → Int32 → Int32 → Prop) (x4 : Int32) (x3 : Int32) (x2 : Int32) (x1 : Int32) (v_M_thrown : Int32) : Prop := (M_n ≤ x4 → (vp_in x2 16 ∧ (∀ x1_2 : Int32, x1_2 = (x1 + ((M_places (Int32.toNatClampNeg x2)) - x3)) → (∀ x2_3 : Int32, x2_3 = x2 + 1 → (G1 x2_3 x1_2 v_M_thrown))))) ∧ (¬ M_n ≤ x4 → (wp_X5_isLinked x2 x4 v_M_thrown M_n M_hasFactors M_hasSolution M_levels M_a (fun r_4 => (r_4 = 0 → (∀ x4_5 : Int32, x4_5 = x4 + 1 → (G2 x4_5 x3 x2 x1 v_M_thrown))) ∧ (¬ r_4 = 0 → (vp_in x4 16 ∧ (∀ x3_7 : Int32, x3_7 = (if (M_places (Int32.toNatClampNeg x4)) < x3 then (M_places (Int32.toNatClampNeg x4)) else x3) → (∀ x4_8 : Int32, x4_8 = x4 + 1 → (G2 x4_8 x3_7 x2 x1 v_M_thrown))))))))
def wp_X5_profile (M_thrown : Int32) (M_n : Int32) (M_hasFactors : Int32) (M_hasSolution : Int32) (M_levels : Int32) (M_places : (Nat → Int32)) (M_a : (Nat → Int32)) (Q : Int32 → Int32 → Prop) : Prop := ∀ (G1 : Int32 → Int32 → Int32 → Prop) (G2 : Int32 → Int32 → Int32 → Int32 → Int32 → Prop), (∀ (x2 : Int32) (x1 : Int32) (v_M_thrown : Int32), vc_X5_profile_1 M_thrown M_n M_hasFactors M_hasSolution M_levels M_places M_a Q G1 G2 x2 x1 v_M_thrown → G1 x2 x1 v_M_thrown) → (∀ (x4 : Int32) (x3 : Int32) (x2 : Int32) (x1 : Int32) (v_M_thrown : Int32), vc_X5_profile_2 M_thrown M_n M_hasFactors M_hasSolution M_levels M_places M_a Q G1 G2 x4 x3 x2 x1 v_M_thrown → G2 x4 x3 x2 x1 v_M_thrown) → vc_X5_profile_0 M_thrown M_n M_hasFactors M_hasSolution M_levels M_places M_a Q G1 G2
abbrev w0_X5_profile (g : cx_G) (a_M a_M_a a_M_rowAt a_M_places a_M_rights a_M_weights a_M_pivots a_M_lower a_M_solution a_M_work a_M_isJoined a_M_stored : Nat) (M_thrown : Int32) (M_n : Int32) (M_hasFactors : Int32) (M_hasSolution : Int32) (M_levels : Int32) (M_places : (Nat → Int32)) (M_a : (Nat → Int32)) : va_W := [(a_M, .inr (5, [.int M_thrown, .int M_n, .ref a_M_a, .ref a_M_rowAt, .ref a_M_places, .ref a_M_rights, .ref a_M_weights, .int M_hasFactors, .ref a_M_pivots, .ref a_M_lower, .int M_hasSolution, .ref a_M_solution, .ref a_M_work, .ref a_M_isJoined, .int M_levels, .ref a_M_stored])), (a_M_places, .inl (g.2.1, 16, .inl M_places)), (a_M_a, .inl (g.2.1, 256, .inl M_a))]
abbrev w1_X5_profile (g : cx_G) (a_M a_M_a a_M_rowAt a_M_places a_M_rights a_M_weights a_M_pivots a_M_lower a_M_solution a_M_work a_M_isJoined a_M_stored : Nat) (M_thrown : Int32) (M_n : Int32) (M_hasFactors : Int32) (M_hasSolution : Int32) (M_levels : Int32) (M_places : (Nat → Int32)) (M_a : (Nat → Int32)) (u : Int32) : va_W := [(a_M, .inr (5, [.int u, .int M_n, .ref a_M_a, .ref a_M_rowAt, .ref a_M_places, .ref a_M_rights, .ref a_M_weights, .int M_hasFactors, .ref a_M_pivots, .ref a_M_lower, .int M_hasSolution, .ref a_M_solution, .ref a_M_work, .ref a_M_isJoined, .int M_levels, .ref a_M_stored])), (a_M_places, .inl (g.2.1, 16, .inl M_places)), (a_M_a, .inl (g.2.1, 256, .inl M_a))]
set_option maxHeartbeats 4000000 in
set_option maxRecDepth 100000 in
theorem c_X5_profile (l : Launch) (g : cx_G) (a_M a_M_a a_M_rowAt a_M_places a_M_rights a_M_weights a_M_pivots a_M_lower a_M_solution a_M_work a_M_isJoined a_M_stored : Nat) (M_thrown : Int32) (M_n : Int32) (M_hasFactors : Int32) (M_hasSolution : Int32) (M_levels : Int32) (M_places : (Nat → Int32)) (M_a : (Nat → Int32)) {Q : Int32 → Int32 → Prop} (hv : wp_X5_profile M_thrown M_n M_hasFactors M_hasSolution M_levels M_places M_a Q) : cx_Mi l g yX5_profile (Cond.code yX5_profile cX5_profile 5 (some .int) :: cx_T) ({ frames := 2, cells := 0, slots := 0, locals := 43 } : Room) [.ref a_M] (w0_X5_profile g a_M a_M_a a_M_rowAt a_M_places a_M_rights a_M_weights a_M_pivots a_M_lower a_M_solution a_M_work a_M_isJoined a_M_stored M_thrown M_n M_hasFactors M_hasSolution M_levels M_places M_a) (fun (r : Int32) (u : Int32) => Q r u) (w1_X5_profile g a_M a_M_a a_M_rowAt a_M_places a_M_rights a_M_weights a_M_pivots a_M_lower a_M_solution a_M_work a_M_isJoined a_M_stored M_thrown M_n M_hasFactors M_hasSolution M_levels M_places M_a) 0 0 := by
  intro sz
  refine Met.ofW (cc := cX5_profile) (maxL := 5) (ret := (some .int)) (by decide) rfl ?_
  intro p e s m args below meth c s₁ B hml hpre
  obtain ⟨rfl, hsz, hP, hK, hD0⟩ := hpre
  have hx := B.exec
  have hb := B.bytes
  have hr := B.returns
  have hts0 := atoms_spec (ws := (Cond.code yX5_profile cX5_profile 5 (some .int) :: cx_T)) B.pre
  have hts : ∀ w ∈ cx_T, w.before _ s = true := fun w h => hts0 w (List.mem_cons_of_mem _ h)
  have hown : s.vm.findClass RX5 = some m.cls := findClass_of_methodNamed B.named
  have hlocks := B.notSynchronized
  subst hsz
  have hD := hD0.self (sz := s.heap.size)
  obtain ⟨A, hAe⟩ : ∃ A : Nat → Prop, A = va_A (w0_X5_profile g a_M a_M_a a_M_rowAt a_M_places a_M_rights a_M_weights a_M_pivots a_M_lower a_M_solution a_M_work a_M_isJoined a_M_stored M_thrown M_n M_hasFactors M_hasSolution M_levels M_places M_a) s.heap.size := ⟨_, rfl⟩
  rw [← hAe] at hD
  have hA : ∀ q : Nat, s.heap.size ≤ q → A q := fun q h => by rw [hAe]; exact Or.inr h
  have hS : va_S A s.heap s.heap [] := va_S.rf
  have hP : va_P g.1 vwCl [(a_M, .inr (5, [.int M_thrown, .int M_n, .ref a_M_a, .ref a_M_rowAt, .ref a_M_places, .ref a_M_rights, .ref a_M_weights, .int M_hasFactors, .ref a_M_pivots, .ref a_M_lower, .int M_hasSolution, .ref a_M_solution, .ref a_M_work, .ref a_M_isJoined, .int M_levels, .ref a_M_stored])), (a_M_places, .inl (g.2.1, 16, .inl M_places)), (a_M_a, .inl (g.2.1, 256, .inl M_a))] s.heap := hP
  have hD : va_D A [(a_M, .inr (5, [.int M_thrown, .int M_n, .ref a_M_a, .ref a_M_rowAt, .ref a_M_places, .ref a_M_rights, .ref a_M_weights, .int M_hasFactors, .ref a_M_pivots, .ref a_M_lower, .int M_hasSolution, .ref a_M_solution, .ref a_M_work, .ref a_M_isJoined, .int M_levels, .ref a_M_stored])), (a_M_places, .inl (g.2.1, 16, .inl M_places)), (a_M_a, .inl (g.2.1, 256, .inl M_a))] := hD
  have hl := lv_entry ([.ref a_M]) (n := 5) (Nat.le_of_ble_eq_true rfl)
  rw [lg_entry_eq]
  generalize (lg_sl ([.ref a_M]) ++ List.replicate (5 - (lg_sl ([.ref a_M])).length) Slot.unset).toArray = ls at hl ⊢
  have hl : lv_has ls 5 [(0, .ref a_M)] := hl
  obtain ⟨G1, hG1⟩ : ∃ G : Int32 → Int32 → Int32 → Prop, G = (fun (x2 : Int32) (x1 : Int32) (v_M_thrown : Int32) => ∀ (H : Heap) (locs : List Loc) (ls : Array Slot), va_P g.1 vwCl [(a_M, .inr (5, [.int v_M_thrown, .int M_n, .ref a_M_a, .ref a_M_rowAt, .ref a_M_places, .ref a_M_rights, .ref a_M_weights, .int M_hasFactors, .ref a_M_pivots, .ref a_M_lower, .int M_hasSolution, .ref a_M_solution, .ref a_M_work, .ref a_M_isJoined, .int M_levels, .ref a_M_stored])), (a_M_places, .inl (g.2.1, 16, .inl M_places)), (a_M_a, .inl (g.2.1, 256, .inl M_a))] H → va_D A [(a_M, .inr (5, [.int v_M_thrown, .int M_n, .ref a_M_a, .ref a_M_rowAt, .ref a_M_places, .ref a_M_rights, .ref a_M_weights, .int M_hasFactors, .ref a_M_pivots, .ref a_M_lower, .int M_hasSolution, .ref a_M_solution, .ref a_M_work, .ref a_M_isJoined, .int M_levels, .ref a_M_stored])), (a_M_places, .inl (g.2.1, 16, .inl M_places)), (a_M_a, .inl (g.2.1, 256, .inl M_a))] → va_S A s.heap H locs → lv_has ls 5 [(2, .int x2), (1, .int x1), (0, .ref a_M)] → W p l e (headSpec (Cond.code yX5_profile cX5_profile 5 (some .int) :: cx_T) ({ frames := 2, cells := 0, slots := 0, locals := 43 } : Room)).room s m ([.ref a_M] : List Value).toArray below meth c H locs 0 0 (MQ below (va_Qi (fun (r : Int32) (u : Int32) => Q r u) (cx_B g (w0_X5_profile g a_M a_M_a a_M_rowAt a_M_places a_M_rights a_M_weights a_M_pivots a_M_lower a_M_solution a_M_work a_M_isJoined a_M_stored M_thrown M_n M_hasFactors M_hasSolution M_levels M_places M_a) s.heap.size (w1_X5_profile g a_M a_M_a a_M_rowAt a_M_places a_M_rights a_M_weights a_M_pivots a_M_lower a_M_solution a_M_work a_M_isJoined a_M_stored M_thrown M_n M_hasFactors M_hasSolution M_levels M_places M_a)) (va_A (w0_X5_profile g a_M a_M_a a_M_rowAt a_M_places a_M_rights a_M_weights a_M_pivots a_M_lower a_M_solution a_M_work a_M_isJoined a_M_stored M_thrown M_n M_hasFactors M_hasSolution M_levels M_places M_a) s.heap.size)) ([.ref a_M] : List Value).toArray s 0 0 (va_A (w0_X5_profile g a_M a_M_a a_M_rowAt a_M_places a_M_rights a_M_weights a_M_pivots a_M_lower a_M_solution a_M_work a_M_isJoined a_M_stored M_thrown M_n M_hasFactors M_hasSolution M_levels M_places M_a) s.heap.size)) (F0 m 9 ls [])) := ⟨_, rfl⟩
  obtain ⟨G2, hG2⟩ : ∃ G : Int32 → Int32 → Int32 → Int32 → Int32 → Prop, G = (fun (x4 : Int32) (x3 : Int32) (x2 : Int32) (x1 : Int32) (v_M_thrown : Int32) => ∀ (H : Heap) (locs : List Loc) (ls : Array Slot), va_P g.1 vwCl [(a_M, .inr (5, [.int v_M_thrown, .int M_n, .ref a_M_a, .ref a_M_rowAt, .ref a_M_places, .ref a_M_rights, .ref a_M_weights, .int M_hasFactors, .ref a_M_pivots, .ref a_M_lower, .int M_hasSolution, .ref a_M_solution, .ref a_M_work, .ref a_M_isJoined, .int M_levels, .ref a_M_stored])), (a_M_places, .inl (g.2.1, 16, .inl M_places)), (a_M_a, .inl (g.2.1, 256, .inl M_a))] H → va_D A [(a_M, .inr (5, [.int v_M_thrown, .int M_n, .ref a_M_a, .ref a_M_rowAt, .ref a_M_places, .ref a_M_rights, .ref a_M_weights, .int M_hasFactors, .ref a_M_pivots, .ref a_M_lower, .int M_hasSolution, .ref a_M_solution, .ref a_M_work, .ref a_M_isJoined, .int M_levels, .ref a_M_stored])), (a_M_places, .inl (g.2.1, 16, .inl M_places)), (a_M_a, .inl (g.2.1, 256, .inl M_a))] → va_S A s.heap H locs → lv_has ls 5 [(4, .int x4), (3, .int x3), (2, .int x2), (1, .int x1), (0, .ref a_M)] → W p l e (headSpec (Cond.code yX5_profile cX5_profile 5 (some .int) :: cx_T) ({ frames := 2, cells := 0, slots := 0, locals := 43 } : Room)).room s m ([.ref a_M] : List Value).toArray below meth c H locs 0 0 (MQ below (va_Qi (fun (r : Int32) (u : Int32) => Q r u) (cx_B g (w0_X5_profile g a_M a_M_a a_M_rowAt a_M_places a_M_rights a_M_weights a_M_pivots a_M_lower a_M_solution a_M_work a_M_isJoined a_M_stored M_thrown M_n M_hasFactors M_hasSolution M_levels M_places M_a) s.heap.size (w1_X5_profile g a_M a_M_a a_M_rowAt a_M_places a_M_rights a_M_weights a_M_pivots a_M_lower a_M_solution a_M_work a_M_isJoined a_M_stored M_thrown M_n M_hasFactors M_hasSolution M_levels M_places M_a)) (va_A (w0_X5_profile g a_M a_M_a a_M_rowAt a_M_places a_M_rights a_M_weights a_M_pivots a_M_lower a_M_solution a_M_work a_M_isJoined a_M_stored M_thrown M_n M_hasFactors M_hasSolution M_levels M_places M_a) s.heap.size)) ([.ref a_M] : List Value).toArray s 0 0 (va_A (w0_X5_profile g a_M a_M_a a_M_rowAt a_M_places a_M_rights a_M_weights a_M_pivots a_M_lower a_M_solution a_M_work a_M_isJoined a_M_stored M_thrown M_n M_hasFactors M_hasSolution M_levels M_places M_a) s.heap.size)) (F0 m 27 ls [])) := ⟨_, rfl⟩
  have hs1 : ∀ (x2 : Int32) (x1 : Int32) (v_M_thrown : Int32), vc_X5_profile_1 M_thrown M_n M_hasFactors M_hasSolution M_levels M_places M_a Q G1 G2 x2 x1 v_M_thrown → G1 x2 x1 v_M_thrown := by
    rw [hG1, hG2]
    intro x2 x1 v_M_thrown hv H locs ls hP hD hS hl
    unfold vc_X5_profile_1 at hv
    refine lv_iload_n hx hb dX5_profile_9 rfl (lv_at hl 0 rfl) ?_
    refine lv_aload_n hx hb dX5_profile_10 rfl (lv_at hl 2 rfl) ?_
    refine va_get (D := g.1) (ci := 5) (v := .int M_n) (C := RX5) (T := TX5) (N := 16) hx hb hts cw_in_X5 hown hK.1 hP 0 rfl rfl 1 (by decide) (hts _ cw_f_X5_9) (fun _ h9 => h9) rfl dX5_profile_11 ?_
    refine lv_icmp_ge (tgt := 81) hx hb dX5_profile_14 (by decide) (fun hc => ?_) (fun hc => ?_)
    · replace hv := hv.1 hc
      refine lv_iload_n hx hb dX5_profile_81 rfl (lv_at hl 1 rfl) ?_
      exact cx_iret hx hb hr hlocks hAe hS v_M_thrown hv hP hD dX5_profile_82
    · replace hv := hv.2 hc
      refine lv_aload_n hx hb dX5_profile_17 rfl (lv_at hl 2 rfl) ?_
      refine va_get (D := g.1) (ci := 5) (v := .ref a_M_places) (C := RX5) (T := TX5) (N := 16) hx hb hts cw_in_X5 hown hK.1 hP 0 rfl rfl 4 (by decide) (hts _ cw_f_X5_20) (fun _ h9 => h9) rfl dX5_profile_18 ?_
      refine lv_iload_n hx hb dX5_profile_21 rfl (lv_at hl 0 rfl) ?_
      obtain ⟨h_1, hv⟩ := hv
      refine va_iald (D := g.1) hx hb hK.1 hP 1 0 rfl rfl h_1 dX5_profile_22 ?_
      refine lv_topi (fun x3_2 ex3_2 => ?_)
      replace hv := hv x3_2 ex3_2
      refine lv_istore_n (lv' := [(3, .int x3_2), (2, .int x2), (1, .int x1), (0, .ref a_M)]) hx hb dX5_profile_23 rfl hl (by decide) rfl (fun ls hl => ?_)
      refine lv_iconst (v := 0) hx hb dX5_profile_24 (by decide) ?_
      refine lv_istore (lv' := [(4, .int 0), (3, .int x3_2), (2, .int x2), (1, .int x1), (0, .ref a_M)]) hx hb dX5_profile_25 hl (by decide) rfl (fun ls hl => ?_)
      exact hv _ _ _ hP hD hS (lv_sub hl [0, 1, 2, 3, 4] rfl)
  have hs2 : ∀ (x4 : Int32) (x3 : Int32) (x2 : Int32) (x1 : Int32) (v_M_thrown : Int32), vc_X5_profile_2 M_thrown M_n M_hasFactors M_hasSolution M_levels M_places M_a Q G1 G2 x4 x3 x2 x1 v_M_thrown → G2 x4 x3 x2 x1 v_M_thrown := by
    rw [hG1, hG2]
    intro x4 x3 x2 x1 v_M_thrown hv H locs ls hP hD hS hl
    unfold vc_X5_profile_2 at hv
    refine lv_iload hx hb dX5_profile_27 (lv_at hl 0 rfl) ?_
    refine lv_aload_n hx hb dX5_profile_29 rfl (lv_at hl 4 rfl) ?_
    refine va_get (D := g.1) (ci := 5) (v := .int M_n) (C := RX5) (T := TX5) (N := 16) hx hb hts cw_in_X5 hown hK.1 hP 0 rfl rfl 1 (by decide) (hts _ cw_f_X5_9) (fun _ h9 => h9) rfl dX5_profile_30 ?_
    refine lv_icmp_ge (tgt := 64) hx hb dX5_profile_33 (by decide) (fun hc => ?_) (fun hc => ?_)
    · replace hv := hv.1 hc
      refine lv_iload_n hx hb dX5_profile_64 rfl (lv_at hl 3 rfl) ?_
      refine lv_aload_n hx hb dX5_profile_65 rfl (lv_at hl 4 rfl) ?_
      refine va_get (D := g.1) (ci := 5) (v := .ref a_M_places) (C := RX5) (T := TX5) (N := 16) hx hb hts cw_in_X5 hown hK.1 hP 0 rfl rfl 4 (by decide) (hts _ cw_f_X5_20) (fun _ h9 => h9) rfl dX5_profile_66 ?_
      refine lv_iload_n hx hb dX5_profile_69 rfl (lv_at hl 2 rfl) ?_
      obtain ⟨h_1, hv⟩ := hv
      refine va_iald (D := g.1) hx hb hK.1 hP 1 0 rfl rfl h_1 dX5_profile_70 ?_
      refine lv_iload_n hx hb dX5_profile_71 rfl (lv_at hl 1 rfl) ?_
      refine lv_isub hx hb dX5_profile_72 ?_
      refine lv_iadd hx hb dX5_profile_73 ?_
      refine lv_topi (fun x1_2 ex1_2 => ?_)
      replace hv := hv x1_2 ex1_2
      refine lv_istore_n (lv' := [(1, .int x1_2), (4, .int x4), (3, .int x3), (2, .int x2), (0, .ref a_M)]) hx hb dX5_profile_74 rfl hl (by decide) rfl (fun ls hl => ?_)
      obtain ⟨x2_3, ex2_3⟩ : ∃ y : Int32, y = x2 + 1 := ⟨_, rfl⟩
      replace hv := hv x2_3 ex2_3
      refine lv_iinc (v := x2_3) (lv' := [(2, .int x2_3), (1, .int x1_2), (4, .int x4), (3, .int x3), (0, .ref a_M)]) hx hb dX5_profile_75 hl (k := 3) rfl (by rw [ex2_3]; rfl) (by decide) rfl (fun ls hl => ?_)
      refine lv_goto (tgt := 9) hx hb dX5_profile_78 (by decide) ?_
      exact hv _ _ _ hP hD hS (lv_sub hl [0, 1, 4] rfl)
    · replace hv := hv.2 hc
      refine lv_aload_n hx hb dX5_profile_36 rfl (lv_at hl 4 rfl) ?_
      refine lv_iload_n hx hb dX5_profile_37 rfl (lv_at hl 2 rfl) ?_
      refine lv_iload hx hb dX5_profile_38 (lv_at hl 0 rfl) ?_
      refine cx_iVr (As := [.int x2, .int x4]) (rest := []) ⟨hx, hb, hml, hown, hts⟩ (c_X5_isLinked l g a_M a_M_a a_M_rowAt a_M_places a_M_rights a_M_weights a_M_pivots a_M_lower a_M_solution a_M_work a_M_isJoined a_M_stored x2 x4 v_M_thrown M_n M_hasFactors M_hasSolution M_levels M_a hv) (cx_cwV 2 hts cw_m_X5_83 cw_i_X5_isLinked cw_s_X5_isLinked cw_n_X5 cw_c_X5_isLinked rfl rfl (by decide +kernel) ⟨Nat.le_of_ble_eq_true rfl, Nat.le_of_ble_eq_true rfl⟩) hK hP hD hS hA 0 5 rfl rfl [0, 2] rfl rfl rfl hl.1 rfl (Nat.le_of_ble_eq_true rfl) dX5_profile_40 ⟨Nat.le_of_ble_eq_true rfl, Nat.le_of_ble_eq_true rfl⟩ (fun r_4 H locs hv hP hS => ?_)
      refine lv_if_eq (tgt := 58) hx hb dX5_profile_43 (by decide) (fun hc => ?_) (fun hc => ?_)
      · replace hv := hv.1 hc
        obtain ⟨x4_5, ex4_5⟩ : ∃ y : Int32, y = x4 + 1 := ⟨_, rfl⟩
        replace hv := hv x4_5 ex4_5
        refine lv_iinc (v := x4_5) (lv' := [(4, .int x4_5), (3, .int x3), (2, .int x2), (1, .int x1), (0, .ref a_M)]) hx hb dX5_profile_58 hl (k := 0) rfl (by rw [ex4_5]; rfl) (by decide) rfl (fun ls hl => ?_)
        refine lv_goto (tgt := 27) hx hb dX5_profile_61 (by decide) ?_
        exact hv _ _ _ hP hD hS (lv_sub hl [0, 1, 2, 3, 4] rfl)
      · replace hv := hv.2 hc
        refine lv_iload_n hx hb dX5_profile_46 rfl (lv_at hl 1 rfl) ?_
        refine lv_aload_n hx hb dX5_profile_47 rfl (lv_at hl 4 rfl) ?_
        refine va_get (D := g.1) (ci := 5) (v := .ref a_M_places) (C := RX5) (T := TX5) (N := 16) hx hb hts cw_in_X5 hown hK.1 hP 0 rfl rfl 4 (by decide) (hts _ cw_f_X5_20) (fun _ h9 => h9) rfl dX5_profile_48 ?_
        refine lv_iload hx hb dX5_profile_51 (lv_at hl 0 rfl) ?_
        obtain ⟨h_6, hv⟩ := hv
        refine va_iald (D := g.1) hx hb hK.1 hP 1 0 rfl rfl h_6 dX5_profile_53 ?_
        refine va_mmin hx hb (hml.trans hl.1.symm) hown (hts _ cw_m_X5_130) (hts _ cw_t_Math_min) (hts _ cw_n_Math) (hts _ cw_c_Math_min) (Nat.le_of_ble_eq_true rfl) (Nat.le_of_ble_eq_true rfl) (Nat.le_of_ble_eq_true rfl) (Nat.le_of_ble_eq_true rfl) dX5_profile_54 ?_
        refine lv_topi (fun x3_7 ex3_7 => ?_)
        replace hv := hv x3_7 ex3_7
        refine lv_istore_n (lv' := [(3, .int x3_7), (4, .int x4), (2, .int x2), (1, .int x1), (0, .ref a_M)]) hx hb dX5_profile_57 rfl hl (by decide) rfl (fun ls hl => ?_)
        obtain ⟨x4_8, ex4_8⟩ : ∃ y : Int32, y = x4 + 1 := ⟨_, rfl⟩
        replace hv := hv x4_8 ex4_8
        refine lv_iinc (v := x4_8) (lv' := [(4, .int x4_8), (3, .int x3_7), (2, .int x2), (1, .int x1), (0, .ref a_M)]) hx hb dX5_profile_58 hl (k := 1) rfl (by rw [ex4_8]; rfl) (by decide) rfl (fun ls hl => ?_)
        refine lv_goto (tgt := 27) hx hb dX5_profile_61 (by decide) ?_
        exact hv _ _ _ hP hD hS (lv_sub hl [0, 1, 2, 3, 4] rfl)
  replace hv := hv G1 G2 hs1 hs2
  rw [hG1, hG2] at hv
  unfold vc_X5_profile_0 at hv
  refine lv_aload_n hx hb dX5_profile_0 rfl (lv_at hl 0 rfl) ?_
  refine lv_iconst (v := 0) hx hb dX5_profile_1 (by decide) ?_
  refine va_put (D := g.1) (ci := 5) (v := .int 0) (ty := .int) (C := RX5) (T := TX5) (N := 16) hx hb hts cw_in_X5 tyX5 tyX5_ok nmX5 hown hK.1 hP hD hS 0 rfl rfl 0 (by decide) (hts _ cw_f_X5_51) (fun _ h9 => h9) rfl (by decide +kernel) rfl rfl (Nat.le_of_ble_eq_true rfl) dX5_profile_2 (fun H locs hP hD hS => ?_)
  have hP : va_P g.1 vwCl [(a_M, .inr (5, [.int 0, .int M_n, .ref a_M_a, .ref a_M_rowAt, .ref a_M_places, .ref a_M_rights, .ref a_M_weights, .int M_hasFactors, .ref a_M_pivots, .ref a_M_lower, .int M_hasSolution, .ref a_M_solution, .ref a_M_work, .ref a_M_isJoined, .int M_levels, .ref a_M_stored])), (a_M_places, .inl (g.2.1, 16, .inl M_places)), (a_M_a, .inl (g.2.1, 256, .inl M_a))] H := hP
  have hD : va_D A [(a_M, .inr (5, [.int 0, .int M_n, .ref a_M_a, .ref a_M_rowAt, .ref a_M_places, .ref a_M_rights, .ref a_M_weights, .int M_hasFactors, .ref a_M_pivots, .ref a_M_lower, .int M_hasSolution, .ref a_M_solution, .ref a_M_work, .ref a_M_isJoined, .int M_levels, .ref a_M_stored])), (a_M_places, .inl (g.2.1, 16, .inl M_places)), (a_M_a, .inl (g.2.1, 256, .inl M_a))] := hD
  refine lv_iconst (v := 0) hx hb dX5_profile_5 (by decide) ?_
  refine lv_istore_n (lv' := [(1, .int 0), (0, .ref a_M)]) hx hb dX5_profile_6 rfl hl (by decide) rfl (fun ls hl => ?_)
  refine lv_iconst (v := 0) hx hb dX5_profile_7 (by decide) ?_
  refine lv_istore_n (lv' := [(2, .int 0), (1, .int 0), (0, .ref a_M)]) hx hb dX5_profile_8 rfl hl (by decide) rfl (fun ls hl => ?_)
  exact hv _ _ _ hP hD hS (lv_sub hl [0, 1, 2] rfl)
def wp_X5_isJoined (i_i : Int32) (i_j : Int32) (M_thrown : Int32) (M_n : Int32) (M_hasFactors : Int32) (M_hasSolution : Int32) (M_levels : Int32) (M_a : (Nat → Int32)) (M_isJoined : (Nat → Int32)) (M_rowAt : (Nat → Int32)) (Q : Int32 → Int32 → (Nat → Int32) → Prop)   : Prop := wp_X5_isRow i_i 0 M_n M_hasFactors M_hasSolution M_levels (fun r_1 => (r_1 = 0 → (wp_X5_no 1 0 M_n M_hasFactors M_hasSolution M_levels (fun r_2 u_3 => (r_2 ≤ 0 → (Q 0 u_3 M_isJoined)) ∧ (¬ r_2 ≤ 0 → (Q 1 u_3 M_isJoined))))) ∧ (¬ r_1 = 0 → (wp_X5_isRow i_j 0 M_n M_hasFactors M_hasSolution M_levels (fun r_5 => (r_5 = 0 → (wp_X5_no 1 0 M_n M_hasFactors M_hasSolution M_levels (fun r_11 u_12 => (r_11 ≤ 0 → (Q 0 u_12 M_isJoined)) ∧ (¬ r_11 ≤ 0 → (Q 1 u_12 M_isJoined))))) ∧ (¬ r_5 = 0 → (wp_X5_fill 0 M_n M_hasFactors M_hasSolution M_levels M_a M_isJoined M_rowAt (fun u_7 => vp_in (f_at i_i i_j) 256 ∧ (narrow .boolean (.int (u_7 (Int32.toNatClampNeg (f_at i_i i_j)))) = .int (u_7 (Int32.toNatClampNeg (f_at i_i i_j))) ∧ Q (u_7 (Int32.toNatClampNeg (f_at i_i i_j))) 0 u_7))))))))
abbrev w0_X5_isJoined (g : cx_G) (a_M a_M_a a_M_rowAt a_M_places a_M_rights a_M_weights a_M_pivots a_M_lower a_M_solution a_M_work a_M_isJoined a_M_stored : Nat) (M_thrown : Int32) (M_n : Int32) (M_hasFactors : Int32) (M_hasSolution : Int32) (M_levels : Int32) (M_a : (Nat → Int32)) (M_isJoined : (Nat → Int32)) (M_rowAt : (Nat → Int32)) : va_W := [(a_M, .inr (5, [.int M_thrown, .int M_n, .ref a_M_a, .ref a_M_rowAt, .ref a_M_places, .ref a_M_rights, .ref a_M_weights, .int M_hasFactors, .ref a_M_pivots, .ref a_M_lower, .int M_hasSolution, .ref a_M_solution, .ref a_M_work, .ref a_M_isJoined, .int M_levels, .ref a_M_stored])), (a_M_a, .inl (g.2.1, 256, .inl M_a)), (a_M_isJoined, .inl (g.2.2.1, 256, .inl M_isJoined)), (a_M_rowAt, .inl (g.2.1, 16, .inl M_rowAt))]
abbrev w1_X5_isJoined (g : cx_G) (a_M a_M_a a_M_rowAt a_M_places a_M_rights a_M_weights a_M_pivots a_M_lower a_M_solution a_M_work a_M_isJoined a_M_stored : Nat) (M_thrown : Int32) (M_n : Int32) (M_hasFactors : Int32) (M_hasSolution : Int32) (M_levels : Int32) (M_a : (Nat → Int32)) (M_isJoined : (Nat → Int32)) (M_rowAt : (Nat → Int32)) (u : Int32 × (Nat → Int32)) : va_W := [(a_M, .inr (5, [.int u.1, .int M_n, .ref a_M_a, .ref a_M_rowAt, .ref a_M_places, .ref a_M_rights, .ref a_M_weights, .int M_hasFactors, .ref a_M_pivots, .ref a_M_lower, .int M_hasSolution, .ref a_M_solution, .ref a_M_work, .ref a_M_isJoined, .int M_levels, .ref a_M_stored])), (a_M_a, .inl (g.2.1, 256, .inl M_a)), (a_M_isJoined, .inl (g.2.2.1, 256, .inl u.2)), (a_M_rowAt, .inl (g.2.1, 16, .inl M_rowAt))]
set_option maxHeartbeats 4000000 in
set_option maxRecDepth 100000 in
theorem c_X5_isJoined (l : Launch) (g : cx_G) (a_M a_M_a a_M_rowAt a_M_places a_M_rights a_M_weights a_M_pivots a_M_lower a_M_solution a_M_work a_M_isJoined a_M_stored : Nat) (i_i : Int32) (i_j : Int32) (M_thrown : Int32) (M_n : Int32) (M_hasFactors : Int32) (M_hasSolution : Int32) (M_levels : Int32) (M_a : (Nat → Int32)) (M_isJoined : (Nat → Int32)) (M_rowAt : (Nat → Int32)) {Q : Int32 → Int32 → (Nat → Int32) → Prop} (hv : wp_X5_isJoined i_i i_j M_thrown M_n M_hasFactors M_hasSolution M_levels M_a M_isJoined M_rowAt Q) : cx_Mi l g yX5_isJoined (Cond.code yX5_isJoined cX5_isJoined 3 (some .boolean) :: cx_T) ({ frames := 4, cells := 0, slots := 0, locals := 86 } : Room) [.ref a_M, .int i_i, .int i_j] (w0_X5_isJoined g a_M a_M_a a_M_rowAt a_M_places a_M_rights a_M_weights a_M_pivots a_M_lower a_M_solution a_M_work a_M_isJoined a_M_stored M_thrown M_n M_hasFactors M_hasSolution M_levels M_a M_isJoined M_rowAt) (fun (r : Int32) (u : Int32 × (Nat → Int32)) => Q r u.1 u.2) (w1_X5_isJoined g a_M a_M_a a_M_rowAt a_M_places a_M_rights a_M_weights a_M_pivots a_M_lower a_M_solution a_M_work a_M_isJoined a_M_stored M_thrown M_n M_hasFactors M_hasSolution M_levels M_a M_isJoined M_rowAt) 0 0 := by
  intro sz
  refine Met.ofW (cc := cX5_isJoined) (maxL := 3) (ret := (some .boolean)) (by decide) rfl ?_
  intro p e s m args below meth c s₁ B hml hpre
  obtain ⟨rfl, hsz, hP, hK, hD0⟩ := hpre
  have hx := B.exec
  have hb := B.bytes
  have hr := B.returns
  have hts0 := atoms_spec (ws := (Cond.code yX5_isJoined cX5_isJoined 3 (some .boolean) :: cx_T)) B.pre
  have hts : ∀ w ∈ cx_T, w.before _ s = true := fun w h => hts0 w (List.mem_cons_of_mem _ h)
  have hown : s.vm.findClass RX5 = some m.cls := findClass_of_methodNamed B.named
  have hlocks := B.notSynchronized
  subst hsz
  have hD := hD0.self (sz := s.heap.size)
  obtain ⟨A, hAe⟩ : ∃ A : Nat → Prop, A = va_A (w0_X5_isJoined g a_M a_M_a a_M_rowAt a_M_places a_M_rights a_M_weights a_M_pivots a_M_lower a_M_solution a_M_work a_M_isJoined a_M_stored M_thrown M_n M_hasFactors M_hasSolution M_levels M_a M_isJoined M_rowAt) s.heap.size := ⟨_, rfl⟩
  rw [← hAe] at hD
  have hA : ∀ q : Nat, s.heap.size ≤ q → A q := fun q h => by rw [hAe]; exact Or.inr h
  have hS : va_S A s.heap s.heap [] := va_S.rf
  have hP : va_P g.1 vwCl [(a_M, .inr (5, [.int M_thrown, .int M_n, .ref a_M_a, .ref a_M_rowAt, .ref a_M_places, .ref a_M_rights, .ref a_M_weights, .int M_hasFactors, .ref a_M_pivots, .ref a_M_lower, .int M_hasSolution, .ref a_M_solution, .ref a_M_work, .ref a_M_isJoined, .int M_levels, .ref a_M_stored])), (a_M_a, .inl (g.2.1, 256, .inl M_a)), (a_M_isJoined, .inl (g.2.2.1, 256, .inl M_isJoined)), (a_M_rowAt, .inl (g.2.1, 16, .inl M_rowAt))] s.heap := hP
  have hD : va_D A [(a_M, .inr (5, [.int M_thrown, .int M_n, .ref a_M_a, .ref a_M_rowAt, .ref a_M_places, .ref a_M_rights, .ref a_M_weights, .int M_hasFactors, .ref a_M_pivots, .ref a_M_lower, .int M_hasSolution, .ref a_M_solution, .ref a_M_work, .ref a_M_isJoined, .int M_levels, .ref a_M_stored])), (a_M_a, .inl (g.2.1, 256, .inl M_a)), (a_M_isJoined, .inl (g.2.2.1, 256, .inl M_isJoined)), (a_M_rowAt, .inl (g.2.1, 16, .inl M_rowAt))] := hD
  have hl := lv_entry ([.ref a_M, .int i_i, .int i_j]) (n := 3) (Nat.le_of_ble_eq_true rfl)
  rw [lg_entry_eq]
  generalize (lg_sl ([.ref a_M, .int i_i, .int i_j]) ++ List.replicate (3 - (lg_sl ([.ref a_M, .int i_i, .int i_j])).length) Slot.unset).toArray = ls at hl ⊢
  have hl : lv_has ls 3 [(0, .ref a_M), (1, .int i_i), (2, .int i_j)] := hl
  unfold wp_X5_isJoined at hv
  refine lv_aload_n hx hb dX5_isJoined_0 rfl (lv_at hl 0 rfl) ?_
  refine lv_iconst (v := 0) hx hb dX5_isJoined_1 (by decide) ?_
  refine va_put (D := g.1) (ci := 5) (v := .int 0) (ty := .int) (C := RX5) (T := TX5) (N := 16) hx hb hts cw_in_X5 tyX5 tyX5_ok nmX5 hown hK.1 hP hD hS 0 rfl rfl 0 (by decide) (hts _ cw_f_X5_51) (fun _ h9 => h9) rfl (by decide +kernel) rfl rfl (Nat.le_of_ble_eq_true rfl) dX5_isJoined_2 (fun H locs hP hD hS => ?_)
  have hP : va_P g.1 vwCl [(a_M, .inr (5, [.int 0, .int M_n, .ref a_M_a, .ref a_M_rowAt, .ref a_M_places, .ref a_M_rights, .ref a_M_weights, .int M_hasFactors, .ref a_M_pivots, .ref a_M_lower, .int M_hasSolution, .ref a_M_solution, .ref a_M_work, .ref a_M_isJoined, .int M_levels, .ref a_M_stored])), (a_M_a, .inl (g.2.1, 256, .inl M_a)), (a_M_isJoined, .inl (g.2.2.1, 256, .inl M_isJoined)), (a_M_rowAt, .inl (g.2.1, 16, .inl M_rowAt))] H := hP
  have hD : va_D A [(a_M, .inr (5, [.int 0, .int M_n, .ref a_M_a, .ref a_M_rowAt, .ref a_M_places, .ref a_M_rights, .ref a_M_weights, .int M_hasFactors, .ref a_M_pivots, .ref a_M_lower, .int M_hasSolution, .ref a_M_solution, .ref a_M_work, .ref a_M_isJoined, .int M_levels, .ref a_M_stored])), (a_M_a, .inl (g.2.1, 256, .inl M_a)), (a_M_isJoined, .inl (g.2.2.1, 256, .inl M_isJoined)), (a_M_rowAt, .inl (g.2.1, 16, .inl M_rowAt))] := hD
  refine lv_aload_n hx hb dX5_isJoined_5 rfl (lv_at hl 0 rfl) ?_
  refine lv_iload_n hx hb dX5_isJoined_6 rfl (lv_at hl 1 rfl) ?_
  refine cx_iVr (As := [.int i_i]) (rest := []) ⟨hx, hb, hml, hown, hts⟩ (c_X5_isRow l g a_M a_M_a a_M_rowAt a_M_places a_M_rights a_M_weights a_M_pivots a_M_lower a_M_solution a_M_work a_M_isJoined a_M_stored i_i 0 M_n M_hasFactors M_hasSolution M_levels hv) (cx_cwV 1 hts cw_m_X5_76 cw_i_X5_isRow cw_s_X5_isRow cw_n_X5 cw_c_X5_isRow rfl rfl (by decide +kernel) ⟨Nat.le_of_ble_eq_true rfl, Nat.le_of_ble_eq_true rfl⟩) hK hP hD hS hA 0 5 rfl rfl [0] rfl rfl rfl hl.1 rfl (Nat.le_of_ble_eq_true rfl) dX5_isJoined_7 ⟨Nat.le_of_ble_eq_true rfl, Nat.le_of_ble_eq_true rfl⟩ (fun r_1 H locs hv hP hS => ?_)
  refine lv_if_eq (tgt := 21) hx hb dX5_isJoined_10 (by decide) (fun hc => ?_) (fun hc => ?_)
  · replace hv := hv.1 hc
    refine lv_aload_n hx hb dX5_isJoined_21 rfl (lv_at hl 0 rfl) ?_
    refine lv_iconst (v := 1) hx hb dX5_isJoined_22 (by decide) ?_
    refine cx_iV (wr := [(a_M_a, .inl (g.2.1, 256, .inl M_a)), (a_M_isJoined, .inl (g.2.2.1, 256, .inl M_isJoined)), (a_M_rowAt, .inl (g.2.1, 16, .inl M_rowAt))]) (As := [.int 1]) (rest := []) ⟨hx, hb, hml, hown, hts⟩ (c_X5_no l g a_M a_M_a a_M_rowAt a_M_places a_M_rights a_M_weights a_M_pivots a_M_lower a_M_solution a_M_work a_M_isJoined a_M_stored 1 0 M_n M_hasFactors M_hasSolution M_levels hv) (cx_cwV 1 hts cw_m_X5_72 cw_i_X5_no cw_s_X5_no cw_n_X5 cw_c_X5_no rfl rfl (by decide +kernel) ⟨Nat.le_of_ble_eq_true rfl, Nat.le_of_ble_eq_true rfl⟩) hK hP hD hS hA 0 5 rfl rfl [0] [1, 2, 3] rfl rfl rfl rfl (by decide) rfl hl.1 rfl (Nat.le_of_ble_eq_true rfl) dX5_isJoined_23 ⟨Nat.le_of_ble_eq_true rfl, Nat.le_of_ble_eq_true rfl⟩ (fun r_2 w_4 H locs hv hP hD hS => ?_)
    obtain ⟨u_3, rfl⟩ : ∃ z, z = w_4 := ⟨_, rfl⟩
    have hP : va_P g.1 vwCl [(a_M, .inr (5, [.int u_3, .int M_n, .ref a_M_a, .ref a_M_rowAt, .ref a_M_places, .ref a_M_rights, .ref a_M_weights, .int M_hasFactors, .ref a_M_pivots, .ref a_M_lower, .int M_hasSolution, .ref a_M_solution, .ref a_M_work, .ref a_M_isJoined, .int M_levels, .ref a_M_stored])), (a_M_a, .inl (g.2.1, 256, .inl M_a)), (a_M_isJoined, .inl (g.2.2.1, 256, .inl M_isJoined)), (a_M_rowAt, .inl (g.2.1, 16, .inl M_rowAt))] H := hP.sub [3, 0, 1, 2] rfl
    have hD : va_D A [(a_M, .inr (5, [.int u_3, .int M_n, .ref a_M_a, .ref a_M_rowAt, .ref a_M_places, .ref a_M_rights, .ref a_M_weights, .int M_hasFactors, .ref a_M_pivots, .ref a_M_lower, .int M_hasSolution, .ref a_M_solution, .ref a_M_work, .ref a_M_isJoined, .int M_levels, .ref a_M_stored])), (a_M_a, .inl (g.2.1, 256, .inl M_a)), (a_M_isJoined, .inl (g.2.2.1, 256, .inl M_isJoined)), (a_M_rowAt, .inl (g.2.1, 16, .inl M_rowAt))] := hD.sub [3, 0, 1, 2] (by decide) rfl
    refine lv_if_le (tgt := 33) hx hb dX5_isJoined_26 (by decide) (fun hc => ?_) (fun hc => ?_)
    · replace hv := hv.1 hc
      refine lv_iconst (v := 0) hx hb dX5_isJoined_33 (by decide) ?_
      exact cx_zret hx hb hr rfl hlocks hAe hS (u_3, M_isJoined) hv hP hD dX5_isJoined_34
    · replace hv := hv.2 hc
      refine lv_iconst (v := 1) hx hb dX5_isJoined_29 (by decide) ?_
      refine lv_goto (tgt := 34) hx hb dX5_isJoined_30 (by decide) ?_
      exact cx_zret hx hb hr rfl hlocks hAe hS (u_3, M_isJoined) hv hP hD dX5_isJoined_34
  · replace hv := hv.2 hc
    refine lv_aload_n hx hb dX5_isJoined_13 rfl (lv_at hl 0 rfl) ?_
    refine lv_iload_n hx hb dX5_isJoined_14 rfl (lv_at hl 2 rfl) ?_
    refine cx_iVr (As := [.int i_j]) (rest := []) ⟨hx, hb, hml, hown, hts⟩ (c_X5_isRow l g a_M a_M_a a_M_rowAt a_M_places a_M_rights a_M_weights a_M_pivots a_M_lower a_M_solution a_M_work a_M_isJoined a_M_stored i_j 0 M_n M_hasFactors M_hasSolution M_levels hv) (cx_cwV 1 hts cw_m_X5_76 cw_i_X5_isRow cw_s_X5_isRow cw_n_X5 cw_c_X5_isRow rfl rfl (by decide +kernel) ⟨Nat.le_of_ble_eq_true rfl, Nat.le_of_ble_eq_true rfl⟩) hK hP hD hS hA 0 5 rfl rfl [0] rfl rfl rfl hl.1 rfl (Nat.le_of_ble_eq_true rfl) dX5_isJoined_15 ⟨Nat.le_of_ble_eq_true rfl, Nat.le_of_ble_eq_true rfl⟩ (fun r_5 H locs hv hP hS => ?_)
    refine lv_if_ne (tgt := 35) hx hb dX5_isJoined_18 (by decide) (fun hc => ?_) (fun hc => ?_)
    · replace hv := hv.2 hc
      refine lv_aload_n hx hb dX5_isJoined_35 rfl (lv_at hl 0 rfl) ?_
      refine cx_vV (wr := []) (As := []) (rest := []) ⟨hx, hb, hml, hown, hts⟩ (c_X5_fill l g a_M a_M_a a_M_rowAt a_M_places a_M_rights a_M_weights a_M_pivots a_M_lower a_M_solution a_M_work a_M_isJoined a_M_stored 0 M_n M_hasFactors M_hasSolution M_levels M_a M_isJoined M_rowAt hv) (cx_cwV 0 hts cw_m_X5_116 cw_i_X5_fill cw_s_X5_fill cw_n_X5 cw_c_X5_fill rfl rfl (by decide +kernel) ⟨Nat.le_of_ble_eq_true rfl, Nat.le_of_ble_eq_true rfl⟩) hK hP hD hS hA 0 5 rfl rfl [0, 1, 2, 3] [] rfl rfl rfl rfl (by decide) rfl hl.1 rfl (Nat.le_of_ble_eq_true rfl) dX5_isJoined_36 ⟨Nat.le_of_ble_eq_true rfl, Nat.le_of_ble_eq_true rfl⟩ (fun w_8 H locs hv hP hD hS => ?_)
      obtain ⟨u_7, rfl⟩ : ∃ z, z = w_8 := ⟨_, rfl⟩
      have hP : va_P g.1 vwCl [(a_M, .inr (5, [.int 0, .int M_n, .ref a_M_a, .ref a_M_rowAt, .ref a_M_places, .ref a_M_rights, .ref a_M_weights, .int M_hasFactors, .ref a_M_pivots, .ref a_M_lower, .int M_hasSolution, .ref a_M_solution, .ref a_M_work, .ref a_M_isJoined, .int M_levels, .ref a_M_stored])), (a_M_a, .inl (g.2.1, 256, .inl M_a)), (a_M_isJoined, .inl (g.2.2.1, 256, .inl u_7)), (a_M_rowAt, .inl (g.2.1, 16, .inl M_rowAt))] H := hP.sub [0, 1, 2, 3] rfl
      have hD : va_D A [(a_M, .inr (5, [.int 0, .int M_n, .ref a_M_a, .ref a_M_rowAt, .ref a_M_places, .ref a_M_rights, .ref a_M_weights, .int M_hasFactors, .ref a_M_pivots, .ref a_M_lower, .int M_hasSolution, .ref a_M_solution, .ref a_M_work, .ref a_M_isJoined, .int M_levels, .ref a_M_stored])), (a_M_a, .inl (g.2.1, 256, .inl M_a)), (a_M_isJoined, .inl (g.2.2.1, 256, .inl u_7)), (a_M_rowAt, .inl (g.2.1, 16, .inl M_rowAt))] := hD.sub [0, 1, 2, 3] (by decide) rfl
      refine lv_aload_n hx hb dX5_isJoined_39 rfl (lv_at hl 0 rfl) ?_
      refine va_get (D := g.1) (ci := 5) (v := .ref a_M_isJoined) (C := RX5) (T := TX5) (N := 16) hx hb hts cw_in_X5 hown hK.1 hP 0 rfl rfl 13 (by decide) (hts _ cw_f_X5_41) (fun _ h9 => h9) rfl dX5_isJoined_40 ?_
      refine lv_iload_n hx hb dX5_isJoined_43 rfl (lv_at hl 1 rfl) ?_
      refine lv_iload_n hx hb dX5_isJoined_44 rfl (lv_at hl 2 rfl) ?_
      refine cx_iSr (As := [.int i_i, .int i_j]) (rest := [.ref a_M_isJoined]) ⟨hx, hb, hml, hown, hts⟩ (cp_X5_at l g i_i i_j) (cx_cwS 2 hts cw_m_X5_62 cw_t_X5_at cw_n_X5 cw_c_X5_at rfl rfl (by decide +kernel) ⟨Nat.le_of_ble_eq_true rfl, Nat.le_of_ble_eq_true rfl⟩) hK hP hD hS hA [] rfl rfl rfl hl.1 rfl (Nat.le_of_ble_eq_true rfl) dX5_isJoined_45 ⟨Nat.le_of_ble_eq_true rfl, Nat.le_of_ble_eq_true rfl⟩ (fun r_9 H locs hr9 hP hS => ?_)
      replace hr9 : r_9 = (f_at i_i i_j) := hr9
      subst hr9
      obtain ⟨h_10, hv⟩ := hv
      refine va_zald (D := g.1) hx hb hK.1 hP 2 1 rfl rfl h_10 dX5_isJoined_48 ?_
      obtain ⟨hn, hv⟩ := hv
      exact cx_zret hx hb hr hn hlocks hAe hS (0, u_7) hv hP hD dX5_isJoined_49
    · replace hv := hv.1 hc
      refine lv_aload_n hx hb dX5_isJoined_21 rfl (lv_at hl 0 rfl) ?_
      refine lv_iconst (v := 1) hx hb dX5_isJoined_22 (by decide) ?_
      refine cx_iV (wr := [(a_M_a, .inl (g.2.1, 256, .inl M_a)), (a_M_isJoined, .inl (g.2.2.1, 256, .inl M_isJoined)), (a_M_rowAt, .inl (g.2.1, 16, .inl M_rowAt))]) (As := [.int 1]) (rest := []) ⟨hx, hb, hml, hown, hts⟩ (c_X5_no l g a_M a_M_a a_M_rowAt a_M_places a_M_rights a_M_weights a_M_pivots a_M_lower a_M_solution a_M_work a_M_isJoined a_M_stored 1 0 M_n M_hasFactors M_hasSolution M_levels hv) (cx_cwV 1 hts cw_m_X5_72 cw_i_X5_no cw_s_X5_no cw_n_X5 cw_c_X5_no rfl rfl (by decide +kernel) ⟨Nat.le_of_ble_eq_true rfl, Nat.le_of_ble_eq_true rfl⟩) hK hP hD hS hA 0 5 rfl rfl [0] [1, 2, 3] rfl rfl rfl rfl (by decide) rfl hl.1 rfl (Nat.le_of_ble_eq_true rfl) dX5_isJoined_23 ⟨Nat.le_of_ble_eq_true rfl, Nat.le_of_ble_eq_true rfl⟩ (fun r_11 w_13 H locs hv hP hD hS => ?_)
      obtain ⟨u_12, rfl⟩ : ∃ z, z = w_13 := ⟨_, rfl⟩
      have hP : va_P g.1 vwCl [(a_M, .inr (5, [.int u_12, .int M_n, .ref a_M_a, .ref a_M_rowAt, .ref a_M_places, .ref a_M_rights, .ref a_M_weights, .int M_hasFactors, .ref a_M_pivots, .ref a_M_lower, .int M_hasSolution, .ref a_M_solution, .ref a_M_work, .ref a_M_isJoined, .int M_levels, .ref a_M_stored])), (a_M_a, .inl (g.2.1, 256, .inl M_a)), (a_M_isJoined, .inl (g.2.2.1, 256, .inl M_isJoined)), (a_M_rowAt, .inl (g.2.1, 16, .inl M_rowAt))] H := hP.sub [3, 0, 1, 2] rfl
      have hD : va_D A [(a_M, .inr (5, [.int u_12, .int M_n, .ref a_M_a, .ref a_M_rowAt, .ref a_M_places, .ref a_M_rights, .ref a_M_weights, .int M_hasFactors, .ref a_M_pivots, .ref a_M_lower, .int M_hasSolution, .ref a_M_solution, .ref a_M_work, .ref a_M_isJoined, .int M_levels, .ref a_M_stored])), (a_M_a, .inl (g.2.1, 256, .inl M_a)), (a_M_isJoined, .inl (g.2.2.1, 256, .inl M_isJoined)), (a_M_rowAt, .inl (g.2.1, 16, .inl M_rowAt))] := hD.sub [3, 0, 1, 2] (by decide) rfl
      refine lv_if_le (tgt := 33) hx hb dX5_isJoined_26 (by decide) (fun hc => ?_) (fun hc => ?_)
      · replace hv := hv.1 hc
        refine lv_iconst (v := 0) hx hb dX5_isJoined_33 (by decide) ?_
        exact cx_zret hx hb hr rfl hlocks hAe hS (u_12, M_isJoined) hv hP hD dX5_isJoined_34
      · replace hv := hv.2 hc
        refine lv_iconst (v := 1) hx hb dX5_isJoined_29 (by decide) ?_
        refine lv_goto (tgt := 34) hx hb dX5_isJoined_30 (by decide) ?_
        exact cx_zret hx hb hr rfl hlocks hAe hS (u_12, M_isJoined) hv hP hD dX5_isJoined_34
def wp_X5_fillCount (M_thrown : Int32) (M_n : Int32) (M_hasFactors : Int32) (M_hasSolution : Int32) (M_levels : Int32) (M_a : (Nat → Int32)) (M_isJoined : (Nat → Int32)) (M_rowAt : (Nat → Int32)) (Q : Int32 → Int32 → (Nat → Int32) → Prop)   : Prop := wp_X5_fills 0 M_n M_hasFactors M_hasSolution M_levels M_a M_isJoined M_rowAt (fun r_1 u_2 => Q r_1 0 u_2)
abbrev w0_X5_fillCount (g : cx_G) (a_M a_M_a a_M_rowAt a_M_places a_M_rights a_M_weights a_M_pivots a_M_lower a_M_solution a_M_work a_M_isJoined a_M_stored : Nat) (M_thrown : Int32) (M_n : Int32) (M_hasFactors : Int32) (M_hasSolution : Int32) (M_levels : Int32) (M_a : (Nat → Int32)) (M_isJoined : (Nat → Int32)) (M_rowAt : (Nat → Int32)) : va_W := [(a_M, .inr (5, [.int M_thrown, .int M_n, .ref a_M_a, .ref a_M_rowAt, .ref a_M_places, .ref a_M_rights, .ref a_M_weights, .int M_hasFactors, .ref a_M_pivots, .ref a_M_lower, .int M_hasSolution, .ref a_M_solution, .ref a_M_work, .ref a_M_isJoined, .int M_levels, .ref a_M_stored])), (a_M_a, .inl (g.2.1, 256, .inl M_a)), (a_M_isJoined, .inl (g.2.2.1, 256, .inl M_isJoined)), (a_M_rowAt, .inl (g.2.1, 16, .inl M_rowAt))]
abbrev w1_X5_fillCount (g : cx_G) (a_M a_M_a a_M_rowAt a_M_places a_M_rights a_M_weights a_M_pivots a_M_lower a_M_solution a_M_work a_M_isJoined a_M_stored : Nat) (M_thrown : Int32) (M_n : Int32) (M_hasFactors : Int32) (M_hasSolution : Int32) (M_levels : Int32) (M_a : (Nat → Int32)) (M_isJoined : (Nat → Int32)) (M_rowAt : (Nat → Int32)) (u : Int32 × (Nat → Int32)) : va_W := [(a_M, .inr (5, [.int u.1, .int M_n, .ref a_M_a, .ref a_M_rowAt, .ref a_M_places, .ref a_M_rights, .ref a_M_weights, .int M_hasFactors, .ref a_M_pivots, .ref a_M_lower, .int M_hasSolution, .ref a_M_solution, .ref a_M_work, .ref a_M_isJoined, .int M_levels, .ref a_M_stored])), (a_M_a, .inl (g.2.1, 256, .inl M_a)), (a_M_isJoined, .inl (g.2.2.1, 256, .inl u.2)), (a_M_rowAt, .inl (g.2.1, 16, .inl M_rowAt))]
set_option maxHeartbeats 4000000 in
set_option maxRecDepth 100000 in
theorem c_X5_fillCount (l : Launch) (g : cx_G) (a_M a_M_a a_M_rowAt a_M_places a_M_rights a_M_weights a_M_pivots a_M_lower a_M_solution a_M_work a_M_isJoined a_M_stored : Nat) (M_thrown : Int32) (M_n : Int32) (M_hasFactors : Int32) (M_hasSolution : Int32) (M_levels : Int32) (M_a : (Nat → Int32)) (M_isJoined : (Nat → Int32)) (M_rowAt : (Nat → Int32)) {Q : Int32 → Int32 → (Nat → Int32) → Prop} (hv : wp_X5_fillCount M_thrown M_n M_hasFactors M_hasSolution M_levels M_a M_isJoined M_rowAt Q) : cx_Mi l g yX5_fillCount (Cond.code yX5_fillCount cX5_fillCount 1 (some .int) :: cx_T) ({ frames := 5, cells := 0, slots := 0, locals := 109 } : Room) [.ref a_M] (w0_X5_fillCount g a_M a_M_a a_M_rowAt a_M_places a_M_rights a_M_weights a_M_pivots a_M_lower a_M_solution a_M_work a_M_isJoined a_M_stored M_thrown M_n M_hasFactors M_hasSolution M_levels M_a M_isJoined M_rowAt) (fun (r : Int32) (u : Int32 × (Nat → Int32)) => Q r u.1 u.2) (w1_X5_fillCount g a_M a_M_a a_M_rowAt a_M_places a_M_rights a_M_weights a_M_pivots a_M_lower a_M_solution a_M_work a_M_isJoined a_M_stored M_thrown M_n M_hasFactors M_hasSolution M_levels M_a M_isJoined M_rowAt) 0 0 := by
  intro sz
  refine Met.ofW (cc := cX5_fillCount) (maxL := 1) (ret := (some .int)) (by decide) rfl ?_
  intro p e s m args below meth c s₁ B hml hpre
  obtain ⟨rfl, hsz, hP, hK, hD0⟩ := hpre
  have hx := B.exec
  have hb := B.bytes
  have hr := B.returns
  have hts0 := atoms_spec (ws := (Cond.code yX5_fillCount cX5_fillCount 1 (some .int) :: cx_T)) B.pre
  have hts : ∀ w ∈ cx_T, w.before _ s = true := fun w h => hts0 w (List.mem_cons_of_mem _ h)
  have hown : s.vm.findClass RX5 = some m.cls := findClass_of_methodNamed B.named
  have hlocks := B.notSynchronized
  subst hsz
  have hD := hD0.self (sz := s.heap.size)
  obtain ⟨A, hAe⟩ : ∃ A : Nat → Prop, A = va_A (w0_X5_fillCount g a_M a_M_a a_M_rowAt a_M_places a_M_rights a_M_weights a_M_pivots a_M_lower a_M_solution a_M_work a_M_isJoined a_M_stored M_thrown M_n M_hasFactors M_hasSolution M_levels M_a M_isJoined M_rowAt) s.heap.size := ⟨_, rfl⟩
  rw [← hAe] at hD
  have hA : ∀ q : Nat, s.heap.size ≤ q → A q := fun q h => by rw [hAe]; exact Or.inr h
  have hS : va_S A s.heap s.heap [] := va_S.rf
  have hP : va_P g.1 vwCl [(a_M, .inr (5, [.int M_thrown, .int M_n, .ref a_M_a, .ref a_M_rowAt, .ref a_M_places, .ref a_M_rights, .ref a_M_weights, .int M_hasFactors, .ref a_M_pivots, .ref a_M_lower, .int M_hasSolution, .ref a_M_solution, .ref a_M_work, .ref a_M_isJoined, .int M_levels, .ref a_M_stored])), (a_M_a, .inl (g.2.1, 256, .inl M_a)), (a_M_isJoined, .inl (g.2.2.1, 256, .inl M_isJoined)), (a_M_rowAt, .inl (g.2.1, 16, .inl M_rowAt))] s.heap := hP
  have hD : va_D A [(a_M, .inr (5, [.int M_thrown, .int M_n, .ref a_M_a, .ref a_M_rowAt, .ref a_M_places, .ref a_M_rights, .ref a_M_weights, .int M_hasFactors, .ref a_M_pivots, .ref a_M_lower, .int M_hasSolution, .ref a_M_solution, .ref a_M_work, .ref a_M_isJoined, .int M_levels, .ref a_M_stored])), (a_M_a, .inl (g.2.1, 256, .inl M_a)), (a_M_isJoined, .inl (g.2.2.1, 256, .inl M_isJoined)), (a_M_rowAt, .inl (g.2.1, 16, .inl M_rowAt))] := hD
  have hl := lv_entry ([.ref a_M]) (n := 1) (Nat.le_of_ble_eq_true rfl)
  rw [lg_entry_eq]
  generalize (lg_sl ([.ref a_M]) ++ List.replicate (1 - (lg_sl ([.ref a_M])).length) Slot.unset).toArray = ls at hl ⊢
  have hl : lv_has ls 1 [(0, .ref a_M)] := hl
  unfold wp_X5_fillCount at hv
  refine lv_aload_n hx hb dX5_fillCount_0 rfl (lv_at hl 0 rfl) ?_
  refine lv_iconst (v := 0) hx hb dX5_fillCount_1 (by decide) ?_
  refine va_put (D := g.1) (ci := 5) (v := .int 0) (ty := .int) (C := RX5) (T := TX5) (N := 16) hx hb hts cw_in_X5 tyX5 tyX5_ok nmX5 hown hK.1 hP hD hS 0 rfl rfl 0 (by decide) (hts _ cw_f_X5_51) (fun _ h9 => h9) rfl (by decide +kernel) rfl rfl (Nat.le_of_ble_eq_true rfl) dX5_fillCount_2 (fun H locs hP hD hS => ?_)
  have hP : va_P g.1 vwCl [(a_M, .inr (5, [.int 0, .int M_n, .ref a_M_a, .ref a_M_rowAt, .ref a_M_places, .ref a_M_rights, .ref a_M_weights, .int M_hasFactors, .ref a_M_pivots, .ref a_M_lower, .int M_hasSolution, .ref a_M_solution, .ref a_M_work, .ref a_M_isJoined, .int M_levels, .ref a_M_stored])), (a_M_a, .inl (g.2.1, 256, .inl M_a)), (a_M_isJoined, .inl (g.2.2.1, 256, .inl M_isJoined)), (a_M_rowAt, .inl (g.2.1, 16, .inl M_rowAt))] H := hP
  have hD : va_D A [(a_M, .inr (5, [.int 0, .int M_n, .ref a_M_a, .ref a_M_rowAt, .ref a_M_places, .ref a_M_rights, .ref a_M_weights, .int M_hasFactors, .ref a_M_pivots, .ref a_M_lower, .int M_hasSolution, .ref a_M_solution, .ref a_M_work, .ref a_M_isJoined, .int M_levels, .ref a_M_stored])), (a_M_a, .inl (g.2.1, 256, .inl M_a)), (a_M_isJoined, .inl (g.2.2.1, 256, .inl M_isJoined)), (a_M_rowAt, .inl (g.2.1, 16, .inl M_rowAt))] := hD
  refine lv_aload_n hx hb dX5_fillCount_5 rfl (lv_at hl 0 rfl) ?_
  refine cx_iV (wr := []) (As := []) (rest := []) ⟨hx, hb, hml, hown, hts⟩ (c_X5_fills l g a_M a_M_a a_M_rowAt a_M_places a_M_rights a_M_weights a_M_pivots a_M_lower a_M_solution a_M_work a_M_isJoined a_M_stored 0 M_n M_hasFactors M_hasSolution M_levels M_a M_isJoined M_rowAt hv) (cx_cwV 0 hts cw_m_X5_122 cw_i_X5_fills cw_s_X5_fills cw_n_X5 cw_c_X5_fills rfl rfl (by decide +kernel) ⟨Nat.le_of_ble_eq_true rfl, Nat.le_of_ble_eq_true rfl⟩) hK hP hD hS hA 0 5 rfl rfl [0, 1, 2, 3] [] rfl rfl rfl rfl (by decide) rfl hl.1 rfl (Nat.le_of_ble_eq_true rfl) dX5_fillCount_6 ⟨Nat.le_of_ble_eq_true rfl, Nat.le_of_ble_eq_true rfl⟩ (fun r_1 w_3 H locs hv hP hD hS => ?_)
  obtain ⟨u_2, rfl⟩ : ∃ z, z = w_3 := ⟨_, rfl⟩
  have hP : va_P g.1 vwCl [(a_M, .inr (5, [.int 0, .int M_n, .ref a_M_a, .ref a_M_rowAt, .ref a_M_places, .ref a_M_rights, .ref a_M_weights, .int M_hasFactors, .ref a_M_pivots, .ref a_M_lower, .int M_hasSolution, .ref a_M_solution, .ref a_M_work, .ref a_M_isJoined, .int M_levels, .ref a_M_stored])), (a_M_a, .inl (g.2.1, 256, .inl M_a)), (a_M_isJoined, .inl (g.2.2.1, 256, .inl u_2)), (a_M_rowAt, .inl (g.2.1, 16, .inl M_rowAt))] H := hP.sub [0, 1, 2, 3] rfl
  have hD : va_D A [(a_M, .inr (5, [.int 0, .int M_n, .ref a_M_a, .ref a_M_rowAt, .ref a_M_places, .ref a_M_rights, .ref a_M_weights, .int M_hasFactors, .ref a_M_pivots, .ref a_M_lower, .int M_hasSolution, .ref a_M_solution, .ref a_M_work, .ref a_M_isJoined, .int M_levels, .ref a_M_stored])), (a_M_a, .inl (g.2.1, 256, .inl M_a)), (a_M_isJoined, .inl (g.2.2.1, 256, .inl u_2)), (a_M_rowAt, .inl (g.2.1, 16, .inl M_rowAt))] := hD.sub [0, 1, 2, 3] (by decide) rfl
  exact cx_iret hx hb hr hlocks hAe hS (0, u_2) hv hP hD dX5_fillCount_9
def vc_X5_widthOf_0 (i_i : Int32) (M_thrown : Int32) (M_n : Int32) (M_hasFactors : Int32) (M_hasSolution : Int32) (M_levels : Int32) (M_isJoined : (Nat → Int32)) (M_places : (Nat → Int32)) (Q : Int32 → Prop) (G1 : Int32 → Int32 → Prop)  : Prop := G1 0 0
def vc_X5_widthOf_1 (i_i : Int32) (M_thrown : Int32) (M_n : Int32) (M_hasFactors : Int32) (M_hasSolution : Int32) (M_levels : Int32) (M_isJoined : (Nat → Int32)) (M_places : (Nat → Int32)) (Q : Int32 → Prop) (G1 : Int32 → Int32 → Prop) (x3 : Int32) (x2 : Int32) : Prop := (M_n ≤ x3 → (Q x2)) ∧ (¬ M_n ≤ x3 → (vp_in (f_at i_i x3) 256 ∧ (((M_isJoined (Int32.toNatClampNeg (f_at i_i x3))) = 0 → (∀ x2_3 : Int32, x2_3 = (x2 + 0) → (∀ x3_4 : Int32, x3_4 = x3 + 1 → (G1 x3_4 x2_3)))) ∧ (¬ (M_isJoined (Int32.toNatClampNeg (f_at i_i x3))) = 0 → (vp_in x3 16 ∧ (vp_in i_i 16 ∧ (((M_places (Int32.toNatClampNeg x3)) ≤ (M_places (Int32.toNatClampNeg i_i)) → (∀ x2_7 : Int32, x2_7 = (x2 + 0) → (∀ x3_8 : Int32, x3_8 = x3 + 1 → (G1 x3_8 x2_7)))) ∧ (¬ (M_places (Int32.toNatClampNeg x3)) ≤ (M_places (Int32.toNatClampNeg i_i)) → (∀ x2_9 : Int32, x2_9 = (x2 + 1) → (∀ x3_10 : Int32, x3_10 = x3 + 1 → (G1 x3_10 x2_9)))))))))))
def wp_X5_widthOf (i_i : Int32) (M_thrown : Int32) (M_n : Int32) (M_hasFactors : Int32) (M_hasSolution : Int32) (M_levels : Int32) (M_isJoined : (Nat → Int32)) (M_places : (Nat → Int32)) (Q : Int32 → Prop) : Prop := ∀ (G1 : Int32 → Int32 → Prop), (∀ (x3 : Int32) (x2 : Int32), vc_X5_widthOf_1 i_i M_thrown M_n M_hasFactors M_hasSolution M_levels M_isJoined M_places Q G1 x3 x2 → G1 x3 x2) → vc_X5_widthOf_0 i_i M_thrown M_n M_hasFactors M_hasSolution M_levels M_isJoined M_places Q G1
abbrev w0_X5_widthOf (g : cx_G) (a_M a_M_a a_M_rowAt a_M_places a_M_rights a_M_weights a_M_pivots a_M_lower a_M_solution a_M_work a_M_isJoined a_M_stored : Nat) (M_thrown : Int32) (M_n : Int32) (M_hasFactors : Int32) (M_hasSolution : Int32) (M_levels : Int32) (M_isJoined : (Nat → Int32)) (M_places : (Nat → Int32)) : va_W := [(a_M, .inr (5, [.int M_thrown, .int M_n, .ref a_M_a, .ref a_M_rowAt, .ref a_M_places, .ref a_M_rights, .ref a_M_weights, .int M_hasFactors, .ref a_M_pivots, .ref a_M_lower, .int M_hasSolution, .ref a_M_solution, .ref a_M_work, .ref a_M_isJoined, .int M_levels, .ref a_M_stored])), (a_M_isJoined, .inl (g.2.2.1, 256, .inl M_isJoined)), (a_M_places, .inl (g.2.1, 16, .inl M_places))]
set_option maxHeartbeats 4000000 in
set_option maxRecDepth 100000 in
theorem c_X5_widthOf (l : Launch) (g : cx_G) (a_M a_M_a a_M_rowAt a_M_places a_M_rights a_M_weights a_M_pivots a_M_lower a_M_solution a_M_work a_M_isJoined a_M_stored : Nat) (i_i : Int32) (M_thrown : Int32) (M_n : Int32) (M_hasFactors : Int32) (M_hasSolution : Int32) (M_levels : Int32) (M_isJoined : (Nat → Int32)) (M_places : (Nat → Int32)) {Q : Int32 → Prop} (hv : wp_X5_widthOf i_i M_thrown M_n M_hasFactors M_hasSolution M_levels M_isJoined M_places Q) : cx_Mi l g yX5_widthOf (Cond.code yX5_widthOf cX5_widthOf 4 (some .int) :: cx_T) ({ frames := 1, cells := 0, slots := 0, locals := 21 } : Room) [.ref a_M, .int i_i] (w0_X5_widthOf g a_M a_M_a a_M_rowAt a_M_places a_M_rights a_M_weights a_M_pivots a_M_lower a_M_solution a_M_work a_M_isJoined a_M_stored M_thrown M_n M_hasFactors M_hasSolution M_levels M_isJoined M_places) (fun (r : Int32) (_ : Unit) => Q r) (fun _ : Unit => (w0_X5_widthOf g a_M a_M_a a_M_rowAt a_M_places a_M_rights a_M_weights a_M_pivots a_M_lower a_M_solution a_M_work a_M_isJoined a_M_stored M_thrown M_n M_hasFactors M_hasSolution M_levels M_isJoined M_places)) 0 0 := by
  intro sz
  refine Met.ofW (cc := cX5_widthOf) (maxL := 4) (ret := (some .int)) (by decide) rfl ?_
  intro p e s m args below meth c s₁ B hml hpre
  obtain ⟨rfl, hsz, hP, hK, hD0⟩ := hpre
  have hx := B.exec
  have hb := B.bytes
  have hr := B.returns
  have hts0 := atoms_spec (ws := (Cond.code yX5_widthOf cX5_widthOf 4 (some .int) :: cx_T)) B.pre
  have hts : ∀ w ∈ cx_T, w.before _ s = true := fun w h => hts0 w (List.mem_cons_of_mem _ h)
  have hown : s.vm.findClass RX5 = some m.cls := findClass_of_methodNamed B.named
  have hlocks := B.notSynchronized
  subst hsz
  have hD := hD0.self (sz := s.heap.size)
  obtain ⟨A, hAe⟩ : ∃ A : Nat → Prop, A = va_A (w0_X5_widthOf g a_M a_M_a a_M_rowAt a_M_places a_M_rights a_M_weights a_M_pivots a_M_lower a_M_solution a_M_work a_M_isJoined a_M_stored M_thrown M_n M_hasFactors M_hasSolution M_levels M_isJoined M_places) s.heap.size := ⟨_, rfl⟩
  rw [← hAe] at hD
  have hA : ∀ q : Nat, s.heap.size ≤ q → A q := fun q h => by rw [hAe]; exact Or.inr h
  have hS : va_S A s.heap s.heap [] := va_S.rf
  have hP : va_P g.1 vwCl [(a_M, .inr (5, [.int M_thrown, .int M_n, .ref a_M_a, .ref a_M_rowAt, .ref a_M_places, .ref a_M_rights, .ref a_M_weights, .int M_hasFactors, .ref a_M_pivots, .ref a_M_lower, .int M_hasSolution, .ref a_M_solution, .ref a_M_work, .ref a_M_isJoined, .int M_levels, .ref a_M_stored])), (a_M_isJoined, .inl (g.2.2.1, 256, .inl M_isJoined)), (a_M_places, .inl (g.2.1, 16, .inl M_places))] s.heap := hP
  have hD : va_D A [(a_M, .inr (5, [.int M_thrown, .int M_n, .ref a_M_a, .ref a_M_rowAt, .ref a_M_places, .ref a_M_rights, .ref a_M_weights, .int M_hasFactors, .ref a_M_pivots, .ref a_M_lower, .int M_hasSolution, .ref a_M_solution, .ref a_M_work, .ref a_M_isJoined, .int M_levels, .ref a_M_stored])), (a_M_isJoined, .inl (g.2.2.1, 256, .inl M_isJoined)), (a_M_places, .inl (g.2.1, 16, .inl M_places))] := hD
  have hl := lv_entry ([.ref a_M, .int i_i]) (n := 4) (Nat.le_of_ble_eq_true rfl)
  rw [lg_entry_eq]
  generalize (lg_sl ([.ref a_M, .int i_i]) ++ List.replicate (4 - (lg_sl ([.ref a_M, .int i_i])).length) Slot.unset).toArray = ls at hl ⊢
  have hl : lv_has ls 4 [(0, .ref a_M), (1, .int i_i)] := hl
  obtain ⟨G1, hG1⟩ : ∃ G : Int32 → Int32 → Prop, G = (fun (x3 : Int32) (x2 : Int32) => ∀ (H : Heap) (locs : List Loc) (ls : Array Slot), va_P g.1 vwCl [(a_M, .inr (5, [.int M_thrown, .int M_n, .ref a_M_a, .ref a_M_rowAt, .ref a_M_places, .ref a_M_rights, .ref a_M_weights, .int M_hasFactors, .ref a_M_pivots, .ref a_M_lower, .int M_hasSolution, .ref a_M_solution, .ref a_M_work, .ref a_M_isJoined, .int M_levels, .ref a_M_stored])), (a_M_isJoined, .inl (g.2.2.1, 256, .inl M_isJoined)), (a_M_places, .inl (g.2.1, 16, .inl M_places))] H → va_D A [(a_M, .inr (5, [.int M_thrown, .int M_n, .ref a_M_a, .ref a_M_rowAt, .ref a_M_places, .ref a_M_rights, .ref a_M_weights, .int M_hasFactors, .ref a_M_pivots, .ref a_M_lower, .int M_hasSolution, .ref a_M_solution, .ref a_M_work, .ref a_M_isJoined, .int M_levels, .ref a_M_stored])), (a_M_isJoined, .inl (g.2.2.1, 256, .inl M_isJoined)), (a_M_places, .inl (g.2.1, 16, .inl M_places))] → va_S A s.heap H locs → lv_has ls 4 [(3, .int x3), (2, .int x2), (0, .ref a_M), (1, .int i_i)] → W p l e (headSpec (Cond.code yX5_widthOf cX5_widthOf 4 (some .int) :: cx_T) ({ frames := 1, cells := 0, slots := 0, locals := 21 } : Room)).room s m ([.ref a_M, .int i_i] : List Value).toArray below meth c H locs 0 0 (MQ below (va_Qi (fun (r : Int32) (_ : Unit) => Q r) (cx_B g (w0_X5_widthOf g a_M a_M_a a_M_rowAt a_M_places a_M_rights a_M_weights a_M_pivots a_M_lower a_M_solution a_M_work a_M_isJoined a_M_stored M_thrown M_n M_hasFactors M_hasSolution M_levels M_isJoined M_places) s.heap.size (fun _ : Unit => (w0_X5_widthOf g a_M a_M_a a_M_rowAt a_M_places a_M_rights a_M_weights a_M_pivots a_M_lower a_M_solution a_M_work a_M_isJoined a_M_stored M_thrown M_n M_hasFactors M_hasSolution M_levels M_isJoined M_places))) (va_A (w0_X5_widthOf g a_M a_M_a a_M_rowAt a_M_places a_M_rights a_M_weights a_M_pivots a_M_lower a_M_solution a_M_work a_M_isJoined a_M_stored M_thrown M_n M_hasFactors M_hasSolution M_levels M_isJoined M_places) s.heap.size)) ([.ref a_M, .int i_i] : List Value).toArray s 0 0 (va_A (w0_X5_widthOf g a_M a_M_a a_M_rowAt a_M_places a_M_rights a_M_weights a_M_pivots a_M_lower a_M_solution a_M_work a_M_isJoined a_M_stored M_thrown M_n M_hasFactors M_hasSolution M_levels M_isJoined M_places) s.heap.size)) (F0 m 4 ls [])) := ⟨_, rfl⟩
  have hs1 : ∀ (x3 : Int32) (x2 : Int32), vc_X5_widthOf_1 i_i M_thrown M_n M_hasFactors M_hasSolution M_levels M_isJoined M_places Q G1 x3 x2 → G1 x3 x2 := by
    rw [hG1]
    intro x3 x2 hv H locs ls hP hD hS hl
    unfold vc_X5_widthOf_1 at hv
    refine lv_iload_n hx hb dX5_widthOf_4 rfl (lv_at hl 0 rfl) ?_
    refine lv_aload_n hx hb dX5_widthOf_5 rfl (lv_at hl 2 rfl) ?_
    refine va_get (D := g.1) (ci := 5) (v := .int M_n) (C := RX5) (T := TX5) (N := 16) hx hb hts cw_in_X5 hown hK.1 hP 0 rfl rfl 1 (by decide) (hts _ cw_f_X5_9) (fun _ h9 => h9) rfl dX5_widthOf_6 ?_
    refine lv_icmp_ge (tgt := 54) hx hb dX5_widthOf_9 (by decide) (fun hc => ?_) (fun hc => ?_)
    · replace hv := hv.1 hc
      refine lv_iload_n hx hb dX5_widthOf_54 rfl (lv_at hl 1 rfl) ?_
      exact cx_iret hx hb hr hlocks hAe hS () hv hP hD dX5_widthOf_55
    · replace hv := hv.2 hc
      refine lv_iload_n hx hb dX5_widthOf_12 rfl (lv_at hl 1 rfl) ?_
      refine lv_aload_n hx hb dX5_widthOf_13 rfl (lv_at hl 2 rfl) ?_
      refine va_get (D := g.1) (ci := 5) (v := .ref a_M_isJoined) (C := RX5) (T := TX5) (N := 16) hx hb hts cw_in_X5 hown hK.1 hP 0 rfl rfl 13 (by decide) (hts _ cw_f_X5_41) (fun _ h9 => h9) rfl dX5_widthOf_14 ?_
      refine lv_iload_n hx hb dX5_widthOf_17 rfl (lv_at hl 3 rfl) ?_
      refine lv_iload_n hx hb dX5_widthOf_18 rfl (lv_at hl 0 rfl) ?_
      refine cx_iSr (As := [.int i_i, .int x3]) (rest := [.ref a_M_isJoined, .int x2]) ⟨hx, hb, hml, hown, hts⟩ (cp_X5_at l g i_i x3) (cx_cwS 2 hts cw_m_X5_62 cw_t_X5_at cw_n_X5 cw_c_X5_at rfl rfl (by decide +kernel) ⟨Nat.le_of_ble_eq_true rfl, Nat.le_of_ble_eq_true rfl⟩) hK hP hD hS hA [] rfl rfl rfl hl.1 rfl (Nat.le_of_ble_eq_true rfl) dX5_widthOf_19 ⟨Nat.le_of_ble_eq_true rfl, Nat.le_of_ble_eq_true rfl⟩ (fun r_1 H locs hr9 hP hS => ?_)
      replace hr9 : r_1 = (f_at i_i x3) := hr9
      subst hr9
      obtain ⟨h_2, hv⟩ := hv
      refine va_zald (D := g.1) hx hb hK.1 hP 1 1 rfl rfl h_2 dX5_widthOf_22 ?_
      refine lv_if_eq (tgt := 45) hx hb dX5_widthOf_23 (by decide) (fun hc => ?_) (fun hc => ?_)
      · replace hv := hv.1 hc
        refine lv_iconst (v := 0) hx hb dX5_widthOf_45 (by decide) ?_
        refine lv_iadd hx hb dX5_widthOf_46 ?_
        refine lv_topi (fun x2_3 ex2_3 => ?_)
        replace hv := hv x2_3 ex2_3
        refine lv_istore_n (lv' := [(2, .int x2_3), (3, .int x3), (0, .ref a_M), (1, .int i_i)]) hx hb dX5_widthOf_47 rfl hl (by decide) rfl (fun ls hl => ?_)
        obtain ⟨x3_4, ex3_4⟩ : ∃ y : Int32, y = x3 + 1 := ⟨_, rfl⟩
        replace hv := hv x3_4 ex3_4
        refine lv_iinc (v := x3_4) (lv' := [(3, .int x3_4), (2, .int x2_3), (0, .ref a_M), (1, .int i_i)]) hx hb dX5_widthOf_48 hl (k := 1) rfl (by rw [ex3_4]; rfl) (by decide) rfl (fun ls hl => ?_)
        refine lv_goto (tgt := 4) hx hb dX5_widthOf_51 (by decide) ?_
        exact hv _ _ _ hP hD hS (lv_sub hl [0, 1, 2, 3] rfl)
      · replace hv := hv.2 hc
        refine lv_aload_n hx hb dX5_widthOf_26 rfl (lv_at hl 2 rfl) ?_
        refine va_get (D := g.1) (ci := 5) (v := .ref a_M_places) (C := RX5) (T := TX5) (N := 16) hx hb hts cw_in_X5 hown hK.1 hP 0 rfl rfl 4 (by decide) (hts _ cw_f_X5_20) (fun _ h9 => h9) rfl dX5_widthOf_27 ?_
        refine lv_iload_n hx hb dX5_widthOf_30 rfl (lv_at hl 0 rfl) ?_
        obtain ⟨h_5, hv⟩ := hv
        refine va_iald (D := g.1) hx hb hK.1 hP 2 0 rfl rfl h_5 dX5_widthOf_31 ?_
        refine lv_aload_n hx hb dX5_widthOf_32 rfl (lv_at hl 2 rfl) ?_
        refine va_get (D := g.1) (ci := 5) (v := .ref a_M_places) (C := RX5) (T := TX5) (N := 16) hx hb hts cw_in_X5 hown hK.1 hP 0 rfl rfl 4 (by decide) (hts _ cw_f_X5_20) (fun _ h9 => h9) rfl dX5_widthOf_33 ?_
        refine lv_iload_n hx hb dX5_widthOf_36 rfl (lv_at hl 3 rfl) ?_
        obtain ⟨h_6, hv⟩ := hv
        refine va_iald (D := g.1) hx hb hK.1 hP 2 0 rfl rfl h_6 dX5_widthOf_37 ?_
        refine lv_icmp_le (tgt := 45) hx hb dX5_widthOf_38 (by decide) (fun hc => ?_) (fun hc => ?_)
        · replace hv := hv.1 hc
          refine lv_iconst (v := 0) hx hb dX5_widthOf_45 (by decide) ?_
          refine lv_iadd hx hb dX5_widthOf_46 ?_
          refine lv_topi (fun x2_7 ex2_7 => ?_)
          replace hv := hv x2_7 ex2_7
          refine lv_istore_n (lv' := [(2, .int x2_7), (3, .int x3), (0, .ref a_M), (1, .int i_i)]) hx hb dX5_widthOf_47 rfl hl (by decide) rfl (fun ls hl => ?_)
          obtain ⟨x3_8, ex3_8⟩ : ∃ y : Int32, y = x3 + 1 := ⟨_, rfl⟩
          replace hv := hv x3_8 ex3_8
          refine lv_iinc (v := x3_8) (lv' := [(3, .int x3_8), (2, .int x2_7), (0, .ref a_M), (1, .int i_i)]) hx hb dX5_widthOf_48 hl (k := 1) rfl (by rw [ex3_8]; rfl) (by decide) rfl (fun ls hl => ?_)
          refine lv_goto (tgt := 4) hx hb dX5_widthOf_51 (by decide) ?_
          exact hv _ _ _ hP hD hS (lv_sub hl [0, 1, 2, 3] rfl)
        · replace hv := hv.2 hc
          refine lv_iconst (v := 1) hx hb dX5_widthOf_41 (by decide) ?_
          refine lv_goto (tgt := 46) hx hb dX5_widthOf_42 (by decide) ?_
          refine lv_iadd hx hb dX5_widthOf_46 ?_
          refine lv_topi (fun x2_9 ex2_9 => ?_)
          replace hv := hv x2_9 ex2_9
          refine lv_istore_n (lv' := [(2, .int x2_9), (3, .int x3), (0, .ref a_M), (1, .int i_i)]) hx hb dX5_widthOf_47 rfl hl (by decide) rfl (fun ls hl => ?_)
          obtain ⟨x3_10, ex3_10⟩ : ∃ y : Int32, y = x3 + 1 := ⟨_, rfl⟩
          replace hv := hv x3_10 ex3_10
          refine lv_iinc (v := x3_10) (lv' := [(3, .int x3_10), (2, .int x2_9), (0, .ref a_M), (1, .int i_i)]) hx hb dX5_widthOf_48 hl (k := 1) rfl (by rw [ex3_10]; rfl) (by decide) rfl (fun ls hl => ?_)
          refine lv_goto (tgt := 4) hx hb dX5_widthOf_51 (by decide) ?_
          exact hv _ _ _ hP hD hS (lv_sub hl [0, 1, 2, 3] rfl)
  replace hv := hv G1 hs1
  rw [hG1] at hv
  unfold vc_X5_widthOf_0 at hv
  refine lv_iconst (v := 0) hx hb dX5_widthOf_0 (by decide) ?_
  refine lv_istore_n (lv' := [(2, .int 0), (0, .ref a_M), (1, .int i_i)]) hx hb dX5_widthOf_1 rfl hl (by decide) rfl (fun ls hl => ?_)
  refine lv_iconst (v := 0) hx hb dX5_widthOf_2 (by decide) ?_
  refine lv_istore_n (lv' := [(3, .int 0), (2, .int 0), (0, .ref a_M), (1, .int i_i)]) hx hb dX5_widthOf_3 rfl hl (by decide) rfl (fun ls hl => ?_)
  exact hv _ _ _ hP hD hS (lv_sub hl [0, 1, 2, 3] rfl)
def wp_X5_width (i_i : Int32) (M_thrown : Int32) (M_n : Int32) (M_hasFactors : Int32) (M_hasSolution : Int32) (M_levels : Int32) (M_a : (Nat → Int32)) (M_isJoined : (Nat → Int32)) (M_rowAt : (Nat → Int32)) (M_places : (Nat → Int32)) (Q : Int32 → Int32 → (Nat → Int32) → Prop)   : Prop := wp_X5_isRow i_i 0 M_n M_hasFactors M_hasSolution M_levels (fun r_1 => (r_1 = 0 → (wp_X5_no 1 0 M_n M_hasFactors M_hasSolution M_levels (fun r_6 u_7 => Q r_6 u_7 M_isJoined))) ∧ (¬ r_1 = 0 → (wp_X5_fill 0 M_n M_hasFactors M_hasSolution M_levels M_a M_isJoined M_rowAt (fun u_3 => wp_X5_widthOf i_i 0 M_n M_hasFactors M_hasSolution M_levels u_3 M_places (fun r_5 => Q r_5 0 u_3)))))
abbrev w0_X5_width (g : cx_G) (a_M a_M_a a_M_rowAt a_M_places a_M_rights a_M_weights a_M_pivots a_M_lower a_M_solution a_M_work a_M_isJoined a_M_stored : Nat) (M_thrown : Int32) (M_n : Int32) (M_hasFactors : Int32) (M_hasSolution : Int32) (M_levels : Int32) (M_a : (Nat → Int32)) (M_isJoined : (Nat → Int32)) (M_rowAt : (Nat → Int32)) (M_places : (Nat → Int32)) : va_W := [(a_M, .inr (5, [.int M_thrown, .int M_n, .ref a_M_a, .ref a_M_rowAt, .ref a_M_places, .ref a_M_rights, .ref a_M_weights, .int M_hasFactors, .ref a_M_pivots, .ref a_M_lower, .int M_hasSolution, .ref a_M_solution, .ref a_M_work, .ref a_M_isJoined, .int M_levels, .ref a_M_stored])), (a_M_a, .inl (g.2.1, 256, .inl M_a)), (a_M_isJoined, .inl (g.2.2.1, 256, .inl M_isJoined)), (a_M_rowAt, .inl (g.2.1, 16, .inl M_rowAt)), (a_M_places, .inl (g.2.1, 16, .inl M_places))]
abbrev w1_X5_width (g : cx_G) (a_M a_M_a a_M_rowAt a_M_places a_M_rights a_M_weights a_M_pivots a_M_lower a_M_solution a_M_work a_M_isJoined a_M_stored : Nat) (M_thrown : Int32) (M_n : Int32) (M_hasFactors : Int32) (M_hasSolution : Int32) (M_levels : Int32) (M_a : (Nat → Int32)) (M_isJoined : (Nat → Int32)) (M_rowAt : (Nat → Int32)) (M_places : (Nat → Int32)) (u : Int32 × (Nat → Int32)) : va_W := [(a_M, .inr (5, [.int u.1, .int M_n, .ref a_M_a, .ref a_M_rowAt, .ref a_M_places, .ref a_M_rights, .ref a_M_weights, .int M_hasFactors, .ref a_M_pivots, .ref a_M_lower, .int M_hasSolution, .ref a_M_solution, .ref a_M_work, .ref a_M_isJoined, .int M_levels, .ref a_M_stored])), (a_M_a, .inl (g.2.1, 256, .inl M_a)), (a_M_isJoined, .inl (g.2.2.1, 256, .inl u.2)), (a_M_rowAt, .inl (g.2.1, 16, .inl M_rowAt)), (a_M_places, .inl (g.2.1, 16, .inl M_places))]
set_option maxHeartbeats 4000000 in
set_option maxRecDepth 100000 in
theorem c_X5_width (l : Launch) (g : cx_G) (a_M a_M_a a_M_rowAt a_M_places a_M_rights a_M_weights a_M_pivots a_M_lower a_M_solution a_M_work a_M_isJoined a_M_stored : Nat) (i_i : Int32) (M_thrown : Int32) (M_n : Int32) (M_hasFactors : Int32) (M_hasSolution : Int32) (M_levels : Int32) (M_a : (Nat → Int32)) (M_isJoined : (Nat → Int32)) (M_rowAt : (Nat → Int32)) (M_places : (Nat → Int32)) {Q : Int32 → Int32 → (Nat → Int32) → Prop} (hv : wp_X5_width i_i M_thrown M_n M_hasFactors M_hasSolution M_levels M_a M_isJoined M_rowAt M_places Q) : cx_Mi l g yX5_width (Cond.code yX5_width cX5_width 2 (some .int) :: cx_T) ({ frames := 4, cells := 0, slots := 0, locals := 86 } : Room) [.ref a_M, .int i_i] (w0_X5_width g a_M a_M_a a_M_rowAt a_M_places a_M_rights a_M_weights a_M_pivots a_M_lower a_M_solution a_M_work a_M_isJoined a_M_stored M_thrown M_n M_hasFactors M_hasSolution M_levels M_a M_isJoined M_rowAt M_places) (fun (r : Int32) (u : Int32 × (Nat → Int32)) => Q r u.1 u.2) (w1_X5_width g a_M a_M_a a_M_rowAt a_M_places a_M_rights a_M_weights a_M_pivots a_M_lower a_M_solution a_M_work a_M_isJoined a_M_stored M_thrown M_n M_hasFactors M_hasSolution M_levels M_a M_isJoined M_rowAt M_places) 0 0 := by
  intro sz
  refine Met.ofW (cc := cX5_width) (maxL := 2) (ret := (some .int)) (by decide) rfl ?_
  intro p e s m args below meth c s₁ B hml hpre
  obtain ⟨rfl, hsz, hP, hK, hD0⟩ := hpre
  have hx := B.exec
  have hb := B.bytes
  have hr := B.returns
  have hts0 := atoms_spec (ws := (Cond.code yX5_width cX5_width 2 (some .int) :: cx_T)) B.pre
  have hts : ∀ w ∈ cx_T, w.before _ s = true := fun w h => hts0 w (List.mem_cons_of_mem _ h)
  have hown : s.vm.findClass RX5 = some m.cls := findClass_of_methodNamed B.named
  have hlocks := B.notSynchronized
  subst hsz
  have hD := hD0.self (sz := s.heap.size)
  obtain ⟨A, hAe⟩ : ∃ A : Nat → Prop, A = va_A (w0_X5_width g a_M a_M_a a_M_rowAt a_M_places a_M_rights a_M_weights a_M_pivots a_M_lower a_M_solution a_M_work a_M_isJoined a_M_stored M_thrown M_n M_hasFactors M_hasSolution M_levels M_a M_isJoined M_rowAt M_places) s.heap.size := ⟨_, rfl⟩
  rw [← hAe] at hD
  have hA : ∀ q : Nat, s.heap.size ≤ q → A q := fun q h => by rw [hAe]; exact Or.inr h
  have hS : va_S A s.heap s.heap [] := va_S.rf
  have hP : va_P g.1 vwCl [(a_M, .inr (5, [.int M_thrown, .int M_n, .ref a_M_a, .ref a_M_rowAt, .ref a_M_places, .ref a_M_rights, .ref a_M_weights, .int M_hasFactors, .ref a_M_pivots, .ref a_M_lower, .int M_hasSolution, .ref a_M_solution, .ref a_M_work, .ref a_M_isJoined, .int M_levels, .ref a_M_stored])), (a_M_a, .inl (g.2.1, 256, .inl M_a)), (a_M_isJoined, .inl (g.2.2.1, 256, .inl M_isJoined)), (a_M_rowAt, .inl (g.2.1, 16, .inl M_rowAt)), (a_M_places, .inl (g.2.1, 16, .inl M_places))] s.heap := hP
  have hD : va_D A [(a_M, .inr (5, [.int M_thrown, .int M_n, .ref a_M_a, .ref a_M_rowAt, .ref a_M_places, .ref a_M_rights, .ref a_M_weights, .int M_hasFactors, .ref a_M_pivots, .ref a_M_lower, .int M_hasSolution, .ref a_M_solution, .ref a_M_work, .ref a_M_isJoined, .int M_levels, .ref a_M_stored])), (a_M_a, .inl (g.2.1, 256, .inl M_a)), (a_M_isJoined, .inl (g.2.2.1, 256, .inl M_isJoined)), (a_M_rowAt, .inl (g.2.1, 16, .inl M_rowAt)), (a_M_places, .inl (g.2.1, 16, .inl M_places))] := hD
  have hl := lv_entry ([.ref a_M, .int i_i]) (n := 2) (Nat.le_of_ble_eq_true rfl)
  rw [lg_entry_eq]
  generalize (lg_sl ([.ref a_M, .int i_i]) ++ List.replicate (2 - (lg_sl ([.ref a_M, .int i_i])).length) Slot.unset).toArray = ls at hl ⊢
  have hl : lv_has ls 2 [(0, .ref a_M), (1, .int i_i)] := hl
  unfold wp_X5_width at hv
  refine lv_aload_n hx hb dX5_width_0 rfl (lv_at hl 0 rfl) ?_
  refine lv_iconst (v := 0) hx hb dX5_width_1 (by decide) ?_
  refine va_put (D := g.1) (ci := 5) (v := .int 0) (ty := .int) (C := RX5) (T := TX5) (N := 16) hx hb hts cw_in_X5 tyX5 tyX5_ok nmX5 hown hK.1 hP hD hS 0 rfl rfl 0 (by decide) (hts _ cw_f_X5_51) (fun _ h9 => h9) rfl (by decide +kernel) rfl rfl (Nat.le_of_ble_eq_true rfl) dX5_width_2 (fun H locs hP hD hS => ?_)
  have hP : va_P g.1 vwCl [(a_M, .inr (5, [.int 0, .int M_n, .ref a_M_a, .ref a_M_rowAt, .ref a_M_places, .ref a_M_rights, .ref a_M_weights, .int M_hasFactors, .ref a_M_pivots, .ref a_M_lower, .int M_hasSolution, .ref a_M_solution, .ref a_M_work, .ref a_M_isJoined, .int M_levels, .ref a_M_stored])), (a_M_a, .inl (g.2.1, 256, .inl M_a)), (a_M_isJoined, .inl (g.2.2.1, 256, .inl M_isJoined)), (a_M_rowAt, .inl (g.2.1, 16, .inl M_rowAt)), (a_M_places, .inl (g.2.1, 16, .inl M_places))] H := hP
  have hD : va_D A [(a_M, .inr (5, [.int 0, .int M_n, .ref a_M_a, .ref a_M_rowAt, .ref a_M_places, .ref a_M_rights, .ref a_M_weights, .int M_hasFactors, .ref a_M_pivots, .ref a_M_lower, .int M_hasSolution, .ref a_M_solution, .ref a_M_work, .ref a_M_isJoined, .int M_levels, .ref a_M_stored])), (a_M_a, .inl (g.2.1, 256, .inl M_a)), (a_M_isJoined, .inl (g.2.2.1, 256, .inl M_isJoined)), (a_M_rowAt, .inl (g.2.1, 16, .inl M_rowAt)), (a_M_places, .inl (g.2.1, 16, .inl M_places))] := hD
  refine lv_aload_n hx hb dX5_width_5 rfl (lv_at hl 0 rfl) ?_
  refine lv_iload_n hx hb dX5_width_6 rfl (lv_at hl 1 rfl) ?_
  refine cx_iVr (As := [.int i_i]) (rest := []) ⟨hx, hb, hml, hown, hts⟩ (c_X5_isRow l g a_M a_M_a a_M_rowAt a_M_places a_M_rights a_M_weights a_M_pivots a_M_lower a_M_solution a_M_work a_M_isJoined a_M_stored i_i 0 M_n M_hasFactors M_hasSolution M_levels hv) (cx_cwV 1 hts cw_m_X5_76 cw_i_X5_isRow cw_s_X5_isRow cw_n_X5 cw_c_X5_isRow rfl rfl (by decide +kernel) ⟨Nat.le_of_ble_eq_true rfl, Nat.le_of_ble_eq_true rfl⟩) hK hP hD hS hA 0 5 rfl rfl [0] rfl rfl rfl hl.1 rfl (Nat.le_of_ble_eq_true rfl) dX5_width_7 ⟨Nat.le_of_ble_eq_true rfl, Nat.le_of_ble_eq_true rfl⟩ (fun r_1 H locs hv hP hS => ?_)
  refine lv_if_ne (tgt := 19) hx hb dX5_width_10 (by decide) (fun hc => ?_) (fun hc => ?_)
  · replace hv := hv.2 hc
    refine lv_aload_n hx hb dX5_width_19 rfl (lv_at hl 0 rfl) ?_
    refine cx_vV (wr := [(a_M_places, .inl (g.2.1, 16, .inl M_places))]) (As := []) (rest := []) ⟨hx, hb, hml, hown, hts⟩ (c_X5_fill l g a_M a_M_a a_M_rowAt a_M_places a_M_rights a_M_weights a_M_pivots a_M_lower a_M_solution a_M_work a_M_isJoined a_M_stored 0 M_n M_hasFactors M_hasSolution M_levels M_a M_isJoined M_rowAt hv) (cx_cwV 0 hts cw_m_X5_116 cw_i_X5_fill cw_s_X5_fill cw_n_X5 cw_c_X5_fill rfl rfl (by decide +kernel) ⟨Nat.le_of_ble_eq_true rfl, Nat.le_of_ble_eq_true rfl⟩) hK hP hD hS hA 0 5 rfl rfl [0, 1, 2, 3] [4] rfl rfl rfl rfl (by decide) rfl hl.1 rfl (Nat.le_of_ble_eq_true rfl) dX5_width_20 ⟨Nat.le_of_ble_eq_true rfl, Nat.le_of_ble_eq_true rfl⟩ (fun w_4 H locs hv hP hD hS => ?_)
    obtain ⟨u_3, rfl⟩ : ∃ z, z = w_4 := ⟨_, rfl⟩
    have hP : va_P g.1 vwCl [(a_M, .inr (5, [.int 0, .int M_n, .ref a_M_a, .ref a_M_rowAt, .ref a_M_places, .ref a_M_rights, .ref a_M_weights, .int M_hasFactors, .ref a_M_pivots, .ref a_M_lower, .int M_hasSolution, .ref a_M_solution, .ref a_M_work, .ref a_M_isJoined, .int M_levels, .ref a_M_stored])), (a_M_a, .inl (g.2.1, 256, .inl M_a)), (a_M_isJoined, .inl (g.2.2.1, 256, .inl u_3)), (a_M_rowAt, .inl (g.2.1, 16, .inl M_rowAt)), (a_M_places, .inl (g.2.1, 16, .inl M_places))] H := hP.sub [1, 2, 3, 4, 0] rfl
    have hD : va_D A [(a_M, .inr (5, [.int 0, .int M_n, .ref a_M_a, .ref a_M_rowAt, .ref a_M_places, .ref a_M_rights, .ref a_M_weights, .int M_hasFactors, .ref a_M_pivots, .ref a_M_lower, .int M_hasSolution, .ref a_M_solution, .ref a_M_work, .ref a_M_isJoined, .int M_levels, .ref a_M_stored])), (a_M_a, .inl (g.2.1, 256, .inl M_a)), (a_M_isJoined, .inl (g.2.2.1, 256, .inl u_3)), (a_M_rowAt, .inl (g.2.1, 16, .inl M_rowAt)), (a_M_places, .inl (g.2.1, 16, .inl M_places))] := hD.sub [1, 2, 3, 4, 0] (by decide) rfl
    refine lv_aload_n hx hb dX5_width_23 rfl (lv_at hl 0 rfl) ?_
    refine lv_iload_n hx hb dX5_width_24 rfl (lv_at hl 1 rfl) ?_
    refine cx_iVr (As := [.int i_i]) (rest := []) ⟨hx, hb, hml, hown, hts⟩ (c_X5_widthOf l g a_M a_M_a a_M_rowAt a_M_places a_M_rights a_M_weights a_M_pivots a_M_lower a_M_solution a_M_work a_M_isJoined a_M_stored i_i 0 M_n M_hasFactors M_hasSolution M_levels u_3 M_places hv) (cx_cwV 1 hts cw_m_X5_133 cw_i_X5_widthOf cw_s_X5_widthOf cw_n_X5 cw_c_X5_widthOf rfl rfl (by decide +kernel) ⟨Nat.le_of_ble_eq_true rfl, Nat.le_of_ble_eq_true rfl⟩) hK hP hD hS hA 0 5 rfl rfl [0, 2, 4] rfl rfl rfl hl.1 rfl (Nat.le_of_ble_eq_true rfl) dX5_width_25 ⟨Nat.le_of_ble_eq_true rfl, Nat.le_of_ble_eq_true rfl⟩ (fun r_5 H locs hv hP hS => ?_)
    exact cx_iret hx hb hr hlocks hAe hS (0, u_3) hv hP hD dX5_width_28
  · replace hv := hv.1 hc
    refine lv_aload_n hx hb dX5_width_13 rfl (lv_at hl 0 rfl) ?_
    refine lv_iconst (v := 1) hx hb dX5_width_14 (by decide) ?_
    refine cx_iV (wr := [(a_M_a, .inl (g.2.1, 256, .inl M_a)), (a_M_isJoined, .inl (g.2.2.1, 256, .inl M_isJoined)), (a_M_rowAt, .inl (g.2.1, 16, .inl M_rowAt)), (a_M_places, .inl (g.2.1, 16, .inl M_places))]) (As := [.int 1]) (rest := []) ⟨hx, hb, hml, hown, hts⟩ (c_X5_no l g a_M a_M_a a_M_rowAt a_M_places a_M_rights a_M_weights a_M_pivots a_M_lower a_M_solution a_M_work a_M_isJoined a_M_stored 1 0 M_n M_hasFactors M_hasSolution M_levels hv) (cx_cwV 1 hts cw_m_X5_72 cw_i_X5_no cw_s_X5_no cw_n_X5 cw_c_X5_no rfl rfl (by decide +kernel) ⟨Nat.le_of_ble_eq_true rfl, Nat.le_of_ble_eq_true rfl⟩) hK hP hD hS hA 0 5 rfl rfl [0] [1, 2, 3, 4] rfl rfl rfl rfl (by decide) rfl hl.1 rfl (Nat.le_of_ble_eq_true rfl) dX5_width_15 ⟨Nat.le_of_ble_eq_true rfl, Nat.le_of_ble_eq_true rfl⟩ (fun r_6 w_8 H locs hv hP hD hS => ?_)
    obtain ⟨u_7, rfl⟩ : ∃ z, z = w_8 := ⟨_, rfl⟩
    have hP : va_P g.1 vwCl [(a_M, .inr (5, [.int u_7, .int M_n, .ref a_M_a, .ref a_M_rowAt, .ref a_M_places, .ref a_M_rights, .ref a_M_weights, .int M_hasFactors, .ref a_M_pivots, .ref a_M_lower, .int M_hasSolution, .ref a_M_solution, .ref a_M_work, .ref a_M_isJoined, .int M_levels, .ref a_M_stored])), (a_M_a, .inl (g.2.1, 256, .inl M_a)), (a_M_isJoined, .inl (g.2.2.1, 256, .inl M_isJoined)), (a_M_rowAt, .inl (g.2.1, 16, .inl M_rowAt)), (a_M_places, .inl (g.2.1, 16, .inl M_places))] H := hP.sub [4, 0, 1, 2, 3] rfl
    have hD : va_D A [(a_M, .inr (5, [.int u_7, .int M_n, .ref a_M_a, .ref a_M_rowAt, .ref a_M_places, .ref a_M_rights, .ref a_M_weights, .int M_hasFactors, .ref a_M_pivots, .ref a_M_lower, .int M_hasSolution, .ref a_M_solution, .ref a_M_work, .ref a_M_isJoined, .int M_levels, .ref a_M_stored])), (a_M_a, .inl (g.2.1, 256, .inl M_a)), (a_M_isJoined, .inl (g.2.2.1, 256, .inl M_isJoined)), (a_M_rowAt, .inl (g.2.1, 16, .inl M_rowAt)), (a_M_places, .inl (g.2.1, 16, .inl M_places))] := hD.sub [4, 0, 1, 2, 3] (by decide) rfl
    exact cx_iret hx hb hr hlocks hAe hS (u_7, M_isJoined) hv hP hD dX5_width_18
def vc_X5_work_0 (M_thrown : Int32) (M_n : Int32) (M_hasFactors : Int32) (M_hasSolution : Int32) (M_levels : Int32) (M_a : (Nat → Int32)) (M_isJoined : (Nat → Int32)) (M_rowAt : (Nat → Int32)) (M_places : (Nat → Int32)) (Q : Int32 → Int32 → (Nat → Int32) → Prop) (G1 : Int32 → Int32 → Int32 → (Nat → Int32) → Prop)  : Prop := wp_X5_fill 0 M_n M_hasFactors M_hasSolution M_levels M_a M_isJoined M_rowAt (fun u_2 => G1 0 0 0 u_2)
def vc_X5_work_1 (M_thrown : Int32) (M_n : Int32) (M_hasFactors : Int32) (M_hasSolution : Int32) (M_levels : Int32) (M_a : (Nat → Int32)) (M_isJoined : (Nat → Int32)) (M_rowAt : (Nat → Int32)) (M_places : (Nat → Int32)) (Q : Int32 → Int32 → (Nat → Int32) → Prop) (G1 : Int32 → Int32 → Int32 → (Nat → Int32) → Prop) (x2 : Int32) (x1 : Int32) (v_M_thrown : Int32) (v_M_isJoined : (Nat → Int32)) : Prop := (M_n ≤ x2 → (Q x1 v_M_thrown v_M_isJoined)) ∧ (¬ M_n ≤ x2 → (wp_X5_widthOf x2 v_M_thrown M_n M_hasFactors M_hasSolution M_levels v_M_isJoined M_places (fun r_1 => wp_X5_widthOf x2 v_M_thrown M_n M_hasFactors M_hasSolution M_levels v_M_isJoined M_places (fun r_2 => ∀ x1_3 : Int32, x1_3 = (x1 + (r_1 * r_2)) → (∀ x2_4 : Int32, x2_4 = x2 + 1 → (G1 x2_4 x1_3 v_M_thrown v_M_isJoined))))))
def wp_X5_work (M_thrown : Int32) (M_n : Int32) (M_hasFactors : Int32) (M_hasSolution : Int32) (M_levels : Int32) (M_a : (Nat → Int32)) (M_isJoined : (Nat → Int32)) (M_rowAt : (Nat → Int32)) (M_places : (Nat → Int32)) (Q : Int32 → Int32 → (Nat → Int32) → Prop) : Prop := ∀ (G1 : Int32 → Int32 → Int32 → (Nat → Int32) → Prop), (∀ (x2 : Int32) (x1 : Int32) (v_M_thrown : Int32) (v_M_isJoined : (Nat → Int32)), vc_X5_work_1 M_thrown M_n M_hasFactors M_hasSolution M_levels M_a M_isJoined M_rowAt M_places Q G1 x2 x1 v_M_thrown v_M_isJoined → G1 x2 x1 v_M_thrown v_M_isJoined) → vc_X5_work_0 M_thrown M_n M_hasFactors M_hasSolution M_levels M_a M_isJoined M_rowAt M_places Q G1
abbrev w0_X5_work (g : cx_G) (a_M a_M_a a_M_rowAt a_M_places a_M_rights a_M_weights a_M_pivots a_M_lower a_M_solution a_M_work a_M_isJoined a_M_stored : Nat) (M_thrown : Int32) (M_n : Int32) (M_hasFactors : Int32) (M_hasSolution : Int32) (M_levels : Int32) (M_a : (Nat → Int32)) (M_isJoined : (Nat → Int32)) (M_rowAt : (Nat → Int32)) (M_places : (Nat → Int32)) : va_W := [(a_M, .inr (5, [.int M_thrown, .int M_n, .ref a_M_a, .ref a_M_rowAt, .ref a_M_places, .ref a_M_rights, .ref a_M_weights, .int M_hasFactors, .ref a_M_pivots, .ref a_M_lower, .int M_hasSolution, .ref a_M_solution, .ref a_M_work, .ref a_M_isJoined, .int M_levels, .ref a_M_stored])), (a_M_a, .inl (g.2.1, 256, .inl M_a)), (a_M_isJoined, .inl (g.2.2.1, 256, .inl M_isJoined)), (a_M_rowAt, .inl (g.2.1, 16, .inl M_rowAt)), (a_M_places, .inl (g.2.1, 16, .inl M_places))]
abbrev w1_X5_work (g : cx_G) (a_M a_M_a a_M_rowAt a_M_places a_M_rights a_M_weights a_M_pivots a_M_lower a_M_solution a_M_work a_M_isJoined a_M_stored : Nat) (M_thrown : Int32) (M_n : Int32) (M_hasFactors : Int32) (M_hasSolution : Int32) (M_levels : Int32) (M_a : (Nat → Int32)) (M_isJoined : (Nat → Int32)) (M_rowAt : (Nat → Int32)) (M_places : (Nat → Int32)) (u : Int32 × (Nat → Int32)) : va_W := [(a_M, .inr (5, [.int u.1, .int M_n, .ref a_M_a, .ref a_M_rowAt, .ref a_M_places, .ref a_M_rights, .ref a_M_weights, .int M_hasFactors, .ref a_M_pivots, .ref a_M_lower, .int M_hasSolution, .ref a_M_solution, .ref a_M_work, .ref a_M_isJoined, .int M_levels, .ref a_M_stored])), (a_M_a, .inl (g.2.1, 256, .inl M_a)), (a_M_isJoined, .inl (g.2.2.1, 256, .inl u.2)), (a_M_rowAt, .inl (g.2.1, 16, .inl M_rowAt)), (a_M_places, .inl (g.2.1, 16, .inl M_places))]
set_option maxHeartbeats 4000000 in
set_option maxRecDepth 100000 in
theorem c_X5_work (l : Launch) (g : cx_G) (a_M a_M_a a_M_rowAt a_M_places a_M_rights a_M_weights a_M_pivots a_M_lower a_M_solution a_M_work a_M_isJoined a_M_stored : Nat) (M_thrown : Int32) (M_n : Int32) (M_hasFactors : Int32) (M_hasSolution : Int32) (M_levels : Int32) (M_a : (Nat → Int32)) (M_isJoined : (Nat → Int32)) (M_rowAt : (Nat → Int32)) (M_places : (Nat → Int32)) {Q : Int32 → Int32 → (Nat → Int32) → Prop} (hv : wp_X5_work M_thrown M_n M_hasFactors M_hasSolution M_levels M_a M_isJoined M_rowAt M_places Q) : cx_Mi l g yX5_work (Cond.code yX5_work cX5_work 3 (some .int) :: cx_T) ({ frames := 4, cells := 0, slots := 0, locals := 86 } : Room) [.ref a_M] (w0_X5_work g a_M a_M_a a_M_rowAt a_M_places a_M_rights a_M_weights a_M_pivots a_M_lower a_M_solution a_M_work a_M_isJoined a_M_stored M_thrown M_n M_hasFactors M_hasSolution M_levels M_a M_isJoined M_rowAt M_places) (fun (r : Int32) (u : Int32 × (Nat → Int32)) => Q r u.1 u.2) (w1_X5_work g a_M a_M_a a_M_rowAt a_M_places a_M_rights a_M_weights a_M_pivots a_M_lower a_M_solution a_M_work a_M_isJoined a_M_stored M_thrown M_n M_hasFactors M_hasSolution M_levels M_a M_isJoined M_rowAt M_places) 0 0 := by
  intro sz
  refine Met.ofW (cc := cX5_work) (maxL := 3) (ret := (some .int)) (by decide) rfl ?_
  intro p e s m args below meth c s₁ B hml hpre
  obtain ⟨rfl, hsz, hP, hK, hD0⟩ := hpre
  have hx := B.exec
  have hb := B.bytes
  have hr := B.returns
  have hts0 := atoms_spec (ws := (Cond.code yX5_work cX5_work 3 (some .int) :: cx_T)) B.pre
  have hts : ∀ w ∈ cx_T, w.before _ s = true := fun w h => hts0 w (List.mem_cons_of_mem _ h)
  have hown : s.vm.findClass RX5 = some m.cls := findClass_of_methodNamed B.named
  have hlocks := B.notSynchronized
  subst hsz
  have hD := hD0.self (sz := s.heap.size)
  obtain ⟨A, hAe⟩ : ∃ A : Nat → Prop, A = va_A (w0_X5_work g a_M a_M_a a_M_rowAt a_M_places a_M_rights a_M_weights a_M_pivots a_M_lower a_M_solution a_M_work a_M_isJoined a_M_stored M_thrown M_n M_hasFactors M_hasSolution M_levels M_a M_isJoined M_rowAt M_places) s.heap.size := ⟨_, rfl⟩
  rw [← hAe] at hD
  have hA : ∀ q : Nat, s.heap.size ≤ q → A q := fun q h => by rw [hAe]; exact Or.inr h
  have hS : va_S A s.heap s.heap [] := va_S.rf
  have hP : va_P g.1 vwCl [(a_M, .inr (5, [.int M_thrown, .int M_n, .ref a_M_a, .ref a_M_rowAt, .ref a_M_places, .ref a_M_rights, .ref a_M_weights, .int M_hasFactors, .ref a_M_pivots, .ref a_M_lower, .int M_hasSolution, .ref a_M_solution, .ref a_M_work, .ref a_M_isJoined, .int M_levels, .ref a_M_stored])), (a_M_a, .inl (g.2.1, 256, .inl M_a)), (a_M_isJoined, .inl (g.2.2.1, 256, .inl M_isJoined)), (a_M_rowAt, .inl (g.2.1, 16, .inl M_rowAt)), (a_M_places, .inl (g.2.1, 16, .inl M_places))] s.heap := hP
  have hD : va_D A [(a_M, .inr (5, [.int M_thrown, .int M_n, .ref a_M_a, .ref a_M_rowAt, .ref a_M_places, .ref a_M_rights, .ref a_M_weights, .int M_hasFactors, .ref a_M_pivots, .ref a_M_lower, .int M_hasSolution, .ref a_M_solution, .ref a_M_work, .ref a_M_isJoined, .int M_levels, .ref a_M_stored])), (a_M_a, .inl (g.2.1, 256, .inl M_a)), (a_M_isJoined, .inl (g.2.2.1, 256, .inl M_isJoined)), (a_M_rowAt, .inl (g.2.1, 16, .inl M_rowAt)), (a_M_places, .inl (g.2.1, 16, .inl M_places))] := hD
  have hl := lv_entry ([.ref a_M]) (n := 3) (Nat.le_of_ble_eq_true rfl)
  rw [lg_entry_eq]
  generalize (lg_sl ([.ref a_M]) ++ List.replicate (3 - (lg_sl ([.ref a_M])).length) Slot.unset).toArray = ls at hl ⊢
  have hl : lv_has ls 3 [(0, .ref a_M)] := hl
  obtain ⟨G1, hG1⟩ : ∃ G : Int32 → Int32 → Int32 → (Nat → Int32) → Prop, G = (fun (x2 : Int32) (x1 : Int32) (v_M_thrown : Int32) (v_M_isJoined : (Nat → Int32)) => ∀ (H : Heap) (locs : List Loc) (ls : Array Slot), va_P g.1 vwCl [(a_M, .inr (5, [.int v_M_thrown, .int M_n, .ref a_M_a, .ref a_M_rowAt, .ref a_M_places, .ref a_M_rights, .ref a_M_weights, .int M_hasFactors, .ref a_M_pivots, .ref a_M_lower, .int M_hasSolution, .ref a_M_solution, .ref a_M_work, .ref a_M_isJoined, .int M_levels, .ref a_M_stored])), (a_M_a, .inl (g.2.1, 256, .inl M_a)), (a_M_isJoined, .inl (g.2.2.1, 256, .inl v_M_isJoined)), (a_M_rowAt, .inl (g.2.1, 16, .inl M_rowAt)), (a_M_places, .inl (g.2.1, 16, .inl M_places))] H → va_D A [(a_M, .inr (5, [.int v_M_thrown, .int M_n, .ref a_M_a, .ref a_M_rowAt, .ref a_M_places, .ref a_M_rights, .ref a_M_weights, .int M_hasFactors, .ref a_M_pivots, .ref a_M_lower, .int M_hasSolution, .ref a_M_solution, .ref a_M_work, .ref a_M_isJoined, .int M_levels, .ref a_M_stored])), (a_M_a, .inl (g.2.1, 256, .inl M_a)), (a_M_isJoined, .inl (g.2.2.1, 256, .inl v_M_isJoined)), (a_M_rowAt, .inl (g.2.1, 16, .inl M_rowAt)), (a_M_places, .inl (g.2.1, 16, .inl M_places))] → va_S A s.heap H locs → lv_has ls 3 [(2, .int x2), (1, .int x1), (0, .ref a_M)] → W p l e (headSpec (Cond.code yX5_work cX5_work 3 (some .int) :: cx_T) ({ frames := 4, cells := 0, slots := 0, locals := 86 } : Room)).room s m ([.ref a_M] : List Value).toArray below meth c H locs 0 0 (MQ below (va_Qi (fun (r : Int32) (u : Int32 × (Nat → Int32)) => Q r u.1 u.2) (cx_B g (w0_X5_work g a_M a_M_a a_M_rowAt a_M_places a_M_rights a_M_weights a_M_pivots a_M_lower a_M_solution a_M_work a_M_isJoined a_M_stored M_thrown M_n M_hasFactors M_hasSolution M_levels M_a M_isJoined M_rowAt M_places) s.heap.size (w1_X5_work g a_M a_M_a a_M_rowAt a_M_places a_M_rights a_M_weights a_M_pivots a_M_lower a_M_solution a_M_work a_M_isJoined a_M_stored M_thrown M_n M_hasFactors M_hasSolution M_levels M_a M_isJoined M_rowAt M_places)) (va_A (w0_X5_work g a_M a_M_a a_M_rowAt a_M_places a_M_rights a_M_weights a_M_pivots a_M_lower a_M_solution a_M_work a_M_isJoined a_M_stored M_thrown M_n M_hasFactors M_hasSolution M_levels M_a M_isJoined M_rowAt M_places) s.heap.size)) ([.ref a_M] : List Value).toArray s 0 0 (va_A (w0_X5_work g a_M a_M_a a_M_rowAt a_M_places a_M_rights a_M_weights a_M_pivots a_M_lower a_M_solution a_M_work a_M_isJoined a_M_stored M_thrown M_n M_hasFactors M_hasSolution M_levels M_a M_isJoined M_rowAt M_places) s.heap.size)) (F0 m 13 ls [])) := ⟨_, rfl⟩
  have hs1 : ∀ (x2 : Int32) (x1 : Int32) (v_M_thrown : Int32) (v_M_isJoined : (Nat → Int32)), vc_X5_work_1 M_thrown M_n M_hasFactors M_hasSolution M_levels M_a M_isJoined M_rowAt M_places Q G1 x2 x1 v_M_thrown v_M_isJoined → G1 x2 x1 v_M_thrown v_M_isJoined := by
    rw [hG1]
    intro x2 x1 v_M_thrown v_M_isJoined hv H locs ls hP hD hS hl
    unfold vc_X5_work_1 at hv
    refine lv_iload_n hx hb dX5_work_13 rfl (lv_at hl 0 rfl) ?_
    refine lv_aload_n hx hb dX5_work_14 rfl (lv_at hl 2 rfl) ?_
    refine va_get (D := g.1) (ci := 5) (v := .int M_n) (C := RX5) (T := TX5) (N := 16) hx hb hts cw_in_X5 hown hK.1 hP 0 rfl rfl 1 (by decide) (hts _ cw_f_X5_9) (fun _ h9 => h9) rfl dX5_work_15 ?_
    refine lv_icmp_ge (tgt := 41) hx hb dX5_work_18 (by decide) (fun hc => ?_) (fun hc => ?_)
    · replace hv := hv.1 hc
      refine lv_iload_n hx hb dX5_work_41 rfl (lv_at hl 1 rfl) ?_
      exact cx_iret hx hb hr hlocks hAe hS (v_M_thrown, v_M_isJoined) hv hP hD dX5_work_42
    · replace hv := hv.2 hc
      refine lv_iload_n hx hb dX5_work_21 rfl (lv_at hl 1 rfl) ?_
      refine lv_aload_n hx hb dX5_work_22 rfl (lv_at hl 2 rfl) ?_
      refine lv_iload_n hx hb dX5_work_23 rfl (lv_at hl 0 rfl) ?_
      refine cx_iVr (As := [.int x2]) (rest := [.int x1]) ⟨hx, hb, hml, hown, hts⟩ (c_X5_widthOf l g a_M a_M_a a_M_rowAt a_M_places a_M_rights a_M_weights a_M_pivots a_M_lower a_M_solution a_M_work a_M_isJoined a_M_stored x2 v_M_thrown M_n M_hasFactors M_hasSolution M_levels v_M_isJoined M_places hv) (cx_cwV 1 hts cw_m_X5_133 cw_i_X5_widthOf cw_s_X5_widthOf cw_n_X5 cw_c_X5_widthOf rfl rfl (by decide +kernel) ⟨Nat.le_of_ble_eq_true rfl, Nat.le_of_ble_eq_true rfl⟩) hK hP hD hS hA 0 5 rfl rfl [0, 2, 4] rfl rfl rfl hl.1 rfl (Nat.le_of_ble_eq_true rfl) dX5_work_24 ⟨Nat.le_of_ble_eq_true rfl, Nat.le_of_ble_eq_true rfl⟩ (fun r_1 H locs hv hP hS => ?_)
      refine lv_aload_n hx hb dX5_work_27 rfl (lv_at hl 2 rfl) ?_
      refine lv_iload_n hx hb dX5_work_28 rfl (lv_at hl 0 rfl) ?_
      refine cx_iVr (As := [.int x2]) (rest := [.int r_1, .int x1]) ⟨hx, hb, hml, hown, hts⟩ (c_X5_widthOf l g a_M a_M_a a_M_rowAt a_M_places a_M_rights a_M_weights a_M_pivots a_M_lower a_M_solution a_M_work a_M_isJoined a_M_stored x2 v_M_thrown M_n M_hasFactors M_hasSolution M_levels v_M_isJoined M_places hv) (cx_cwV 1 hts cw_m_X5_133 cw_i_X5_widthOf cw_s_X5_widthOf cw_n_X5 cw_c_X5_widthOf rfl rfl (by decide +kernel) ⟨Nat.le_of_ble_eq_true rfl, Nat.le_of_ble_eq_true rfl⟩) hK hP hD hS hA 0 5 rfl rfl [0, 2, 4] rfl rfl rfl hl.1 rfl (Nat.le_of_ble_eq_true rfl) dX5_work_29 ⟨Nat.le_of_ble_eq_true rfl, Nat.le_of_ble_eq_true rfl⟩ (fun r_2 H locs hv hP hS => ?_)
      refine lv_imul hx hb dX5_work_32 ?_
      refine lv_iadd hx hb dX5_work_33 ?_
      refine lv_topi (fun x1_3 ex1_3 => ?_)
      replace hv := hv x1_3 ex1_3
      refine lv_istore_n (lv' := [(1, .int x1_3), (2, .int x2), (0, .ref a_M)]) hx hb dX5_work_34 rfl hl (by decide) rfl (fun ls hl => ?_)
      obtain ⟨x2_4, ex2_4⟩ : ∃ y : Int32, y = x2 + 1 := ⟨_, rfl⟩
      replace hv := hv x2_4 ex2_4
      refine lv_iinc (v := x2_4) (lv' := [(2, .int x2_4), (1, .int x1_3), (0, .ref a_M)]) hx hb dX5_work_35 hl (k := 1) rfl (by rw [ex2_4]; rfl) (by decide) rfl (fun ls hl => ?_)
      refine lv_goto (tgt := 13) hx hb dX5_work_38 (by decide) ?_
      exact hv _ _ _ hP hD hS (lv_sub hl [0, 1, 2] rfl)
  replace hv := hv G1 hs1
  rw [hG1] at hv
  unfold vc_X5_work_0 at hv
  refine lv_aload_n hx hb dX5_work_0 rfl (lv_at hl 0 rfl) ?_
  refine lv_iconst (v := 0) hx hb dX5_work_1 (by decide) ?_
  refine va_put (D := g.1) (ci := 5) (v := .int 0) (ty := .int) (C := RX5) (T := TX5) (N := 16) hx hb hts cw_in_X5 tyX5 tyX5_ok nmX5 hown hK.1 hP hD hS 0 rfl rfl 0 (by decide) (hts _ cw_f_X5_51) (fun _ h9 => h9) rfl (by decide +kernel) rfl rfl (Nat.le_of_ble_eq_true rfl) dX5_work_2 (fun H locs hP hD hS => ?_)
  have hP : va_P g.1 vwCl [(a_M, .inr (5, [.int 0, .int M_n, .ref a_M_a, .ref a_M_rowAt, .ref a_M_places, .ref a_M_rights, .ref a_M_weights, .int M_hasFactors, .ref a_M_pivots, .ref a_M_lower, .int M_hasSolution, .ref a_M_solution, .ref a_M_work, .ref a_M_isJoined, .int M_levels, .ref a_M_stored])), (a_M_a, .inl (g.2.1, 256, .inl M_a)), (a_M_isJoined, .inl (g.2.2.1, 256, .inl M_isJoined)), (a_M_rowAt, .inl (g.2.1, 16, .inl M_rowAt)), (a_M_places, .inl (g.2.1, 16, .inl M_places))] H := hP
  have hD : va_D A [(a_M, .inr (5, [.int 0, .int M_n, .ref a_M_a, .ref a_M_rowAt, .ref a_M_places, .ref a_M_rights, .ref a_M_weights, .int M_hasFactors, .ref a_M_pivots, .ref a_M_lower, .int M_hasSolution, .ref a_M_solution, .ref a_M_work, .ref a_M_isJoined, .int M_levels, .ref a_M_stored])), (a_M_a, .inl (g.2.1, 256, .inl M_a)), (a_M_isJoined, .inl (g.2.2.1, 256, .inl M_isJoined)), (a_M_rowAt, .inl (g.2.1, 16, .inl M_rowAt)), (a_M_places, .inl (g.2.1, 16, .inl M_places))] := hD
  refine lv_aload_n hx hb dX5_work_5 rfl (lv_at hl 0 rfl) ?_
  refine cx_vV (wr := [(a_M_places, .inl (g.2.1, 16, .inl M_places))]) (As := []) (rest := []) ⟨hx, hb, hml, hown, hts⟩ (c_X5_fill l g a_M a_M_a a_M_rowAt a_M_places a_M_rights a_M_weights a_M_pivots a_M_lower a_M_solution a_M_work a_M_isJoined a_M_stored 0 M_n M_hasFactors M_hasSolution M_levels M_a M_isJoined M_rowAt hv) (cx_cwV 0 hts cw_m_X5_116 cw_i_X5_fill cw_s_X5_fill cw_n_X5 cw_c_X5_fill rfl rfl (by decide +kernel) ⟨Nat.le_of_ble_eq_true rfl, Nat.le_of_ble_eq_true rfl⟩) hK hP hD hS hA 0 5 rfl rfl [0, 1, 2, 3] [4] rfl rfl rfl rfl (by decide) rfl hl.1 rfl (Nat.le_of_ble_eq_true rfl) dX5_work_6 ⟨Nat.le_of_ble_eq_true rfl, Nat.le_of_ble_eq_true rfl⟩ (fun w_3 H locs hv hP hD hS => ?_)
  obtain ⟨u_2, rfl⟩ : ∃ z, z = w_3 := ⟨_, rfl⟩
  have hP : va_P g.1 vwCl [(a_M, .inr (5, [.int 0, .int M_n, .ref a_M_a, .ref a_M_rowAt, .ref a_M_places, .ref a_M_rights, .ref a_M_weights, .int M_hasFactors, .ref a_M_pivots, .ref a_M_lower, .int M_hasSolution, .ref a_M_solution, .ref a_M_work, .ref a_M_isJoined, .int M_levels, .ref a_M_stored])), (a_M_a, .inl (g.2.1, 256, .inl M_a)), (a_M_isJoined, .inl (g.2.2.1, 256, .inl u_2)), (a_M_rowAt, .inl (g.2.1, 16, .inl M_rowAt)), (a_M_places, .inl (g.2.1, 16, .inl M_places))] H := hP.sub [1, 2, 3, 4, 0] rfl
  have hD : va_D A [(a_M, .inr (5, [.int 0, .int M_n, .ref a_M_a, .ref a_M_rowAt, .ref a_M_places, .ref a_M_rights, .ref a_M_weights, .int M_hasFactors, .ref a_M_pivots, .ref a_M_lower, .int M_hasSolution, .ref a_M_solution, .ref a_M_work, .ref a_M_isJoined, .int M_levels, .ref a_M_stored])), (a_M_a, .inl (g.2.1, 256, .inl M_a)), (a_M_isJoined, .inl (g.2.2.1, 256, .inl u_2)), (a_M_rowAt, .inl (g.2.1, 16, .inl M_rowAt)), (a_M_places, .inl (g.2.1, 16, .inl M_places))] := hD.sub [1, 2, 3, 4, 0] (by decide) rfl
  refine lv_iconst (v := 0) hx hb dX5_work_9 (by decide) ?_
  refine lv_istore_n (lv' := [(1, .int 0), (0, .ref a_M)]) hx hb dX5_work_10 rfl hl (by decide) rfl (fun ls hl => ?_)
  refine lv_iconst (v := 0) hx hb dX5_work_11 (by decide) ?_
  refine lv_istore_n (lv' := [(2, .int 0), (1, .int 0), (0, .ref a_M)]) hx hb dX5_work_12 rfl hl (by decide) rfl (fun ls hl => ?_)
  exact hv _ _ _ hP hD hS (lv_sub hl [0, 1, 2] rfl)
def vc_X5_parentOf_0 (i_i : Int32) (M_thrown : Int32) (M_n : Int32) (M_hasFactors : Int32) (M_hasSolution : Int32) (M_levels : Int32) (M_places : (Nat → Int32)) (M_rowAt : (Nat → Int32)) (M_isJoined : (Nat → Int32)) (Q : Int32 → Prop) (G1 : Int32 → Prop)  : Prop := vp_in i_i 16 ∧ (∀ x2_2 : Int32, x2_2 = ((M_places (Int32.toNatClampNeg i_i)) + 1) → (G1 x2_2))
def vc_X5_parentOf_1 (i_i : Int32) (M_thrown : Int32) (M_n : Int32) (M_hasFactors : Int32) (M_hasSolution : Int32) (M_levels : Int32) (M_places : (Nat → Int32)) (M_rowAt : (Nat → Int32)) (M_isJoined : (Nat → Int32)) (Q : Int32 → Prop) (G1 : Int32 → Prop) (x2 : Int32) : Prop := (M_n ≤ x2 → (Q (-1))) ∧ (¬ M_n ≤ x2 → (vp_in x2 16 ∧ (vp_in (f_at i_i (M_rowAt (Int32.toNatClampNeg x2))) 256 ∧ (((M_isJoined (Int32.toNatClampNeg (f_at i_i (M_rowAt (Int32.toNatClampNeg x2))))) = 0 → (∀ x2_4 : Int32, x2_4 = x2 + 1 → (G1 x2_4))) ∧ (¬ (M_isJoined (Int32.toNatClampNeg (f_at i_i (M_rowAt (Int32.toNatClampNeg x2))))) = 0 → (vp_in x2 16 ∧ (Q (M_rowAt (Int32.toNatClampNeg x2)))))))))
def wp_X5_parentOf (i_i : Int32) (M_thrown : Int32) (M_n : Int32) (M_hasFactors : Int32) (M_hasSolution : Int32) (M_levels : Int32) (M_places : (Nat → Int32)) (M_rowAt : (Nat → Int32)) (M_isJoined : (Nat → Int32)) (Q : Int32 → Prop) : Prop := ∀ (G1 : Int32 → Prop), (∀ (x2 : Int32), vc_X5_parentOf_1 i_i M_thrown M_n M_hasFactors M_hasSolution M_levels M_places M_rowAt M_isJoined Q G1 x2 → G1 x2) → vc_X5_parentOf_0 i_i M_thrown M_n M_hasFactors M_hasSolution M_levels M_places M_rowAt M_isJoined Q G1
abbrev w0_X5_parentOf (g : cx_G) (a_M a_M_a a_M_rowAt a_M_places a_M_rights a_M_weights a_M_pivots a_M_lower a_M_solution a_M_work a_M_isJoined a_M_stored : Nat) (M_thrown : Int32) (M_n : Int32) (M_hasFactors : Int32) (M_hasSolution : Int32) (M_levels : Int32) (M_places : (Nat → Int32)) (M_rowAt : (Nat → Int32)) (M_isJoined : (Nat → Int32)) : va_W := [(a_M, .inr (5, [.int M_thrown, .int M_n, .ref a_M_a, .ref a_M_rowAt, .ref a_M_places, .ref a_M_rights, .ref a_M_weights, .int M_hasFactors, .ref a_M_pivots, .ref a_M_lower, .int M_hasSolution, .ref a_M_solution, .ref a_M_work, .ref a_M_isJoined, .int M_levels, .ref a_M_stored])), (a_M_places, .inl (g.2.1, 16, .inl M_places)), (a_M_rowAt, .inl (g.2.1, 16, .inl M_rowAt)), (a_M_isJoined, .inl (g.2.2.1, 256, .inl M_isJoined))]
set_option maxHeartbeats 4000000 in
set_option maxRecDepth 100000 in
theorem c_X5_parentOf (l : Launch) (g : cx_G) (a_M a_M_a a_M_rowAt a_M_places a_M_rights a_M_weights a_M_pivots a_M_lower a_M_solution a_M_work a_M_isJoined a_M_stored : Nat) (i_i : Int32) (M_thrown : Int32) (M_n : Int32) (M_hasFactors : Int32) (M_hasSolution : Int32) (M_levels : Int32) (M_places : (Nat → Int32)) (M_rowAt : (Nat → Int32)) (M_isJoined : (Nat → Int32)) {Q : Int32 → Prop} (hv : wp_X5_parentOf i_i M_thrown M_n M_hasFactors M_hasSolution M_levels M_places M_rowAt M_isJoined Q) : cx_Mi l g yX5_parentOf (Cond.code yX5_parentOf cX5_parentOf 3 (some .int) :: cx_T) ({ frames := 1, cells := 0, slots := 0, locals := 21 } : Room) [.ref a_M, .int i_i] (w0_X5_parentOf g a_M a_M_a a_M_rowAt a_M_places a_M_rights a_M_weights a_M_pivots a_M_lower a_M_solution a_M_work a_M_isJoined a_M_stored M_thrown M_n M_hasFactors M_hasSolution M_levels M_places M_rowAt M_isJoined) (fun (r : Int32) (_ : Unit) => Q r) (fun _ : Unit => (w0_X5_parentOf g a_M a_M_a a_M_rowAt a_M_places a_M_rights a_M_weights a_M_pivots a_M_lower a_M_solution a_M_work a_M_isJoined a_M_stored M_thrown M_n M_hasFactors M_hasSolution M_levels M_places M_rowAt M_isJoined)) 0 0 := by
  intro sz
  refine Met.ofW (cc := cX5_parentOf) (maxL := 3) (ret := (some .int)) (by decide) rfl ?_
  intro p e s m args below meth c s₁ B hml hpre
  obtain ⟨rfl, hsz, hP, hK, hD0⟩ := hpre
  have hx := B.exec
  have hb := B.bytes
  have hr := B.returns
  have hts0 := atoms_spec (ws := (Cond.code yX5_parentOf cX5_parentOf 3 (some .int) :: cx_T)) B.pre
  have hts : ∀ w ∈ cx_T, w.before _ s = true := fun w h => hts0 w (List.mem_cons_of_mem _ h)
  have hown : s.vm.findClass RX5 = some m.cls := findClass_of_methodNamed B.named
  have hlocks := B.notSynchronized
  subst hsz
  have hD := hD0.self (sz := s.heap.size)
  obtain ⟨A, hAe⟩ : ∃ A : Nat → Prop, A = va_A (w0_X5_parentOf g a_M a_M_a a_M_rowAt a_M_places a_M_rights a_M_weights a_M_pivots a_M_lower a_M_solution a_M_work a_M_isJoined a_M_stored M_thrown M_n M_hasFactors M_hasSolution M_levels M_places M_rowAt M_isJoined) s.heap.size := ⟨_, rfl⟩
  rw [← hAe] at hD
  have hA : ∀ q : Nat, s.heap.size ≤ q → A q := fun q h => by rw [hAe]; exact Or.inr h
  have hS : va_S A s.heap s.heap [] := va_S.rf
  have hP : va_P g.1 vwCl [(a_M, .inr (5, [.int M_thrown, .int M_n, .ref a_M_a, .ref a_M_rowAt, .ref a_M_places, .ref a_M_rights, .ref a_M_weights, .int M_hasFactors, .ref a_M_pivots, .ref a_M_lower, .int M_hasSolution, .ref a_M_solution, .ref a_M_work, .ref a_M_isJoined, .int M_levels, .ref a_M_stored])), (a_M_places, .inl (g.2.1, 16, .inl M_places)), (a_M_rowAt, .inl (g.2.1, 16, .inl M_rowAt)), (a_M_isJoined, .inl (g.2.2.1, 256, .inl M_isJoined))] s.heap := hP
  have hD : va_D A [(a_M, .inr (5, [.int M_thrown, .int M_n, .ref a_M_a, .ref a_M_rowAt, .ref a_M_places, .ref a_M_rights, .ref a_M_weights, .int M_hasFactors, .ref a_M_pivots, .ref a_M_lower, .int M_hasSolution, .ref a_M_solution, .ref a_M_work, .ref a_M_isJoined, .int M_levels, .ref a_M_stored])), (a_M_places, .inl (g.2.1, 16, .inl M_places)), (a_M_rowAt, .inl (g.2.1, 16, .inl M_rowAt)), (a_M_isJoined, .inl (g.2.2.1, 256, .inl M_isJoined))] := hD
  have hl := lv_entry ([.ref a_M, .int i_i]) (n := 3) (Nat.le_of_ble_eq_true rfl)
  rw [lg_entry_eq]
  generalize (lg_sl ([.ref a_M, .int i_i]) ++ List.replicate (3 - (lg_sl ([.ref a_M, .int i_i])).length) Slot.unset).toArray = ls at hl ⊢
  have hl : lv_has ls 3 [(0, .ref a_M), (1, .int i_i)] := hl
  obtain ⟨G1, hG1⟩ : ∃ G : Int32 → Prop, G = (fun (x2 : Int32) => ∀ (H : Heap) (locs : List Loc) (ls : Array Slot), va_P g.1 vwCl [(a_M, .inr (5, [.int M_thrown, .int M_n, .ref a_M_a, .ref a_M_rowAt, .ref a_M_places, .ref a_M_rights, .ref a_M_weights, .int M_hasFactors, .ref a_M_pivots, .ref a_M_lower, .int M_hasSolution, .ref a_M_solution, .ref a_M_work, .ref a_M_isJoined, .int M_levels, .ref a_M_stored])), (a_M_places, .inl (g.2.1, 16, .inl M_places)), (a_M_rowAt, .inl (g.2.1, 16, .inl M_rowAt)), (a_M_isJoined, .inl (g.2.2.1, 256, .inl M_isJoined))] H → va_D A [(a_M, .inr (5, [.int M_thrown, .int M_n, .ref a_M_a, .ref a_M_rowAt, .ref a_M_places, .ref a_M_rights, .ref a_M_weights, .int M_hasFactors, .ref a_M_pivots, .ref a_M_lower, .int M_hasSolution, .ref a_M_solution, .ref a_M_work, .ref a_M_isJoined, .int M_levels, .ref a_M_stored])), (a_M_places, .inl (g.2.1, 16, .inl M_places)), (a_M_rowAt, .inl (g.2.1, 16, .inl M_rowAt)), (a_M_isJoined, .inl (g.2.2.1, 256, .inl M_isJoined))] → va_S A s.heap H locs → lv_has ls 3 [(2, .int x2), (0, .ref a_M), (1, .int i_i)] → W p l e (headSpec (Cond.code yX5_parentOf cX5_parentOf 3 (some .int) :: cx_T) ({ frames := 1, cells := 0, slots := 0, locals := 21 } : Room)).room s m ([.ref a_M, .int i_i] : List Value).toArray below meth c H locs 0 0 (MQ below (va_Qi (fun (r : Int32) (_ : Unit) => Q r) (cx_B g (w0_X5_parentOf g a_M a_M_a a_M_rowAt a_M_places a_M_rights a_M_weights a_M_pivots a_M_lower a_M_solution a_M_work a_M_isJoined a_M_stored M_thrown M_n M_hasFactors M_hasSolution M_levels M_places M_rowAt M_isJoined) s.heap.size (fun _ : Unit => (w0_X5_parentOf g a_M a_M_a a_M_rowAt a_M_places a_M_rights a_M_weights a_M_pivots a_M_lower a_M_solution a_M_work a_M_isJoined a_M_stored M_thrown M_n M_hasFactors M_hasSolution M_levels M_places M_rowAt M_isJoined))) (va_A (w0_X5_parentOf g a_M a_M_a a_M_rowAt a_M_places a_M_rights a_M_weights a_M_pivots a_M_lower a_M_solution a_M_work a_M_isJoined a_M_stored M_thrown M_n M_hasFactors M_hasSolution M_levels M_places M_rowAt M_isJoined) s.heap.size)) ([.ref a_M, .int i_i] : List Value).toArray s 0 0 (va_A (w0_X5_parentOf g a_M a_M_a a_M_rowAt a_M_places a_M_rights a_M_weights a_M_pivots a_M_lower a_M_solution a_M_work a_M_isJoined a_M_stored M_thrown M_n M_hasFactors M_hasSolution M_levels M_places M_rowAt M_isJoined) s.heap.size)) (F0 m 9 ls [])) := ⟨_, rfl⟩
  have hs1 : ∀ (x2 : Int32), vc_X5_parentOf_1 i_i M_thrown M_n M_hasFactors M_hasSolution M_levels M_places M_rowAt M_isJoined Q G1 x2 → G1 x2 := by
    rw [hG1]
    intro x2 hv H locs ls hP hD hS hl
    unfold vc_X5_parentOf_1 at hv
    refine lv_iload_n hx hb dX5_parentOf_9 rfl (lv_at hl 0 rfl) ?_
    refine lv_aload_n hx hb dX5_parentOf_10 rfl (lv_at hl 1 rfl) ?_
    refine va_get (D := g.1) (ci := 5) (v := .int M_n) (C := RX5) (T := TX5) (N := 16) hx hb hts cw_in_X5 hown hK.1 hP 0 rfl rfl 1 (by decide) (hts _ cw_f_X5_9) (fun _ h9 => h9) rfl dX5_parentOf_11 ?_
    refine lv_icmp_ge (tgt := 48) hx hb dX5_parentOf_14 (by decide) (fun hc => ?_) (fun hc => ?_)
    · replace hv := hv.1 hc
      refine lv_iconst (v := (-1)) hx hb dX5_parentOf_48 (by decide) ?_
      exact cx_iret hx hb hr hlocks hAe hS () hv hP hD dX5_parentOf_49
    · replace hv := hv.2 hc
      refine lv_aload_n hx hb dX5_parentOf_17 rfl (lv_at hl 1 rfl) ?_
      refine va_get (D := g.1) (ci := 5) (v := .ref a_M_isJoined) (C := RX5) (T := TX5) (N := 16) hx hb hts cw_in_X5 hown hK.1 hP 0 rfl rfl 13 (by decide) (hts _ cw_f_X5_41) (fun _ h9 => h9) rfl dX5_parentOf_18 ?_
      refine lv_iload_n hx hb dX5_parentOf_21 rfl (lv_at hl 2 rfl) ?_
      refine lv_aload_n hx hb dX5_parentOf_22 rfl (lv_at hl 1 rfl) ?_
      refine va_get (D := g.1) (ci := 5) (v := .ref a_M_rowAt) (C := RX5) (T := TX5) (N := 16) hx hb hts cw_in_X5 hown hK.1 hP 0 rfl rfl 3 (by decide) (hts _ cw_f_X5_17) (fun _ h9 => h9) rfl dX5_parentOf_23 ?_
      refine lv_iload_n hx hb dX5_parentOf_26 rfl (lv_at hl 0 rfl) ?_
      obtain ⟨h_1, hv⟩ := hv
      refine va_iald (D := g.1) hx hb hK.1 hP 2 0 rfl rfl h_1 dX5_parentOf_27 ?_
      refine cx_iSr (As := [.int i_i, .int (M_rowAt (Int32.toNatClampNeg x2))]) (rest := [.ref a_M_isJoined]) ⟨hx, hb, hml, hown, hts⟩ (cp_X5_at l g i_i (M_rowAt (Int32.toNatClampNeg x2))) (cx_cwS 2 hts cw_m_X5_62 cw_t_X5_at cw_n_X5 cw_c_X5_at rfl rfl (by decide +kernel) ⟨Nat.le_of_ble_eq_true rfl, Nat.le_of_ble_eq_true rfl⟩) hK hP hD hS hA [] rfl rfl rfl hl.1 rfl (Nat.le_of_ble_eq_true rfl) dX5_parentOf_28 ⟨Nat.le_of_ble_eq_true rfl, Nat.le_of_ble_eq_true rfl⟩ (fun r_2 H locs hr9 hP hS => ?_)
      replace hr9 : r_2 = (f_at i_i (M_rowAt (Int32.toNatClampNeg x2))) := hr9
      subst hr9
      obtain ⟨h_3, hv⟩ := hv
      refine va_zald (D := g.1) hx hb hK.1 hP 3 1 rfl rfl h_3 dX5_parentOf_31 ?_
      refine lv_if_eq (tgt := 42) hx hb dX5_parentOf_32 (by decide) (fun hc => ?_) (fun hc => ?_)
      · replace hv := hv.1 hc
        obtain ⟨x2_4, ex2_4⟩ : ∃ y : Int32, y = x2 + 1 := ⟨_, rfl⟩
        replace hv := hv x2_4 ex2_4
        refine lv_iinc (v := x2_4) (lv' := [(2, .int x2_4), (0, .ref a_M), (1, .int i_i)]) hx hb dX5_parentOf_42 hl (k := 0) rfl (by rw [ex2_4]; rfl) (by decide) rfl (fun ls hl => ?_)
        refine lv_goto (tgt := 9) hx hb dX5_parentOf_45 (by decide) ?_
        exact hv _ _ _ hP hD hS (lv_sub hl [0, 1, 2] rfl)
      · replace hv := hv.2 hc
        refine lv_aload_n hx hb dX5_parentOf_35 rfl (lv_at hl 1 rfl) ?_
        refine va_get (D := g.1) (ci := 5) (v := .ref a_M_rowAt) (C := RX5) (T := TX5) (N := 16) hx hb hts cw_in_X5 hown hK.1 hP 0 rfl rfl 3 (by decide) (hts _ cw_f_X5_17) (fun _ h9 => h9) rfl dX5_parentOf_36 ?_
        refine lv_iload_n hx hb dX5_parentOf_39 rfl (lv_at hl 0 rfl) ?_
        obtain ⟨h_5, hv⟩ := hv
        refine va_iald (D := g.1) hx hb hK.1 hP 2 0 rfl rfl h_5 dX5_parentOf_40 ?_
        exact cx_iret hx hb hr hlocks hAe hS () hv hP hD dX5_parentOf_41
  replace hv := hv G1 hs1
  rw [hG1] at hv
  unfold vc_X5_parentOf_0 at hv
  refine lv_aload_n hx hb dX5_parentOf_0 rfl (lv_at hl 0 rfl) ?_
  refine va_get (D := g.1) (ci := 5) (v := .ref a_M_places) (C := RX5) (T := TX5) (N := 16) hx hb hts cw_in_X5 hown hK.1 hP 0 rfl rfl 4 (by decide) (hts _ cw_f_X5_20) (fun _ h9 => h9) rfl dX5_parentOf_1 ?_
  refine lv_iload_n hx hb dX5_parentOf_4 rfl (lv_at hl 1 rfl) ?_
  obtain ⟨h_1, hv⟩ := hv
  refine va_iald (D := g.1) hx hb hK.1 hP 1 0 rfl rfl h_1 dX5_parentOf_5 ?_
  refine lv_iconst (v := 1) hx hb dX5_parentOf_6 (by decide) ?_
  refine lv_iadd hx hb dX5_parentOf_7 ?_
  refine lv_topi (fun x2_2 ex2_2 => ?_)
  replace hv := hv x2_2 ex2_2
  refine lv_istore_n (lv' := [(2, .int x2_2), (0, .ref a_M), (1, .int i_i)]) hx hb dX5_parentOf_8 rfl hl (by decide) rfl (fun ls hl => ?_)
  exact hv _ _ _ hP hD hS (lv_sub hl [0, 1, 2] rfl)
def vc_X5_lineOf_0 (i_i : Int32) (M_thrown : Int32) (M_n : Int32) (M_hasFactors : Int32) (M_hasSolution : Int32) (M_levels : Int32) (M_places : (Nat → Int32)) (M_rowAt : (Nat → Int32)) (M_isJoined : (Nat → Int32)) (Q : Int32 → Prop) (G1 : Int32 → Int32 → Prop)  : Prop := G1 i_i 0
def vc_X5_lineOf_1 (i_i : Int32) (M_thrown : Int32) (M_n : Int32) (M_hasFactors : Int32) (M_hasSolution : Int32) (M_levels : Int32) (M_places : (Nat → Int32)) (M_rowAt : (Nat → Int32)) (M_isJoined : (Nat → Int32)) (Q : Int32 → Prop) (G1 : Int32 → Int32 → Prop) (x3 : Int32) (x2 : Int32) : Prop := (x3 = (-1) → (Q x2)) ∧ (¬ x3 = (-1) → (∀ x2_1 : Int32, x2_1 = (x2 ||| (1 <<< (x3 &&& 31))) → (wp_X5_parentOf x3 M_thrown M_n M_hasFactors M_hasSolution M_levels M_places M_rowAt M_isJoined (fun r_2 => G1 r_2 x2_1))))
def wp_X5_lineOf (i_i : Int32) (M_thrown : Int32) (M_n : Int32) (M_hasFactors : Int32) (M_hasSolution : Int32) (M_levels : Int32) (M_places : (Nat → Int32)) (M_rowAt : (Nat → Int32)) (M_isJoined : (Nat → Int32)) (Q : Int32 → Prop) : Prop := ∀ (G1 : Int32 → Int32 → Prop), (∀ (x3 : Int32) (x2 : Int32), vc_X5_lineOf_1 i_i M_thrown M_n M_hasFactors M_hasSolution M_levels M_places M_rowAt M_isJoined Q G1 x3 x2 → G1 x3 x2) → vc_X5_lineOf_0 i_i M_thrown M_n M_hasFactors M_hasSolution M_levels M_places M_rowAt M_isJoined Q G1
abbrev w0_X5_lineOf (g : cx_G) (a_M a_M_a a_M_rowAt a_M_places a_M_rights a_M_weights a_M_pivots a_M_lower a_M_solution a_M_work a_M_isJoined a_M_stored : Nat) (M_thrown : Int32) (M_n : Int32) (M_hasFactors : Int32) (M_hasSolution : Int32) (M_levels : Int32) (M_places : (Nat → Int32)) (M_rowAt : (Nat → Int32)) (M_isJoined : (Nat → Int32)) : va_W := [(a_M, .inr (5, [.int M_thrown, .int M_n, .ref a_M_a, .ref a_M_rowAt, .ref a_M_places, .ref a_M_rights, .ref a_M_weights, .int M_hasFactors, .ref a_M_pivots, .ref a_M_lower, .int M_hasSolution, .ref a_M_solution, .ref a_M_work, .ref a_M_isJoined, .int M_levels, .ref a_M_stored])), (a_M_places, .inl (g.2.1, 16, .inl M_places)), (a_M_rowAt, .inl (g.2.1, 16, .inl M_rowAt)), (a_M_isJoined, .inl (g.2.2.1, 256, .inl M_isJoined))]
set_option maxHeartbeats 4000000 in
set_option maxRecDepth 100000 in
theorem c_X5_lineOf (l : Launch) (g : cx_G) (a_M a_M_a a_M_rowAt a_M_places a_M_rights a_M_weights a_M_pivots a_M_lower a_M_solution a_M_work a_M_isJoined a_M_stored : Nat) (i_i : Int32) (M_thrown : Int32) (M_n : Int32) (M_hasFactors : Int32) (M_hasSolution : Int32) (M_levels : Int32) (M_places : (Nat → Int32)) (M_rowAt : (Nat → Int32)) (M_isJoined : (Nat → Int32)) {Q : Int32 → Prop} (hv : wp_X5_lineOf i_i M_thrown M_n M_hasFactors M_hasSolution M_levels M_places M_rowAt M_isJoined Q) : cx_Mi l g yX5_lineOf (Cond.code yX5_lineOf cX5_lineOf 4 (some .int) :: cx_T) ({ frames := 2, cells := 0, slots := 0, locals := 43 } : Room) [.ref a_M, .int i_i] (w0_X5_lineOf g a_M a_M_a a_M_rowAt a_M_places a_M_rights a_M_weights a_M_pivots a_M_lower a_M_solution a_M_work a_M_isJoined a_M_stored M_thrown M_n M_hasFactors M_hasSolution M_levels M_places M_rowAt M_isJoined) (fun (r : Int32) (_ : Unit) => Q r) (fun _ : Unit => (w0_X5_lineOf g a_M a_M_a a_M_rowAt a_M_places a_M_rights a_M_weights a_M_pivots a_M_lower a_M_solution a_M_work a_M_isJoined a_M_stored M_thrown M_n M_hasFactors M_hasSolution M_levels M_places M_rowAt M_isJoined)) 0 0 := by
  intro sz
  refine Met.ofW (cc := cX5_lineOf) (maxL := 4) (ret := (some .int)) (by decide) rfl ?_
  intro p e s m args below meth c s₁ B hml hpre
  obtain ⟨rfl, hsz, hP, hK, hD0⟩ := hpre
  have hx := B.exec
  have hb := B.bytes
  have hr := B.returns
  have hts0 := atoms_spec (ws := (Cond.code yX5_lineOf cX5_lineOf 4 (some .int) :: cx_T)) B.pre
  have hts : ∀ w ∈ cx_T, w.before _ s = true := fun w h => hts0 w (List.mem_cons_of_mem _ h)
  have hown : s.vm.findClass RX5 = some m.cls := findClass_of_methodNamed B.named
  have hlocks := B.notSynchronized
  subst hsz
  have hD := hD0.self (sz := s.heap.size)
  obtain ⟨A, hAe⟩ : ∃ A : Nat → Prop, A = va_A (w0_X5_lineOf g a_M a_M_a a_M_rowAt a_M_places a_M_rights a_M_weights a_M_pivots a_M_lower a_M_solution a_M_work a_M_isJoined a_M_stored M_thrown M_n M_hasFactors M_hasSolution M_levels M_places M_rowAt M_isJoined) s.heap.size := ⟨_, rfl⟩
  rw [← hAe] at hD
  have hA : ∀ q : Nat, s.heap.size ≤ q → A q := fun q h => by rw [hAe]; exact Or.inr h
  have hS : va_S A s.heap s.heap [] := va_S.rf
  have hP : va_P g.1 vwCl [(a_M, .inr (5, [.int M_thrown, .int M_n, .ref a_M_a, .ref a_M_rowAt, .ref a_M_places, .ref a_M_rights, .ref a_M_weights, .int M_hasFactors, .ref a_M_pivots, .ref a_M_lower, .int M_hasSolution, .ref a_M_solution, .ref a_M_work, .ref a_M_isJoined, .int M_levels, .ref a_M_stored])), (a_M_places, .inl (g.2.1, 16, .inl M_places)), (a_M_rowAt, .inl (g.2.1, 16, .inl M_rowAt)), (a_M_isJoined, .inl (g.2.2.1, 256, .inl M_isJoined))] s.heap := hP
  have hD : va_D A [(a_M, .inr (5, [.int M_thrown, .int M_n, .ref a_M_a, .ref a_M_rowAt, .ref a_M_places, .ref a_M_rights, .ref a_M_weights, .int M_hasFactors, .ref a_M_pivots, .ref a_M_lower, .int M_hasSolution, .ref a_M_solution, .ref a_M_work, .ref a_M_isJoined, .int M_levels, .ref a_M_stored])), (a_M_places, .inl (g.2.1, 16, .inl M_places)), (a_M_rowAt, .inl (g.2.1, 16, .inl M_rowAt)), (a_M_isJoined, .inl (g.2.2.1, 256, .inl M_isJoined))] := hD
  have hl := lv_entry ([.ref a_M, .int i_i]) (n := 4) (Nat.le_of_ble_eq_true rfl)
  rw [lg_entry_eq]
  generalize (lg_sl ([.ref a_M, .int i_i]) ++ List.replicate (4 - (lg_sl ([.ref a_M, .int i_i])).length) Slot.unset).toArray = ls at hl ⊢
  have hl : lv_has ls 4 [(0, .ref a_M), (1, .int i_i)] := hl
  obtain ⟨G1, hG1⟩ : ∃ G : Int32 → Int32 → Prop, G = (fun (x3 : Int32) (x2 : Int32) => ∀ (H : Heap) (locs : List Loc) (ls : Array Slot), va_P g.1 vwCl [(a_M, .inr (5, [.int M_thrown, .int M_n, .ref a_M_a, .ref a_M_rowAt, .ref a_M_places, .ref a_M_rights, .ref a_M_weights, .int M_hasFactors, .ref a_M_pivots, .ref a_M_lower, .int M_hasSolution, .ref a_M_solution, .ref a_M_work, .ref a_M_isJoined, .int M_levels, .ref a_M_stored])), (a_M_places, .inl (g.2.1, 16, .inl M_places)), (a_M_rowAt, .inl (g.2.1, 16, .inl M_rowAt)), (a_M_isJoined, .inl (g.2.2.1, 256, .inl M_isJoined))] H → va_D A [(a_M, .inr (5, [.int M_thrown, .int M_n, .ref a_M_a, .ref a_M_rowAt, .ref a_M_places, .ref a_M_rights, .ref a_M_weights, .int M_hasFactors, .ref a_M_pivots, .ref a_M_lower, .int M_hasSolution, .ref a_M_solution, .ref a_M_work, .ref a_M_isJoined, .int M_levels, .ref a_M_stored])), (a_M_places, .inl (g.2.1, 16, .inl M_places)), (a_M_rowAt, .inl (g.2.1, 16, .inl M_rowAt)), (a_M_isJoined, .inl (g.2.2.1, 256, .inl M_isJoined))] → va_S A s.heap H locs → lv_has ls 4 [(3, .int x3), (2, .int x2), (0, .ref a_M), (1, .int i_i)] → W p l e (headSpec (Cond.code yX5_lineOf cX5_lineOf 4 (some .int) :: cx_T) ({ frames := 2, cells := 0, slots := 0, locals := 43 } : Room)).room s m ([.ref a_M, .int i_i] : List Value).toArray below meth c H locs 0 0 (MQ below (va_Qi (fun (r : Int32) (_ : Unit) => Q r) (cx_B g (w0_X5_lineOf g a_M a_M_a a_M_rowAt a_M_places a_M_rights a_M_weights a_M_pivots a_M_lower a_M_solution a_M_work a_M_isJoined a_M_stored M_thrown M_n M_hasFactors M_hasSolution M_levels M_places M_rowAt M_isJoined) s.heap.size (fun _ : Unit => (w0_X5_lineOf g a_M a_M_a a_M_rowAt a_M_places a_M_rights a_M_weights a_M_pivots a_M_lower a_M_solution a_M_work a_M_isJoined a_M_stored M_thrown M_n M_hasFactors M_hasSolution M_levels M_places M_rowAt M_isJoined))) (va_A (w0_X5_lineOf g a_M a_M_a a_M_rowAt a_M_places a_M_rights a_M_weights a_M_pivots a_M_lower a_M_solution a_M_work a_M_isJoined a_M_stored M_thrown M_n M_hasFactors M_hasSolution M_levels M_places M_rowAt M_isJoined) s.heap.size)) ([.ref a_M, .int i_i] : List Value).toArray s 0 0 (va_A (w0_X5_lineOf g a_M a_M_a a_M_rowAt a_M_places a_M_rights a_M_weights a_M_pivots a_M_lower a_M_solution a_M_work a_M_isJoined a_M_stored M_thrown M_n M_hasFactors M_hasSolution M_levels M_places M_rowAt M_isJoined) s.heap.size)) (F0 m 4 ls [])) := ⟨_, rfl⟩
  have hs1 : ∀ (x3 : Int32) (x2 : Int32), vc_X5_lineOf_1 i_i M_thrown M_n M_hasFactors M_hasSolution M_levels M_places M_rowAt M_isJoined Q G1 x3 x2 → G1 x3 x2 := by
    rw [hG1]
    intro x3 x2 hv H locs ls hP hD hS hl
    unfold vc_X5_lineOf_1 at hv
    refine lv_iload_n hx hb dX5_lineOf_4 rfl (lv_at hl 0 rfl) ?_
    refine lv_iconst (v := (-1)) hx hb dX5_lineOf_5 (by decide) ?_
    refine lv_icmp_eq (tgt := 24) hx hb dX5_lineOf_6 (by decide) (fun hc => ?_) (fun hc => ?_)
    · replace hv := hv.1 hc
      refine lv_iload_n hx hb dX5_lineOf_24 rfl (lv_at hl 1 rfl) ?_
      exact cx_iret hx hb hr hlocks hAe hS () hv hP hD dX5_lineOf_25
    · replace hv := hv.2 hc
      refine lv_iload_n hx hb dX5_lineOf_9 rfl (lv_at hl 1 rfl) ?_
      refine lv_iconst (v := 1) hx hb dX5_lineOf_10 (by decide) ?_
      refine lv_iload_n hx hb dX5_lineOf_11 rfl (lv_at hl 0 rfl) ?_
      refine lv_ishl hx hb dX5_lineOf_12 ?_
      refine lv_ior hx hb dX5_lineOf_13 ?_
      refine lv_topi (fun x2_1 ex2_1 => ?_)
      replace hv := hv x2_1 ex2_1
      refine lv_istore_n (lv' := [(2, .int x2_1), (3, .int x3), (0, .ref a_M), (1, .int i_i)]) hx hb dX5_lineOf_14 rfl hl (by decide) rfl (fun ls hl => ?_)
      refine lv_aload_n hx hb dX5_lineOf_15 rfl (lv_at hl 2 rfl) ?_
      refine lv_iload_n hx hb dX5_lineOf_16 rfl (lv_at hl 1 rfl) ?_
      refine cx_iVr (As := [.int x3]) (rest := []) ⟨hx, hb, hml, hown, hts⟩ (c_X5_parentOf l g a_M a_M_a a_M_rowAt a_M_places a_M_rights a_M_weights a_M_pivots a_M_lower a_M_solution a_M_work a_M_isJoined a_M_stored x3 M_thrown M_n M_hasFactors M_hasSolution M_levels M_places M_rowAt M_isJoined hv) (cx_cwV 1 hts cw_m_X5_136 cw_i_X5_parentOf cw_s_X5_parentOf cw_n_X5 cw_c_X5_parentOf rfl rfl (by decide +kernel) ⟨Nat.le_of_ble_eq_true rfl, Nat.le_of_ble_eq_true rfl⟩) hK hP hD hS hA 0 5 rfl rfl [0, 1, 2, 3] rfl rfl rfl hl.1 rfl (Nat.le_of_ble_eq_true rfl) dX5_lineOf_17 ⟨Nat.le_of_ble_eq_true rfl, Nat.le_of_ble_eq_true rfl⟩ (fun r_2 H locs hv hP hS => ?_)
      refine lv_istore_n (lv' := [(3, .int r_2), (2, .int x2_1), (0, .ref a_M), (1, .int i_i)]) hx hb dX5_lineOf_20 rfl hl (by decide) rfl (fun ls hl => ?_)
      refine lv_goto (tgt := 4) hx hb dX5_lineOf_21 (by decide) ?_
      exact hv _ _ _ hP hD hS (lv_sub hl [0, 1, 2, 3] rfl)
  replace hv := hv G1 hs1
  rw [hG1] at hv
  unfold vc_X5_lineOf_0 at hv
  refine lv_iconst (v := 0) hx hb dX5_lineOf_0 (by decide) ?_
  refine lv_istore_n (lv' := [(2, .int 0), (0, .ref a_M), (1, .int i_i)]) hx hb dX5_lineOf_1 rfl hl (by decide) rfl (fun ls hl => ?_)
  refine lv_iload_n hx hb dX5_lineOf_2 rfl (lv_at hl 2 rfl) ?_
  refine lv_istore_n (lv' := [(3, .int i_i), (2, .int 0), (0, .ref a_M), (1, .int i_i)]) hx hb dX5_lineOf_3 rfl hl (by decide) rfl (fun ls hl => ?_)
  exact hv _ _ _ hP hD hS (lv_sub hl [0, 1, 2, 3] rfl)
def vc_X5_bits_0 (i_k : Int32) (Q : Int32 → Prop) (G1 : Int32 → Int32 → Prop)  : Prop := G1 0 0
def vc_X5_bits_1 (i_k : Int32) (Q : Int32 → Prop) (G1 : Int32 → Int32 → Prop) (x2 : Int32) (x1 : Int32) : Prop := (16 ≤ x2 → (Q x1)) ∧ (¬ 16 ≤ x2 → (∀ x1_1 : Int32, x1_1 = (x1 + ((i_k >>> (x2 &&& 31)) &&& 1)) → (∀ x2_2 : Int32, x2_2 = x2 + 1 → (G1 x2_2 x1_1))))
def wp_X5_bits (i_k : Int32) (Q : Int32 → Prop) : Prop := ∀ (G1 : Int32 → Int32 → Prop), (∀ (x2 : Int32) (x1 : Int32), vc_X5_bits_1 i_k Q G1 x2 x1 → G1 x2 x1) → vc_X5_bits_0 i_k Q G1
abbrev w0_X5_bits (g : cx_G)  : va_W := []
set_option maxHeartbeats 4000000 in
set_option maxRecDepth 100000 in
theorem c_X5_bits (l : Launch) (g : cx_G) (i_k : Int32) {Q : Int32 → Prop} (hv : wp_X5_bits i_k Q) : cx_Mi l g yX5_bits (Cond.code yX5_bits cX5_bits 3 (some .int) :: cx_T) ({ frames := 0, cells := 0, slots := 0, locals := 0 } : Room) [.int i_k] (w0_X5_bits g  ) (fun (r : Int32) (_ : Unit) => Q r) (fun _ : Unit => (w0_X5_bits g  )) 0 0 := by
  intro sz
  refine Met.ofW (cc := cX5_bits) (maxL := 3) (ret := (some .int)) (by decide) rfl ?_
  intro p e s m args below meth c s₁ B hml hpre
  obtain ⟨rfl, hsz, hP, hK, hD0⟩ := hpre
  have hx := B.exec
  have hb := B.bytes
  have hr := B.returns
  have hts0 := atoms_spec (ws := (Cond.code yX5_bits cX5_bits 3 (some .int) :: cx_T)) B.pre
  have hts : ∀ w ∈ cx_T, w.before _ s = true := fun w h => hts0 w (List.mem_cons_of_mem _ h)
  have hown : s.vm.findClass RX5 = some m.cls := findClass_of_methodNamed B.named
  have hlocks := B.notSynchronized
  subst hsz
  have hD := hD0.self (sz := s.heap.size)
  obtain ⟨A, hAe⟩ : ∃ A : Nat → Prop, A = va_A (w0_X5_bits g  ) s.heap.size := ⟨_, rfl⟩
  rw [← hAe] at hD
  have hA : ∀ q : Nat, s.heap.size ≤ q → A q := fun q h => by rw [hAe]; exact Or.inr h
  have hS : va_S A s.heap s.heap [] := va_S.rf
  have hP : va_P g.1 vwCl [] s.heap := hP
  have hD : va_D A [] := hD
  have hl := lv_entry ([.int i_k]) (n := 3) (Nat.le_of_ble_eq_true rfl)
  rw [lg_entry_eq]
  generalize (lg_sl ([.int i_k]) ++ List.replicate (3 - (lg_sl ([.int i_k])).length) Slot.unset).toArray = ls at hl ⊢
  have hl : lv_has ls 3 [(0, .int i_k)] := hl
  obtain ⟨G1, hG1⟩ : ∃ G : Int32 → Int32 → Prop, G = (fun (x2 : Int32) (x1 : Int32) => ∀ (H : Heap) (locs : List Loc) (ls : Array Slot), va_P g.1 vwCl [] H → va_D A [] → va_S A s.heap H locs → lv_has ls 3 [(2, .int x2), (1, .int x1), (0, .int i_k)] → W p l e (headSpec (Cond.code yX5_bits cX5_bits 3 (some .int) :: cx_T) ({ frames := 0, cells := 0, slots := 0, locals := 0 } : Room)).room s m ([.int i_k] : List Value).toArray below meth c H locs 0 0 (MQ below (va_Qi (fun (r : Int32) (_ : Unit) => Q r) (cx_B g (w0_X5_bits g  ) s.heap.size (fun _ : Unit => (w0_X5_bits g  ))) (va_A (w0_X5_bits g  ) s.heap.size)) ([.int i_k] : List Value).toArray s 0 0 (va_A (w0_X5_bits g  ) s.heap.size)) (F0 m 4 ls [])) := ⟨_, rfl⟩
  have hs1 : ∀ (x2 : Int32) (x1 : Int32), vc_X5_bits_1 i_k Q G1 x2 x1 → G1 x2 x1 := by
    rw [hG1]
    intro x2 x1 hv H locs ls hP hD hS hl
    unfold vc_X5_bits_1 at hv
    refine lv_iload_n hx hb dX5_bits_4 rfl (lv_at hl 0 rfl) ?_
    refine lv_bipush (v := 16) hx hb dX5_bits_5 (by decide) ?_
    refine lv_icmp_ge (tgt := 24) hx hb dX5_bits_7 (by decide) (fun hc => ?_) (fun hc => ?_)
    · replace hv := hv.1 hc
      refine lv_iload_n hx hb dX5_bits_24 rfl (lv_at hl 1 rfl) ?_
      exact cx_iret hx hb hr hlocks hAe hS () hv hP hD dX5_bits_25
    · replace hv := hv.2 hc
      refine lv_iload_n hx hb dX5_bits_10 rfl (lv_at hl 1 rfl) ?_
      refine lv_iload_n hx hb dX5_bits_11 rfl (lv_at hl 2 rfl) ?_
      refine lv_iload_n hx hb dX5_bits_12 rfl (lv_at hl 0 rfl) ?_
      refine lv_ishr hx hb dX5_bits_13 ?_
      refine lv_iconst (v := 1) hx hb dX5_bits_14 (by decide) ?_
      refine lv_iand hx hb dX5_bits_15 ?_
      refine lv_iadd hx hb dX5_bits_16 ?_
      refine lv_topi (fun x1_1 ex1_1 => ?_)
      replace hv := hv x1_1 ex1_1
      refine lv_istore_n (lv' := [(1, .int x1_1), (2, .int x2), (0, .int i_k)]) hx hb dX5_bits_17 rfl hl (by decide) rfl (fun ls hl => ?_)
      obtain ⟨x2_2, ex2_2⟩ : ∃ y : Int32, y = x2 + 1 := ⟨_, rfl⟩
      replace hv := hv x2_2 ex2_2
      refine lv_iinc (v := x2_2) (lv' := [(2, .int x2_2), (1, .int x1_1), (0, .int i_k)]) hx hb dX5_bits_18 hl (k := 1) rfl (by rw [ex2_2]; rfl) (by decide) rfl (fun ls hl => ?_)
      refine lv_goto (tgt := 4) hx hb dX5_bits_21 (by decide) ?_
      exact hv _ _ _ hP hD hS (lv_sub hl [0, 1, 2] rfl)
  replace hv := hv G1 hs1
  rw [hG1] at hv
  unfold vc_X5_bits_0 at hv
  refine lv_iconst (v := 0) hx hb dX5_bits_0 (by decide) ?_
  refine lv_istore_n (lv' := [(1, .int 0), (0, .int i_k)]) hx hb dX5_bits_1 rfl hl (by decide) rfl (fun ls hl => ?_)
  refine lv_iconst (v := 0) hx hb dX5_bits_2 (by decide) ?_
  refine lv_istore_n (lv' := [(2, .int 0), (1, .int 0), (0, .int i_k)]) hx hb dX5_bits_3 rfl hl (by decide) rfl (fun ls hl => ?_)
  exact hv _ _ _ hP hD hS (lv_sub hl [0, 1, 2] rfl)
def wp_X5_parent (i_i : Int32) (M_thrown : Int32) (M_n : Int32) (M_hasFactors : Int32) (M_hasSolution : Int32) (M_levels : Int32) (M_a : (Nat → Int32)) (M_isJoined : (Nat → Int32)) (M_rowAt : (Nat → Int32)) (M_places : (Nat → Int32)) (Q : Int32 → Int32 → (Nat → Int32) → Prop)   : Prop := wp_X5_isRow i_i 0 M_n M_hasFactors M_hasSolution M_levels (fun r_1 => (r_1 = 0 → (wp_X5_no 1 0 M_n M_hasFactors M_hasSolution M_levels (fun r_6 u_7 => Q r_6 u_7 M_isJoined))) ∧ (¬ r_1 = 0 → (wp_X5_fill 0 M_n M_hasFactors M_hasSolution M_levels M_a M_isJoined M_rowAt (fun u_3 => wp_X5_parentOf i_i 0 M_n M_hasFactors M_hasSolution M_levels M_places M_rowAt u_3 (fun r_5 => Q r_5 0 u_3)))))
abbrev w0_X5_parent (g : cx_G) (a_M a_M_a a_M_rowAt a_M_places a_M_rights a_M_weights a_M_pivots a_M_lower a_M_solution a_M_work a_M_isJoined a_M_stored : Nat) (M_thrown : Int32) (M_n : Int32) (M_hasFactors : Int32) (M_hasSolution : Int32) (M_levels : Int32) (M_a : (Nat → Int32)) (M_isJoined : (Nat → Int32)) (M_rowAt : (Nat → Int32)) (M_places : (Nat → Int32)) : va_W := [(a_M, .inr (5, [.int M_thrown, .int M_n, .ref a_M_a, .ref a_M_rowAt, .ref a_M_places, .ref a_M_rights, .ref a_M_weights, .int M_hasFactors, .ref a_M_pivots, .ref a_M_lower, .int M_hasSolution, .ref a_M_solution, .ref a_M_work, .ref a_M_isJoined, .int M_levels, .ref a_M_stored])), (a_M_a, .inl (g.2.1, 256, .inl M_a)), (a_M_isJoined, .inl (g.2.2.1, 256, .inl M_isJoined)), (a_M_rowAt, .inl (g.2.1, 16, .inl M_rowAt)), (a_M_places, .inl (g.2.1, 16, .inl M_places))]
abbrev w1_X5_parent (g : cx_G) (a_M a_M_a a_M_rowAt a_M_places a_M_rights a_M_weights a_M_pivots a_M_lower a_M_solution a_M_work a_M_isJoined a_M_stored : Nat) (M_thrown : Int32) (M_n : Int32) (M_hasFactors : Int32) (M_hasSolution : Int32) (M_levels : Int32) (M_a : (Nat → Int32)) (M_isJoined : (Nat → Int32)) (M_rowAt : (Nat → Int32)) (M_places : (Nat → Int32)) (u : Int32 × (Nat → Int32)) : va_W := [(a_M, .inr (5, [.int u.1, .int M_n, .ref a_M_a, .ref a_M_rowAt, .ref a_M_places, .ref a_M_rights, .ref a_M_weights, .int M_hasFactors, .ref a_M_pivots, .ref a_M_lower, .int M_hasSolution, .ref a_M_solution, .ref a_M_work, .ref a_M_isJoined, .int M_levels, .ref a_M_stored])), (a_M_a, .inl (g.2.1, 256, .inl M_a)), (a_M_isJoined, .inl (g.2.2.1, 256, .inl u.2)), (a_M_rowAt, .inl (g.2.1, 16, .inl M_rowAt)), (a_M_places, .inl (g.2.1, 16, .inl M_places))]
set_option maxHeartbeats 4000000 in
set_option maxRecDepth 100000 in
theorem c_X5_parent (l : Launch) (g : cx_G) (a_M a_M_a a_M_rowAt a_M_places a_M_rights a_M_weights a_M_pivots a_M_lower a_M_solution a_M_work a_M_isJoined a_M_stored : Nat) (i_i : Int32) (M_thrown : Int32) (M_n : Int32) (M_hasFactors : Int32) (M_hasSolution : Int32) (M_levels : Int32) (M_a : (Nat → Int32)) (M_isJoined : (Nat → Int32)) (M_rowAt : (Nat → Int32)) (M_places : (Nat → Int32)) {Q : Int32 → Int32 → (Nat → Int32) → Prop} (hv : wp_X5_parent i_i M_thrown M_n M_hasFactors M_hasSolution M_levels M_a M_isJoined M_rowAt M_places Q) : cx_Mi l g yX5_parent (Cond.code yX5_parent cX5_parent 2 (some .int) :: cx_T) ({ frames := 4, cells := 0, slots := 0, locals := 86 } : Room) [.ref a_M, .int i_i] (w0_X5_parent g a_M a_M_a a_M_rowAt a_M_places a_M_rights a_M_weights a_M_pivots a_M_lower a_M_solution a_M_work a_M_isJoined a_M_stored M_thrown M_n M_hasFactors M_hasSolution M_levels M_a M_isJoined M_rowAt M_places) (fun (r : Int32) (u : Int32 × (Nat → Int32)) => Q r u.1 u.2) (w1_X5_parent g a_M a_M_a a_M_rowAt a_M_places a_M_rights a_M_weights a_M_pivots a_M_lower a_M_solution a_M_work a_M_isJoined a_M_stored M_thrown M_n M_hasFactors M_hasSolution M_levels M_a M_isJoined M_rowAt M_places) 0 0 := by
  intro sz
  refine Met.ofW (cc := cX5_parent) (maxL := 2) (ret := (some .int)) (by decide) rfl ?_
  intro p e s m args below meth c s₁ B hml hpre
  obtain ⟨rfl, hsz, hP, hK, hD0⟩ := hpre
  have hx := B.exec
  have hb := B.bytes
  have hr := B.returns
  have hts0 := atoms_spec (ws := (Cond.code yX5_parent cX5_parent 2 (some .int) :: cx_T)) B.pre
  have hts : ∀ w ∈ cx_T, w.before _ s = true := fun w h => hts0 w (List.mem_cons_of_mem _ h)
  have hown : s.vm.findClass RX5 = some m.cls := findClass_of_methodNamed B.named
  have hlocks := B.notSynchronized
  subst hsz
  have hD := hD0.self (sz := s.heap.size)
  obtain ⟨A, hAe⟩ : ∃ A : Nat → Prop, A = va_A (w0_X5_parent g a_M a_M_a a_M_rowAt a_M_places a_M_rights a_M_weights a_M_pivots a_M_lower a_M_solution a_M_work a_M_isJoined a_M_stored M_thrown M_n M_hasFactors M_hasSolution M_levels M_a M_isJoined M_rowAt M_places) s.heap.size := ⟨_, rfl⟩
  rw [← hAe] at hD
  have hA : ∀ q : Nat, s.heap.size ≤ q → A q := fun q h => by rw [hAe]; exact Or.inr h
  have hS : va_S A s.heap s.heap [] := va_S.rf
  have hP : va_P g.1 vwCl [(a_M, .inr (5, [.int M_thrown, .int M_n, .ref a_M_a, .ref a_M_rowAt, .ref a_M_places, .ref a_M_rights, .ref a_M_weights, .int M_hasFactors, .ref a_M_pivots, .ref a_M_lower, .int M_hasSolution, .ref a_M_solution, .ref a_M_work, .ref a_M_isJoined, .int M_levels, .ref a_M_stored])), (a_M_a, .inl (g.2.1, 256, .inl M_a)), (a_M_isJoined, .inl (g.2.2.1, 256, .inl M_isJoined)), (a_M_rowAt, .inl (g.2.1, 16, .inl M_rowAt)), (a_M_places, .inl (g.2.1, 16, .inl M_places))] s.heap := hP
  have hD : va_D A [(a_M, .inr (5, [.int M_thrown, .int M_n, .ref a_M_a, .ref a_M_rowAt, .ref a_M_places, .ref a_M_rights, .ref a_M_weights, .int M_hasFactors, .ref a_M_pivots, .ref a_M_lower, .int M_hasSolution, .ref a_M_solution, .ref a_M_work, .ref a_M_isJoined, .int M_levels, .ref a_M_stored])), (a_M_a, .inl (g.2.1, 256, .inl M_a)), (a_M_isJoined, .inl (g.2.2.1, 256, .inl M_isJoined)), (a_M_rowAt, .inl (g.2.1, 16, .inl M_rowAt)), (a_M_places, .inl (g.2.1, 16, .inl M_places))] := hD
  have hl := lv_entry ([.ref a_M, .int i_i]) (n := 2) (Nat.le_of_ble_eq_true rfl)
  rw [lg_entry_eq]
  generalize (lg_sl ([.ref a_M, .int i_i]) ++ List.replicate (2 - (lg_sl ([.ref a_M, .int i_i])).length) Slot.unset).toArray = ls at hl ⊢
  have hl : lv_has ls 2 [(0, .ref a_M), (1, .int i_i)] := hl
  unfold wp_X5_parent at hv
  refine lv_aload_n hx hb dX5_parent_0 rfl (lv_at hl 0 rfl) ?_
  refine lv_iconst (v := 0) hx hb dX5_parent_1 (by decide) ?_
  refine va_put (D := g.1) (ci := 5) (v := .int 0) (ty := .int) (C := RX5) (T := TX5) (N := 16) hx hb hts cw_in_X5 tyX5 tyX5_ok nmX5 hown hK.1 hP hD hS 0 rfl rfl 0 (by decide) (hts _ cw_f_X5_51) (fun _ h9 => h9) rfl (by decide +kernel) rfl rfl (Nat.le_of_ble_eq_true rfl) dX5_parent_2 (fun H locs hP hD hS => ?_)
  have hP : va_P g.1 vwCl [(a_M, .inr (5, [.int 0, .int M_n, .ref a_M_a, .ref a_M_rowAt, .ref a_M_places, .ref a_M_rights, .ref a_M_weights, .int M_hasFactors, .ref a_M_pivots, .ref a_M_lower, .int M_hasSolution, .ref a_M_solution, .ref a_M_work, .ref a_M_isJoined, .int M_levels, .ref a_M_stored])), (a_M_a, .inl (g.2.1, 256, .inl M_a)), (a_M_isJoined, .inl (g.2.2.1, 256, .inl M_isJoined)), (a_M_rowAt, .inl (g.2.1, 16, .inl M_rowAt)), (a_M_places, .inl (g.2.1, 16, .inl M_places))] H := hP
  have hD : va_D A [(a_M, .inr (5, [.int 0, .int M_n, .ref a_M_a, .ref a_M_rowAt, .ref a_M_places, .ref a_M_rights, .ref a_M_weights, .int M_hasFactors, .ref a_M_pivots, .ref a_M_lower, .int M_hasSolution, .ref a_M_solution, .ref a_M_work, .ref a_M_isJoined, .int M_levels, .ref a_M_stored])), (a_M_a, .inl (g.2.1, 256, .inl M_a)), (a_M_isJoined, .inl (g.2.2.1, 256, .inl M_isJoined)), (a_M_rowAt, .inl (g.2.1, 16, .inl M_rowAt)), (a_M_places, .inl (g.2.1, 16, .inl M_places))] := hD
  refine lv_aload_n hx hb dX5_parent_5 rfl (lv_at hl 0 rfl) ?_
  refine lv_iload_n hx hb dX5_parent_6 rfl (lv_at hl 1 rfl) ?_
  refine cx_iVr (As := [.int i_i]) (rest := []) ⟨hx, hb, hml, hown, hts⟩ (c_X5_isRow l g a_M a_M_a a_M_rowAt a_M_places a_M_rights a_M_weights a_M_pivots a_M_lower a_M_solution a_M_work a_M_isJoined a_M_stored i_i 0 M_n M_hasFactors M_hasSolution M_levels hv) (cx_cwV 1 hts cw_m_X5_76 cw_i_X5_isRow cw_s_X5_isRow cw_n_X5 cw_c_X5_isRow rfl rfl (by decide +kernel) ⟨Nat.le_of_ble_eq_true rfl, Nat.le_of_ble_eq_true rfl⟩) hK hP hD hS hA 0 5 rfl rfl [0] rfl rfl rfl hl.1 rfl (Nat.le_of_ble_eq_true rfl) dX5_parent_7 ⟨Nat.le_of_ble_eq_true rfl, Nat.le_of_ble_eq_true rfl⟩ (fun r_1 H locs hv hP hS => ?_)
  refine lv_if_ne (tgt := 19) hx hb dX5_parent_10 (by decide) (fun hc => ?_) (fun hc => ?_)
  · replace hv := hv.2 hc
    refine lv_aload_n hx hb dX5_parent_19 rfl (lv_at hl 0 rfl) ?_
    refine cx_vV (wr := [(a_M_places, .inl (g.2.1, 16, .inl M_places))]) (As := []) (rest := []) ⟨hx, hb, hml, hown, hts⟩ (c_X5_fill l g a_M a_M_a a_M_rowAt a_M_places a_M_rights a_M_weights a_M_pivots a_M_lower a_M_solution a_M_work a_M_isJoined a_M_stored 0 M_n M_hasFactors M_hasSolution M_levels M_a M_isJoined M_rowAt hv) (cx_cwV 0 hts cw_m_X5_116 cw_i_X5_fill cw_s_X5_fill cw_n_X5 cw_c_X5_fill rfl rfl (by decide +kernel) ⟨Nat.le_of_ble_eq_true rfl, Nat.le_of_ble_eq_true rfl⟩) hK hP hD hS hA 0 5 rfl rfl [0, 1, 2, 3] [4] rfl rfl rfl rfl (by decide) rfl hl.1 rfl (Nat.le_of_ble_eq_true rfl) dX5_parent_20 ⟨Nat.le_of_ble_eq_true rfl, Nat.le_of_ble_eq_true rfl⟩ (fun w_4 H locs hv hP hD hS => ?_)
    obtain ⟨u_3, rfl⟩ : ∃ z, z = w_4 := ⟨_, rfl⟩
    have hP : va_P g.1 vwCl [(a_M, .inr (5, [.int 0, .int M_n, .ref a_M_a, .ref a_M_rowAt, .ref a_M_places, .ref a_M_rights, .ref a_M_weights, .int M_hasFactors, .ref a_M_pivots, .ref a_M_lower, .int M_hasSolution, .ref a_M_solution, .ref a_M_work, .ref a_M_isJoined, .int M_levels, .ref a_M_stored])), (a_M_a, .inl (g.2.1, 256, .inl M_a)), (a_M_isJoined, .inl (g.2.2.1, 256, .inl u_3)), (a_M_rowAt, .inl (g.2.1, 16, .inl M_rowAt)), (a_M_places, .inl (g.2.1, 16, .inl M_places))] H := hP.sub [1, 2, 3, 4, 0] rfl
    have hD : va_D A [(a_M, .inr (5, [.int 0, .int M_n, .ref a_M_a, .ref a_M_rowAt, .ref a_M_places, .ref a_M_rights, .ref a_M_weights, .int M_hasFactors, .ref a_M_pivots, .ref a_M_lower, .int M_hasSolution, .ref a_M_solution, .ref a_M_work, .ref a_M_isJoined, .int M_levels, .ref a_M_stored])), (a_M_a, .inl (g.2.1, 256, .inl M_a)), (a_M_isJoined, .inl (g.2.2.1, 256, .inl u_3)), (a_M_rowAt, .inl (g.2.1, 16, .inl M_rowAt)), (a_M_places, .inl (g.2.1, 16, .inl M_places))] := hD.sub [1, 2, 3, 4, 0] (by decide) rfl
    refine lv_aload_n hx hb dX5_parent_23 rfl (lv_at hl 0 rfl) ?_
    refine lv_iload_n hx hb dX5_parent_24 rfl (lv_at hl 1 rfl) ?_
    refine cx_iVr (As := [.int i_i]) (rest := []) ⟨hx, hb, hml, hown, hts⟩ (c_X5_parentOf l g a_M a_M_a a_M_rowAt a_M_places a_M_rights a_M_weights a_M_pivots a_M_lower a_M_solution a_M_work a_M_isJoined a_M_stored i_i 0 M_n M_hasFactors M_hasSolution M_levels M_places M_rowAt u_3 hv) (cx_cwV 1 hts cw_m_X5_136 cw_i_X5_parentOf cw_s_X5_parentOf cw_n_X5 cw_c_X5_parentOf rfl rfl (by decide +kernel) ⟨Nat.le_of_ble_eq_true rfl, Nat.le_of_ble_eq_true rfl⟩) hK hP hD hS hA 0 5 rfl rfl [0, 4, 3, 2] rfl rfl rfl hl.1 rfl (Nat.le_of_ble_eq_true rfl) dX5_parent_25 ⟨Nat.le_of_ble_eq_true rfl, Nat.le_of_ble_eq_true rfl⟩ (fun r_5 H locs hv hP hS => ?_)
    exact cx_iret hx hb hr hlocks hAe hS (0, u_3) hv hP hD dX5_parent_28
  · replace hv := hv.1 hc
    refine lv_aload_n hx hb dX5_parent_13 rfl (lv_at hl 0 rfl) ?_
    refine lv_iconst (v := 1) hx hb dX5_parent_14 (by decide) ?_
    refine cx_iV (wr := [(a_M_a, .inl (g.2.1, 256, .inl M_a)), (a_M_isJoined, .inl (g.2.2.1, 256, .inl M_isJoined)), (a_M_rowAt, .inl (g.2.1, 16, .inl M_rowAt)), (a_M_places, .inl (g.2.1, 16, .inl M_places))]) (As := [.int 1]) (rest := []) ⟨hx, hb, hml, hown, hts⟩ (c_X5_no l g a_M a_M_a a_M_rowAt a_M_places a_M_rights a_M_weights a_M_pivots a_M_lower a_M_solution a_M_work a_M_isJoined a_M_stored 1 0 M_n M_hasFactors M_hasSolution M_levels hv) (cx_cwV 1 hts cw_m_X5_72 cw_i_X5_no cw_s_X5_no cw_n_X5 cw_c_X5_no rfl rfl (by decide +kernel) ⟨Nat.le_of_ble_eq_true rfl, Nat.le_of_ble_eq_true rfl⟩) hK hP hD hS hA 0 5 rfl rfl [0] [1, 2, 3, 4] rfl rfl rfl rfl (by decide) rfl hl.1 rfl (Nat.le_of_ble_eq_true rfl) dX5_parent_15 ⟨Nat.le_of_ble_eq_true rfl, Nat.le_of_ble_eq_true rfl⟩ (fun r_6 w_8 H locs hv hP hD hS => ?_)
    obtain ⟨u_7, rfl⟩ : ∃ z, z = w_8 := ⟨_, rfl⟩
    have hP : va_P g.1 vwCl [(a_M, .inr (5, [.int u_7, .int M_n, .ref a_M_a, .ref a_M_rowAt, .ref a_M_places, .ref a_M_rights, .ref a_M_weights, .int M_hasFactors, .ref a_M_pivots, .ref a_M_lower, .int M_hasSolution, .ref a_M_solution, .ref a_M_work, .ref a_M_isJoined, .int M_levels, .ref a_M_stored])), (a_M_a, .inl (g.2.1, 256, .inl M_a)), (a_M_isJoined, .inl (g.2.2.1, 256, .inl M_isJoined)), (a_M_rowAt, .inl (g.2.1, 16, .inl M_rowAt)), (a_M_places, .inl (g.2.1, 16, .inl M_places))] H := hP.sub [4, 0, 1, 2, 3] rfl
    have hD : va_D A [(a_M, .inr (5, [.int u_7, .int M_n, .ref a_M_a, .ref a_M_rowAt, .ref a_M_places, .ref a_M_rights, .ref a_M_weights, .int M_hasFactors, .ref a_M_pivots, .ref a_M_lower, .int M_hasSolution, .ref a_M_solution, .ref a_M_work, .ref a_M_isJoined, .int M_levels, .ref a_M_stored])), (a_M_a, .inl (g.2.1, 256, .inl M_a)), (a_M_isJoined, .inl (g.2.2.1, 256, .inl M_isJoined)), (a_M_rowAt, .inl (g.2.1, 16, .inl M_rowAt)), (a_M_places, .inl (g.2.1, 16, .inl M_places))] := hD.sub [4, 0, 1, 2, 3] (by decide) rfl
    exact cx_iret hx hb hr hlocks hAe hS (u_7, M_isJoined) hv hP hD dX5_parent_18
def wp_X5_depth (i_i : Int32) (M_thrown : Int32) (M_n : Int32) (M_hasFactors : Int32) (M_hasSolution : Int32) (M_levels : Int32) (M_a : (Nat → Int32)) (M_isJoined : (Nat → Int32)) (M_rowAt : (Nat → Int32)) (M_places : (Nat → Int32)) (Q : Int32 → Int32 → (Nat → Int32) → Prop)   : Prop := wp_X5_isRow i_i 0 M_n M_hasFactors M_hasSolution M_levels (fun r_1 => (r_1 = 0 → (wp_X5_no 1 0 M_n M_hasFactors M_hasSolution M_levels (fun r_7 u_8 => Q r_7 u_8 M_isJoined))) ∧ (¬ r_1 = 0 → (wp_X5_fill 0 M_n M_hasFactors M_hasSolution M_levels M_a M_isJoined M_rowAt (fun u_3 => wp_X5_lineOf i_i 0 M_n M_hasFactors M_hasSolution M_levels M_places M_rowAt u_3 (fun r_5 => wp_X5_bits r_5 (fun r_6 => Q (r_6 - 1) 0 u_3))))))
abbrev w0_X5_depth (g : cx_G) (a_M a_M_a a_M_rowAt a_M_places a_M_rights a_M_weights a_M_pivots a_M_lower a_M_solution a_M_work a_M_isJoined a_M_stored : Nat) (M_thrown : Int32) (M_n : Int32) (M_hasFactors : Int32) (M_hasSolution : Int32) (M_levels : Int32) (M_a : (Nat → Int32)) (M_isJoined : (Nat → Int32)) (M_rowAt : (Nat → Int32)) (M_places : (Nat → Int32)) : va_W := [(a_M, .inr (5, [.int M_thrown, .int M_n, .ref a_M_a, .ref a_M_rowAt, .ref a_M_places, .ref a_M_rights, .ref a_M_weights, .int M_hasFactors, .ref a_M_pivots, .ref a_M_lower, .int M_hasSolution, .ref a_M_solution, .ref a_M_work, .ref a_M_isJoined, .int M_levels, .ref a_M_stored])), (a_M_a, .inl (g.2.1, 256, .inl M_a)), (a_M_isJoined, .inl (g.2.2.1, 256, .inl M_isJoined)), (a_M_rowAt, .inl (g.2.1, 16, .inl M_rowAt)), (a_M_places, .inl (g.2.1, 16, .inl M_places))]
abbrev w1_X5_depth (g : cx_G) (a_M a_M_a a_M_rowAt a_M_places a_M_rights a_M_weights a_M_pivots a_M_lower a_M_solution a_M_work a_M_isJoined a_M_stored : Nat) (M_thrown : Int32) (M_n : Int32) (M_hasFactors : Int32) (M_hasSolution : Int32) (M_levels : Int32) (M_a : (Nat → Int32)) (M_isJoined : (Nat → Int32)) (M_rowAt : (Nat → Int32)) (M_places : (Nat → Int32)) (u : Int32 × (Nat → Int32)) : va_W := [(a_M, .inr (5, [.int u.1, .int M_n, .ref a_M_a, .ref a_M_rowAt, .ref a_M_places, .ref a_M_rights, .ref a_M_weights, .int M_hasFactors, .ref a_M_pivots, .ref a_M_lower, .int M_hasSolution, .ref a_M_solution, .ref a_M_work, .ref a_M_isJoined, .int M_levels, .ref a_M_stored])), (a_M_a, .inl (g.2.1, 256, .inl M_a)), (a_M_isJoined, .inl (g.2.2.1, 256, .inl u.2)), (a_M_rowAt, .inl (g.2.1, 16, .inl M_rowAt)), (a_M_places, .inl (g.2.1, 16, .inl M_places))]
set_option maxHeartbeats 4000000 in
set_option maxRecDepth 100000 in
theorem c_X5_depth (l : Launch) (g : cx_G) (a_M a_M_a a_M_rowAt a_M_places a_M_rights a_M_weights a_M_pivots a_M_lower a_M_solution a_M_work a_M_isJoined a_M_stored : Nat) (i_i : Int32) (M_thrown : Int32) (M_n : Int32) (M_hasFactors : Int32) (M_hasSolution : Int32) (M_levels : Int32) (M_a : (Nat → Int32)) (M_isJoined : (Nat → Int32)) (M_rowAt : (Nat → Int32)) (M_places : (Nat → Int32)) {Q : Int32 → Int32 → (Nat → Int32) → Prop} (hv : wp_X5_depth i_i M_thrown M_n M_hasFactors M_hasSolution M_levels M_a M_isJoined M_rowAt M_places Q) : cx_Mi l g yX5_depth (Cond.code yX5_depth cX5_depth 2 (some .int) :: cx_T) ({ frames := 4, cells := 0, slots := 0, locals := 86 } : Room) [.ref a_M, .int i_i] (w0_X5_depth g a_M a_M_a a_M_rowAt a_M_places a_M_rights a_M_weights a_M_pivots a_M_lower a_M_solution a_M_work a_M_isJoined a_M_stored M_thrown M_n M_hasFactors M_hasSolution M_levels M_a M_isJoined M_rowAt M_places) (fun (r : Int32) (u : Int32 × (Nat → Int32)) => Q r u.1 u.2) (w1_X5_depth g a_M a_M_a a_M_rowAt a_M_places a_M_rights a_M_weights a_M_pivots a_M_lower a_M_solution a_M_work a_M_isJoined a_M_stored M_thrown M_n M_hasFactors M_hasSolution M_levels M_a M_isJoined M_rowAt M_places) 0 0 := by
  intro sz
  refine Met.ofW (cc := cX5_depth) (maxL := 2) (ret := (some .int)) (by decide) rfl ?_
  intro p e s m args below meth c s₁ B hml hpre
  obtain ⟨rfl, hsz, hP, hK, hD0⟩ := hpre
  have hx := B.exec
  have hb := B.bytes
  have hr := B.returns
  have hts0 := atoms_spec (ws := (Cond.code yX5_depth cX5_depth 2 (some .int) :: cx_T)) B.pre
  have hts : ∀ w ∈ cx_T, w.before _ s = true := fun w h => hts0 w (List.mem_cons_of_mem _ h)
  have hown : s.vm.findClass RX5 = some m.cls := findClass_of_methodNamed B.named
  have hlocks := B.notSynchronized
  subst hsz
  have hD := hD0.self (sz := s.heap.size)
  obtain ⟨A, hAe⟩ : ∃ A : Nat → Prop, A = va_A (w0_X5_depth g a_M a_M_a a_M_rowAt a_M_places a_M_rights a_M_weights a_M_pivots a_M_lower a_M_solution a_M_work a_M_isJoined a_M_stored M_thrown M_n M_hasFactors M_hasSolution M_levels M_a M_isJoined M_rowAt M_places) s.heap.size := ⟨_, rfl⟩
  rw [← hAe] at hD
  have hA : ∀ q : Nat, s.heap.size ≤ q → A q := fun q h => by rw [hAe]; exact Or.inr h
  have hS : va_S A s.heap s.heap [] := va_S.rf
  have hP : va_P g.1 vwCl [(a_M, .inr (5, [.int M_thrown, .int M_n, .ref a_M_a, .ref a_M_rowAt, .ref a_M_places, .ref a_M_rights, .ref a_M_weights, .int M_hasFactors, .ref a_M_pivots, .ref a_M_lower, .int M_hasSolution, .ref a_M_solution, .ref a_M_work, .ref a_M_isJoined, .int M_levels, .ref a_M_stored])), (a_M_a, .inl (g.2.1, 256, .inl M_a)), (a_M_isJoined, .inl (g.2.2.1, 256, .inl M_isJoined)), (a_M_rowAt, .inl (g.2.1, 16, .inl M_rowAt)), (a_M_places, .inl (g.2.1, 16, .inl M_places))] s.heap := hP
  have hD : va_D A [(a_M, .inr (5, [.int M_thrown, .int M_n, .ref a_M_a, .ref a_M_rowAt, .ref a_M_places, .ref a_M_rights, .ref a_M_weights, .int M_hasFactors, .ref a_M_pivots, .ref a_M_lower, .int M_hasSolution, .ref a_M_solution, .ref a_M_work, .ref a_M_isJoined, .int M_levels, .ref a_M_stored])), (a_M_a, .inl (g.2.1, 256, .inl M_a)), (a_M_isJoined, .inl (g.2.2.1, 256, .inl M_isJoined)), (a_M_rowAt, .inl (g.2.1, 16, .inl M_rowAt)), (a_M_places, .inl (g.2.1, 16, .inl M_places))] := hD
  have hl := lv_entry ([.ref a_M, .int i_i]) (n := 2) (Nat.le_of_ble_eq_true rfl)
  rw [lg_entry_eq]
  generalize (lg_sl ([.ref a_M, .int i_i]) ++ List.replicate (2 - (lg_sl ([.ref a_M, .int i_i])).length) Slot.unset).toArray = ls at hl ⊢
  have hl : lv_has ls 2 [(0, .ref a_M), (1, .int i_i)] := hl
  unfold wp_X5_depth at hv
  refine lv_aload_n hx hb dX5_depth_0 rfl (lv_at hl 0 rfl) ?_
  refine lv_iconst (v := 0) hx hb dX5_depth_1 (by decide) ?_
  refine va_put (D := g.1) (ci := 5) (v := .int 0) (ty := .int) (C := RX5) (T := TX5) (N := 16) hx hb hts cw_in_X5 tyX5 tyX5_ok nmX5 hown hK.1 hP hD hS 0 rfl rfl 0 (by decide) (hts _ cw_f_X5_51) (fun _ h9 => h9) rfl (by decide +kernel) rfl rfl (Nat.le_of_ble_eq_true rfl) dX5_depth_2 (fun H locs hP hD hS => ?_)
  have hP : va_P g.1 vwCl [(a_M, .inr (5, [.int 0, .int M_n, .ref a_M_a, .ref a_M_rowAt, .ref a_M_places, .ref a_M_rights, .ref a_M_weights, .int M_hasFactors, .ref a_M_pivots, .ref a_M_lower, .int M_hasSolution, .ref a_M_solution, .ref a_M_work, .ref a_M_isJoined, .int M_levels, .ref a_M_stored])), (a_M_a, .inl (g.2.1, 256, .inl M_a)), (a_M_isJoined, .inl (g.2.2.1, 256, .inl M_isJoined)), (a_M_rowAt, .inl (g.2.1, 16, .inl M_rowAt)), (a_M_places, .inl (g.2.1, 16, .inl M_places))] H := hP
  have hD : va_D A [(a_M, .inr (5, [.int 0, .int M_n, .ref a_M_a, .ref a_M_rowAt, .ref a_M_places, .ref a_M_rights, .ref a_M_weights, .int M_hasFactors, .ref a_M_pivots, .ref a_M_lower, .int M_hasSolution, .ref a_M_solution, .ref a_M_work, .ref a_M_isJoined, .int M_levels, .ref a_M_stored])), (a_M_a, .inl (g.2.1, 256, .inl M_a)), (a_M_isJoined, .inl (g.2.2.1, 256, .inl M_isJoined)), (a_M_rowAt, .inl (g.2.1, 16, .inl M_rowAt)), (a_M_places, .inl (g.2.1, 16, .inl M_places))] := hD
  refine lv_aload_n hx hb dX5_depth_5 rfl (lv_at hl 0 rfl) ?_
  refine lv_iload_n hx hb dX5_depth_6 rfl (lv_at hl 1 rfl) ?_
  refine cx_iVr (As := [.int i_i]) (rest := []) ⟨hx, hb, hml, hown, hts⟩ (c_X5_isRow l g a_M a_M_a a_M_rowAt a_M_places a_M_rights a_M_weights a_M_pivots a_M_lower a_M_solution a_M_work a_M_isJoined a_M_stored i_i 0 M_n M_hasFactors M_hasSolution M_levels hv) (cx_cwV 1 hts cw_m_X5_76 cw_i_X5_isRow cw_s_X5_isRow cw_n_X5 cw_c_X5_isRow rfl rfl (by decide +kernel) ⟨Nat.le_of_ble_eq_true rfl, Nat.le_of_ble_eq_true rfl⟩) hK hP hD hS hA 0 5 rfl rfl [0] rfl rfl rfl hl.1 rfl (Nat.le_of_ble_eq_true rfl) dX5_depth_7 ⟨Nat.le_of_ble_eq_true rfl, Nat.le_of_ble_eq_true rfl⟩ (fun r_1 H locs hv hP hS => ?_)
  refine lv_if_ne (tgt := 19) hx hb dX5_depth_10 (by decide) (fun hc => ?_) (fun hc => ?_)
  · replace hv := hv.2 hc
    refine lv_aload_n hx hb dX5_depth_19 rfl (lv_at hl 0 rfl) ?_
    refine cx_vV (wr := [(a_M_places, .inl (g.2.1, 16, .inl M_places))]) (As := []) (rest := []) ⟨hx, hb, hml, hown, hts⟩ (c_X5_fill l g a_M a_M_a a_M_rowAt a_M_places a_M_rights a_M_weights a_M_pivots a_M_lower a_M_solution a_M_work a_M_isJoined a_M_stored 0 M_n M_hasFactors M_hasSolution M_levels M_a M_isJoined M_rowAt hv) (cx_cwV 0 hts cw_m_X5_116 cw_i_X5_fill cw_s_X5_fill cw_n_X5 cw_c_X5_fill rfl rfl (by decide +kernel) ⟨Nat.le_of_ble_eq_true rfl, Nat.le_of_ble_eq_true rfl⟩) hK hP hD hS hA 0 5 rfl rfl [0, 1, 2, 3] [4] rfl rfl rfl rfl (by decide) rfl hl.1 rfl (Nat.le_of_ble_eq_true rfl) dX5_depth_20 ⟨Nat.le_of_ble_eq_true rfl, Nat.le_of_ble_eq_true rfl⟩ (fun w_4 H locs hv hP hD hS => ?_)
    obtain ⟨u_3, rfl⟩ : ∃ z, z = w_4 := ⟨_, rfl⟩
    have hP : va_P g.1 vwCl [(a_M, .inr (5, [.int 0, .int M_n, .ref a_M_a, .ref a_M_rowAt, .ref a_M_places, .ref a_M_rights, .ref a_M_weights, .int M_hasFactors, .ref a_M_pivots, .ref a_M_lower, .int M_hasSolution, .ref a_M_solution, .ref a_M_work, .ref a_M_isJoined, .int M_levels, .ref a_M_stored])), (a_M_a, .inl (g.2.1, 256, .inl M_a)), (a_M_isJoined, .inl (g.2.2.1, 256, .inl u_3)), (a_M_rowAt, .inl (g.2.1, 16, .inl M_rowAt)), (a_M_places, .inl (g.2.1, 16, .inl M_places))] H := hP.sub [1, 2, 3, 4, 0] rfl
    have hD : va_D A [(a_M, .inr (5, [.int 0, .int M_n, .ref a_M_a, .ref a_M_rowAt, .ref a_M_places, .ref a_M_rights, .ref a_M_weights, .int M_hasFactors, .ref a_M_pivots, .ref a_M_lower, .int M_hasSolution, .ref a_M_solution, .ref a_M_work, .ref a_M_isJoined, .int M_levels, .ref a_M_stored])), (a_M_a, .inl (g.2.1, 256, .inl M_a)), (a_M_isJoined, .inl (g.2.2.1, 256, .inl u_3)), (a_M_rowAt, .inl (g.2.1, 16, .inl M_rowAt)), (a_M_places, .inl (g.2.1, 16, .inl M_places))] := hD.sub [1, 2, 3, 4, 0] (by decide) rfl
    refine lv_aload_n hx hb dX5_depth_23 rfl (lv_at hl 0 rfl) ?_
    refine lv_iload_n hx hb dX5_depth_24 rfl (lv_at hl 1 rfl) ?_
    refine cx_iVr (As := [.int i_i]) (rest := []) ⟨hx, hb, hml, hown, hts⟩ (c_X5_lineOf l g a_M a_M_a a_M_rowAt a_M_places a_M_rights a_M_weights a_M_pivots a_M_lower a_M_solution a_M_work a_M_isJoined a_M_stored i_i 0 M_n M_hasFactors M_hasSolution M_levels M_places M_rowAt u_3 hv) (cx_cwV 1 hts cw_m_X5_139 cw_i_X5_lineOf cw_s_X5_lineOf cw_n_X5 cw_c_X5_lineOf rfl rfl (by decide +kernel) ⟨Nat.le_of_ble_eq_true rfl, Nat.le_of_ble_eq_true rfl⟩) hK hP hD hS hA 0 5 rfl rfl [0, 4, 3, 2] rfl rfl rfl hl.1 rfl (Nat.le_of_ble_eq_true rfl) dX5_depth_25 ⟨Nat.le_of_ble_eq_true rfl, Nat.le_of_ble_eq_true rfl⟩ (fun r_5 H locs hv hP hS => ?_)
    refine cx_iSr (As := [.int r_5]) (rest := []) ⟨hx, hb, hml, hown, hts⟩ (c_X5_bits l g r_5 hv) (cx_cwS 1 hts cw_m_X5_142 cw_t_X5_bits cw_n_X5 cw_c_X5_bits rfl rfl (by decide +kernel) ⟨Nat.le_of_ble_eq_true rfl, Nat.le_of_ble_eq_true rfl⟩) hK hP hD hS hA [] rfl rfl rfl hl.1 rfl (Nat.le_of_ble_eq_true rfl) dX5_depth_28 ⟨Nat.le_of_ble_eq_true rfl, Nat.le_of_ble_eq_true rfl⟩ (fun r_6 H locs hv hP hS => ?_)
    refine lv_iconst (v := 1) hx hb dX5_depth_31 (by decide) ?_
    refine lv_isub hx hb dX5_depth_32 ?_
    exact cx_iret hx hb hr hlocks hAe hS (0, u_3) hv hP hD dX5_depth_33
  · replace hv := hv.1 hc
    refine lv_aload_n hx hb dX5_depth_13 rfl (lv_at hl 0 rfl) ?_
    refine lv_iconst (v := 1) hx hb dX5_depth_14 (by decide) ?_
    refine cx_iV (wr := [(a_M_a, .inl (g.2.1, 256, .inl M_a)), (a_M_isJoined, .inl (g.2.2.1, 256, .inl M_isJoined)), (a_M_rowAt, .inl (g.2.1, 16, .inl M_rowAt)), (a_M_places, .inl (g.2.1, 16, .inl M_places))]) (As := [.int 1]) (rest := []) ⟨hx, hb, hml, hown, hts⟩ (c_X5_no l g a_M a_M_a a_M_rowAt a_M_places a_M_rights a_M_weights a_M_pivots a_M_lower a_M_solution a_M_work a_M_isJoined a_M_stored 1 0 M_n M_hasFactors M_hasSolution M_levels hv) (cx_cwV 1 hts cw_m_X5_72 cw_i_X5_no cw_s_X5_no cw_n_X5 cw_c_X5_no rfl rfl (by decide +kernel) ⟨Nat.le_of_ble_eq_true rfl, Nat.le_of_ble_eq_true rfl⟩) hK hP hD hS hA 0 5 rfl rfl [0] [1, 2, 3, 4] rfl rfl rfl rfl (by decide) rfl hl.1 rfl (Nat.le_of_ble_eq_true rfl) dX5_depth_15 ⟨Nat.le_of_ble_eq_true rfl, Nat.le_of_ble_eq_true rfl⟩ (fun r_7 w_9 H locs hv hP hD hS => ?_)
    obtain ⟨u_8, rfl⟩ : ∃ z, z = w_9 := ⟨_, rfl⟩
    have hP : va_P g.1 vwCl [(a_M, .inr (5, [.int u_8, .int M_n, .ref a_M_a, .ref a_M_rowAt, .ref a_M_places, .ref a_M_rights, .ref a_M_weights, .int M_hasFactors, .ref a_M_pivots, .ref a_M_lower, .int M_hasSolution, .ref a_M_solution, .ref a_M_work, .ref a_M_isJoined, .int M_levels, .ref a_M_stored])), (a_M_a, .inl (g.2.1, 256, .inl M_a)), (a_M_isJoined, .inl (g.2.2.1, 256, .inl M_isJoined)), (a_M_rowAt, .inl (g.2.1, 16, .inl M_rowAt)), (a_M_places, .inl (g.2.1, 16, .inl M_places))] H := hP.sub [4, 0, 1, 2, 3] rfl
    have hD : va_D A [(a_M, .inr (5, [.int u_8, .int M_n, .ref a_M_a, .ref a_M_rowAt, .ref a_M_places, .ref a_M_rights, .ref a_M_weights, .int M_hasFactors, .ref a_M_pivots, .ref a_M_lower, .int M_hasSolution, .ref a_M_solution, .ref a_M_work, .ref a_M_isJoined, .int M_levels, .ref a_M_stored])), (a_M_a, .inl (g.2.1, 256, .inl M_a)), (a_M_isJoined, .inl (g.2.2.1, 256, .inl M_isJoined)), (a_M_rowAt, .inl (g.2.1, 16, .inl M_rowAt)), (a_M_places, .inl (g.2.1, 16, .inl M_places))] := hD.sub [4, 0, 1, 2, 3] (by decide) rfl
    exact cx_iret hx hb hr hlocks hAe hS (u_8, M_isJoined) hv hP hD dX5_depth_18
def vc_X5_subtree_0 (i_i : Int32) (M_thrown : Int32) (M_n : Int32) (M_hasFactors : Int32) (M_hasSolution : Int32) (M_levels : Int32) (M_a : (Nat → Int32)) (M_isJoined : (Nat → Int32)) (M_rowAt : (Nat → Int32)) (M_places : (Nat → Int32)) (Q : Int32 → Int32 → (Nat → Int32) → Prop) (G1 : Int32 → Int32 → Int32 → (Nat → Int32) → Prop)  : Prop := wp_X5_isRow i_i 0 M_n M_hasFactors M_hasSolution M_levels (fun r_1 => (r_1 = 0 → (wp_X5_no 1 0 M_n M_hasFactors M_hasSolution M_levels (fun r_5 u_6 => Q r_5 u_6 M_isJoined))) ∧ (¬ r_1 = 0 → (wp_X5_fill 0 M_n M_hasFactors M_hasSolution M_levels M_a M_isJoined M_rowAt (fun u_3 => G1 0 0 0 u_3))))
def vc_X5_subtree_1 (i_i : Int32) (M_thrown : Int32) (M_n : Int32) (M_hasFactors : Int32) (M_hasSolution : Int32) (M_levels : Int32) (M_a : (Nat → Int32)) (M_isJoined : (Nat → Int32)) (M_rowAt : (Nat → Int32)) (M_places : (Nat → Int32)) (Q : Int32 → Int32 → (Nat → Int32) → Prop) (G1 : Int32 → Int32 → Int32 → (Nat → Int32) → Prop) (x3 : Int32) (x2 : Int32) (v_M_thrown : Int32) (v_M_isJoined : (Nat → Int32)) : Prop := (M_n ≤ x3 → (Q x2 v_M_thrown v_M_isJoined)) ∧ (¬ M_n ≤ x3 → (wp_X5_lineOf x3 v_M_thrown M_n M_hasFactors M_hasSolution M_levels M_places M_rowAt v_M_isJoined (fun r_1 => ∀ x2_2 : Int32, x2_2 = (x2 + ((r_1 >>> (i_i &&& 31)) &&& 1)) → (∀ x3_3 : Int32, x3_3 = x3 + 1 → (G1 x3_3 x2_2 v_M_thrown v_M_isJoined)))))
def wp_X5_subtree (i_i : Int32) (M_thrown : Int32) (M_n : Int32) (M_hasFactors : Int32) (M_hasSolution : Int32) (M_levels : Int32) (M_a : (Nat → Int32)) (M_isJoined : (Nat → Int32)) (M_rowAt : (Nat → Int32)) (M_places : (Nat → Int32)) (Q : Int32 → Int32 → (Nat → Int32) → Prop) : Prop := ∀ (G1 : Int32 → Int32 → Int32 → (Nat → Int32) → Prop), (∀ (x3 : Int32) (x2 : Int32) (v_M_thrown : Int32) (v_M_isJoined : (Nat → Int32)), vc_X5_subtree_1 i_i M_thrown M_n M_hasFactors M_hasSolution M_levels M_a M_isJoined M_rowAt M_places Q G1 x3 x2 v_M_thrown v_M_isJoined → G1 x3 x2 v_M_thrown v_M_isJoined) → vc_X5_subtree_0 i_i M_thrown M_n M_hasFactors M_hasSolution M_levels M_a M_isJoined M_rowAt M_places Q G1
abbrev w0_X5_subtree (g : cx_G) (a_M a_M_a a_M_rowAt a_M_places a_M_rights a_M_weights a_M_pivots a_M_lower a_M_solution a_M_work a_M_isJoined a_M_stored : Nat) (M_thrown : Int32) (M_n : Int32) (M_hasFactors : Int32) (M_hasSolution : Int32) (M_levels : Int32) (M_a : (Nat → Int32)) (M_isJoined : (Nat → Int32)) (M_rowAt : (Nat → Int32)) (M_places : (Nat → Int32)) : va_W := [(a_M, .inr (5, [.int M_thrown, .int M_n, .ref a_M_a, .ref a_M_rowAt, .ref a_M_places, .ref a_M_rights, .ref a_M_weights, .int M_hasFactors, .ref a_M_pivots, .ref a_M_lower, .int M_hasSolution, .ref a_M_solution, .ref a_M_work, .ref a_M_isJoined, .int M_levels, .ref a_M_stored])), (a_M_a, .inl (g.2.1, 256, .inl M_a)), (a_M_isJoined, .inl (g.2.2.1, 256, .inl M_isJoined)), (a_M_rowAt, .inl (g.2.1, 16, .inl M_rowAt)), (a_M_places, .inl (g.2.1, 16, .inl M_places))]
abbrev w1_X5_subtree (g : cx_G) (a_M a_M_a a_M_rowAt a_M_places a_M_rights a_M_weights a_M_pivots a_M_lower a_M_solution a_M_work a_M_isJoined a_M_stored : Nat) (M_thrown : Int32) (M_n : Int32) (M_hasFactors : Int32) (M_hasSolution : Int32) (M_levels : Int32) (M_a : (Nat → Int32)) (M_isJoined : (Nat → Int32)) (M_rowAt : (Nat → Int32)) (M_places : (Nat → Int32)) (u : Int32 × (Nat → Int32)) : va_W := [(a_M, .inr (5, [.int u.1, .int M_n, .ref a_M_a, .ref a_M_rowAt, .ref a_M_places, .ref a_M_rights, .ref a_M_weights, .int M_hasFactors, .ref a_M_pivots, .ref a_M_lower, .int M_hasSolution, .ref a_M_solution, .ref a_M_work, .ref a_M_isJoined, .int M_levels, .ref a_M_stored])), (a_M_a, .inl (g.2.1, 256, .inl M_a)), (a_M_isJoined, .inl (g.2.2.1, 256, .inl u.2)), (a_M_rowAt, .inl (g.2.1, 16, .inl M_rowAt)), (a_M_places, .inl (g.2.1, 16, .inl M_places))]
set_option maxHeartbeats 4000000 in
set_option maxRecDepth 100000 in
theorem c_X5_subtree (l : Launch) (g : cx_G) (a_M a_M_a a_M_rowAt a_M_places a_M_rights a_M_weights a_M_pivots a_M_lower a_M_solution a_M_work a_M_isJoined a_M_stored : Nat) (i_i : Int32) (M_thrown : Int32) (M_n : Int32) (M_hasFactors : Int32) (M_hasSolution : Int32) (M_levels : Int32) (M_a : (Nat → Int32)) (M_isJoined : (Nat → Int32)) (M_rowAt : (Nat → Int32)) (M_places : (Nat → Int32)) {Q : Int32 → Int32 → (Nat → Int32) → Prop} (hv : wp_X5_subtree i_i M_thrown M_n M_hasFactors M_hasSolution M_levels M_a M_isJoined M_rowAt M_places Q) : cx_Mi l g yX5_subtree (Cond.code yX5_subtree cX5_subtree 4 (some .int) :: cx_T) ({ frames := 4, cells := 0, slots := 0, locals := 86 } : Room) [.ref a_M, .int i_i] (w0_X5_subtree g a_M a_M_a a_M_rowAt a_M_places a_M_rights a_M_weights a_M_pivots a_M_lower a_M_solution a_M_work a_M_isJoined a_M_stored M_thrown M_n M_hasFactors M_hasSolution M_levels M_a M_isJoined M_rowAt M_places) (fun (r : Int32) (u : Int32 × (Nat → Int32)) => Q r u.1 u.2) (w1_X5_subtree g a_M a_M_a a_M_rowAt a_M_places a_M_rights a_M_weights a_M_pivots a_M_lower a_M_solution a_M_work a_M_isJoined a_M_stored M_thrown M_n M_hasFactors M_hasSolution M_levels M_a M_isJoined M_rowAt M_places) 0 0 := by
  intro sz
  refine Met.ofW (cc := cX5_subtree) (maxL := 4) (ret := (some .int)) (by decide) rfl ?_
  intro p e s m args below meth c s₁ B hml hpre
  obtain ⟨rfl, hsz, hP, hK, hD0⟩ := hpre
  have hx := B.exec
  have hb := B.bytes
  have hr := B.returns
  have hts0 := atoms_spec (ws := (Cond.code yX5_subtree cX5_subtree 4 (some .int) :: cx_T)) B.pre
  have hts : ∀ w ∈ cx_T, w.before _ s = true := fun w h => hts0 w (List.mem_cons_of_mem _ h)
  have hown : s.vm.findClass RX5 = some m.cls := findClass_of_methodNamed B.named
  have hlocks := B.notSynchronized
  subst hsz
  have hD := hD0.self (sz := s.heap.size)
  obtain ⟨A, hAe⟩ : ∃ A : Nat → Prop, A = va_A (w0_X5_subtree g a_M a_M_a a_M_rowAt a_M_places a_M_rights a_M_weights a_M_pivots a_M_lower a_M_solution a_M_work a_M_isJoined a_M_stored M_thrown M_n M_hasFactors M_hasSolution M_levels M_a M_isJoined M_rowAt M_places) s.heap.size := ⟨_, rfl⟩
  rw [← hAe] at hD
  have hA : ∀ q : Nat, s.heap.size ≤ q → A q := fun q h => by rw [hAe]; exact Or.inr h
  have hS : va_S A s.heap s.heap [] := va_S.rf
  have hP : va_P g.1 vwCl [(a_M, .inr (5, [.int M_thrown, .int M_n, .ref a_M_a, .ref a_M_rowAt, .ref a_M_places, .ref a_M_rights, .ref a_M_weights, .int M_hasFactors, .ref a_M_pivots, .ref a_M_lower, .int M_hasSolution, .ref a_M_solution, .ref a_M_work, .ref a_M_isJoined, .int M_levels, .ref a_M_stored])), (a_M_a, .inl (g.2.1, 256, .inl M_a)), (a_M_isJoined, .inl (g.2.2.1, 256, .inl M_isJoined)), (a_M_rowAt, .inl (g.2.1, 16, .inl M_rowAt)), (a_M_places, .inl (g.2.1, 16, .inl M_places))] s.heap := hP
  have hD : va_D A [(a_M, .inr (5, [.int M_thrown, .int M_n, .ref a_M_a, .ref a_M_rowAt, .ref a_M_places, .ref a_M_rights, .ref a_M_weights, .int M_hasFactors, .ref a_M_pivots, .ref a_M_lower, .int M_hasSolution, .ref a_M_solution, .ref a_M_work, .ref a_M_isJoined, .int M_levels, .ref a_M_stored])), (a_M_a, .inl (g.2.1, 256, .inl M_a)), (a_M_isJoined, .inl (g.2.2.1, 256, .inl M_isJoined)), (a_M_rowAt, .inl (g.2.1, 16, .inl M_rowAt)), (a_M_places, .inl (g.2.1, 16, .inl M_places))] := hD
  have hl := lv_entry ([.ref a_M, .int i_i]) (n := 4) (Nat.le_of_ble_eq_true rfl)
  rw [lg_entry_eq]
  generalize (lg_sl ([.ref a_M, .int i_i]) ++ List.replicate (4 - (lg_sl ([.ref a_M, .int i_i])).length) Slot.unset).toArray = ls at hl ⊢
  have hl : lv_has ls 4 [(0, .ref a_M), (1, .int i_i)] := hl
  obtain ⟨G1, hG1⟩ : ∃ G : Int32 → Int32 → Int32 → (Nat → Int32) → Prop, G = (fun (x3 : Int32) (x2 : Int32) (v_M_thrown : Int32) (v_M_isJoined : (Nat → Int32)) => ∀ (H : Heap) (locs : List Loc) (ls : Array Slot), va_P g.1 vwCl [(a_M, .inr (5, [.int v_M_thrown, .int M_n, .ref a_M_a, .ref a_M_rowAt, .ref a_M_places, .ref a_M_rights, .ref a_M_weights, .int M_hasFactors, .ref a_M_pivots, .ref a_M_lower, .int M_hasSolution, .ref a_M_solution, .ref a_M_work, .ref a_M_isJoined, .int M_levels, .ref a_M_stored])), (a_M_a, .inl (g.2.1, 256, .inl M_a)), (a_M_isJoined, .inl (g.2.2.1, 256, .inl v_M_isJoined)), (a_M_rowAt, .inl (g.2.1, 16, .inl M_rowAt)), (a_M_places, .inl (g.2.1, 16, .inl M_places))] H → va_D A [(a_M, .inr (5, [.int v_M_thrown, .int M_n, .ref a_M_a, .ref a_M_rowAt, .ref a_M_places, .ref a_M_rights, .ref a_M_weights, .int M_hasFactors, .ref a_M_pivots, .ref a_M_lower, .int M_hasSolution, .ref a_M_solution, .ref a_M_work, .ref a_M_isJoined, .int M_levels, .ref a_M_stored])), (a_M_a, .inl (g.2.1, 256, .inl M_a)), (a_M_isJoined, .inl (g.2.2.1, 256, .inl v_M_isJoined)), (a_M_rowAt, .inl (g.2.1, 16, .inl M_rowAt)), (a_M_places, .inl (g.2.1, 16, .inl M_places))] → va_S A s.heap H locs → lv_has ls 4 [(3, .int x3), (2, .int x2), (0, .ref a_M), (1, .int i_i)] → W p l e (headSpec (Cond.code yX5_subtree cX5_subtree 4 (some .int) :: cx_T) ({ frames := 4, cells := 0, slots := 0, locals := 86 } : Room)).room s m ([.ref a_M, .int i_i] : List Value).toArray below meth c H locs 0 0 (MQ below (va_Qi (fun (r : Int32) (u : Int32 × (Nat → Int32)) => Q r u.1 u.2) (cx_B g (w0_X5_subtree g a_M a_M_a a_M_rowAt a_M_places a_M_rights a_M_weights a_M_pivots a_M_lower a_M_solution a_M_work a_M_isJoined a_M_stored M_thrown M_n M_hasFactors M_hasSolution M_levels M_a M_isJoined M_rowAt M_places) s.heap.size (w1_X5_subtree g a_M a_M_a a_M_rowAt a_M_places a_M_rights a_M_weights a_M_pivots a_M_lower a_M_solution a_M_work a_M_isJoined a_M_stored M_thrown M_n M_hasFactors M_hasSolution M_levels M_a M_isJoined M_rowAt M_places)) (va_A (w0_X5_subtree g a_M a_M_a a_M_rowAt a_M_places a_M_rights a_M_weights a_M_pivots a_M_lower a_M_solution a_M_work a_M_isJoined a_M_stored M_thrown M_n M_hasFactors M_hasSolution M_levels M_a M_isJoined M_rowAt M_places) s.heap.size)) ([.ref a_M, .int i_i] : List Value).toArray s 0 0 (va_A (w0_X5_subtree g a_M a_M_a a_M_rowAt a_M_places a_M_rights a_M_weights a_M_pivots a_M_lower a_M_solution a_M_work a_M_isJoined a_M_stored M_thrown M_n M_hasFactors M_hasSolution M_levels M_a M_isJoined M_rowAt M_places) s.heap.size)) (F0 m 27 ls [])) := ⟨_, rfl⟩
  have hs1 : ∀ (x3 : Int32) (x2 : Int32) (v_M_thrown : Int32) (v_M_isJoined : (Nat → Int32)), vc_X5_subtree_1 i_i M_thrown M_n M_hasFactors M_hasSolution M_levels M_a M_isJoined M_rowAt M_places Q G1 x3 x2 v_M_thrown v_M_isJoined → G1 x3 x2 v_M_thrown v_M_isJoined := by
    rw [hG1]
    intro x3 x2 v_M_thrown v_M_isJoined hv H locs ls hP hD hS hl
    unfold vc_X5_subtree_1 at hv
    refine lv_iload_n hx hb dX5_subtree_27 rfl (lv_at hl 0 rfl) ?_
    refine lv_aload_n hx hb dX5_subtree_28 rfl (lv_at hl 2 rfl) ?_
    refine va_get (D := g.1) (ci := 5) (v := .int M_n) (C := RX5) (T := TX5) (N := 16) hx hb hts cw_in_X5 hown hK.1 hP 0 rfl rfl 1 (by decide) (hts _ cw_f_X5_9) (fun _ h9 => h9) rfl dX5_subtree_29 ?_
    refine lv_icmp_ge (tgt := 53) hx hb dX5_subtree_32 (by decide) (fun hc => ?_) (fun hc => ?_)
    · replace hv := hv.1 hc
      refine lv_iload_n hx hb dX5_subtree_53 rfl (lv_at hl 1 rfl) ?_
      exact cx_iret hx hb hr hlocks hAe hS (v_M_thrown, v_M_isJoined) hv hP hD dX5_subtree_54
    · replace hv := hv.2 hc
      refine lv_iload_n hx hb dX5_subtree_35 rfl (lv_at hl 1 rfl) ?_
      refine lv_aload_n hx hb dX5_subtree_36 rfl (lv_at hl 2 rfl) ?_
      refine lv_iload_n hx hb dX5_subtree_37 rfl (lv_at hl 0 rfl) ?_
      refine cx_iVr (As := [.int x3]) (rest := [.int x2]) ⟨hx, hb, hml, hown, hts⟩ (c_X5_lineOf l g a_M a_M_a a_M_rowAt a_M_places a_M_rights a_M_weights a_M_pivots a_M_lower a_M_solution a_M_work a_M_isJoined a_M_stored x3 v_M_thrown M_n M_hasFactors M_hasSolution M_levels M_places M_rowAt v_M_isJoined hv) (cx_cwV 1 hts cw_m_X5_139 cw_i_X5_lineOf cw_s_X5_lineOf cw_n_X5 cw_c_X5_lineOf rfl rfl (by decide +kernel) ⟨Nat.le_of_ble_eq_true rfl, Nat.le_of_ble_eq_true rfl⟩) hK hP hD hS hA 0 5 rfl rfl [0, 4, 3, 2] rfl rfl rfl hl.1 rfl (Nat.le_of_ble_eq_true rfl) dX5_subtree_38 ⟨Nat.le_of_ble_eq_true rfl, Nat.le_of_ble_eq_true rfl⟩ (fun r_1 H locs hv hP hS => ?_)
      refine lv_iload_n hx hb dX5_subtree_41 rfl (lv_at hl 3 rfl) ?_
      refine lv_ishr hx hb dX5_subtree_42 ?_
      refine lv_iconst (v := 1) hx hb dX5_subtree_43 (by decide) ?_
      refine lv_iand hx hb dX5_subtree_44 ?_
      refine lv_iadd hx hb dX5_subtree_45 ?_
      refine lv_topi (fun x2_2 ex2_2 => ?_)
      replace hv := hv x2_2 ex2_2
      refine lv_istore_n (lv' := [(2, .int x2_2), (3, .int x3), (0, .ref a_M), (1, .int i_i)]) hx hb dX5_subtree_46 rfl hl (by decide) rfl (fun ls hl => ?_)
      obtain ⟨x3_3, ex3_3⟩ : ∃ y : Int32, y = x3 + 1 := ⟨_, rfl⟩
      replace hv := hv x3_3 ex3_3
      refine lv_iinc (v := x3_3) (lv' := [(3, .int x3_3), (2, .int x2_2), (0, .ref a_M), (1, .int i_i)]) hx hb dX5_subtree_47 hl (k := 1) rfl (by rw [ex3_3]; rfl) (by decide) rfl (fun ls hl => ?_)
      refine lv_goto (tgt := 27) hx hb dX5_subtree_50 (by decide) ?_
      exact hv _ _ _ hP hD hS (lv_sub hl [0, 1, 2, 3] rfl)
  replace hv := hv G1 hs1
  rw [hG1] at hv
  unfold vc_X5_subtree_0 at hv
  refine lv_aload_n hx hb dX5_subtree_0 rfl (lv_at hl 0 rfl) ?_
  refine lv_iconst (v := 0) hx hb dX5_subtree_1 (by decide) ?_
  refine va_put (D := g.1) (ci := 5) (v := .int 0) (ty := .int) (C := RX5) (T := TX5) (N := 16) hx hb hts cw_in_X5 tyX5 tyX5_ok nmX5 hown hK.1 hP hD hS 0 rfl rfl 0 (by decide) (hts _ cw_f_X5_51) (fun _ h9 => h9) rfl (by decide +kernel) rfl rfl (Nat.le_of_ble_eq_true rfl) dX5_subtree_2 (fun H locs hP hD hS => ?_)
  have hP : va_P g.1 vwCl [(a_M, .inr (5, [.int 0, .int M_n, .ref a_M_a, .ref a_M_rowAt, .ref a_M_places, .ref a_M_rights, .ref a_M_weights, .int M_hasFactors, .ref a_M_pivots, .ref a_M_lower, .int M_hasSolution, .ref a_M_solution, .ref a_M_work, .ref a_M_isJoined, .int M_levels, .ref a_M_stored])), (a_M_a, .inl (g.2.1, 256, .inl M_a)), (a_M_isJoined, .inl (g.2.2.1, 256, .inl M_isJoined)), (a_M_rowAt, .inl (g.2.1, 16, .inl M_rowAt)), (a_M_places, .inl (g.2.1, 16, .inl M_places))] H := hP
  have hD : va_D A [(a_M, .inr (5, [.int 0, .int M_n, .ref a_M_a, .ref a_M_rowAt, .ref a_M_places, .ref a_M_rights, .ref a_M_weights, .int M_hasFactors, .ref a_M_pivots, .ref a_M_lower, .int M_hasSolution, .ref a_M_solution, .ref a_M_work, .ref a_M_isJoined, .int M_levels, .ref a_M_stored])), (a_M_a, .inl (g.2.1, 256, .inl M_a)), (a_M_isJoined, .inl (g.2.2.1, 256, .inl M_isJoined)), (a_M_rowAt, .inl (g.2.1, 16, .inl M_rowAt)), (a_M_places, .inl (g.2.1, 16, .inl M_places))] := hD
  refine lv_aload_n hx hb dX5_subtree_5 rfl (lv_at hl 0 rfl) ?_
  refine lv_iload_n hx hb dX5_subtree_6 rfl (lv_at hl 1 rfl) ?_
  refine cx_iVr (As := [.int i_i]) (rest := []) ⟨hx, hb, hml, hown, hts⟩ (c_X5_isRow l g a_M a_M_a a_M_rowAt a_M_places a_M_rights a_M_weights a_M_pivots a_M_lower a_M_solution a_M_work a_M_isJoined a_M_stored i_i 0 M_n M_hasFactors M_hasSolution M_levels hv) (cx_cwV 1 hts cw_m_X5_76 cw_i_X5_isRow cw_s_X5_isRow cw_n_X5 cw_c_X5_isRow rfl rfl (by decide +kernel) ⟨Nat.le_of_ble_eq_true rfl, Nat.le_of_ble_eq_true rfl⟩) hK hP hD hS hA 0 5 rfl rfl [0] rfl rfl rfl hl.1 rfl (Nat.le_of_ble_eq_true rfl) dX5_subtree_7 ⟨Nat.le_of_ble_eq_true rfl, Nat.le_of_ble_eq_true rfl⟩ (fun r_1 H locs hv hP hS => ?_)
  refine lv_if_ne (tgt := 19) hx hb dX5_subtree_10 (by decide) (fun hc => ?_) (fun hc => ?_)
  · replace hv := hv.2 hc
    refine lv_aload_n hx hb dX5_subtree_19 rfl (lv_at hl 0 rfl) ?_
    refine cx_vV (wr := [(a_M_places, .inl (g.2.1, 16, .inl M_places))]) (As := []) (rest := []) ⟨hx, hb, hml, hown, hts⟩ (c_X5_fill l g a_M a_M_a a_M_rowAt a_M_places a_M_rights a_M_weights a_M_pivots a_M_lower a_M_solution a_M_work a_M_isJoined a_M_stored 0 M_n M_hasFactors M_hasSolution M_levels M_a M_isJoined M_rowAt hv) (cx_cwV 0 hts cw_m_X5_116 cw_i_X5_fill cw_s_X5_fill cw_n_X5 cw_c_X5_fill rfl rfl (by decide +kernel) ⟨Nat.le_of_ble_eq_true rfl, Nat.le_of_ble_eq_true rfl⟩) hK hP hD hS hA 0 5 rfl rfl [0, 1, 2, 3] [4] rfl rfl rfl rfl (by decide) rfl hl.1 rfl (Nat.le_of_ble_eq_true rfl) dX5_subtree_20 ⟨Nat.le_of_ble_eq_true rfl, Nat.le_of_ble_eq_true rfl⟩ (fun w_4 H locs hv hP hD hS => ?_)
    obtain ⟨u_3, rfl⟩ : ∃ z, z = w_4 := ⟨_, rfl⟩
    have hP : va_P g.1 vwCl [(a_M, .inr (5, [.int 0, .int M_n, .ref a_M_a, .ref a_M_rowAt, .ref a_M_places, .ref a_M_rights, .ref a_M_weights, .int M_hasFactors, .ref a_M_pivots, .ref a_M_lower, .int M_hasSolution, .ref a_M_solution, .ref a_M_work, .ref a_M_isJoined, .int M_levels, .ref a_M_stored])), (a_M_a, .inl (g.2.1, 256, .inl M_a)), (a_M_isJoined, .inl (g.2.2.1, 256, .inl u_3)), (a_M_rowAt, .inl (g.2.1, 16, .inl M_rowAt)), (a_M_places, .inl (g.2.1, 16, .inl M_places))] H := hP.sub [1, 2, 3, 4, 0] rfl
    have hD : va_D A [(a_M, .inr (5, [.int 0, .int M_n, .ref a_M_a, .ref a_M_rowAt, .ref a_M_places, .ref a_M_rights, .ref a_M_weights, .int M_hasFactors, .ref a_M_pivots, .ref a_M_lower, .int M_hasSolution, .ref a_M_solution, .ref a_M_work, .ref a_M_isJoined, .int M_levels, .ref a_M_stored])), (a_M_a, .inl (g.2.1, 256, .inl M_a)), (a_M_isJoined, .inl (g.2.2.1, 256, .inl u_3)), (a_M_rowAt, .inl (g.2.1, 16, .inl M_rowAt)), (a_M_places, .inl (g.2.1, 16, .inl M_places))] := hD.sub [1, 2, 3, 4, 0] (by decide) rfl
    refine lv_iconst (v := 0) hx hb dX5_subtree_23 (by decide) ?_
    refine lv_istore_n (lv' := [(2, .int 0), (0, .ref a_M), (1, .int i_i)]) hx hb dX5_subtree_24 rfl hl (by decide) rfl (fun ls hl => ?_)
    refine lv_iconst (v := 0) hx hb dX5_subtree_25 (by decide) ?_
    refine lv_istore_n (lv' := [(3, .int 0), (2, .int 0), (0, .ref a_M), (1, .int i_i)]) hx hb dX5_subtree_26 rfl hl (by decide) rfl (fun ls hl => ?_)
    exact hv _ _ _ hP hD hS (lv_sub hl [0, 1, 2, 3] rfl)
  · replace hv := hv.1 hc
    refine lv_aload_n hx hb dX5_subtree_13 rfl (lv_at hl 0 rfl) ?_
    refine lv_iconst (v := 1) hx hb dX5_subtree_14 (by decide) ?_
    refine cx_iV (wr := [(a_M_a, .inl (g.2.1, 256, .inl M_a)), (a_M_isJoined, .inl (g.2.2.1, 256, .inl M_isJoined)), (a_M_rowAt, .inl (g.2.1, 16, .inl M_rowAt)), (a_M_places, .inl (g.2.1, 16, .inl M_places))]) (As := [.int 1]) (rest := []) ⟨hx, hb, hml, hown, hts⟩ (c_X5_no l g a_M a_M_a a_M_rowAt a_M_places a_M_rights a_M_weights a_M_pivots a_M_lower a_M_solution a_M_work a_M_isJoined a_M_stored 1 0 M_n M_hasFactors M_hasSolution M_levels hv) (cx_cwV 1 hts cw_m_X5_72 cw_i_X5_no cw_s_X5_no cw_n_X5 cw_c_X5_no rfl rfl (by decide +kernel) ⟨Nat.le_of_ble_eq_true rfl, Nat.le_of_ble_eq_true rfl⟩) hK hP hD hS hA 0 5 rfl rfl [0] [1, 2, 3, 4] rfl rfl rfl rfl (by decide) rfl hl.1 rfl (Nat.le_of_ble_eq_true rfl) dX5_subtree_15 ⟨Nat.le_of_ble_eq_true rfl, Nat.le_of_ble_eq_true rfl⟩ (fun r_5 w_7 H locs hv hP hD hS => ?_)
    obtain ⟨u_6, rfl⟩ : ∃ z, z = w_7 := ⟨_, rfl⟩
    have hP : va_P g.1 vwCl [(a_M, .inr (5, [.int u_6, .int M_n, .ref a_M_a, .ref a_M_rowAt, .ref a_M_places, .ref a_M_rights, .ref a_M_weights, .int M_hasFactors, .ref a_M_pivots, .ref a_M_lower, .int M_hasSolution, .ref a_M_solution, .ref a_M_work, .ref a_M_isJoined, .int M_levels, .ref a_M_stored])), (a_M_a, .inl (g.2.1, 256, .inl M_a)), (a_M_isJoined, .inl (g.2.2.1, 256, .inl M_isJoined)), (a_M_rowAt, .inl (g.2.1, 16, .inl M_rowAt)), (a_M_places, .inl (g.2.1, 16, .inl M_places))] H := hP.sub [4, 0, 1, 2, 3] rfl
    have hD : va_D A [(a_M, .inr (5, [.int u_6, .int M_n, .ref a_M_a, .ref a_M_rowAt, .ref a_M_places, .ref a_M_rights, .ref a_M_weights, .int M_hasFactors, .ref a_M_pivots, .ref a_M_lower, .int M_hasSolution, .ref a_M_solution, .ref a_M_work, .ref a_M_isJoined, .int M_levels, .ref a_M_stored])), (a_M_a, .inl (g.2.1, 256, .inl M_a)), (a_M_isJoined, .inl (g.2.2.1, 256, .inl M_isJoined)), (a_M_rowAt, .inl (g.2.1, 16, .inl M_rowAt)), (a_M_places, .inl (g.2.1, 16, .inl M_places))] := hD.sub [4, 0, 1, 2, 3] (by decide) rfl
    exact cx_iret hx hb hr hlocks hAe hS (u_6, M_isJoined) hv hP hD dX5_subtree_18
def vc_X5_height_0 (M_thrown : Int32) (M_n : Int32) (M_hasFactors : Int32) (M_hasSolution : Int32) (M_levels : Int32) (M_a : (Nat → Int32)) (M_isJoined : (Nat → Int32)) (M_rowAt : (Nat → Int32)) (M_places : (Nat → Int32)) (Q : Int32 → Int32 → (Nat → Int32) → Prop) (G1 : Int32 → Int32 → Int32 → (Nat → Int32) → Prop)  : Prop := wp_X5_fill 0 M_n M_hasFactors M_hasSolution M_levels M_a M_isJoined M_rowAt (fun u_2 => G1 0 0 0 u_2)
def vc_X5_height_1 (M_thrown : Int32) (M_n : Int32) (M_hasFactors : Int32) (M_hasSolution : Int32) (M_levels : Int32) (M_a : (Nat → Int32)) (M_isJoined : (Nat → Int32)) (M_rowAt : (Nat → Int32)) (M_places : (Nat → Int32)) (Q : Int32 → Int32 → (Nat → Int32) → Prop) (G1 : Int32 → Int32 → Int32 → (Nat → Int32) → Prop) (x2 : Int32) (x1 : Int32) (v_M_thrown : Int32) (v_M_isJoined : (Nat → Int32)) : Prop := (M_n ≤ x2 → (Q x1 v_M_thrown v_M_isJoined)) ∧ (¬ M_n ≤ x2 → (wp_X5_lineOf x2 v_M_thrown M_n M_hasFactors M_hasSolution M_levels M_places M_rowAt v_M_isJoined (fun r_1 => wp_X5_bits r_1 (fun r_2 => ∀ x1_3 : Int32, x1_3 = (if x1 < r_2 then r_2 else x1) → (∀ x2_4 : Int32, x2_4 = x2 + 1 → (G1 x2_4 x1_3 v_M_thrown v_M_isJoined))))))
def wp_X5_height (M_thrown : Int32) (M_n : Int32) (M_hasFactors : Int32) (M_hasSolution : Int32) (M_levels : Int32) (M_a : (Nat → Int32)) (M_isJoined : (Nat → Int32)) (M_rowAt : (Nat → Int32)) (M_places : (Nat → Int32)) (Q : Int32 → Int32 → (Nat → Int32) → Prop) : Prop := ∀ (G1 : Int32 → Int32 → Int32 → (Nat → Int32) → Prop), (∀ (x2 : Int32) (x1 : Int32) (v_M_thrown : Int32) (v_M_isJoined : (Nat → Int32)), vc_X5_height_1 M_thrown M_n M_hasFactors M_hasSolution M_levels M_a M_isJoined M_rowAt M_places Q G1 x2 x1 v_M_thrown v_M_isJoined → G1 x2 x1 v_M_thrown v_M_isJoined) → vc_X5_height_0 M_thrown M_n M_hasFactors M_hasSolution M_levels M_a M_isJoined M_rowAt M_places Q G1
abbrev w0_X5_height (g : cx_G) (a_M a_M_a a_M_rowAt a_M_places a_M_rights a_M_weights a_M_pivots a_M_lower a_M_solution a_M_work a_M_isJoined a_M_stored : Nat) (M_thrown : Int32) (M_n : Int32) (M_hasFactors : Int32) (M_hasSolution : Int32) (M_levels : Int32) (M_a : (Nat → Int32)) (M_isJoined : (Nat → Int32)) (M_rowAt : (Nat → Int32)) (M_places : (Nat → Int32)) : va_W := [(a_M, .inr (5, [.int M_thrown, .int M_n, .ref a_M_a, .ref a_M_rowAt, .ref a_M_places, .ref a_M_rights, .ref a_M_weights, .int M_hasFactors, .ref a_M_pivots, .ref a_M_lower, .int M_hasSolution, .ref a_M_solution, .ref a_M_work, .ref a_M_isJoined, .int M_levels, .ref a_M_stored])), (a_M_a, .inl (g.2.1, 256, .inl M_a)), (a_M_isJoined, .inl (g.2.2.1, 256, .inl M_isJoined)), (a_M_rowAt, .inl (g.2.1, 16, .inl M_rowAt)), (a_M_places, .inl (g.2.1, 16, .inl M_places))]
abbrev w1_X5_height (g : cx_G) (a_M a_M_a a_M_rowAt a_M_places a_M_rights a_M_weights a_M_pivots a_M_lower a_M_solution a_M_work a_M_isJoined a_M_stored : Nat) (M_thrown : Int32) (M_n : Int32) (M_hasFactors : Int32) (M_hasSolution : Int32) (M_levels : Int32) (M_a : (Nat → Int32)) (M_isJoined : (Nat → Int32)) (M_rowAt : (Nat → Int32)) (M_places : (Nat → Int32)) (u : Int32 × (Nat → Int32)) : va_W := [(a_M, .inr (5, [.int u.1, .int M_n, .ref a_M_a, .ref a_M_rowAt, .ref a_M_places, .ref a_M_rights, .ref a_M_weights, .int M_hasFactors, .ref a_M_pivots, .ref a_M_lower, .int M_hasSolution, .ref a_M_solution, .ref a_M_work, .ref a_M_isJoined, .int M_levels, .ref a_M_stored])), (a_M_a, .inl (g.2.1, 256, .inl M_a)), (a_M_isJoined, .inl (g.2.2.1, 256, .inl u.2)), (a_M_rowAt, .inl (g.2.1, 16, .inl M_rowAt)), (a_M_places, .inl (g.2.1, 16, .inl M_places))]
set_option maxHeartbeats 4000000 in
set_option maxRecDepth 100000 in
theorem c_X5_height (l : Launch) (g : cx_G) (a_M a_M_a a_M_rowAt a_M_places a_M_rights a_M_weights a_M_pivots a_M_lower a_M_solution a_M_work a_M_isJoined a_M_stored : Nat) (M_thrown : Int32) (M_n : Int32) (M_hasFactors : Int32) (M_hasSolution : Int32) (M_levels : Int32) (M_a : (Nat → Int32)) (M_isJoined : (Nat → Int32)) (M_rowAt : (Nat → Int32)) (M_places : (Nat → Int32)) {Q : Int32 → Int32 → (Nat → Int32) → Prop} (hv : wp_X5_height M_thrown M_n M_hasFactors M_hasSolution M_levels M_a M_isJoined M_rowAt M_places Q) : cx_Mi l g yX5_height (Cond.code yX5_height cX5_height 3 (some .int) :: cx_T) ({ frames := 4, cells := 0, slots := 0, locals := 86 } : Room) [.ref a_M] (w0_X5_height g a_M a_M_a a_M_rowAt a_M_places a_M_rights a_M_weights a_M_pivots a_M_lower a_M_solution a_M_work a_M_isJoined a_M_stored M_thrown M_n M_hasFactors M_hasSolution M_levels M_a M_isJoined M_rowAt M_places) (fun (r : Int32) (u : Int32 × (Nat → Int32)) => Q r u.1 u.2) (w1_X5_height g a_M a_M_a a_M_rowAt a_M_places a_M_rights a_M_weights a_M_pivots a_M_lower a_M_solution a_M_work a_M_isJoined a_M_stored M_thrown M_n M_hasFactors M_hasSolution M_levels M_a M_isJoined M_rowAt M_places) 0 0 := by
  intro sz
  refine Met.ofW (cc := cX5_height) (maxL := 3) (ret := (some .int)) (by decide) rfl ?_
  intro p e s m args below meth c s₁ B hml hpre
  obtain ⟨rfl, hsz, hP, hK, hD0⟩ := hpre
  have hx := B.exec
  have hb := B.bytes
  have hr := B.returns
  have hts0 := atoms_spec (ws := (Cond.code yX5_height cX5_height 3 (some .int) :: cx_T)) B.pre
  have hts : ∀ w ∈ cx_T, w.before _ s = true := fun w h => hts0 w (List.mem_cons_of_mem _ h)
  have hown : s.vm.findClass RX5 = some m.cls := findClass_of_methodNamed B.named
  have hlocks := B.notSynchronized
  subst hsz
  have hD := hD0.self (sz := s.heap.size)
  obtain ⟨A, hAe⟩ : ∃ A : Nat → Prop, A = va_A (w0_X5_height g a_M a_M_a a_M_rowAt a_M_places a_M_rights a_M_weights a_M_pivots a_M_lower a_M_solution a_M_work a_M_isJoined a_M_stored M_thrown M_n M_hasFactors M_hasSolution M_levels M_a M_isJoined M_rowAt M_places) s.heap.size := ⟨_, rfl⟩
  rw [← hAe] at hD
  have hA : ∀ q : Nat, s.heap.size ≤ q → A q := fun q h => by rw [hAe]; exact Or.inr h
  have hS : va_S A s.heap s.heap [] := va_S.rf
  have hP : va_P g.1 vwCl [(a_M, .inr (5, [.int M_thrown, .int M_n, .ref a_M_a, .ref a_M_rowAt, .ref a_M_places, .ref a_M_rights, .ref a_M_weights, .int M_hasFactors, .ref a_M_pivots, .ref a_M_lower, .int M_hasSolution, .ref a_M_solution, .ref a_M_work, .ref a_M_isJoined, .int M_levels, .ref a_M_stored])), (a_M_a, .inl (g.2.1, 256, .inl M_a)), (a_M_isJoined, .inl (g.2.2.1, 256, .inl M_isJoined)), (a_M_rowAt, .inl (g.2.1, 16, .inl M_rowAt)), (a_M_places, .inl (g.2.1, 16, .inl M_places))] s.heap := hP
  have hD : va_D A [(a_M, .inr (5, [.int M_thrown, .int M_n, .ref a_M_a, .ref a_M_rowAt, .ref a_M_places, .ref a_M_rights, .ref a_M_weights, .int M_hasFactors, .ref a_M_pivots, .ref a_M_lower, .int M_hasSolution, .ref a_M_solution, .ref a_M_work, .ref a_M_isJoined, .int M_levels, .ref a_M_stored])), (a_M_a, .inl (g.2.1, 256, .inl M_a)), (a_M_isJoined, .inl (g.2.2.1, 256, .inl M_isJoined)), (a_M_rowAt, .inl (g.2.1, 16, .inl M_rowAt)), (a_M_places, .inl (g.2.1, 16, .inl M_places))] := hD
  have hl := lv_entry ([.ref a_M]) (n := 3) (Nat.le_of_ble_eq_true rfl)
  rw [lg_entry_eq]
  generalize (lg_sl ([.ref a_M]) ++ List.replicate (3 - (lg_sl ([.ref a_M])).length) Slot.unset).toArray = ls at hl ⊢
  have hl : lv_has ls 3 [(0, .ref a_M)] := hl
  obtain ⟨G1, hG1⟩ : ∃ G : Int32 → Int32 → Int32 → (Nat → Int32) → Prop, G = (fun (x2 : Int32) (x1 : Int32) (v_M_thrown : Int32) (v_M_isJoined : (Nat → Int32)) => ∀ (H : Heap) (locs : List Loc) (ls : Array Slot), va_P g.1 vwCl [(a_M, .inr (5, [.int v_M_thrown, .int M_n, .ref a_M_a, .ref a_M_rowAt, .ref a_M_places, .ref a_M_rights, .ref a_M_weights, .int M_hasFactors, .ref a_M_pivots, .ref a_M_lower, .int M_hasSolution, .ref a_M_solution, .ref a_M_work, .ref a_M_isJoined, .int M_levels, .ref a_M_stored])), (a_M_a, .inl (g.2.1, 256, .inl M_a)), (a_M_isJoined, .inl (g.2.2.1, 256, .inl v_M_isJoined)), (a_M_rowAt, .inl (g.2.1, 16, .inl M_rowAt)), (a_M_places, .inl (g.2.1, 16, .inl M_places))] H → va_D A [(a_M, .inr (5, [.int v_M_thrown, .int M_n, .ref a_M_a, .ref a_M_rowAt, .ref a_M_places, .ref a_M_rights, .ref a_M_weights, .int M_hasFactors, .ref a_M_pivots, .ref a_M_lower, .int M_hasSolution, .ref a_M_solution, .ref a_M_work, .ref a_M_isJoined, .int M_levels, .ref a_M_stored])), (a_M_a, .inl (g.2.1, 256, .inl M_a)), (a_M_isJoined, .inl (g.2.2.1, 256, .inl v_M_isJoined)), (a_M_rowAt, .inl (g.2.1, 16, .inl M_rowAt)), (a_M_places, .inl (g.2.1, 16, .inl M_places))] → va_S A s.heap H locs → lv_has ls 3 [(2, .int x2), (1, .int x1), (0, .ref a_M)] → W p l e (headSpec (Cond.code yX5_height cX5_height 3 (some .int) :: cx_T) ({ frames := 4, cells := 0, slots := 0, locals := 86 } : Room)).room s m ([.ref a_M] : List Value).toArray below meth c H locs 0 0 (MQ below (va_Qi (fun (r : Int32) (u : Int32 × (Nat → Int32)) => Q r u.1 u.2) (cx_B g (w0_X5_height g a_M a_M_a a_M_rowAt a_M_places a_M_rights a_M_weights a_M_pivots a_M_lower a_M_solution a_M_work a_M_isJoined a_M_stored M_thrown M_n M_hasFactors M_hasSolution M_levels M_a M_isJoined M_rowAt M_places) s.heap.size (w1_X5_height g a_M a_M_a a_M_rowAt a_M_places a_M_rights a_M_weights a_M_pivots a_M_lower a_M_solution a_M_work a_M_isJoined a_M_stored M_thrown M_n M_hasFactors M_hasSolution M_levels M_a M_isJoined M_rowAt M_places)) (va_A (w0_X5_height g a_M a_M_a a_M_rowAt a_M_places a_M_rights a_M_weights a_M_pivots a_M_lower a_M_solution a_M_work a_M_isJoined a_M_stored M_thrown M_n M_hasFactors M_hasSolution M_levels M_a M_isJoined M_rowAt M_places) s.heap.size)) ([.ref a_M] : List Value).toArray s 0 0 (va_A (w0_X5_height g a_M a_M_a a_M_rowAt a_M_places a_M_rights a_M_weights a_M_pivots a_M_lower a_M_solution a_M_work a_M_isJoined a_M_stored M_thrown M_n M_hasFactors M_hasSolution M_levels M_a M_isJoined M_rowAt M_places) s.heap.size)) (F0 m 13 ls [])) := ⟨_, rfl⟩
  have hs1 : ∀ (x2 : Int32) (x1 : Int32) (v_M_thrown : Int32) (v_M_isJoined : (Nat → Int32)), vc_X5_height_1 M_thrown M_n M_hasFactors M_hasSolution M_levels M_a M_isJoined M_rowAt M_places Q G1 x2 x1 v_M_thrown v_M_isJoined → G1 x2 x1 v_M_thrown v_M_isJoined := by
    rw [hG1]
    intro x2 x1 v_M_thrown v_M_isJoined hv H locs ls hP hD hS hl
    unfold vc_X5_height_1 at hv
    refine lv_iload_n hx hb dX5_height_13 rfl (lv_at hl 0 rfl) ?_
    refine lv_aload_n hx hb dX5_height_14 rfl (lv_at hl 2 rfl) ?_
    refine va_get (D := g.1) (ci := 5) (v := .int M_n) (C := RX5) (T := TX5) (N := 16) hx hb hts cw_in_X5 hown hK.1 hP 0 rfl rfl 1 (by decide) (hts _ cw_f_X5_9) (fun _ h9 => h9) rfl dX5_height_15 ?_
    refine lv_icmp_ge (tgt := 40) hx hb dX5_height_18 (by decide) (fun hc => ?_) (fun hc => ?_)
    · replace hv := hv.1 hc
      refine lv_iload_n hx hb dX5_height_40 rfl (lv_at hl 1 rfl) ?_
      exact cx_iret hx hb hr hlocks hAe hS (v_M_thrown, v_M_isJoined) hv hP hD dX5_height_41
    · replace hv := hv.2 hc
      refine lv_iload_n hx hb dX5_height_21 rfl (lv_at hl 1 rfl) ?_
      refine lv_aload_n hx hb dX5_height_22 rfl (lv_at hl 2 rfl) ?_
      refine lv_iload_n hx hb dX5_height_23 rfl (lv_at hl 0 rfl) ?_
      refine cx_iVr (As := [.int x2]) (rest := [.int x1]) ⟨hx, hb, hml, hown, hts⟩ (c_X5_lineOf l g a_M a_M_a a_M_rowAt a_M_places a_M_rights a_M_weights a_M_pivots a_M_lower a_M_solution a_M_work a_M_isJoined a_M_stored x2 v_M_thrown M_n M_hasFactors M_hasSolution M_levels M_places M_rowAt v_M_isJoined hv) (cx_cwV 1 hts cw_m_X5_139 cw_i_X5_lineOf cw_s_X5_lineOf cw_n_X5 cw_c_X5_lineOf rfl rfl (by decide +kernel) ⟨Nat.le_of_ble_eq_true rfl, Nat.le_of_ble_eq_true rfl⟩) hK hP hD hS hA 0 5 rfl rfl [0, 4, 3, 2] rfl rfl rfl hl.1 rfl (Nat.le_of_ble_eq_true rfl) dX5_height_24 ⟨Nat.le_of_ble_eq_true rfl, Nat.le_of_ble_eq_true rfl⟩ (fun r_1 H locs hv hP hS => ?_)
      refine cx_iSr (As := [.int r_1]) (rest := [.int x1]) ⟨hx, hb, hml, hown, hts⟩ (c_X5_bits l g r_1 hv) (cx_cwS 1 hts cw_m_X5_142 cw_t_X5_bits cw_n_X5 cw_c_X5_bits rfl rfl (by decide +kernel) ⟨Nat.le_of_ble_eq_true rfl, Nat.le_of_ble_eq_true rfl⟩) hK hP hD hS hA [] rfl rfl rfl hl.1 rfl (Nat.le_of_ble_eq_true rfl) dX5_height_27 ⟨Nat.le_of_ble_eq_true rfl, Nat.le_of_ble_eq_true rfl⟩ (fun r_2 H locs hv hP hS => ?_)
      refine va_mmax hx hb (hml.trans hl.1.symm) hown (hts _ cw_m_X5_125) (hts _ cw_t_Math_max) (hts _ cw_n_Math) (hts _ cw_c_Math_max) (Nat.le_of_ble_eq_true rfl) (Nat.le_of_ble_eq_true rfl) (Nat.le_of_ble_eq_true rfl) (Nat.le_of_ble_eq_true rfl) dX5_height_30 ?_
      refine lv_topi (fun x1_3 ex1_3 => ?_)
      replace hv := hv x1_3 ex1_3
      refine lv_istore_n (lv' := [(1, .int x1_3), (2, .int x2), (0, .ref a_M)]) hx hb dX5_height_33 rfl hl (by decide) rfl (fun ls hl => ?_)
      obtain ⟨x2_4, ex2_4⟩ : ∃ y : Int32, y = x2 + 1 := ⟨_, rfl⟩
      replace hv := hv x2_4 ex2_4
      refine lv_iinc (v := x2_4) (lv' := [(2, .int x2_4), (1, .int x1_3), (0, .ref a_M)]) hx hb dX5_height_34 hl (k := 1) rfl (by rw [ex2_4]; rfl) (by decide) rfl (fun ls hl => ?_)
      refine lv_goto (tgt := 13) hx hb dX5_height_37 (by decide) ?_
      exact hv _ _ _ hP hD hS (lv_sub hl [0, 1, 2] rfl)
  replace hv := hv G1 hs1
  rw [hG1] at hv
  unfold vc_X5_height_0 at hv
  refine lv_aload_n hx hb dX5_height_0 rfl (lv_at hl 0 rfl) ?_
  refine lv_iconst (v := 0) hx hb dX5_height_1 (by decide) ?_
  refine va_put (D := g.1) (ci := 5) (v := .int 0) (ty := .int) (C := RX5) (T := TX5) (N := 16) hx hb hts cw_in_X5 tyX5 tyX5_ok nmX5 hown hK.1 hP hD hS 0 rfl rfl 0 (by decide) (hts _ cw_f_X5_51) (fun _ h9 => h9) rfl (by decide +kernel) rfl rfl (Nat.le_of_ble_eq_true rfl) dX5_height_2 (fun H locs hP hD hS => ?_)
  have hP : va_P g.1 vwCl [(a_M, .inr (5, [.int 0, .int M_n, .ref a_M_a, .ref a_M_rowAt, .ref a_M_places, .ref a_M_rights, .ref a_M_weights, .int M_hasFactors, .ref a_M_pivots, .ref a_M_lower, .int M_hasSolution, .ref a_M_solution, .ref a_M_work, .ref a_M_isJoined, .int M_levels, .ref a_M_stored])), (a_M_a, .inl (g.2.1, 256, .inl M_a)), (a_M_isJoined, .inl (g.2.2.1, 256, .inl M_isJoined)), (a_M_rowAt, .inl (g.2.1, 16, .inl M_rowAt)), (a_M_places, .inl (g.2.1, 16, .inl M_places))] H := hP
  have hD : va_D A [(a_M, .inr (5, [.int 0, .int M_n, .ref a_M_a, .ref a_M_rowAt, .ref a_M_places, .ref a_M_rights, .ref a_M_weights, .int M_hasFactors, .ref a_M_pivots, .ref a_M_lower, .int M_hasSolution, .ref a_M_solution, .ref a_M_work, .ref a_M_isJoined, .int M_levels, .ref a_M_stored])), (a_M_a, .inl (g.2.1, 256, .inl M_a)), (a_M_isJoined, .inl (g.2.2.1, 256, .inl M_isJoined)), (a_M_rowAt, .inl (g.2.1, 16, .inl M_rowAt)), (a_M_places, .inl (g.2.1, 16, .inl M_places))] := hD
  refine lv_aload_n hx hb dX5_height_5 rfl (lv_at hl 0 rfl) ?_
  refine cx_vV (wr := [(a_M_places, .inl (g.2.1, 16, .inl M_places))]) (As := []) (rest := []) ⟨hx, hb, hml, hown, hts⟩ (c_X5_fill l g a_M a_M_a a_M_rowAt a_M_places a_M_rights a_M_weights a_M_pivots a_M_lower a_M_solution a_M_work a_M_isJoined a_M_stored 0 M_n M_hasFactors M_hasSolution M_levels M_a M_isJoined M_rowAt hv) (cx_cwV 0 hts cw_m_X5_116 cw_i_X5_fill cw_s_X5_fill cw_n_X5 cw_c_X5_fill rfl rfl (by decide +kernel) ⟨Nat.le_of_ble_eq_true rfl, Nat.le_of_ble_eq_true rfl⟩) hK hP hD hS hA 0 5 rfl rfl [0, 1, 2, 3] [4] rfl rfl rfl rfl (by decide) rfl hl.1 rfl (Nat.le_of_ble_eq_true rfl) dX5_height_6 ⟨Nat.le_of_ble_eq_true rfl, Nat.le_of_ble_eq_true rfl⟩ (fun w_3 H locs hv hP hD hS => ?_)
  obtain ⟨u_2, rfl⟩ : ∃ z, z = w_3 := ⟨_, rfl⟩
  have hP : va_P g.1 vwCl [(a_M, .inr (5, [.int 0, .int M_n, .ref a_M_a, .ref a_M_rowAt, .ref a_M_places, .ref a_M_rights, .ref a_M_weights, .int M_hasFactors, .ref a_M_pivots, .ref a_M_lower, .int M_hasSolution, .ref a_M_solution, .ref a_M_work, .ref a_M_isJoined, .int M_levels, .ref a_M_stored])), (a_M_a, .inl (g.2.1, 256, .inl M_a)), (a_M_isJoined, .inl (g.2.2.1, 256, .inl u_2)), (a_M_rowAt, .inl (g.2.1, 16, .inl M_rowAt)), (a_M_places, .inl (g.2.1, 16, .inl M_places))] H := hP.sub [1, 2, 3, 4, 0] rfl
  have hD : va_D A [(a_M, .inr (5, [.int 0, .int M_n, .ref a_M_a, .ref a_M_rowAt, .ref a_M_places, .ref a_M_rights, .ref a_M_weights, .int M_hasFactors, .ref a_M_pivots, .ref a_M_lower, .int M_hasSolution, .ref a_M_solution, .ref a_M_work, .ref a_M_isJoined, .int M_levels, .ref a_M_stored])), (a_M_a, .inl (g.2.1, 256, .inl M_a)), (a_M_isJoined, .inl (g.2.2.1, 256, .inl u_2)), (a_M_rowAt, .inl (g.2.1, 16, .inl M_rowAt)), (a_M_places, .inl (g.2.1, 16, .inl M_places))] := hD.sub [1, 2, 3, 4, 0] (by decide) rfl
  refine lv_iconst (v := 0) hx hb dX5_height_9 (by decide) ?_
  refine lv_istore_n (lv' := [(1, .int 0), (0, .ref a_M)]) hx hb dX5_height_10 rfl hl (by decide) rfl (fun ls hl => ?_)
  refine lv_iconst (v := 0) hx hb dX5_height_11 (by decide) ?_
  refine lv_istore_n (lv' := [(2, .int 0), (1, .int 0), (0, .ref a_M)]) hx hb dX5_height_12 rfl hl (by decide) rfl (fun ls hl => ?_)
  exact hv _ _ _ hP hD hS (lv_sub hl [0, 1, 2] rfl)
def vc_X5_meeting_0 (i_i : Int32) (i_j : Int32) (M_thrown : Int32) (M_n : Int32) (M_hasFactors : Int32) (M_hasSolution : Int32) (M_levels : Int32) (M_a : (Nat → Int32)) (M_isJoined : (Nat → Int32)) (M_rowAt : (Nat → Int32)) (M_places : (Nat → Int32)) (Q : Int32 → Int32 → (Nat → Int32) → Prop) (G1 : Int32 → Int32 → Int32 → (Nat → Int32) → Prop)  : Prop := wp_X5_isRow i_i 0 M_n M_hasFactors M_hasSolution M_levels (fun r_1 => (r_1 = 0 → (wp_X5_no 1 0 M_n M_hasFactors M_hasSolution M_levels (fun r_2 u_3 => Q r_2 u_3 M_isJoined))) ∧ (¬ r_1 = 0 → (wp_X5_isRow i_j 0 M_n M_hasFactors M_hasSolution M_levels (fun r_5 => (r_5 = 0 → (wp_X5_no 1 0 M_n M_hasFactors M_hasSolution M_levels (fun r_12 u_13 => Q r_12 u_13 M_isJoined))) ∧ (¬ r_5 = 0 → (wp_X5_fill 0 M_n M_hasFactors M_hasSolution M_levels M_a M_isJoined M_rowAt (fun u_7 => wp_X5_lineOf i_i 0 M_n M_hasFactors M_hasSolution M_levels M_places M_rowAt u_7 (fun r_9 => wp_X5_lineOf i_j 0 M_n M_hasFactors M_hasSolution M_levels M_places M_rowAt u_7 (fun r_10 => ∀ x3_11 : Int32, x3_11 = (r_9 &&& r_10) → (G1 0 x3_11 0 u_7))))))))))
def vc_X5_meeting_1 (i_i : Int32) (i_j : Int32) (M_thrown : Int32) (M_n : Int32) (M_hasFactors : Int32) (M_hasSolution : Int32) (M_levels : Int32) (M_a : (Nat → Int32)) (M_isJoined : (Nat → Int32)) (M_rowAt : (Nat → Int32)) (M_places : (Nat → Int32)) (Q : Int32 → Int32 → (Nat → Int32) → Prop) (G1 : Int32 → Int32 → Int32 → (Nat → Int32) → Prop) (x4 : Int32) (x3 : Int32) (v_M_thrown : Int32) (v_M_isJoined : (Nat → Int32)) : Prop := (M_n ≤ x4 → (Q (-1) v_M_thrown v_M_isJoined)) ∧ (¬ M_n ≤ x4 → (vp_in x4 16 ∧ ((((x3 >>> ((M_rowAt (Int32.toNatClampNeg x4)) &&& 31)) &&& 1) = 1 → (vp_in x4 16 ∧ (Q (M_rowAt (Int32.toNatClampNeg x4)) v_M_thrown v_M_isJoined))) ∧ (¬ ((x3 >>> ((M_rowAt (Int32.toNatClampNeg x4)) &&& 31)) &&& 1) = 1 → (∀ x4_2 : Int32, x4_2 = x4 + 1 → (G1 x4_2 x3 v_M_thrown v_M_isJoined))))))
def wp_X5_meeting (i_i : Int32) (i_j : Int32) (M_thrown : Int32) (M_n : Int32) (M_hasFactors : Int32) (M_hasSolution : Int32) (M_levels : Int32) (M_a : (Nat → Int32)) (M_isJoined : (Nat → Int32)) (M_rowAt : (Nat → Int32)) (M_places : (Nat → Int32)) (Q : Int32 → Int32 → (Nat → Int32) → Prop) : Prop := ∀ (G1 : Int32 → Int32 → Int32 → (Nat → Int32) → Prop), (∀ (x4 : Int32) (x3 : Int32) (v_M_thrown : Int32) (v_M_isJoined : (Nat → Int32)), vc_X5_meeting_1 i_i i_j M_thrown M_n M_hasFactors M_hasSolution M_levels M_a M_isJoined M_rowAt M_places Q G1 x4 x3 v_M_thrown v_M_isJoined → G1 x4 x3 v_M_thrown v_M_isJoined) → vc_X5_meeting_0 i_i i_j M_thrown M_n M_hasFactors M_hasSolution M_levels M_a M_isJoined M_rowAt M_places Q G1
abbrev w0_X5_meeting (g : cx_G) (a_M a_M_a a_M_rowAt a_M_places a_M_rights a_M_weights a_M_pivots a_M_lower a_M_solution a_M_work a_M_isJoined a_M_stored : Nat) (M_thrown : Int32) (M_n : Int32) (M_hasFactors : Int32) (M_hasSolution : Int32) (M_levels : Int32) (M_a : (Nat → Int32)) (M_isJoined : (Nat → Int32)) (M_rowAt : (Nat → Int32)) (M_places : (Nat → Int32)) : va_W := [(a_M, .inr (5, [.int M_thrown, .int M_n, .ref a_M_a, .ref a_M_rowAt, .ref a_M_places, .ref a_M_rights, .ref a_M_weights, .int M_hasFactors, .ref a_M_pivots, .ref a_M_lower, .int M_hasSolution, .ref a_M_solution, .ref a_M_work, .ref a_M_isJoined, .int M_levels, .ref a_M_stored])), (a_M_a, .inl (g.2.1, 256, .inl M_a)), (a_M_isJoined, .inl (g.2.2.1, 256, .inl M_isJoined)), (a_M_rowAt, .inl (g.2.1, 16, .inl M_rowAt)), (a_M_places, .inl (g.2.1, 16, .inl M_places))]
abbrev w1_X5_meeting (g : cx_G) (a_M a_M_a a_M_rowAt a_M_places a_M_rights a_M_weights a_M_pivots a_M_lower a_M_solution a_M_work a_M_isJoined a_M_stored : Nat) (M_thrown : Int32) (M_n : Int32) (M_hasFactors : Int32) (M_hasSolution : Int32) (M_levels : Int32) (M_a : (Nat → Int32)) (M_isJoined : (Nat → Int32)) (M_rowAt : (Nat → Int32)) (M_places : (Nat → Int32)) (u : Int32 × (Nat → Int32)) : va_W := [(a_M, .inr (5, [.int u.1, .int M_n, .ref a_M_a, .ref a_M_rowAt, .ref a_M_places, .ref a_M_rights, .ref a_M_weights, .int M_hasFactors, .ref a_M_pivots, .ref a_M_lower, .int M_hasSolution, .ref a_M_solution, .ref a_M_work, .ref a_M_isJoined, .int M_levels, .ref a_M_stored])), (a_M_a, .inl (g.2.1, 256, .inl M_a)), (a_M_isJoined, .inl (g.2.2.1, 256, .inl u.2)), (a_M_rowAt, .inl (g.2.1, 16, .inl M_rowAt)), (a_M_places, .inl (g.2.1, 16, .inl M_places))]
set_option maxHeartbeats 4000000 in
set_option maxRecDepth 100000 in
theorem c_X5_meeting (l : Launch) (g : cx_G) (a_M a_M_a a_M_rowAt a_M_places a_M_rights a_M_weights a_M_pivots a_M_lower a_M_solution a_M_work a_M_isJoined a_M_stored : Nat) (i_i : Int32) (i_j : Int32) (M_thrown : Int32) (M_n : Int32) (M_hasFactors : Int32) (M_hasSolution : Int32) (M_levels : Int32) (M_a : (Nat → Int32)) (M_isJoined : (Nat → Int32)) (M_rowAt : (Nat → Int32)) (M_places : (Nat → Int32)) {Q : Int32 → Int32 → (Nat → Int32) → Prop} (hv : wp_X5_meeting i_i i_j M_thrown M_n M_hasFactors M_hasSolution M_levels M_a M_isJoined M_rowAt M_places Q) : cx_Mi l g yX5_meeting (Cond.code yX5_meeting cX5_meeting 5 (some .int) :: cx_T) ({ frames := 4, cells := 0, slots := 0, locals := 86 } : Room) [.ref a_M, .int i_i, .int i_j] (w0_X5_meeting g a_M a_M_a a_M_rowAt a_M_places a_M_rights a_M_weights a_M_pivots a_M_lower a_M_solution a_M_work a_M_isJoined a_M_stored M_thrown M_n M_hasFactors M_hasSolution M_levels M_a M_isJoined M_rowAt M_places) (fun (r : Int32) (u : Int32 × (Nat → Int32)) => Q r u.1 u.2) (w1_X5_meeting g a_M a_M_a a_M_rowAt a_M_places a_M_rights a_M_weights a_M_pivots a_M_lower a_M_solution a_M_work a_M_isJoined a_M_stored M_thrown M_n M_hasFactors M_hasSolution M_levels M_a M_isJoined M_rowAt M_places) 0 0 := by
  intro sz
  refine Met.ofW (cc := cX5_meeting) (maxL := 5) (ret := (some .int)) (by decide) rfl ?_
  intro p e s m args below meth c s₁ B hml hpre
  obtain ⟨rfl, hsz, hP, hK, hD0⟩ := hpre
  have hx := B.exec
  have hb := B.bytes
  have hr := B.returns
  have hts0 := atoms_spec (ws := (Cond.code yX5_meeting cX5_meeting 5 (some .int) :: cx_T)) B.pre
  have hts : ∀ w ∈ cx_T, w.before _ s = true := fun w h => hts0 w (List.mem_cons_of_mem _ h)
  have hown : s.vm.findClass RX5 = some m.cls := findClass_of_methodNamed B.named
  have hlocks := B.notSynchronized
  subst hsz
  have hD := hD0.self (sz := s.heap.size)
  obtain ⟨A, hAe⟩ : ∃ A : Nat → Prop, A = va_A (w0_X5_meeting g a_M a_M_a a_M_rowAt a_M_places a_M_rights a_M_weights a_M_pivots a_M_lower a_M_solution a_M_work a_M_isJoined a_M_stored M_thrown M_n M_hasFactors M_hasSolution M_levels M_a M_isJoined M_rowAt M_places) s.heap.size := ⟨_, rfl⟩
  rw [← hAe] at hD
  have hA : ∀ q : Nat, s.heap.size ≤ q → A q := fun q h => by rw [hAe]; exact Or.inr h
  have hS : va_S A s.heap s.heap [] := va_S.rf
  have hP : va_P g.1 vwCl [(a_M, .inr (5, [.int M_thrown, .int M_n, .ref a_M_a, .ref a_M_rowAt, .ref a_M_places, .ref a_M_rights, .ref a_M_weights, .int M_hasFactors, .ref a_M_pivots, .ref a_M_lower, .int M_hasSolution, .ref a_M_solution, .ref a_M_work, .ref a_M_isJoined, .int M_levels, .ref a_M_stored])), (a_M_a, .inl (g.2.1, 256, .inl M_a)), (a_M_isJoined, .inl (g.2.2.1, 256, .inl M_isJoined)), (a_M_rowAt, .inl (g.2.1, 16, .inl M_rowAt)), (a_M_places, .inl (g.2.1, 16, .inl M_places))] s.heap := hP
  have hD : va_D A [(a_M, .inr (5, [.int M_thrown, .int M_n, .ref a_M_a, .ref a_M_rowAt, .ref a_M_places, .ref a_M_rights, .ref a_M_weights, .int M_hasFactors, .ref a_M_pivots, .ref a_M_lower, .int M_hasSolution, .ref a_M_solution, .ref a_M_work, .ref a_M_isJoined, .int M_levels, .ref a_M_stored])), (a_M_a, .inl (g.2.1, 256, .inl M_a)), (a_M_isJoined, .inl (g.2.2.1, 256, .inl M_isJoined)), (a_M_rowAt, .inl (g.2.1, 16, .inl M_rowAt)), (a_M_places, .inl (g.2.1, 16, .inl M_places))] := hD
  have hl := lv_entry ([.ref a_M, .int i_i, .int i_j]) (n := 5) (Nat.le_of_ble_eq_true rfl)
  rw [lg_entry_eq]
  generalize (lg_sl ([.ref a_M, .int i_i, .int i_j]) ++ List.replicate (5 - (lg_sl ([.ref a_M, .int i_i, .int i_j])).length) Slot.unset).toArray = ls at hl ⊢
  have hl : lv_has ls 5 [(0, .ref a_M), (1, .int i_i), (2, .int i_j)] := hl
  obtain ⟨G1, hG1⟩ : ∃ G : Int32 → Int32 → Int32 → (Nat → Int32) → Prop, G = (fun (x4 : Int32) (x3 : Int32) (v_M_thrown : Int32) (v_M_isJoined : (Nat → Int32)) => ∀ (H : Heap) (locs : List Loc) (ls : Array Slot), va_P g.1 vwCl [(a_M, .inr (5, [.int v_M_thrown, .int M_n, .ref a_M_a, .ref a_M_rowAt, .ref a_M_places, .ref a_M_rights, .ref a_M_weights, .int M_hasFactors, .ref a_M_pivots, .ref a_M_lower, .int M_hasSolution, .ref a_M_solution, .ref a_M_work, .ref a_M_isJoined, .int M_levels, .ref a_M_stored])), (a_M_a, .inl (g.2.1, 256, .inl M_a)), (a_M_isJoined, .inl (g.2.2.1, 256, .inl v_M_isJoined)), (a_M_rowAt, .inl (g.2.1, 16, .inl M_rowAt)), (a_M_places, .inl (g.2.1, 16, .inl M_places))] H → va_D A [(a_M, .inr (5, [.int v_M_thrown, .int M_n, .ref a_M_a, .ref a_M_rowAt, .ref a_M_places, .ref a_M_rights, .ref a_M_weights, .int M_hasFactors, .ref a_M_pivots, .ref a_M_lower, .int M_hasSolution, .ref a_M_solution, .ref a_M_work, .ref a_M_isJoined, .int M_levels, .ref a_M_stored])), (a_M_a, .inl (g.2.1, 256, .inl M_a)), (a_M_isJoined, .inl (g.2.2.1, 256, .inl v_M_isJoined)), (a_M_rowAt, .inl (g.2.1, 16, .inl M_rowAt)), (a_M_places, .inl (g.2.1, 16, .inl M_places))] → va_S A s.heap H locs → lv_has ls 5 [(4, .int x4), (3, .int x3), (0, .ref a_M), (1, .int i_i), (2, .int i_j)] → W p l e (headSpec (Cond.code yX5_meeting cX5_meeting 5 (some .int) :: cx_T) ({ frames := 4, cells := 0, slots := 0, locals := 86 } : Room)).room s m ([.ref a_M, .int i_i, .int i_j] : List Value).toArray below meth c H locs 0 0 (MQ below (va_Qi (fun (r : Int32) (u : Int32 × (Nat → Int32)) => Q r u.1 u.2) (cx_B g (w0_X5_meeting g a_M a_M_a a_M_rowAt a_M_places a_M_rights a_M_weights a_M_pivots a_M_lower a_M_solution a_M_work a_M_isJoined a_M_stored M_thrown M_n M_hasFactors M_hasSolution M_levels M_a M_isJoined M_rowAt M_places) s.heap.size (w1_X5_meeting g a_M a_M_a a_M_rowAt a_M_places a_M_rights a_M_weights a_M_pivots a_M_lower a_M_solution a_M_work a_M_isJoined a_M_stored M_thrown M_n M_hasFactors M_hasSolution M_levels M_a M_isJoined M_rowAt M_places)) (va_A (w0_X5_meeting g a_M a_M_a a_M_rowAt a_M_places a_M_rights a_M_weights a_M_pivots a_M_lower a_M_solution a_M_work a_M_isJoined a_M_stored M_thrown M_n M_hasFactors M_hasSolution M_levels M_a M_isJoined M_rowAt M_places) s.heap.size)) ([.ref a_M, .int i_i, .int i_j] : List Value).toArray s 0 0 (va_A (w0_X5_meeting g a_M a_M_a a_M_rowAt a_M_places a_M_rights a_M_weights a_M_pivots a_M_lower a_M_solution a_M_work a_M_isJoined a_M_stored M_thrown M_n M_hasFactors M_hasSolution M_levels M_a M_isJoined M_rowAt M_places) s.heap.size)) (F0 m 46 ls [])) := ⟨_, rfl⟩
  have hs1 : ∀ (x4 : Int32) (x3 : Int32) (v_M_thrown : Int32) (v_M_isJoined : (Nat → Int32)), vc_X5_meeting_1 i_i i_j M_thrown M_n M_hasFactors M_hasSolution M_levels M_a M_isJoined M_rowAt M_places Q G1 x4 x3 v_M_thrown v_M_isJoined → G1 x4 x3 v_M_thrown v_M_isJoined := by
    rw [hG1]
    intro x4 x3 v_M_thrown v_M_isJoined hv H locs ls hP hD hS hl
    unfold vc_X5_meeting_1 at hv
    refine lv_iload hx hb dX5_meeting_46 (lv_at hl 0 rfl) ?_
    refine lv_aload_n hx hb dX5_meeting_48 rfl (lv_at hl 2 rfl) ?_
    refine va_get (D := g.1) (ci := 5) (v := .int M_n) (C := RX5) (T := TX5) (N := 16) hx hb hts cw_in_X5 hown hK.1 hP 0 rfl rfl 1 (by decide) (hts _ cw_f_X5_9) (fun _ h9 => h9) rfl dX5_meeting_49 ?_
    refine lv_icmp_ge (tgt := 84) hx hb dX5_meeting_52 (by decide) (fun hc => ?_) (fun hc => ?_)
    · replace hv := hv.1 hc
      refine lv_iconst (v := (-1)) hx hb dX5_meeting_84 (by decide) ?_
      exact cx_iret hx hb hr hlocks hAe hS (v_M_thrown, v_M_isJoined) hv hP hD dX5_meeting_85
    · replace hv := hv.2 hc
      refine lv_iload_n hx hb dX5_meeting_55 rfl (lv_at hl 1 rfl) ?_
      refine lv_aload_n hx hb dX5_meeting_56 rfl (lv_at hl 2 rfl) ?_
      refine va_get (D := g.1) (ci := 5) (v := .ref a_M_rowAt) (C := RX5) (T := TX5) (N := 16) hx hb hts cw_in_X5 hown hK.1 hP 0 rfl rfl 3 (by decide) (hts _ cw_f_X5_17) (fun _ h9 => h9) rfl dX5_meeting_57 ?_
      refine lv_iload hx hb dX5_meeting_60 (lv_at hl 0 rfl) ?_
      obtain ⟨h_1, hv⟩ := hv
      refine va_iald (D := g.1) hx hb hK.1 hP 3 0 rfl rfl h_1 dX5_meeting_62 ?_
      refine lv_ishr hx hb dX5_meeting_63 ?_
      refine lv_iconst (v := 1) hx hb dX5_meeting_64 (by decide) ?_
      refine lv_iand hx hb dX5_meeting_65 ?_
      refine lv_iconst (v := 1) hx hb dX5_meeting_66 (by decide) ?_
      refine lv_icmp_ne (tgt := 78) hx hb dX5_meeting_67 (by decide) (fun hc => ?_) (fun hc => ?_)
      · replace hv := hv.2 hc
        obtain ⟨x4_2, ex4_2⟩ : ∃ y : Int32, y = x4 + 1 := ⟨_, rfl⟩
        replace hv := hv x4_2 ex4_2
        refine lv_iinc (v := x4_2) (lv' := [(4, .int x4_2), (3, .int x3), (0, .ref a_M), (1, .int i_i), (2, .int i_j)]) hx hb dX5_meeting_78 hl (k := 0) rfl (by rw [ex4_2]; rfl) (by decide) rfl (fun ls hl => ?_)
        refine lv_goto (tgt := 46) hx hb dX5_meeting_81 (by decide) ?_
        exact hv _ _ _ hP hD hS (lv_sub hl [0, 1, 2, 3, 4] rfl)
      · replace hv := hv.1 hc
        refine lv_aload_n hx hb dX5_meeting_70 rfl (lv_at hl 2 rfl) ?_
        refine va_get (D := g.1) (ci := 5) (v := .ref a_M_rowAt) (C := RX5) (T := TX5) (N := 16) hx hb hts cw_in_X5 hown hK.1 hP 0 rfl rfl 3 (by decide) (hts _ cw_f_X5_17) (fun _ h9 => h9) rfl dX5_meeting_71 ?_
        refine lv_iload hx hb dX5_meeting_74 (lv_at hl 0 rfl) ?_
        obtain ⟨h_3, hv⟩ := hv
        refine va_iald (D := g.1) hx hb hK.1 hP 3 0 rfl rfl h_3 dX5_meeting_76 ?_
        exact cx_iret hx hb hr hlocks hAe hS (v_M_thrown, v_M_isJoined) hv hP hD dX5_meeting_77
  replace hv := hv G1 hs1
  rw [hG1] at hv
  unfold vc_X5_meeting_0 at hv
  refine lv_aload_n hx hb dX5_meeting_0 rfl (lv_at hl 0 rfl) ?_
  refine lv_iconst (v := 0) hx hb dX5_meeting_1 (by decide) ?_
  refine va_put (D := g.1) (ci := 5) (v := .int 0) (ty := .int) (C := RX5) (T := TX5) (N := 16) hx hb hts cw_in_X5 tyX5 tyX5_ok nmX5 hown hK.1 hP hD hS 0 rfl rfl 0 (by decide) (hts _ cw_f_X5_51) (fun _ h9 => h9) rfl (by decide +kernel) rfl rfl (Nat.le_of_ble_eq_true rfl) dX5_meeting_2 (fun H locs hP hD hS => ?_)
  have hP : va_P g.1 vwCl [(a_M, .inr (5, [.int 0, .int M_n, .ref a_M_a, .ref a_M_rowAt, .ref a_M_places, .ref a_M_rights, .ref a_M_weights, .int M_hasFactors, .ref a_M_pivots, .ref a_M_lower, .int M_hasSolution, .ref a_M_solution, .ref a_M_work, .ref a_M_isJoined, .int M_levels, .ref a_M_stored])), (a_M_a, .inl (g.2.1, 256, .inl M_a)), (a_M_isJoined, .inl (g.2.2.1, 256, .inl M_isJoined)), (a_M_rowAt, .inl (g.2.1, 16, .inl M_rowAt)), (a_M_places, .inl (g.2.1, 16, .inl M_places))] H := hP
  have hD : va_D A [(a_M, .inr (5, [.int 0, .int M_n, .ref a_M_a, .ref a_M_rowAt, .ref a_M_places, .ref a_M_rights, .ref a_M_weights, .int M_hasFactors, .ref a_M_pivots, .ref a_M_lower, .int M_hasSolution, .ref a_M_solution, .ref a_M_work, .ref a_M_isJoined, .int M_levels, .ref a_M_stored])), (a_M_a, .inl (g.2.1, 256, .inl M_a)), (a_M_isJoined, .inl (g.2.2.1, 256, .inl M_isJoined)), (a_M_rowAt, .inl (g.2.1, 16, .inl M_rowAt)), (a_M_places, .inl (g.2.1, 16, .inl M_places))] := hD
  refine lv_aload_n hx hb dX5_meeting_5 rfl (lv_at hl 0 rfl) ?_
  refine lv_iload_n hx hb dX5_meeting_6 rfl (lv_at hl 1 rfl) ?_
  refine cx_iVr (As := [.int i_i]) (rest := []) ⟨hx, hb, hml, hown, hts⟩ (c_X5_isRow l g a_M a_M_a a_M_rowAt a_M_places a_M_rights a_M_weights a_M_pivots a_M_lower a_M_solution a_M_work a_M_isJoined a_M_stored i_i 0 M_n M_hasFactors M_hasSolution M_levels hv) (cx_cwV 1 hts cw_m_X5_76 cw_i_X5_isRow cw_s_X5_isRow cw_n_X5 cw_c_X5_isRow rfl rfl (by decide +kernel) ⟨Nat.le_of_ble_eq_true rfl, Nat.le_of_ble_eq_true rfl⟩) hK hP hD hS hA 0 5 rfl rfl [0] rfl rfl rfl hl.1 rfl (Nat.le_of_ble_eq_true rfl) dX5_meeting_7 ⟨Nat.le_of_ble_eq_true rfl, Nat.le_of_ble_eq_true rfl⟩ (fun r_1 H locs hv hP hS => ?_)
  refine lv_if_eq (tgt := 21) hx hb dX5_meeting_10 (by decide) (fun hc => ?_) (fun hc => ?_)
  · replace hv := hv.1 hc
    refine lv_aload_n hx hb dX5_meeting_21 rfl (lv_at hl 0 rfl) ?_
    refine lv_iconst (v := 1) hx hb dX5_meeting_22 (by decide) ?_
    refine cx_iV (wr := [(a_M_a, .inl (g.2.1, 256, .inl M_a)), (a_M_isJoined, .inl (g.2.2.1, 256, .inl M_isJoined)), (a_M_rowAt, .inl (g.2.1, 16, .inl M_rowAt)), (a_M_places, .inl (g.2.1, 16, .inl M_places))]) (As := [.int 1]) (rest := []) ⟨hx, hb, hml, hown, hts⟩ (c_X5_no l g a_M a_M_a a_M_rowAt a_M_places a_M_rights a_M_weights a_M_pivots a_M_lower a_M_solution a_M_work a_M_isJoined a_M_stored 1 0 M_n M_hasFactors M_hasSolution M_levels hv) (cx_cwV 1 hts cw_m_X5_72 cw_i_X5_no cw_s_X5_no cw_n_X5 cw_c_X5_no rfl rfl (by decide +kernel) ⟨Nat.le_of_ble_eq_true rfl, Nat.le_of_ble_eq_true rfl⟩) hK hP hD hS hA 0 5 rfl rfl [0] [1, 2, 3, 4] rfl rfl rfl rfl (by decide) rfl hl.1 rfl (Nat.le_of_ble_eq_true rfl) dX5_meeting_23 ⟨Nat.le_of_ble_eq_true rfl, Nat.le_of_ble_eq_true rfl⟩ (fun r_2 w_4 H locs hv hP hD hS => ?_)
    obtain ⟨u_3, rfl⟩ : ∃ z, z = w_4 := ⟨_, rfl⟩
    have hP : va_P g.1 vwCl [(a_M, .inr (5, [.int u_3, .int M_n, .ref a_M_a, .ref a_M_rowAt, .ref a_M_places, .ref a_M_rights, .ref a_M_weights, .int M_hasFactors, .ref a_M_pivots, .ref a_M_lower, .int M_hasSolution, .ref a_M_solution, .ref a_M_work, .ref a_M_isJoined, .int M_levels, .ref a_M_stored])), (a_M_a, .inl (g.2.1, 256, .inl M_a)), (a_M_isJoined, .inl (g.2.2.1, 256, .inl M_isJoined)), (a_M_rowAt, .inl (g.2.1, 16, .inl M_rowAt)), (a_M_places, .inl (g.2.1, 16, .inl M_places))] H := hP.sub [4, 0, 1, 2, 3] rfl
    have hD : va_D A [(a_M, .inr (5, [.int u_3, .int M_n, .ref a_M_a, .ref a_M_rowAt, .ref a_M_places, .ref a_M_rights, .ref a_M_weights, .int M_hasFactors, .ref a_M_pivots, .ref a_M_lower, .int M_hasSolution, .ref a_M_solution, .ref a_M_work, .ref a_M_isJoined, .int M_levels, .ref a_M_stored])), (a_M_a, .inl (g.2.1, 256, .inl M_a)), (a_M_isJoined, .inl (g.2.2.1, 256, .inl M_isJoined)), (a_M_rowAt, .inl (g.2.1, 16, .inl M_rowAt)), (a_M_places, .inl (g.2.1, 16, .inl M_places))] := hD.sub [4, 0, 1, 2, 3] (by decide) rfl
    exact cx_iret hx hb hr hlocks hAe hS (u_3, M_isJoined) hv hP hD dX5_meeting_26
  · replace hv := hv.2 hc
    refine lv_aload_n hx hb dX5_meeting_13 rfl (lv_at hl 0 rfl) ?_
    refine lv_iload_n hx hb dX5_meeting_14 rfl (lv_at hl 2 rfl) ?_
    refine cx_iVr (As := [.int i_j]) (rest := []) ⟨hx, hb, hml, hown, hts⟩ (c_X5_isRow l g a_M a_M_a a_M_rowAt a_M_places a_M_rights a_M_weights a_M_pivots a_M_lower a_M_solution a_M_work a_M_isJoined a_M_stored i_j 0 M_n M_hasFactors M_hasSolution M_levels hv) (cx_cwV 1 hts cw_m_X5_76 cw_i_X5_isRow cw_s_X5_isRow cw_n_X5 cw_c_X5_isRow rfl rfl (by decide +kernel) ⟨Nat.le_of_ble_eq_true rfl, Nat.le_of_ble_eq_true rfl⟩) hK hP hD hS hA 0 5 rfl rfl [0] rfl rfl rfl hl.1 rfl (Nat.le_of_ble_eq_true rfl) dX5_meeting_15 ⟨Nat.le_of_ble_eq_true rfl, Nat.le_of_ble_eq_true rfl⟩ (fun r_5 H locs hv hP hS => ?_)
    refine lv_if_ne (tgt := 27) hx hb dX5_meeting_18 (by decide) (fun hc => ?_) (fun hc => ?_)
    · replace hv := hv.2 hc
      refine lv_aload_n hx hb dX5_meeting_27 rfl (lv_at hl 0 rfl) ?_
      refine cx_vV (wr := [(a_M_places, .inl (g.2.1, 16, .inl M_places))]) (As := []) (rest := []) ⟨hx, hb, hml, hown, hts⟩ (c_X5_fill l g a_M a_M_a a_M_rowAt a_M_places a_M_rights a_M_weights a_M_pivots a_M_lower a_M_solution a_M_work a_M_isJoined a_M_stored 0 M_n M_hasFactors M_hasSolution M_levels M_a M_isJoined M_rowAt hv) (cx_cwV 0 hts cw_m_X5_116 cw_i_X5_fill cw_s_X5_fill cw_n_X5 cw_c_X5_fill rfl rfl (by decide +kernel) ⟨Nat.le_of_ble_eq_true rfl, Nat.le_of_ble_eq_true rfl⟩) hK hP hD hS hA 0 5 rfl rfl [0, 1, 2, 3] [4] rfl rfl rfl rfl (by decide) rfl hl.1 rfl (Nat.le_of_ble_eq_true rfl) dX5_meeting_28 ⟨Nat.le_of_ble_eq_true rfl, Nat.le_of_ble_eq_true rfl⟩ (fun w_8 H locs hv hP hD hS => ?_)
      obtain ⟨u_7, rfl⟩ : ∃ z, z = w_8 := ⟨_, rfl⟩
      have hP : va_P g.1 vwCl [(a_M, .inr (5, [.int 0, .int M_n, .ref a_M_a, .ref a_M_rowAt, .ref a_M_places, .ref a_M_rights, .ref a_M_weights, .int M_hasFactors, .ref a_M_pivots, .ref a_M_lower, .int M_hasSolution, .ref a_M_solution, .ref a_M_work, .ref a_M_isJoined, .int M_levels, .ref a_M_stored])), (a_M_a, .inl (g.2.1, 256, .inl M_a)), (a_M_isJoined, .inl (g.2.2.1, 256, .inl u_7)), (a_M_rowAt, .inl (g.2.1, 16, .inl M_rowAt)), (a_M_places, .inl (g.2.1, 16, .inl M_places))] H := hP.sub [1, 2, 3, 4, 0] rfl
      have hD : va_D A [(a_M, .inr (5, [.int 0, .int M_n, .ref a_M_a, .ref a_M_rowAt, .ref a_M_places, .ref a_M_rights, .ref a_M_weights, .int M_hasFactors, .ref a_M_pivots, .ref a_M_lower, .int M_hasSolution, .ref a_M_solution, .ref a_M_work, .ref a_M_isJoined, .int M_levels, .ref a_M_stored])), (a_M_a, .inl (g.2.1, 256, .inl M_a)), (a_M_isJoined, .inl (g.2.2.1, 256, .inl u_7)), (a_M_rowAt, .inl (g.2.1, 16, .inl M_rowAt)), (a_M_places, .inl (g.2.1, 16, .inl M_places))] := hD.sub [1, 2, 3, 4, 0] (by decide) rfl
      refine lv_aload_n hx hb dX5_meeting_31 rfl (lv_at hl 0 rfl) ?_
      refine lv_iload_n hx hb dX5_meeting_32 rfl (lv_at hl 1 rfl) ?_
      refine cx_iVr (As := [.int i_i]) (rest := []) ⟨hx, hb, hml, hown, hts⟩ (c_X5_lineOf l g a_M a_M_a a_M_rowAt a_M_places a_M_rights a_M_weights a_M_pivots a_M_lower a_M_solution a_M_work a_M_isJoined a_M_stored i_i 0 M_n M_hasFactors M_hasSolution M_levels M_places M_rowAt u_7 hv) (cx_cwV 1 hts cw_m_X5_139 cw_i_X5_lineOf cw_s_X5_lineOf cw_n_X5 cw_c_X5_lineOf rfl rfl (by decide +kernel) ⟨Nat.le_of_ble_eq_true rfl, Nat.le_of_ble_eq_true rfl⟩) hK hP hD hS hA 0 5 rfl rfl [0, 4, 3, 2] rfl rfl rfl hl.1 rfl (Nat.le_of_ble_eq_true rfl) dX5_meeting_33 ⟨Nat.le_of_ble_eq_true rfl, Nat.le_of_ble_eq_true rfl⟩ (fun r_9 H locs hv hP hS => ?_)
      refine lv_aload_n hx hb dX5_meeting_36 rfl (lv_at hl 0 rfl) ?_
      refine lv_iload_n hx hb dX5_meeting_37 rfl (lv_at hl 2 rfl) ?_
      refine cx_iVr (As := [.int i_j]) (rest := [.int r_9]) ⟨hx, hb, hml, hown, hts⟩ (c_X5_lineOf l g a_M a_M_a a_M_rowAt a_M_places a_M_rights a_M_weights a_M_pivots a_M_lower a_M_solution a_M_work a_M_isJoined a_M_stored i_j 0 M_n M_hasFactors M_hasSolution M_levels M_places M_rowAt u_7 hv) (cx_cwV 1 hts cw_m_X5_139 cw_i_X5_lineOf cw_s_X5_lineOf cw_n_X5 cw_c_X5_lineOf rfl rfl (by decide +kernel) ⟨Nat.le_of_ble_eq_true rfl, Nat.le_of_ble_eq_true rfl⟩) hK hP hD hS hA 0 5 rfl rfl [0, 4, 3, 2] rfl rfl rfl hl.1 rfl (Nat.le_of_ble_eq_true rfl) dX5_meeting_38 ⟨Nat.le_of_ble_eq_true rfl, Nat.le_of_ble_eq_true rfl⟩ (fun r_10 H locs hv hP hS => ?_)
      refine lv_iand hx hb dX5_meeting_41 ?_
      refine lv_topi (fun x3_11 ex3_11 => ?_)
      replace hv := hv x3_11 ex3_11
      refine lv_istore_n (lv' := [(3, .int x3_11), (0, .ref a_M), (1, .int i_i), (2, .int i_j)]) hx hb dX5_meeting_42 rfl hl (by decide) rfl (fun ls hl => ?_)
      refine lv_iconst (v := 0) hx hb dX5_meeting_43 (by decide) ?_
      refine lv_istore (lv' := [(4, .int 0), (3, .int x3_11), (0, .ref a_M), (1, .int i_i), (2, .int i_j)]) hx hb dX5_meeting_44 hl (by decide) rfl (fun ls hl => ?_)
      exact hv _ _ _ hP hD hS (lv_sub hl [0, 1, 2, 3, 4] rfl)
    · replace hv := hv.1 hc
      refine lv_aload_n hx hb dX5_meeting_21 rfl (lv_at hl 0 rfl) ?_
      refine lv_iconst (v := 1) hx hb dX5_meeting_22 (by decide) ?_
      refine cx_iV (wr := [(a_M_a, .inl (g.2.1, 256, .inl M_a)), (a_M_isJoined, .inl (g.2.2.1, 256, .inl M_isJoined)), (a_M_rowAt, .inl (g.2.1, 16, .inl M_rowAt)), (a_M_places, .inl (g.2.1, 16, .inl M_places))]) (As := [.int 1]) (rest := []) ⟨hx, hb, hml, hown, hts⟩ (c_X5_no l g a_M a_M_a a_M_rowAt a_M_places a_M_rights a_M_weights a_M_pivots a_M_lower a_M_solution a_M_work a_M_isJoined a_M_stored 1 0 M_n M_hasFactors M_hasSolution M_levels hv) (cx_cwV 1 hts cw_m_X5_72 cw_i_X5_no cw_s_X5_no cw_n_X5 cw_c_X5_no rfl rfl (by decide +kernel) ⟨Nat.le_of_ble_eq_true rfl, Nat.le_of_ble_eq_true rfl⟩) hK hP hD hS hA 0 5 rfl rfl [0] [1, 2, 3, 4] rfl rfl rfl rfl (by decide) rfl hl.1 rfl (Nat.le_of_ble_eq_true rfl) dX5_meeting_23 ⟨Nat.le_of_ble_eq_true rfl, Nat.le_of_ble_eq_true rfl⟩ (fun r_12 w_14 H locs hv hP hD hS => ?_)
      obtain ⟨u_13, rfl⟩ : ∃ z, z = w_14 := ⟨_, rfl⟩
      have hP : va_P g.1 vwCl [(a_M, .inr (5, [.int u_13, .int M_n, .ref a_M_a, .ref a_M_rowAt, .ref a_M_places, .ref a_M_rights, .ref a_M_weights, .int M_hasFactors, .ref a_M_pivots, .ref a_M_lower, .int M_hasSolution, .ref a_M_solution, .ref a_M_work, .ref a_M_isJoined, .int M_levels, .ref a_M_stored])), (a_M_a, .inl (g.2.1, 256, .inl M_a)), (a_M_isJoined, .inl (g.2.2.1, 256, .inl M_isJoined)), (a_M_rowAt, .inl (g.2.1, 16, .inl M_rowAt)), (a_M_places, .inl (g.2.1, 16, .inl M_places))] H := hP.sub [4, 0, 1, 2, 3] rfl
      have hD : va_D A [(a_M, .inr (5, [.int u_13, .int M_n, .ref a_M_a, .ref a_M_rowAt, .ref a_M_places, .ref a_M_rights, .ref a_M_weights, .int M_hasFactors, .ref a_M_pivots, .ref a_M_lower, .int M_hasSolution, .ref a_M_solution, .ref a_M_work, .ref a_M_isJoined, .int M_levels, .ref a_M_stored])), (a_M_a, .inl (g.2.1, 256, .inl M_a)), (a_M_isJoined, .inl (g.2.2.1, 256, .inl M_isJoined)), (a_M_rowAt, .inl (g.2.1, 16, .inl M_rowAt)), (a_M_places, .inl (g.2.1, 16, .inl M_places))] := hD.sub [4, 0, 1, 2, 3] (by decide) rfl
      exact cx_iret hx hb hr hlocks hAe hS (u_13, M_isJoined) hv hP hD dX5_meeting_26
def vc_X5_reached_0 (i_k : Int32) (M_thrown : Int32) (M_n : Int32) (M_hasFactors : Int32) (M_hasSolution : Int32) (M_levels : Int32) (M_a : (Nat → Int32)) (M_isJoined : (Nat → Int32)) (M_rowAt : (Nat → Int32)) (M_places : (Nat → Int32)) (Q : Int32 → Int32 → (Nat → Int32) → Prop) (G1 : Int32 → Int32 → Int32 → (Nat → Int32) → Prop)  : Prop := (i_k < 0 → (wp_X5_no 1 0 M_n M_hasFactors M_hasSolution M_levels (fun r_1 u_2 => Q r_1 u_2 M_isJoined))) ∧ (¬ i_k < 0 → ((i_k < (1 <<< (M_n &&& 31)) → (wp_X5_fill 0 M_n M_hasFactors M_hasSolution M_levels M_a M_isJoined M_rowAt (fun u_5 => G1 0 0 0 u_5))) ∧ (¬ i_k < (1 <<< (M_n &&& 31)) → (wp_X5_no 1 0 M_n M_hasFactors M_hasSolution M_levels (fun r_7 u_8 => Q r_7 u_8 M_isJoined)))))
def vc_X5_reached_1 (i_k : Int32) (M_thrown : Int32) (M_n : Int32) (M_hasFactors : Int32) (M_hasSolution : Int32) (M_levels : Int32) (M_a : (Nat → Int32)) (M_isJoined : (Nat → Int32)) (M_rowAt : (Nat → Int32)) (M_places : (Nat → Int32)) (Q : Int32 → Int32 → (Nat → Int32) → Prop) (G1 : Int32 → Int32 → Int32 → (Nat → Int32) → Prop) (x3 : Int32) (x2 : Int32) (v_M_thrown : Int32) (v_M_isJoined : (Nat → Int32)) : Prop := (M_n ≤ x3 → (Q x2 v_M_thrown v_M_isJoined)) ∧ (¬ M_n ≤ x3 → ((((i_k >>> (x3 &&& 31)) &&& 1) = 1 → (wp_X5_lineOf x3 v_M_thrown M_n M_hasFactors M_hasSolution M_levels M_places M_rowAt v_M_isJoined (fun r_2 => ∀ x2_3 : Int32, x2_3 = (x2 ||| r_2) → (∀ x3_4 : Int32, x3_4 = x3 + 1 → (G1 x3_4 x2_3 v_M_thrown v_M_isJoined))))) ∧ (¬ ((i_k >>> (x3 &&& 31)) &&& 1) = 1 → (∀ x3_1 : Int32, x3_1 = x3 + 1 → (G1 x3_1 x2 v_M_thrown v_M_isJoined)))))
def wp_X5_reached (i_k : Int32) (M_thrown : Int32) (M_n : Int32) (M_hasFactors : Int32) (M_hasSolution : Int32) (M_levels : Int32) (M_a : (Nat → Int32)) (M_isJoined : (Nat → Int32)) (M_rowAt : (Nat → Int32)) (M_places : (Nat → Int32)) (Q : Int32 → Int32 → (Nat → Int32) → Prop) : Prop := ∀ (G1 : Int32 → Int32 → Int32 → (Nat → Int32) → Prop), (∀ (x3 : Int32) (x2 : Int32) (v_M_thrown : Int32) (v_M_isJoined : (Nat → Int32)), vc_X5_reached_1 i_k M_thrown M_n M_hasFactors M_hasSolution M_levels M_a M_isJoined M_rowAt M_places Q G1 x3 x2 v_M_thrown v_M_isJoined → G1 x3 x2 v_M_thrown v_M_isJoined) → vc_X5_reached_0 i_k M_thrown M_n M_hasFactors M_hasSolution M_levels M_a M_isJoined M_rowAt M_places Q G1
abbrev w0_X5_reached (g : cx_G) (a_M a_M_a a_M_rowAt a_M_places a_M_rights a_M_weights a_M_pivots a_M_lower a_M_solution a_M_work a_M_isJoined a_M_stored : Nat) (M_thrown : Int32) (M_n : Int32) (M_hasFactors : Int32) (M_hasSolution : Int32) (M_levels : Int32) (M_a : (Nat → Int32)) (M_isJoined : (Nat → Int32)) (M_rowAt : (Nat → Int32)) (M_places : (Nat → Int32)) : va_W := [(a_M, .inr (5, [.int M_thrown, .int M_n, .ref a_M_a, .ref a_M_rowAt, .ref a_M_places, .ref a_M_rights, .ref a_M_weights, .int M_hasFactors, .ref a_M_pivots, .ref a_M_lower, .int M_hasSolution, .ref a_M_solution, .ref a_M_work, .ref a_M_isJoined, .int M_levels, .ref a_M_stored])), (a_M_a, .inl (g.2.1, 256, .inl M_a)), (a_M_isJoined, .inl (g.2.2.1, 256, .inl M_isJoined)), (a_M_rowAt, .inl (g.2.1, 16, .inl M_rowAt)), (a_M_places, .inl (g.2.1, 16, .inl M_places))]
abbrev w1_X5_reached (g : cx_G) (a_M a_M_a a_M_rowAt a_M_places a_M_rights a_M_weights a_M_pivots a_M_lower a_M_solution a_M_work a_M_isJoined a_M_stored : Nat) (M_thrown : Int32) (M_n : Int32) (M_hasFactors : Int32) (M_hasSolution : Int32) (M_levels : Int32) (M_a : (Nat → Int32)) (M_isJoined : (Nat → Int32)) (M_rowAt : (Nat → Int32)) (M_places : (Nat → Int32)) (u : Int32 × (Nat → Int32)) : va_W := [(a_M, .inr (5, [.int u.1, .int M_n, .ref a_M_a, .ref a_M_rowAt, .ref a_M_places, .ref a_M_rights, .ref a_M_weights, .int M_hasFactors, .ref a_M_pivots, .ref a_M_lower, .int M_hasSolution, .ref a_M_solution, .ref a_M_work, .ref a_M_isJoined, .int M_levels, .ref a_M_stored])), (a_M_a, .inl (g.2.1, 256, .inl M_a)), (a_M_isJoined, .inl (g.2.2.1, 256, .inl u.2)), (a_M_rowAt, .inl (g.2.1, 16, .inl M_rowAt)), (a_M_places, .inl (g.2.1, 16, .inl M_places))]
set_option maxHeartbeats 4000000 in
set_option maxRecDepth 100000 in
theorem c_X5_reached (l : Launch) (g : cx_G) (a_M a_M_a a_M_rowAt a_M_places a_M_rights a_M_weights a_M_pivots a_M_lower a_M_solution a_M_work a_M_isJoined a_M_stored : Nat) (i_k : Int32) (M_thrown : Int32) (M_n : Int32) (M_hasFactors : Int32) (M_hasSolution : Int32) (M_levels : Int32) (M_a : (Nat → Int32)) (M_isJoined : (Nat → Int32)) (M_rowAt : (Nat → Int32)) (M_places : (Nat → Int32)) {Q : Int32 → Int32 → (Nat → Int32) → Prop} (hv : wp_X5_reached i_k M_thrown M_n M_hasFactors M_hasSolution M_levels M_a M_isJoined M_rowAt M_places Q) : cx_Mi l g yX5_reached (Cond.code yX5_reached cX5_reached 4 (some .int) :: cx_T) ({ frames := 4, cells := 0, slots := 0, locals := 86 } : Room) [.ref a_M, .int i_k] (w0_X5_reached g a_M a_M_a a_M_rowAt a_M_places a_M_rights a_M_weights a_M_pivots a_M_lower a_M_solution a_M_work a_M_isJoined a_M_stored M_thrown M_n M_hasFactors M_hasSolution M_levels M_a M_isJoined M_rowAt M_places) (fun (r : Int32) (u : Int32 × (Nat → Int32)) => Q r u.1 u.2) (w1_X5_reached g a_M a_M_a a_M_rowAt a_M_places a_M_rights a_M_weights a_M_pivots a_M_lower a_M_solution a_M_work a_M_isJoined a_M_stored M_thrown M_n M_hasFactors M_hasSolution M_levels M_a M_isJoined M_rowAt M_places) 0 0 := by
  intro sz
  refine Met.ofW (cc := cX5_reached) (maxL := 4) (ret := (some .int)) (by decide) rfl ?_
  intro p e s m args below meth c s₁ B hml hpre
  obtain ⟨rfl, hsz, hP, hK, hD0⟩ := hpre
  have hx := B.exec
  have hb := B.bytes
  have hr := B.returns
  have hts0 := atoms_spec (ws := (Cond.code yX5_reached cX5_reached 4 (some .int) :: cx_T)) B.pre
  have hts : ∀ w ∈ cx_T, w.before _ s = true := fun w h => hts0 w (List.mem_cons_of_mem _ h)
  have hown : s.vm.findClass RX5 = some m.cls := findClass_of_methodNamed B.named
  have hlocks := B.notSynchronized
  subst hsz
  have hD := hD0.self (sz := s.heap.size)
  obtain ⟨A, hAe⟩ : ∃ A : Nat → Prop, A = va_A (w0_X5_reached g a_M a_M_a a_M_rowAt a_M_places a_M_rights a_M_weights a_M_pivots a_M_lower a_M_solution a_M_work a_M_isJoined a_M_stored M_thrown M_n M_hasFactors M_hasSolution M_levels M_a M_isJoined M_rowAt M_places) s.heap.size := ⟨_, rfl⟩
  rw [← hAe] at hD
  have hA : ∀ q : Nat, s.heap.size ≤ q → A q := fun q h => by rw [hAe]; exact Or.inr h
  have hS : va_S A s.heap s.heap [] := va_S.rf
  have hP : va_P g.1 vwCl [(a_M, .inr (5, [.int M_thrown, .int M_n, .ref a_M_a, .ref a_M_rowAt, .ref a_M_places, .ref a_M_rights, .ref a_M_weights, .int M_hasFactors, .ref a_M_pivots, .ref a_M_lower, .int M_hasSolution, .ref a_M_solution, .ref a_M_work, .ref a_M_isJoined, .int M_levels, .ref a_M_stored])), (a_M_a, .inl (g.2.1, 256, .inl M_a)), (a_M_isJoined, .inl (g.2.2.1, 256, .inl M_isJoined)), (a_M_rowAt, .inl (g.2.1, 16, .inl M_rowAt)), (a_M_places, .inl (g.2.1, 16, .inl M_places))] s.heap := hP
  have hD : va_D A [(a_M, .inr (5, [.int M_thrown, .int M_n, .ref a_M_a, .ref a_M_rowAt, .ref a_M_places, .ref a_M_rights, .ref a_M_weights, .int M_hasFactors, .ref a_M_pivots, .ref a_M_lower, .int M_hasSolution, .ref a_M_solution, .ref a_M_work, .ref a_M_isJoined, .int M_levels, .ref a_M_stored])), (a_M_a, .inl (g.2.1, 256, .inl M_a)), (a_M_isJoined, .inl (g.2.2.1, 256, .inl M_isJoined)), (a_M_rowAt, .inl (g.2.1, 16, .inl M_rowAt)), (a_M_places, .inl (g.2.1, 16, .inl M_places))] := hD
  have hl := lv_entry ([.ref a_M, .int i_k]) (n := 4) (Nat.le_of_ble_eq_true rfl)
  rw [lg_entry_eq]
  generalize (lg_sl ([.ref a_M, .int i_k]) ++ List.replicate (4 - (lg_sl ([.ref a_M, .int i_k])).length) Slot.unset).toArray = ls at hl ⊢
  have hl : lv_has ls 4 [(0, .ref a_M), (1, .int i_k)] := hl
  obtain ⟨G1, hG1⟩ : ∃ G : Int32 → Int32 → Int32 → (Nat → Int32) → Prop, G = (fun (x3 : Int32) (x2 : Int32) (v_M_thrown : Int32) (v_M_isJoined : (Nat → Int32)) => ∀ (H : Heap) (locs : List Loc) (ls : Array Slot), va_P g.1 vwCl [(a_M, .inr (5, [.int v_M_thrown, .int M_n, .ref a_M_a, .ref a_M_rowAt, .ref a_M_places, .ref a_M_rights, .ref a_M_weights, .int M_hasFactors, .ref a_M_pivots, .ref a_M_lower, .int M_hasSolution, .ref a_M_solution, .ref a_M_work, .ref a_M_isJoined, .int M_levels, .ref a_M_stored])), (a_M_a, .inl (g.2.1, 256, .inl M_a)), (a_M_isJoined, .inl (g.2.2.1, 256, .inl v_M_isJoined)), (a_M_rowAt, .inl (g.2.1, 16, .inl M_rowAt)), (a_M_places, .inl (g.2.1, 16, .inl M_places))] H → va_D A [(a_M, .inr (5, [.int v_M_thrown, .int M_n, .ref a_M_a, .ref a_M_rowAt, .ref a_M_places, .ref a_M_rights, .ref a_M_weights, .int M_hasFactors, .ref a_M_pivots, .ref a_M_lower, .int M_hasSolution, .ref a_M_solution, .ref a_M_work, .ref a_M_isJoined, .int M_levels, .ref a_M_stored])), (a_M_a, .inl (g.2.1, 256, .inl M_a)), (a_M_isJoined, .inl (g.2.2.1, 256, .inl v_M_isJoined)), (a_M_rowAt, .inl (g.2.1, 16, .inl M_rowAt)), (a_M_places, .inl (g.2.1, 16, .inl M_places))] → va_S A s.heap H locs → lv_has ls 4 [(3, .int x3), (2, .int x2), (0, .ref a_M), (1, .int i_k)] → W p l e (headSpec (Cond.code yX5_reached cX5_reached 4 (some .int) :: cx_T) ({ frames := 4, cells := 0, slots := 0, locals := 86 } : Room)).room s m ([.ref a_M, .int i_k] : List Value).toArray below meth c H locs 0 0 (MQ below (va_Qi (fun (r : Int32) (u : Int32 × (Nat → Int32)) => Q r u.1 u.2) (cx_B g (w0_X5_reached g a_M a_M_a a_M_rowAt a_M_places a_M_rights a_M_weights a_M_pivots a_M_lower a_M_solution a_M_work a_M_isJoined a_M_stored M_thrown M_n M_hasFactors M_hasSolution M_levels M_a M_isJoined M_rowAt M_places) s.heap.size (w1_X5_reached g a_M a_M_a a_M_rowAt a_M_places a_M_rights a_M_weights a_M_pivots a_M_lower a_M_solution a_M_work a_M_isJoined a_M_stored M_thrown M_n M_hasFactors M_hasSolution M_levels M_a M_isJoined M_rowAt M_places)) (va_A (w0_X5_reached g a_M a_M_a a_M_rowAt a_M_places a_M_rights a_M_weights a_M_pivots a_M_lower a_M_solution a_M_work a_M_isJoined a_M_stored M_thrown M_n M_hasFactors M_hasSolution M_levels M_a M_isJoined M_rowAt M_places) s.heap.size)) ([.ref a_M, .int i_k] : List Value).toArray s 0 0 (va_A (w0_X5_reached g a_M a_M_a a_M_rowAt a_M_places a_M_rights a_M_weights a_M_pivots a_M_lower a_M_solution a_M_work a_M_isJoined a_M_stored M_thrown M_n M_hasFactors M_hasSolution M_levels M_a M_isJoined M_rowAt M_places) s.heap.size)) (F0 m 33 ls [])) := ⟨_, rfl⟩
  have hs1 : ∀ (x3 : Int32) (x2 : Int32) (v_M_thrown : Int32) (v_M_isJoined : (Nat → Int32)), vc_X5_reached_1 i_k M_thrown M_n M_hasFactors M_hasSolution M_levels M_a M_isJoined M_rowAt M_places Q G1 x3 x2 v_M_thrown v_M_isJoined → G1 x3 x2 v_M_thrown v_M_isJoined := by
    rw [hG1]
    intro x3 x2 v_M_thrown v_M_isJoined hv H locs ls hP hD hS hl
    unfold vc_X5_reached_1 at hv
    refine lv_iload_n hx hb dX5_reached_33 rfl (lv_at hl 0 rfl) ?_
    refine lv_aload_n hx hb dX5_reached_34 rfl (lv_at hl 2 rfl) ?_
    refine va_get (D := g.1) (ci := 5) (v := .int M_n) (C := RX5) (T := TX5) (N := 16) hx hb hts cw_in_X5 hown hK.1 hP 0 rfl rfl 1 (by decide) (hts _ cw_f_X5_9) (fun _ h9 => h9) rfl dX5_reached_35 ?_
    refine lv_icmp_ge (tgt := 64) hx hb dX5_reached_38 (by decide) (fun hc => ?_) (fun hc => ?_)
    · replace hv := hv.1 hc
      refine lv_iload_n hx hb dX5_reached_64 rfl (lv_at hl 1 rfl) ?_
      exact cx_iret hx hb hr hlocks hAe hS (v_M_thrown, v_M_isJoined) hv hP hD dX5_reached_65
    · replace hv := hv.2 hc
      refine lv_iload_n hx hb dX5_reached_41 rfl (lv_at hl 3 rfl) ?_
      refine lv_iload_n hx hb dX5_reached_42 rfl (lv_at hl 0 rfl) ?_
      refine lv_ishr hx hb dX5_reached_43 ?_
      refine lv_iconst (v := 1) hx hb dX5_reached_44 (by decide) ?_
      refine lv_iand hx hb dX5_reached_45 ?_
      refine lv_iconst (v := 1) hx hb dX5_reached_46 (by decide) ?_
      refine lv_icmp_ne (tgt := 58) hx hb dX5_reached_47 (by decide) (fun hc => ?_) (fun hc => ?_)
      · replace hv := hv.2 hc
        obtain ⟨x3_1, ex3_1⟩ : ∃ y : Int32, y = x3 + 1 := ⟨_, rfl⟩
        replace hv := hv x3_1 ex3_1
        refine lv_iinc (v := x3_1) (lv' := [(3, .int x3_1), (2, .int x2), (0, .ref a_M), (1, .int i_k)]) hx hb dX5_reached_58 hl (k := 0) rfl (by rw [ex3_1]; rfl) (by decide) rfl (fun ls hl => ?_)
        refine lv_goto (tgt := 33) hx hb dX5_reached_61 (by decide) ?_
        exact hv _ _ _ hP hD hS (lv_sub hl [0, 1, 2, 3] rfl)
      · replace hv := hv.1 hc
        refine lv_iload_n hx hb dX5_reached_50 rfl (lv_at hl 1 rfl) ?_
        refine lv_aload_n hx hb dX5_reached_51 rfl (lv_at hl 2 rfl) ?_
        refine lv_iload_n hx hb dX5_reached_52 rfl (lv_at hl 0 rfl) ?_
        refine cx_iVr (As := [.int x3]) (rest := [.int x2]) ⟨hx, hb, hml, hown, hts⟩ (c_X5_lineOf l g a_M a_M_a a_M_rowAt a_M_places a_M_rights a_M_weights a_M_pivots a_M_lower a_M_solution a_M_work a_M_isJoined a_M_stored x3 v_M_thrown M_n M_hasFactors M_hasSolution M_levels M_places M_rowAt v_M_isJoined hv) (cx_cwV 1 hts cw_m_X5_139 cw_i_X5_lineOf cw_s_X5_lineOf cw_n_X5 cw_c_X5_lineOf rfl rfl (by decide +kernel) ⟨Nat.le_of_ble_eq_true rfl, Nat.le_of_ble_eq_true rfl⟩) hK hP hD hS hA 0 5 rfl rfl [0, 4, 3, 2] rfl rfl rfl hl.1 rfl (Nat.le_of_ble_eq_true rfl) dX5_reached_53 ⟨Nat.le_of_ble_eq_true rfl, Nat.le_of_ble_eq_true rfl⟩ (fun r_2 H locs hv hP hS => ?_)
        refine lv_ior hx hb dX5_reached_56 ?_
        refine lv_topi (fun x2_3 ex2_3 => ?_)
        replace hv := hv x2_3 ex2_3
        refine lv_istore_n (lv' := [(2, .int x2_3), (3, .int x3), (0, .ref a_M), (1, .int i_k)]) hx hb dX5_reached_57 rfl hl (by decide) rfl (fun ls hl => ?_)
        obtain ⟨x3_4, ex3_4⟩ : ∃ y : Int32, y = x3 + 1 := ⟨_, rfl⟩
        replace hv := hv x3_4 ex3_4
        refine lv_iinc (v := x3_4) (lv' := [(3, .int x3_4), (2, .int x2_3), (0, .ref a_M), (1, .int i_k)]) hx hb dX5_reached_58 hl (k := 1) rfl (by rw [ex3_4]; rfl) (by decide) rfl (fun ls hl => ?_)
        refine lv_goto (tgt := 33) hx hb dX5_reached_61 (by decide) ?_
        exact hv _ _ _ hP hD hS (lv_sub hl [0, 1, 2, 3] rfl)
  replace hv := hv G1 hs1
  rw [hG1] at hv
  unfold vc_X5_reached_0 at hv
  refine lv_aload_n hx hb dX5_reached_0 rfl (lv_at hl 0 rfl) ?_
  refine lv_iconst (v := 0) hx hb dX5_reached_1 (by decide) ?_
  refine va_put (D := g.1) (ci := 5) (v := .int 0) (ty := .int) (C := RX5) (T := TX5) (N := 16) hx hb hts cw_in_X5 tyX5 tyX5_ok nmX5 hown hK.1 hP hD hS 0 rfl rfl 0 (by decide) (hts _ cw_f_X5_51) (fun _ h9 => h9) rfl (by decide +kernel) rfl rfl (Nat.le_of_ble_eq_true rfl) dX5_reached_2 (fun H locs hP hD hS => ?_)
  have hP : va_P g.1 vwCl [(a_M, .inr (5, [.int 0, .int M_n, .ref a_M_a, .ref a_M_rowAt, .ref a_M_places, .ref a_M_rights, .ref a_M_weights, .int M_hasFactors, .ref a_M_pivots, .ref a_M_lower, .int M_hasSolution, .ref a_M_solution, .ref a_M_work, .ref a_M_isJoined, .int M_levels, .ref a_M_stored])), (a_M_a, .inl (g.2.1, 256, .inl M_a)), (a_M_isJoined, .inl (g.2.2.1, 256, .inl M_isJoined)), (a_M_rowAt, .inl (g.2.1, 16, .inl M_rowAt)), (a_M_places, .inl (g.2.1, 16, .inl M_places))] H := hP
  have hD : va_D A [(a_M, .inr (5, [.int 0, .int M_n, .ref a_M_a, .ref a_M_rowAt, .ref a_M_places, .ref a_M_rights, .ref a_M_weights, .int M_hasFactors, .ref a_M_pivots, .ref a_M_lower, .int M_hasSolution, .ref a_M_solution, .ref a_M_work, .ref a_M_isJoined, .int M_levels, .ref a_M_stored])), (a_M_a, .inl (g.2.1, 256, .inl M_a)), (a_M_isJoined, .inl (g.2.2.1, 256, .inl M_isJoined)), (a_M_rowAt, .inl (g.2.1, 16, .inl M_rowAt)), (a_M_places, .inl (g.2.1, 16, .inl M_places))] := hD
  refine lv_iload_n hx hb dX5_reached_5 rfl (lv_at hl 1 rfl) ?_
  refine lv_if_lt (tgt := 19) hx hb dX5_reached_6 (by decide) (fun hc => ?_) (fun hc => ?_)
  · replace hv := hv.1 hc
    refine lv_aload_n hx hb dX5_reached_19 rfl (lv_at hl 0 rfl) ?_
    refine lv_iconst (v := 1) hx hb dX5_reached_20 (by decide) ?_
    refine cx_iV (wr := [(a_M_a, .inl (g.2.1, 256, .inl M_a)), (a_M_isJoined, .inl (g.2.2.1, 256, .inl M_isJoined)), (a_M_rowAt, .inl (g.2.1, 16, .inl M_rowAt)), (a_M_places, .inl (g.2.1, 16, .inl M_places))]) (As := [.int 1]) (rest := []) ⟨hx, hb, hml, hown, hts⟩ (c_X5_no l g a_M a_M_a a_M_rowAt a_M_places a_M_rights a_M_weights a_M_pivots a_M_lower a_M_solution a_M_work a_M_isJoined a_M_stored 1 0 M_n M_hasFactors M_hasSolution M_levels hv) (cx_cwV 1 hts cw_m_X5_72 cw_i_X5_no cw_s_X5_no cw_n_X5 cw_c_X5_no rfl rfl (by decide +kernel) ⟨Nat.le_of_ble_eq_true rfl, Nat.le_of_ble_eq_true rfl⟩) hK hP hD hS hA 0 5 rfl rfl [0] [1, 2, 3, 4] rfl rfl rfl rfl (by decide) rfl hl.1 rfl (Nat.le_of_ble_eq_true rfl) dX5_reached_21 ⟨Nat.le_of_ble_eq_true rfl, Nat.le_of_ble_eq_true rfl⟩ (fun r_1 w_3 H locs hv hP hD hS => ?_)
    obtain ⟨u_2, rfl⟩ : ∃ z, z = w_3 := ⟨_, rfl⟩
    have hP : va_P g.1 vwCl [(a_M, .inr (5, [.int u_2, .int M_n, .ref a_M_a, .ref a_M_rowAt, .ref a_M_places, .ref a_M_rights, .ref a_M_weights, .int M_hasFactors, .ref a_M_pivots, .ref a_M_lower, .int M_hasSolution, .ref a_M_solution, .ref a_M_work, .ref a_M_isJoined, .int M_levels, .ref a_M_stored])), (a_M_a, .inl (g.2.1, 256, .inl M_a)), (a_M_isJoined, .inl (g.2.2.1, 256, .inl M_isJoined)), (a_M_rowAt, .inl (g.2.1, 16, .inl M_rowAt)), (a_M_places, .inl (g.2.1, 16, .inl M_places))] H := hP.sub [4, 0, 1, 2, 3] rfl
    have hD : va_D A [(a_M, .inr (5, [.int u_2, .int M_n, .ref a_M_a, .ref a_M_rowAt, .ref a_M_places, .ref a_M_rights, .ref a_M_weights, .int M_hasFactors, .ref a_M_pivots, .ref a_M_lower, .int M_hasSolution, .ref a_M_solution, .ref a_M_work, .ref a_M_isJoined, .int M_levels, .ref a_M_stored])), (a_M_a, .inl (g.2.1, 256, .inl M_a)), (a_M_isJoined, .inl (g.2.2.1, 256, .inl M_isJoined)), (a_M_rowAt, .inl (g.2.1, 16, .inl M_rowAt)), (a_M_places, .inl (g.2.1, 16, .inl M_places))] := hD.sub [4, 0, 1, 2, 3] (by decide) rfl
    exact cx_iret hx hb hr hlocks hAe hS (u_2, M_isJoined) hv hP hD dX5_reached_24
  · replace hv := hv.2 hc
    refine lv_iload_n hx hb dX5_reached_9 rfl (lv_at hl 1 rfl) ?_
    refine lv_iconst (v := 1) hx hb dX5_reached_10 (by decide) ?_
    refine lv_aload_n hx hb dX5_reached_11 rfl (lv_at hl 0 rfl) ?_
    refine va_get (D := g.1) (ci := 5) (v := .int M_n) (C := RX5) (T := TX5) (N := 16) hx hb hts cw_in_X5 hown hK.1 hP 0 rfl rfl 1 (by decide) (hts _ cw_f_X5_9) (fun _ h9 => h9) rfl dX5_reached_12 ?_
    refine lv_ishl hx hb dX5_reached_15 ?_
    refine lv_icmp_lt (tgt := 25) hx hb dX5_reached_16 (by decide) (fun hc => ?_) (fun hc => ?_)
    · replace hv := hv.1 hc
      refine lv_aload_n hx hb dX5_reached_25 rfl (lv_at hl 0 rfl) ?_
      refine cx_vV (wr := [(a_M_places, .inl (g.2.1, 16, .inl M_places))]) (As := []) (rest := []) ⟨hx, hb, hml, hown, hts⟩ (c_X5_fill l g a_M a_M_a a_M_rowAt a_M_places a_M_rights a_M_weights a_M_pivots a_M_lower a_M_solution a_M_work a_M_isJoined a_M_stored 0 M_n M_hasFactors M_hasSolution M_levels M_a M_isJoined M_rowAt hv) (cx_cwV 0 hts cw_m_X5_116 cw_i_X5_fill cw_s_X5_fill cw_n_X5 cw_c_X5_fill rfl rfl (by decide +kernel) ⟨Nat.le_of_ble_eq_true rfl, Nat.le_of_ble_eq_true rfl⟩) hK hP hD hS hA 0 5 rfl rfl [0, 1, 2, 3] [4] rfl rfl rfl rfl (by decide) rfl hl.1 rfl (Nat.le_of_ble_eq_true rfl) dX5_reached_26 ⟨Nat.le_of_ble_eq_true rfl, Nat.le_of_ble_eq_true rfl⟩ (fun w_6 H locs hv hP hD hS => ?_)
      obtain ⟨u_5, rfl⟩ : ∃ z, z = w_6 := ⟨_, rfl⟩
      have hP : va_P g.1 vwCl [(a_M, .inr (5, [.int 0, .int M_n, .ref a_M_a, .ref a_M_rowAt, .ref a_M_places, .ref a_M_rights, .ref a_M_weights, .int M_hasFactors, .ref a_M_pivots, .ref a_M_lower, .int M_hasSolution, .ref a_M_solution, .ref a_M_work, .ref a_M_isJoined, .int M_levels, .ref a_M_stored])), (a_M_a, .inl (g.2.1, 256, .inl M_a)), (a_M_isJoined, .inl (g.2.2.1, 256, .inl u_5)), (a_M_rowAt, .inl (g.2.1, 16, .inl M_rowAt)), (a_M_places, .inl (g.2.1, 16, .inl M_places))] H := hP.sub [1, 2, 3, 4, 0] rfl
      have hD : va_D A [(a_M, .inr (5, [.int 0, .int M_n, .ref a_M_a, .ref a_M_rowAt, .ref a_M_places, .ref a_M_rights, .ref a_M_weights, .int M_hasFactors, .ref a_M_pivots, .ref a_M_lower, .int M_hasSolution, .ref a_M_solution, .ref a_M_work, .ref a_M_isJoined, .int M_levels, .ref a_M_stored])), (a_M_a, .inl (g.2.1, 256, .inl M_a)), (a_M_isJoined, .inl (g.2.2.1, 256, .inl u_5)), (a_M_rowAt, .inl (g.2.1, 16, .inl M_rowAt)), (a_M_places, .inl (g.2.1, 16, .inl M_places))] := hD.sub [1, 2, 3, 4, 0] (by decide) rfl
      refine lv_iconst (v := 0) hx hb dX5_reached_29 (by decide) ?_
      refine lv_istore_n (lv' := [(2, .int 0), (0, .ref a_M), (1, .int i_k)]) hx hb dX5_reached_30 rfl hl (by decide) rfl (fun ls hl => ?_)
      refine lv_iconst (v := 0) hx hb dX5_reached_31 (by decide) ?_
      refine lv_istore_n (lv' := [(3, .int 0), (2, .int 0), (0, .ref a_M), (1, .int i_k)]) hx hb dX5_reached_32 rfl hl (by decide) rfl (fun ls hl => ?_)
      exact hv _ _ _ hP hD hS (lv_sub hl [0, 1, 2, 3] rfl)
    · replace hv := hv.2 hc
      refine lv_aload_n hx hb dX5_reached_19 rfl (lv_at hl 0 rfl) ?_
      refine lv_iconst (v := 1) hx hb dX5_reached_20 (by decide) ?_
      refine cx_iV (wr := [(a_M_a, .inl (g.2.1, 256, .inl M_a)), (a_M_isJoined, .inl (g.2.2.1, 256, .inl M_isJoined)), (a_M_rowAt, .inl (g.2.1, 16, .inl M_rowAt)), (a_M_places, .inl (g.2.1, 16, .inl M_places))]) (As := [.int 1]) (rest := []) ⟨hx, hb, hml, hown, hts⟩ (c_X5_no l g a_M a_M_a a_M_rowAt a_M_places a_M_rights a_M_weights a_M_pivots a_M_lower a_M_solution a_M_work a_M_isJoined a_M_stored 1 0 M_n M_hasFactors M_hasSolution M_levels hv) (cx_cwV 1 hts cw_m_X5_72 cw_i_X5_no cw_s_X5_no cw_n_X5 cw_c_X5_no rfl rfl (by decide +kernel) ⟨Nat.le_of_ble_eq_true rfl, Nat.le_of_ble_eq_true rfl⟩) hK hP hD hS hA 0 5 rfl rfl [0] [1, 2, 3, 4] rfl rfl rfl rfl (by decide) rfl hl.1 rfl (Nat.le_of_ble_eq_true rfl) dX5_reached_21 ⟨Nat.le_of_ble_eq_true rfl, Nat.le_of_ble_eq_true rfl⟩ (fun r_7 w_9 H locs hv hP hD hS => ?_)
      obtain ⟨u_8, rfl⟩ : ∃ z, z = w_9 := ⟨_, rfl⟩
      have hP : va_P g.1 vwCl [(a_M, .inr (5, [.int u_8, .int M_n, .ref a_M_a, .ref a_M_rowAt, .ref a_M_places, .ref a_M_rights, .ref a_M_weights, .int M_hasFactors, .ref a_M_pivots, .ref a_M_lower, .int M_hasSolution, .ref a_M_solution, .ref a_M_work, .ref a_M_isJoined, .int M_levels, .ref a_M_stored])), (a_M_a, .inl (g.2.1, 256, .inl M_a)), (a_M_isJoined, .inl (g.2.2.1, 256, .inl M_isJoined)), (a_M_rowAt, .inl (g.2.1, 16, .inl M_rowAt)), (a_M_places, .inl (g.2.1, 16, .inl M_places))] H := hP.sub [4, 0, 1, 2, 3] rfl
      have hD : va_D A [(a_M, .inr (5, [.int u_8, .int M_n, .ref a_M_a, .ref a_M_rowAt, .ref a_M_places, .ref a_M_rights, .ref a_M_weights, .int M_hasFactors, .ref a_M_pivots, .ref a_M_lower, .int M_hasSolution, .ref a_M_solution, .ref a_M_work, .ref a_M_isJoined, .int M_levels, .ref a_M_stored])), (a_M_a, .inl (g.2.1, 256, .inl M_a)), (a_M_isJoined, .inl (g.2.2.1, 256, .inl M_isJoined)), (a_M_rowAt, .inl (g.2.1, 16, .inl M_rowAt)), (a_M_places, .inl (g.2.1, 16, .inl M_places))] := hD.sub [4, 0, 1, 2, 3] (by decide) rfl
      exact cx_iret hx hb hr hlocks hAe hS (u_8, M_isJoined) hv hP hD dX5_reached_24
