/-- the relation holds behind the two constructors -/
def lw_init (Rel : Int32 → Int32 → Int32 → (Nat → Int32) → (Nat → Int32) → (Nat → Int32) → (Nat → Int32) → (Nat → Int32) → Int32 → (Nat → Int32) → (Nat → Int32) → (Nat → Int32) → (Nat → Int32) → (Nat → Int32) → Int32 → (Nat → Int32) → (Nat → Int32) → (Nat → Int32) → (Nat → Int32) → (Nat → Int32) → Int32 → (Nat → Int32) → (Nat → Int32) → (Nat → Int32) → (Nat → Int32) → (Nat → Int32) → Int32 → (Nat → Int32) → (Nat → Int32) → (Nat → Int32) → (Nat → Int32) → (Nat → Int32) → Int32 → (Nat → Int32) → (Nat → Int32) → (Nat → Int32) → (Nat → Int32) → (Nat → Int32) → Int32 → (Nat → Int32) → (Nat → Int32) → (Nat → Int32) → (Nat → Int32) → (Nat → Int32) → (Nat → Int32) → (Nat → Int32) → (Nat → Int32) → Int32 → Int32 → (Nat → Int32) → (Nat → Int32) → (Nat → Int32) → (Nat → Int32) → (Nat → Int32) → (Nat → Int32) → Int32 → Int32 → Int32 → Int32 → Int32 → (Nat → Int32) → (Nat → Int32) → (Nat → Int32) → (Nat → Int32) → (Nat → Int32) → (Nat → Int32) → (Nat → Int32) → (Nat → Int32) → (Nat → Int32) → (Nat → Int32) → (Nat → Int32) → (Nat → Int64) → Prop) : Prop := wp_X5_init (fun hf hs ma mr mp mi mw => Rel 0 0 1 (fun _ => 0) (fun _ => 0) (fun _ => 0) (fun _ => 0) (fun _ => 0) 1 (fun _ => 0) (fun _ => 0) (fun _ => 0) (fun _ => 0) (fun _ => 0) 1 (fun _ => 0) (fun _ => 0) (fun _ => 0) (fun _ => 0) (fun _ => 0) 1 (fun _ => 0) (fun _ => 0) (fun _ => 0) (fun _ => 0) (fun _ => 0) 1 (fun _ => 0) (fun _ => 0) (fun _ => 0) (fun _ => 0) (fun _ => 0) 1 (fun _ => 0) (fun _ => 0) (fun _ => 0) (fun _ => 0) (fun _ => 0) 1 (fun _ => 0) (fun _ => 0) (fun _ => 0) (fun _ => 0) (fun _ => 0) (fun _ => 0) (fun _ => 0) (fun _ => 0) 0 0 (fun _ => 0) (fun _ => 0) (fun _ => 0) (fun _ => 0) (fun _ => 0) (fun _ => 0) 0 1 hf hs 0 ma mr mp mi mw (fun _ => 0) (fun _ => 0) (fun _ => 0) (fun _ => 0) (fun _ => 0) (fun _ => 0) (fun _ => 0))
theorem ls_nest : ∀ q ∈ cx_nw, Cond.methodLinkNest q.1 q.2.1 q.2.2.1 q.2.2.2 ∈ lw_tbl := by decide +kernel
theorem ls_over : Cond.arrayOver (.object "SparseFactor$Problem") ∈ lw_tbl := by decide +kernel
theorem ls_bw : ∀ w ∈ cx_Bw, w ∈ lw_tbl := by decide +kernel
theorem ls_sr : ∀ q ∈ cx_sr, Cond.stringRef RX4 q.1 q.2 ∈ lw_tbl := by decide +kernel
theorem ls_l1 : Cond.laysStatic Bundle.tN "UNASSIGNED_STACK" Bundle.steD ∈ lw_tbl := by decide +kernel
theorem ls_l2 : Cond.laysStatic Bundle.tN "SUPPRESSED_SENTINEL" Bundle.listD ∈ lw_tbl := by decide +kernel
theorem ls_ti : Cond.initialized Bundle.tN ∈ lw_tbl := by decide +kernel
set_option maxHeartbeats 8000000 in
set_option maxRecDepth 100000 in
theorem ls_KX {args : Array Value} {s : State} (hts8 : ∀ w ∈ lw_tbl, w.before args s = true) (hgv : (Jvm.Cond.and given_1 narrow_1).before args s = true) : cx_KX s := by
  have hs := flat_of_before _ hgv
  refine ⟨fun w hw => va_Nw.of (cx_Bw_ok w hw) (hts8 w (ls_bw w hw)), ?_, ?_⟩
  · have key : ∀ (k : Nat) (tx : String), (k, tx) ∈ cx_sr → (Cond.exactly (.string RX4 k) "java/lang/String").before args s = true → ∃ a : Nat, vk_R RX4 k tx a s := by
      intro k tx hk h
      obtain ⟨a, c9, cell, k9, he, -⟩ := Cond.exactly_spec h
      have h1 : (Cond.stringRef RX4 k tx).before args s = true := hts8 _ (ls_sr (k, tx) hk)
      exact ⟨a, vk_R.of h1 he⟩
    intro q hq
    have hq2 := hq
    simp only [cx_sr, List.mem_cons, List.not_mem_nil, or_false] at hq2
    rcases hq2 with rfl | rfl | rfl | rfl | rfl | rfl | rfl | rfl | rfl <;> exact key _ _ hq (hs _ (by decide +kernel))
  · intro q hq
    simp only [cx_nc, List.mem_cons, List.not_mem_nil, or_false] at hq
    rcases hq with rfl | rfl | rfl | rfl | rfl | rfl | rfl | rfl | rfl | rfl | rfl | rfl <;> exact va_Nc.of (hs _ (by decide +kernel))
theorem ls_Z {args : Array Value} {s : State} (hts8 : ∀ w ∈ lw_tbl, w.before args s = true) (hgv : (Jvm.Cond.and given_1 narrow_1).before args s = true) : cx_Z (fun q : Nat => s.heap.size ≤ q) s s.heap := by
  have hs := flat_of_before _ hgv
  exact ⟨vx_Zqof (hts8 _ ls_l1) (hts8 _ ls_ti) (hs _ (by decide +kernel)) (fun a h => Nat.not_le.mpr h), vx_Zqof (hts8 _ ls_l2) (hts8 _ ls_ti) (hs _ (by decide +kernel)) (fun a h => Nat.not_le.mpr h)⟩
theorem ls_K {args : Array Value} {s : State} (hts8 : ∀ w ∈ lw_tbl, w.before args s = true) : ∃ g : cx_G, cx_K g s := by
  have hts : ∀ w ∈ cx_T, w.before args s = true := fun w h => hts8 w (List.mem_filter.mp h).1
  obtain ⟨c0, i0, k0⟩ := u_known (C := RX0) (T := TX0) (N := 3) (n := 3) hts cw_in_X0 (hts _ cw_b_X0)
  obtain ⟨c1, i1, k1⟩ := u_known (C := RX1) (T := TX1) (N := 5) (n := 5) hts cw_in_X1 (hts _ cw_b_X1)
  obtain ⟨c2, i2, k2⟩ := u_known (C := RX2) (T := TX2) (N := 6) (n := 6) hts cw_in_X2 (hts _ cw_b_X2)
  obtain ⟨c3, i3, k3⟩ := u_known (C := RX3) (T := TX3) (N := 1) (n := 1) hts cw_in_X3 (hts _ cw_b_X3)
  obtain ⟨c4, i4, k4⟩ := u_known (C := RX4) (T := TX4) (N := 9) (n := 9) hts cw_in_X4 (hts _ cw_b_X4)
  obtain ⟨c5, i5, k5⟩ := u_known (C := RX5) (T := TX5) (N := 16) (n := 16) hts cw_in_X5 (hts _ cw_b_X5)
  obtain ⟨dC, dI, hKc⟩ : ∃ (dC : Nat → ClassId) (dI : Nat → Nat → Nat), ∀ (k : Nat) (q : vw_C), vwCl[k]? = some q → u_Kn s q.1 q.2.1 q.2.2 (dC k) (dI k) := by
    refine ⟨fun k => if k = 0 then c0 else if k = 1 then c1 else if k = 2 then c2 else if k = 3 then c3 else if k = 4 then c4 else c5, fun k => if k = 0 then i0 else if k = 1 then i1 else if k = 2 then i2 else if k = 3 then i3 else if k = 4 then i4 else i5, ?_⟩
    intro k q hq
    match k, hq with
    | 0, hq => cases hq; exact k0
    | 1, hq => cases hq; exact k1
    | 2, hq => cases hq; exact k2
    | 3, hq => cases hq; exact k3
    | 4, hq => cases hq; exact k4
    | 5, hq => cases hq; exact k5
    | k + 6, hq => simp [vwCl] at hq
  obtain ⟨cI, kI, pI, a1, a2, a3⟩ := Cond.arrayClass_spec (hts _ cw_a_int)
  obtain ⟨cZ, kZ, pZ, b1, b2, b3⟩ := Cond.arrayClass_spec (hts _ cw_a_boolean)
  obtain ⟨cJ, kJ, pJ, d1, d2, d3⟩ := Cond.arrayClass_spec (hts _ cw_a_long)
  obtain ⟨pO, cO, kO, e1, -, e3, e4, e5⟩ := Cond.arrayOver_spec (hts8 _ ls_over)
  refine ⟨((dC, dI), cI, cZ, cJ, cO), ⟨hKc, ?_⟩, fun q hq => va_Nw.of rfl (hts8 _ (ls_nest q hq)), va_AO.of (hts8 _ ls_over)⟩
  intro k q hq
  match k, hq with
  | 0, hq => cases hq; exact ⟨fun N z => ⟨fun k h => (by cases h), kI, a2, pI, a3⟩, a1⟩
  | 1, hq => cases hq; exact ⟨fun N z => ⟨fun k h => (by cases h), kZ, b2, pZ, b3⟩, b1⟩
  | 2, hq => cases hq; exact ⟨fun N z => ⟨fun k h => (by cases h), kJ, d2, pJ, d3⟩, d1⟩
  | 3, hq => cases hq; exact ⟨fun N z => ⟨fun k h => (by cases h), kO, e3, pO, e4⟩, kO, pO, e3, e4, e1, e5⟩
  | k + 4, hq => simp [cx_ty] at hq
