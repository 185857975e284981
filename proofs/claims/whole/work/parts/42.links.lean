/-! PURE: links and their number -/
def sm (f : Nat → Nat) : Nat → Nat
  | 0 => 0
  | k + 1 => sm f k + f k
theorem sm_cong {f g : Nat → Nat} : ∀ n, (∀ k, k < n → f k = g k) → sm f n = sm g n
  | 0, _ => rfl
  | n + 1, h => by unfold sm; rw [sm_cong n (fun k hk => h k (by omega)), h n (by omega)]
theorem sm_add (f g : Nat → Nat) : ∀ n, sm (fun k => f k + g k) n = sm f n + sm g n
  | 0 => rfl
  | n + 1 => by
    show sm _ n + (f n + g n) = sm f n + f n + (sm g n + g n)
    rw [sm_add f g n]; omega
theorem sm_le {f : Nat → Nat} {c : Nat} : ∀ n, (∀ k, k < n → f k ≤ c) → sm f n ≤ n * c
  | 0, _ => Nat.zero_le _
  | n + 1, h => by
    have h1 := sm_le n (fun k hk => h k (by omega))
    have h2 := h n (by omega)
    show sm f n + f n ≤ _
    rw [Nat.add_mul]; omega
theorem ct_sm (p : Nat → Bool) : ∀ n, ct p n = sm (fun k => if p k then 1 else 0) n
  | 0 => rfl
  | n + 1 => by
    show ct p n + _ = sm _ n + _
    rw [ct_sm p n]
theorem ct_two {p q r : Nat → Bool} : ∀ n, (∀ k, k < n → (if p k then 1 else 0) + (if q k then 1 else 0) = (if r k then 1 else (0 : Nat))) → ct p n + ct q n = ct r n
  | 0, _ => rfl
  | n + 1, h => by
    have h1 := ct_two n (fun k hk => h k (by omega))
    have h2 := h n (by omega)
    show ct p n + _ + (ct q n + _) = ct r n + _
    omega
theorem ct_cut (q : Nat → Bool) (n : Nat) : ∀ m, n ≤ m → ct (fun j => decide (j < n) && q j) m = ct q n
  | 0, h => by
    have : n = 0 := by omega
    subst this; rfl
  | m + 1, h => by
    by_cases e : n = m + 1
    · subst e
      exact ct_cong (m + 1) (fun k hk => by rw [decide_eq_true hk, Bool.true_and])
    · show ct (fun j => decide (j < n) && q j) m + (if (decide (m < n) && q m) then 1 else 0) = _
      rw [ct_cut q n m (by omega), decide_eq_false (show ¬ m < n by omega)]; rfl
/-- pairs by an order: each pair once -/
theorem sm_ord (J lt : Nat → Nat → Bool) : ∀ n, (∀ i j, i < n → j < n → J i j = J j i) → (∀ i, i < n → J i i = false) → (∀ i j, i < n → j < n → i ≠ j → lt i j = !lt j i) → sm (fun i => ct (fun j => J i j && lt i j) n) n = sm (fun i => ct (J i) i) n
  | 0, _, _, _ => rfl
  | n + 1, hs, hi, hl => by
    have ih := sm_ord J lt n (fun i j h1 h2 => hs i j (by omega) (by omega)) (fun i h => hi i (by omega)) (fun i j h1 h2 h3 => hl i j (by omega) (by omega) h3)
    show sm (fun i => ct (fun j => J i j && lt i j) n + (if J i n && lt i n then 1 else 0)) n + (ct (fun j => J n j && lt n j) n + (if J n n && lt n n then 1 else 0)) = sm (fun i => ct (J i) i) n + ct (J n) n
    rw [sm_add, ih, ← ct_sm (fun i => J i n && lt i n) n, hi n (by omega)]
    have h2 := ct_two (p := fun i => J i n && lt i n) (q := fun j => J n j && lt n j) (r := J n) n (fun k hk => by
      rw [hs k n (by omega) (by omega), hl k n (by omega) (by omega) (by omega)]
      cases J n k <;> cases lt n k <;> rfl)
    have h3 : (if (false && lt n n) = true then 1 else 0 : Nat) = 0 := rfl
    omega
theorem sm_twice (J : Nat → Nat → Bool) (n : Nat) (hs : ∀ i j, i < n → j < n → J i j = J j i) (hi : ∀ i, i < n → J i i = false) : sm (fun i => ct (J i) n) n = 2 * sm (fun i => ct (J i) i) n := by
  have h1 := sm_ord J (fun i j => decide (i < j)) n hs hi (fun i j _ _ h => by
    by_cases q : i < j
    · rw [decide_eq_true q, decide_eq_false (by omega)]; rfl
    · rw [decide_eq_false q, decide_eq_true (by omega)]; rfl)
  have h2 := sm_ord J (fun i j => decide (j < i)) n hs hi (fun i j _ _ h => by
    by_cases q : j < i
    · rw [decide_eq_true q, decide_eq_false (by omega)]; rfl
    · rw [decide_eq_false q, decide_eq_true (by omega)]; rfl)
  have h3 : sm (fun i => ct (J i) n) n = sm (fun i => ct (fun j => J i j && decide (i < j)) n + ct (fun j => J i j && decide (j < i)) n) n := sm_cong n (fun i hi' => by
    refine (ct_two n (fun k hk => ?_)).symm
    by_cases e : i = k
    · subst e; rw [hi i hi']; rfl
    · by_cases q : i < k
      · rw [decide_eq_true q, decide_eq_false (show ¬ k < i by omega)]; cases J i k <;> rfl
      · rw [decide_eq_false q, decide_eq_true (show k < i by omega)]; cases J i k <;> rfl)
  rw [h3, sm_add, h1, h2]; omega
def LK (A : Nat → Nat → Nat) (i j : Nat) : Bool := decide (i ≠ j) && decide (A i j ≠ 0)
theorem LK_sym {A : Nat → Nat → Nat} (h : ∀ i j, A i j = A j i) (i j : Nat) : LK A i j = LK A j i := by
  unfold LK
  rw [h i j]
  by_cases e : i = j
  · subst e; rfl
  · rw [decide_eq_true e, decide_eq_true (show j ≠ i from fun q => e q.symm)]
theorem LK_self (A : Nat → Nat → Nat) (i : Nat) : LK A i i = false := by unfold LK; rw [decide_eq_false (fun q => q rfl)]; rfl
theorem LK_no {A : Nat → Nat → Nat} {i j : Nat} (h : i = j ∨ A i j = 0) : LK A i j = false := by
  rcases h with h | h
  · subst h; exact LK_self A i
  · unfold LK; rw [h, decide_eq_false (fun q : (0 : Nat) ≠ 0 => q rfl), Bool.and_false]
theorem LK_yes {A : Nat → Nat → Nat} {i j : Nat} (h : i ≠ j) (h2 : A i j ≠ 0) : LK A i j = true := by unfold LK; rw [decide_eq_true h, decide_eq_true h2]; rfl
theorem mk_step_no {q : Nat → Bool} {j : Nat} (h : q j = false) : mk (fun c => decide (c < j + 1) && q c) = mk (fun c => decide (c < j) && q c) := mk_cong (fun c _ => by
  by_cases e : c = j
  · subst e; rw [h, Bool.and_false, Bool.and_false]
  · by_cases l : c < j
    · rw [decide_eq_true l, decide_eq_true (show c < j + 1 by omega)]
    · rw [decide_eq_false l, decide_eq_false (show ¬ c < j + 1 by omega)])
theorem mk_step_yes {q : Nat → Bool} {j : Nat} (hj : j < 16) (h : q j = true) : nI (mk (fun c => decide (c < j) && q c)) ||| f_bit (nI j) = nI (mk (fun c => decide (c < j + 1) && q c)) := by
  rw [fbit_mk hj, mk_or]
  congr 1
  refine mk_cong (fun c _ => ?_)
  by_cases e : c = j
  · subst e; rw [h, decide_eq_true (show c < c + 1 by omega), decide_eq_true (show c = c from rfl), Bool.or_true]; rfl
  · rw [decide_eq_false e, Bool.or_false]
    by_cases l : c < j
    · rw [decide_eq_true l, decide_eq_true (show c < j + 1 by omega)]
    · rw [decide_eq_false l, decide_eq_false (show ¬ c < j + 1 by omega)]
theorem sp_linksOf {n : Nat} {A : Nat → Nat → Nat} {σ τ ri we : Nat → Nat} (hW : WF n A σ τ ri we) {pe po pp pr pw : Nat → Int32} (hC : CP n A σ τ ri we (nI n) pe po pp pr pw) {i : Nat} (hi : i < n) {Q : Int32 → Prop} (h : Q (nI (mk (fun j => decide (j < n) && LK A i j)))) : wp_X2_linksOf (nI i) (nI n) pe Q := by
  have hn := hW.2.1
  intro G1 g1
  have k1 : ∀ j, j ≤ n → G1 (nI j) (nI (mk (fun c => decide (c < j) && LK A i c))) := by
    refine pu_down n ?_ ?_
    · exact g1 _ _ ⟨fun _ => h, fun c => absurd (nI_le (Nat.le_refl n) (by omega)) c⟩
    · intro j hj ih
      have ha := hW.2.2.1 i j
      refine g1 _ _ ⟨fun c => absurd c (nI_ge hj (by omega)), fun _ => pk_eq j i (fun e x hx => ?_) (fun e => ?_)⟩
      · rw [hx, nI_1, ← mk_step_no (LK_no (Or.inl e.symm))]; exact ih
      · unfold wp_X2_entryAt
        rw [pn_cell, pn_cl (show 16 * i + j < 2147483648 by omega), hC.2.1 i j hi hj]
        refine ⟨pn_in (by omega) (by decide), pk_eq (A i j) 0 (fun e2 x hx => ?_) (fun e2 x hx y hy => ?_)⟩
        · rw [hx, nI_1, ← mk_step_no (LK_no (Or.inr e2))]; exact ih
        · rw [hy, hx, nI_1, mk_step_yes (by omega) (LK_yes (fun q => e q.symm) e2)]; exact ih
  have := k1 0 (by omega)
  rw [show mk (fun c => decide (c < 0) && LK A i c) = 0 from (mk_cong (q := fun _ => false) (fun j _ => by rw [decide_eq_false (by omega), Bool.false_and])).trans (by decide)] at this
  exact this
def lkN (n : Nat) (A : Nat → Nat → Nat) : Nat := sm (fun i => ct (LK A i) i) n
theorem lkN_le {n : Nat} (hn : n ≤ 16) (A : Nat → Nat → Nat) : lkN n A ≤ 256 := by
  have := sm_le (f := fun i => ct (LK A i) i) (c := 16) n (fun k hk => Nat.le_trans (ct_le _ k) (by omega))
  unfold lkN
  omega
theorem sp_countLinks {n : Nat} {A : Nat → Nat → Nat} {σ τ ri we : Nat → Nat} (hW : WF n A σ τ ri we) {pe po pp pr pw : Nat → Int32} (hC : CP n A σ τ ri we (nI n) pe po pp pr pw) {Q : Int32 → Prop} (h : Q (nI (lkN n A))) : wp_X2_countLinks (nI n) pe Q := by
  have hn := hW.2.1
  intro G1 g1
  have k1 : ∀ i, i ≤ n → G1 (nI i) (nI (sm (fun i => ct (LK A i) n) i)) := by
    refine pu_down n ?_ ?_
    · refine g1 _ _ ⟨fun _ => ?_, fun c => absurd (nI_le (Nat.le_refl n) (by omega)) c⟩
      have hl := lkN_le hn A
      have e := sm_twice (LK A) n (fun i j _ _ => LK_sym hW.2.2.2.1 i j) (fun i _ => LK_self A i)
      rw [e, show (2 : Int32) = nI 2 from rfl, pk_div (by unfold lkN at hl; omega) (by decide) (by decide), Nat.mul_div_cancel_left _ (by decide)]
      exact h
    · intro i hi ih
      refine g1 _ _ ⟨fun c => absurd c (nI_ge hi (by omega)), fun _ => ?_⟩
      refine sp_linksOf hW hC hi (fun x hx y hy => ?_)
      rw [hy, hx, nI_1, mk_bc, ct_cut _ _ _ hn, nI_add]
      exact ih
  exact k1 0 (by omega)
theorem sp_links5 {n : Nat} {A : Nat → Nat → Nat} {σ τ ri we : Nat → Nat} (hW : WF n A σ τ ri we) {mt mh ms mv : Int32} {ma ro pl mr mw : Nat → Int32} (hM : MP n A σ τ ri we (nI n) ma ro pl mr mw) {Q : Int32 → Prop} (h : Q (nI (lkN n A))) : wp_X5_links mt (nI n) mh ms mv ma Q := by
  have hn := hW.2.1
  intro G1 G2 g1 g2
  suffices k1 : ∀ i, i ≤ n → G1 (nI i) (nI (sm (fun i => ct (LK A i) i) i)) from k1 0 (by omega)
  refine pu_down n ?_ ?_
  · exact g1 _ _ ⟨fun _ => h, fun c => absurd (nI_le (Nat.le_refl n) (by omega)) c⟩
  · intro i hi ih
    refine g1 _ _ ⟨fun c => absurd c (nI_ge hi (by omega)), fun _ => ?_⟩
    suffices k2 : ∀ j, j ≤ i → G2 (nI j) (nI i) (nI (sm (fun i => ct (LK A i) i) i + ct (LK A i) j)) from k2 0 (by omega)
    refine pu_down i ?_ ?_
    · refine g2 _ _ _ ⟨fun _ x hx => ?_, fun c => absurd (nI_le (Nat.le_refl i) (by omega)) c⟩
      rw [hx, nI_1]; exact ih
    · intro j hj ih2
      refine g2 _ _ _ ⟨fun c => absurd c (nI_ge hj (by omega)), fun _ => ?_⟩
      refine sp_lk hW.2.2.1 hn hM.2.1 hi (by omega) (fun e => ⟨fun _ x hx y hy => ?_, fun c => absurd rfl c⟩) (fun e1 e2 => ⟨fun c => absurd c (by decide), fun _ x hx y hy => ?_⟩)
      · have : ct (LK A i) (j + 1) = ct (LK A i) j := by
          show ct (LK A i) j + (if LK A i j then 1 else 0) = _
          rw [LK_no e]; rfl
        rw [hy, hx, nI_1, Int32.add_zero, ← this]; exact ih2
      · have : ct (LK A i) (j + 1) = ct (LK A i) j + 1 := by
          show ct (LK A i) j + (if LK A i j then 1 else 0) = _
          rw [LK_yes e1 e2]; rfl
        rw [hy, hx, nI_1, nI_1, Nat.add_assoc, ← this]; exact ih2
theorem pure_4 {L : Nat} {xs : Nat → Int32} {i : Nat} (hL : L ≤ 2048) (hi : 4 * i + 4 ≤ L) {X_solved : Int32} {X_levelCount : Int32} {P_rows : Int32} {P_entries : (Nat → Int32)} {P_order : (Nat → Int32)} {P_places : (Nat → Int32)} {P_rights : (Nat → Int32)} {P_weights : (Nat → Int32)} {L0_rows : Int32} {L0_entries : (Nat → Int32)} {L0_order : (Nat → Int32)} {L0_places : (Nat → Int32)} {L0_rights : (Nat → Int32)} {L0_weights : (Nat → Int32)} {L1_rows : Int32} {L1_entries : (Nat → Int32)} {L1_order : (Nat → Int32)} {L1_places : (Nat → Int32)} {L1_rights : (Nat → Int32)} {L1_weights : (Nat → Int32)} {L2_rows : Int32} {L2_entries : (Nat → Int32)} {L2_order : (Nat → Int32)} {L2_places : (Nat → Int32)} {L2_rights : (Nat → Int32)} {L2_weights : (Nat → Int32)} {L3_rows : Int32} {L3_entries : (Nat → Int32)} {L3_order : (Nat → Int32)} {L3_places : (Nat → Int32)} {L3_rights : (Nat → Int32)} {L3_weights : (Nat → Int32)} {L4_rows : Int32} {L4_entries : (Nat → Int32)} {L4_order : (Nat → Int32)} {L4_places : (Nat → Int32)} {L4_rights : (Nat → Int32)} {L4_weights : (Nat → Int32)} {L5_rows : Int32} {L5_entries : (Nat → Int32)} {L5_order : (Nat → Int32)} {L5_places : (Nat → Int32)} {L5_rights : (Nat → Int32)} {L5_weights : (Nat → Int32)} {E_joined : (Nat → Int32)} {E_later : (Nat → Int32)} {E_paths : (Nat → Int32)} {F_known : Int32} {F_rows : Int32} {F_pivots : (Nat → Int32)} {F_reciprocals : (Nat → Int32)} {F_below : (Nat → Int32)} {R_cells : (Nat → Int32)} {X_vector : (Nat → Int32)} {X_solution : (Nat → Int32)} {M_thrown : Int32} {M_n : Int32} {M_hasFactors : Int32} {M_hasSolution : Int32} {M_levels : Int32} {M_a : (Nat → Int32)} {M_rowAt : (Nat → Int32)} {M_places : (Nat → Int32)} {M_rights : (Nat → Int32)} {M_weights : (Nat → Int32)} {M_pivots : (Nat → Int32)} {M_lower : (Nat → Int32)} {M_solution : (Nat → Int32)} {M_work : (Nat → Int32)} {M_isJoined : (Nat → Int32)} {M_stored : (Nat → Int32)} {O_out : (Nat → Int64)} (hR : Rel X_solved X_levelCount P_rows P_entries P_order P_places P_rights P_weights L0_rows L0_entries L0_order L0_places L0_rights L0_weights L1_rows L1_entries L1_order L1_places L1_rights L1_weights L2_rows L2_entries L2_order L2_places L2_rights L2_weights L3_rows L3_entries L3_order L3_places L3_rights L3_weights L4_rows L4_entries L4_order L4_places L4_rights L4_weights L5_rows L5_entries L5_order L5_places L5_rights L5_weights E_joined E_later E_paths F_known F_rows F_pivots F_reciprocals F_below R_cells X_vector X_solution M_thrown M_n M_hasFactors M_hasSolution M_levels M_a M_rowAt M_places M_rights M_weights M_pivots M_lower M_solution M_work M_isJoined M_stored O_out) {G : Int32 → Int32 → Int32 → Int32 → (Nat → Int32) → (Nat → Int32) → (Nat → Int32) → (Nat → Int32) → (Nat → Int32) → Int32 → (Nat → Int32) → (Nat → Int32) → (Nat → Int32) → (Nat → Int32) → (Nat → Int32) → Int32 → (Nat → Int32) → (Nat → Int32) → (Nat → Int32) → (Nat → Int32) → (Nat → Int32) → Int32 → (Nat → Int32) → (Nat → Int32) → (Nat → Int32) → (Nat → Int32) → (Nat → Int32) → Int32 → (Nat → Int32) → (Nat → Int32) → (Nat → Int32) → (Nat → Int32) → (Nat → Int32) → Int32 → (Nat → Int32) → (Nat → Int32) → (Nat → Int32) → (Nat → Int32) → (Nat → Int32) → Int32 → (Nat → Int32) → (Nat → Int32) → (Nat → Int32) → (Nat → Int32) → (Nat → Int32) → (Nat → Int32) → (Nat → Int32) → (Nat → Int32) → Int32 → Int32 → (Nat → Int32) → (Nat → Int32) → (Nat → Int32) → (Nat → Int32) → (Nat → Int32) → (Nat → Int32) → Int32 → Int32 → Int32 → Int32 → Int32 → (Nat → Int32) → (Nat → Int32) → (Nat → Int32) → (Nat → Int32) → (Nat → Int32) → (Nat → Int32) → (Nat → Int32) → (Nat → Int32) → (Nat → Int32) → (Nat → Int32) → (Nat → Int32) → (Nat → Int64) → Prop} (hG : ∀ (X_solved : Int32) (X_levelCount : Int32) (P_rows : Int32) (P_entries : (Nat → Int32)) (P_order : (Nat → Int32)) (P_places : (Nat → Int32)) (P_rights : (Nat → Int32)) (P_weights : (Nat → Int32)) (L0_rows : Int32) (L0_entries : (Nat → Int32)) (L0_order : (Nat → Int32)) (L0_places : (Nat → Int32)) (L0_rights : (Nat → Int32)) (L0_weights : (Nat → Int32)) (L1_rows : Int32) (L1_entries : (Nat → Int32)) (L1_order : (Nat → Int32)) (L1_places : (Nat → Int32)) (L1_rights : (Nat → Int32)) (L1_weights : (Nat → Int32)) (L2_rows : Int32) (L2_entries : (Nat → Int32)) (L2_order : (Nat → Int32)) (L2_places : (Nat → Int32)) (L2_rights : (Nat → Int32)) (L2_weights : (Nat → Int32)) (L3_rows : Int32) (L3_entries : (Nat → Int32)) (L3_order : (Nat → Int32)) (L3_places : (Nat → Int32)) (L3_rights : (Nat → Int32)) (L3_weights : (Nat → Int32)) (L4_rows : Int32) (L4_entries : (Nat → Int32)) (L4_order : (Nat → Int32)) (L4_places : (Nat → Int32)) (L4_rights : (Nat → Int32)) (L4_weights : (Nat → Int32)) (L5_rows : Int32) (L5_entries : (Nat → Int32)) (L5_order : (Nat → Int32)) (L5_places : (Nat → Int32)) (L5_rights : (Nat → Int32)) (L5_weights : (Nat → Int32)) (E_joined : (Nat → Int32)) (E_later : (Nat → Int32)) (E_paths : (Nat → Int32)) (F_known : Int32) (F_rows : Int32) (F_pivots : (Nat → Int32)) (F_reciprocals : (Nat → Int32)) (F_below : (Nat → Int32)) (R_cells : (Nat → Int32)) (X_vector : (Nat → Int32)) (X_solution : (Nat → Int32)) (M_thrown : Int32) (M_n : Int32) (M_hasFactors : Int32) (M_hasSolution : Int32) (M_levels : Int32) (M_a : (Nat → Int32)) (M_rowAt : (Nat → Int32)) (M_places : (Nat → Int32)) (M_rights : (Nat → Int32)) (M_weights : (Nat → Int32)) (M_pivots : (Nat → Int32)) (M_lower : (Nat → Int32)) (M_solution : (Nat → Int32)) (M_work : (Nat → Int32)) (M_isJoined : (Nat → Int32)) (M_stored : (Nat → Int32)) (O_out : (Nat → Int64)), Rel X_solved X_levelCount P_rows P_entries P_order P_places P_rights P_weights L0_rows L0_entries L0_order L0_places L0_rights L0_weights L1_rows L1_entries L1_order L1_places L1_rights L1_weights L2_rows L2_entries L2_order L2_places L2_rights L2_weights L3_rows L3_entries L3_order L3_places L3_rights L3_weights L4_rows L4_entries L4_order L4_places L4_rights L4_weights L5_rows L5_entries L5_order L5_places L5_rights L5_weights E_joined E_later E_paths F_known F_rows F_pivots F_reciprocals F_below R_cells X_vector X_solution M_thrown M_n M_hasFactors M_hasSolution M_levels M_a M_rowAt M_places M_rights M_weights M_pivots M_lower M_solution M_work M_isJoined M_stored O_out → G (nI (4 * i) + 4) X_solved X_levelCount P_rows P_entries P_order P_places P_rights P_weights L0_rows L0_entries L0_order L0_places L0_rights L0_weights L1_rows L1_entries L1_order L1_places L1_rights L1_weights L2_rows L2_entries L2_order L2_places L2_rights L2_weights L3_rows L3_entries L3_order L3_places L3_rights L3_weights L4_rows L4_entries L4_order L4_places L4_rights L4_weights L5_rows L5_entries L5_order L5_places L5_rights L5_weights E_joined E_later E_paths F_known F_rows F_pivots F_reciprocals F_below R_cells X_vector X_solution M_thrown M_n M_hasFactors M_hasSolution M_levels M_a M_rowAt M_places M_rights M_weights M_pivots M_lower M_solution M_work M_isJoined M_stored O_out) : vc_law_4 L xs (nI (4 * i)) X_solved X_levelCount P_rows P_entries P_order P_places P_rights P_weights L0_rows L0_entries L0_order L0_places L0_rights L0_weights L1_rows L1_entries L1_order L1_places L1_rights L1_weights L2_rows L2_entries L2_order L2_places L2_rights L2_weights L3_rows L3_entries L3_order L3_places L3_rights L3_weights L4_rows L4_entries L4_order L4_places L4_rights L4_weights L5_rows L5_entries L5_order L5_places L5_rights L5_weights E_joined E_later E_paths F_known F_rows F_pivots F_reciprocals F_below R_cells X_vector X_solution M_thrown M_n M_hasFactors M_hasSolution M_levels M_a M_rowAt M_places M_rights M_weights M_pivots M_lower M_solution M_work M_isJoined M_stored O_out G := by
  obtain ⟨n, A, σ, τ, ri, we, fk, fs, ℓ, hW, hC, hM, hF, hS, hV⟩ := id hR
  have hg : ∀ t, G (nI (4 * i) + 4) X_solved X_levelCount P_rows P_entries P_order P_places P_rights P_weights L0_rows L0_entries L0_order L0_places L0_rights L0_weights L1_rows L1_entries L1_order L1_places L1_rights L1_weights L2_rows L2_entries L2_order L2_places L2_rights L2_weights L3_rows L3_entries L3_order L3_places L3_rights L3_weights L4_rows L4_entries L4_order L4_places L4_rights L4_weights L5_rows L5_entries L5_order L5_places L5_rights L5_weights E_joined E_later E_paths F_known F_rows F_pivots F_reciprocals F_below R_cells X_vector X_solution t M_n M_hasFactors M_hasSolution M_levels M_a M_rowAt M_places M_rights M_weights M_pivots M_lower M_solution M_work M_isJoined M_stored O_out := fun t => hG X_solved X_levelCount P_rows P_entries P_order P_places P_rights P_weights L0_rows L0_entries L0_order L0_places L0_rights L0_weights L1_rows L1_entries L1_order L1_places L1_rights L1_weights L2_rows L2_entries L2_order L2_places L2_rights L2_weights L3_rows L3_entries L3_order L3_places L3_rights L3_weights L4_rows L4_entries L4_order L4_places L4_rights L4_weights L5_rows L5_entries L5_order L5_places L5_rights L5_weights E_joined E_later E_paths F_known F_rows F_pivots F_reciprocals F_below R_cells X_vector X_solution t M_n M_hasFactors M_hasSolution M_levels M_a M_rowAt M_places M_rights M_weights M_pivots M_lower M_solution M_work M_isJoined M_stored O_out ⟨n, A, σ, τ, ri, we, fk, fs, ℓ, hW, hC, hM, hF, hS, hV⟩
  have hn := hW.2.1
  have c1 := hC.1
  have m1 := hM.1
  subst c1 m1
  refine sp_countLinks hW hC ?_
  refine sp_links5 hW hM ?_
  exact tl_p rfl (hg _)
