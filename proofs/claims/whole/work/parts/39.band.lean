/-! PURE: profile and bandwidth -/
def mnB (A : Nat → Nat → Nat) (τ : Nat → Nat) (i : Nat) : Nat → Nat
  | 0 => τ i
  | j + 1 => if A i j ≠ 0 ∧ τ j < mnB A τ i j then τ j else mnB A τ i j
theorem mnB_le (A : Nat → Nat → Nat) (τ : Nat → Nat) (i : Nat) : ∀ j, mnB A τ i j ≤ τ i
  | 0 => Nat.le_refl _
  | j + 1 => by
    have := mnB_le A τ i j
    unfold mnB
    split <;> omega
theorem mnB_self (A : Nat → Nat → Nat) (τ : Nat → Nat) (i : Nat) : mnB A τ i (i + 1) = mnB A τ i i := by
  have := mnB_le A τ i i
  show (if A i i ≠ 0 ∧ τ i < mnB A τ i i then _ else _) = _
  rw [if_neg (by omega)]
def pfB (n : Nat) (A : Nat → Nat → Nat) (τ : Nat → Nat) : Nat → Nat
  | 0 => 0
  | i + 1 => pfB n A τ i + (τ i - mnB A τ i n)
def bwB (n : Nat) (A : Nat → Nat → Nat) (τ : Nat → Nat) : Nat → Nat
  | 0 => 0
  | i + 1 => if bwB n A τ i < τ i - mnB A τ i n then τ i - mnB A τ i n else bwB n A τ i
theorem bwB_le {n : Nat} {A : Nat → Nat → Nat} {τ : Nat → Nat} : ∀ i, (∀ k, k < i → τ k < 16) → bwB n A τ i ≤ 16
  | 0, _ => by unfold bwB; omega
  | i + 1, h => by
    have := bwB_le (n := n) (A := A) i (fun k hk => h k (by omega))
    have := h i (by omega)
    unfold bwB
    split <;> omega
theorem pn_ifl {a b : Nat} (ha : a < 2147483648) (hb : b < 2147483648) : (if nI a < nI b then nI b else nI a) = nI (if a < b then b else a) := by
  by_cases h : a < b
  · rw [if_pos (nI_lt h hb), if_pos h]
  · rw [if_neg (nI_nlt (by omega) ha), if_neg h]
theorem pn_ifm {a b : Nat} (ha : a < 2147483648) (hb : b < 2147483648) : (if nI a < nI b then nI a else nI b) = nI (if a < b then a else b) := by
  by_cases h : a < b
  · rw [if_pos (nI_lt h hb), if_pos h]
  · rw [if_neg (nI_nlt (by omega) ha), if_neg h]
theorem pn_ifs {c a b : Nat} (hc : c < 1000) (ha : a < 1000) (hb : b < 1000) : (if nI c < nI a - nI b then nI a - nI b else nI c) = nI (if c < a - b then a - b else c) := by
  have h1 : (nI a - nI b).toInt = (a : Int) - b := pk_sub_toInt (by omega) (by omega)
  have h2 : (nI c).toInt = (c : Int) := nI_toInt (by omega)
  by_cases h : c < a - b
  · rw [if_pos (by rw [Int32.lt_iff_toInt_lt, h1, h2]; omega), if_pos h, pk_sub (by omega)]
  · rw [if_neg (by rw [Int32.lt_iff_toInt_lt, h1, h2]; omega), if_neg h]
/-- isLinked, by the state -/
theorem sp_lk {n : Nat} {A : Nat → Nat → Nat} (hA : ∀ i j, A i j < 65521) (hn : n ≤ 16) {mt mn mh ms mv : Int32} {ma : Nat → Int32} (hm : ∀ i j, i < n → j < n → ma (16 * i + j) = nI (A i j)) {i j : Nat} (hi : i < n) (hj : j < n) {Q : Int32 → Prop} (h0 : i = j ∨ A i j = 0 → Q 0) (h1 : i ≠ j → A i j ≠ 0 → Q 1) : wp_X5_isLinked (nI i) (nI j) mt mn mh ms mv ma Q := by
  have ha := hA i j
  refine pk_eq i j (fun e => h0 (Or.inl e)) (fun e => ?_)
  rw [pn_at, pn_cl (by omega), hm i j hi hj]
  refine ⟨pn_in (by omega) (by decide), pk_eq (A i j) 0 (fun e2 => h0 (Or.inr e2)) (fun e2 => h1 e e2)⟩
theorem sp_reach {n : Nat} {A : Nat → Nat → Nat} {σ τ ri we : Nat → Nat} (hW : WF n A σ τ ri we) {pe po pp pr pw : Nat → Int32} (hC : CP n A σ τ ri we (nI n) pe po pp pr pw) {i : Nat} (hi : i < n) {Q : Int32 → Prop} (h : Q (nI (τ i - mnB A τ i n))) : wp_X2_reachBack (nI i) (nI n) pp pe Q := by
  have hn := hW.2.1
  have ht : ∀ k, k < n → τ k < 16 := fun k hk => (hW.2.2.2.2.1 k (by omega)).2.1
  have hti := ht i hi
  intro G1 g1
  have k1 : ∀ j, j ≤ n → G1 (nI j) (nI (mnB A τ i j)) := by
    refine pu_down n ?_ ?_
    · refine g1 _ _ ⟨fun _ => ⟨pn_in (by omega) (by decide), ?_⟩, fun c => absurd (nI_le (Nat.le_refl n) (by omega)) c⟩
      rw [pn_cl (by omega), (hC.2.2 i hi).2.1, pk_sub (mnB_le A τ i n)]
      exact h
    · intro j hj ih
      have hl := mnB_le A τ i j
      have htj := ht j hj
      have ha := hW.2.2.1 i j
      refine g1 _ _ ⟨fun c => absurd c (nI_ge hj (by omega)), fun _ => ?_⟩
      unfold wp_X2_entryAt
      rw [pn_cell, pn_cl (show 16 * i + j < 2147483648 by omega), hC.2.1 i j hi hj]
      refine ⟨pn_in (by omega) (by decide), pk_eq (A i j) 0 (fun e x hx => ?_) (fun e => ⟨pn_in (by omega) (by decide), fun x hx y hy => ?_⟩)⟩
      · rw [hx, nI_1]
        have : mnB A τ i (j + 1) = mnB A τ i j := if_neg (fun q => q.1 e)
        rw [← this]; exact ih
      · rw [hy, hx, nI_1, pn_cl (by omega), (hC.2.2 j hj).2.1, pn_ifm (by omega) (by omega)]
        have : mnB A τ i (j + 1) = if τ j < mnB A τ i j then τ j else mnB A τ i j := by
          show (if A i j ≠ 0 ∧ τ j < mnB A τ i j then _ else _) = _
          by_cases q : τ j < mnB A τ i j
          · rw [if_pos ⟨e, q⟩, if_pos q]
          · rw [if_neg (fun w => q w.2), if_neg q]
        rw [← this]; exact ih
  refine ⟨pn_in (by omega) (by decide), fun x hx => ?_⟩
  rw [hx, pn_cl (by omega), (hC.2.2 i hi).2.1]
  exact k1 0 (by omega)
theorem pure_12 {L : Nat} {xs : Nat → Int32} {i : Nat} (hL : L ≤ 2048) (hi : 4 * i + 4 ≤ L) {X_solved : Int32} {X_levelCount : Int32} {P_rows : Int32} {P_entries : (Nat → Int32)} {P_order : (Nat → Int32)} {P_places : (Nat → Int32)} {P_rights : (Nat → Int32)} {P_weights : (Nat → Int32)} {L0_rows : Int32} {L0_entries : (Nat → Int32)} {L0_order : (Nat → Int32)} {L0_places : (Nat → Int32)} {L0_rights : (Nat → Int32)} {L0_weights : (Nat → Int32)} {L1_rows : Int32} {L1_entries : (Nat → Int32)} {L1_order : (Nat → Int32)} {L1_places : (Nat → Int32)} {L1_rights : (Nat → Int32)} {L1_weights : (Nat → Int32)} {L2_rows : Int32} {L2_entries : (Nat → Int32)} {L2_order : (Nat → Int32)} {L2_places : (Nat → Int32)} {L2_rights : (Nat → Int32)} {L2_weights : (Nat → Int32)} {L3_rows : Int32} {L3_entries : (Nat → Int32)} {L3_order : (Nat → Int32)} {L3_places : (Nat → Int32)} {L3_rights : (Nat → Int32)} {L3_weights : (Nat → Int32)} {L4_rows : Int32} {L4_entries : (Nat → Int32)} {L4_order : (Nat → Int32)} {L4_places : (Nat → Int32)} {L4_rights : (Nat → Int32)} {L4_weights : (Nat → Int32)} {L5_rows : Int32} {L5_entries : (Nat → Int32)} {L5_order : (Nat → Int32)} {L5_places : (Nat → Int32)} {L5_rights : (Nat → Int32)} {L5_weights : (Nat → Int32)} {E_joined : (Nat → Int32)} {E_later : (Nat → Int32)} {E_paths : (Nat → Int32)} {F_known : Int32} {F_rows : Int32} {F_pivots : (Nat → Int32)} {F_reciprocals : (Nat → Int32)} {F_below : (Nat → Int32)} {R_cells : (Nat → Int32)} {X_vector : (Nat → Int32)} {X_solution : (Nat → Int32)} {M_thrown : Int32} {M_n : Int32} {M_hasFactors : Int32} {M_hasSolution : Int32} {M_levels : Int32} {M_a : (Nat → Int32)} {M_rowAt : (Nat → Int32)} {M_places : (Nat → Int32)} {M_rights : (Nat → Int32)} {M_weights : (Nat → Int32)} {M_pivots : (Nat → Int32)} {M_lower : (Nat → Int32)} {M_solution : (Nat → Int32)} {M_work : (Nat → Int32)} {M_isJoined : (Nat → Int32)} {M_stored : (Nat → Int32)} {O_out : (Nat → Int64)} (hR : Rel X_solved X_levelCount P_rows P_entries P_order P_places P_rights P_weights L0_rows L0_entries L0_order L0_places L0_rights L0_weights L1_rows L1_entries L1_order L1_places L1_rights L1_weights L2_rows L2_entries L2_order L2_places L2_rights L2_weights L3_rows L3_entries L3_order L3_places L3_rights L3_weights L4_rows L4_entries L4_order L4_places L4_rights L4_weights L5_rows L5_entries L5_order L5_places L5_rights L5_weights E_joined E_later E_paths F_known F_rows F_pivots F_reciprocals F_below R_cells X_vector X_solution M_thrown M_n M_hasFactors M_hasSolution M_levels M_a M_rowAt M_places M_rights M_weights M_pivots M_lower M_solution M_work M_isJoined M_stored O_out) {G : Int32 → Int32 → Int32 → Int32 → (Nat → Int32) → (Nat → Int32) → (Nat → Int32) → (Nat → Int32) → (Nat → Int32) → Int32 → (Nat → Int32) → (Nat → Int32) → (Nat → Int32) → (Nat → Int32) → (Nat → Int32) → Int32 → (Nat → Int32) → (Nat → Int32) → (Nat → Int32) → (Nat → Int32) → (Nat → Int32) → Int32 → (Nat → Int32) → (Nat → Int32) → (Nat → Int32) → (Nat → Int32) → (Nat → Int32) → Int32 → (Nat → Int32) → (Nat → Int32) → (Nat → Int32) → (Nat → Int32) → (Nat → Int32) → Int32 → (Nat → Int32) → (Nat → Int32) → (Nat → Int32) → (Nat → Int32) → (Nat → Int32) → Int32 → (Nat → Int32) → (Nat → Int32) → (Nat → Int32) → (Nat → Int32) → (Nat → Int32) → (Nat → Int32) → (Nat → Int32) → (Nat → Int32) → Int32 → Int32 → (Nat → Int32) → (Nat → Int32) → (Nat → Int32) → (Nat → Int32) → (Nat → Int32) → (Nat → Int32) → Int32 → Int32 → Int32 → Int32 → Int32 → (Nat → Int32) → (Nat → Int32) → (Nat → Int32) → (Nat → Int32) → (Nat → Int32) → (Nat → Int32) → (Nat → Int32) → (Nat → Int32) → (Nat → Int32) → (Nat → Int32) → (Nat → Int32) → (Nat → Int64) → Prop} (hG : ∀ (X_solved : Int32) (X_levelCount : Int32) (P_rows : Int32) (P_entries : (Nat → Int32)) (P_order : (Nat → Int32)) (P_places : (Nat → Int32)) (P_rights : (Nat → Int32)) (P_weights : (Nat → Int32)) (L0_rows : Int32) (L0_entries : (Nat → Int32)) (L0_order : (Nat → Int32)) (L0_places : (Nat → Int32)) (L0_rights : (Nat → Int32)) (L0_weights : (Nat → Int32)) (L1_rows : Int32) (L1_entries : (Nat → Int32)) (L1_order : (Nat → Int32)) (L1_places : (Nat → Int32)) (L1_rights : (Nat → Int32)) (L1_weights : (Nat → Int32)) (L2_rows : Int32) (L2_entries : (Nat → Int32)) (L2_order : (Nat → Int32)) (L2_places : (Nat → Int32)) (L2_rights : (Nat → Int32)) (L2_weights : (Nat → Int32)) (L3_rows : Int32) (L3_entries : (Nat → Int32)) (L3_order : (Nat → Int32)) (L3_places : (Nat → Int32)) (L3_rights : (Nat → Int32)) (L3_weights : (Nat → Int32)) (L4_rows : Int32) (L4_entries : (Nat → Int32)) (L4_order : (Nat → Int32)) (L4_places : (Nat → Int32)) (L4_rights : (Nat → Int32)) (L4_weights : (Nat → Int32)) (L5_rows : Int32) (L5_entries : (Nat → Int32)) (L5_order : (Nat → Int32)) (L5_places : (Nat → Int32)) (L5_rights : (Nat → Int32)) (L5_weights : (Nat → Int32)) (E_joined : (Nat → Int32)) (E_later : (Nat → Int32)) (E_paths : (Nat → Int32)) (F_known : Int32) (F_rows : Int32) (F_pivots : (Nat → Int32)) (F_reciprocals : (Nat → Int32)) (F_below : (Nat → Int32)) (R_cells : (Nat → Int32)) (X_vector : (Nat → Int32)) (X_solution : (Nat → Int32)) (M_thrown : Int32) (M_n : Int32) (M_hasFactors : Int32) (M_hasSolution : Int32) (M_levels : Int32) (M_a : (Nat → Int32)) (M_rowAt : (Nat → Int32)) (M_places : (Nat → Int32)) (M_rights : (Nat → Int32)) (M_weights : (Nat → Int32)) (M_pivots : (Nat → Int32)) (M_lower : (Nat → Int32)) (M_solution : (Nat → Int32)) (M_work : (Nat → Int32)) (M_isJoined : (Nat → Int32)) (M_stored : (Nat → Int32)) (O_out : (Nat → Int64)), Rel X_solved X_levelCount P_rows P_entries P_order P_places P_rights P_weights L0_rows L0_entries L0_order L0_places L0_rights L0_weights L1_rows L1_entries L1_order L1_places L1_rights L1_weights L2_rows L2_entries L2_order L2_places L2_rights L2_weights L3_rows L3_entries L3_order L3_places L3_rights L3_weights L4_rows L4_entries L4_order L4_places L4_rights L4_weights L5_rows L5_entries L5_order L5_places L5_rights L5_weights E_joined E_later E_paths F_known F_rows F_pivots F_reciprocals F_below R_cells X_vector X_solution M_thrown M_n M_hasFactors M_hasSolution M_levels M_a M_rowAt M_places M_rights M_weights M_pivots M_lower M_solution M_work M_isJoined M_stored O_out → G (nI (4 * i) + 4) X_solved X_levelCount P_rows P_entries P_order P_places P_rights P_weights L0_rows L0_entries L0_order L0_places L0_rights L0_weights L1_rows L1_entries L1_order L1_places L1_rights L1_weights L2_rows L2_entries L2_order L2_places L2_rights L2_weights L3_rows L3_entries L3_order L3_places L3_rights L3_weights L4_rows L4_entries L4_order L4_places L4_rights L4_weights L5_rows L5_entries L5_order L5_places L5_rights L5_weights E_joined E_later E_paths F_known F_rows F_pivots F_reciprocals F_below R_cells X_vector X_solution M_thrown M_n M_hasFactors M_hasSolution M_levels M_a M_rowAt M_places M_rights M_weights M_pivots M_lower M_solution M_work M_isJoined M_stored O_out) : vc_law_12 L xs (nI (4 * i)) X_solved X_levelCount P_rows P_entries P_order P_places P_rights P_weights L0_rows L0_entries L0_order L0_places L0_rights L0_weights L1_rows L1_entries L1_order L1_places L1_rights L1_weights L2_rows L2_entries L2_order L2_places L2_rights L2_weights L3_rows L3_entries L3_order L3_places L3_rights L3_weights L4_rows L4_entries L4_order L4_places L4_rights L4_weights L5_rows L5_entries L5_order L5_places L5_rights L5_weights E_joined E_later E_paths F_known F_rows F_pivots F_reciprocals F_below R_cells X_vector X_solution M_thrown M_n M_hasFactors M_hasSolution M_levels M_a M_rowAt M_places M_rights M_weights M_pivots M_lower M_solution M_work M_isJoined M_stored O_out G := by
  obtain ⟨n, A, σ, τ, ri, we, fk, fs, ℓ, hW, hC, hM, hF, hS, hV⟩ := id hR
  have hg : ∀ t, G (nI (4 * i) + 4) X_solved X_levelCount P_rows P_entries P_order P_places P_rights P_weights L0_rows L0_entries L0_order L0_places L0_rights L0_weights L1_rows L1_entries L1_order L1_places L1_rights L1_weights L2_rows L2_entries L2_order L2_places L2_rights L2_weights L3_rows L3_entries L3_order L3_places L3_rights L3_weights L4_rows L4_entries L4_order L4_places L4_rights L4_weights L5_rows L5_entries L5_order L5_places L5_rights L5_weights E_joined E_later E_paths F_known F_rows F_pivots F_reciprocals F_below R_cells X_vector X_solution t M_n M_hasFactors M_hasSolution M_levels M_a M_rowAt M_places M_rights M_weights M_pivots M_lower M_solution M_work M_isJoined M_stored O_out := fun t => hG X_solved X_levelCount P_rows P_entries P_order P_places P_rights P_weights L0_rows L0_entries L0_order L0_places L0_rights L0_weights L1_rows L1_entries L1_order L1_places L1_rights L1_weights L2_rows L2_entries L2_order L2_places L2_rights L2_weights L3_rows L3_entries L3_order L3_places L3_rights L3_weights L4_rows L4_entries L4_order L4_places L4_rights L4_weights L5_rows L5_entries L5_order L5_places L5_rights L5_weights E_joined E_later E_paths F_known F_rows F_pivots F_reciprocals F_below R_cells X_vector X_solution t M_n M_hasFactors M_hasSolution M_levels M_a M_rowAt M_places M_rights M_weights M_pivots M_lower M_solution M_work M_isJoined M_stored O_out ⟨n, A, σ, τ, ri, we, fk, fs, ℓ, hW, hC, hM, hF, hS, hV⟩
  have hn := hW.2.1
  have c1 := hC.1
  have m1 := hM.1
  subst c1 m1
  have ht : ∀ k, k < n → τ k < 16 := fun k hk => (hW.2.2.2.2.1 k (by omega)).2.1
  unfold vc_law_12
  intro G1 g1
  suffices k1 : ∀ i, i ≤ n → G1 (nI i) (nI (pfB n A τ i)) from k1 0 (by omega)
  refine pu_down n ?_ ?_
  · refine g1 _ _ ⟨fun _ => ?_, fun c => absurd (nI_le (Nat.le_refl n) (by omega)) c⟩
    intro H1 H2 h1 h2
    suffices k1 : ∀ i, i ≤ n → H1 (nI i) (nI (pfB n A τ i)) 0 from k1 0 (by omega)
    refine pu_down n ?_ ?_
    · refine h1 _ _ _ ⟨fun _ => ?_, fun c => absurd (nI_le (Nat.le_refl n) (by omega)) c⟩
      exact tl_p rfl (hg _)
    · intro i hi ih
      have hti := ht i hi
      refine h1 _ _ _ ⟨fun c => absurd c (nI_ge hi (by omega)), fun _ => ⟨pn_in (by omega) (by decide), fun x hx => ?_⟩⟩
      rw [hx, pn_cl (by omega), (hM.2.2.1 i (by omega)).2]
      suffices k2 : ∀ j, j ≤ n → H2 (nI j) (nI (mnB A τ i j)) (nI i) (nI (pfB n A τ i)) 0 from k2 0 (by omega)
      refine pu_down n ?_ ?_
      · refine h2 _ _ _ _ _ ⟨fun _ => ⟨pn_in (by omega) (by decide), fun x hx y hy => ?_⟩, fun c => absurd (nI_le (Nat.le_refl n) (by omega)) c⟩
        rw [hy, hx, nI_1, pn_cl (by omega), (hM.2.2.1 i (by omega)).2, pk_sub (mnB_le A τ i n), nI_add]
        exact ih
      · intro j hj ih2
        have hl := mnB_le A τ i j
        have htj := ht j hj
        refine h2 _ _ _ _ _ ⟨fun c => absurd c (nI_ge hj (by omega)), fun _ => ?_⟩
        refine sp_lk hW.2.2.1 hn hM.2.1 hi hj (fun e => ⟨fun _ x hx => ?_, fun c => absurd rfl c⟩) (fun e1 e2 => ⟨fun c => absurd c (by decide), fun _ => ⟨pn_in (by omega) (by decide), fun x hx y hy => ?_⟩⟩)
        · rw [hx, nI_1]
          have : mnB A τ i (j + 1) = mnB A τ i j := by
            rcases e with e | e
            · subst e; exact mnB_self A τ i
            · exact if_neg (fun q => q.1 e)
          rw [← this]; exact ih2
        · rw [hy, hx, nI_1, pn_cl (by omega), (hM.2.2.1 j (by omega)).2, pn_ifm (by omega) (by omega)]
          have : mnB A τ i (j + 1) = if τ j < mnB A τ i j then τ j else mnB A τ i j := by
            show (if A i j ≠ 0 ∧ τ j < mnB A τ i j then _ else _) = _
            by_cases q : τ j < mnB A τ i j
            · rw [if_pos ⟨e2, q⟩, if_pos q]
            · rw [if_neg (fun w => q w.2), if_neg q]
          rw [← this]; exact ih2
  · intro i hi ih
    refine g1 _ _ ⟨fun c => absurd c (nI_ge hi (by omega)), fun _ => ?_⟩
    refine sp_reach hW hC hi (fun x hx y hy => ?_)
    rw [hy, hx, nI_1, nI_add]
    exact ih
theorem pure_11 {L : Nat} {xs : Nat → Int32} {i : Nat} (hL : L ≤ 2048) (hi : 4 * i + 4 ≤ L) {X_solved : Int32} {X_levelCount : Int32} {P_rows : Int32} {P_entries : (Nat → Int32)} {P_order : (Nat → Int32)} {P_places : (Nat → Int32)} {P_rights : (Nat → Int32)} {P_weights : (Nat → Int32)} {L0_rows : Int32} {L0_entries : (Nat → Int32)} {L0_order : (Nat → Int32)} {L0_places : (Nat → Int32)} {L0_rights : (Nat → Int32)} {L0_weights : (Nat → Int32)} {L1_rows : Int32} {L1_entries : (Nat → Int32)} {L1_order : (Nat → Int32)} {L1_places : (Nat → Int32)} {L1_rights : (Nat → Int32)} {L1_weights : (Nat → Int32)} {L2_rows : Int32} {L2_entries : (Nat → Int32)} {L2_order : (Nat → Int32)} {L2_places : (Nat → Int32)} {L2_rights : (Nat → Int32)} {L2_weights : (Nat → Int32)} {L3_rows : Int32} {L3_entries : (Nat → Int32)} {L3_order : (Nat → Int32)} {L3_places : (Nat → Int32)} {L3_rights : (Nat → Int32)} {L3_weights : (Nat → Int32)} {L4_rows : Int32} {L4_entries : (Nat → Int32)} {L4_order : (Nat → Int32)} {L4_places : (Nat → Int32)} {L4_rights : (Nat → Int32)} {L4_weights : (Nat → Int32)} {L5_rows : Int32} {L5_entries : (Nat → Int32)} {L5_order : (Nat → Int32)} {L5_places : (Nat → Int32)} {L5_rights : (Nat → Int32)} {L5_weights : (Nat → Int32)} {E_joined : (Nat → Int32)} {E_later : (Nat → Int32)} {E_paths : (Nat → Int32)} {F_known : Int32} {F_rows : Int32} {F_pivots : (Nat → Int32)} {F_reciprocals : (Nat → Int32)} {F_below : (Nat → Int32)} {R_cells : (Nat → Int32)} {X_vector : (Nat → Int32)} {X_solution : (Nat → Int32)} {M_thrown : Int32} {M_n : Int32} {M_hasFactors : Int32} {M_hasSolution : Int32} {M_levels : Int32} {M_a : (Nat → Int32)} {M_rowAt : (Nat → Int32)} {M_places : (Nat → Int32)} {M_rights : (Nat → Int32)} {M_weights : (Nat → Int32)} {M_pivots : (Nat → Int32)} {M_lower : (Nat → Int32)} {M_solution : (Nat → Int32)} {M_work : (Nat → Int32)} {M_isJoined : (Nat → Int32)} {M_stored : (Nat → Int32)} {O_out : (Nat → Int64)} (hR : Rel X_solved X_levelCount P_rows P_entries P_order P_places P_rights P_weights L0_rows L0_entries L0_order L0_places L0_rights L0_weights L1_rows L1_entries L1_order L1_places L1_rights L1_weights L2_rows L2_entries L2_order L2_places L2_rights L2_weights L3_rows L3_entries L3_order L3_places L3_rights L3_weights L4_rows L4_entries L4_order L4_places L4_rights L4_weights L5_rows L5_entries L5_order L5_places L5_rights L5_weights E_joined E_later E_paths F_known F_rows F_pivots F_reciprocals F_below R_cells X_vector X_solution M_thrown M_n M_hasFactors M_hasSolution M_levels M_a M_rowAt M_places M_rights M_weights M_pivots M_lower M_solution M_work M_isJoined M_stored O_out) {G : Int32 → Int32 → Int32 → Int32 → (Nat → Int32) → (Nat → Int32) → (Nat → Int32) → (Nat → Int32) → (Nat → Int32) → Int32 → (Nat → Int32) → (Nat → Int32) → (Nat → Int32) → (Nat → Int32) → (Nat → Int32) → Int32 → (Nat → Int32) → (Nat → Int32) → (Nat → Int32) → (Nat → Int32) → (Nat → Int32) → Int32 → (Nat → Int32) → (Nat → Int32) → (Nat → Int32) → (Nat → Int32) → (Nat → Int32) → Int32 → (Nat → Int32) → (Nat → Int32) → (Nat → Int32) → (Nat → Int32) → (Nat → Int32) → Int32 → (Nat → Int32) → (Nat → Int32) → (Nat → Int32) → (Nat → Int32) → (Nat → Int32) → Int32 → (Nat → Int32) → (Nat → Int32) → (Nat → Int32) → (Nat → Int32) → (Nat → Int32) → (Nat → Int32) → (Nat → Int32) → (Nat → Int32) → Int32 → Int32 → (Nat → Int32) → (Nat → Int32) → (Nat → Int32) → (Nat → Int32) → (Nat → Int32) → (Nat → Int32) → Int32 → Int32 → Int32 → Int32 → Int32 → (Nat → Int32) → (Nat → Int32) → (Nat → Int32) → (Nat → Int32) → (Nat → Int32) → (Nat → Int32) → (Nat → Int32) → (Nat → Int32) → (Nat → Int32) → (Nat → Int32) → (Nat → Int32) → (Nat → Int64) → Prop} (hG : ∀ (X_solved : Int32) (X_levelCount : Int32) (P_rows : Int32) (P_entries : (Nat → Int32)) (P_order : (Nat → Int32)) (P_places : (Nat → Int32)) (P_rights : (Nat → Int32)) (P_weights : (Nat → Int32)) (L0_rows : Int32) (L0_entries : (Nat → Int32)) (L0_order : (Nat → Int32)) (L0_places : (Nat → Int32)) (L0_rights : (Nat → Int32)) (L0_weights : (Nat → Int32)) (L1_rows : Int32) (L1_entries : (Nat → Int32)) (L1_order : (Nat → Int32)) (L1_places : (Nat → Int32)) (L1_rights : (Nat → Int32)) (L1_weights : (Nat → Int32)) (L2_rows : Int32) (L2_entries : (Nat → Int32)) (L2_order : (Nat → Int32)) (L2_places : (Nat → Int32)) (L2_rights : (Nat → Int32)) (L2_weights : (Nat → Int32)) (L3_rows : Int32) (L3_entries : (Nat → Int32)) (L3_order : (Nat → Int32)) (L3_places : (Nat → Int32)) (L3_rights : (Nat → Int32)) (L3_weights : (Nat → Int32)) (L4_rows : Int32) (L4_entries : (Nat → Int32)) (L4_order : (Nat → Int32)) (L4_places : (Nat → Int32)) (L4_rights : (Nat → Int32)) (L4_weights : (Nat → Int32)) (L5_rows : Int32) (L5_entries : (Nat → Int32)) (L5_order : (Nat → Int32)) (L5_places : (Nat → Int32)) (L5_rights : (Nat → Int32)) (L5_weights : (Nat → Int32)) (E_joined : (Nat → Int32)) (E_later : (Nat → Int32)) (E_paths : (Nat → Int32)) (F_known : Int32) (F_rows : Int32) (F_pivots : (Nat → Int32)) (F_reciprocals : (Nat → Int32)) (F_below : (Nat → Int32)) (R_cells : (Nat → Int32)) (X_vector : (Nat → Int32)) (X_solution : (Nat → Int32)) (M_thrown : Int32) (M_n : Int32) (M_hasFactors : Int32) (M_hasSolution : Int32) (M_levels : Int32) (M_a : (Nat → Int32)) (M_rowAt : (Nat → Int32)) (M_places : (Nat → Int32)) (M_rights : (Nat → Int32)) (M_weights : (Nat → Int32)) (M_pivots : (Nat → Int32)) (M_lower : (Nat → Int32)) (M_solution : (Nat → Int32)) (M_work : (Nat → Int32)) (M_isJoined : (Nat → Int32)) (M_stored : (Nat → Int32)) (O_out : (Nat → Int64)), Rel X_solved X_levelCount P_rows P_entries P_order P_places P_rights P_weights L0_rows L0_entries L0_order L0_places L0_rights L0_weights L1_rows L1_entries L1_order L1_places L1_rights L1_weights L2_rows L2_entries L2_order L2_places L2_rights L2_weights L3_rows L3_entries L3_order L3_places L3_rights L3_weights L4_rows L4_entries L4_order L4_places L4_rights L4_weights L5_rows L5_entries L5_order L5_places L5_rights L5_weights E_joined E_later E_paths F_known F_rows F_pivots F_reciprocals F_below R_cells X_vector X_solution M_thrown M_n M_hasFactors M_hasSolution M_levels M_a M_rowAt M_places M_rights M_weights M_pivots M_lower M_solution M_work M_isJoined M_stored O_out → G (nI (4 * i) + 4) X_solved X_levelCount P_rows P_entries P_order P_places P_rights P_weights L0_rows L0_entries L0_order L0_places L0_rights L0_weights L1_rows L1_entries L1_order L1_places L1_rights L1_weights L2_rows L2_entries L2_order L2_places L2_rights L2_weights L3_rows L3_entries L3_order L3_places L3_rights L3_weights L4_rows L4_entries L4_order L4_places L4_rights L4_weights L5_rows L5_entries L5_order L5_places L5_rights L5_weights E_joined E_later E_paths F_known F_rows F_pivots F_reciprocals F_below R_cells X_vector X_solution M_thrown M_n M_hasFactors M_hasSolution M_levels M_a M_rowAt M_places M_rights M_weights M_pivots M_lower M_solution M_work M_isJoined M_stored O_out) : vc_law_11 L xs (nI (4 * i)) X_solved X_levelCount P_rows P_entries P_order P_places P_rights P_weights L0_rows L0_entries L0_order L0_places L0_rights L0_weights L1_rows L1_entries L1_order L1_places L1_rights L1_weights L2_rows L2_entries L2_order L2_places L2_rights L2_weights L3_rows L3_entries L3_order L3_places L3_rights L3_weights L4_rows L4_entries L4_order L4_places L4_rights L4_weights L5_rows L5_entries L5_order L5_places L5_rights L5_weights E_joined E_later E_paths F_known F_rows F_pivots F_reciprocals F_below R_cells X_vector X_solution M_thrown M_n M_hasFactors M_hasSolution M_levels M_a M_rowAt M_places M_rights M_weights M_pivots M_lower M_solution M_work M_isJoined M_stored O_out G := by
  obtain ⟨n, A, σ, τ, ri, we, fk, fs, ℓ, hW, hC, hM, hF, hS, hV⟩ := id hR
  have hg : ∀ t, G (nI (4 * i) + 4) X_solved X_levelCount P_rows P_entries P_order P_places P_rights P_weights L0_rows L0_entries L0_order L0_places L0_rights L0_weights L1_rows L1_entries L1_order L1_places L1_rights L1_weights L2_rows L2_entries L2_order L2_places L2_rights L2_weights L3_rows L3_entries L3_order L3_places L3_rights L3_weights L4_rows L4_entries L4_order L4_places L4_rights L4_weights L5_rows L5_entries L5_order L5_places L5_rights L5_weights E_joined E_later E_paths F_known F_rows F_pivots F_reciprocals F_below R_cells X_vector X_solution t M_n M_hasFactors M_hasSolution M_levels M_a M_rowAt M_places M_rights M_weights M_pivots M_lower M_solution M_work M_isJoined M_stored O_out := fun t => hG X_solved X_levelCount P_rows P_entries P_order P_places P_rights P_weights L0_rows L0_entries L0_order L0_places L0_rights L0_weights L1_rows L1_entries L1_order L1_places L1_rights L1_weights L2_rows L2_entries L2_order L2_places L2_rights L2_weights L3_rows L3_entries L3_order L3_places L3_rights L3_weights L4_rows L4_entries L4_order L4_places L4_rights L4_weights L5_rows L5_entries L5_order L5_places L5_rights L5_weights E_joined E_later E_paths F_known F_rows F_pivots F_reciprocals F_below R_cells X_vector X_solution t M_n M_hasFactors M_hasSolution M_levels M_a M_rowAt M_places M_rights M_weights M_pivots M_lower M_solution M_work M_isJoined M_stored O_out ⟨n, A, σ, τ, ri, we, fk, fs, ℓ, hW, hC, hM, hF, hS, hV⟩
  have hn := hW.2.1
  have c1 := hC.1
  have m1 := hM.1
  subst c1 m1
  have ht : ∀ k, k < n → τ k < 16 := fun k hk => (hW.2.2.2.2.1 k (by omega)).2.1
  unfold vc_law_11
  intro G1 g1
  suffices k1 : ∀ i, i ≤ n → G1 (nI i) (nI (bwB n A τ i)) from k1 0 (by omega)
  refine pu_down n ?_ ?_
  · refine g1 _ _ ⟨fun _ => ?_, fun c => absurd (nI_le (Nat.le_refl n) (by omega)) c⟩
    intro H1 H2 h1 h2
    suffices k1 : ∀ i, i ≤ n → H1 (nI i) (nI (bwB n A τ i)) 0 from k1 0 (by omega)
    refine pu_down n ?_ ?_
    · refine h1 _ _ _ ⟨fun _ => ?_, fun c => absurd (nI_le (Nat.le_refl n) (by omega)) c⟩
      exact tl_p rfl (hg _)
    · intro i hi ih
      have hti := ht i hi
      have hbi := bwB_le (n := n) (A := A) (τ := τ) i (fun k hk => ht k (by omega))
      refine h1 _ _ _ ⟨fun c => absurd c (nI_ge hi (by omega)), fun _ => ?_⟩
      have e0 : bwB n A τ i = if bwB n A τ i < τ i - mnB A τ i 0 then τ i - mnB A τ i 0 else bwB n A τ i := by
        have : mnB A τ i 0 = τ i := rfl
        rw [if_neg (by omega)]
      rw [e0]
      suffices k2 : ∀ j, j ≤ n → H2 (nI j) (nI i) (nI (if bwB n A τ i < τ i - mnB A τ i j then τ i - mnB A τ i j else bwB n A τ i)) 0 from k2 0 (by omega)
      refine pu_down n ?_ ?_
      · refine h2 _ _ _ _ ⟨fun _ x hx => ?_, fun c => absurd (nI_le (Nat.le_refl n) (by omega)) c⟩
        rw [hx, nI_1]
        exact ih
      · intro j hj ih2
        have hl := mnB_le A τ i j
        have htj := ht j hj
        refine h2 _ _ _ _ ⟨fun c => absurd c (nI_ge hj (by omega)), fun _ => ?_⟩
        refine sp_lk hW.2.2.1 hn hM.2.1 hi hj (fun e => ⟨fun _ x hx => ?_, fun c => absurd rfl c⟩) (fun e1 e2 => ⟨fun c => absurd c (by decide), fun _ => ⟨pn_in (by omega) (by decide), pn_in (by omega) (by decide), fun x hx y hy => ?_⟩⟩)
        · rw [hx, nI_1]
          have : mnB A τ i (j + 1) = mnB A τ i j := by
            rcases e with e | e
            · subst e; exact mnB_self A τ i
            · exact if_neg (fun q => q.1 e)
          rw [← this]; exact ih2
        · rw [hy, hx, nI_1, pn_cl (by omega), pn_cl (by omega), (hM.2.2.1 i (by omega)).2, (hM.2.2.1 j (by omega)).2, pn_ifs (by split <;> omega) (by omega) (by omega)]
          have : mnB A τ i (j + 1) = if τ j < mnB A τ i j then τ j else mnB A τ i j := by
            show (if A i j ≠ 0 ∧ τ j < mnB A τ i j then _ else _) = _
            by_cases q : τ j < mnB A τ i j
            · rw [if_pos ⟨e2, q⟩, if_pos q]
            · rw [if_neg (fun w => q w.2), if_neg q]
          rw [this] at ih2
          have e3 : (if (if bwB n A τ i < τ i - mnB A τ i j then τ i - mnB A τ i j else bwB n A τ i) < τ i - τ j then τ i - τ j else (if bwB n A τ i < τ i - mnB A τ i j then τ i - mnB A τ i j else bwB n A τ i)) = (if bwB n A τ i < τ i - (if τ j < mnB A τ i j then τ j else mnB A τ i j) then τ i - (if τ j < mnB A τ i j then τ j else mnB A τ i j) else bwB n A τ i) := by
            generalize bwB n A τ i = b at *
            generalize mnB A τ i j = m at *
            by_cases q1 : τ j < m
            · rw [if_pos q1]
              repeat' split
              all_goals omega
            · rw [if_neg q1]
              repeat' split
              all_goals omega
          rw [e3]; exact ih2
  · intro i hi ih
    have hti := ht i hi
    have hbi := bwB_le (n := n) (A := A) (τ := τ) i (fun k hk => ht k (by omega))
    refine g1 _ _ ⟨fun c => absurd c (nI_ge hi (by omega)), fun _ => ?_⟩
    refine sp_reach hW hC hi (fun x hx y hy => ?_)
    rw [hy, hx, nI_1, pn_ifl (by omega) (by omega)]
    exact ih
