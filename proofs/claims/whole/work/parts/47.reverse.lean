/-! PURE: reverse -/
def rvS (n : Nat) (σ : Nat → Nat) : Nat → Nat → Nat
  | 0 => σ
  | p + 1 => fun k => rvS n σ p (swp p (n - 1 - p) k)
def rvT (n : Nat) (τ : Nat → Nat) : Nat → Nat → Nat
  | 0 => τ
  | p + 1 => fun r => swp p (n - 1 - p) (rvT n τ p r)
theorem WF_rv {n : Nat} {A : Nat → Nat → Nat} {σ τ ri we : Nat → Nat} (hW : WF n A σ τ ri we) : ∀ p, p ≤ n → WF n A (rvS n σ p) (rvT n τ p) ri we
  | 0, _ => hW
  | p + 1, h => WF_swp (WF_rv hW p (by omega)) (show p < n by omega) (show n - 1 - p < n by omega)
theorem sp_turn {n : Nat} {A : Nat → Nat → Nat} {σ τ ri we : Nat → Nat} (hW : WF n A σ τ ri we) {po pp : Nat → Int32} (hc : ∀ k, k < n → po k = nI (σ k) ∧ pp k = nI (τ k)) {Q : (Nat → Int32) → (Nat → Int32) → Prop} (h : ∀ po pp : Nat → Int32, (∀ k, k < n → po k = nI (rvS n σ (n / 2) k) ∧ pp k = nI (rvT n τ (n / 2) k)) → Q po pp) : wp_X2_turnRound (nI n) po pp Q := by
  have hn := hW.2.1
  have h1n := hW.1
  have e2 : nI n / 2 = nI (n / 2) := pk_div (by omega) (by decide) (by decide)
  intro G1 g1
  suffices k1 : ∀ p, p ≤ n / 2 → ∀ po pp : Nat → Int32, (∀ k, k < n → po k = nI (rvS n σ p k) ∧ pp k = nI (rvT n τ p k)) → G1 (nI p) po pp from k1 0 (by omega) po pp hc
  refine pu_down (n / 2) ?_ ?_
  · intro po pp hI
    refine g1 _ _ _ ⟨fun _ => h _ _ hI, fun c => absurd ?_ c⟩
    rw [e2]; exact nI_le (Nat.le_refl _) (by omega)
  · intro p hp ih po pp hI
    refine g1 _ _ _ ⟨fun c => absurd c ?_, fun _ => ?_⟩
    · rw [e2]; exact nI_ge hp (by omega)
    · have e3 : nI n - 1 - nI p = nI (n - 1 - p) := by rw [show (1 : Int32) = nI 1 from rfl, pk_sub h1n, pk_sub (by omega)]
      rw [e3]
      refine sp_xchg (WF_rv hW p (by omega)) hI (by omega) (by omega) (fun po pp hI2 x hx => ?_)
      rw [hx, nI_1]
      exact ih _ _ hI2
theorem pure_8 {L : Nat} {xs : Nat → Int32} {i : Nat} (hL : L ≤ 2048) (hi : 4 * i + 4 ≤ L) {X_solved : Int32} {X_levelCount : Int32} {P_rows : Int32} {P_entries : (Nat → Int32)} {P_order : (Nat → Int32)} {P_places : (Nat → Int32)} {P_rights : (Nat → Int32)} {P_weights : (Nat → Int32)} {L0_rows : Int32} {L0_entries : (Nat → Int32)} {L0_order : (Nat → Int32)} {L0_places : (Nat → Int32)} {L0_rights : (Nat → Int32)} {L0_weights : (Nat → Int32)} {L1_rows : Int32} {L1_entries : (Nat → Int32)} {L1_order : (Nat → Int32)} {L1_places : (Nat → Int32)} {L1_rights : (Nat → Int32)} {L1_weights : (Nat → Int32)} {L2_rows : Int32} {L2_entries : (Nat → Int32)} {L2_order : (Nat → Int32)} {L2_places : (Nat → Int32)} {L2_rights : (Nat → Int32)} {L2_weights : (Nat → Int32)} {L3_rows : Int32} {L3_entries : (Nat → Int32)} {L3_order : (Nat → Int32)} {L3_places : (Nat → Int32)} {L3_rights : (Nat → Int32)} {L3_weights : (Nat → Int32)} {L4_rows : Int32} {L4_entries : (Nat → Int32)} {L4_order : (Nat → Int32)} {L4_places : (Nat → Int32)} {L4_rights : (Nat → Int32)} {L4_weights : (Nat → Int32)} {L5_rows : Int32} {L5_entries : (Nat → Int32)} {L5_order : (Nat → Int32)} {L5_places : (Nat → Int32)} {L5_rights : (Nat → Int32)} {L5_weights : (Nat → Int32)} {E_joined : (Nat → Int32)} {E_later : (Nat → Int32)} {E_paths : (Nat → Int32)} {F_known : Int32} {F_rows : Int32} {F_pivots : (Nat → Int32)} {F_reciprocals : (Nat → Int32)} {F_below : (Nat → Int32)} {R_cells : (Nat → Int32)} {X_vector : (Nat → Int32)} {X_solution : (Nat → Int32)} {M_thrown : Int32} {M_n : Int32} {M_hasFactors : Int32} {M_hasSolution : Int32} {M_levels : Int32} {M_a : (Nat → Int32)} {M_rowAt : (Nat → Int32)} {M_places : (Nat → Int32)} {M_rights : (Nat → Int32)} {M_weights : (Nat → Int32)} {M_pivots : (Nat → Int32)} {M_lower : (Nat → Int32)} {M_solution : (Nat → Int32)} {M_work : (Nat → Int32)} {M_isJoined : (Nat → Int32)} {M_stored : (Nat → Int32)} {O_out : (Nat → Int64)} (hR : Rel X_solved X_levelCount P_rows P_entries P_order P_places P_rights P_weights L0_rows L0_entries L0_order L0_places L0_rights L0_weights L1_rows L1_entries L1_order L1_places L1_rights L1_weights L2_rows L2_entries L2_order L2_places L2_rights L2_weights L3_rows L3_entries L3_order L3_places L3_rights L3_weights L4_rows L4_entries L4_order L4_places L4_rights L4_weights L5_rows L5_entries L5_order L5_places L5_rights L5_weights E_joined E_later E_paths F_known F_rows F_pivots F_reciprocals F_below R_cells X_vector X_solution M_thrown M_n M_hasFactors M_hasSolution M_levels M_a M_rowAt M_places M_rights M_weights M_pivots M_lower M_solution M_work M_isJoined M_stored O_out) {G : Int32 → Int32 → Int32 → Int32 → (Nat → Int32) → (Nat → Int32) → (Nat → Int32) → (Nat → Int32) → (Nat → Int32) → Int32 → (Nat → Int32) → (Nat → Int32) → (Nat → Int32) → (Nat → Int32) → (Nat → Int32) → Int32 → (Nat → Int32) → (Nat → Int32) → (Nat → Int32) → (Nat → Int32) → (Nat → Int32) → Int32 → (Nat → Int32) → (Nat → Int32) → (Nat → Int32) → (Nat → Int32) → (Nat → Int32) → Int32 → (Nat → Int32) → (Nat → Int32) → (Nat → Int32) → (Nat → Int32) → (Nat → Int32) → Int32 → (Nat → Int32) → (Nat → Int32) → (Nat → Int32) → (Nat → Int32) → (Nat → Int32) → Int32 → (Nat → Int32) → (Nat → Int32) → (Nat → Int32) → (Nat → Int32) → (Nat → Int32) → (Nat → Int32) → (Nat → Int32) → (Nat → Int32) → Int32 → Int32 → (Nat → Int32) → (Nat → Int32) → (Nat → Int32) → (Nat → Int32) → (Nat → Int32) → (Nat → Int32) → Int32 → Int32 → Int32 → Int32 → Int32 → (Nat → Int32) → (Nat → Int32) → (Nat → Int32) → (Nat → Int32) → (Nat → Int32) → (Nat → Int32) → (Nat → Int32) → (Nat → Int32) → (Nat → Int32) → (Nat → Int32) → (Nat → Int32) → (Nat → Int64) → Prop} (hG : ∀ (X_solved : Int32) (X_levelCount : Int32) (P_rows : Int32) (P_entries : (Nat → Int32)) (P_order : (Nat → Int32)) (P_places : (Nat → Int32)) (P_rights : (Nat → Int32)) (P_weights : (Nat → Int32)) (L0_rows : Int32) (L0_entries : (Nat → Int32)) (L0_order : (Nat → Int32)) (L0_places : (Nat → Int32)) (L0_rights : (Nat → Int32)) (L0_weights : (Nat → Int32)) (L1_rows : Int32) (L1_entries : (Nat → Int32)) (L1_order : (Nat → Int32)) (L1_places : (Nat → Int32)) (L1_rights : (Nat → Int32)) (L1_weights : (Nat → Int32)) (L2_rows : Int32) (L2_entries : (Nat → Int32)) (L2_order : (Nat → Int32)) (L2_places : (Nat → Int32)) (L2_rights : (Nat → Int32)) (L2_weights : (Nat → Int32)) (L3_rows : Int32) (L3_entries : (Nat → Int32)) (L3_order : (Nat → Int32)) (L3_places : (Nat → Int32)) (L3_rights : (Nat → Int32)) (L3_weights : (Nat → Int32)) (L4_rows : Int32) (L4_entries : (Nat → Int32)) (L4_order : (Nat → Int32)) (L4_places : (Nat → Int32)) (L4_rights : (Nat → Int32)) (L4_weights : (Nat → Int32)) (L5_rows : Int32) (L5_entries : (Nat → Int32)) (L5_order : (Nat → Int32)) (L5_places : (Nat → Int32)) (L5_rights : (Nat → Int32)) (L5_weights : (Nat → Int32)) (E_joined : (Nat → Int32)) (E_later : (Nat → Int32)) (E_paths : (Nat → Int32)) (F_known : Int32) (F_rows : Int32) (F_pivots : (Nat → Int32)) (F_reciprocals : (Nat → Int32)) (F_below : (Nat → Int32)) (R_cells : (Nat → Int32)) (X_vector : (Nat → Int32)) (X_solution : (Nat → Int32)) (M_thrown : Int32) (M_n : Int32) (M_hasFactors : Int32) (M_hasSolution : Int32) (M_levels : Int32) (M_a : (Nat → Int32)) (M_rowAt : (Nat → Int32)) (M_places : (Nat → Int32)) (M_rights : (Nat → Int32)) (M_weights : (Nat → Int32)) (M_pivots : (Nat → Int32)) (M_lower : (Nat → Int32)) (M_solution : (Nat → Int32)) (M_work : (Nat → Int32)) (M_isJoined : (Nat → Int32)) (M_stored : (Nat → Int32)) (O_out : (Nat → Int64)), Rel X_solved X_levelCount P_rows P_entries P_order P_places P_rights P_weights L0_rows L0_entries L0_order L0_places L0_rights L0_weights L1_rows L1_entries L1_order L1_places L1_rights L1_weights L2_rows L2_entries L2_order L2_places L2_rights L2_weights L3_rows L3_entries L3_order L3_places L3_rights L3_weights L4_rows L4_entries L4_order L4_places L4_rights L4_weights L5_rows L5_entries L5_order L5_places L5_rights L5_weights E_joined E_later E_paths F_known F_rows F_pivots F_reciprocals F_below R_cells X_vector X_solution M_thrown M_n M_hasFactors M_hasSolution M_levels M_a M_rowAt M_places M_rights M_weights M_pivots M_lower M_solution M_work M_isJoined M_stored O_out → G (nI (4 * i) + 4) X_solved X_levelCount P_rows P_entries P_order P_places P_rights P_weights L0_rows L0_entries L0_order L0_places L0_rights L0_weights L1_rows L1_entries L1_order L1_places L1_rights L1_weights L2_rows L2_entries L2_order L2_places L2_rights L2_weights L3_rows L3_entries L3_order L3_places L3_rights L3_weights L4_rows L4_entries L4_order L4_places L4_rights L4_weights L5_rows L5_entries L5_order L5_places L5_rights L5_weights E_joined E_later E_paths F_known F_rows F_pivots F_reciprocals F_below R_cells X_vector X_solution M_thrown M_n M_hasFactors M_hasSolution M_levels M_a M_rowAt M_places M_rights M_weights M_pivots M_lower M_solution M_work M_isJoined M_stored O_out) : vc_law_8 L xs (nI (4 * i)) X_solved X_levelCount P_rows P_entries P_order P_places P_rights P_weights L0_rows L0_entries L0_order L0_places L0_rights L0_weights L1_rows L1_entries L1_order L1_places L1_rights L1_weights L2_rows L2_entries L2_order L2_places L2_rights L2_weights L3_rows L3_entries L3_order L3_places L3_rights L3_weights L4_rows L4_entries L4_order L4_places L4_rights L4_weights L5_rows L5_entries L5_order L5_places L5_rights L5_weights E_joined E_later E_paths F_known F_rows F_pivots F_reciprocals F_below R_cells X_vector X_solution M_thrown M_n M_hasFactors M_hasSolution M_levels M_a M_rowAt M_places M_rights M_weights M_pivots M_lower M_solution M_work M_isJoined M_stored O_out G := by
  obtain ⟨n, A, σ, τ, ri, we, fk, fs, ℓ, hW, hC, hM, hF, hS, hV⟩ := id hR
  have hn := hW.2.1
  have h1n := hW.1
  have c1 := hC.1
  have m1 := hM.1
  subst c1 m1
  have hW2 := WF_rv hW (n / 2) (by omega)
  unfold vc_law_8 wp_X4_reverse wp_X1_forget
  refine sp_turn hW (fun k hk => ⟨(hC.2.2 k hk).1, (hC.2.2 k hk).2.1⟩) (fun po pp hc => ?_)
  have hC2 : CP n A (rvS n σ (n / 2)) (rvT n τ (n / 2)) ri we (nI n) P_entries po pp P_rights P_weights := ⟨rfl, hC.2.1, fun k hk => ⟨(hc k hk).1, (hc k hk).2, (hC.2.2 k hk).2.2⟩⟩
  refine sp_fill4 hW2 hC2 (fun ej el ep => ?_)
  intro G1 g1
  suffices k1 : ∀ p, p ≤ n / 2 → ∀ ro pl : Nat → Int32, (∀ k, k < 16 → ro k = nI (rvS n σ p k) ∧ pl k = nI (rvT n τ p k)) → G1 (nI p) 0 0 M_isJoined ro pl from k1 0 (by omega) _ _ hM.2.2.1
  refine pu_down (n / 2) ?_ ?_
  · intro ro pl hI
    have hM2 : MP n A (rvS n σ (n / 2)) (rvT n τ (n / 2)) ri we (nI n) M_a ro pl M_rights M_weights := ⟨rfl, hM.2.1, hI, hM.2.2.2⟩
    refine g1 _ _ _ _ _ _ ⟨fun _ => ?_, fun c => absurd ?_ c⟩
    · refine sp_fills5 hW2 hM2 (fun ij => ?_)
      have hg2 : G (nI (4 * i) + 4) X_solved X_levelCount (nI n) P_entries po pp P_rights P_weights L0_rows L0_entries L0_order L0_places L0_rights L0_weights L1_rows L1_entries L1_order L1_places L1_rights L1_weights L2_rows L2_entries L2_order L2_places L2_rights L2_weights L3_rows L3_entries L3_order L3_places L3_rights L3_weights L4_rows L4_entries L4_order L4_places L4_rights L4_weights L5_rows L5_entries L5_order L5_places L5_rights L5_weights ej el ep 0 F_rows F_pivots F_reciprocals F_below R_cells X_vector X_solution 0 (nI n) 0 M_hasSolution M_levels M_a ro pl M_rights M_weights M_pivots M_lower M_solution M_work ij M_stored O_out := hG _ _ _ _ _ _ _ _ _ _ _ _ _ _ _ _ _ _ _ _ _ _ _ _ _ _ _ _ _ _ _ _ _ _ _ _ _ _ _ _ _ _ _ _ _ _ _ _ _ _ _ _ _ _ _ _ _ _ _ _ _ _ _ _ _ _ _ _ _ _ _ _ ⟨n, A, _, _, ri, we, false, fs, ℓ, hW2, hC2, hM2, FA_no, hS, hV⟩
      exact tl_p rfl hg2
    · rw [show (1 : Int32) = nI 1 from rfl, pk_sub h1n, pk_sub (by omega)]
      exact nI_le (by omega) (by omega)
  · intro p hp ih ro pl hI
    refine g1 _ _ _ _ _ _ ⟨fun c => absurd c ?_, fun _ => ?_⟩
    · rw [show (1 : Int32) = nI 1 from rfl, pk_sub h1n, pk_sub (by omega)]
      exact nI_ge (by omega) (by omega)
    · have e3 : nI n - 1 - nI p = nI (n - 1 - p) := by rw [show (1 : Int32) = nI 1 from rfl, pk_sub h1n, pk_sub (by omega)]
      rw [e3]
      refine sp_mxchg (WF_rv hW p (by omega)) hI (by omega) (by omega) (fun ro pl hI2 x hx => ?_)
      rw [hx, nI_1]
      exact ih _ _ hI2
