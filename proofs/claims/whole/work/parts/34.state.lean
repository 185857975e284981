/-! PURE: setEntry, setSize, swap -/
def updA (A : Nat → Nat → Nat) (a b v : Nat) : Nat → Nat → Nat := fun i j => if (i = a ∧ j = b) ∨ (i = b ∧ j = a) then v else A i j
theorem updA_lt {A : Nat → Nat → Nat} (h : ∀ i j, A i j < 65521) {a b v : Nat} (hv : v < 65521) : ∀ i j, updA A a b v i j < 65521 := by
  intro i j
  unfold updA
  split
  · exact hv
  · exact h i j
theorem updA_sym {A : Nat → Nat → Nat} (h : ∀ i j, A i j = A j i) (a b v : Nat) : ∀ i j, updA A a b v i j = updA A a b v j i := by
  intro i j
  unfold updA
  by_cases c : (i = a ∧ j = b) ∨ (i = b ∧ j = a)
  · rw [if_pos c, if_pos (by omega)]
  · rw [if_neg c, if_neg (by omega), h]
theorem updA_ok {A : Nat → Nat → Nat} {e : Nat → Int32} {n a b v : Nat} (hn : n ≤ 16) (h : ∀ i j, i < n → j < n → e (16 * i + j) = nI (A i j)) (ha : a < n) (hb : b < n) : ∀ i j, i < n → j < n → upd (upd e (16 * a + b) (nI v)) (16 * b + a) (nI v) (16 * i + j) = nI (updA A a b v i j) := by
  intro i j hi hj
  rw [upd_at, upd_at]
  unfold updA
  by_cases c : (i = a ∧ j = b) ∨ (i = b ∧ j = a)
  · rw [if_pos c]
    by_cases c2 : 16 * i + j = 16 * b + a
    · rw [if_pos c2]
    · rw [if_neg c2, if_pos (by omega)]
  · rw [if_neg c, if_neg (by omega), if_neg (by omega)]
    exact h i j hi hj
theorem FA_no {n : Nat} {A : Nat → Nat → Nat} {σ : Nat → Nat} {Fr : Int32} {fp fr fb mp ml : Nat → Int32} : FA n A σ false 0 Fr fp fr fb 0 mp ml := ⟨rfl, rfl, fun c => absurd c (by decide)⟩
theorem pure_2 {L : Nat} {xs : Nat → Int32} {i : Nat} (hL : L ≤ 2048) (hi : 4 * i + 4 ≤ L) {X_solved : Int32} {X_levelCount : Int32} {P_rows : Int32} {P_entries : (Nat → Int32)} {P_order : (Nat → Int32)} {P_places : (Nat → Int32)} {P_rights : (Nat → Int32)} {P_weights : (Nat → Int32)} {L0_rows : Int32} {L0_entries : (Nat → Int32)} {L0_order : (Nat → Int32)} {L0_places : (Nat → Int32)} {L0_rights : (Nat → Int32)} {L0_weights : (Nat → Int32)} {L1_rows : Int32} {L1_entries : (Nat → Int32)} {L1_order : (Nat → Int32)} {L1_places : (Nat → Int32)} {L1_rights : (Nat → Int32)} {L1_weights : (Nat → Int32)} {L2_rows : Int32} {L2_entries : (Nat → Int32)} {L2_order : (Nat → Int32)} {L2_places : (Nat → Int32)} {L2_rights : (Nat → Int32)} {L2_weights : (Nat → Int32)} {L3_rows : Int32} {L3_entries : (Nat → Int32)} {L3_order : (Nat → Int32)} {L3_places : (Nat → Int32)} {L3_rights : (Nat → Int32)} {L3_weights : (Nat → Int32)} {L4_rows : Int32} {L4_entries : (Nat → Int32)} {L4_order : (Nat → Int32)} {L4_places : (Nat → Int32)} {L4_rights : (Nat → Int32)} {L4_weights : (Nat → Int32)} {L5_rows : Int32} {L5_entries : (Nat → Int32)} {L5_order : (Nat → Int32)} {L5_places : (Nat → Int32)} {L5_rights : (Nat → Int32)} {L5_weights : (Nat → Int32)} {E_joined : (Nat → Int32)} {E_later : (Nat → Int32)} {E_paths : (Nat → Int32)} {F_known : Int32} {F_rows : Int32} {F_pivots : (Nat → Int32)} {F_reciprocals : (Nat → Int32)} {F_below : (Nat → Int32)} {R_cells : (Nat → Int32)} {X_vector : (Nat → Int32)} {X_solution : (Nat → Int32)} {M_thrown : Int32} {M_n : Int32} {M_hasFactors : Int32} {M_hasSolution : Int32} {M_levels : Int32} {M_a : (Nat → Int32)} {M_rowAt : (Nat → Int32)} {M_places : (Nat → Int32)} {M_rights : (Nat → Int32)} {M_weights : (Nat → Int32)} {M_pivots : (Nat → Int32)} {M_lower : (Nat → Int32)} {M_solution : (Nat → Int32)} {M_work : (Nat → Int32)} {M_isJoined : (Nat → Int32)} {M_stored : (Nat → Int32)} {O_out : (Nat → Int64)} (hR : Rel X_solved X_levelCount P_rows P_entries P_order P_places P_rights P_weights L0_rows L0_entries L0_order L0_places L0_rights L0_weights L1_rows L1_entries L1_order L1_places L1_rights L1_weights L2_rows L2_entries L2_order L2_places L2_rights L2_weights L3_rows L3_entries L3_order L3_places L3_rights L3_weights L4_rows L4_entries L4_order L4_places L4_rights L4_weights L5_rows L5_entries L5_order L5_places L5_rights L5_weights E_joined E_later E_paths F_known F_rows F_pivots F_reciprocals F_below R_cells X_vector X_solution M_thrown M_n M_hasFactors M_hasSolution M_levels M_a M_rowAt M_places M_rights M_weights M_pivots M_lower M_solution M_work M_isJoined M_stored O_out) {G : Int32 → Int32 → Int32 → Int32 → (Nat → Int32) → (Nat → Int32) → (Nat → Int32) → (Nat → Int32) → (Nat → Int32) → Int32 → (Nat → Int32) → (Nat → Int32) → (Nat → Int32) → (Nat → Int32) → (Nat → Int32) → Int32 → (Nat → Int32) → (Nat → Int32) → (Nat → Int32) → (Nat → Int32) → (Nat → Int32) → Int32 → (Nat → Int32) → (Nat → Int32) → (Nat → Int32) → (Nat → Int32) → (Nat → Int32) → Int32 → (Nat → Int32) → (Nat → Int32) → (Nat → Int32) → (Nat → Int32) → (Nat → Int32) → Int32 → (Nat → Int32) → (Nat → Int32) → (Nat → Int32) → (Nat → Int32) → (Nat → Int32) → Int32 → (Nat → Int32) → (Nat → Int32) → (Nat → Int32) → (Nat → Int32) → (Nat → Int32) → (Nat → Int32) → (Nat → Int32) → (Nat → Int32) → Int32 → Int32 → (Nat → Int32) → (Nat → Int32) → (Nat → Int32) → (Nat → Int32) → (Nat → Int32) → (Nat → Int32) → Int32 → Int32 → Int32 → Int32 → Int32 → (Nat → Int32) → (Nat → Int32) → (Nat → Int32) → (Nat → Int32) → (Nat → Int32) → (Nat → Int32) → (Nat → Int32) → (Nat → Int32) → (Nat → Int32) → (Nat → Int32) → (Nat → Int32) → (Nat → Int64) → Prop} (hG : ∀ (X_solved : Int32) (X_levelCount : Int32) (P_rows : Int32) (P_entries : (Nat → Int32)) (P_order : (Nat → Int32)) (P_places : (Nat → Int32)) (P_rights : (Nat → Int32)) (P_weights : (Nat → Int32)) (L0_rows : Int32) (L0_entries : (Nat → Int32)) (L0_order : (Nat → Int32)) (L0_places : (Nat → Int32)) (L0_rights : (Nat → Int32)) (L0_weights : (Nat → Int32)) (L1_rows : Int32) (L1_entries : (Nat → Int32)) (L1_order : (Nat → Int32)) (L1_places : (Nat → Int32)) (L1_rights : (Nat → Int32)) (L1_weights : (Nat → Int32)) (L2_rows : Int32) (L2_entries : (Nat → Int32)) (L2_order : (Nat → Int32)) (L2_places : (Nat → Int32)) (L2_rights : (Nat → Int32)) (L2_weights : (Nat → Int32)) (L3_rows : Int32) (L3_entries : (Nat → Int32)) (L3_order : (Nat → Int32)) (L3_places : (Nat → Int32)) (L3_rights : (Nat → Int32)) (L3_weights : (Nat → Int32)) (L4_rows : Int32) (L4_entries : (Nat → Int32)) (L4_order : (Nat → Int32)) (L4_places : (Nat → Int32)) (L4_rights : (Nat → Int32)) (L4_weights : (Nat → Int32)) (L5_rows : Int32) (L5_entries : (Nat → Int32)) (L5_order : (Nat → Int32)) (L5_places : (Nat → Int32)) (L5_rights : (Nat → Int32)) (L5_weights : (Nat → Int32)) (E_joined : (Nat → Int32)) (E_later : (Nat → Int32)) (E_paths : (Nat → Int32)) (F_known : Int32) (F_rows : Int32) (F_pivots : (Nat → Int32)) (F_reciprocals : (Nat → Int32)) (F_below : (Nat → Int32)) (R_cells : (Nat → Int32)) (X_vector : (Nat → Int32)) (X_solution : (Nat → Int32)) (M_thrown : Int32) (M_n : Int32) (M_hasFactors : Int32) (M_hasSolution : Int32) (M_levels : Int32) (M_a : (Nat → Int32)) (M_rowAt : (Nat → Int32)) (M_places : (Nat → Int32)) (M_rights : (Nat → Int32)) (M_weights : (Nat → Int32)) (M_pivots : (Nat → Int32)) (M_lower : (Nat → Int32)) (M_solution : (Nat → Int32)) (M_work : (Nat → Int32)) (M_isJoined : (Nat → Int32)) (M_stored : (Nat → Int32)) (O_out : (Nat → Int64)), Rel X_solved X_levelCount P_rows P_entries P_order P_places P_rights P_weights L0_rows L0_entries L0_order L0_places L0_rights L0_weights L1_rows L1_entries L1_order L1_places L1_rights L1_weights L2_rows L2_entries L2_order L2_places L2_rights L2_weights L3_rows L3_entries L3_order L3_places L3_rights L3_weights L4_rows L4_entries L4_order L4_places L4_rights L4_weights L5_rows L5_entries L5_order L5_places L5_rights L5_weights E_joined E_later E_paths F_known F_rows F_pivots F_reciprocals F_below R_cells X_vector X_solution M_thrown M_n M_hasFactors M_hasSolution M_levels M_a M_rowAt M_places M_rights M_weights M_pivots M_lower M_solution M_work M_isJoined M_stored O_out → G (nI (4 * i) + 4) X_solved X_levelCount P_rows P_entries P_order P_places P_rights P_weights L0_rows L0_entries L0_order L0_places L0_rights L0_weights L1_rows L1_entries L1_order L1_places L1_rights L1_weights L2_rows L2_entries L2_order L2_places L2_rights L2_weights L3_rows L3_entries L3_order L3_places L3_rights L3_weights L4_rows L4_entries L4_order L4_places L4_rights L4_weights L5_rows L5_entries L5_order L5_places L5_rights L5_weights E_joined E_later E_paths F_known F_rows F_pivots F_reciprocals F_below R_cells X_vector X_solution M_thrown M_n M_hasFactors M_hasSolution M_levels M_a M_rowAt M_places M_rights M_weights M_pivots M_lower M_solution M_work M_isJoined M_stored O_out) : vc_law_2 L xs (nI (4 * i)) X_solved X_levelCount P_rows P_entries P_order P_places P_rights P_weights L0_rows L0_entries L0_order L0_places L0_rights L0_weights L1_rows L1_entries L1_order L1_places L1_rights L1_weights L2_rows L2_entries L2_order L2_places L2_rights L2_weights L3_rows L3_entries L3_order L3_places L3_rights L3_weights L4_rows L4_entries L4_order L4_places L4_rights L4_weights L5_rows L5_entries L5_order L5_places L5_rights L5_weights E_joined E_later E_paths F_known F_rows F_pivots F_reciprocals F_below R_cells X_vector X_solution M_thrown M_n M_hasFactors M_hasSolution M_levels M_a M_rowAt M_places M_rights M_weights M_pivots M_lower M_solution M_work M_isJoined M_stored O_out G := by
  obtain ⟨n, A, σ, τ, ri, we, fk, fs, ℓ, hW, hC, hM, hF, hS, hV⟩ := id hR
  have hg : ∀ t o, G (nI (4 * i) + 4) X_solved X_levelCount P_rows P_entries P_order P_places P_rights P_weights L0_rows L0_entries L0_order L0_places L0_rights L0_weights L1_rows L1_entries L1_order L1_places L1_rights L1_weights L2_rows L2_entries L2_order L2_places L2_rights L2_weights L3_rows L3_entries L3_order L3_places L3_rights L3_weights L4_rows L4_entries L4_order L4_places L4_rights L4_weights L5_rows L5_entries L5_order L5_places L5_rights L5_weights E_joined E_later E_paths F_known F_rows F_pivots F_reciprocals F_below R_cells X_vector X_solution t M_n M_hasFactors M_hasSolution M_levels M_a M_rowAt M_places M_rights M_weights M_pivots M_lower M_solution M_work M_isJoined M_stored o := fun t o => hG X_solved X_levelCount P_rows P_entries P_order P_places P_rights P_weights L0_rows L0_entries L0_order L0_places L0_rights L0_weights L1_rows L1_entries L1_order L1_places L1_rights L1_weights L2_rows L2_entries L2_order L2_places L2_rights L2_weights L3_rows L3_entries L3_order L3_places L3_rights L3_weights L4_rows L4_entries L4_order L4_places L4_rights L4_weights L5_rows L5_entries L5_order L5_places L5_rights L5_weights E_joined E_later E_paths F_known F_rows F_pivots F_reciprocals F_below R_cells X_vector X_solution t M_n M_hasFactors M_hasSolution M_levels M_a M_rowAt M_places M_rights M_weights M_pivots M_lower M_solution M_work M_isJoined M_stored o ⟨n, A, σ, τ, ri, we, fk, fs, ℓ, hW, hC, hM, hF, hS, hV⟩
  have hn := hW.2.1
  refine ⟨sc1 hL hi, sc2 hL hi, sc3 hL hi, ?_⟩
  generalize xs (Int32.toNatClampNeg (nI (4 * i) + 1)) = a
  generalize xs (Int32.toNatClampNeg (nI (4 * i) + 2)) = b
  generalize xs (Int32.toNatClampNeg (nI (4 * i) + 3)) = c
  have e1 := hC.1
  have e2 := hM.1
  subst e1
  subst e2
  unfold wp_L_setEntry wp_X4_setEntry wp_X5_setEntry wp_X2_entryAt wp_X2_putEntry wp_X1_forget wp_X5_no
  rcases px_ix a (n := n) (by omega) with ha | ⟨j, hj, rfl⟩
  · refine nr_no ha (Or.inl ⟨rfl, sc1 hL hi, sc2 hL hi, sc3 hL hi, ?_⟩)
    refine ir_no ha ⟨fun _ => ?_, fun c => absurd rfl c⟩
    exact tl_i rfl (fun c => absurd c (by decide)) (hg _ _)
  · refine nr_ok hj hn ?_
    rcases px_ix b (n := n) (by omega) with hb | ⟨k, hk, rfl⟩
    · refine nr_no hb (Or.inl ⟨rfl, sc1 hL hi, sc2 hL hi, sc3 hL hi, ?_⟩)
      refine ir_ok hj hn ⟨fun c => absurd c (by decide), fun _ => ?_⟩
      refine ir_no hb ⟨fun _ => ?_, fun c => absurd rfl c⟩
      exact tl_i rfl (fun c => absurd c (by decide)) (hg _ _)
    · refine nr_ok hk hn ?_
      rcases px_ix c (n := 65521) (by omega) with hc | ⟨v, hv, rfl⟩
      · refine ns_no hc (Or.inr ⟨rfl, sc1 hL hi, sc2 hL hi, sc3 hL hi, ?_⟩)
        refine ir_ok hj hn ⟨fun c => absurd c (by decide), fun _ => ?_⟩
        refine ir_ok hk hn ⟨fun c => absurd c (by decide), fun _ => ⟨fun _ => ?_, fun c => absurd (rs_no hc) c⟩⟩
        exact tl_i rfl (fun c => absurd c (by decide)) (hg _ _)
      · have h1 : 16 * j + k < 256 := by omega
        have h2 : 16 * k + j < 256 := by omega
        rw [pn_cell j k, pn_at j k, pn_cl (show 16 * j + k < 2147483648 by omega)]
        try rw [pn_cell k j]
        try rw [pn_at k j]
        try rw [pn_cl (show 16 * k + j < 2147483648 by omega)]
        refine ns_ok hv ⟨pn_in h1 (by decide), pn_in h1 (by decide), pn_in h2 (by decide), sc1 hL hi, sc2 hL hi, sc3 hL hi, ?_⟩
        refine ir_ok hj hn ⟨fun c => absurd c (by decide), fun _ => ?_⟩
        refine ir_ok hk hn ⟨fun c => absurd c (by decide), fun _ => ⟨fun c => absurd c (by rw [rs_ok hv]; decide), fun _ => ⟨pn_in h1 (by decide), fun y hy => ⟨pn_in h1 (by decide), pn_in h2 (by decide), ?_⟩⟩⟩⟩
        have hg2 : ∀ o, G (nI (4 * i) + 4) X_solved X_levelCount (nI n) (upd (upd P_entries (16 * j + k) (nI v)) (16 * k + j) (nI v)) P_order P_places P_rights P_weights L0_rows L0_entries L0_order L0_places L0_rights L0_weights L1_rows L1_entries L1_order L1_places L1_rights L1_weights L2_rows L2_entries L2_order L2_places L2_rights L2_weights L3_rows L3_entries L3_order L3_places L3_rights L3_weights L4_rows L4_entries L4_order L4_places L4_rights L4_weights L5_rows L5_entries L5_order L5_places L5_rights L5_weights E_joined E_later E_paths 0 F_rows F_pivots F_reciprocals F_below R_cells X_vector X_solution 0 (nI n) 0 M_hasSolution M_levels (upd (upd M_a (16 * j + k) (nI v)) (16 * k + j) (nI v)) M_rowAt M_places M_rights M_weights M_pivots M_lower M_solution M_work M_isJoined M_stored o := fun o => (hG _ _ _ _ _ _ _ _ _ _ _ _ _ _ _ _ _ _ _ _ _ _ _ _ _ _ _ _ _ _ _ _ _ _ _ _ _ _ _ _ _ _ _ _ _ _ _ _ _ _ _ _ _ _ _ _ _ _ _ _ _ _ _ _ _ _ _ _ _ _ _ _ ⟨n, updA A j k v, σ, τ, ri, we, false, fs, ℓ, ⟨hW.1, hn, updA_lt hW.2.2.1 hv, updA_sym hW.2.2.2.1 _ _ _, hW.2.2.2.2⟩, ⟨rfl, updA_ok hn hC.2.1 hj hk, hC.2.2⟩, ⟨rfl, updA_ok hn hM.2.1 hj hk, hM.2.2⟩, FA_no, hS, hV⟩)
        refine tl_i rfl (fun _ => ?_) (hg2 _)
        rw [ul_0, hy, hC.2.1 j k hj hk, hM.2.1 j k hj hk]
theorem sp_begin {n : Nat} (hn : n ≤ 16) {Pr : Int32} {po pp pr pw pe : Nat → Int32} {Q : Int32 → (Nat → Int32) → (Nat → Int32) → (Nat → Int32) → (Nat → Int32) → (Nat → Int32) → Prop} (h : ∀ po pp pr pw pe : Nat → Int32, (∀ k, k < n → po k = nI k ∧ pp k = nI k ∧ pr k = nI 0 ∧ pw k = nI 0) → (∀ a b, a < n → b < n → pe (16 * a + b) = nI 0) → Q (nI n) po pp pr pw pe) : wp_X2_begin (nI n) Pr po pp pr pw pe Q := by
  intro G1 G2 h1 h2
  have k1 : ∀ i, i ≤ n → ∀ po pp pr pw pe : Nat → Int32, (∀ k, k < i → po k = nI k ∧ pp k = nI k ∧ pr k = nI 0 ∧ pw k = nI 0) → (∀ a b, a < i → b < n → pe (16 * a + b) = nI 0) → G1 (nI i) (nI n) po pp pr pw pe := by
    refine pu_down n ?_ ?_
    · intro po pp pr pw pe g1 g2
      exact h1 _ _ _ _ _ _ _ ⟨fun _ => h _ _ _ _ _ g1 g2, fun c => absurd (nI_le (Nat.le_refl n) (by omega)) c⟩
    · intro i hi ih po pp pr pw pe g1 g2
      refine h1 _ _ _ _ _ _ _ ⟨fun c => absurd c (nI_ge hi (by omega)), fun _ => ?_⟩
      have k2 : ∀ j, j ≤ n → ∀ pe : Nat → Int32, (∀ a b, a < i → b < n → pe (16 * a + b) = nI 0) → (∀ b, b < j → pe (16 * i + b) = nI 0) → G2 (nI j) (nI i) (nI n) po pp pr pw pe := by
        refine pu_down n ?_ ?_
        · intro pe g3 g4
          refine h2 _ _ _ _ _ _ _ _ ⟨fun _ => ?_, fun c => absurd (nI_le (Nat.le_refl n) (by omega)) c⟩
          refine ⟨pn_in (by omega) (by decide), pn_in (by omega) (by decide), pn_in (by omega) (by decide), pn_in (by omega) (by decide), fun x hx => ?_⟩
          rw [hx, nI_1, pn_cl (show i < 2147483648 by omega)]
          refine ih _ _ _ _ _ (fun k hk => ?_) (fun a b ha hb => ?_)
          · rw [upd_at, upd_at, upd_at, upd_at]
            by_cases c : k = i
            · rw [if_pos c, if_pos c, if_pos c, if_pos c, c]
              exact ⟨rfl, rfl, rfl, rfl⟩
            · rw [if_neg c, if_neg c, if_neg c, if_neg c]
              exact g1 k (by omega)
          · by_cases c : a = i
            · rw [c]; exact g4 b hb
            · exact g3 a b (by omega) hb
        · intro j hj ih2 pe g3 g4
          refine h2 _ _ _ _ _ _ _ _ ⟨fun c => absurd c (nI_ge hj (by omega)), fun _ => ⟨by rw [pn_cell]; exact pn_in (by omega) (by decide), fun x hx => ?_⟩⟩
          rw [hx, nI_1, pn_cell, pn_cl (by omega)]
          refine ih2 _ (fun a b ha hb => ?_) (fun b hb => ?_)
          · rw [upd_at, if_neg (by omega)]; exact g3 a b ha hb
          · rw [upd_at]
            by_cases c : b = j
            · rw [if_pos (by omega)]; rfl
            · rw [if_neg (by omega)]; exact g4 b (by omega)
      exact k2 0 (Nat.zero_le n) pe g2 (fun b hb => absurd hb (Nat.not_lt_zero b))
  exact k1 0 (Nat.zero_le n) _ _ _ _ _ (fun k hk => absurd hk (Nat.not_lt_zero k)) (fun a b ha _ => absurd ha (Nat.not_lt_zero a))
theorem sp_clear {mt mn m1 m2 ml : Int32} {ro pl mr mw ma : Nat → Int32} {Q : Int32 → Int32 → (Nat → Int32) → (Nat → Int32) → (Nat → Int32) → (Nat → Int32) → (Nat → Int32) → Prop} (h : ∀ ro pl mr mw ma : Nat → Int32, (∀ k, k < 16 → ro k = nI k ∧ pl k = nI k ∧ mr k = nI 0 ∧ mw k = nI 0) → (∀ a b, a < 16 → b < 16 → ma (16 * a + b) = nI 0) → Q 0 0 ro pl mr mw ma) : wp_X5_clear mt mn m1 m2 ml ro pl mr mw ma Q := by
  intro G1 G2 h1 h2
  have k1 : ∀ i, i ≤ 16 → ∀ (ro pl mr mw ma : Nat → Int32), (∀ k, k < i → ro k = nI k ∧ pl k = nI k ∧ mr k = nI 0 ∧ mw k = nI 0) → (∀ a b, a < i → b < 16 → ma (16 * a + b) = nI 0) → G1 (nI i) m1 m2 ro pl mr mw ma := by
    refine pu_down 16 ?_ ?_
    · intro ro pl mr mw ma g1 g2
      exact h1 _ _ _ _ _ _ _ _ ⟨fun _ => h _ _ _ _ _ g1 g2, fun c => absurd (by decide) c⟩
    · intro i hi ih ro pl mr mw ma g1 g2
      refine h1 _ _ _ _ _ _ _ _ ⟨fun c => absurd c (nI_ge (b := 16) hi (by omega)), fun _ => ⟨pn_in (by omega) (by decide), pn_in (by omega) (by decide), pn_in (by omega) (by decide), pn_in (by omega) (by decide), ?_⟩⟩
      rw [pn_cl (show i < 2147483648 by omega)]
      have k2 : ∀ j, j ≤ 16 → ∀ ma : Nat → Int32, (∀ a b, a < i → b < 16 → ma (16 * a + b) = nI 0) → (∀ b, b < j → ma (16 * i + b) = nI 0) → G2 (nI j) (nI i) m1 m2 (upd ro i (nI i)) (upd pl i (nI i)) (upd mr i 0) (upd mw i 0) ma := by
        refine pu_down 16 ?_ ?_
        · intro ma g3 g4
          refine h2 _ _ _ _ _ _ _ _ _ ⟨fun _ x hx => ?_, fun c => absurd (by decide) c⟩
          rw [hx, nI_1]
          refine ih _ _ _ _ _ (fun k hk => ?_) (fun a b ha hb => ?_)
          · rw [upd_at, upd_at, upd_at, upd_at]
            by_cases c : k = i
            · rw [if_pos c, if_pos c, if_pos c, if_pos c, c]
              exact ⟨rfl, rfl, rfl, rfl⟩
            · rw [if_neg c, if_neg c, if_neg c, if_neg c]
              exact g1 k (by omega)
          · by_cases c : a = i
            · rw [c]; exact g4 b hb
            · exact g3 a b (by omega) hb
        · intro j hj ih2 ma g3 g4
          refine h2 _ _ _ _ _ _ _ _ _ ⟨fun c => absurd c (nI_ge (b := 16) hj (by omega)), fun _ => ⟨by rw [pn_at]; exact pn_in (by omega) (by decide), fun x hx => ?_⟩⟩
          rw [hx, nI_1, pn_at, pn_cl (by omega)]
          refine ih2 _ (fun a b ha hb => ?_) (fun b hb => ?_)
          · rw [upd_at, if_neg (by omega)]; exact g3 a b ha hb
          · rw [upd_at]
            by_cases c : b = j
            · rw [if_pos (by omega)]; rfl
            · rw [if_neg (by omega)]; exact g4 b (by omega)
      exact k2 0 (by omega) ma g2 (fun b hb => absurd hb (Nat.not_lt_zero b))
  exact k1 0 (by omega) _ _ _ _ _ (fun k hk => absurd hk (Nat.not_lt_zero k)) (fun a b ha _ => absurd ha (Nat.not_lt_zero a))
theorem WF_new {n : Nat} (h1 : 1 ≤ n) (hn : n ≤ 16) : WF n (fun _ _ => 0) (fun k => k) (fun k => k) (fun _ => 0) (fun _ => 0) := ⟨h1, hn, fun _ _ => (by decide : 0 < 65521), fun _ _ => rfl, fun k hk => ⟨hk, hk, rfl, rfl⟩, fun k hk => ⟨hk, hk⟩, fun _ => (by decide : 0 < 65521), fun _ => (by decide : 0 < 65521)⟩
theorem ss_no {a : Int32} {A B C : Prop} (hb : a < 1 ∨ ¬ a ≤ 16) (h : A) (h2 : C) : (a < 1 → A) ∧ (¬ a < 1 → ((a ≤ 16 → B) ∧ (¬ a ≤ 16 → C))) := ⟨fun _ => h, fun c => ⟨fun c2 => absurd c2 (hb.resolve_left c), fun _ => h2⟩⟩
theorem ss_ok {n : Nat} {A B C : Prop} (h1 : 1 ≤ n) (hn : n ≤ 16) (h : B) : (nI n < 1 → A) ∧ (¬ nI n < 1 → ((nI n ≤ 16 → B) ∧ (¬ nI n ≤ 16 → C))) := ⟨fun c => absurd c (nI_nlt (b := 1) h1 (by omega)), fun _ => ⟨fun _ => h, fun c => absurd (nI_le (b := 16) hn (by decide)) c⟩⟩
theorem pure_0 {L : Nat} {xs : Nat → Int32} {i : Nat} (hL : L ≤ 2048) (hi : 4 * i + 4 ≤ L) {X_solved : Int32} {X_levelCount : Int32} {P_rows : Int32} {P_entries : (Nat → Int32)} {P_order : (Nat → Int32)} {P_places : (Nat → Int32)} {P_rights : (Nat → Int32)} {P_weights : (Nat → Int32)} {L0_rows : Int32} {L0_entries : (Nat → Int32)} {L0_order : (Nat → Int32)} {L0_places : (Nat → Int32)} {L0_rights : (Nat → Int32)} {L0_weights : (Nat → Int32)} {L1_rows : Int32} {L1_entries : (Nat → Int32)} {L1_order : (Nat → Int32)} {L1_places : (Nat → Int32)} {L1_rights : (Nat → Int32)} {L1_weights : (Nat → Int32)} {L2_rows : Int32} {L2_entries : (Nat → Int32)} {L2_order : (Nat → Int32)} {L2_places : (Nat → Int32)} {L2_rights : (Nat → Int32)} {L2_weights : (Nat → Int32)} {L3_rows : Int32} {L3_entries : (Nat → Int32)} {L3_order : (Nat → Int32)} {L3_places : (Nat → Int32)} {L3_rights : (Nat → Int32)} {L3_weights : (Nat → Int32)} {L4_rows : Int32} {L4_entries : (Nat → Int32)} {L4_order : (Nat → Int32)} {L4_places : (Nat → Int32)} {L4_rights : (Nat → Int32)} {L4_weights : (Nat → Int32)} {L5_rows : Int32} {L5_entries : (Nat → Int32)} {L5_order : (Nat → Int32)} {L5_places : (Nat → Int32)} {L5_rights : (Nat → Int32)} {L5_weights : (Nat → Int32)} {E_joined : (Nat → Int32)} {E_later : (Nat → Int32)} {E_paths : (Nat → Int32)} {F_known : Int32} {F_rows : Int32} {F_pivots : (Nat → Int32)} {F_reciprocals : (Nat → Int32)} {F_below : (Nat → Int32)} {R_cells : (Nat → Int32)} {X_vector : (Nat → Int32)} {X_solution : (Nat → Int32)} {M_thrown : Int32} {M_n : Int32} {M_hasFactors : Int32} {M_hasSolution : Int32} {M_levels : Int32} {M_a : (Nat → Int32)} {M_rowAt : (Nat → Int32)} {M_places : (Nat → Int32)} {M_rights : (Nat → Int32)} {M_weights : (Nat → Int32)} {M_pivots : (Nat → Int32)} {M_lower : (Nat → Int32)} {M_solution : (Nat → Int32)} {M_work : (Nat → Int32)} {M_isJoined : (Nat → Int32)} {M_stored : (Nat → Int32)} {O_out : (Nat → Int64)} (hR : Rel X_solved X_levelCount P_rows P_entries P_order P_places P_rights P_weights L0_rows L0_entries L0_order L0_places L0_rights L0_weights L1_rows L1_entries L1_order L1_places L1_rights L1_weights L2_rows L2_entries L2_order L2_places L2_rights L2_weights L3_rows L3_entries L3_order L3_places L3_rights L3_weights L4_rows L4_entries L4_order L4_places L4_rights L4_weights L5_rows L5_entries L5_order L5_places L5_rights L5_weights E_joined E_later E_paths F_known F_rows F_pivots F_reciprocals F_below R_cells X_vector X_solution M_thrown M_n M_hasFactors M_hasSolution M_levels M_a M_rowAt M_places M_rights M_weights M_pivots M_lower M_solution M_work M_isJoined M_stored O_out) {G : Int32 → Int32 → Int32 → Int32 → (Nat → Int32) → (Nat → Int32) → (Nat → Int32) → (Nat → Int32) → (Nat → Int32) → Int32 → (Nat → Int32) → (Nat → Int32) → (Nat → Int32) → (Nat → Int32) → (Nat → Int32) → Int32 → (Nat → Int32) → (Nat → Int32) → (Nat → Int32) → (Nat → Int32) → (Nat → Int32) → Int32 → (Nat → Int32) → (Nat → Int32) → (Nat → Int32) → (Nat → Int32) → (Nat → Int32) → Int32 → (Nat → Int32) → (Nat → Int32) → (Nat → Int32) → (Nat → Int32) → (Nat → Int32) → Int32 → (Nat → Int32) → (Nat → Int32) → (Nat → Int32) → (Nat → Int32) → (Nat → Int32) → Int32 → (Nat → Int32) → (Nat → Int32) → (Nat → Int32) → (Nat → Int32) → (Nat → Int32) → (Nat → Int32) → (Nat → Int32) → (Nat → Int32) → Int32 → Int32 → (Nat → Int32) → (Nat → Int32) → (Nat → Int32) → (Nat → Int32) → (Nat → Int32) → (Nat → Int32) → Int32 → Int32 → Int32 → Int32 → Int32 → (Nat → Int32) → (Nat → Int32) → (Nat → Int32) → (Nat → Int32) → (Nat → Int32) → (Nat → Int32) → (Nat → Int32) → (Nat → Int32) → (Nat → Int32) → (Nat → Int32) → (Nat → Int32) → (Nat → Int64) → Prop} (hG : ∀ (X_solved : Int32) (X_levelCount : Int32) (P_rows : Int32) (P_entries : (Nat → Int32)) (P_order : (Nat → Int32)) (P_places : (Nat → Int32)) (P_rights : (Nat → Int32)) (P_weights : (Nat → Int32)) (L0_rows : Int32) (L0_entries : (Nat → Int32)) (L0_order : (Nat → Int32)) (L0_places : (Nat → Int32)) (L0_rights : (Nat → Int32)) (L0_weights : (Nat → Int32)) (L1_rows : Int32) (L1_entries : (Nat → Int32)) (L1_order : (Nat → Int32)) (L1_places : (Nat → Int32)) (L1_rights : (Nat → Int32)) (L1_weights : (Nat → Int32)) (L2_rows : Int32) (L2_entries : (Nat → Int32)) (L2_order : (Nat → Int32)) (L2_places : (Nat → Int32)) (L2_rights : (Nat → Int32)) (L2_weights : (Nat → Int32)) (L3_rows : Int32) (L3_entries : (Nat → Int32)) (L3_order : (Nat → Int32)) (L3_places : (Nat → Int32)) (L3_rights : (Nat → Int32)) (L3_weights : (Nat → Int32)) (L4_rows : Int32) (L4_entries : (Nat → Int32)) (L4_order : (Nat → Int32)) (L4_places : (Nat → Int32)) (L4_rights : (Nat → Int32)) (L4_weights : (Nat → Int32)) (L5_rows : Int32) (L5_entries : (Nat → Int32)) (L5_order : (Nat → Int32)) (L5_places : (Nat → Int32)) (L5_rights : (Nat → Int32)) (L5_weights : (Nat → Int32)) (E_joined : (Nat → Int32)) (E_later : (Nat → Int32)) (E_paths : (Nat → Int32)) (F_known : Int32) (F_rows : Int32) (F_pivots : (Nat → Int32)) (F_reciprocals : (Nat → Int32)) (F_below : (Nat → Int32)) (R_cells : (Nat → Int32)) (X_vector : (Nat → Int32)) (X_solution : (Nat → Int32)) (M_thrown : Int32) (M_n : Int32) (M_hasFactors : Int32) (M_hasSolution : Int32) (M_levels : Int32) (M_a : (Nat → Int32)) (M_rowAt : (Nat → Int32)) (M_places : (Nat → Int32)) (M_rights : (Nat → Int32)) (M_weights : (Nat → Int32)) (M_pivots : (Nat → Int32)) (M_lower : (Nat → Int32)) (M_solution : (Nat → Int32)) (M_work : (Nat → Int32)) (M_isJoined : (Nat → Int32)) (M_stored : (Nat → Int32)) (O_out : (Nat → Int64)), Rel X_solved X_levelCount P_rows P_entries P_order P_places P_rights P_weights L0_rows L0_entries L0_order L0_places L0_rights L0_weights L1_rows L1_entries L1_order L1_places L1_rights L1_weights L2_rows L2_entries L2_order L2_places L2_rights L2_weights L3_rows L3_entries L3_order L3_places L3_rights L3_weights L4_rows L4_entries L4_order L4_places L4_rights L4_weights L5_rows L5_entries L5_order L5_places L5_rights L5_weights E_joined E_later E_paths F_known F_rows F_pivots F_reciprocals F_below R_cells X_vector X_solution M_thrown M_n M_hasFactors M_hasSolution M_levels M_a M_rowAt M_places M_rights M_weights M_pivots M_lower M_solution M_work M_isJoined M_stored O_out → G (nI (4 * i) + 4) X_solved X_levelCount P_rows P_entries P_order P_places P_rights P_weights L0_rows L0_entries L0_order L0_places L0_rights L0_weights L1_rows L1_entries L1_order L1_places L1_rights L1_weights L2_rows L2_entries L2_order L2_places L2_rights L2_weights L3_rows L3_entries L3_order L3_places L3_rights L3_weights L4_rows L4_entries L4_order L4_places L4_rights L4_weights L5_rows L5_entries L5_order L5_places L5_rights L5_weights E_joined E_later E_paths F_known F_rows F_pivots F_reciprocals F_below R_cells X_vector X_solution M_thrown M_n M_hasFactors M_hasSolution M_levels M_a M_rowAt M_places M_rights M_weights M_pivots M_lower M_solution M_work M_isJoined M_stored O_out) : vc_law_0 L xs (nI (4 * i)) X_solved X_levelCount P_rows P_entries P_order P_places P_rights P_weights L0_rows L0_entries L0_order L0_places L0_rights L0_weights L1_rows L1_entries L1_order L1_places L1_rights L1_weights L2_rows L2_entries L2_order L2_places L2_rights L2_weights L3_rows L3_entries L3_order L3_places L3_rights L3_weights L4_rows L4_entries L4_order L4_places L4_rights L4_weights L5_rows L5_entries L5_order L5_places L5_rights L5_weights E_joined E_later E_paths F_known F_rows F_pivots F_reciprocals F_below R_cells X_vector X_solution M_thrown M_n M_hasFactors M_hasSolution M_levels M_a M_rowAt M_places M_rights M_weights M_pivots M_lower M_solution M_work M_isJoined M_stored O_out G := by
  obtain ⟨n, A, σ, τ, ri, we, fk, fs, ℓ, hW, hC, hM, hF, hS, hV⟩ := id hR
  have hg : ∀ t o, G (nI (4 * i) + 4) X_solved X_levelCount P_rows P_entries P_order P_places P_rights P_weights L0_rows L0_entries L0_order L0_places L0_rights L0_weights L1_rows L1_entries L1_order L1_places L1_rights L1_weights L2_rows L2_entries L2_order L2_places L2_rights L2_weights L3_rows L3_entries L3_order L3_places L3_rights L3_weights L4_rows L4_entries L4_order L4_places L4_rights L4_weights L5_rows L5_entries L5_order L5_places L5_rights L5_weights E_joined E_later E_paths F_known F_rows F_pivots F_reciprocals F_below R_cells X_vector X_solution t M_n M_hasFactors M_hasSolution M_levels M_a M_rowAt M_places M_rights M_weights M_pivots M_lower M_solution M_work M_isJoined M_stored o := fun t o => hG X_solved X_levelCount P_rows P_entries P_order P_places P_rights P_weights L0_rows L0_entries L0_order L0_places L0_rights L0_weights L1_rows L1_entries L1_order L1_places L1_rights L1_weights L2_rows L2_entries L2_order L2_places L2_rights L2_weights L3_rows L3_entries L3_order L3_places L3_rights L3_weights L4_rows L4_entries L4_order L4_places L4_rights L4_weights L5_rows L5_entries L5_order L5_places L5_rights L5_weights E_joined E_later E_paths F_known F_rows F_pivots F_reciprocals F_below R_cells X_vector X_solution t M_n M_hasFactors M_hasSolution M_levels M_a M_rowAt M_places M_rights M_weights M_pivots M_lower M_solution M_work M_isJoined M_stored o ⟨n, A, σ, τ, ri, we, fk, fs, ℓ, hW, hC, hM, hF, hS, hV⟩
  have hn := hW.2.1
  refine ⟨sc1 hL hi, ?_⟩
  generalize xs (Int32.toNatClampNeg (nI (4 * i) + 1)) = a
  unfold wp_L_setSize wp_X4_setSize wp_X5_setSize wp_X1_forget wp_X5_no
  have hcase : (a < 1 ∨ ¬ a ≤ 16) ∨ ∃ m : Nat, 1 ≤ m ∧ m ≤ 16 ∧ a = nI m := by
    rcases px_ix a (n := 17) (by omega) with (h | h) | ⟨m, hm, rfl⟩
    · refine Or.inl (Or.inl ?_)
      rw [Int32.lt_iff_toInt_lt] at h ⊢
      have e1 : (0 : Int32).toInt = 0 := rfl
      have e2 : (1 : Int32).toInt = 1 := rfl
      omega
    · refine Or.inl (Or.inr ?_)
      rw [Int32.le_iff_toInt_le] at h ⊢
      have e1 : (nI 17).toInt = 17 := rfl
      have e2 : (16 : Int32).toInt = 16 := rfl
      omega
    · by_cases h : m = 0
      · exact Or.inl (Or.inl (by rw [h]; decide))
      · exact Or.inr ⟨m, by omega, by omega, rfl⟩
  rcases hcase with hb | ⟨m, m1, m2, rfl⟩
  · refine ss_no hb ?_ ?_
    · refine ⟨rfl, sc1 hL hi, ss_no hb ?_ ?_⟩
      · exact tl_i rfl (fun c => absurd c (by decide)) (hg _ _)
      · exact tl_i rfl (fun c => absurd c (by decide)) (hg _ _)
    · refine ⟨rfl, sc1 hL hi, ss_no hb ?_ ?_⟩
      · exact tl_i rfl (fun c => absurd c (by decide)) (hg _ _)
      · exact tl_i rfl (fun c => absurd c (by decide)) (hg _ _)
  · refine ss_ok m1 m2 (sp_begin m2 (fun po pp pr pw pe q1 q2 => ⟨sc1 hL hi, ss_ok m1 m2 (sp_clear (fun ro pl mr mw ma q3 q4 => ?_))⟩))
    have hg2 : ∀ o, G (nI (4 * i) + 4) 0 X_levelCount (nI m) pe po pp pr pw L0_rows L0_entries L0_order L0_places L0_rights L0_weights L1_rows L1_entries L1_order L1_places L1_rights L1_weights L2_rows L2_entries L2_order L2_places L2_rights L2_weights L3_rows L3_entries L3_order L3_places L3_rights L3_weights L4_rows L4_entries L4_order L4_places L4_rights L4_weights L5_rows L5_entries L5_order L5_places L5_rights L5_weights E_joined E_later E_paths 0 F_rows F_pivots F_reciprocals F_below R_cells X_vector X_solution 0 (nI m) 0 0 M_levels ma ro pl mr mw M_pivots M_lower M_solution M_work M_isJoined M_stored o := fun o => (hG _ _ _ _ _ _ _ _ _ _ _ _ _ _ _ _ _ _ _ _ _ _ _ _ _ _ _ _ _ _ _ _ _ _ _ _ _ _ _ _ _ _ _ _ _ _ _ _ _ _ _ _ _ _ _ _ _ _ _ _ _ _ _ _ _ _ _ _ _ _ _ _ ⟨m, fun _ _ => 0, fun k => k, fun k => k, fun _ => 0, fun _ => 0, false, false, ℓ, WF_new m1 m2, ⟨rfl, q2, q1⟩, ⟨rfl, fun i j hi hj => q4 i j (by omega) (by omega), fun k hk => ⟨(q3 k hk).1, (q3 k hk).2.1⟩, fun k hk => (q3 k (by omega)).2.2⟩, FA_no, ⟨rfl, rfl, fun c => absurd c (by decide)⟩, hV⟩)
    exact tl_i rfl (fun _ => ul_0 _ _) (hg2 _)
/-- two positions exchanged -/
def swp (p q k : Nat) : Nat := if k = p then q else if k = q then p else k
theorem swp_swp (p q k : Nat) : swp p q (swp p q k) = k := by unfold swp; split <;> split <;> (try split) <;> omega
theorem swp_lt {p q k n : Nat} (hp : p < n) (hq : q < n) (hk : k < n) : swp p q k < n := by unfold swp; split <;> (try split) <;> omega
theorem WF_swp {n : Nat} {A : Nat → Nat → Nat} {σ τ ri we : Nat → Nat} (h : WF n A σ τ ri we) {p q : Nat} (hp : p < n) (hq : q < n) : WF n A (fun k => σ (swp p q k)) (fun r => swp p q (τ r)) ri we := by
  obtain ⟨h1, h2, h3, h4, h5, h6, h7, h8⟩ := h
  refine ⟨h1, h2, h3, h4, fun k hk => ?_, fun k hk => ⟨(h6 _ (swp_lt hp hq hk)).1, swp_lt hp hq (h6 k hk).2⟩, h7, h8⟩
  have hk2 : swp p q k < 16 := swp_lt (by omega) (by omega) hk
  refine ⟨(h5 _ hk2).1, swp_lt (by omega) (by omega) (h5 k hk).2.1, ?_, ?_⟩
  · show swp p q (τ (σ (swp p q k))) = k
    rw [(h5 _ hk2).2.2.1, swp_swp]
  · show σ (swp p q (swp p q (τ k))) = k
    rw [swp_swp, (h5 k hk).2.2.2]
theorem σ_ne {n : Nat} {A : Nat → Nat → Nat} {σ τ ri we : Nat → Nat} (h : WF n A σ τ ri we) {r q : Nat} (hr : r < 16) (hq : q < 16) : r = σ q ↔ τ r = q := ⟨fun e => by rw [e]; exact (h.2.2.2.2.1 q hq).2.2.1, fun e => by rw [← e]; exact ((h.2.2.2.2.1 r hr).2.2.2).symm⟩
/-- the class's exchange -/
theorem sp_xchg {n : Nat} {A : Nat → Nat → Nat} {σ τ ri we : Nat → Nat} (hW : WF n A σ τ ri we) {Pr : Int32} {po pp : Nat → Int32} (hc : ∀ k, k < n → po k = nI (σ k) ∧ pp k = nI (τ k)) {p q : Nat} (hp : p < n) (hq : q < n) {Q : (Nat → Int32) → (Nat → Int32) → Prop} (h : ∀ po pp : Nat → Int32, (∀ k, k < n → po k = nI (σ (swp p q k)) ∧ pp k = nI (swp p q (τ k))) → Q po pp) : wp_X2_exchange (nI p) (nI q) Pr po pp Q := by
  have hn := hW.2.1
  have hσp := (hW.2.2.2.2.2.1 p hp).1
  have hσq := (hW.2.2.2.2.2.1 q hq).1
  refine ⟨pn_in (by omega) (by decide), fun x hx => ⟨pn_in (by omega) (by decide), fun y hy => ?_⟩⟩
  rw [pn_cl (by omega), (hc p hp).1] at hx
  rw [pn_cl (by omega), (hc q hq).1] at hy
  subst hx
  subst hy
  refine ⟨pn_in (by omega) (by decide), pn_in (by omega) (by decide), pn_in (by omega) (by decide), pn_in (by omega) (by decide), ?_⟩
  rw [pn_cl (show p < 2147483648 by omega), pn_cl (show q < 2147483648 by omega), pn_cl (show σ p < 2147483648 by omega), pn_cl (show σ q < 2147483648 by omega)]
  refine h _ _ (fun k hk => ⟨?_, ?_⟩)
  · rw [upd_at, upd_at]
    unfold swp
    by_cases c1 : k = p
    · rw [if_pos c1, if_pos c1]
    · rw [if_neg c1, if_neg c1]
      by_cases c2 : k = q
      · rw [if_pos c2, if_pos c2]
      · rw [if_neg c2, if_neg c2]; exact (hc k hk).1
  · rw [upd_at, upd_at]
    simp only [σ_ne hW (show k < 16 by omega) (show q < 16 by omega), σ_ne hW (show k < 16 by omega) (show p < 16 by omega)]
    unfold swp
    by_cases c1 : τ k = p
    · by_cases c2 : τ k = q
      · rw [if_pos c2, if_pos c1, c1.symm.trans c2]
      · rw [if_neg c2, if_pos c1, if_pos c1]
    · by_cases c2 : τ k = q
      · rw [if_pos c2, if_neg c1, if_pos c2]
      · rw [if_neg c2, if_neg c1, if_neg c1, if_neg c2]; exact (hc k hk).2
/-- the reference's exchange -/
theorem sp_mxchg {n : Nat} {A : Nat → Nat → Nat} {σ τ ri we : Nat → Nat} (hW : WF n A σ τ ri we) {mt mn m1 m2 ml : Int32} {ro pl : Nat → Int32} (hc : ∀ k, k < 16 → ro k = nI (σ k) ∧ pl k = nI (τ k)) {p q : Nat} (hp : p < n) (hq : q < n) {Q : (Nat → Int32) → (Nat → Int32) → Prop} (h : ∀ ro pl : Nat → Int32, (∀ k, k < 16 → ro k = nI (σ (swp p q k)) ∧ pl k = nI (swp p q (τ k))) → Q ro pl) : wp_X5_exchange (nI p) (nI q) mt mn m1 m2 ml ro pl Q := by
  have hn := hW.2.1
  have hσp := (hW.2.2.2.2.2.1 p hp).1
  have hσq := (hW.2.2.2.2.2.1 q hq).1
  refine ⟨pn_in (by omega) (by decide), fun x hx => ?_⟩
  rw [pn_cl (show p < 2147483648 by omega)] at hx ⊢
  rw [pn_cl (show q < 2147483648 by omega), (hc q (by omega)).1]
  rw [(hc p (by omega)).1] at hx
  subst hx
  have e1 : upd (upd ro p (nI (σ q))) q (nI (σ p)) p = nI (σ q) := by
    rw [upd_at, upd_at]
    by_cases c : p = q
    · rw [if_pos c, c]
    · rw [if_neg c, if_pos rfl]
  have e2 : upd (upd ro p (nI (σ q))) q (nI (σ p)) q = nI (σ p) := by rw [upd_at, if_pos rfl]
  rw [e1, e2, pn_cl (show σ p < 2147483648 by omega), pn_cl (show σ q < 2147483648 by omega)]
  refine ⟨pn_in (by omega) (by decide), pn_in (by omega) (by decide), pn_in (by omega) (by decide), pn_in (by omega) (by decide), pn_in (by omega) (by decide), pn_in (by omega) (by decide), pn_in (by omega) (by decide), ?_⟩
  refine h _ _ (fun k hk => ⟨?_, ?_⟩)
  · rw [upd_at, upd_at]
    unfold swp
    by_cases c2 : k = q
    · rw [if_pos c2]
      by_cases c1 : k = p
      · rw [if_pos c1, ← c1, ← c2]
      · rw [if_neg c1, if_pos c2]
    · rw [if_neg c2]
      by_cases c1 : k = p
      · rw [if_pos c1, if_pos c1]
      · rw [if_neg c1, if_neg c1, if_neg c2]; exact (hc k hk).1
  · rw [upd_at, upd_at]
    simp only [σ_ne hW hk (show q < 16 by omega), σ_ne hW hk (show p < 16 by omega)]
    unfold swp
    by_cases c1 : τ k = p
    · rw [if_pos c1, if_pos c1]
    · rw [if_neg c1, if_neg c1]
      by_cases c2 : τ k = q
      · rw [if_pos c2, if_pos c2]
      · rw [if_neg c2, if_neg c2]; exact (hc k hk).2
theorem pure_6 {L : Nat} {xs : Nat → Int32} {i : Nat} (hL : L ≤ 2048) (hi : 4 * i + 4 ≤ L) {X_solved : Int32} {X_levelCount : Int32} {P_rows : Int32} {P_entries : (Nat → Int32)} {P_order : (Nat → Int32)} {P_places : (Nat → Int32)} {P_rights : (Nat → Int32)} {P_weights : (Nat → Int32)} {L0_rows : Int32} {L0_entries : (Nat → Int32)} {L0_order : (Nat → Int32)} {L0_places : (Nat → Int32)} {L0_rights : (Nat → Int32)} {L0_weights : (Nat → Int32)} {L1_rows : Int32} {L1_entries : (Nat → Int32)} {L1_order : (Nat → Int32)} {L1_places : (Nat → Int32)} {L1_rights : (Nat → Int32)} {L1_weights : (Nat → Int32)} {L2_rows : Int32} {L2_entries : (Nat → Int32)} {L2_order : (Nat → Int32)} {L2_places : (Nat → Int32)} {L2_rights : (Nat → Int32)} {L2_weights : (Nat → Int32)} {L3_rows : Int32} {L3_entries : (Nat → Int32)} {L3_order : (Nat → Int32)} {L3_places : (Nat → Int32)} {L3_rights : (Nat → Int32)} {L3_weights : (Nat → Int32)} {L4_rows : Int32} {L4_entries : (Nat → Int32)} {L4_order : (Nat → Int32)} {L4_places : (Nat → Int32)} {L4_rights : (Nat → Int32)} {L4_weights : (Nat → Int32)} {L5_rows : Int32} {L5_entries : (Nat → Int32)} {L5_order : (Nat → Int32)} {L5_places : (Nat → Int32)} {L5_rights : (Nat → Int32)} {L5_weights : (Nat → Int32)} {E_joined : (Nat → Int32)} {E_later : (Nat → Int32)} {E_paths : (Nat → Int32)} {F_known : Int32} {F_rows : Int32} {F_pivots : (Nat → Int32)} {F_reciprocals : (Nat → Int32)} {F_below : (Nat → Int32)} {R_cells : (Nat → Int32)} {X_vector : (Nat → Int32)} {X_solution : (Nat → Int32)} {M_thrown : Int32} {M_n : Int32} {M_hasFactors : Int32} {M_hasSolution : Int32} {M_levels : Int32} {M_a : (Nat → Int32)} {M_rowAt : (Nat → Int32)} {M_places : (Nat → Int32)} {M_rights : (Nat → Int32)} {M_weights : (Nat → Int32)} {M_pivots : (Nat → Int32)} {M_lower : (Nat → Int32)} {M_solution : (Nat → Int32)} {M_work : (Nat → Int32)} {M_isJoined : (Nat → Int32)} {M_stored : (Nat → Int32)} {O_out : (Nat → Int64)} (hR : Rel X_solved X_levelCount P_rows P_entries P_order P_places P_rights P_weights L0_rows L0_entries L0_order L0_places L0_rights L0_weights L1_rows L1_entries L1_order L1_places L1_rights L1_weights L2_rows L2_entries L2_order L2_places L2_rights L2_weights L3_rows L3_entries L3_order L3_places L3_rights L3_weights L4_rows L4_entries L4_order L4_places L4_rights L4_weights L5_rows L5_entries L5_order L5_places L5_rights L5_weights E_joined E_later E_paths F_known F_rows F_pivots F_reciprocals F_below R_cells X_vector X_solution M_thrown M_n M_hasFactors M_hasSolution M_levels M_a M_rowAt M_places M_rights M_weights M_pivots M_lower M_solution M_work M_isJoined M_stored O_out) {G : Int32 → Int32 → Int32 → Int32 → (Nat → Int32) → (Nat → Int32) → (Nat → Int32) → (Nat → Int32) → (Nat → Int32) → Int32 → (Nat → Int32) → (Nat → Int32) → (Nat → Int32) → (Nat → Int32) → (Nat → Int32) → Int32 → (Nat → Int32) → (Nat → Int32) → (Nat → Int32) → (Nat → Int32) → (Nat → Int32) → Int32 → (Nat → Int32) → (Nat → Int32) → (Nat → Int32) → (Nat → Int32) → (Nat → Int32) → Int32 → (Nat → Int32) → (Nat → Int32) → (Nat → Int32) → (Nat → Int32) → (Nat → Int32) → Int32 → (Nat → Int32) → (Nat → Int32) → (Nat → Int32) → (Nat → Int32) → (Nat → Int32) → Int32 → (Nat → Int32) → (Nat → Int32) → (Nat → Int32) → (Nat → Int32) → (Nat → Int32) → (Nat → Int32) → (Nat → Int32) → (Nat → Int32) → Int32 → Int32 → (Nat → Int32) → (Nat → Int32) → (Nat → Int32) → (Nat → Int32) → (Nat → Int32) → (Nat → Int32) → Int32 → Int32 → Int32 → Int32 → Int32 → (Nat → Int32) → (Nat → Int32) → (Nat → Int32) → (Nat → Int32) → (Nat → Int32) → (Nat → Int32) → (Nat → Int32) → (Nat → Int32) → (Nat → Int32) → (Nat → Int32) → (Nat → Int32) → (Nat → Int64) → Prop} (hG : ∀ (X_solved : Int32) (X_levelCount : Int32) (P_rows : Int32) (P_entries : (Nat → Int32)) (P_order : (Nat → Int32)) (P_places : (Nat → Int32)) (P_rights : (Nat → Int32)) (P_weights : (Nat → Int32)) (L0_rows : Int32) (L0_entries : (Nat → Int32)) (L0_order : (Nat → Int32)) (L0_places : (Nat → Int32)) (L0_rights : (Nat → Int32)) (L0_weights : (Nat → Int32)) (L1_rows : Int32) (L1_entries : (Nat → Int32)) (L1_order : (Nat → Int32)) (L1_places : (Nat → Int32)) (L1_rights : (Nat → Int32)) (L1_weights : (Nat → Int32)) (L2_rows : Int32) (L2_entries : (Nat → Int32)) (L2_order : (Nat → Int32)) (L2_places : (Nat → Int32)) (L2_rights : (Nat → Int32)) (L2_weights : (Nat → Int32)) (L3_rows : Int32) (L3_entries : (Nat → Int32)) (L3_order : (Nat → Int32)) (L3_places : (Nat → Int32)) (L3_rights : (Nat → Int32)) (L3_weights : (Nat → Int32)) (L4_rows : Int32) (L4_entries : (Nat → Int32)) (L4_order : (Nat → Int32)) (L4_places : (Nat → Int32)) (L4_rights : (Nat → Int32)) (L4_weights : (Nat → Int32)) (L5_rows : Int32) (L5_entries : (Nat → Int32)) (L5_order : (Nat → Int32)) (L5_places : (Nat → Int32)) (L5_rights : (Nat → Int32)) (L5_weights : (Nat → Int32)) (E_joined : (Nat → Int32)) (E_later : (Nat → Int32)) (E_paths : (Nat → Int32)) (F_known : Int32) (F_rows : Int32) (F_pivots : (Nat → Int32)) (F_reciprocals : (Nat → Int32)) (F_below : (Nat → Int32)) (R_cells : (Nat → Int32)) (X_vector : (Nat → Int32)) (X_solution : (Nat → Int32)) (M_thrown : Int32) (M_n : Int32) (M_hasFactors : Int32) (M_hasSolution : Int32) (M_levels : Int32) (M_a : (Nat → Int32)) (M_rowAt : (Nat → Int32)) (M_places : (Nat → Int32)) (M_rights : (Nat → Int32)) (M_weights : (Nat → Int32)) (M_pivots : (Nat → Int32)) (M_lower : (Nat → Int32)) (M_solution : (Nat → Int32)) (M_work : (Nat → Int32)) (M_isJoined : (Nat → Int32)) (M_stored : (Nat → Int32)) (O_out : (Nat → Int64)), Rel X_solved X_levelCount P_rows P_entries P_order P_places P_rights P_weights L0_rows L0_entries L0_order L0_places L0_rights L0_weights L1_rows L1_entries L1_order L1_places L1_rights L1_weights L2_rows L2_entries L2_order L2_places L2_rights L2_weights L3_rows L3_entries L3_order L3_places L3_rights L3_weights L4_rows L4_entries L4_order L4_places L4_rights L4_weights L5_rows L5_entries L5_order L5_places L5_rights L5_weights E_joined E_later E_paths F_known F_rows F_pivots F_reciprocals F_below R_cells X_vector X_solution M_thrown M_n M_hasFactors M_hasSolution M_levels M_a M_rowAt M_places M_rights M_weights M_pivots M_lower M_solution M_work M_isJoined M_stored O_out → G (nI (4 * i) + 4) X_solved X_levelCount P_rows P_entries P_order P_places P_rights P_weights L0_rows L0_entries L0_order L0_places L0_rights L0_weights L1_rows L1_entries L1_order L1_places L1_rights L1_weights L2_rows L2_entries L2_order L2_places L2_rights L2_weights L3_rows L3_entries L3_order L3_places L3_rights L3_weights L4_rows L4_entries L4_order L4_places L4_rights L4_weights L5_rows L5_entries L5_order L5_places L5_rights L5_weights E_joined E_later E_paths F_known F_rows F_pivots F_reciprocals F_below R_cells X_vector X_solution M_thrown M_n M_hasFactors M_hasSolution M_levels M_a M_rowAt M_places M_rights M_weights M_pivots M_lower M_solution M_work M_isJoined M_stored O_out) : vc_law_6 L xs (nI (4 * i)) X_solved X_levelCount P_rows P_entries P_order P_places P_rights P_weights L0_rows L0_entries L0_order L0_places L0_rights L0_weights L1_rows L1_entries L1_order L1_places L1_rights L1_weights L2_rows L2_entries L2_order L2_places L2_rights L2_weights L3_rows L3_entries L3_order L3_places L3_rights L3_weights L4_rows L4_entries L4_order L4_places L4_rights L4_weights L5_rows L5_entries L5_order L5_places L5_rights L5_weights E_joined E_later E_paths F_known F_rows F_pivots F_reciprocals F_below R_cells X_vector X_solution M_thrown M_n M_hasFactors M_hasSolution M_levels M_a M_rowAt M_places M_rights M_weights M_pivots M_lower M_solution M_work M_isJoined M_stored O_out G := by
  obtain ⟨n, A, σ, τ, ri, we, fk, fs, ℓ, hW, hC, hM, hF, hS, hV⟩ := id hR
  have hg : ∀ t o, G (nI (4 * i) + 4) X_solved X_levelCount P_rows P_entries P_order P_places P_rights P_weights L0_rows L0_entries L0_order L0_places L0_rights L0_weights L1_rows L1_entries L1_order L1_places L1_rights L1_weights L2_rows L2_entries L2_order L2_places L2_rights L2_weights L3_rows L3_entries L3_order L3_places L3_rights L3_weights L4_rows L4_entries L4_order L4_places L4_rights L4_weights L5_rows L5_entries L5_order L5_places L5_rights L5_weights E_joined E_later E_paths F_known F_rows F_pivots F_reciprocals F_below R_cells X_vector X_solution t M_n M_hasFactors M_hasSolution M_levels M_a M_rowAt M_places M_rights M_weights M_pivots M_lower M_solution M_work M_isJoined M_stored o := fun t o => hG X_solved X_levelCount P_rows P_entries P_order P_places P_rights P_weights L0_rows L0_entries L0_order L0_places L0_rights L0_weights L1_rows L1_entries L1_order L1_places L1_rights L1_weights L2_rows L2_entries L2_order L2_places L2_rights L2_weights L3_rows L3_entries L3_order L3_places L3_rights L3_weights L4_rows L4_entries L4_order L4_places L4_rights L4_weights L5_rows L5_entries L5_order L5_places L5_rights L5_weights E_joined E_later E_paths F_known F_rows F_pivots F_reciprocals F_below R_cells X_vector X_solution t M_n M_hasFactors M_hasSolution M_levels M_a M_rowAt M_places M_rights M_weights M_pivots M_lower M_solution M_work M_isJoined M_stored o ⟨n, A, σ, τ, ri, we, fk, fs, ℓ, hW, hC, hM, hF, hS, hV⟩
  have hn := hW.2.1
  refine ⟨sc1 hL hi, sc2 hL hi, ?_⟩
  generalize xs (Int32.toNatClampNeg (nI (4 * i) + 1)) = a
  generalize xs (Int32.toNatClampNeg (nI (4 * i) + 2)) = b
  have e1 := hC.1
  have e2 := hM.1
  subst e1
  subst e2
  unfold wp_L_swap wp_X4_swap wp_X5_swap wp_X1_forget wp_X5_no
  rcases px_ix a (n := n) (by omega) with ha | ⟨p, hp, rfl⟩
  · refine np_no ha ⟨rfl, sc1 hL hi, sc2 hL hi, ?_⟩
    refine ir_no ha ⟨fun _ => ⟨fun _ => ?_, fun c => absurd (by decide) c⟩, fun c => absurd rfl c⟩
    exact tl_z rfl (fun c => absurd c (by decide)) (hg _ _)
  · refine np_ok hp hn ?_
    rcases px_ix b (n := n) (by omega) with hb | ⟨q, hq, rfl⟩
    · refine np_no hb ⟨rfl, sc1 hL hi, sc2 hL hi, ?_⟩
      refine ir_ok hp hn ⟨fun c => absurd c (by decide), fun _ => ?_⟩
      refine ir_no hb ⟨fun _ => ⟨fun _ => ?_, fun c => absurd (by decide) c⟩, fun c => absurd rfl c⟩
      exact tl_z rfl (fun c => absurd c (by decide)) (hg _ _)
    · refine np_ok hq hn (sp_xchg hW (fun k hk => ⟨(hC.2.2 k hk).1, (hC.2.2 k hk).2.1⟩) hp hq (fun po pp q1 => ?_))
      have hR2 : ∀ (ro pl : Nat → Int32) (o : Nat → Int64), (∀ k, k < 16 → ro k = nI (σ (swp p q k)) ∧ pl k = nI (swp p q (τ k))) → G (nI (4 * i) + 4) X_solved X_levelCount (nI n) P_entries po pp P_rights P_weights L0_rows L0_entries L0_order L0_places L0_rights L0_weights L1_rows L1_entries L1_order L1_places L1_rights L1_weights L2_rows L2_entries L2_order L2_places L2_rights L2_weights L3_rows L3_entries L3_order L3_places L3_rights L3_weights L4_rows L4_entries L4_order L4_places L4_rights L4_weights L5_rows L5_entries L5_order L5_places L5_rights L5_weights E_joined E_later E_paths 0 F_rows F_pivots F_reciprocals F_below R_cells X_vector X_solution 0 (nI n) 0 M_hasSolution M_levels M_a ro pl M_rights M_weights M_pivots M_lower M_solution M_work M_isJoined M_stored o := fun ro pl o q2 => hG _ _ _ _ _ _ _ _ _ _ _ _ _ _ _ _ _ _ _ _ _ _ _ _ _ _ _ _ _ _ _ _ _ _ _ _ _ _ _ _ _ _ _ _ _ _ _ _ _ _ _ _ _ _ _ _ _ _ _ _ _ _ _ _ _ _ _ _ _ _ _ _ ⟨n, A, fun k => σ (swp p q k), fun r => swp p q (τ r), ri, we, false, fs, ℓ, WF_swp hW hp hq, ⟨rfl, hC.2.1, fun k hk => ⟨(q1 k hk).1, (q1 k hk).2, (hC.2.2 k hk).2.2⟩⟩, ⟨rfl, hM.2.1, q2, hM.2.2.2⟩, FA_no, hS, hV⟩
      refine ⟨fun c => ⟨fun _ => ⟨sc1 hL hi, sc2 hL hi, ?_⟩, fun c => absurd rfl c⟩, fun c => ⟨fun c => absurd c (by decide), fun _ => ⟨sc1 hL hi, sc2 hL hi, ?_⟩⟩⟩
      · refine ir_ok hp hn ⟨fun c => absurd c (by decide), fun _ => ?_⟩
        refine ir_ok hq hn ⟨fun c => absurd c (by decide), fun _ => sp_mxchg hW hM.2.2.1 hp hq (fun ro pl q2 => ⟨fun _ => ?_, fun c2 => absurd c c2⟩)⟩
        exact tl_z rfl (fun _ => by rw [ul_0]; rfl) (hR2 ro pl _ q2)
      · refine ir_ok hp hn ⟨fun c => absurd c (by decide), fun _ => ?_⟩
        refine ir_ok hq hn ⟨fun c => absurd c (by decide), fun _ => sp_mxchg hW hM.2.2.1 hp hq (fun ro pl q2 => ⟨fun c2 => absurd c2 c, fun _ => ?_⟩)⟩
        exact tl_z rfl (fun _ => by rw [ul_0]; rfl) (hR2 ro pl _ q2)
