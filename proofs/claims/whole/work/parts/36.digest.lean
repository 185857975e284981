/-! PURE: digest -/
def dgA (A : Nat → Nat → Nat) (i : Nat) (d : Int64) : Nat → Int64
  | 0 => d
  | j + 1 => f_mix (dgA A i d j) (nI (A i j)).toInt64
def dgB (n : Nat) (A : Nat → Nat → Nat) (τ ri we : Nat → Nat) : Nat → Int64
  | 0 => f_mix 71 (nI n).toInt64
  | i + 1 => f_mix (f_mix (f_mix (dgA A i (dgB n A τ ri we i) (i + 1)) (nI (τ i)).toInt64) (nI (ri i)).toInt64) (nI (we i)).toInt64
def dgC (D : Nat → Nat) (d : Int64) : Nat → Int64
  | 0 => d
  | k + 1 => f_mix (dgC D d k) (nI (D k)).toInt64
theorem sp_dig4 {n ℓ : Nat} {A : Nat → Nat → Nat} {σ τ ri we D : Nat → Nat} (hn : n ≤ 16) {Xs Fk Fr : Int32} {pp pr pw pe fp po : Nat → Int32} (hC : CP n A σ τ ri we (nI n) pe po pp pr pw) {Q : Int64 → Prop} (h0 : Fk = 0 → Q (f_mix (f_mix (dgB n A τ ri we n) (nI ℓ).toInt64) 0)) (h1 : ¬ Fk = 0 → (∀ k, k < n → fp k = nI (D k)) ∧ Q (dgC D (f_mix (f_mix (dgB n A τ ri we n) (nI ℓ).toInt64) 1) n)) : wp_X4_digest Xs (nI ℓ) (nI n) Fk Fr pp pr pw pe fp Q := by
  intro G1 G2 G3 g1 g2 g3
  have k1 : ∀ i, i ≤ n → G1 (nI i) (dgB n A τ ri we i) := by
    refine pu_down n ?_ ?_
    · refine g1 _ _ ⟨fun _ x hx => ⟨fun hF => by rw [hx]; exact h0 hF, fun hF y hy => ?_⟩, fun c => absurd (nI_le (Nat.le_refl n) (by omega)) c⟩
      obtain ⟨hp, hq⟩ := h1 hF
      rw [hy, hx]
      have k3 : ∀ k, k ≤ n → G3 (nI k) (dgC D (f_mix (f_mix (dgB n A τ ri we n) (nI ℓ).toInt64) 1) k) := by
        refine pu_down n ?_ ?_
        · exact g3 _ _ ⟨fun _ => hq, fun c => absurd (nI_le (Nat.le_refl n) (by omega)) c⟩
        · intro k hk ih
          refine g3 _ _ ⟨fun c => absurd c (nI_ge hk (by omega)), fun _ => ⟨pn_in (by omega) (by decide), fun x hx y hy => ?_⟩⟩
          rw [hy, hx, nI_1, pn_cl (by omega), hp k hk]
          exact ih
      exact k3 0 (by omega)
    · intro i hi ih
      refine g1 _ _ ⟨fun c => absurd c (nI_ge hi (by omega)), fun _ => ?_⟩
      have k2 : ∀ j, j ≤ i + 1 → G2 (nI j) (nI i) (dgA A i (dgB n A τ ri we i) j) := by
        refine pu_down (i + 1) ?_ ?_
        · refine g2 _ _ _ ⟨fun _ => ⟨pn_in (by omega) (by decide), fun x hx => ⟨pn_in (by omega) (by decide), fun y hy => ⟨pn_in (by omega) (by decide), fun z hz w hw => ?_⟩⟩⟩, fun c => absurd (nI_lt (by omega) (by omega)) c⟩
          rw [hw, hz, hy, hx, nI_1, pn_cl (by omega), (hC.2.2 i hi).2.1, (hC.2.2 i hi).2.2.1, (hC.2.2 i hi).2.2.2]
          exact ih
        · intro j hj ih2
          refine g2 _ _ _ ⟨fun c => absurd c (nI_nlt (by omega) (by omega)), fun _ => ⟨by rw [pn_cell]; exact pn_in (by omega) (by decide), fun x hx y hy => ?_⟩⟩
          rw [hy, hx, nI_1, pn_cell, pn_cl (by omega), hC.2.1 i j hi (by omega)]
          exact ih2
      exact k2 0 (by omega)
  intro x hx
  rw [hx]
  exact k1 0 (by omega)
theorem sp_dig5 {n ℓ : Nat} {A : Nat → Nat → Nat} {σ τ ri we D : Nat → Nat} (hn : n ≤ 16) {mt mh ms : Int32} {ro mpl mr mw ma mp : Nat → Int32} (hC : MP n A σ τ ri we (nI n) ma ro mpl mr mw) {Q : Int64 → Int32 → Prop} (h0 : mh = 0 → Q (f_mix (f_mix (dgB n A τ ri we n) (nI ℓ).toInt64) 0) 0) (h1 : ¬ mh = 0 → (∀ k, k < n → mp k = nI (D k)) ∧ Q (dgC D (f_mix (f_mix (dgB n A τ ri we n) (nI ℓ).toInt64) 1) n) 0) : wp_X5_digest mt (nI n) mh ms (nI ℓ) mpl mr mw ma mp Q := by
  intro G1 G2 G3 g1 g2 g3
  have k1 : ∀ i, i ≤ n → G1 (nI i) (dgB n A τ ri we i) 0 := by
    refine pu_down n ?_ ?_
    · refine g1 _ _ _ ⟨fun _ => ⟨fun hF x hx => ?_, fun hF y hy => ?_⟩, fun c => absurd (nI_le (Nat.le_refl n) (by omega)) c⟩
      · rw [hx]
        by_cases hn0 : n = 0
        · exact g3 _ _ _ ⟨fun _ => h0 hF, fun c => absurd (by rw [hn0]; decide) c⟩
        · exact g3 _ _ _ ⟨fun _ => h0 hF, fun _ => ⟨fun _ => h0 hF, fun c => absurd hF c⟩⟩
      obtain ⟨hp, hq⟩ := h1 hF
      rw [hy]
      have k3 : ∀ k, k ≤ n → G3 (nI k) (dgC D (f_mix (f_mix (dgB n A τ ri we n) (nI ℓ).toInt64) 1) k) 0 := by
        refine pu_down n ?_ ?_
        · exact g3 _ _ _ ⟨fun _ => hq, fun c => absurd (nI_le (Nat.le_refl n) (by omega)) c⟩
        · intro k hk ih
          refine g3 _ _ _ ⟨fun c => absurd c (nI_ge hk (by omega)), fun _ => ⟨fun c => absurd c hF, fun _ => ⟨pn_in (by omega) (by decide), fun x hx y hy => ?_⟩⟩⟩
          rw [hy, hx, nI_1, pn_cl (by omega), hp k hk]
          exact ih
      exact k3 0 (by omega)
    · intro i hi ih
      refine g1 _ _ _ ⟨fun c => absurd c (nI_ge hi (by omega)), fun _ => ?_⟩
      have k2 : ∀ j, j ≤ i + 1 → G2 (nI j) (nI i) (dgA A i (dgB n A τ ri we i) j) 0 := by
        refine pu_down (i + 1) ?_ ?_
        · refine g2 _ _ _ _ ⟨fun _ => ⟨pn_in (by omega) (by decide), pn_in (by omega) (by decide), pn_in (by omega) (by decide), fun z hz w hw => ?_⟩, fun c => absurd (nI_lt (by omega) (by omega)) c⟩
          rw [hw, hz, nI_1, pn_cl (by omega), (hC.2.2.1 i (by omega)).2, (hC.2.2.2 i hi).1, (hC.2.2.2 i hi).2]
          exact ih
        · intro j hj ih2
          refine g2 _ _ _ _ ⟨fun c => absurd c (nI_nlt (by omega) (by omega)), fun _ => ⟨by rw [pn_at]; exact pn_in (by omega) (by decide), fun x hx y hy => ?_⟩⟩
          rw [hy, hx, nI_1, pn_at, pn_cl (by omega), hC.2.1 i j hi (by omega)]
          exact ih2
      exact k2 0 (by omega)
  intro x hx
  rw [hx]
  exact k1 0 (by omega)
theorem tl_l {a b : Int64} {x4 : Int32} {Gx : Int32 → Prop} (h1 : a = b) (hg : Gx (x4 + 4)) : ((lg_cmp a b) = 0 → (∀ x : Int32, x = x4 + 4 → (Gx x))) ∧ (¬ (lg_cmp a b) = 0 → (False)) := ⟨fun _ x hx => by rw [hx]; exact hg, fun c => c (by rw [h1]; exact lc_0 _)⟩
theorem pure_35 {L : Nat} {xs : Nat → Int32} {i : Nat} (hL : L ≤ 2048) (hi : 4 * i + 4 ≤ L) {X_solved : Int32} {X_levelCount : Int32} {P_rows : Int32} {P_entries : (Nat → Int32)} {P_order : (Nat → Int32)} {P_places : (Nat → Int32)} {P_rights : (Nat → Int32)} {P_weights : (Nat → Int32)} {L0_rows : Int32} {L0_entries : (Nat → Int32)} {L0_order : (Nat → Int32)} {L0_places : (Nat → Int32)} {L0_rights : (Nat → Int32)} {L0_weights : (Nat → Int32)} {L1_rows : Int32} {L1_entries : (Nat → Int32)} {L1_order : (Nat → Int32)} {L1_places : (Nat → Int32)} {L1_rights : (Nat → Int32)} {L1_weights : (Nat → Int32)} {L2_rows : Int32} {L2_entries : (Nat → Int32)} {L2_order : (Nat → Int32)} {L2_places : (Nat → Int32)} {L2_rights : (Nat → Int32)} {L2_weights : (Nat → Int32)} {L3_rows : Int32} {L3_entries : (Nat → Int32)} {L3_order : (Nat → Int32)} {L3_places : (Nat → Int32)} {L3_rights : (Nat → Int32)} {L3_weights : (Nat → Int32)} {L4_rows : Int32} {L4_entries : (Nat → Int32)} {L4_order : (Nat → Int32)} {L4_places : (Nat → Int32)} {L4_rights : (Nat → Int32)} {L4_weights : (Nat → Int32)} {L5_rows : Int32} {L5_entries : (Nat → Int32)} {L5_order : (Nat → Int32)} {L5_places : (Nat → Int32)} {L5_rights : (Nat → Int32)} {L5_weights : (Nat → Int32)} {E_joined : (Nat → Int32)} {E_later : (Nat → Int32)} {E_paths : (Nat → Int32)} {F_known : Int32} {F_rows : Int32} {F_pivots : (Nat → Int32)} {F_reciprocals : (Nat → Int32)} {F_below : (Nat → Int32)} {R_cells : (Nat → Int32)} {X_vector : (Nat → Int32)} {X_solution : (Nat → Int32)} {M_thrown : Int32} {M_n : Int32} {M_hasFactors : Int32} {M_hasSolution : Int32} {M_levels : Int32} {M_a : (Nat → Int32)} {M_rowAt : (Nat → Int32)} {M_places : (Nat → Int32)} {M_rights : (Nat → Int32)} {M_weights : (Nat → Int32)} {M_pivots : (Nat → Int32)} {M_lower : (Nat → Int32)} {M_solution : (Nat → Int32)} {M_work : (Nat → Int32)} {M_isJoined : (Nat → Int32)} {M_stored : (Nat → Int32)} {O_out : (Nat → Int64)} (hR : Rel X_solved X_levelCount P_rows P_entries P_order P_places P_rights P_weights L0_rows L0_entries L0_order L0_places L0_rights L0_weights L1_rows L1_entries L1_order L1_places L1_rights L1_weights L2_rows L2_entries L2_order L2_places L2_rights L2_weights L3_rows L3_entries L3_order L3_places L3_rights L3_weights L4_rows L4_entries L4_order L4_places L4_rights L4_weights L5_rows L5_entries L5_order L5_places L5_rights L5_weights E_joined E_later E_paths F_known F_rows F_pivots F_reciprocals F_below R_cells X_vector X_solution M_thrown M_n M_hasFactors M_hasSolution M_levels M_a M_rowAt M_places M_rights M_weights M_pivots M_lower M_solution M_work M_isJoined M_stored O_out) {G : Int32 → Int32 → Int32 → Int32 → (Nat → Int32) → (Nat → Int32) → (Nat → Int32) → (Nat → Int32) → (Nat → Int32) → Int32 → (Nat → Int32) → (Nat → Int32) → (Nat → Int32) → (Nat → Int32) → (Nat → Int32) → Int32 → (Nat → Int32) → (Nat → Int32) → (Nat → Int32) → (Nat → Int32) → (Nat → Int32) → Int32 → (Nat → Int32) → (Nat → Int32) → (Nat → Int32) → (Nat → Int32) → (Nat → Int32) → Int32 → (Nat → Int32) → (Nat → Int32) → (Nat → Int32) → (Nat → Int32) → (Nat → Int32) → Int32 → (Nat → Int32) → (Nat → Int32) → (Nat → Int32) → (Nat → Int32) → (Nat → Int32) → Int32 → (Nat → Int32) → (Nat → Int32) → (Nat → Int32) → (Nat → Int32) → (Nat → Int32) → (Nat → Int32) → (Nat → Int32) → (Nat → Int32) → Int32 → Int32 → (Nat → Int32) → (Nat → Int32) → (Nat → Int32) → (Nat → Int32) → (Nat → Int32) → (Nat → Int32) → Int32 → Int32 → Int32 → Int32 → Int32 → (Nat → Int32) → (Nat → Int32) → (Nat → Int32) → (Nat → Int32) → (Nat → Int32) → (Nat → Int32) → (Nat → Int32) → (Nat → Int32) → (Nat → Int32) → (Nat → Int32) → (Nat → Int32) → (Nat → Int64) → Prop} (hG : ∀ (X_solved : Int32) (X_levelCount : Int32) (P_rows : Int32) (P_entries : (Nat → Int32)) (P_order : (Nat → Int32)) (P_places : (Nat → Int32)) (P_rights : (Nat → Int32)) (P_weights : (Nat → Int32)) (L0_rows : Int32) (L0_entries : (Nat → Int32)) (L0_order : (Nat → Int32)) (L0_places : (Nat → Int32)) (L0_rights : (Nat → Int32)) (L0_weights : (Nat → Int32)) (L1_rows : Int32) (L1_entries : (Nat → Int32)) (L1_order : (Nat → Int32)) (L1_places : (Nat → Int32)) (L1_rights : (Nat → Int32)) (L1_weights : (Nat → Int32)) (L2_rows : Int32) (L2_entries : (Nat → Int32)) (L2_order : (Nat → Int32)) (L2_places : (Nat → Int32)) (L2_rights : (Nat → Int32)) (L2_weights : (Nat → Int32)) (L3_rows : Int32) (L3_entries : (Nat → Int32)) (L3_order : (Nat → Int32)) (L3_places : (Nat → Int32)) (L3_rights : (Nat → Int32)) (L3_weights : (Nat → Int32)) (L4_rows : Int32) (L4_entries : (Nat → Int32)) (L4_order : (Nat → Int32)) (L4_places : (Nat → Int32)) (L4_rights : (Nat → Int32)) (L4_weights : (Nat → Int32)) (L5_rows : Int32) (L5_entries : (Nat → Int32)) (L5_order : (Nat → Int32)) (L5_places : (Nat → Int32)) (L5_rights : (Nat → Int32)) (L5_weights : (Nat → Int32)) (E_joined : (Nat → Int32)) (E_later : (Nat → Int32)) (E_paths : (Nat → Int32)) (F_known : Int32) (F_rows : Int32) (F_pivots : (Nat → Int32)) (F_reciprocals : (Nat → Int32)) (F_below : (Nat → Int32)) (R_cells : (Nat → Int32)) (X_vector : (Nat → Int32)) (X_solution : (Nat → Int32)) (M_thrown : Int32) (M_n : Int32) (M_hasFactors : Int32) (M_hasSolution : Int32) (M_levels : Int32) (M_a : (Nat → Int32)) (M_rowAt : (Nat → Int32)) (M_places : (Nat → Int32)) (M_rights : (Nat → Int32)) (M_weights : (Nat → Int32)) (M_pivots : (Nat → Int32)) (M_lower : (Nat → Int32)) (M_solution : (Nat → Int32)) (M_work : (Nat → Int32)) (M_isJoined : (Nat → Int32)) (M_stored : (Nat → Int32)) (O_out : (Nat → Int64)), Rel X_solved X_levelCount P_rows P_entries P_order P_places P_rights P_weights L0_rows L0_entries L0_order L0_places L0_rights L0_weights L1_rows L1_entries L1_order L1_places L1_rights L1_weights L2_rows L2_entries L2_order L2_places L2_rights L2_weights L3_rows L3_entries L3_order L3_places L3_rights L3_weights L4_rows L4_entries L4_order L4_places L4_rights L4_weights L5_rows L5_entries L5_order L5_places L5_rights L5_weights E_joined E_later E_paths F_known F_rows F_pivots F_reciprocals F_below R_cells X_vector X_solution M_thrown M_n M_hasFactors M_hasSolution M_levels M_a M_rowAt M_places M_rights M_weights M_pivots M_lower M_solution M_work M_isJoined M_stored O_out → G (nI (4 * i) + 4) X_solved X_levelCount P_rows P_entries P_order P_places P_rights P_weights L0_rows L0_entries L0_order L0_places L0_rights L0_weights L1_rows L1_entries L1_order L1_places L1_rights L1_weights L2_rows L2_entries L2_order L2_places L2_rights L2_weights L3_rows L3_entries L3_order L3_places L3_rights L3_weights L4_rows L4_entries L4_order L4_places L4_rights L4_weights L5_rows L5_entries L5_order L5_places L5_rights L5_weights E_joined E_later E_paths F_known F_rows F_pivots F_reciprocals F_below R_cells X_vector X_solution M_thrown M_n M_hasFactors M_hasSolution M_levels M_a M_rowAt M_places M_rights M_weights M_pivots M_lower M_solution M_work M_isJoined M_stored O_out) : vc_law_35 L xs (nI (4 * i)) X_solved X_levelCount P_rows P_entries P_order P_places P_rights P_weights L0_rows L0_entries L0_order L0_places L0_rights L0_weights L1_rows L1_entries L1_order L1_places L1_rights L1_weights L2_rows L2_entries L2_order L2_places L2_rights L2_weights L3_rows L3_entries L3_order L3_places L3_rights L3_weights L4_rows L4_entries L4_order L4_places L4_rights L4_weights L5_rows L5_entries L5_order L5_places L5_rights L5_weights E_joined E_later E_paths F_known F_rows F_pivots F_reciprocals F_below R_cells X_vector X_solution M_thrown M_n M_hasFactors M_hasSolution M_levels M_a M_rowAt M_places M_rights M_weights M_pivots M_lower M_solution M_work M_isJoined M_stored O_out G := by
  obtain ⟨n, A, σ, τ, ri, we, fk, fs, ℓ, hW, hC, hM, hF, hS, hV⟩ := id hR
  have hg : ∀ t, G (nI (4 * i) + 4) X_solved X_levelCount P_rows P_entries P_order P_places P_rights P_weights L0_rows L0_entries L0_order L0_places L0_rights L0_weights L1_rows L1_entries L1_order L1_places L1_rights L1_weights L2_rows L2_entries L2_order L2_places L2_rights L2_weights L3_rows L3_entries L3_order L3_places L3_rights L3_weights L4_rows L4_entries L4_order L4_places L4_rights L4_weights L5_rows L5_entries L5_order L5_places L5_rights L5_weights E_joined E_later E_paths F_known F_rows F_pivots F_reciprocals F_below R_cells X_vector X_solution t M_n M_hasFactors M_hasSolution M_levels M_a M_rowAt M_places M_rights M_weights M_pivots M_lower M_solution M_work M_isJoined M_stored O_out := fun t => hG X_solved X_levelCount P_rows P_entries P_order P_places P_rights P_weights L0_rows L0_entries L0_order L0_places L0_rights L0_weights L1_rows L1_entries L1_order L1_places L1_rights L1_weights L2_rows L2_entries L2_order L2_places L2_rights L2_weights L3_rows L3_entries L3_order L3_places L3_rights L3_weights L4_rows L4_entries L4_order L4_places L4_rights L4_weights L5_rows L5_entries L5_order L5_places L5_rights L5_weights E_joined E_later E_paths F_known F_rows F_pivots F_reciprocals F_below R_cells X_vector X_solution t M_n M_hasFactors M_hasSolution M_levels M_a M_rowAt M_places M_rights M_weights M_pivots M_lower M_solution M_work M_isJoined M_stored O_out ⟨n, A, σ, τ, ri, we, fk, fs, ℓ, hW, hC, hM, hF, hS, hV⟩
  have hn := hW.2.1
  obtain ⟨v1, v2, v3, v4⟩ := id hV
  obtain ⟨f1, f2, f3⟩ := id hF
  have c1 := hC.1
  have m1 := hM.1
  subst v1 v2 c1 m1 f1 f2
  unfold vc_law_35
  cases fk with
  | false =>
    refine sp_dig4 (D := fun _ => 0) hn hC (fun _ => ?_) (fun c => absurd rfl c)
    refine sp_dig5 (D := fun _ => 0) hn hM (fun _ => ?_) (fun c => absurd rfl c)
    exact tl_l rfl (hg _)
  | true =>
    obtain ⟨D, Lf, e1, e2, e3, e4⟩ := f3 rfl
    refine sp_dig4 (D := D) hn hC (fun c => absurd c (by decide)) (fun _ => ⟨fun k hk => (e3 k hk).1, ?_⟩)
    refine sp_dig5 (D := D) hn hM (fun c => absurd c (by decide)) (fun _ => ⟨fun k hk => (e3 k hk).2.1, ?_⟩)
    exact tl_l rfl (hg _)
