/-! PURE: update -/
def adW (A : Nat → Nat → Nat) (f : Nat) (we : Nat → Nat) (i j : Nat) : Nat := (A i j + f * (we i * we j % 65521) % 65521) % 65521
theorem adW_lt (A : Nat → Nat → Nat) (f : Nat) (we : Nat → Nat) : ∀ i j, adW A f we i j < 65521 := fun _ _ => md_lt _
theorem adW_sym {A : Nat → Nat → Nat} (h : ∀ i j, A i j = A j i) (f : Nat) (we : Nat → Nat) : ∀ i j, adW A f we i j = adW A f we j i := fun i j => by
  unfold adW
  rw [h i j, Nat.mul_comm (we i)]
theorem adW_cl (A : Nat → Nat → Nat) (f : Nat) (we : Nat → Nat) (i j : Nat) : (A i j + f * we i % 65521 * we j % 65521) % 65521 = adW A f we i j := by
  unfold adW
  rw [Nat.mod_mul_mod, Nat.mul_mod_mod, Nat.mul_assoc]
theorem sp_addW {n f : Nat} {A : Nat → Nat → Nat} {σ τ ri we : Nat → Nat} (hW : WF n A σ τ ri we) (hf : f < 65521) {pe po pp pr pw : Nat → Int32} (hC : CP n A σ τ ri we (nI n) pe po pp pr pw) {Q : (Nat → Int32) → Prop} (h : ∀ pe, (∀ r c, r < n → c < n → pe (16 * r + c) = nI (adW A f we r c)) → Q pe) : wp_X2_addWeights (nI f) (nI n) pw pe Q := by
  have hn := hW.2.1
  have hw := hW.2.2.2.2.2.2.2
  intro G1 G2 g1 g2
  have k1 : ∀ i, i ≤ n → ∀ pe, (∀ r c, r < n → c < n → pe (16 * r + c) = nI (if r < i ∧ c < i then adW A f we r c else A r c)) → G1 (nI i) pe := by
    refine pu_down n ?_ ?_
    · intro pe hI
      exact g1 _ _ ⟨fun _ => h _ (fun r c hr hc => by rw [hI r c hr hc, if_pos ⟨hr, hc⟩]), fun c => absurd (nI_le (Nat.le_refl n) (by omega)) c⟩
    · intro i hi ih pe hI
      refine g1 _ _ ⟨fun c => absurd c (nI_ge hi (by omega)), fun _ => ⟨pn_in (by omega) (by decide), fun x hx => ?_⟩⟩
      rw [hx, pn_cl (by omega), (hC.2.2 i hi).2.2.2, pn_times hf (hw i)]
      have k2 : ∀ j, j ≤ i + 1 → ∀ pe, (∀ r c, r < n → c < n → pe (16 * r + c) = nI (if (r < i ∧ c < i) ∨ (r = i ∧ c < j) ∨ (c = i ∧ r < j) then adW A f we r c else A r c)) → G2 (nI j) (nI (f * we i % 65521)) (nI i) pe := by
        refine pu_down (i + 1) ?_ ?_
        · intro pe hI2
          refine g2 _ _ _ _ ⟨fun _ y hy => ?_, fun c => absurd (nI_lt (by omega) (by omega)) c⟩
          rw [hy, nI_1]
          refine ih _ (fun r c hr hc => ?_)
          rw [hI2 r c hr hc]
          by_cases hq : r < i + 1 ∧ c < i + 1
          · rw [if_pos hq, if_pos (by omega)]
          · rw [if_neg hq, if_neg (by omega)]
        · intro j hj ih2 pe hI2
          refine g2 _ _ _ _ ⟨fun c => absurd c (nI_nlt (by omega) (by omega)), fun _ => ⟨by rw [pn_cell]; exact pn_in (by omega) (by decide), pn_in (by omega) (by decide), by rw [pn_cell]; exact pn_in (by omega) (by decide), by rw [pn_cell]; exact pn_in (by omega) (by decide), fun y hy => ?_⟩⟩
          rw [hy, nI_1, pn_cell, pn_cell, pn_cl (by omega), pn_cl (by omega), pn_cl (by omega), hI2 i j hi (by omega), if_neg (by omega), (hC.2.2 j (by omega)).2.2.2, pn_times (md_lt _) (hw j), pn_plus (hW.2.2.1 _ _) (md_lt _), adW_cl]
          refine ih2 _ (fun r c hr hc => ?_)
          rw [upd_at, upd_at]
          by_cases q1 : 16 * r + c = 16 * j + i
          · have : r = j ∧ c = i := by omega
            rw [if_pos q1, if_pos (by omega), this.1, this.2, adW_sym hW.2.2.2.1]
          · rw [if_neg q1]
            by_cases q2 : 16 * r + c = 16 * i + j
            · have : r = i ∧ c = j := by omega
              rw [if_pos q2, if_pos (by omega), this.1, this.2]
            · rw [if_neg q2, hI2 r c hr hc]
              by_cases q3 : (r < i ∧ c < i) ∨ (r = i ∧ c < j) ∨ (c = i ∧ r < j)
              · rw [if_pos q3, if_pos (by omega)]
              · rw [if_neg q3, if_neg (by omega)]
      refine k2 0 (by omega) _ (fun r c hr hc => ?_)
      rw [hI r c hr hc]
      by_cases q3 : r < i ∧ c < i
      · rw [if_pos q3, if_pos (by omega)]
      · rw [if_neg q3, if_neg (by omega)]
  exact k1 0 (by omega) _ (fun r c hr hc => by rw [hC.2.1 r c hr hc, if_neg (by omega)])
theorem sp_upd5 {n f : Nat} {A : Nat → Nat → Nat} {σ τ ri we : Nat → Nat} (hW : WF n A σ τ ri we) (hf : f < 65521) {mt mh ms mv : Int32} (hh : ¬ mh = 0) {ma ro pl mr mw ml mp : Nat → Int32} (hM : MP n A σ τ ri we (nI n) ma ro pl mr mw) {Q : Int32 → Int32 → Int32 → (Nat → Int32) → (Nat → Int32) → (Nat → Int32) → Prop} (h : ∀ ma, MP n (adW A f we) σ τ ri we (nI n) ma ro pl mr mw → wp_X5_find 0 (nI n) mh ms mv ro ma ml mp (fun r u2 u3 u4 => Q r 0 u2 ma u3 u4)) : wp_X5_update (nI f) mt (nI n) mh ms mv ro ma ml mp mw Q := by
  have hn := hW.2.1
  have hw := hW.2.2.2.2.2.2.2
  intro G1 G2 g1 g2
  have k1 : ∀ i, i ≤ n → ∀ ma, (∀ r c, r < n → c < n → ma (16 * r + c) = nI (if r < i then adW A f we r c else A r c)) → G1 (nI i) 0 mh ma ml mp := by
    refine pu_down n ?_ ?_
    · intro ma hI
      exact g1 _ _ _ _ _ _ ⟨fun _ => h _ ⟨rfl, fun r c hr hc => by rw [hI r c hr hc, if_pos hr], hM.2.2⟩, fun c => absurd (nI_le (Nat.le_refl n) (by omega)) c⟩
    · intro i hi ih ma hI
      refine g1 _ _ _ _ _ _ ⟨fun c => absurd c (nI_ge hi (by omega)), fun _ => ?_⟩
      have k2 : ∀ j, j ≤ n → ∀ ma, (∀ r c, r < n → c < n → ma (16 * r + c) = nI (if r < i ∨ (r = i ∧ c < j) then adW A f we r c else A r c)) → G2 (nI j) (nI i) 0 mh ma ml mp := by
        refine pu_down n ?_ ?_
        · intro ma hI2
          refine g2 _ _ _ _ _ _ _ ⟨fun _ y hy => ?_, fun c => absurd (nI_le (Nat.le_refl n) (by omega)) c⟩
          rw [hy, nI_1]
          refine ih _ (fun r c hr hc => ?_)
          rw [hI2 r c hr hc]
          by_cases hq : r < i + 1
          · rw [if_pos hq, if_pos (by omega)]
          · rw [if_neg hq, if_neg (by omega)]
        · intro j hj ih2 ma hI2
          refine g2 _ _ _ _ _ _ _ ⟨fun c => absurd c (nI_ge hj (by omega)), fun _ => ⟨by rw [pn_at]; exact pn_in (by omega) (by decide), pn_in (by omega) (by decide), pn_in (by omega) (by decide), by rw [pn_at]; exact pn_in (by omega) (by decide), fun y hy => ?_⟩⟩
          rw [hy, nI_1, pn_at, pn_cl (by omega), pn_cl (by omega), pn_cl (by omega), hI2 i j hi hj, if_neg (by omega), (hM.2.2.2 i hi).2, (hM.2.2.2 j hj).2, pn_times (hw i) (hw j), pn_times hf (md_lt _), nI_add, show (65521 : Int32) = nI 65521 from rfl, pk_rem (by have := hW.2.2.1 i j; have := md_lt (f * (we i * we j % 65521)); omega) (by decide) (by decide)]
          refine ih2 _ (fun r c hr hc => ?_)
          rw [upd_at]
          by_cases q2 : 16 * r + c = 16 * i + j
          · have : r = i ∧ c = j := by omega
            rw [if_pos q2, if_pos (by omega), this.1, this.2]; rfl
          · rw [if_neg q2, hI2 r c hr hc]
            by_cases q3 : r < i ∨ (r = i ∧ c < j)
            · rw [if_pos q3, if_pos (by omega)]
            · rw [if_neg q3, if_neg (by omega)]
      refine k2 0 (by omega) _ (fun r c hr hc => ?_)
      rw [hI r c hr hc]
      by_cases q3 : r < i
      · rw [if_pos q3, if_pos (by omega)]
      · rw [if_neg q3, if_neg (by omega)]
  refine ⟨fun c => absurd c (by rw [rs_ok hf]; decide), fun _ => ⟨fun c => absurd c hh, fun _ => ?_⟩⟩
  exact k1 0 (by omega) _ (fun r c hr hc => by rw [hM.2.1 r c hr hc, if_neg (by omega)])
theorem pure_28 {L : Nat} {xs : Nat → Int32} {i : Nat} (hL : L ≤ 2048) (hi : 4 * i + 4 ≤ L) {X_solved : Int32} {X_levelCount : Int32} {P_rows : Int32} {P_entries : (Nat → Int32)} {P_order : (Nat → Int32)} {P_places : (Nat → Int32)} {P_rights : (Nat → Int32)} {P_weights : (Nat → Int32)} {L0_rows : Int32} {L0_entries : (Nat → Int32)} {L0_order : (Nat → Int32)} {L0_places : (Nat → Int32)} {L0_rights : (Nat → Int32)} {L0_weights : (Nat → Int32)} {L1_rows : Int32} {L1_entries : (Nat → Int32)} {L1_order : (Nat → Int32)} {L1_places : (Nat → Int32)} {L1_rights : (Nat → Int32)} {L1_weights : (Nat → Int32)} {L2_rows : Int32} {L2_entries : (Nat → Int32)} {L2_order : (Nat → Int32)} {L2_places : (Nat → Int32)} {L2_rights : (Nat → Int32)} {L2_weights : (Nat → Int32)} {L3_rows : Int32} {L3_entries : (Nat → Int32)} {L3_order : (Nat → Int32)} {L3_places : (Nat → Int32)} {L3_rights : (Nat → Int32)} {L3_weights : (Nat → Int32)} {L4_rows : Int32} {L4_entries : (Nat → Int32)} {L4_order : (Nat → Int32)} {L4_places : (Nat → Int32)} {L4_rights : (Nat → Int32)} {L4_weights : (Nat → Int32)} {L5_rows : Int32} {L5_entries : (Nat → Int32)} {L5_order : (Nat → Int32)} {L5_places : (Nat → Int32)} {L5_rights : (Nat → Int32)} {L5_weights : (Nat → Int32)} {E_joined : (Nat → Int32)} {E_later : (Nat → Int32)} {E_paths : (Nat → Int32)} {F_known : Int32} {F_rows : Int32} {F_pivots : (Nat → Int32)} {F_reciprocals : (Nat → Int32)} {F_below : (Nat → Int32)} {R_cells : (Nat → Int32)} {X_vector : (Nat → Int32)} {X_solution : (Nat → Int32)} {M_thrown : Int32} {M_n : Int32} {M_hasFactors : Int32} {M_hasSolution : Int32} {M_levels : Int32} {M_a : (Nat → Int32)} {M_rowAt : (Nat → Int32)} {M_places : (Nat → Int32)} {M_rights : (Nat → Int32)} {M_weights : (Nat → Int32)} {M_pivots : (Nat → Int32)} {M_lower : (Nat → Int32)} {M_solution : (Nat → Int32)} {M_work : (Nat → Int32)} {M_isJoined : (Nat → Int32)} {M_stored : (Nat → Int32)} {O_out : (Nat → Int64)} (hR : Rel X_solved X_levelCount P_rows P_entries P_order P_places P_rights P_weights L0_rows L0_entries L0_order L0_places L0_rights L0_weights L1_rows L1_entries L1_order L1_places L1_rights L1_weights L2_rows L2_entries L2_order L2_places L2_rights L2_weights L3_rows L3_entries L3_order L3_places L3_rights L3_weights L4_rows L4_entries L4_order L4_places L4_rights L4_weights L5_rows L5_entries L5_order L5_places L5_rights L5_weights E_joined E_later E_paths F_known F_rows F_pivots F_reciprocals F_below R_cells X_vector X_solution M_thrown M_n M_hasFactors M_hasSolution M_levels M_a M_rowAt M_places M_rights M_weights M_pivots M_lower M_solution M_work M_isJoined M_stored O_out) {G : Int32 → Int32 → Int32 → Int32 → (Nat → Int32) → (Nat → Int32) → (Nat → Int32) → (Nat → Int32) → (Nat → Int32) → Int32 → (Nat → Int32) → (Nat → Int32) → (Nat → Int32) → (Nat → Int32) → (Nat → Int32) → Int32 → (Nat → Int32) → (Nat → Int32) → (Nat → Int32) → (Nat → Int32) → (Nat → Int32) → Int32 → (Nat → Int32) → (Nat → Int32) → (Nat → Int32) → (Nat → Int32) → (Nat → Int32) → Int32 → (Nat → Int32) → (Nat → Int32) → (Nat → Int32) → (Nat → Int32) → (Nat → Int32) → Int32 → (Nat → Int32) → (Nat → Int32) → (Nat → Int32) → (Nat → Int32) → (Nat → Int32) → Int32 → (Nat → Int32) → (Nat → Int32) → (Nat → Int32) → (Nat → Int32) → (Nat → Int32) → (Nat → Int32) → (Nat → Int32) → (Nat → Int32) → Int32 → Int32 → (Nat → Int32) → (Nat → Int32) → (Nat → Int32) → (Nat → Int32) → (Nat → Int32) → (Nat → Int32) → Int32 → Int32 → Int32 → Int32 → Int32 → (Nat → Int32) → (Nat → Int32) → (Nat → Int32) → (Nat → Int32) → (Nat → Int32) → (Nat → Int32) → (Nat → Int32) → (Nat → Int32) → (Nat → Int32) → (Nat → Int32) → (Nat → Int32) → (Nat → Int64) → Prop} (hG : ∀ (X_solved : Int32) (X_levelCount : Int32) (P_rows : Int32) (P_entries : (Nat → Int32)) (P_order : (Nat → Int32)) (P_places : (Nat → Int32)) (P_rights : (Nat → Int32)) (P_weights : (Nat → Int32)) (L0_rows : Int32) (L0_entries : (Nat → Int32)) (L0_order : (Nat → Int32)) (L0_places : (Nat → Int32)) (L0_rights : (Nat → Int32)) (L0_weights : (Nat → Int32)) (L1_rows : Int32) (L1_entries : (Nat → Int32)) (L1_order : (Nat → Int32)) (L1_places : (Nat → Int32)) (L1_rights : (Nat → Int32)) (L1_weights : (Nat → Int32)) (L2_rows : Int32) (L2_entries : (Nat → Int32)) (L2_order : (Nat → Int32)) (L2_places : (Nat → Int32)) (L2_rights : (Nat → Int32)) (L2_weights : (Nat → Int32)) (L3_rows : Int32) (L3_entries : (Nat → Int32)) (L3_order : (Nat → Int32)) (L3_places : (Nat → Int32)) (L3_rights : (Nat → Int32)) (L3_weights : (Nat → Int32)) (L4_rows : Int32) (L4_entries : (Nat → Int32)) (L4_order : (Nat → Int32)) (L4_places : (Nat → Int32)) (L4_rights : (Nat → Int32)) (L4_weights : (Nat → Int32)) (L5_rows : Int32) (L5_entries : (Nat → Int32)) (L5_order : (Nat → Int32)) (L5_places : (Nat → Int32)) (L5_rights : (Nat → Int32)) (L5_weights : (Nat → Int32)) (E_joined : (Nat → Int32)) (E_later : (Nat → Int32)) (E_paths : (Nat → Int32)) (F_known : Int32) (F_rows : Int32) (F_pivots : (Nat → Int32)) (F_reciprocals : (Nat → Int32)) (F_below : (Nat → Int32)) (R_cells : (Nat → Int32)) (X_vector : (Nat → Int32)) (X_solution : (Nat → Int32)) (M_thrown : Int32) (M_n : Int32) (M_hasFactors : Int32) (M_hasSolution : Int32) (M_levels : Int32) (M_a : (Nat → Int32)) (M_rowAt : (Nat → Int32)) (M_places : (Nat → Int32)) (M_rights : (Nat → Int32)) (M_weights : (Nat → Int32)) (M_pivots : (Nat → Int32)) (M_lower : (Nat → Int32)) (M_solution : (Nat → Int32)) (M_work : (Nat → Int32)) (M_isJoined : (Nat → Int32)) (M_stored : (Nat → Int32)) (O_out : (Nat → Int64)), Rel X_solved X_levelCount P_rows P_entries P_order P_places P_rights P_weights L0_rows L0_entries L0_order L0_places L0_rights L0_weights L1_rows L1_entries L1_order L1_places L1_rights L1_weights L2_rows L2_entries L2_order L2_places L2_rights L2_weights L3_rows L3_entries L3_order L3_places L3_rights L3_weights L4_rows L4_entries L4_order L4_places L4_rights L4_weights L5_rows L5_entries L5_order L5_places L5_rights L5_weights E_joined E_later E_paths F_known F_rows F_pivots F_reciprocals F_below R_cells X_vector X_solution M_thrown M_n M_hasFactors M_hasSolution M_levels M_a M_rowAt M_places M_rights M_weights M_pivots M_lower M_solution M_work M_isJoined M_stored O_out → G (nI (4 * i) + 4) X_solved X_levelCount P_rows P_entries P_order P_places P_rights P_weights L0_rows L0_entries L0_order L0_places L0_rights L0_weights L1_rows L1_entries L1_order L1_places L1_rights L1_weights L2_rows L2_entries L2_order L2_places L2_rights L2_weights L3_rows L3_entries L3_order L3_places L3_rights L3_weights L4_rows L4_entries L4_order L4_places L4_rights L4_weights L5_rows L5_entries L5_order L5_places L5_rights L5_weights E_joined E_later E_paths F_known F_rows F_pivots F_reciprocals F_below R_cells X_vector X_solution M_thrown M_n M_hasFactors M_hasSolution M_levels M_a M_rowAt M_places M_rights M_weights M_pivots M_lower M_solution M_work M_isJoined M_stored O_out) : vc_law_28 L xs (nI (4 * i)) X_solved X_levelCount P_rows P_entries P_order P_places P_rights P_weights L0_rows L0_entries L0_order L0_places L0_rights L0_weights L1_rows L1_entries L1_order L1_places L1_rights L1_weights L2_rows L2_entries L2_order L2_places L2_rights L2_weights L3_rows L3_entries L3_order L3_places L3_rights L3_weights L4_rows L4_entries L4_order L4_places L4_rights L4_weights L5_rows L5_entries L5_order L5_places L5_rights L5_weights E_joined E_later E_paths F_known F_rows F_pivots F_reciprocals F_below R_cells X_vector X_solution M_thrown M_n M_hasFactors M_hasSolution M_levels M_a M_rowAt M_places M_rights M_weights M_pivots M_lower M_solution M_work M_isJoined M_stored O_out G := by
  obtain ⟨n, A, σ, τ, ri, we, fk, fs, ℓ, hW, hC, hM, hF, hS, hV⟩ := id hR
  have hg : ∀ t o, G (nI (4 * i) + 4) X_solved X_levelCount P_rows P_entries P_order P_places P_rights P_weights L0_rows L0_entries L0_order L0_places L0_rights L0_weights L1_rows L1_entries L1_order L1_places L1_rights L1_weights L2_rows L2_entries L2_order L2_places L2_rights L2_weights L3_rows L3_entries L3_order L3_places L3_rights L3_weights L4_rows L4_entries L4_order L4_places L4_rights L4_weights L5_rows L5_entries L5_order L5_places L5_rights L5_weights E_joined E_later E_paths F_known F_rows F_pivots F_reciprocals F_below R_cells X_vector X_solution t M_n M_hasFactors M_hasSolution M_levels M_a M_rowAt M_places M_rights M_weights M_pivots M_lower M_solution M_work M_isJoined M_stored o := fun t o => hG X_solved X_levelCount P_rows P_entries P_order P_places P_rights P_weights L0_rows L0_entries L0_order L0_places L0_rights L0_weights L1_rows L1_entries L1_order L1_places L1_rights L1_weights L2_rows L2_entries L2_order L2_places L2_rights L2_weights L3_rows L3_entries L3_order L3_places L3_rights L3_weights L4_rows L4_entries L4_order L4_places L4_rights L4_weights L5_rows L5_entries L5_order L5_places L5_rights L5_weights E_joined E_later E_paths F_known F_rows F_pivots F_reciprocals F_below R_cells X_vector X_solution t M_n M_hasFactors M_hasSolution M_levels M_a M_rowAt M_places M_rights M_weights M_pivots M_lower M_solution M_work M_isJoined M_stored o ⟨n, A, σ, τ, ri, we, fk, fs, ℓ, hW, hC, hM, hF, hS, hV⟩
  have hn := hW.2.1
  refine ⟨sc1 hL hi, ?_⟩
  generalize xs (Int32.toNatClampNeg (nI (4 * i) + 1)) = a
  have e1 := hC.1
  have e2 := hM.1
  subst e1
  subst e2
  unfold wp_L_update wp_X4_update
  rcases px_ix a (n := 65521) (by omega) with ha | ⟨f, hf, rfl⟩
  · refine ns_no ha (Or.inl ⟨rfl, sc1 hL hi, ?_⟩)
    intro G1 G2 g1 g2
    refine ⟨fun _ => ?_, fun c => absurd (rs_no ha) c⟩
    exact tl_i (m1 := 0) (m2 := 0) (m3 := 0) (m4 := 0) rfl (fun c => absurd c (by decide)) (hg _ _)
  · refine ns_ok hf ?_
    obtain ⟨f1, f2, f3⟩ := id hF
    cases fk with
    | false =>
      refine nf_no f1 (Or.inr ⟨rfl, sc1 hL hi, ?_⟩)
      intro G1 G2 g1 g2
      refine ⟨fun c => absurd c (by rw [rs_ok hf]; decide), fun _ => ⟨fun _ => ?_, fun c => absurd f2 c⟩⟩
      exact tl_i (m1 := 0) (m2 := 0) (m3 := 0) (m4 := 0) rfl (fun c => absurd c (by decide)) (hg _ _)
    | true =>
      refine nf_ok f1 ?_
      have hW2 : WF n (adW A f we) σ τ ri we := ⟨hW.1, hn, adW_lt A f we, adW_sym hW.2.2.2.1 f we, hW.2.2.2.2⟩
      refine sp_addW hW hf hC (fun pe hpe => ?_)
      have hC2 : CP n (adW A f we) σ τ ri we (nI n) pe P_order P_places P_rights P_weights := ⟨rfl, hpe, hC.2.2⟩
      refine sp_find1 hW2 hC2 (fun fb fp fr hI => ⟨sc1 hL hi, ?_⟩) (fun k hk h1 h2 fb fp fr => ⟨sc1 hL hi, ?_⟩)
      · refine sp_upd5 hW hf (by rw [f2]; decide) hM (fun ma hM2 => ?_)
        refine sp_find5 hW2 hM2 (fun ml mp hI5 => ?_) (fun k hk h1 h2 ml mp => absurd h1 (hI.1 k hk).1)
        have hg2 : ∀ o, G (nI (4 * i) + 4) X_solved X_levelCount (nI n) pe P_order P_places P_rights P_weights L0_rows L0_entries L0_order L0_places L0_rights L0_weights L1_rows L1_entries L1_order L1_places L1_rights L1_weights L2_rows L2_entries L2_order L2_places L2_rights L2_weights L3_rows L3_entries L3_order L3_places L3_rights L3_weights L4_rows L4_entries L4_order L4_places L4_rights L4_weights L5_rows L5_entries L5_order L5_places L5_rights L5_weights E_joined E_later E_paths 1 (nI n) fp fr fb R_cells X_vector X_solution 0 (nI n) 1 M_hasSolution M_levels ma M_rowAt M_places M_rights M_weights mp ml M_solution M_work M_isJoined M_stored o := fun o => hG _ _ _ _ _ _ _ _ _ _ _ _ _ _ _ _ _ _ _ _ _ _ _ _ _ _ _ _ _ _ _ _ _ _ _ _ _ _ _ _ _ _ _ _ _ _ _ _ _ _ _ _ _ _ _ _ _ _ _ _ _ _ _ _ _ _ _ _ _ _ _ _ ⟨n, adW A f we, σ, τ, ri, we, true, fs, ℓ, hW2, hC2, hM2, FA_yes hW2.2.2.1 hI hI5, hS, hV⟩
        exact tl_i rfl (fun _ => ul_0 _ _) (hg2 _)
      · refine sp_upd5 hW hf (by rw [f2]; decide) hM (fun ma hM2 => ?_)
        refine sp_find5 hW2 hM2 (fun ml mp hI5 => absurd h1 (hI5.1 k hk).1) (fun k' hk' h3 h4 ml mp => ?_)
        have hg2 : ∀ o, G (nI (4 * i) + 4) X_solved X_levelCount (nI n) pe P_order P_places P_rights P_weights L0_rows L0_entries L0_order L0_places L0_rights L0_weights L1_rows L1_entries L1_order L1_places L1_rights L1_weights L2_rows L2_entries L2_order L2_places L2_rights L2_weights L3_rows L3_entries L3_order L3_places L3_rights L3_weights L4_rows L4_entries L4_order L4_places L4_rights L4_weights L5_rows L5_entries L5_order L5_places L5_rights L5_weights E_joined E_later E_paths 0 (nI n) fp fr fb R_cells X_vector X_solution 0 (nI n) 0 M_hasSolution M_levels ma M_rowAt M_places M_rights M_weights mp ml M_solution M_work M_isJoined M_stored o := fun o => hG _ _ _ _ _ _ _ _ _ _ _ _ _ _ _ _ _ _ _ _ _ _ _ _ _ _ _ _ _ _ _ _ _ _ _ _ _ _ _ _ _ _ _ _ _ _ _ _ _ _ _ _ _ _ _ _ _ _ _ _ _ _ _ _ _ _ _ _ _ _ _ _ ⟨n, adW A f we, σ, τ, ri, we, false, fs, ℓ, hW2, hC2, hM2, FA_no, hS, hV⟩
        refine tl_i rfl (fun _ => ?_) (hg2 _)
        rw [ul_0, dp_one h1 h2 h3 h4]
