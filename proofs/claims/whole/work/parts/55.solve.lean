/-! PURE: solve and inverse -/
def WB (A : Nat → Nat → Nat) (b : Nat → Nat) (i j : Nat) : Nat := if j = 16 then b i else A i j
def XS (n : Nat) (A : Nat → Nat → Nat) (b : Nat → Nat) (j : Nat) : Nat := gjW n (WB A b) n j 16
theorem WB_lt {A : Nat → Nat → Nat} (hA : ∀ i j, A i j < 65521) {b : Nat → Nat} (hb : ∀ i, b i < 65521) : ∀ i j, WB A b i j < 65521 := fun i j => by
  unfold WB
  split
  · exact hb _
  · exact hA _ _
theorem WB_in {A : Nat → Nat → Nat} {b : Nat → Nat} {i j : Nat} (h : j < 16) : WB A b i j = A i j := if_neg (by omega)
theorem WB_16 (A : Nat → Nat → Nat) (b : Nat → Nat) (i : Nat) : WB A b i 16 = b i := if_pos rfl
theorem sol_reg {n : Nat} {A : Nat → Nat → Nat} {σ τ ri we : Nat → Nat} (hW : WF n A σ τ ri we) {D : Nat → Nat} {Lf : Nat → Nat → Nat} (hL : LD n A σ D Lf) (b : Nat → Nat) : ∀ x : Nat → FP, (∀ i, i < n → sf (fun j => cf (WB A b i j) * x j) n = 0) → ∀ j, j < n → x j = 0 := by
  have hn := hW.2.1
  have hs := WF_p hW
  intro x hx j hj
  have h0 := ldl_0 hW.2.2.1 hW.2.2.2.1 hL (x := fun q => x (σ q)) (fun p hp => by
    have h1 := hx (σ p) (hs p hp).1
    rw [← sf_perm hs (fun j => cf (WB A b (σ p) j) * x j)] at h1
    rw [← h1]
    exact sf_cong n (fun q hq => by rw [WB_in (by have := (hs q hq).1; omega)]))
  have h2 := h0 (τ j) (hs j hj).2.1
  rw [(hs j hj).2.2.2] at h2
  exact h2
theorem sol_piv {n : Nat} {A : Nat → Nat → Nat} {σ τ ri we : Nat → Nat} (hW : WF n A σ τ ri we) {D : Nat → Nat} {Lf : Nat → Nat → Nat} (hL : LD n A σ D Lf) {b : Nat → Nat} (hb : ∀ i, b i < 65521) : ∀ q, q < n → pv n (gjW n (WB A b) q) q < n :=
  gj_all hW.2.1 (WB_lt hW.2.2.1 hb) (sol_reg hW hL b) n (Nat.le_refl n)
theorem sol_b {n : Nat} {A : Nat → Nat → Nat} {σ τ ri we : Nat → Nat} (hW : WF n A σ τ ri we) {D : Nat → Nat} {Lf : Nat → Nat → Nat} (hL : LD n A σ D Lf) {b : Nat → Nat} (hb : ∀ i, b i < 65521) {p : Nat} (hp : p < n) : cf (b (σ p)) = sf (fun m => ll Lf p m * (cf (D m) * yy n Lf (fun q => cf (XS n A b (σ q))) m)) n := by
  have hn := hW.2.1
  have hs := WF_p hW
  rw [← ldl_b hW.2.2.1 hW.2.2.2.1 hL (fun q => cf (XS n A b (σ q))) hp]
  have h1 := gj_sol hn (WB_lt hW.2.2.1 hb) (sol_piv hW hL hb) (σ p) (hs p hp).1
  rw [WB_16, ← sf_perm hs (fun j => cf (WB A b (σ p) j) * cf (gjW n (WB A b) n j 16))] at h1
  rw [← h1]
  exact sf_cong n (fun q hq => by
    rw [WB_in (by have := (hs q hq).1; omega)]; rfl)
theorem XS_lt {n : Nat} {A : Nat → Nat → Nat} (hA : ∀ i j, A i j < 65521) {b : Nat → Nat} (hb : ∀ i, b i < 65521) (j : Nat) : XS n A b j < 65521 := gjW_lt (WB_lt hA hb) n j 16
/-- the class's resolve gives the solution, by positions -/
theorem sp_sol4 {n : Nat} {A : Nat → Nat → Nat} {σ τ ri we : Nat → Nat} (hW : WF n A σ τ ri we) {D : Nat → Nat} {Lf : Nat → Nat → Nat} (hL : LD n A σ D Lf) {b : Nat → Nat} (hb : ∀ i, b i < 65521) {Fk : Int32} {vr fb fr : Nat → Int32} (hfr : ∀ k, k < n → fr k = nI (inv (D k))) (hfb : ∀ i k, k < i → i < n → fb (16 * i + k) = nI (Lf i k)) (hv : ∀ p, p < n → vr p = nI (b (σ p))) {Q : (Nat → Int32) → Prop} (h : ∀ vr, (∀ p, p < n → vr p = nI (XS n A b (σ p))) → Q vr) : wp_X1_resolve Fk (nI n) vr fb fr Q :=
  sp_resolve hW.2.1 hW.1 hL hfr hfb (x := fun q => cf (XS n A b (σ q))) (b := fun p => cf (b (σ p))) (fun p hp => sol_b hW hL hb hp) (fun p hp => by rw [hv p hp, fI_cf (hb _)]) (fun vr hvr => h vr (fun p hp => by rw [hvr p hp, ← fI_cf (XS_lt hW.2.2.1 hb _)]))
/-- the reference's elimination gives the solution, by rows -/
theorem sp_sol5 {n : Nat} {A : Nat → Nat → Nat} {σ τ ri we : Nat → Nat} (hW : WF n A σ τ ri we) {D : Nat → Nat} {Lf : Nat → Nat → Nat} (hL : LD n A σ D Lf) {b : Nat → Nat} (hb : ∀ i, b i < 65521) {mt mh ms mv : Int32} {wk : Nat → Int32} (h1 : ∀ i j, i < n → j < n → wk (17 * i + j) = nI (A i j)) (h2 : ∀ i, i < n → wk (17 * i + 16) = nI (b i)) {Q : Int32 → (Nat → Int32) → Prop} (h : ∀ r wk, ¬ r = 0 → (∀ i, i < n → wk (17 * i + 16) = nI (XS n A b i)) → Q r wk) : wp_X5_eliminate mt (nI n) mh ms mv wk Q := by
  have hn := hW.2.1
  have hB := WB_lt hW.2.2.1 hb
  refine sp_gj (c := fun j => j < n ∨ j = 16) hn (fun j hj => Or.inl hj) hB (fun i j hi _ hj => ?_) (fun hp wk hR => ?_) (fun k hk hpk _ wk => ?_)
  · rcases hj with hj | hj
    · rw [h1 i j hi hj, WB_in (by omega)]
    · rw [hj, h2 i hi, WB_16]
  · refine h _ _ (nI_ne0 (Nat.pos_of_ne_zero (gjD_ne hB n hp)) (by have := gjD_lt n (WB A b) n; omega)) (fun i hi => hR i 16 hi (by decide) (Or.inr rfl))
  · exact absurd (sol_piv hW hL hb k hk) (by omega)
theorem pure_30 {L : Nat} {xs : Nat → Int32} {i : Nat} (hL : L ≤ 2048) (hi : 4 * i + 4 ≤ L) {X_solved : Int32} {X_levelCount : Int32} {P_rows : Int32} {P_entries : (Nat → Int32)} {P_order : (Nat → Int32)} {P_places : (Nat → Int32)} {P_rights : (Nat → Int32)} {P_weights : (Nat → Int32)} {L0_rows : Int32} {L0_entries : (Nat → Int32)} {L0_order : (Nat → Int32)} {L0_places : (Nat → Int32)} {L0_rights : (Nat → Int32)} {L0_weights : (Nat → Int32)} {L1_rows : Int32} {L1_entries : (Nat → Int32)} {L1_order : (Nat → Int32)} {L1_places : (Nat → Int32)} {L1_rights : (Nat → Int32)} {L1_weights : (Nat → Int32)} {L2_rows : Int32} {L2_entries : (Nat → Int32)} {L2_order : (Nat → Int32)} {L2_places : (Nat → Int32)} {L2_rights : (Nat → Int32)} {L2_weights : (Nat → Int32)} {L3_rows : Int32} {L3_entries : (Nat → Int32)} {L3_order : (Nat → Int32)} {L3_places : (Nat → Int32)} {L3_rights : (Nat → Int32)} {L3_weights : (Nat → Int32)} {L4_rows : Int32} {L4_entries : (Nat → Int32)} {L4_order : (Nat → Int32)} {L4_places : (Nat → Int32)} {L4_rights : (Nat → Int32)} {L4_weights : (Nat → Int32)} {L5_rows : Int32} {L5_entries : (Nat → Int32)} {L5_order : (Nat → Int32)} {L5_places : (Nat → Int32)} {L5_rights : (Nat → Int32)} {L5_weights : (Nat → Int32)} {E_joined : (Nat → Int32)} {E_later : (Nat → Int32)} {E_paths : (Nat → Int32)} {F_known : Int32} {F_rows : Int32} {F_pivots : (Nat → Int32)} {F_reciprocals : (Nat → Int32)} {F_below : (Nat → Int32)} {R_cells : (Nat → Int32)} {X_vector : (Nat → Int32)} {X_solution : (Nat → Int32)} {M_thrown : Int32} {M_n : Int32} {M_hasFactors : Int32} {M_hasSolution : Int32} {M_levels : Int32} {M_a : (Nat → Int32)} {M_rowAt : (Nat → Int32)} {M_places : (Nat → Int32)} {M_rights : (Nat → Int32)} {M_weights : (Nat → Int32)} {M_pivots : (Nat → Int32)} {M_lower : (Nat → Int32)} {M_solution : (Nat → Int32)} {M_work : (Nat → Int32)} {M_isJoined : (Nat → Int32)} {M_stored : (Nat → Int32)} {O_out : (Nat → Int64)} (hR : Rel X_solved X_levelCount P_rows P_entries P_order P_places P_rights P_weights L0_rows L0_entries L0_order L0_places L0_rights L0_weights L1_rows L1_entries L1_order L1_places L1_rights L1_weights L2_rows L2_entries L2_order L2_places L2_rights L2_weights L3_rows L3_entries L3_order L3_places L3_rights L3_weights L4_rows L4_entries L4_order L4_places L4_rights L4_weights L5_rows L5_entries L5_order L5_places L5_rights L5_weights E_joined E_later E_paths F_known F_rows F_pivots F_reciprocals F_below R_cells X_vector X_solution M_thrown M_n M_hasFactors M_hasSolution M_levels M_a M_rowAt M_places M_rights M_weights M_pivots M_lower M_solution M_work M_isJoined M_stored O_out) {G : Int32 → Int32 → Int32 → Int32 → (Nat → Int32) → (Nat → Int32) → (Nat → Int32) → (Nat → Int32) → (Nat → Int32) → Int32 → (Nat → Int32) → (Nat → Int32) → (Nat → Int32) → (Nat → Int32) → (Nat → Int32) → Int32 → (Nat → Int32) → (Nat → Int32) → (Nat → Int32) → (Nat → Int32) → (Nat → Int32) → Int32 → (Nat → Int32) → (Nat → Int32) → (Nat → Int32) → (Nat → Int32) → (Nat → Int32) → Int32 → (Nat → Int32) → (Nat → Int32) → (Nat → Int32) → (Nat → Int32) → (Nat → Int32) → Int32 → (Nat → Int32) → (Nat → Int32) → (Nat → Int32) → (Nat → Int32) → (Nat → Int32) → Int32 → (Nat → Int32) → (Nat → Int32) → (Nat → Int32) → (Nat → Int32) → (Nat → Int32) → (Nat → Int32) → (Nat → Int32) → (Nat → Int32) → Int32 → Int32 → (Nat → Int32) → (Nat → Int32) → (Nat → Int32) → (Nat → Int32) → (Nat → Int32) → (Nat → Int32) → Int32 → Int32 → Int32 → Int32 → Int32 → (Nat → Int32) → (Nat → Int32) → (Nat → Int32) → (Nat → Int32) → (Nat → Int32) → (Nat → Int32) → (Nat → Int32) → (Nat → Int32) → (Nat → Int32) → (Nat → Int32) → (Nat → Int32) → (Nat → Int64) → Prop} (hG : ∀ (X_solved : Int32) (X_levelCount : Int32) (P_rows : Int32) (P_entries : (Nat → Int32)) (P_order : (Nat → Int32)) (P_places : (Nat → Int32)) (P_rights : (Nat → Int32)) (P_weights : (Nat → Int32)) (L0_rows : Int32) (L0_entries : (Nat → Int32)) (L0_order : (Nat → Int32)) (L0_places : (Nat → Int32)) (L0_rights : (Nat → Int32)) (L0_weights : (Nat → Int32)) (L1_rows : Int32) (L1_entries : (Nat → Int32)) (L1_order : (Nat → Int32)) (L1_places : (Nat → Int32)) (L1_rights : (Nat → Int32)) (L1_weights : (Nat → Int32)) (L2_rows : Int32) (L2_entries : (Nat → Int32)) (L2_order : (Nat → Int32)) (L2_places : (Nat → Int32)) (L2_rights : (Nat → Int32)) (L2_weights : (Nat → Int32)) (L3_rows : Int32) (L3_entries : (Nat → Int32)) (L3_order : (Nat → Int32)) (L3_places : (Nat → Int32)) (L3_rights : (Nat → Int32)) (L3_weights : (Nat → Int32)) (L4_rows : Int32) (L4_entries : (Nat → Int32)) (L4_order : (Nat → Int32)) (L4_places : (Nat → Int32)) (L4_rights : (Nat → Int32)) (L4_weights : (Nat → Int32)) (L5_rows : Int32) (L5_entries : (Nat → Int32)) (L5_order : (Nat → Int32)) (L5_places : (Nat → Int32)) (L5_rights : (Nat → Int32)) (L5_weights : (Nat → Int32)) (E_joined : (Nat → Int32)) (E_later : (Nat → Int32)) (E_paths : (Nat → Int32)) (F_known : Int32) (F_rows : Int32) (F_pivots : (Nat → Int32)) (F_reciprocals : (Nat → Int32)) (F_below : (Nat → Int32)) (R_cells : (Nat → Int32)) (X_vector : (Nat → Int32)) (X_solution : (Nat → Int32)) (M_thrown : Int32) (M_n : Int32) (M_hasFactors : Int32) (M_hasSolution : Int32) (M_levels : Int32) (M_a : (Nat → Int32)) (M_rowAt : (Nat → Int32)) (M_places : (Nat → Int32)) (M_rights : (Nat → Int32)) (M_weights : (Nat → Int32)) (M_pivots : (Nat → Int32)) (M_lower : (Nat → Int32)) (M_solution : (Nat → Int32)) (M_work : (Nat → Int32)) (M_isJoined : (Nat → Int32)) (M_stored : (Nat → Int32)) (O_out : (Nat → Int64)), Rel X_solved X_levelCount P_rows P_entries P_order P_places P_rights P_weights L0_rows L0_entries L0_order L0_places L0_rights L0_weights L1_rows L1_entries L1_order L1_places L1_rights L1_weights L2_rows L2_entries L2_order L2_places L2_rights L2_weights L3_rows L3_entries L3_order L3_places L3_rights L3_weights L4_rows L4_entries L4_order L4_places L4_rights L4_weights L5_rows L5_entries L5_order L5_places L5_rights L5_weights E_joined E_later E_paths F_known F_rows F_pivots F_reciprocals F_below R_cells X_vector X_solution M_thrown M_n M_hasFactors M_hasSolution M_levels M_a M_rowAt M_places M_rights M_weights M_pivots M_lower M_solution M_work M_isJoined M_stored O_out → G (nI (4 * i) + 4) X_solved X_levelCount P_rows P_entries P_order P_places P_rights P_weights L0_rows L0_entries L0_order L0_places L0_rights L0_weights L1_rows L1_entries L1_order L1_places L1_rights L1_weights L2_rows L2_entries L2_order L2_places L2_rights L2_weights L3_rows L3_entries L3_order L3_places L3_rights L3_weights L4_rows L4_entries L4_order L4_places L4_rights L4_weights L5_rows L5_entries L5_order L5_places L5_rights L5_weights E_joined E_later E_paths F_known F_rows F_pivots F_reciprocals F_below R_cells X_vector X_solution M_thrown M_n M_hasFactors M_hasSolution M_levels M_a M_rowAt M_places M_rights M_weights M_pivots M_lower M_solution M_work M_isJoined M_stored O_out) : vc_law_30 L xs (nI (4 * i)) X_solved X_levelCount P_rows P_entries P_order P_places P_rights P_weights L0_rows L0_entries L0_order L0_places L0_rights L0_weights L1_rows L1_entries L1_order L1_places L1_rights L1_weights L2_rows L2_entries L2_order L2_places L2_rights L2_weights L3_rows L3_entries L3_order L3_places L3_rights L3_weights L4_rows L4_entries L4_order L4_places L4_rights L4_weights L5_rows L5_entries L5_order L5_places L5_rights L5_weights E_joined E_later E_paths F_known F_rows F_pivots F_reciprocals F_below R_cells X_vector X_solution M_thrown M_n M_hasFactors M_hasSolution M_levels M_a M_rowAt M_places M_rights M_weights M_pivots M_lower M_solution M_work M_isJoined M_stored O_out G := by
  obtain ⟨n, A, σ, τ, ri, we, fk, fs, ℓ, hW, hC, hM, hF, hS, hV⟩ := id hR
  have hg : ∀ t o, G (nI (4 * i) + 4) X_solved X_levelCount P_rows P_entries P_order P_places P_rights P_weights L0_rows L0_entries L0_order L0_places L0_rights L0_weights L1_rows L1_entries L1_order L1_places L1_rights L1_weights L2_rows L2_entries L2_order L2_places L2_rights L2_weights L3_rows L3_entries L3_order L3_places L3_rights L3_weights L4_rows L4_entries L4_order L4_places L4_rights L4_weights L5_rows L5_entries L5_order L5_places L5_rights L5_weights E_joined E_later E_paths F_known F_rows F_pivots F_reciprocals F_below R_cells X_vector X_solution t M_n M_hasFactors M_hasSolution M_levels M_a M_rowAt M_places M_rights M_weights M_pivots M_lower M_solution M_work M_isJoined M_stored o := fun t o => hG X_solved X_levelCount P_rows P_entries P_order P_places P_rights P_weights L0_rows L0_entries L0_order L0_places L0_rights L0_weights L1_rows L1_entries L1_order L1_places L1_rights L1_weights L2_rows L2_entries L2_order L2_places L2_rights L2_weights L3_rows L3_entries L3_order L3_places L3_rights L3_weights L4_rows L4_entries L4_order L4_places L4_rights L4_weights L5_rows L5_entries L5_order L5_places L5_rights L5_weights E_joined E_later E_paths F_known F_rows F_pivots F_reciprocals F_below R_cells X_vector X_solution t M_n M_hasFactors M_hasSolution M_levels M_a M_rowAt M_places M_rights M_weights M_pivots M_lower M_solution M_work M_isJoined M_stored o ⟨n, A, σ, τ, ri, we, fk, fs, ℓ, hW, hC, hM, hF, hS, hV⟩
  have hn := hW.2.1
  have hs := WF_p hW
  have e1 := hC.1
  have e2 := hM.1
  subst e1
  subst e2
  obtain ⟨f1, f2, f3⟩ := id hF
  unfold vc_law_30 wp_L_solve
  intro G1 G2 g1 g2
  cases fk with
  | false =>
    refine nf_no f1 ⟨rfl, ?_⟩
    intro H1 H2 h1 h2
    refine ⟨fun _ => ?_, fun c => absurd f2 c⟩
    exact tl_i (m1 := 0) (m2 := 0) (m3 := 0) (m4 := 0) rfl (fun c => absurd c (by decide)) (hg _ _)
  | true =>
    obtain ⟨D, Lf, hL, hFr, q1, q2⟩ := f3 rfl
    have hb := hW.2.2.2.2.2.2.1
    have hX := XS_lt (n := n) hW.2.2.1 hb
    refine nf_ok f1 ?_
    suffices k1 : ∀ p, p ≤ n → ∀ vr, (∀ q, q < p → vr q = nI (ri (σ q))) → G1 (nI p) (nI n) X_solved vr X_solution from k1 0 (by omega) _ (fun q hq => absurd hq (by omega))
    refine pu_down n ?_ ?_
    · intro vr hv
      refine g1 _ _ _ _ _ ⟨fun _ => ?_, fun c => absurd (nI_le (Nat.le_refl n) (by omega)) c⟩
      rw [hFr]
      refine sp_sol4 hW hL hb (fun k hk => (q1 k hk).2.2) (fun i k h1 h2 => (q2 i k h1 h2).1) hv (fun vr hvr => ?_)
      suffices k2 : ∀ p, p ≤ n → ∀ so, (∀ q, q < p → so (σ q) = nI (XS n A ri (σ q))) → G2 (nI p) (nI (ct (fun q => decide (XS n A ri (σ q) ≠ 0)) p)) (nI n) X_solved vr so from k2 0 (by omega) _ (fun q hq => absurd hq (by omega))
      refine pu_down n ?_ ?_
      · intro so hso
        refine g2 _ _ _ _ _ _ ⟨fun _ => ?_, fun c => absurd (nI_le (Nat.le_refl n) (by omega)) c⟩
        have hso2 : ∀ i, i < n → so i = nI (XS n A ri i) := fun i hi => by
          have := hso (τ i) (hs i hi).2.1
          rw [(hs i hi).2.2.2] at this
          exact this
        intro H1 H2 h1 h2
        refine ⟨fun c => absurd c (by rw [f2]; decide), fun _ => ?_⟩
        refine sp_copy hW hM (fun wk hw => ?_)
        suffices k3 : ∀ i, i ≤ n → ∀ wk, (∀ a b, a < n → b < n → wk (17 * a + b) = nI (A a b)) → (∀ a, a < i → wk (17 * a + 16) = nI (ri a)) → H1 (nI i) 0 M_hasSolution wk M_solution from k3 0 (by omega) wk hw (fun a ha => absurd ha (by omega))
        refine pu_down n ?_ ?_
        · intro wk hw hw2
          refine h1 _ _ _ _ _ ⟨fun _ => ?_, fun c => absurd (nI_le (Nat.le_refl n) (by omega)) c⟩
          refine sp_sol5 hW hL hb hw hw2 (fun r wk hr hwX => ⟨fun c => absurd c hr, fun _ => ?_⟩)
          suffices k4 : ∀ i, i ≤ n → ∀ ms, (∀ a, a < i → ms a = nI (XS n A ri a)) → H2 (nI i) (nI (ct (fun q => decide (XS n A ri q ≠ 0)) i)) 0 M_hasSolution wk ms from k4 0 (by omega) _ (fun a ha => absurd ha (by omega))
          refine pu_down n ?_ ?_
          · intro ms hms
            refine h2 _ _ _ _ _ _ ⟨fun _ => ?_, fun c => absurd (nI_le (Nat.le_refl n) (by omega)) c⟩
            have hg2 : ∀ o, G (nI (4 * i) + 4) 1 X_levelCount (nI n) P_entries P_order P_places P_rights P_weights L0_rows L0_entries L0_order L0_places L0_rights L0_weights L1_rows L1_entries L1_order L1_places L1_rights L1_weights L2_rows L2_entries L2_order L2_places L2_rights L2_weights L3_rows L3_entries L3_order L3_places L3_rights L3_weights L4_rows L4_entries L4_order L4_places L4_rights L4_weights L5_rows L5_entries L5_order L5_places L5_rights L5_weights E_joined E_later E_paths F_known F_rows F_pivots F_reciprocals F_below R_cells vr so 0 (nI n) M_hasFactors 1 M_levels M_a M_rowAt M_places M_rights M_weights M_pivots M_lower ms wk M_isJoined M_stored o := fun o => hG _ _ _ _ _ _ _ _ _ _ _ _ _ _ _ _ _ _ _ _ _ _ _ _ _ _ _ _ _ _ _ _ _ _ _ _ _ _ _ _ _ _ _ _ _ _ _ _ _ _ _ _ _ _ _ _ _ _ _ _ _ _ _ _ _ _ _ _ _ _ _ _ ⟨n, A, σ, τ, ri, we, true, true, ℓ, hW, hC, hM, hF, ⟨rfl, rfl, fun _ i hi => by rw [hso2 i hi, hms i hi]⟩, hV⟩
            refine tl_i (m1 := 0) (m2 := 0) (m3 := 0) (m4 := 0) rfl (fun _ => ?_) (hg2 _)
            rw [ul_0, ct_perm hs (fun j => decide (XS n A ri j ≠ 0))]
          · intro i hi ih ms hms
            have hXi := hX i
            refine h2 _ _ _ _ _ _ ⟨fun c => absurd c (nI_ge hi (by omega)), fun _ => ?_⟩
            rw [show (16 : Int32) = nI 16 from rfl, pn_at17, pn_cl (show 17 * i + 16 < 2147483648 by omega), pn_cl (show i < 2147483648 by omega), hwX i hi, pk_us]
            have hms2 : ∀ a, a < i + 1 → upd ms i (nI (XS n A ri i)) a = nI (XS n A ri a) := fun a ha => by
              by_cases e : a = i
              · subst e; exact pk_us
              · rw [pk_un e]; exact hms a (by omega)
            have e : ct (fun q => decide (XS n A ri q ≠ 0)) (i + 1) = ct (fun q => decide (XS n A ri q ≠ 0)) i + (if decide (XS n A ri i ≠ 0) = true then 1 else 0) := rfl
            refine ⟨pn_in (by omega) (by decide), pn_in (by omega) (by decide), pn_in (by omega) (by decide), pk_eq (XS n A ri i) 0 (fun z x hx y hy => ?_) (fun z x hx y hy => ?_)⟩
            · rw [decide_eq_false (fun q => q z)] at e
              rw [hy, hx, nI_1, Int32.add_zero, show ct (fun q => decide (XS n A ri q ≠ 0)) i = ct (fun q => decide (XS n A ri q ≠ 0)) (i + 1) from e.symm]
              exact ih _ hms2
            · rw [decide_eq_true z] at e
              rw [hy, hx, nI_1, nI_1, show ct (fun q => decide (XS n A ri q ≠ 0)) i + 1 = ct (fun q => decide (XS n A ri q ≠ 0)) (i + 1) from e.symm]
              exact ih _ hms2
        · intro i hi ih wk hw hw2
          refine h1 _ _ _ _ _ ⟨fun c => absurd c (nI_ge hi (by omega)), fun _ => ?_⟩
          rw [show (16 : Int32) = nI 16 from rfl, pn_at17, pn_cl (show 17 * i + 16 < 2147483648 by omega), pn_cl (show i < 2147483648 by omega), (hM.2.2.2 i hi).1]
          refine ⟨pn_in (by omega) (by decide), pn_in (by omega) (by decide), fun x hx => ?_⟩
          rw [hx, nI_1]
          refine ih _ (fun a b ha hb => ?_) (fun a ha => ?_)
          · rw [pk_un (by omega)]; exact hw a b ha hb
          · by_cases e : a = i
            · subst e; exact pk_us
            · rw [pk_un (by omega)]; exact hw2 a (by omega)
      · intro p hp ih so hso
        have hsp := hs p hp
        have hXp := hX (σ p)
        refine g2 _ _ _ _ _ _ ⟨fun c => absurd c (nI_ge hp (by omega)), fun _ => ?_⟩
        rw [pn_cl (show p < 2147483648 by omega), (hC.2.2 p hp).1, pn_cl (show σ p < 2147483648 by omega), hvr p hp]
        have hso2 : ∀ q, q < p + 1 → upd so (σ p) (nI (XS n A ri (σ p))) (σ q) = nI (XS n A ri (σ q)) := fun q hq => by
          by_cases e : q = p
          · subst e; exact pk_us
          · rw [pk_un (fun e2 => e (by rw [← (hs q (by omega)).2.2.1, e2, hsp.2.2.1]))]; exact hso q (by omega)
        have e : ct (fun q => decide (XS n A ri (σ q) ≠ 0)) (p + 1) = ct (fun q => decide (XS n A ri (σ q) ≠ 0)) p + (if decide (XS n A ri (σ p) ≠ 0) = true then 1 else 0) := rfl
        refine ⟨pn_in (by omega) (by decide), pn_in (by omega) (by decide), pn_in (by omega) (by decide), pn_in (by omega) (by decide), pk_eq (XS n A ri (σ p)) 0 (fun z y hy => ?_) (fun z x hx y hy => ?_)⟩
        · rw [decide_eq_false (fun q => q z)] at e
          rw [hy, nI_1, show ct (fun q => decide (XS n A ri (σ q) ≠ 0)) p = ct (fun q => decide (XS n A ri (σ q) ≠ 0)) (p + 1) from e.symm]
          exact ih _ hso2
        · rw [decide_eq_true z] at e
          rw [hy, hx, nI_1, nI_1, show ct (fun q => decide (XS n A ri (σ q) ≠ 0)) p + 1 = ct (fun q => decide (XS n A ri (σ q) ≠ 0)) (p + 1) from e.symm]
          exact ih _ hso2
    · intro p hp ih vr hv
      have hsp := hs p hp
      refine g1 _ _ _ _ _ ⟨fun c => absurd c (nI_ge hp (by omega)), fun _ => ?_⟩
      rw [pn_cl (show p < 2147483648 by omega), (hC.2.2 p hp).1, pn_cl (show σ p < 2147483648 by omega), (hC.2.2 (σ p) hsp.1).2.2.1]
      refine ⟨pn_in (by omega) (by decide), pn_in (by omega) (by decide), pn_in (by omega) (by decide), fun x hx => ?_⟩
      rw [hx, nI_1]
      refine ih _ (fun q hq => ?_)
      by_cases e : q = p
      · subst e; exact pk_us
      · rw [pk_un e]; exact hv q (by omega)
theorem pure_32 {L : Nat} {xs : Nat → Int32} {i : Nat} (hL : L ≤ 2048) (hi : 4 * i + 4 ≤ L) {X_solved : Int32} {X_levelCount : Int32} {P_rows : Int32} {P_entries : (Nat → Int32)} {P_order : (Nat → Int32)} {P_places : (Nat → Int32)} {P_rights : (Nat → Int32)} {P_weights : (Nat → Int32)} {L0_rows : Int32} {L0_entries : (Nat → Int32)} {L0_order : (Nat → Int32)} {L0_places : (Nat → Int32)} {L0_rights : (Nat → Int32)} {L0_weights : (Nat → Int32)} {L1_rows : Int32} {L1_entries : (Nat → Int32)} {L1_order : (Nat → Int32)} {L1_places : (Nat → Int32)} {L1_rights : (Nat → Int32)} {L1_weights : (Nat → Int32)} {L2_rows : Int32} {L2_entries : (Nat → Int32)} {L2_order : (Nat → Int32)} {L2_places : (Nat → Int32)} {L2_rights : (Nat → Int32)} {L2_weights : (Nat → Int32)} {L3_rows : Int32} {L3_entries : (Nat → Int32)} {L3_order : (Nat → Int32)} {L3_places : (Nat → Int32)} {L3_rights : (Nat → Int32)} {L3_weights : (Nat → Int32)} {L4_rows : Int32} {L4_entries : (Nat → Int32)} {L4_order : (Nat → Int32)} {L4_places : (Nat → Int32)} {L4_rights : (Nat → Int32)} {L4_weights : (Nat → Int32)} {L5_rows : Int32} {L5_entries : (Nat → Int32)} {L5_order : (Nat → Int32)} {L5_places : (Nat → Int32)} {L5_rights : (Nat → Int32)} {L5_weights : (Nat → Int32)} {E_joined : (Nat → Int32)} {E_later : (Nat → Int32)} {E_paths : (Nat → Int32)} {F_known : Int32} {F_rows : Int32} {F_pivots : (Nat → Int32)} {F_reciprocals : (Nat → Int32)} {F_below : (Nat → Int32)} {R_cells : (Nat → Int32)} {X_vector : (Nat → Int32)} {X_solution : (Nat → Int32)} {M_thrown : Int32} {M_n : Int32} {M_hasFactors : Int32} {M_hasSolution : Int32} {M_levels : Int32} {M_a : (Nat → Int32)} {M_rowAt : (Nat → Int32)} {M_places : (Nat → Int32)} {M_rights : (Nat → Int32)} {M_weights : (Nat → Int32)} {M_pivots : (Nat → Int32)} {M_lower : (Nat → Int32)} {M_solution : (Nat → Int32)} {M_work : (Nat → Int32)} {M_isJoined : (Nat → Int32)} {M_stored : (Nat → Int32)} {O_out : (Nat → Int64)} (hR : Rel X_solved X_levelCount P_rows P_entries P_order P_places P_rights P_weights L0_rows L0_entries L0_order L0_places L0_rights L0_weights L1_rows L1_entries L1_order L1_places L1_rights L1_weights L2_rows L2_entries L2_order L2_places L2_rights L2_weights L3_rows L3_entries L3_order L3_places L3_rights L3_weights L4_rows L4_entries L4_order L4_places L4_rights L4_weights L5_rows L5_entries L5_order L5_places L5_rights L5_weights E_joined E_later E_paths F_known F_rows F_pivots F_reciprocals F_below R_cells X_vector X_solution M_thrown M_n M_hasFactors M_hasSolution M_levels M_a M_rowAt M_places M_rights M_weights M_pivots M_lower M_solution M_work M_isJoined M_stored O_out) {G : Int32 → Int32 → Int32 → Int32 → (Nat → Int32) → (Nat → Int32) → (Nat → Int32) → (Nat → Int32) → (Nat → Int32) → Int32 → (Nat → Int32) → (Nat → Int32) → (Nat → Int32) → (Nat → Int32) → (Nat → Int32) → Int32 → (Nat → Int32) → (Nat → Int32) → (Nat → Int32) → (Nat → Int32) → (Nat → Int32) → Int32 → (Nat → Int32) → (Nat → Int32) → (Nat → Int32) → (Nat → Int32) → (Nat → Int32) → Int32 → (Nat → Int32) → (Nat → Int32) → (Nat → Int32) → (Nat → Int32) → (Nat → Int32) → Int32 → (Nat → Int32) → (Nat → Int32) → (Nat → Int32) → (Nat → Int32) → (Nat → Int32) → Int32 → (Nat → Int32) → (Nat → Int32) → (Nat → Int32) → (Nat → Int32) → (Nat → Int32) → (Nat → Int32) → (Nat → Int32) → (Nat → Int32) → Int32 → Int32 → (Nat → Int32) → (Nat → Int32) → (Nat → Int32) → (Nat → Int32) → (Nat → Int32) → (Nat → Int32) → Int32 → Int32 → Int32 → Int32 → Int32 → (Nat → Int32) → (Nat → Int32) → (Nat → Int32) → (Nat → Int32) → (Nat → Int32) → (Nat → Int32) → (Nat → Int32) → (Nat → Int32) → (Nat → Int32) → (Nat → Int32) → (Nat → Int32) → (Nat → Int64) → Prop} (hG : ∀ (X_solved : Int32) (X_levelCount : Int32) (P_rows : Int32) (P_entries : (Nat → Int32)) (P_order : (Nat → Int32)) (P_places : (Nat → Int32)) (P_rights : (Nat → Int32)) (P_weights : (Nat → Int32)) (L0_rows : Int32) (L0_entries : (Nat → Int32)) (L0_order : (Nat → Int32)) (L0_places : (Nat → Int32)) (L0_rights : (Nat → Int32)) (L0_weights : (Nat → Int32)) (L1_rows : Int32) (L1_entries : (Nat → Int32)) (L1_order : (Nat → Int32)) (L1_places : (Nat → Int32)) (L1_rights : (Nat → Int32)) (L1_weights : (Nat → Int32)) (L2_rows : Int32) (L2_entries : (Nat → Int32)) (L2_order : (Nat → Int32)) (L2_places : (Nat → Int32)) (L2_rights : (Nat → Int32)) (L2_weights : (Nat → Int32)) (L3_rows : Int32) (L3_entries : (Nat → Int32)) (L3_order : (Nat → Int32)) (L3_places : (Nat → Int32)) (L3_rights : (Nat → Int32)) (L3_weights : (Nat → Int32)) (L4_rows : Int32) (L4_entries : (Nat → Int32)) (L4_order : (Nat → Int32)) (L4_places : (Nat → Int32)) (L4_rights : (Nat → Int32)) (L4_weights : (Nat → Int32)) (L5_rows : Int32) (L5_entries : (Nat → Int32)) (L5_order : (Nat → Int32)) (L5_places : (Nat → Int32)) (L5_rights : (Nat → Int32)) (L5_weights : (Nat → Int32)) (E_joined : (Nat → Int32)) (E_later : (Nat → Int32)) (E_paths : (Nat → Int32)) (F_known : Int32) (F_rows : Int32) (F_pivots : (Nat → Int32)) (F_reciprocals : (Nat → Int32)) (F_below : (Nat → Int32)) (R_cells : (Nat → Int32)) (X_vector : (Nat → Int32)) (X_solution : (Nat → Int32)) (M_thrown : Int32) (M_n : Int32) (M_hasFactors : Int32) (M_hasSolution : Int32) (M_levels : Int32) (M_a : (Nat → Int32)) (M_rowAt : (Nat → Int32)) (M_places : (Nat → Int32)) (M_rights : (Nat → Int32)) (M_weights : (Nat → Int32)) (M_pivots : (Nat → Int32)) (M_lower : (Nat → Int32)) (M_solution : (Nat → Int32)) (M_work : (Nat → Int32)) (M_isJoined : (Nat → Int32)) (M_stored : (Nat → Int32)) (O_out : (Nat → Int64)), Rel X_solved X_levelCount P_rows P_entries P_order P_places P_rights P_weights L0_rows L0_entries L0_order L0_places L0_rights L0_weights L1_rows L1_entries L1_order L1_places L1_rights L1_weights L2_rows L2_entries L2_order L2_places L2_rights L2_weights L3_rows L3_entries L3_order L3_places L3_rights L3_weights L4_rows L4_entries L4_order L4_places L4_rights L4_weights L5_rows L5_entries L5_order L5_places L5_rights L5_weights E_joined E_later E_paths F_known F_rows F_pivots F_reciprocals F_below R_cells X_vector X_solution M_thrown M_n M_hasFactors M_hasSolution M_levels M_a M_rowAt M_places M_rights M_weights M_pivots M_lower M_solution M_work M_isJoined M_stored O_out → G (nI (4 * i) + 4) X_solved X_levelCount P_rows P_entries P_order P_places P_rights P_weights L0_rows L0_entries L0_order L0_places L0_rights L0_weights L1_rows L1_entries L1_order L1_places L1_rights L1_weights L2_rows L2_entries L2_order L2_places L2_rights L2_weights L3_rows L3_entries L3_order L3_places L3_rights L3_weights L4_rows L4_entries L4_order L4_places L4_rights L4_weights L5_rows L5_entries L5_order L5_places L5_rights L5_weights E_joined E_later E_paths F_known F_rows F_pivots F_reciprocals F_below R_cells X_vector X_solution M_thrown M_n M_hasFactors M_hasSolution M_levels M_a M_rowAt M_places M_rights M_weights M_pivots M_lower M_solution M_work M_isJoined M_stored O_out) : vc_law_32 L xs (nI (4 * i)) X_solved X_levelCount P_rows P_entries P_order P_places P_rights P_weights L0_rows L0_entries L0_order L0_places L0_rights L0_weights L1_rows L1_entries L1_order L1_places L1_rights L1_weights L2_rows L2_entries L2_order L2_places L2_rights L2_weights L3_rows L3_entries L3_order L3_places L3_rights L3_weights L4_rows L4_entries L4_order L4_places L4_rights L4_weights L5_rows L5_entries L5_order L5_places L5_rights L5_weights E_joined E_later E_paths F_known F_rows F_pivots F_reciprocals F_below R_cells X_vector X_solution M_thrown M_n M_hasFactors M_hasSolution M_levels M_a M_rowAt M_places M_rights M_weights M_pivots M_lower M_solution M_work M_isJoined M_stored O_out G := by
  obtain ⟨n, A, σ, τ, ri, we, fk, fs, ℓ, hW, hC, hM, hF, hS, hV⟩ := id hR
  have hg : ∀ t vr wk o, G (nI (4 * i) + 4) X_solved X_levelCount P_rows P_entries P_order P_places P_rights P_weights L0_rows L0_entries L0_order L0_places L0_rights L0_weights L1_rows L1_entries L1_order L1_places L1_rights L1_weights L2_rows L2_entries L2_order L2_places L2_rights L2_weights L3_rows L3_entries L3_order L3_places L3_rights L3_weights L4_rows L4_entries L4_order L4_places L4_rights L4_weights L5_rows L5_entries L5_order L5_places L5_rights L5_weights E_joined E_later E_paths F_known F_rows F_pivots F_reciprocals F_below R_cells vr X_solution t M_n M_hasFactors M_hasSolution M_levels M_a M_rowAt M_places M_rights M_weights M_pivots M_lower M_solution wk M_isJoined M_stored o := fun t vr wk o => hG X_solved X_levelCount P_rows P_entries P_order P_places P_rights P_weights L0_rows L0_entries L0_order L0_places L0_rights L0_weights L1_rows L1_entries L1_order L1_places L1_rights L1_weights L2_rows L2_entries L2_order L2_places L2_rights L2_weights L3_rows L3_entries L3_order L3_places L3_rights L3_weights L4_rows L4_entries L4_order L4_places L4_rights L4_weights L5_rows L5_entries L5_order L5_places L5_rights L5_weights E_joined E_later E_paths F_known F_rows F_pivots F_reciprocals F_below R_cells vr X_solution t M_n M_hasFactors M_hasSolution M_levels M_a M_rowAt M_places M_rights M_weights M_pivots M_lower M_solution wk M_isJoined M_stored o ⟨n, A, σ, τ, ri, we, fk, fs, ℓ, hW, hC, hM, hF, hS, hV⟩
  have hn := hW.2.1
  have hs := WF_p hW
  refine ⟨sc1 hL hi, sc2 hL hi, ?_⟩
  generalize xs (Int32.toNatClampNeg (nI (4 * i) + 1)) = a
  generalize xs (Int32.toNatClampNeg (nI (4 * i) + 2)) = b
  have e1 := hC.1
  have e2 := hM.1
  subst e1
  subst e2
  obtain ⟨f1, f2, f3⟩ := id hF
  unfold wp_L_inverse
  intro G1 g1
  rcases px_ix a (n := n) (by omega) with ha | ⟨j, hj, rfl⟩
  · refine nr_no ha (Or.inl ⟨rfl, sc1 hL hi, sc2 hL hi, ?_⟩)
    intro H1 h1
    refine ir_no ha ⟨fun _ => ?_, fun c => absurd rfl c⟩
    exact tl_i (m1 := 0) (m2 := 0) (m3 := 0) (m4 := 0) rfl (fun c => absurd c (by decide)) (hg _ _ _ _)
  · refine nr_ok hj hn ?_
    rcases px_ix b (n := n) (by omega) with hb | ⟨k, hk, rfl⟩
    · refine nr_no hb (Or.inl ⟨rfl, sc1 hL hi, sc2 hL hi, ?_⟩)
      intro H1 h1
      refine ir_ok hj hn ⟨fun c => absurd c (by decide), fun _ => ?_⟩
      refine ir_no hb ⟨fun _ => ?_, fun c => absurd rfl c⟩
      exact tl_i (m1 := 0) (m2 := 0) (m3 := 0) (m4 := 0) rfl (fun c => absurd c (by decide)) (hg _ _ _ _)
    · refine nr_ok hk hn ?_
      cases fk with
      | false =>
        refine nf_no f1 (Or.inr ⟨rfl, sc1 hL hi, sc2 hL hi, ?_⟩)
        intro H1 h1
        refine ir_ok hj hn ⟨fun c => absurd c (by decide), fun _ => ?_⟩
        refine ir_ok hk hn ⟨fun c => absurd c (by decide), fun _ => ⟨fun _ => ?_, fun c => absurd f2 c⟩⟩
        exact tl_i (m1 := 0) (m2 := 0) (m3 := 0) (m4 := 0) rfl (fun c => absurd c (by decide)) (hg _ _ _ _)
      | true =>
        obtain ⟨D, Lf, hLD, hFr, q1, q2⟩ := f3 rfl
        subst hFr
        have hub : ∀ r, (fun r => if r = k then 1 else 0 : Nat → Nat) r < 65521 := fun r => by
          show (if r = k then 1 else 0 : Nat) < 65521
          split <;> omega
        refine nf_ok f1 ?_
        suffices k1 : ∀ p, p ≤ n → ∀ vr, (∀ q, q < p → vr q = nI ((fun r => if r = k then 1 else 0 : Nat → Nat) (σ q))) → G1 (nI p) vr from k1 0 (by omega) _ (fun q hq => absurd hq (by omega))
        refine pu_down n ?_ ?_
        · intro vr hv
          refine g1 _ _ ⟨fun _ => ?_, fun c => absurd (nI_le (Nat.le_refl n) (by omega)) c⟩
          refine sp_sol4 hW hLD hub (fun k hk => (q1 k hk).2.2) (fun i k h1 h2 => (q2 i k h1 h2).1) hv (fun vr hvr => ?_)
          have htj := (hs j hj).2.1
          rw [pn_cl (show j < 2147483648 by omega), (hC.2.2 j hj).2.1, pn_cl (show τ j < 2147483648 by omega), hvr _ htj, (hs j hj).2.2.2]
          refine ⟨pn_in (by omega) (by decide), pn_in (by omega) (by decide), sc1 hL hi, sc2 hL hi, ?_⟩
          intro H1 h1
          refine ir_ok hj hn ⟨fun c => absurd c (by decide), fun _ => ?_⟩
          refine ir_ok hk hn ⟨fun c => absurd c (by decide), fun _ => ⟨fun c => absurd c (by rw [f2]; decide), fun _ => ?_⟩⟩
          refine sp_copy hW hM (fun wk hw => ?_)
          suffices k3 : ∀ r, r ≤ n → ∀ wk, (∀ a b, a < n → b < n → wk (17 * a + b) = nI (A a b)) → (∀ a, a < r → wk (17 * a + 16) = nI ((fun r => if r = k then 1 else 0 : Nat → Nat) a)) → H1 (nI r) 0 wk from k3 0 (by omega) wk hw (fun a ha => absurd ha (by omega))
          refine pu_down n ?_ ?_
          · intro wk hw hw2
            refine h1 _ _ _ ⟨fun _ => ?_, fun c => absurd (nI_le (Nat.le_refl n) (by omega)) c⟩
            refine sp_sol5 hW hLD hub hw hw2 (fun r wk hr hwX => ⟨fun c => absurd c hr, fun _ => ?_⟩)
            have e16 : wk (Int32.toNatClampNeg (f_at17 (nI j) 16)) = nI (XS n A (fun r => if r = k then 1 else 0) j) := by
              rw [show (16 : Int32) = nI 16 from rfl, pn_at17, pn_cl (by omega)]
              exact hwX j hj
            refine ⟨by rw [show (16 : Int32) = nI 16 from rfl, pn_at17]; exact pn_in (by omega) (by decide), ?_⟩
            refine tl_i (m1 := 0) (m2 := 0) (m3 := 0) (m4 := 0) rfl (fun _ => ?_) (hg _ _ _ _)
            rw [ul_0, e16]
          · intro r hr ih wk hw hw2
            refine h1 _ _ _ ⟨fun c => absurd c (nI_ge hr (by omega)), fun _ => ?_⟩
            have st : ∀ v : Int32, v = nI (if r = k then 1 else 0) → vp_in (f_at17 (nI r) 16) 272 ∧ ∀ x3_10 : Int32, x3_10 = nI r + 1 → H1 x3_10 0 (upd wk (Int32.toNatClampNeg (f_at17 (nI r) 16)) v) := fun v hv => by
              rw [show (16 : Int32) = nI 16 from rfl, pn_at17, pn_cl (show 17 * r + 16 < 2147483648 by omega), hv]
              refine ⟨pn_in (by omega) (by decide), fun x hx => ?_⟩
              rw [hx, nI_1]
              refine ih _ (fun a b ha hb => ?_) (fun a ha => ?_)
              · rw [pk_un (by omega)]; exact hw a b ha hb
              · by_cases e : a = r
                · subst e; exact pk_us
                · rw [pk_un (by omega)]; exact hw2 a (by omega)
            refine pk_eq r k (fun e => st 1 (by rw [if_pos e]; rfl)) (fun e => st 0 (by rw [if_neg e]; rfl))
        · intro p hp ih vr hv
          have hsp := hs p hp
          refine g1 _ _ ⟨fun c => absurd c (nI_ge hp (by omega)), fun _ => ?_⟩
          rw [pn_cl (show p < 2147483648 by omega), (hC.2.2 p hp).1]
          have st : ∀ v : Int32, v = nI (if σ p = k then 1 else 0) → vp_in (nI p) 16 ∧ ∀ x : Int32, x = nI p + 1 → G1 x (upd vr p v) := fun v hv2 => by
            refine ⟨pn_in (by omega) (by decide), fun x hx => ?_⟩
            rw [hx, nI_1, hv2]
            refine ih _ (fun q hq => ?_)
            by_cases e : q = p
            · subst e; exact pk_us
            · rw [pk_un e]; exact hv q (by omega)
          exact ⟨pn_in (by omega) (by decide), pk_eq (σ p) k (fun e => st 1 (by rw [if_pos e]; rfl)) (fun e => st 0 (by rw [if_neg e]; rfl))⟩
