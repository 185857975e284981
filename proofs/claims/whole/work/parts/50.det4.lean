/-! PURE: the class's determinant -/
def RT (n k : Nat) (U : Nat → Nat → Nat) (ce : Nat → Int32) : Prop := ∀ i j, k ≤ i → i < n → k ≤ j → j < n → ce (16 * i + j) = nI (U i j)
theorem ml_sw (a b s : Nat) : a * s % 65521 * b % 65521 = a * (b * s % 65521) % 65521 := by
  rw [Nat.mod_mul_mod, Nat.mul_mod_mod, Nat.mul_assoc, Nat.mul_comm s b]
theorem sp_clear3 {n k : Nat} (hn : n ≤ 16) (hk : k < n) {S : Nat → Nat → Nat} (hS : ∀ i j, S i j < 65521) {ce : Nat → Int32} (hR : RT n k S ce) {Q : (Nat → Int32) → Prop} (h : ∀ ce, RT n (k + 1) (el (nm S k) k) ce → Q ce) : wp_X3_clearBelow (nI k) (nI n) ce Q := by
  intro G1 G2 g1 g2
  have k1 : ∀ i, i ≤ n → k + 1 ≤ i → ∀ ce, (∀ r j, k ≤ r → r < n → k ≤ j → j < n → ce (16 * r + j) = nI (if k < r ∧ r < i then el (nm S k) k r j else S r j)) → G1 (nI i) (nI (inv (S k k))) ce := by
    refine pu_down n ?_ ?_
    · intro _ ce hI
      exact g1 _ _ _ ⟨fun _ => h _ (fun r j h1 h2 h3 h4 => by rw [hI r j (by omega) h2 (by omega) h4, if_pos (by omega)]), fun c => absurd (nI_le (Nat.le_refl n) (by omega)) c⟩
    · intro i hi ih hki ce hI
      refine g1 _ _ _ ⟨fun c => absurd c (nI_ge hi (by omega)), fun _ => ⟨by rw [pn_cell]; exact pn_in (by omega) (by decide), fun x hx => ?_⟩⟩
      rw [pn_cell, pn_cl (by omega), hI i k (by omega) hi (Nat.le_refl k) hk, if_neg (by omega), pn_times (hS _ _) (inv_lt _)] at hx
      rw [hx]
      have k2 : ∀ j, j ≤ n → k ≤ j → ∀ ce, (∀ r m, k ≤ r → r < n → k ≤ m → m < n → ce (16 * r + m) = nI (if k < r ∧ (r < i ∨ (r = i ∧ m < j)) then el (nm S k) k r m else S r m)) → G2 (nI j) (nI (S i k * inv (S k k) % 65521)) (nI i) (nI (inv (S k k))) ce := by
        refine pu_down n ?_ ?_
        · intro _ ce hI2
          refine g2 _ _ _ _ _ ⟨fun _ y hy => ?_, fun c => absurd (nI_le (Nat.le_refl n) (by omega)) c⟩
          rw [hy, nI_1]
          refine ih (by omega) _ (fun r m h1 h2 h3 h4 => ?_)
          rw [hI2 r m h1 h2 h3 h4]
          by_cases q : k < r ∧ r < i + 1
          · rw [if_pos q, if_pos (by omega)]
          · rw [if_neg q, if_neg (by omega)]
        · intro j hj ih2 hkj ce hI2
          refine g2 _ _ _ _ _ ⟨fun c => absurd c (nI_ge hj (by omega)), fun _ => ⟨by rw [pn_cell]; exact pn_in (by omega) (by decide), by rw [pn_cell]; exact pn_in (by omega) (by decide), by rw [pn_cell]; exact pn_in (by omega) (by decide), fun y hy => ?_⟩⟩
          rw [hy, nI_1, pn_cell, pn_cell, pn_cl (show 16 * i + j < 2147483648 by omega), pn_cl (show 16 * k + j < 2147483648 by omega), hI2 i j (by omega) hi hkj hj, hI2 k j (Nat.le_refl k) hk hkj hj, if_neg (by omega), if_neg (by omega), pn_times (md_lt _) (hS _ _), pn_minus (hS _ _) (md_lt _)]
          refine ih2 (by omega) _ (fun r m h1 h2 h3 h4 => ?_)
          by_cases q0 : 16 * r + m = 16 * i + j
          · have e : r = i ∧ m = j := by omega
            obtain ⟨e1, e2⟩ := e
            subst e1 e2
            rw [pk_us, if_pos (by omega), ml_sw]
            unfold el nm
            rw [if_neg (show ¬ r = k by omega), if_neg (show ¬ r = k by omega), if_pos rfl, if_neg (show ¬ r = k by omega)]
          · rw [pk_un q0, hI2 r m h1 h2 h3 h4]
            by_cases q : k < r ∧ (r < i ∨ (r = i ∧ m < j))
            · rw [if_pos q, if_pos (by omega)]
            · rw [if_neg q, if_neg (by omega)]
      refine k2 k (by omega) (Nat.le_refl k) _ (fun r m h1 h2 h3 h4 => ?_)
      rw [hI r m h1 h2 h3 h4]
      by_cases q : k < r ∧ r < i
      · rw [if_pos q, if_pos (by omega)]
      · rw [if_neg q, if_neg (by omega)]
  refine ⟨by rw [pn_cell]; exact pn_in (by omega) (by decide), fun x hx y hy => ?_⟩
  rw [pn_cell, pn_cl (by omega), hR k k (Nat.le_refl k) hk (Nat.le_refl k) hk, pn_rec (hS _ _)] at hx
  rw [hy, hx, nI_1]
  exact k1 (k + 1) (by omega) (Nat.le_refl _) _ (fun r j h1 h2 h3 h4 => by rw [hR r j h1 h2 h3 h4, if_neg (by omega)])
theorem sp_xrows {n k v : Nat} (hn : n ≤ 16) (hk : k < n) (hkv : k ≤ v) (hv : v < n) (hne : v ≠ k) {U : Nat → Nat → Nat} {ce : Nat → Int32} (hR : RT n k U ce) {Q : (Nat → Int32) → Prop} (h : ∀ ce, RT n k (sw U k v) ce → Q ce) : wp_X3_exchangeRows (nI v) (nI k) (nI n) ce Q := by
  intro G1 g1
  suffices k1 : ∀ j, j ≤ n → ∀ ce, (∀ r m, k ≤ r → r < n → k ≤ m → m < n → ce (16 * r + m) = nI (if m < j then sw U k v r m else U r m)) → G1 (nI j) ce from k1 0 (by omega) _ (fun r m h1 h2 h3 h4 => by rw [hR r m h1 h2 h3 h4, if_neg (by omega)])
  refine pu_down n ?_ ?_
  · intro ce hI
    exact g1 _ _ ⟨fun _ => h _ (fun r m h1 h2 h3 h4 => by rw [hI r m h1 h2 h3 h4, if_pos h4]), fun c => absurd (nI_le (Nat.le_refl n) (by omega)) c⟩
  · intro j hj ih ce hI
    refine g1 _ _ ⟨fun c => absurd c (nI_ge hj (by omega)), fun _ => ⟨by rw [pn_cell]; exact pn_in (by omega) (by decide), fun y hy => ⟨by rw [pn_cell]; exact pn_in (by omega) (by decide), by rw [pn_cell]; exact pn_in (by omega) (by decide), by rw [pn_cell]; exact pn_in (by omega) (by decide), fun z hz => ?_⟩⟩⟩
    rw [hz, hy, nI_1, pn_cell, pn_cell, pn_cl (show 16 * k + j < 2147483648 by omega), pn_cl (show 16 * v + j < 2147483648 by omega)]
    refine ih _ (fun r m h1 h2 h3 h4 => ?_)
    rw [upd_at, upd_at]
    by_cases q1 : 16 * r + m = 16 * k + j
    · have e : r = k ∧ m = j := by omega
      obtain ⟨e1, e3⟩ := e
      subst e1 e3
      rw [if_pos rfl, hI v m hkv hv h3 h4, if_neg (Nat.lt_irrefl m), if_pos (show m < m + 1 by omega)]
      unfold sw swp
      rw [if_pos rfl]
    · rw [if_neg q1]
      by_cases q2 : 16 * r + m = 16 * v + j
      · have e : r = v ∧ m = j := by omega
        obtain ⟨e1, e3⟩ := e
        subst e1 e3
        rw [if_pos rfl, hI k m (Nat.le_refl k) hk h3 h4, if_neg (Nat.lt_irrefl m), if_pos (show m < m + 1 by omega)]
        unfold sw swp
        rw [if_neg hne, if_pos rfl]
      · rw [if_neg q2, hI r m h1 h2 h3 h4]
        by_cases q3 : m < j
        · rw [if_pos q3, if_pos (show m < j + 1 by omega)]
        · rw [if_neg q3]
          by_cases q4 : m < j + 1
          · have : m = j := by omega
            subst this
            rw [if_pos q4]
            unfold sw swp
            rw [if_neg (show ¬ r = k by omega), if_neg (show ¬ r = v by omega)]
          · rw [if_neg q4]
theorem sp_det4 {n : Nat} {A : Nat → Nat → Nat} {σ τ ri we : Nat → Nat} (hW : WF n A σ τ ri we) {pe po pp pr pw ce : Nat → Int32} (hC : CP n A σ τ ri we (nI n) pe po pp pr pw) {Q : Int32 → (Nat → Int32) → Prop} (hok : (∀ k, k < n → pv n (gjW n A k) k < n) → ∀ ce, Q (nI (gjD n A n)) ce) (hno : ∀ k, k < n → pv n (gjW n A k) k = n → (∀ q, q < k → pv n (gjW n A q) q < n) → ∀ ce, Q 0 ce) : wp_X3_determinantOf (nI n) pe ce Q := by
  have hn := hW.2.1
  intro G1 g1
  suffices k1 : ∀ k, k ≤ n → (∀ q, q < k → pv n (gjW n A q) q < n) → ∀ ce, RT n k (gjW n A k) ce → G1 (nI k) (nI (gjD n A k)) (nI n) ce from k1 0 (by omega) (fun q hq => absurd hq (by omega)) _ (fun i j _ h2 _ h4 => by rw [cpy_256 (by omega)]; exact hC.2.1 i j h2 h4)
  refine pu_down n ?_ ?_
  · intro hp ce hR
    exact g1 _ _ _ _ ⟨fun _ => hok hp _, fun q => absurd (nI_le (Nat.le_refl n) (by omega)) q⟩
  · intro k hk ih hp ce hR
    have hU := gjW_lt (n := n) hW.2.2.1 k
    have hd := gjD_lt n A k
    have ihW : ∀ ce, pv n (gjW n A k) k < n → RT n (k + 1) (el (nm (sw (gjW n A k) k (pv n (gjW n A k) k)) k) k) ce → G1 (nI (k + 1)) (nI ((if pv n (gjW n A k) k = k then gjD n A k else sbm 0 (gjD n A k)) * sw (gjW n A k) k (pv n (gjW n A k) k) k k % 65521)) (nI n) ce := fun ce hpk hR => ih (fun q hq => by
      by_cases e : q = k
      · subst e; exact hpk
      · exact hp q (by omega)) ce hR
    have hno' : pv n (gjW n A k) k = n → ∀ ce, Q 0 ce := fun e => hno k hk e hp
    clear ih hok hno
    generalize gjW n A k = U at *
    generalize gjD n A k = d at *
    refine g1 _ _ _ _ ⟨fun q => absurd q (nI_ge hk (by omega)), fun _ => ?_⟩
    intro H1 h1
    suffices h2 : ∀ v, v ≤ n → k ≤ v → (∀ i, k ≤ i → i < v → U i k = 0) → H1 (nI v) from h2 k (by omega) (Nat.le_refl k) (fun i h1 h2 => absurd h1 (by omega))
    refine pu_down n ?_ ?_
    · intro _ hz
      exact h1 _ ⟨fun _ => ⟨fun _ => hno' (pv_no hz) _, fun q => absurd rfl q⟩, fun q => absurd (nI_le (Nat.le_refl n) (by omega)) q⟩
    · intro v hv ih2 hkv hz
      refine h1 _ ⟨fun q => absurd q (nI_ge hv (by omega)), fun _ => ⟨by rw [pn_cell]; exact pn_in (by omega) (by decide), ?_⟩⟩
      have hUv := hU v k
      have v1 : ce (Int32.toNatClampNeg (f_cell (nI v) (nI k))) = nI (U v k) := by
        rw [pn_cell, pn_cl (by omega), hR v k hkv hv (Nat.le_refl k) hk]
      rw [v1]
      refine pk_eq (U v k) 0 (fun e x hx => ?_) (fun e => ⟨fun q => absurd q (nI_nm1 (by omega)), fun _ => ?_⟩)
      · rw [hx, nI_1]
        refine ih2 (by omega) (fun i h1 h2 => ?_)
        by_cases q : i = v
        · subst q; exact e
        · exact hz i h1 (by omega)
      · have hpv : pv n U k = v := pv_yes hv hkv e hz
        rw [hpv] at ihW
        refine pk_eq v k (fun e2 => ?_) (fun e2 => ?_)
        · subst e2
          rw [if_pos rfl, sw_self] at ihW
          rw [pn_cell, pn_cl (show 16 * v + v < 2147483648 by omega), hR v v (Nat.le_refl v) hv (Nat.le_refl v) hv, pn_times hd (hU _ _)]
          refine ⟨pn_in (by omega) (by decide), fun x hx => ?_⟩
          rw [hx]
          refine sp_clear3 hn hv hU hR (fun ce hR2 y hy => ?_)
          rw [hy, nI_1]
          exact ihW ce hv hR2
        · rw [if_neg e2] at ihW
          refine sp_xrows hn hk hkv hv e2 hR (fun ce hR2 x hx => ?_)
          rw [show (0 : Int32) = nI 0 from rfl, pn_minus (by omega) hd] at hx
          rw [hx, pn_cell, pn_cl (show 16 * k + k < 2147483648 by omega), hR2 k k (Nat.le_refl k) hk (Nat.le_refl k) hk, pn_times (sbm_lt _ _) (sw_lt hU _ _ _ _)]
          refine ⟨pn_in (by omega) (by decide), fun y hy => ?_⟩
          rw [hy]
          refine sp_clear3 hn hk (sw_lt hU k v) hR2 (fun ce hR3 z hz => ?_)
          rw [hz, nI_1]
          exact ihW ce hv hR3
theorem pure_5 {L : Nat} {xs : Nat → Int32} {i : Nat} (hL : L ≤ 2048) (hi : 4 * i + 4 ≤ L) {X_solved : Int32} {X_levelCount : Int32} {P_rows : Int32} {P_entries : (Nat → Int32)} {P_order : (Nat → Int32)} {P_places : (Nat → Int32)} {P_rights : (Nat → Int32)} {P_weights : (Nat → Int32)} {L0_rows : Int32} {L0_entries : (Nat → Int32)} {L0_order : (Nat → Int32)} {L0_places : (Nat → Int32)} {L0_rights : (Nat → Int32)} {L0_weights : (Nat → Int32)} {L1_rows : Int32} {L1_entries : (Nat → Int32)} {L1_order : (Nat → Int32)} {L1_places : (Nat → Int32)} {L1_rights : (Nat → Int32)} {L1_weights : (Nat → Int32)} {L2_rows : Int32} {L2_entries : (Nat → Int32)} {L2_order : (Nat → Int32)} {L2_places : (Nat → Int32)} {L2_rights : (Nat → Int32)} {L2_weights : (Nat → Int32)} {L3_rows : Int32} {L3_entries : (Nat → Int32)} {L3_order : (Nat → Int32)} {L3_places : (Nat → Int32)} {L3_rights : (Nat → Int32)} {L3_weights : (Nat → Int32)} {L4_rows : Int32} {L4_entries : (Nat → Int32)} {L4_order : (Nat → Int32)} {L4_places : (Nat → Int32)} {L4_rights : (Nat → Int32)} {L4_weights : (Nat → Int32)} {L5_rows : Int32} {L5_entries : (Nat → Int32)} {L5_order : (Nat → Int32)} {L5_places : (Nat → Int32)} {L5_rights : (Nat → Int32)} {L5_weights : (Nat → Int32)} {E_joined : (Nat → Int32)} {E_later : (Nat → Int32)} {E_paths : (Nat → Int32)} {F_known : Int32} {F_rows : Int32} {F_pivots : (Nat → Int32)} {F_reciprocals : (Nat → Int32)} {F_below : (Nat → Int32)} {R_cells : (Nat → Int32)} {X_vector : (Nat → Int32)} {X_solution : (Nat → Int32)} {M_thrown : Int32} {M_n : Int32} {M_hasFactors : Int32} {M_hasSolution : Int32} {M_levels : Int32} {M_a : (Nat → Int32)} {M_rowAt : (Nat → Int32)} {M_places : (Nat → Int32)} {M_rights : (Nat → Int32)} {M_weights : (Nat → Int32)} {M_pivots : (Nat → Int32)} {M_lower : (Nat → Int32)} {M_solution : (Nat → Int32)} {M_work : (Nat → Int32)} {M_isJoined : (Nat → Int32)} {M_stored : (Nat → Int32)} {O_out : (Nat → Int64)} (hR : Rel X_solved X_levelCount P_rows P_entries P_order P_places P_rights P_weights L0_rows L0_entries L0_order L0_places L0_rights L0_weights L1_rows L1_entries L1_order L1_places L1_rights L1_weights L2_rows L2_entries L2_order L2_places L2_rights L2_weights L3_rows L3_entries L3_order L3_places L3_rights L3_weights L4_rows L4_entries L4_order L4_places L4_rights L4_weights L5_rows L5_entries L5_order L5_places L5_rights L5_weights E_joined E_later E_paths F_known F_rows F_pivots F_reciprocals F_below R_cells X_vector X_solution M_thrown M_n M_hasFactors M_hasSolution M_levels M_a M_rowAt M_places M_rights M_weights M_pivots M_lower M_solution M_work M_isJoined M_stored O_out) {G : Int32 → Int32 → Int32 → Int32 → (Nat → Int32) → (Nat → Int32) → (Nat → Int32) → (Nat → Int32) → (Nat → Int32) → Int32 → (Nat → Int32) → (Nat → Int32) → (Nat → Int32) → (Nat → Int32) → (Nat → Int32) → Int32 → (Nat → Int32) → (Nat → Int32) → (Nat → Int32) → (Nat → Int32) → (Nat → Int32) → Int32 → (Nat → Int32) → (Nat → Int32) → (Nat → Int32) → (Nat → Int32) → (Nat → Int32) → Int32 → (Nat → Int32) → (Nat → Int32) → (Nat → Int32) → (Nat → Int32) → (Nat → Int32) → Int32 → (Nat → Int32) → (Nat → Int32) → (Nat → Int32) → (Nat → Int32) → (Nat → Int32) → Int32 → (Nat → Int32) → (Nat → Int32) → (Nat → Int32) → (Nat → Int32) → (Nat → Int32) → (Nat → Int32) → (Nat → Int32) → (Nat → Int32) → Int32 → Int32 → (Nat → Int32) → (Nat → Int32) → (Nat → Int32) → (Nat → Int32) → (Nat → Int32) → (Nat → Int32) → Int32 → Int32 → Int32 → Int32 → Int32 → (Nat → Int32) → (Nat → Int32) → (Nat → Int32) → (Nat → Int32) → (Nat → Int32) → (Nat → Int32) → (Nat → Int32) → (Nat → Int32) → (Nat → Int32) → (Nat → Int32) → (Nat → Int32) → (Nat → Int64) → Prop} (hG : ∀ (X_solved : Int32) (X_levelCount : Int32) (P_rows : Int32) (P_entries : (Nat → Int32)) (P_order : (Nat → Int32)) (P_places : (Nat → Int32)) (P_rights : (Nat → Int32)) (P_weights : (Nat → Int32)) (L0_rows : Int32) (L0_entries : (Nat → Int32)) (L0_order : (Nat → Int32)) (L0_places : (Nat → Int32)) (L0_rights : (Nat → Int32)) (L0_weights : (Nat → Int32)) (L1_rows : Int32) (L1_entries : (Nat → Int32)) (L1_order : (Nat → Int32)) (L1_places : (Nat → Int32)) (L1_rights : (Nat → Int32)) (L1_weights : (Nat → Int32)) (L2_rows : Int32) (L2_entries : (Nat → Int32)) (L2_order : (Nat → Int32)) (L2_places : (Nat → Int32)) (L2_rights : (Nat → Int32)) (L2_weights : (Nat → Int32)) (L3_rows : Int32) (L3_entries : (Nat → Int32)) (L3_order : (Nat → Int32)) (L3_places : (Nat → Int32)) (L3_rights : (Nat → Int32)) (L3_weights : (Nat → Int32)) (L4_rows : Int32) (L4_entries : (Nat → Int32)) (L4_order : (Nat → Int32)) (L4_places : (Nat → Int32)) (L4_rights : (Nat → Int32)) (L4_weights : (Nat → Int32)) (L5_rows : Int32) (L5_entries : (Nat → Int32)) (L5_order : (Nat → Int32)) (L5_places : (Nat → Int32)) (L5_rights : (Nat → Int32)) (L5_weights : (Nat → Int32)) (E_joined : (Nat → Int32)) (E_later : (Nat → Int32)) (E_paths : (Nat → Int32)) (F_known : Int32) (F_rows : Int32) (F_pivots : (Nat → Int32)) (F_reciprocals : (Nat → Int32)) (F_below : (Nat → Int32)) (R_cells : (Nat → Int32)) (X_vector : (Nat → Int32)) (X_solution : (Nat → Int32)) (M_thrown : Int32) (M_n : Int32) (M_hasFactors : Int32) (M_hasSolution : Int32) (M_levels : Int32) (M_a : (Nat → Int32)) (M_rowAt : (Nat → Int32)) (M_places : (Nat → Int32)) (M_rights : (Nat → Int32)) (M_weights : (Nat → Int32)) (M_pivots : (Nat → Int32)) (M_lower : (Nat → Int32)) (M_solution : (Nat → Int32)) (M_work : (Nat → Int32)) (M_isJoined : (Nat → Int32)) (M_stored : (Nat → Int32)) (O_out : (Nat → Int64)), Rel X_solved X_levelCount P_rows P_entries P_order P_places P_rights P_weights L0_rows L0_entries L0_order L0_places L0_rights L0_weights L1_rows L1_entries L1_order L1_places L1_rights L1_weights L2_rows L2_entries L2_order L2_places L2_rights L2_weights L3_rows L3_entries L3_order L3_places L3_rights L3_weights L4_rows L4_entries L4_order L4_places L4_rights L4_weights L5_rows L5_entries L5_order L5_places L5_rights L5_weights E_joined E_later E_paths F_known F_rows F_pivots F_reciprocals F_below R_cells X_vector X_solution M_thrown M_n M_hasFactors M_hasSolution M_levels M_a M_rowAt M_places M_rights M_weights M_pivots M_lower M_solution M_work M_isJoined M_stored O_out → G (nI (4 * i) + 4) X_solved X_levelCount P_rows P_entries P_order P_places P_rights P_weights L0_rows L0_entries L0_order L0_places L0_rights L0_weights L1_rows L1_entries L1_order L1_places L1_rights L1_weights L2_rows L2_entries L2_order L2_places L2_rights L2_weights L3_rows L3_entries L3_order L3_places L3_rights L3_weights L4_rows L4_entries L4_order L4_places L4_rights L4_weights L5_rows L5_entries L5_order L5_places L5_rights L5_weights E_joined E_later E_paths F_known F_rows F_pivots F_reciprocals F_below R_cells X_vector X_solution M_thrown M_n M_hasFactors M_hasSolution M_levels M_a M_rowAt M_places M_rights M_weights M_pivots M_lower M_solution M_work M_isJoined M_stored O_out) : vc_law_5 L xs (nI (4 * i)) X_solved X_levelCount P_rows P_entries P_order P_places P_rights P_weights L0_rows L0_entries L0_order L0_places L0_rights L0_weights L1_rows L1_entries L1_order L1_places L1_rights L1_weights L2_rows L2_entries L2_order L2_places L2_rights L2_weights L3_rows L3_entries L3_order L3_places L3_rights L3_weights L4_rows L4_entries L4_order L4_places L4_rights L4_weights L5_rows L5_entries L5_order L5_places L5_rights L5_weights E_joined E_later E_paths F_known F_rows F_pivots F_reciprocals F_below R_cells X_vector X_solution M_thrown M_n M_hasFactors M_hasSolution M_levels M_a M_rowAt M_places M_rights M_weights M_pivots M_lower M_solution M_work M_isJoined M_stored O_out G := by
  obtain ⟨n, A, σ, τ, ri, we, fk, fs, ℓ, hW, hC, hM, hF, hS, hV⟩ := id hR
  have hg : ∀ t ce wk, G (nI (4 * i) + 4) X_solved X_levelCount P_rows P_entries P_order P_places P_rights P_weights L0_rows L0_entries L0_order L0_places L0_rights L0_weights L1_rows L1_entries L1_order L1_places L1_rights L1_weights L2_rows L2_entries L2_order L2_places L2_rights L2_weights L3_rows L3_entries L3_order L3_places L3_rights L3_weights L4_rows L4_entries L4_order L4_places L4_rights L4_weights L5_rows L5_entries L5_order L5_places L5_rights L5_weights E_joined E_later E_paths F_known F_rows F_pivots F_reciprocals F_below ce X_vector X_solution t M_n M_hasFactors M_hasSolution M_levels M_a M_rowAt M_places M_rights M_weights M_pivots M_lower M_solution wk M_isJoined M_stored O_out := fun t ce wk => hG X_solved X_levelCount P_rows P_entries P_order P_places P_rights P_weights L0_rows L0_entries L0_order L0_places L0_rights L0_weights L1_rows L1_entries L1_order L1_places L1_rights L1_weights L2_rows L2_entries L2_order L2_places L2_rights L2_weights L3_rows L3_entries L3_order L3_places L3_rights L3_weights L4_rows L4_entries L4_order L4_places L4_rights L4_weights L5_rows L5_entries L5_order L5_places L5_rights L5_weights E_joined E_later E_paths F_known F_rows F_pivots F_reciprocals F_below ce X_vector X_solution t M_n M_hasFactors M_hasSolution M_levels M_a M_rowAt M_places M_rights M_weights M_pivots M_lower M_solution wk M_isJoined M_stored O_out ⟨n, A, σ, τ, ri, we, fk, fs, ℓ, hW, hC, hM, hF, hS, hV⟩
  have hn := hW.2.1
  have c1 := hC.1
  have m1 := hM.1
  subst c1 m1
  unfold vc_law_5 wp_X4_determinant wp_X5_determinant
  refine sp_det4 hW hC (fun hp ce => ?_) (fun k hk h1 h2 ce => ?_)
  · refine sp_copy hW hM (fun wk hw => ?_)
    refine sp_gj (c := fun j => j < n) hn (fun j hj => hj) hW.2.2.1 (fun i j hi _ hj => hw i j hi hj) (fun _ wk _ => ?_) (fun k hk h1 h2 wk => absurd (hp k hk) (by omega))
    exact tl_p rfl (hg _ _ _)
  · refine sp_copy hW hM (fun wk hw => ?_)
    refine sp_gj (c := fun j => j < n) hn (fun j hj => hj) hW.2.2.1 (fun i j hi _ hj => hw i j hi hj) (fun hp wk _ => absurd (hp k hk) (by omega)) (fun k' hk' h3 h4 wk => ?_)
    exact tl_p rfl (hg _ _ _)
