/-! PURE: elimination with exchanged rows; determinant -/
def sw (W : Nat → Nat → Nat) (k v : Nat) : Nat → Nat → Nat := fun i j => W (swp k v i) j
def nm (W : Nat → Nat → Nat) (k : Nat) : Nat → Nat → Nat := fun i j => if i = k then W k j * inv (W k k) % 65521 else W i j
def el (W : Nat → Nat → Nat) (k : Nat) : Nat → Nat → Nat := fun i j => if i = k then W i j else sbm (W i j) (W i k * W k j % 65521)
def pv (n : Nat) (W : Nat → Nat → Nat) (k : Nat) : Nat := fsP (fun i => decide (k ≤ i) && decide (W i k ≠ 0)) n
def gjW (n : Nat) (W : Nat → Nat → Nat) : Nat → Nat → Nat → Nat
  | 0 => W
  | k + 1 => el (nm (sw (gjW n W k) k (pv n (gjW n W k) k)) k) k
def gjD (n : Nat) (W : Nat → Nat → Nat) : Nat → Nat
  | 0 => 1
  | k + 1 => (if pv n (gjW n W k) k = k then gjD n W k else sbm 0 (gjD n W k)) * sw (gjW n W k) k (pv n (gjW n W k) k) k k % 65521
theorem sw_lt {W : Nat → Nat → Nat} (h : ∀ i j, W i j < 65521) (k v : Nat) : ∀ i j, sw W k v i j < 65521 := fun _ _ => h _ _
theorem nm_lt {W : Nat → Nat → Nat} (h : ∀ i j, W i j < 65521) (k : Nat) : ∀ i j, nm W k i j < 65521 := fun i j => by
  unfold nm
  split
  · exact md_lt _
  · exact h _ _
theorem el_lt {W : Nat → Nat → Nat} (h : ∀ i j, W i j < 65521) (k : Nat) : ∀ i j, el W k i j < 65521 := fun i j => by
  unfold el
  split
  · exact h _ _
  · exact sbm_lt _ _
theorem gjW_lt {n : Nat} {W : Nat → Nat → Nat} (h : ∀ i j, W i j < 65521) : ∀ k i j, gjW n W k i j < 65521
  | 0 => h
  | k + 1 => el_lt (nm_lt (sw_lt (gjW_lt h k) k _) k) k
theorem gjD_lt (n : Nat) (W : Nat → Nat → Nat) : ∀ k, gjD n W k < 65521
  | 0 => by unfold gjD; decide
  | k + 1 => md_lt _
theorem pv_cases (n : Nat) (W : Nat → Nat → Nat) (k : Nat) : (pv n W k = n ∧ ∀ i, k ≤ i → i < n → W i k = 0) ∨ (pv n W k < n ∧ k ≤ pv n W k ∧ W (pv n W k) k ≠ 0) := by
  rcases fsP_cases (fun i => decide (k ≤ i) && decide (W i k ≠ 0)) n with ⟨h1, h2⟩ | ⟨h1, h2, _⟩
  · refine Or.inl ⟨h1, fun i hk hi => ?_⟩
    have := h2 i hi
    rw [decide_eq_true hk, Bool.true_and] at this
    have := of_decide_eq_false this
    omega
  · rw [Bool.and_eq_true] at h2
    exact Or.inr ⟨h1, of_decide_eq_true h2.1, of_decide_eq_true h2.2⟩
theorem pv_no {n : Nat} {W : Nat → Nat → Nat} {k : Nat} (h : ∀ i, k ≤ i → i < n → W i k = 0) : pv n W k = n := fsP_no n (fun i hi => by
  by_cases q : k ≤ i
  · rw [h i q hi, decide_eq_false (fun e : (0 : Nat) ≠ 0 => e rfl), Bool.and_false]
  · rw [decide_eq_false q, Bool.false_and])
theorem pv_yes {n : Nat} {W : Nat → Nat → Nat} {k v : Nat} (hv : v < n) (hk : k ≤ v) (h0 : W v k ≠ 0) (h : ∀ i, k ≤ i → i < v → W i k = 0) : pv n W k = v := fsP_yes (q := fun i => decide (k ≤ i) && decide (W i k ≠ 0)) (by rw [decide_eq_true hk, decide_eq_true h0]; rfl) (fun i hi => by
  by_cases q : k ≤ i
  · rw [h i q hi, decide_eq_false (fun e : (0 : Nat) ≠ 0 => e rfl), Bool.and_false]
  · rw [decide_eq_false q, Bool.false_and]) n hv
theorem swp_self (k i : Nat) : swp k k i = i := by
  unfold swp
  by_cases h : i = k
  · rw [if_pos h, h]
  · rw [if_neg h, if_neg h]
theorem sw_self (W : Nat → Nat → Nat) (k : Nat) : sw W k k = W := funext fun i => funext fun j => by unfold sw; rw [swp_self]
/-- the reference's table, by rows and by the columns that matter -/
def RW (n : Nat) (c : Nat → Prop) (W : Nat → Nat → Nat) (wk : Nat → Int32) : Prop := ∀ i j, i < n → j < 17 → c j → wk (17 * i + j) = nI (W i j)
theorem sp_gj {n : Nat} (hn : n ≤ 16) {c : Nat → Prop} (hc : ∀ j, j < n → c j) {W : Nat → Nat → Nat} (hW : ∀ i j, W i j < 65521) {mt mh ms mv : Int32} {wk : Nat → Int32} (hR : RW n c W wk) {Q : Int32 → (Nat → Int32) → Prop} (hok : (∀ k, k < n → pv n (gjW n W k) k < n) → ∀ wk, RW n c (gjW n W n) wk → Q (nI (gjD n W n)) wk) (hno : ∀ k, k < n → pv n (gjW n W k) k = n → (∀ q, q < k → pv n (gjW n W q) q < n) → ∀ wk, Q 0 wk) : wp_X5_eliminate mt (nI n) mh ms mv wk Q := by
  intro G1 G2 G3 G4 G5 G6 g1 g2 g3 g4 g5 g6
  suffices k1 : ∀ k, k ≤ n → (∀ q, q < k → pv n (gjW n W q) q < n) → ∀ wk, RW n c (gjW n W k) wk → G1 (nI k) (nI (gjD n W k)) wk from k1 0 (by omega) (fun q hq => absurd hq (by omega)) wk hR
  refine pu_down n ?_ ?_
  · intro hp wk hR
    exact g1 _ _ _ ⟨fun _ => hok hp _ hR, fun q => absurd (nI_le (Nat.le_refl n) (by omega)) q⟩
  · intro k hk ih hp wk hR
    have hU := gjW_lt (n := n) hW k
    have hd := gjD_lt n W k
    have ihW : ∀ wk, pv n (gjW n W k) k < n → RW n c (el (nm (sw (gjW n W k) k (pv n (gjW n W k) k)) k) k) wk → G1 (nI (k + 1)) (nI ((if pv n (gjW n W k) k = k then gjD n W k else sbm 0 (gjD n W k)) * sw (gjW n W k) k (pv n (gjW n W k) k) k k % 65521)) wk := fun wk hpk hR => ih (fun q hq => by
      by_cases e : q = k
      · subst e; exact hpk
      · exact hp q (by omega)) wk hR
    have hno' : pv n (gjW n W k) k = n → ∀ wk, Q 0 wk := fun e => hno k hk e hp
    clear ih hok hno
    generalize gjW n W k = U at *
    generalize gjD n W k = d at *
    -- the rows but k
    have k5 : ∀ (N : Nat → Nat → Nat) (dd : Nat) (pa x3 : Int32), (∀ i j, N i j < 65521) → (∀ wk, RW n c (el N k) wk → G1 (nI (k + 1)) (nI dd) wk) → ∀ wk, RW n c N wk → G5 0 pa (nI dd) x3 (nI k) wk := by
      intro N dd pa x3 hN hend wk hRN
      suffices h5 : ∀ i, i ≤ n → ∀ wk, (∀ r j, r < n → j < 17 → c j → wk (17 * r + j) = nI (if r < i then el N k r j else N r j)) → G5 (nI i) pa (nI dd) x3 (nI k) wk from h5 0 (by omega) wk (fun r j hr hj hcj => by rw [hRN r j hr hj hcj, if_neg (by omega)])
      refine pu_down n ?_ ?_
      · intro wk hI
        refine g5 _ _ _ _ _ _ ⟨fun _ x hx => ?_, fun q => absurd (nI_le (Nat.le_refl n) (by omega)) q⟩
        rw [hx, nI_1]
        exact hend _ (fun r j hr hj hcj => by rw [hI r j hr hj hcj, if_pos hr])
      · intro i hi ih5 wk hI
        refine g5 _ _ _ _ _ _ ⟨fun q => absurd q (nI_ge hi (by omega)), fun _ => ⟨by rw [pn_at17]; exact pn_in (by omega) (by decide), fun x hx => ?_⟩⟩
        rw [pn_at17, pn_cl (by omega), hI i k hi (by omega) (hc k hk), if_neg (Nat.lt_irrefl i)] at hx
        rw [hx]
        by_cases eik : i = k
        · subst eik
          refine g6 _ _ _ _ _ _ _ _ ⟨fun q => absurd q (by decide), fun _ => ⟨fun _ y hy => ?_, fun q => absurd rfl q⟩⟩
          rw [hy, nI_1]
          refine ih5 _ (fun r j hr hj hcj => ?_)
          rw [hI r j hr hj hcj]
          by_cases q : r < i
          · rw [if_pos q, if_pos (show r < i + 1 by omega)]
          · rw [if_neg q]
            by_cases q2 : r = i
            · subst q2
              rw [if_pos (show r < r + 1 by omega)]
              unfold el
              rw [if_pos rfl]
            · rw [if_neg (show ¬ r < i + 1 by omega)]
        · suffices h6 : ∀ j, j ≤ 17 → ∀ wk, (∀ r m, r < n → m < 17 → c m → wk (17 * r + m) = nI (if r < i ∨ (r = i ∧ m < j) then el N k r m else N r m)) → G6 (nI j) (nI (N i k)) (nI i) pa (nI dd) x3 (nI k) wk from h6 0 (by omega) wk (fun r m hr hm hcm => by
            rw [hI r m hr hm hcm]
            by_cases q : r < i
            · rw [if_pos q, if_pos (Or.inl q)]
            · rw [if_neg q, if_neg (by omega)])
          refine pu_down 17 ?_ ?_
          · intro wk hI6
            refine g6 _ _ _ _ _ _ _ _ ⟨fun _ y hy => ?_, fun q => absurd (by decide) q⟩
            rw [hy, nI_1]
            refine ih5 _ (fun r m hr hm hcm => ?_)
            rw [hI6 r m hr hm hcm]
            by_cases q : r < i + 1
            · rw [if_pos q, if_pos (by omega)]
            · rw [if_neg q, if_neg (by omega)]
          · intro j hj ih6 wk hI6
            refine g6 _ _ _ _ _ _ _ _ ⟨fun q => absurd q (show ¬ nI 16 < nI j from nI_nlt (by omega) (by omega)), fun _ => ⟨fun q => absurd ((nI_eq (by omega) (by omega)).mp q) eik, fun _ => ⟨by rw [pn_at17]; exact pn_in (by omega) (by decide), by rw [pn_at17]; exact pn_in (by omega) (by decide), by rw [pn_at17]; exact pn_in (by omega) (by decide), fun y hy => ?_⟩⟩⟩
            rw [hy, nI_1, pn_at17, pn_at17, pn_cl (show 17 * i + j < 2147483648 by omega), pn_cl (show 17 * k + j < 2147483648 by omega)]
            refine ih6 _ (fun r m hr hm hcm => ?_)
            by_cases q0 : 17 * r + m = 17 * i + j
            · have e : r = i ∧ m = j := by omega
              obtain ⟨e1, e2⟩ := e
              subst e1 e2
              have v1 : wk (17 * r + m) = nI (N r m) := by rw [hI6 r m hr hm hcm, if_neg (by omega)]
              have v2 : wk (17 * k + m) = nI (N k m) := by
                rw [hI6 k m hk hm hcm]
                by_cases q : k < r ∨ (k = r ∧ m < m)
                · rw [if_pos q]; unfold el; rw [if_pos rfl]
                · rw [if_neg q]
              rw [pk_us, v1, v2, pn_times (hN _ _) (hN _ _), pn_gminus (hN _ _) (md_lt _), if_pos (by omega)]
              unfold el
              rw [if_neg eik]
            · rw [pk_un q0, hI6 r m hr hm hcm]
              by_cases q : r < i ∨ (r = i ∧ m < j)
              · rw [if_pos q, if_pos (by omega)]
              · rw [if_neg q, if_neg (by omega)]
    -- row k by one over its pivot
    have k4 : ∀ (S : Nat → Nat → Nat) (dd : Nat) (x3 : Int32), (∀ i j, S i j < 65521) → (∀ wk, RW n c (el (nm S k) k) wk → G1 (nI (k + 1)) (nI dd) wk) → ∀ wk, RW n c S wk → G4 0 (nI (inv (S k k))) (nI dd) x3 (nI k) wk := by
      intro S dd x3 hS hend wk hRS
      suffices h4 : ∀ j, j ≤ 17 → ∀ wk, (∀ r m, r < n → m < 17 → c m → wk (17 * r + m) = nI (if r = k ∧ m < j then nm S k r m else S r m)) → G4 (nI j) (nI (inv (S k k))) (nI dd) x3 (nI k) wk from h4 0 (by omega) wk (fun r m hr hm hcm => by rw [hRS r m hr hm hcm, if_neg (by omega)])
      refine pu_down 17 ?_ ?_
      · intro wk hI
        refine g4 _ _ _ _ _ _ ⟨fun _ => ?_, fun q => absurd (by decide) q⟩
        refine k5 (nm S k) dd _ _ (nm_lt hS k) hend wk (fun r m hr hm hcm => ?_)
        rw [hI r m hr hm hcm]
        by_cases q : r = k
        · rw [if_pos ⟨q, hm⟩]
        · rw [if_neg (fun w => q w.1)]
          unfold nm
          rw [if_neg q]
      · intro j hj ih4 wk hI
        refine g4 _ _ _ _ _ _ ⟨fun q => absurd q (show ¬ nI 16 < nI j from nI_nlt (by omega) (by omega)), fun _ => ⟨by rw [pn_at17]; exact pn_in (by omega) (by decide), by rw [pn_at17]; exact pn_in (by omega) (by decide), fun y hy => ?_⟩⟩
        rw [hy, nI_1, pn_at17, pn_cl (show 17 * k + j < 2147483648 by omega)]
        refine ih4 _ (fun r m hr hm hcm => ?_)
        by_cases q0 : 17 * r + m = 17 * k + j
        · have e : r = k ∧ m = j := by omega
          obtain ⟨e1, e2⟩ := e
          subst e1 e2
          have v1 : wk (17 * r + m) = nI (S r m) := by rw [hI r m hr hm hcm, if_neg (by omega)]
          rw [pk_us, v1, pn_times (hS _ _) (inv_lt _), if_pos (by omega)]
          unfold nm
          rw [if_pos rfl]
        · rw [pk_un q0, hI r m hr hm hcm]
          by_cases q : r = k ∧ m < j
          · rw [if_pos q, if_pos (by omega)]
          · rw [if_neg q, if_neg (by omega)]
    -- behind the exchange
    have kc : ∀ (S : Nat → Nat → Nat) (dd : Nat) (x3 : Int32), (∀ i j, S i j < 65521) → dd < 65521 → (∀ wk, RW n c (el (nm S k) k) wk → G1 (nI (k + 1)) (nI (dd * S k k % 65521)) wk) → ∀ wk, RW n c S wk → vp_in (f_at17 (nI k) (nI k)) 272 ∧ (∀ x1_4 : Int32, x1_4 = (f_times (nI dd) (wk (Int32.toNatClampNeg (f_at17 (nI k) (nI k))))) → (vp_in (f_at17 (nI k) (nI k)) 272 ∧ (∀ x4_8 : Int32, x4_8 = (f_rec (wk (Int32.toNatClampNeg (f_at17 (nI k) (nI k))))) → (G4 0 x4_8 x1_4 x3 (nI k) wk)))) := by
      intro S dd x3 hS hdd hend wk hRS
      have v1 : wk (17 * k + k) = nI (S k k) := hRS k k hk (by omega) (hc k hk)
      rw [pn_at17, pn_cl (show 17 * k + k < 2147483648 by omega), v1, pn_rec (hS _ _), pn_times hdd (hS _ _)]
      refine ⟨pn_in (by omega) (by decide), fun x hx => ⟨pn_in (by omega) (by decide), fun y hy => ?_⟩⟩
      rw [hx, hy]
      exact k4 S _ x3 hS hend wk hRS
    -- the search for a pivot
    refine g1 _ _ _ ⟨fun q => absurd q (nI_ge hk (by omega)), fun _ => ?_⟩
    suffices h2 : ∀ v, v ≤ n → k ≤ v → (∀ i, k ≤ i → i < v → U i k = 0) → G2 (nI v) (nI k) (nI d) wk from h2 k (by omega) (Nat.le_refl k) (fun i h1 h2 => absurd h1 (by omega))
    refine pu_down n ?_ ?_
    · intro _ hz
      exact g2 _ _ _ _ ⟨fun _ => ⟨fun _ => hno' (pv_no hz) _, fun q => absurd rfl q⟩, fun q => absurd (nI_le (Nat.le_refl n) (by omega)) q⟩
    · intro v hv ih2 hkv hz
      refine g2 _ _ _ _ ⟨fun q => absurd q (nI_ge hv (by omega)), fun _ => ⟨by rw [pn_at17]; exact pn_in (by omega) (by decide), ?_⟩⟩
      have hUv := hU v k
      have v1 : wk (Int32.toNatClampNeg (f_at17 (nI v) (nI k))) = nI (U v k) := by
        rw [pn_at17, pn_cl (by omega), hR v k hv (by omega) (hc k hk)]
      rw [v1]
      refine pk_eq (U v k) 0 (fun e x hx => ?_) (fun e => ⟨fun q => absurd ((nI_eq (by omega) (by omega)).mp q) (by omega), fun _ => ?_⟩)
      · rw [hx, nI_1]
        refine ih2 (by omega) (fun i h1 h2 => ?_)
        by_cases q : i = v
        · subst q; exact e
        · exact hz i h1 (by omega)
      · have hpv : pv n U k = v := pv_yes hv hkv e hz
        rw [hpv] at ihW
        refine pk_eq v k (fun e2 => ?_) (fun e2 x hx => ?_)
        · subst e2
          rw [if_pos rfl, sw_self] at ihW
          exact kc U d _ hU hd (fun wk hw => ihW wk hv hw) wk hR
        · rw [if_neg e2] at ihW
          rw [show (0 : Int32) = nI 0 from rfl, pn_gminus (by omega) hd] at hx
          rw [hx]
          suffices h3 : ∀ j, j ≤ 17 → ∀ wk, (∀ r m, r < n → m < 17 → c m → wk (17 * r + m) = nI (if m < j then sw U k v r m else U r m)) → G3 (nI j) (nI (sbm 0 d)) (nI v) (nI k) wk from h3 0 (by omega) wk (fun r m hr hm hcm => by rw [hR r m hr hm hcm, if_neg (by omega)])
          refine pu_down 17 ?_ ?_
          · intro wk hI
            refine g3 _ _ _ _ _ ⟨fun _ => ?_, fun q => absurd (by decide) q⟩
            exact kc (sw U k v) (sbm 0 d) _ (sw_lt hU k v) (sbm_lt _ _) (fun wk hw => ihW wk hv hw) wk (fun r m hr hm hcm => by rw [hI r m hr hm hcm, if_pos hm])
          · intro j hj ih3 wk hI
            refine g3 _ _ _ _ _ ⟨fun q => absurd q (show ¬ nI 16 < nI j from nI_nlt (by omega) (by omega)), fun _ => ⟨by rw [pn_at17]; exact pn_in (by omega) (by decide), fun y hy => ⟨by rw [pn_at17]; exact pn_in (by omega) (by decide), by rw [pn_at17]; exact pn_in (by omega) (by decide), by rw [pn_at17]; exact pn_in (by omega) (by decide), fun z hz => ?_⟩⟩⟩
            rw [hz, hy, nI_1, pn_at17, pn_at17, pn_cl (show 17 * k + j < 2147483648 by omega), pn_cl (show 17 * v + j < 2147483648 by omega)]
            refine ih3 _ (fun r m hr hm hcm => ?_)
            rw [upd_at, upd_at]
            by_cases q1 : 17 * r + m = 17 * v + j
            · have e : r = v ∧ m = j := by omega
              obtain ⟨e1, e3⟩ := e
              subst e1 e3
              rw [if_pos rfl, hI k m hk hm hcm, if_neg (Nat.lt_irrefl m), if_pos (show m < m + 1 by omega)]
              unfold sw swp
              rw [if_neg e2, if_pos rfl]
            · rw [if_neg q1]
              by_cases q2 : 17 * r + m = 17 * k + j
              · have e : r = k ∧ m = j := by omega
                obtain ⟨e1, e3⟩ := e
                subst e1 e3
                rw [if_pos rfl, hI v m hv hm hcm, if_neg (Nat.lt_irrefl m), if_pos (show m < m + 1 by omega)]
                unfold sw swp
                rw [if_pos rfl]
              · rw [if_neg q2, hI r m hr hm hcm]
                by_cases q3 : m < j
                · rw [if_pos q3, if_pos (show m < j + 1 by omega)]
                · rw [if_neg q3]
                  by_cases q4 : m < j + 1
                  · have : m = j := by omega
                    subst this
                    rw [if_pos q4]
                    unfold sw swp
                    rw [if_neg (show ¬ r = k by omega), if_neg (show ¬ r = v by omega)]
                  · rw [if_neg q4]
theorem sp_copy {n : Nat} {A : Nat → Nat → Nat} {σ τ ri we : Nat → Nat} (hW : WF n A σ τ ri we) {mt mh ms mv : Int32} {ma ro pl mr mw wk : Nat → Int32} (hM : MP n A σ τ ri we (nI n) ma ro pl mr mw) {Q : (Nat → Int32) → Prop} (h : ∀ wk, (∀ i j, i < n → j < n → wk (17 * i + j) = nI (A i j)) → Q wk) : wp_X5_copy mt (nI n) mh ms mv ma wk Q := by
  have hn := hW.2.1
  intro G1 G2 g1 g2
  suffices k1 : ∀ i, i ≤ n → ∀ wk, (∀ a b, a < i → b < n → wk (17 * a + b) = nI (A a b)) → G1 (nI i) wk from k1 0 (by omega) _ (fun a b ha => absurd ha (by omega))
  refine pu_down n ?_ ?_
  · intro wk hI
    exact g1 _ _ ⟨fun _ => h _ hI, fun c => absurd (nI_le (Nat.le_refl n) (by omega)) c⟩
  · intro i hi ih wk hI
    refine g1 _ _ ⟨fun c => absurd c (nI_ge hi (by omega)), fun _ => ?_⟩
    suffices k2 : ∀ j, j ≤ n → ∀ wk, (∀ a b, b < n → (a < i ∨ (a = i ∧ b < j)) → wk (17 * a + b) = nI (A a b)) → G2 (nI j) (nI i) wk from k2 0 (by omega) _ (fun a b hb hab => hI a b (by omega) hb)
    refine pu_down n ?_ ?_
    · intro wk hI2
      refine g2 _ _ _ ⟨fun _ x hx => ?_, fun c => absurd (nI_le (Nat.le_refl n) (by omega)) c⟩
      rw [hx, nI_1]
      exact ih _ (fun a b ha hb => hI2 a b hb (by omega))
    · intro j hj ih2 wk hI2
      refine g2 _ _ _ ⟨fun c => absurd c (nI_ge hj (by omega)), fun _ => ⟨by rw [pn_at]; exact pn_in (by omega) (by decide), by rw [pn_at17]; exact pn_in (by omega) (by decide), fun x hx => ?_⟩⟩
      rw [hx, nI_1, pn_at, pn_at17, pn_cl (show 17 * i + j < 2147483648 by omega), pn_cl (show 16 * i + j < 2147483648 by omega), hM.2.1 i j hi hj]
      refine ih2 _ (fun a b hb hab => ?_)
      by_cases e : 17 * a + b = 17 * i + j
      · have : a = i ∧ b = j := by omega
        rw [e, this.1, this.2]; exact pk_us
      · rw [pk_un e]; exact hI2 a b hb (by omega)
