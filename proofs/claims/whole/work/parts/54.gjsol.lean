/-! PURE: the reference's elimination solves the system -/
def rho (n : Nat) (W : Nat → Nat → Nat) (y : Nat → FP) (i : Nat) : FP := sf (fun j => cf (W i j) * y j) n + cf (W i 16) * y 16
theorem rho_el {n : Nat} {W : Nat → Nat → Nat} (hW : ∀ i j, W i j < 65521) {k : Nat} (hk : k < n) {y : Nat → FP} (h : ∀ i, i < n → rho n (el W k) y i = 0) : ∀ i, i < n → rho n W y i = 0 := by
  have hk0 : rho n W y k = 0 := by
    have h1 := h k hk
    have e : rho n (el W k) y k = rho n W y k := by
      have : ∀ j, el W k k j = W k j := fun j => if_pos rfl
      unfold rho
      rw [this 16, sf_cong (g := fun j => cf (W k j) * y j) n (fun j _ => by rw [this j])]
    rw [← e]; exact h1
  intro i hi
  by_cases e : i = k
  · rw [e]; exact hk0
  · have h1 := h i hi
    have e1 : ∀ j, cf (el W k i j) = cf (W i j) - cf (W i k) * cf (W k j) := fun j => by
      unfold el
      rw [if_neg e, cf_sbm (hW _ _) (md_lt _), cf_mod, cf_mul]
    have e2 : sf (fun j => cf (el W k i j) * y j) n = sf (fun j => cf (W i j) * y j) n - cf (W i k) * sf (fun j => cf (W k j) * y j) n := by
      have : sf (fun j => cf (el W k i j) * y j) n + cf (W i k) * sf (fun j => cf (W k j) * y j) n = sf (fun j => cf (W i j) * y j) n := by
        rw [← sf_mul, ← sf_add]
        exact sf_cong n (fun j _ => by rw [e1 j]; grind)
      grind
    unfold rho at *
    rw [e2, e1 16] at h1
    grind
theorem rho_nm {n : Nat} {W : Nat → Nat → Nat} (hW : ∀ i j, W i j < 65521) {k : Nat} (h0 : W k k ≠ 0) {y : Nat → FP} (h : ∀ i, i < n → rho n (nm W k) y i = 0) : ∀ i, i < n → rho n W y i = 0 := by
  intro i hi
  have h1 := h i hi
  by_cases e : i = k
  · subst e
    have hi2 := cf_inv h0 (hW i i)
    have e1 : ∀ j, cf (nm W i i j) = cf (inv (W i i)) * cf (W i j) := fun j => by
      unfold nm
      rw [if_pos rfl, cf_mod, cf_mul]; grind
    have e2 : sf (fun j => cf (nm W i i j) * y j) n = cf (inv (W i i)) * sf (fun j => cf (W i j) * y j) n := by
      rw [← sf_mul]
      exact sf_cong n (fun j _ => by rw [e1 j]; grind)
    unfold rho at *
    rw [e2, e1 16] at h1
    grind
  · have : ∀ j, nm W k i j = W i j := fun j => if_neg e
    unfold rho at *
    rw [this 16, sf_cong (g := fun j => cf (W i j) * y j) n (fun j _ => by rw [this j])] at h1
    exact h1
theorem rho_sw {n : Nat} {W : Nat → Nat → Nat} {k v : Nat} (hk : k < n) (hv : v < n) {y : Nat → FP} (h : ∀ i, i < n → rho n (sw W k v) y i = 0) : ∀ i, i < n → rho n W y i = 0 := by
  intro i hi
  have h1 := h (swp k v i) (swp_lt hk hv hi)
  have : ∀ j, sw W k v (swp k v i) j = W i j := fun j => by unfold sw; rw [swp_swp]
  unfold rho at *
  rw [this 16, sf_cong (g := fun j => cf (W i j) * y j) n (fun j _ => by rw [this j])] at h1
  exact h1
theorem sw_piv {n : Nat} {U : Nat → Nat → Nat} {k : Nat} (h : pv n U k < n) : k ≤ pv n U k ∧ sw U k (pv n U k) k k ≠ 0 := by
  rcases pv_cases n U k with ⟨h1, _⟩ | ⟨_, h2, h3⟩
  · omega
  · refine ⟨h2, ?_⟩
    have : swp k (pv n U k) k = pv n U k := if_pos rfl
    unfold sw
    rw [this]; exact h3
theorem rho_gj {n : Nat} {W : Nat → Nat → Nat} (hW : ∀ i j, W i j < 65521) {y : Nat → FP} : ∀ k, k ≤ n → (∀ q, q < k → pv n (gjW n W q) q < n) → (∀ i, i < n → rho n (gjW n W k) y i = 0) → ∀ i, i < n → rho n W y i = 0
  | 0, _, _, h => h
  | k + 1, hk, hp, h => by
    have hpk := hp k (by omega)
    have hU := gjW_lt (n := n) hW k
    refine rho_gj hW k (by omega) (fun q hq => hp q (by omega)) ?_
    exact rho_sw (by omega) hpk (rho_nm (sw_lt hU _ _) (sw_piv hpk).2 (rho_el (nm_lt (sw_lt hU _ _) k) (by omega) h))
theorem sbm_0 {a : Nat} (h : a < 65521) : sbm a 0 = a := by
  rw [sbm_eq h (by decide), if_pos (Nat.zero_le a), Nat.sub_zero]
theorem sbm_self {a : Nat} (h : a < 65521) : sbm a a = 0 := by
  rw [sbm_eq h h, if_pos (Nat.le_refl a), Nat.sub_self]
/-- the columns that are done are those of the unit -/
theorem gj_unit {n : Nat} {W : Nat → Nat → Nat} (hW : ∀ i j, W i j < 65521) : ∀ k, k ≤ n → (∀ q, q < k → pv n (gjW n W q) q < n) → ∀ i j, i < n → j < k → gjW n W k i j = if i = j then 1 else 0
  | 0, _, _, i, j, _, hj => absurd hj (by omega)
  | k + 1, hk, hp, i, j, hi, hj => by
    have hpk := hp k (by omega)
    have hU := gjW_lt (n := n) hW k
    have ih := gj_unit hW k (by omega) (fun q hq => hp q (by omega))
    show el (nm (sw (gjW n W k) k (pv n (gjW n W k) k)) k) k i j = _
    obtain ⟨hv1, hv2⟩ := sw_piv hpk
    have hS := sw_lt hU k (pv n (gjW n W k) k)
    have hSj : ∀ i j, i < n → j < k → sw (gjW n W k) k (pv n (gjW n W k) k) i j = if i = j then 1 else 0 := fun i j hi hj => by
      unfold sw
      rw [ih _ j (swp_lt (by omega) hpk hi) hj]
      generalize pv n (gjW n W k) k = v at *
      unfold swp
      by_cases e1 : i = k
      · rw [if_pos e1, if_neg (show ¬ v = j by omega), if_neg (show ¬ i = j by omega)]
      · rw [if_neg e1]
        by_cases e2 : i = v
        · rw [if_pos e2, if_neg (show ¬ k = j by omega), if_neg (show ¬ i = j by omega)]
        · rw [if_neg e2]
    generalize sw (gjW n W k) k (pv n (gjW n W k) k) = S at *
    have hN := nm_lt hS k
    by_cases ejk : j = k
    · subst ejk
      have n1 : nm S j j j = 1 := by
        unfold nm
        rw [if_pos rfl]
        exact inv_ok (S j j) (S j j) (Nat.le_refl _) (by omega) (hS _ _)
      unfold el
      by_cases eij : i = j
      · rw [if_pos eij, if_pos eij, eij]; exact n1
      · rw [if_neg eij, if_neg eij, n1, Nat.mul_one, Nat.mod_eq_of_lt (hN _ _), sbm_self (hN _ _)]
    · have hj' : j < k := by omega
      have n0 : nm S k k j = 0 := by
        unfold nm
        rw [if_pos rfl, hSj k j (by omega) hj', if_neg (show ¬ k = j by omega), Nat.zero_mul]
      unfold el
      by_cases eik : i = k
      · rw [if_pos eik, eik, n0, if_neg (show ¬ k = j by omega)]
      · rw [if_neg eik, n0, Nat.mul_zero]
        show sbm (nm S k i j) 0 = _
        rw [sbm_0 (hN _ _)]
        unfold nm
        rw [if_neg eik]
        exact hSj i j hi hj'
def ys (X : Nat → FP) (e : FP) (j : Nat) : FP := if j = 16 then e else X j
theorem rho_ys {n : Nat} (hn : n ≤ 16) (W : Nat → Nat → Nat) (X : Nat → FP) (e : FP) (i : Nat) : rho n W (ys X e) i = sf (fun j => cf (W i j) * X j) n + cf (W i 16) * e := by
  have h1 : ys X e 16 = e := if_pos rfl
  have h2 : ∀ j, j < 16 → ys X e j = X j := fun j hj => if_neg (by omega)
  unfold rho
  rw [h1, sf_cong (g := fun j => cf (W i j) * X j) n (fun j hj => by rw [h2 j (by omega)])]
/-- the last column is a solution -/
theorem gj_sol {n : Nat} (hn : n ≤ 16) {W : Nat → Nat → Nat} (hW : ∀ i j, W i j < 65521) (hp : ∀ q, q < n → pv n (gjW n W q) q < n) : ∀ i, i < n → sf (fun j => cf (W i j) * cf (gjW n W n j 16)) n = cf (W i 16) := by
  intro i hi
  have hy := rho_gj hW (y := ys (fun j => cf (gjW n W n j 16)) (0 - 1)) n (Nat.le_refl n) hp (fun r hr => by
    rw [rho_ys hn]
    have e1 : sf (fun j => cf (gjW n W n r j) * cf (gjW n W n j 16)) n = sf (fun j => if j = r then cf (gjW n W n j 16) else 0) n := sf_cong n (fun j hj => by
      rw [gj_unit hW n (Nat.le_refl n) hp r j hr hj]
      by_cases e : r = j
      · rw [if_pos e, if_pos e.symm, cf_1]; grind
      · rw [if_neg e, if_neg (fun q => e q.symm), cf_0]; grind)
    rw [e1, sf_one (fun j => cf (gjW n W n j 16)) r n hr]
    grind) i hi
  rw [rho_ys hn] at hy
  grind
def yk (n : Nat) (W : Nat → Nat → Nat) (k j : Nat) : FP := if j = k then 1 else if j < k then 0 - cf (gjW n W k j k) else 0
/-- a pivot is always found, where only 0 is taken to 0 -/
theorem gj_piv {n : Nat} (hn : n ≤ 16) {W : Nat → Nat → Nat} (hW : ∀ i j, W i j < 65521) (hreg : ∀ x : Nat → FP, (∀ i, i < n → sf (fun j => cf (W i j) * x j) n = 0) → ∀ j, j < n → x j = 0) {k : Nat} (hk : k < n) (hp : ∀ q, q < k → pv n (gjW n W q) q < n) : pv n (gjW n W k) k < n := by
  rcases pv_cases n (gjW n W k) k with ⟨_, h2⟩ | ⟨h1, _⟩
  · have hy := rho_gj hW (y := ys (yk n W k) 0) k (by omega) hp (fun r hr => by
      rw [rho_ys hn]
      have e1 : sf (fun j => cf (gjW n W k r j) * yk n W k j) n = sf (fun j => (if j = r then (if r < k then 0 - cf (gjW n W k r k) else 0) else 0) + (if j = k then cf (gjW n W k r k) else 0)) n := sf_cong n (fun j hj => by
        unfold yk
        by_cases e1 : j = k
        · subst e1
          rw [if_pos rfl, if_pos rfl]
          by_cases e2 : j = r
          · rw [if_pos e2, if_neg (show ¬ r < j by omega)]; grind
          · rw [if_neg e2]; grind
        · rw [if_neg e1, if_neg e1]
          by_cases e3 : j < k
          · rw [if_pos e3, gj_unit hW k (by omega) hp r j hr e3]
            by_cases e2 : j = r
            · subst e2
              rw [if_pos rfl, if_pos rfl, if_pos e3, cf_1]; grind
            · rw [if_neg (fun q => e2 q.symm), if_neg e2, cf_0]; grind
          · rw [if_neg e3]
            by_cases e2 : j = r
            · rw [if_pos e2, if_neg (show ¬ r < k by omega)]; grind
            · rw [if_neg e2]; grind)
      rw [e1, sf_add, sf_one (fun _ => (if r < k then 0 - cf (gjW n W k r k) else 0)) r n hr, sf_one (fun _ => cf (gjW n W k r k)) k n hk]
      by_cases q : r < k
      · rw [if_pos q]; grind
      · rw [if_neg q, h2 r (by omega) hr, cf_0]; grind)
    have hz := hreg (yk n W k) (fun i hi => by
      have h3 := hy i hi
      rw [rho_ys hn] at h3
      grind) k hk
    have h4 : yk n W k k = 1 := if_pos rfl
    rw [h4] at hz
    exact absurd hz (by decide)
  · exact h1
theorem gj_all {n : Nat} (hn : n ≤ 16) {W : Nat → Nat → Nat} (hW : ∀ i j, W i j < 65521) (hreg : ∀ x : Nat → FP, (∀ i, i < n → sf (fun j => cf (W i j) * x j) n = 0) → ∀ j, j < n → x j = 0) : ∀ k, k ≤ n → ∀ q, q < k → pv n (gjW n W q) q < n
  | 0, _, q, hq => absurd hq (by omega)
  | k + 1, hk, q, hq => by
    have ih := gj_all hn hW hreg k (by omega)
    by_cases e : q = k
    · subst e; exact gj_piv hn hW hreg (by omega) ih
    · exact ih q (by omega)
theorem cf_ne {a : Nat} (h0 : a ≠ 0) (h : a < 65521) : cf a ≠ 0 := fun e => h0 (cf_inj h (by decide) e)
theorem gjD_ne {n : Nat} {W : Nat → Nat → Nat} (hW : ∀ i j, W i j < 65521) : ∀ k, (∀ q, q < k → pv n (gjW n W q) q < n) → gjD n W k ≠ 0
  | 0, _ => by unfold gjD; decide
  | k + 1, hp => by
    have ih := gjD_ne hW k (fun q hq => hp q (by omega))
    have hd := gjD_lt n W k
    have hpk := hp k (by omega)
    have hs := (sw_piv hpk).2
    have hsl := sw_lt (gjW_lt (n := n) hW k) k (pv n (gjW n W k) k) k k
    have he : ∃ e : Nat, e < 65521 ∧ e ≠ 0 ∧ (if pv n (gjW n W k) k = k then gjD n W k else sbm 0 (gjD n W k)) = e := by
      by_cases q : pv n (gjW n W k) k = k
      · exact ⟨gjD n W k, hd, ih, if_pos q⟩
      · refine ⟨sbm 0 (gjD n W k), sbm_lt _ _, ?_, if_neg q⟩
        rw [sbm_eq (by decide) hd, if_neg (by omega)]
        omega
    obtain ⟨e, he1, he2, he3⟩ := he
    intro hz
    have hz2 : e * sw (gjW n W k) k (pv n (gjW n W k) k) k k % 65521 = 0 := by rw [← he3]; exact hz
    have h1 := congrArg cf hz2
    rw [cf_mod, cf_mul, cf_0] at h1
    have h2 := cf_inv hs hsl
    refine cf_ne he2 he1 ?_
    grind
