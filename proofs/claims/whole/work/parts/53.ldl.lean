/-! PURE: what the factors say; the class's resolve -/
def ll (Lf : Nat → Nat → Nat) (i m : Nat) : FP := if m < i then cf (Lf i m) else if m = i then 1 else 0
theorem ll_lt {Lf : Nat → Nat → Nat} {i m : Nat} (h : m < i) : ll Lf i m = cf (Lf i m) := if_pos h
theorem ll_eq (Lf : Nat → Nat → Nat) (i : Nat) : ll Lf i i = 1 := by unfold ll; rw [if_neg (Nat.lt_irrefl i), if_pos rfl]
theorem ll_gt {Lf : Nat → Nat → Nat} {i m : Nat} (h : i < m) : ll Lf i m = 0 := by unfold ll; rw [if_neg (by omega), if_neg (by omega)]
theorem cf_rst {A : Nat → Nat → Nat} (hA : ∀ i j, A i j < 65521) {σ D : Nat → Nat} {Lf : Nat → Nat → Nat} (i k : Nat) : ∀ m, cf (rst A σ D Lf i k m) = cf (A (σ i) (σ k)) - sf (fun t => cf (Lf i t) * cf (Lf k t) * cf (D t)) m
  | 0 => by
    show cf (A (σ i) (σ k)) = cf (A (σ i) (σ k)) - 0
    grind
  | m + 1 => by
    show cf (sbm (rst A σ D Lf i k m) (Lf i m * Lf k m % 65521 * D m % 65521)) = cf (A (σ i) (σ k)) - (sf (fun t => cf (Lf i t) * cf (Lf k t) * cf (D t)) m + cf (Lf i m) * cf (Lf k m) * cf (D m))
    rw [cf_sbm (rst_lt hA m) (md_lt _), cf_rst hA i k m, cf_mod, cf_mul, cf_mod, cf_mul]
    grind
/-- the matrix, by its factors -/
theorem ldl {n : Nat} {A : Nat → Nat → Nat} (hA : ∀ i j, A i j < 65521) (hS : ∀ i j, A i j = A j i) {σ D : Nat → Nat} {Lf : Nat → Nat → Nat} (hL : LD n A σ D Lf) {i k : Nat} (hi : i < n) (hk : k < n) : cf (A (σ i) (σ k)) = sf (fun m => ll Lf i m * cf (D m) * ll Lf k m) n := by
  have key : ∀ i k, k ≤ i → i < n → cf (A (σ i) (σ k)) = sf (fun m => ll Lf i m * cf (D m) * ll Lf k m) n := by
    intro i k hki hi
    rw [sf_cut (k := k + 1) n (by omega) (fun m h1 h2 => by rw [ll_gt (show k < m by omega)]; grind)]
    show _ = sf (fun m => ll Lf i m * cf (D m) * ll Lf k m) k + ll Lf i k * cf (D k) * ll Lf k k
    rw [ll_eq, sf_cong (g := fun t => cf (Lf i t) * cf (Lf k t) * cf (D t)) k (fun t ht => by rw [ll_lt ht, ll_lt (show t < i by omega)]; grind)]
    by_cases e : k = i
    · subst e
      have h1 := congrArg cf (hL.2.2.1 k hi)
      rw [cf_rst hA k k k] at h1
      rw [ll_eq, h1]
      grind
    · have h1 := congrArg cf (hL.2.2.2 i k (by omega) hi)
      have hd := hL.1 k (by omega)
      have h2 := cf_inv hd.2 hd.1
      rw [cf_mod, cf_mul, cf_rst hA i k k] at h1
      rw [ll_lt (show k < i by omega), h1]
      grind
  by_cases q : k ≤ i
  · exact key i k q hi
  · rw [hS (σ i) (σ k), key k i (by omega) hk]
    exact sf_cong n (fun m _ => by grind)
/-- the transposed triangle times a vector -/
def yy (n : Nat) (Lf : Nat → Nat → Nat) (x : Nat → FP) (m : Nat) : FP := sf (fun j => ll Lf j m * x j) n
theorem ldl_b {n : Nat} {A : Nat → Nat → Nat} (hA : ∀ i j, A i j < 65521) (hS : ∀ i j, A i j = A j i) {σ D : Nat → Nat} {Lf : Nat → Nat → Nat} (hL : LD n A σ D Lf) (x : Nat → FP) {p : Nat} (hp : p < n) : sf (fun q => cf (A (σ p) (σ q)) * x q) n = sf (fun m => ll Lf p m * (cf (D m) * yy n Lf x m)) n := by
  have e1 : sf (fun q => cf (A (σ p) (σ q)) * x q) n = sf (fun q => sf (fun m => x q * (ll Lf p m * cf (D m) * ll Lf q m)) n) n := sf_cong n (fun q hq => by
    rw [ldl hA hS hL hp hq, sf_mul]; grind)
  rw [e1, sf_comm]
  refine sf_cong n (fun m hm => ?_)
  unfold yy
  rw [← sf_mul, ← sf_mul]
  exact sf_cong n (fun q _ => by grind)
/-- row p of the triangle -/
theorem ll_row {n : Nat} {Lf : Nat → Nat → Nat} (w : Nat → FP) {p : Nat} (hp : p < n) : sf (fun m => ll Lf p m * w m) n = sf (fun m => cf (Lf p m) * w m) p + w p := by
  rw [sf_cut (k := p + 1) n (by omega) (fun m h1 h2 => by rw [ll_gt (show p < m by omega)]; grind)]
  show sf (fun m => ll Lf p m * w m) p + ll Lf p p * w p = _
  rw [ll_eq, sf_cong (g := fun m => cf (Lf p m) * w m) p (fun m hm => by rw [ll_lt hm])]
  grind
/-- column p of the triangle -/
theorem ll_col {n : Nat} {Lf : Nat → Nat → Nat} (x : Nat → FP) {p : Nat} (hp : p < n) : yy n Lf x p = sf (fun t => if p < t then cf (Lf t p) * x t else 0) n + x p := by
  unfold yy
  have e : sf (fun j => ll Lf j p * x j) n = sf (fun j => (if p < j then cf (Lf j p) * x j else 0) + (if j = p then x j else 0)) n := sf_cong n (fun j hj => by
    unfold ll
    by_cases q : p < j
    · rw [if_pos q, if_pos q, if_neg (show ¬ j = p by omega)]; grind
    · rw [if_neg q, if_neg q]
      by_cases q2 : j = p
      · rw [if_pos q2, if_pos q2.symm]; grind
      · rw [if_neg q2, if_neg (fun e => q2 e.symm)]; grind)
  rw [e, sf_add, sf_one x p n hp]
/-- no vector but 0 is taken to 0 -/
theorem ldl_0 {n : Nat} {A : Nat → Nat → Nat} (hA : ∀ i j, A i j < 65521) (hS : ∀ i j, A i j = A j i) {σ D : Nat → Nat} {Lf : Nat → Nat → Nat} (hL : LD n A σ D Lf) {x : Nat → FP} (h : ∀ p, p < n → sf (fun q => cf (A (σ p) (σ q)) * x q) n = 0) : ∀ p, p < n → x p = 0 := by
  have hw : ∀ k p, p ≤ k → p < n → cf (D p) * yy n Lf x p = 0 := by
    intro k
    induction k with
    | zero =>
      intro p hpk hp
      have h1 := h p hp
      rw [ldl_b hA hS hL x hp, ll_row _ hp] at h1
      have hp0 : p = 0 := by omega
      subst hp0
      have : sf (fun m => cf (Lf 0 m) * (cf (D m) * yy n Lf x m)) 0 = 0 := rfl
      rw [this] at h1
      grind
    | succ k ih =>
      intro p hpk hp
      have h1 := h p hp
      rw [ldl_b hA hS hL x hp, ll_row _ hp, sf_none p (fun m hm => by rw [ih m (by omega) (by omega)]; grind)] at h1
      grind
  have hy : ∀ p, p < n → yy n Lf x p = 0 := fun p hp => by
    have h1 := hw p p (Nat.le_refl p) hp
    have hd := hL.1 p hp
    have h2 := cf_inv hd.2 hd.1
    grind
  have hx : ∀ k p, n - p ≤ k → p < n → x p = 0 := by
    intro k
    induction k with
    | zero => intro p h1 h2; exact absurd h2 (by omega)
    | succ k ih =>
      intro p h1 hp
      have h2 := hy p hp
      rw [ll_col x hp, sf_none n (fun t ht => by
        by_cases q : p < t
        · rw [if_pos q, ih t (by omega) ht]; grind
        · rw [if_neg q])] at h2
      grind
  exact fun p hp => hx n p (by omega) hp
theorem sp_resolve {n : Nat} (hn : n ≤ 16) (h1n : 1 ≤ n) {A : Nat → Nat → Nat} {σ D : Nat → Nat} {Lf : Nat → Nat → Nat} (hL : LD n A σ D Lf) {Fk : Int32} {ri fb fr : Nat → Int32} (hfr : ∀ k, k < n → fr k = nI (inv (D k))) (hfb : ∀ i k, k < i → i < n → fb (16 * i + k) = nI (Lf i k)) {x b : Nat → FP} (hb : ∀ p, p < n → b p = sf (fun m => ll Lf p m * (cf (D m) * yy n Lf x m)) n) (hri : ∀ p, p < n → ri p = fI (b p)) {Q : (Nat → Int32) → Prop} (h : ∀ ri, (∀ p, p < n → ri p = fI (x p)) → Q ri) : wp_X1_resolve Fk (nI n) ri fb fr Q := by
  intro G1 G2 G3 G4 G5 g1 g2 g3 g4 g5
  -- backward
  have k4 : ∀ q, q ≤ n → ∀ ri, (∀ p, p < n → ri p = fI (if q ≤ p then x p else yy n Lf x p)) → G4 (nI q + (-1)) ri := by
    intro q
    induction q with
    | zero =>
      intro _ ri hI
      exact g4 _ _ ⟨fun _ => h _ (fun p hp => by rw [hI p hp, if_pos (by omega)]), fun c => absurd (by decide) c⟩
    | succ q ih =>
      intro hq ri hI
      rw [pk_m1]
      refine g4 _ _ ⟨fun c => absurd c (nI_pos (by omega)), fun _ y hy => ?_⟩
      rw [hy, nI_1]
      have k5 : ∀ m, m ≤ n → q + 1 ≤ m → ∀ ri, (∀ p, p < n → ri p = fI (if q + 1 ≤ p then x p else if p = q then yy n Lf x p - sf (fun t => if q < t then cf (Lf t q) * x t else 0) m else yy n Lf x p)) → G5 (nI m) (nI q) ri := by
        refine pu_down n ?_ ?_
        · intro _ ri hI5
          refine g5 _ _ _ ⟨fun _ z hz => ?_, fun c => absurd (nI_le (Nat.le_refl n) (by omega)) c⟩
          rw [hz]
          refine ih (by omega) _ (fun p hp => ?_)
          rw [hI5 p hp]
          by_cases e1 : q + 1 ≤ p
          · rw [if_pos e1, if_pos (by omega)]
          · rw [if_neg e1]
            by_cases e2 : p = q
            · subst e2
              rw [if_pos rfl, if_pos (Nat.le_refl p), ll_col x hp]
              congr 1
              grind
            · rw [if_neg e2, if_neg (by omega)]
        · intro m hm ih5 hqm ri hI5
          refine g5 _ _ _ ⟨fun c => absurd c (nI_ge hm (by omega)), fun _ => ⟨pn_in (by omega) (by decide), by rw [pn_cell]; exact pn_in (by omega) (by decide), pn_in (by omega) (by decide), pn_in (by omega) (by decide), fun z hz => ?_⟩⟩
          rw [hz, nI_1, pn_cell, pn_cl (show 16 * m + q < 2147483648 by omega), pn_cl (show q < 2147483648 by omega), pn_cl (show m < 2147483648 by omega), hfb m q (by omega) hm, fI_cf (hL.2.1 m q), hI5 q (by omega), hI5 m hm, if_neg (show ¬ q + 1 ≤ q by omega), if_pos rfl, if_pos hqm, fI_times, fI_minus]
          refine ih5 (by omega) _ (fun p hp => ?_)
          rw [upd_at]
          by_cases e : p = q
          · subst e
            rw [if_pos rfl, if_neg (show ¬ p + 1 ≤ p by omega), if_pos rfl]
            congr 1
            show _ = yy n Lf x p - (sf (fun t => if p < t then cf (Lf t p) * x t else 0) m + (if p < m then cf (Lf m p) * x m else 0))
            rw [if_pos (show p < m by omega)]
            grind
          · rw [if_neg e, hI5 p hp]
            by_cases e1 : q + 1 ≤ p
            · rw [if_pos e1, if_pos e1]
            · rw [if_neg e1, if_neg e1, if_neg e, if_neg e]
      refine k5 (q + 1) (by omega) (Nat.le_refl _) _ (fun p hp => ?_)
      rw [hI p hp]
      by_cases e1 : q + 1 ≤ p
      · rw [if_pos e1, if_pos e1]
      · rw [if_neg e1, if_neg e1]
        by_cases e2 : p = q
        · subst e2
          rw [if_pos rfl, sf_none (p + 1) (fun t ht => if_neg (by omega))]
          congr 1
          grind
        · rw [if_neg e2]
  -- by the pivots
  have k3 : ∀ q, q ≤ n → ∀ ri, (∀ p, p < n → ri p = fI (if p < q then yy n Lf x p else cf (D p) * yy n Lf x p)) → G3 (nI q) ri := by
    refine pu_down n ?_ ?_
    · intro ri hI
      refine g3 _ _ ⟨fun _ y hy => ?_, fun c => absurd (nI_le (Nat.le_refl n) (by omega)) c⟩
      rw [hy, show nI n - 1 = nI n + (-1) from by rw [Int32.sub_eq_add_neg]]
      exact k4 n (Nat.le_refl n) _ (fun p hp => by rw [hI p hp, if_pos hp, if_neg (by omega)])
    · intro q hq ih ri hI
      refine g3 _ _ ⟨fun c => absurd c (nI_ge hq (by omega)), fun _ => ⟨pn_in (by omega) (by decide), pn_in (by omega) (by decide), pn_in (by omega) (by decide), fun z hz => ?_⟩⟩
      rw [hz, nI_1, pn_cl (by omega), hI q hq, if_neg (Nat.lt_irrefl q), hfr q hq, fI_cf (inv_lt _), fI_times]
      refine ih _ (fun p hp => ?_)
      rw [upd_at]
      by_cases e : p = q
      · subst e
        rw [if_pos rfl, if_pos (show p < p + 1 by omega)]
        congr 1
        have hd := hL.1 p hp
        have h2 := cf_inv hd.2 hd.1
        grind
      · rw [if_neg e, hI p hp]
        by_cases e1 : p < q
        · rw [if_pos e1, if_pos (show p < q + 1 by omega)]
        · rw [if_neg e1, if_neg (show ¬ p < q + 1 by omega)]
  -- forward
  have k1 : ∀ q, q ≤ n → ∀ ri, (∀ p, p < n → ri p = fI (if p < q then cf (D p) * yy n Lf x p else b p)) → G1 (nI q) ri := by
    refine pu_down n ?_ ?_
    · intro ri hI
      refine g1 _ _ ⟨fun _ => ?_, fun c => absurd (nI_le (Nat.le_refl n) (by omega)) c⟩
      exact k3 0 (by omega) _ (fun p hp => by rw [hI p hp, if_pos hp, if_neg (by omega)])
    · intro q hq ih ri hI
      refine g1 _ _ ⟨fun c => absurd c (nI_ge hq (by omega)), fun _ => ?_⟩
      have k2 : ∀ m, m ≤ q → ∀ ri, (∀ p, p < n → ri p = fI (if p < q then cf (D p) * yy n Lf x p else if p = q then b p - sf (fun t => cf (Lf q t) * (cf (D t) * yy n Lf x t)) m else b p)) → G2 (nI m) (nI q) ri := by
        refine pu_down q ?_ ?_
        · intro ri hI2
          refine g2 _ _ _ ⟨fun _ z hz => ?_, fun c => absurd (nI_le (Nat.le_refl q) (by omega)) c⟩
          rw [hz, nI_1]
          refine ih _ (fun p hp => ?_)
          rw [hI2 p hp]
          by_cases e1 : p < q
          · rw [if_pos e1, if_pos (show p < q + 1 by omega)]
          · rw [if_neg e1]
            by_cases e2 : p = q
            · subst e2
              rw [if_pos rfl, if_pos (show p < p + 1 by omega), hb p hp, ll_row _ hp]
              congr 1
              grind
            · rw [if_neg e2, if_neg (show ¬ p < q + 1 by omega)]
        · intro m hm ih2 ri hI2
          refine g2 _ _ _ ⟨fun c => absurd c (nI_ge hm (by omega)), fun _ => ⟨pn_in (by omega) (by decide), by rw [pn_cell]; exact pn_in (by omega) (by decide), pn_in (by omega) (by decide), pn_in (by omega) (by decide), fun z hz => ?_⟩⟩
          rw [hz, nI_1, pn_cell, pn_cl (show 16 * q + m < 2147483648 by omega), pn_cl (show q < 2147483648 by omega), pn_cl (show m < 2147483648 by omega), hfb q m (by omega) hq, fI_cf (hL.2.1 q m), hI2 q hq, hI2 m (by omega), if_neg (Nat.lt_irrefl q), if_pos rfl, if_pos hm, fI_times, fI_minus]
          refine ih2 _ (fun p hp => ?_)
          rw [upd_at]
          by_cases e : p = q
          · subst e
            rw [if_pos rfl, if_neg (Nat.lt_irrefl p), if_pos rfl]
            congr 1
            show _ = b p - (sf (fun t => cf (Lf p t) * (cf (D t) * yy n Lf x t)) m + cf (Lf p m) * (cf (D m) * yy n Lf x m))
            grind
          · rw [if_neg e, hI2 p hp]
            by_cases e1 : p < q
            · rw [if_pos e1, if_pos e1]
            · rw [if_neg e1, if_neg e1, if_neg e, if_neg e]
      refine k2 0 (by omega) _ (fun p hp => ?_)
      rw [hI p hp]
      by_cases e1 : p < q
      · rw [if_pos e1, if_pos e1]
      · rw [if_neg e1, if_neg e1]
        by_cases e2 : p = q
        · rw [if_pos e2]
          congr 1
          show b p = b p - 0
          grind
        · rw [if_neg e2]
  exact k1 0 (by omega) _ (fun p hp => by rw [hri p hp, if_neg (by omega)])
