/-! PURE: elimination, a step of the class and of the reference -/
def bz (b : Bool) : Int32 := if b then 1 else 0
theorem bz_f : bz false = 0 := rfl
theorem bz_t : bz true = 1 := rfl
theorem bz_0 {b : Bool} : bz b = 0 ↔ b = false := by cases b <;> decide
theorem na_bz (b : Bool) : vp_nar .boolean (bz b) = bz b := by cases b <;> decide
theorem dne (i j : Nat) : decide (j ≠ i) = decide (i ≠ j) := decide_eq_decide.mpr ⟨fun h e => h e.symm, fun h e => h e.symm⟩
def RJ (n : Nat) (J : Nat → Nat → Bool) (ej : Nat → Int32) : Prop := ∀ i, i < n → ej i = nI (mk (fun j => decide (j < n) && J i j))
def RI (n : Nat) (J : Nat → Nat → Bool) (ij : Nat → Int32) : Prop := ∀ i j, i < n → j < n → ij (16 * i + j) = bz (J i j)
def JS (J : Nat → Nat → Bool) (r : Nat) (w : Nat → Bool) (i j : Nat) : Bool := J i j || (decide (i ≠ j) && (J r i && w i) && (J r j && w j))
theorem JS_no1 {J : Nat → Nat → Bool} {r : Nat} {w : Nat → Bool} {i j : Nat} (h : (J r i && w i) = false) : JS J r w i j = J i j := by unfold JS; rw [h, Bool.and_false, Bool.false_and, Bool.or_false]
theorem JS_no2 {J : Nat → Nat → Bool} {r : Nat} {w : Nat → Bool} {i j : Nat} (h : (J r j && w j) = false) : JS J r w i j = J i j := by unfold JS; rw [h, Bool.and_false, Bool.or_false]
theorem JS_no3 {J : Nat → Nat → Bool} {r : Nat} {w : Nat → Bool} {i j : Nat} (h : i = j) : JS J r w i j = J i j := by unfold JS; rw [decide_eq_false (fun q => q h), Bool.false_and, Bool.false_and, Bool.or_false]
theorem JS_yes {J : Nat → Nat → Bool} {r : Nat} {w : Nat → Bool} {i j : Nat} (h : i ≠ j) (h1 : (J r i && w i) = true) (h2 : (J r j && w j) = true) : JS J r w i j = true := by unfold JS; rw [decide_eq_true h, h1, h2]; cases J i j <;> rfl
theorem sp_joinLinked {n : Nat} {A : Nat → Nat → Nat} {σ τ ri we : Nat → Nat} (hW : WF n A σ τ ri we) {pe po pp pr pw ej : Nat → Int32} (hC : CP n A σ τ ri we (nI n) pe po pp pr pw) {Q : (Nat → Int32) → Prop} (h : ∀ ej, RJ n (LK A) ej → Q ej) : wp_X0_joinLinked (nI n) pe ej Q := by
  have hn := hW.2.1
  intro G1 g1
  have k1 : ∀ i, i ≤ n → ∀ ej, (∀ k, k < i → ej k = nI (mk (fun j => decide (j < n) && LK A k j))) → G1 (nI i) ej := by
    refine pu_down n ?_ ?_
    · intro ej hI
      exact g1 _ _ ⟨fun _ => h _ hI, fun c => absurd (nI_le (Nat.le_refl n) (by omega)) c⟩
    · intro i hi ih ej hI
      refine g1 _ _ ⟨fun c => absurd c (nI_ge hi (by omega)), fun _ => ?_⟩
      refine sp_linksOf hW hC hi ⟨pn_in (by omega) (by decide), fun x hx => ?_⟩
      rw [hx, nI_1, pn_cl (by omega)]
      refine ih _ (fun k hk => ?_)
      by_cases e : k = i
      · subst e; exact pk_us
      · rw [pk_un e]; exact hI k (by omega)
  exact k1 0 (by omega) _ (fun k hk => absurd hk (by omega))
theorem sp_join5 {n : Nat} {A : Nat → Nat → Nat} {σ τ ri we : Nat → Nat} (hW : WF n A σ τ ri we) {mt mh ms mv : Int32} {ma ro pl mr mw ij : Nat → Int32} (hM : MP n A σ τ ri we (nI n) ma ro pl mr mw) {Q : (Nat → Int32) → Prop} (h : ∀ ij, RI n (LK A) ij → Q ij) : wp_X5_join mt (nI n) mh ms mv ma ij Q := by
  have hn := hW.2.1
  intro G1 G2 g1 g2
  have k1 : ∀ i, i ≤ n → ∀ ij, (∀ a b, a < i → b < n → ij (16 * a + b) = bz (LK A a b)) → G1 (nI i) ij := by
    refine pu_down n ?_ ?_
    · intro ij hI
      exact g1 _ _ ⟨fun _ => h _ hI, fun c => absurd (nI_le (Nat.le_refl n) (by omega)) c⟩
    · intro i hi ih ij hI
      refine g1 _ _ ⟨fun c => absurd c (nI_ge hi (by omega)), fun _ => ?_⟩
      have k2 : ∀ j, j ≤ n → ∀ ij, (∀ a b, b < n → (a < i ∨ (a = i ∧ b < j)) → ij (16 * a + b) = bz (LK A a b)) → G2 (nI j) (nI i) ij := by
        refine pu_down n ?_ ?_
        · intro ij hI2
          refine g2 _ _ _ ⟨fun _ x hx => ?_, fun c => absurd (nI_le (Nat.le_refl n) (by omega)) c⟩
          rw [hx, nI_1]
          exact ih _ (fun a b ha hb => hI2 a b hb (by omega))
        · intro j hj ih2 ij hI2
          refine g2 _ _ _ ⟨fun c => absurd c (nI_ge hj (by omega)), fun _ => ?_⟩
          have hst : vp_in (f_at (nI i) (nI j)) 256 ∧ ∀ x2_5 : Int32, x2_5 = nI j + 1 → G2 x2_5 (nI i) (upd ij (Int32.toNatClampNeg (f_at (nI i) (nI j))) (vp_nar .boolean (bz (LK A i j)))) := by
            rw [pn_at, pn_cl (by omega), na_bz]
            refine ⟨pn_in (by omega) (by decide), fun x hx => ?_⟩
            rw [hx, nI_1]
            refine ih2 _ (fun a b hb hab => ?_)
            by_cases e : 16 * a + b = 16 * i + j
            · have : a = i ∧ b = j := by omega
              rw [e, this.1, this.2]; exact pk_us
            · rw [pk_un e]; exact hI2 a b hb (by omega)
          refine sp_lk hW.2.2.1 hn hM.2.1 hi hj (fun e => ?_) (fun e1 e2 => ?_)
          · rw [LK_no e] at hst; exact hst
          · rw [LK_yes e1 e2] at hst; exact hst
      exact k2 0 (by omega) _ (fun a b hb hab => hI a b (by omega) hb)
  exact k1 0 (by omega) _ (fun a b ha => absurd ha (by omega))
theorem sp_joinAll {n : Nat} {J : Nat → Nat → Bool} {r : Nat} {w : Nat → Bool} {ej : Nat → Int32} (hn : n ≤ 16) (hR : RJ n J ej) {Q : (Nat → Int32) → Prop} (h : ∀ ej, RJ n (JS J r w) ej → Q ej) : wp_X0_joinAll (nI (mk (fun j => decide (j < n) && (J r j && w j)))) ej Q := by
  intro G1 g1
  have k1 : ∀ i, i ≤ 16 → ∀ ej, (∀ k, k < n → ej k = nI (mk (fun j => decide (j < n) && (if k < i then JS J r w k j else J k j)))) → G1 (nI i) ej := by
    refine pu_down 16 ?_ ?_
    · intro ej hI
      refine g1 _ _ ⟨fun _ => h _ (fun k hk => ?_), fun c => absurd (show nI 16 ≤ nI 16 from nI_le (Nat.le_refl 16) (by omega)) c⟩
      rw [hI k hk, mk_cong (fun j _ => by rw [if_pos (show k < 16 by omega)])]
    · intro i hi ih ej hI
      refine g1 _ _ ⟨fun c => absurd c (nI_ge hi (by decide)), fun _ => ?_⟩
      rw [mk_has _ hi]
      cases hm : (decide (i < n) && (J r i && w i)) with
      | false =>
        refine ⟨fun _ x hx => ?_, fun c => absurd rfl c⟩
        rw [hx, nI_1]
        refine ih _ (fun k hk => ?_)
        rw [hI k hk]
        congr 1
        refine mk_cong (fun j _ => ?_)
        by_cases e : k = i
        · subst e
          rw [decide_eq_true hk, Bool.true_and] at hm
          rw [if_neg (Nat.lt_irrefl k), if_pos (show k < k + 1 by omega), JS_no1 hm]
        · by_cases q : k < i
          · rw [if_pos q, if_pos (show k < i + 1 by omega)]
          · rw [if_neg q, if_neg (show ¬ k < i + 1 by omega)]
      | true =>
        have hin : i < n := by
          rw [Bool.and_eq_true] at hm
          exact of_decide_eq_true hm.1
        rw [decide_eq_true hin, Bool.true_and] at hm
        refine ⟨fun c => absurd c (by decide), fun _ => ⟨pn_in hi (by decide), pn_in hi (by decide), fun x hx => ?_⟩⟩
        rw [hx, nI_1, pn_cl (by omega), hI i hin, mk_less _ hi, mk_or]
        refine ih _ (fun k hk => ?_)
        by_cases e : k = i
        · subst e
          rw [pk_us]
          congr 1
          refine mk_cong (fun j _ => ?_)
          rw [if_neg (Nat.lt_irrefl k), if_pos (show k < k + 1 by omega)]
          unfold JS
          rw [hm, dne k j]
          cases decide (j < n) <;> cases J k j <;> cases (J r j && w j) <;> cases decide (k ≠ j) <;> rfl
        · rw [pk_un e, hI k hk]
          congr 1
          refine mk_cong (fun j _ => ?_)
          by_cases q : k < i
          · rw [if_pos q, if_pos (show k < i + 1 by omega)]
          · rw [if_neg q, if_neg (show ¬ k < i + 1 by omega)]
  exact k1 0 (by omega) _ (fun k hk => by rw [hR k hk]; exact congrArg nI (mk_cong (fun j _ => by rw [if_neg (show ¬ k < 0 by omega)])))
theorem sp_elim {n : Nat} {A : Nat → Nat → Nat} {σ τ ri we : Nat → Nat} (hW : WF n A σ τ ri we) {mt mh ms mv : Int32} {ro ij : Nat → Int32} (hro : ∀ k, k < 16 → ro k = nI (σ k)) {J : Nat → Nat → Bool} {p : Nat} (hp : p < n) (hR : RI n J ij) {Q : (Nat → Int32) → Prop} (h : ∀ ij, RI n (JS J (σ p) (fun j => decide (p < τ j))) ij → Q ij) : wp_X5_eliminate_ (nI p) mt (nI n) mh ms mv ro ij Q := by
  have hn := hW.2.1
  have hs : ∀ k, k < n → σ k < n ∧ τ k < n := hW.2.2.2.2.2.1
  have ht : ∀ k, k < 16 → τ (σ k) = k := fun k hk => (hW.2.2.2.2.1 k hk).2.2.1
  have hst : ∀ k, k < 16 → σ (τ k) = k := fun k hk => (hW.2.2.2.2.1 k hk).2.2.2
  have hr := hs p hp
  have nw : ∀ a b, τ a ≤ p → JS J (σ p) (fun j => decide (p < τ j)) a b = J a b := fun a b hab => JS_no1 (by rw [decide_eq_false (show ¬ p < τ a by omega), Bool.and_false])
  have nw2 : ∀ a b, τ b ≤ p → JS J (σ p) (fun j => decide (p < τ j)) a b = J a b := fun a b hab => JS_no2 (by rw [decide_eq_false (show ¬ p < τ b by omega), Bool.and_false])
  intro G1 G2 g1 g2
  have k1 : ∀ k, k ≤ n → p + 1 ≤ k → ∀ ij, (∀ a b, a < n → b < n → ij (16 * a + b) = bz (if τ a < k then JS J (σ p) (fun j => decide (p < τ j)) a b else J a b)) → G1 (nI k) (nI (σ p)) ij := by
    refine pu_down n ?_ ?_
    · intro _ ij hI
      exact g1 _ _ _ ⟨fun _ => h _ (fun a b ha hb => by rw [hI a b ha hb, if_pos (hs a ha).2]), fun c => absurd (nI_le (Nat.le_refl n) (by omega)) c⟩
    · intro k hk ih hpk ij hI
      refine g1 _ _ _ ⟨fun c => absurd c (nI_ge hk (by omega)), fun _ x hx => ?_⟩
      rw [hx, nI_1]
      have k2 : ∀ m, m ≤ n → p + 1 ≤ m → ∀ ij, (∀ a b, a < n → b < n → ij (16 * a + b) = bz (if τ a < k ∨ (τ a = k ∧ τ b < m) then JS J (σ p) (fun j => decide (p < τ j)) a b else J a b)) → G2 (nI m) (nI k) (nI (σ p)) ij := by
        refine pu_down n ?_ ?_
        · intro _ ij hI2
          refine g2 _ _ _ _ ⟨fun _ y hy => ?_, fun c => absurd (nI_le (Nat.le_refl n) (by omega)) c⟩
          rw [hy, nI_1]
          refine ih (by omega) _ (fun a b ha hb => ?_)
          have htb := (hs b hb).2
          rw [hI2 a b ha hb]
          by_cases q : τ a < k + 1
          · rw [if_pos q, if_pos (by omega)]
          · rw [if_neg q, if_neg (by omega)]
        · intro m hm ih2 hpm ij hI2
          have hsk := hs k hk
          have hsm := hs m hm
          have e1 : τ (σ k) = k := ht k (by omega)
          have e2 : τ (σ m) = m := ht m (by omega)
          have e3 : τ (σ p) = p := ht p (by omega)
          -- nothing to do: the pair's new value is the old
          have skip : JS J (σ p) (fun j => decide (p < τ j)) (σ k) (σ m) = J (σ k) (σ m) → ∀ y : Int32, y = nI m + 1 → G2 y (nI k) (nI (σ p)) ij := by
            intro hv y hy
            rw [hy, nI_1]
            refine ih2 (by omega) _ (fun a b ha hb => ?_)
            rw [hI2 a b ha hb]
            by_cases q : τ a < k ∨ (τ a = k ∧ τ b < m)
            · rw [if_pos q, if_pos (by omega)]
            · rw [if_neg q]
              by_cases q2 : τ a = k ∧ τ b = m
              · have ea : a = σ k := by rw [← q2.1]; exact (hst a (by omega)).symm
                have eb : b = σ m := by rw [← q2.2]; exact (hst b (by omega)).symm
                rw [if_pos (by omega), ea, eb, hv]
              · rw [if_neg (by omega)]
          refine g2 _ _ _ _ ⟨fun c => absurd c (nI_ge hm (by omega)), fun _ => pk_eq k m (fun e => skip (JS_no3 (by rw [e]))) (fun e => ?_)⟩
          have r1 : ij (16 * σ p + σ k) = bz (J (σ p) (σ k)) := by
            rw [hI2 _ _ hr.1 hsk.1, if_pos (by omega), nw _ _ (by omega)]
          have r2 : ij (16 * σ p + σ m) = bz (J (σ p) (σ m)) := by
            rw [hI2 _ _ hr.1 hsm.1, if_pos (by omega), nw _ _ (by omega)]
          rw [pn_cl (show k < 2147483648 by omega), pn_cl (show m < 2147483648 by omega), hro k (by omega), hro m (by omega), pn_at, pn_at, pn_at, pn_cl (show 16 * σ p + σ k < 2147483648 by omega), pn_cl (show 16 * σ p + σ m < 2147483648 by omega), pn_cl (show 16 * σ k + σ m < 2147483648 by omega), r1, r2]
          refine ⟨pn_in (by omega) (by decide), pn_in (by omega) (by decide), fun c => ?_, fun c => ⟨pn_in (by omega) (by decide), pn_in (by omega) (by decide), fun c2 => ?_, fun c2 => ⟨pn_in (by omega) (by decide), pn_in (by omega) (by decide), pn_in (by omega) (by decide), fun y hy => ?_⟩⟩⟩
          · exact skip (JS_no1 (by rw [bz_0.mp c]; rfl))
          · exact skip (JS_no2 (by rw [bz_0.mp c2]; rfl))
          · have j1 : J (σ p) (σ k) = true := by cases hq : J (σ p) (σ k) with | true => rfl | false => exact absurd (by rw [hq]; rfl) c
            have j2 : J (σ p) (σ m) = true := by cases hq : J (σ p) (σ m) with | true => rfl | false => exact absurd (by rw [hq]; rfl) c2
            have hne : σ k ≠ σ m := fun q => e (by rw [← e1, ← e2, q])
            have hv : JS J (σ p) (fun j => decide (p < τ j)) (σ k) (σ m) = true := JS_yes hne (by rw [j1, e1, decide_eq_true (show p < k by omega)]; rfl) (by rw [j2, e2, decide_eq_true (show p < m by omega)]; rfl)
            rw [hy, nI_1]
            refine ih2 (by omega) _ (fun a b ha hb => ?_)
            by_cases q0 : 16 * a + b = 16 * σ k + σ m
            · have ea : a = σ k ∧ b = σ m := by omega
              rw [q0, pk_us, ea.1, ea.2, e1, e2, if_pos (by omega), hv]
              decide
            · rw [pk_un q0, hI2 a b ha hb]
              by_cases q : τ a < k ∨ (τ a = k ∧ τ b < m)
              · rw [if_pos q, if_pos (by omega)]
              · have : ¬ (τ a = k ∧ τ b = m) := fun q2 => q0 (by
                  have ea : a = σ k := by rw [← q2.1]; exact (hst a (by omega)).symm
                  have eb : b = σ m := by rw [← q2.2]; exact (hst b (by omega)).symm
                  rw [ea, eb])
                rw [if_neg q, if_neg (by omega)]
      refine k2 (p + 1) (by omega) (Nat.le_refl _) _ (fun a b ha hb => ?_)
      rw [hI a b ha hb]
      by_cases q : τ a < k
      · rw [if_pos q, if_pos (Or.inl q)]
      · rw [if_neg q]
        by_cases q2 : τ a = k ∧ τ b < p + 1
        · rw [if_pos (Or.inr q2), nw2 _ _ (by omega)]
        · rw [if_neg (by omega)]
  refine ⟨pn_in (by omega) (by decide), fun x hx y hy => ?_⟩
  rw [hx, hy, pn_cl (by omega), hro p (by omega), nI_1]
  refine k1 (p + 1) (by omega) (Nat.le_refl _) _ (fun a b ha hb => ?_)
  rw [hR a b ha hb]
  by_cases q : τ a < p + 1
  · rw [if_pos q, nw _ _ (by omega)]
  · rw [if_neg q]
