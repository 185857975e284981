/-! PURE: the whole elimination, parents, lines -/
def JJ (A : Nat → Nat → Nat) (σ τ : Nat → Nat) : Nat → Nat → Nat → Bool
  | 0 => LK A
  | p + 1 => JS (JJ A σ τ p) (σ p) (fun j => decide (p < τ j))
theorem JJ_sym {A : Nat → Nat → Nat} {σ τ : Nat → Nat} (hA : ∀ i j, A i j = A j i) : ∀ p i j, JJ A σ τ p i j = JJ A σ τ p j i
  | 0, i, j => LK_sym hA i j
  | p + 1, i, j => by
    show JS (JJ A σ τ p) (σ p) (fun j => decide (p < τ j)) i j = JS (JJ A σ τ p) (σ p) (fun j => decide (p < τ j)) j i
    unfold JS
    rw [JJ_sym hA p i j, dne j i]
    show (JJ A σ τ p j i || (decide (j ≠ i) && (JJ A σ τ p (σ p) i && decide (p < τ i)) && (JJ A σ τ p (σ p) j && decide (p < τ j)))) = (JJ A σ τ p j i || (decide (j ≠ i) && (JJ A σ τ p (σ p) j && decide (p < τ j)) && (JJ A σ τ p (σ p) i && decide (p < τ i))))
    cases decide (j ≠ i) <;> cases (JJ A σ τ p (σ p) i && decide (p < τ i)) <;> cases (JJ A σ τ p (σ p) j && decide (p < τ j)) <;> rfl
theorem JJ_self (A : Nat → Nat → Nat) (σ τ : Nat → Nat) : ∀ p i, JJ A σ τ p i i = false
  | 0, i => LK_self A i
  | p + 1, i => (JS_no3 rfl).trans (JJ_self A σ τ p i)
theorem JJ_late (A : Nat → Nat → Nat) (σ τ : Nat → Nat) (i j : Nat) : ∀ q, τ i ≤ q → JJ A σ τ q i j = JJ A σ τ (τ i) i j
  | 0, h => by rw [show τ i = 0 by omega]
  | q + 1, h => by
    by_cases e : τ i = q + 1
    · rw [e]
    · exact (JS_no1 (by rw [decide_eq_false (show ¬ q < τ i by omega), Bool.and_false])).trans (JJ_late A σ τ i j q (by omega))
theorem JJ_link {A : Nat → Nat → Nat} {σ τ : Nat → Nat} {i j : Nat} (h : LK A i j = true) : ∀ p, JJ A σ τ p i j = true
  | 0 => h
  | p + 1 => by
    show JS (JJ A σ τ p) (σ p) (fun j => decide (p < τ j)) i j = true
    unfold JS
    rw [JJ_link h p]; rfl
/-- joined with a row of a greater position -/
def LT (n : Nat) (A : Nat → Nat → Nat) (σ τ : Nat → Nat) (i j : Nat) : Bool := JJ A σ τ n i j && decide (τ i < τ j)
theorem LT_pos {n : Nat} {A : Nat → Nat → Nat} {σ τ : Nat → Nat} {i j : Nat} (h : LT n A σ τ i j = true) : τ i < τ j := by
  unfold LT at h
  rw [Bool.and_eq_true] at h
  exact of_decide_eq_true h.2
/-- the first place with q, n if there is none -/
def fsP (q : Nat → Bool) : Nat → Nat
  | 0 => 0
  | n + 1 => if fsP q n < n then fsP q n else if q n then n else n + 1
theorem fsP_no {q : Nat → Bool} : ∀ n, (∀ k, k < n → q k = false) → fsP q n = n
  | 0, _ => rfl
  | n + 1, h => by
    unfold fsP
    rw [fsP_no n (fun k hk => h k (by omega)), if_neg (Nat.lt_irrefl n), h n (by omega)]; rfl
theorem fsP_yes {q : Nat → Bool} {p : Nat} (hp : q p = true) (hk : ∀ k, k < p → q k = false) : ∀ n, p < n → fsP q n = p
  | 0, h => absurd h (by omega)
  | n + 1, h => by
    unfold fsP
    by_cases e : p = n
    · subst e
      rw [fsP_no p hk, if_neg (Nat.lt_irrefl p), if_pos hp]
    · rw [fsP_yes hp hk n (by omega), if_pos (by omega)]
theorem fsP_cases (q : Nat → Bool) : ∀ n, (fsP q n = n ∧ ∀ k, k < n → q k = false) ∨ (fsP q n < n ∧ q (fsP q n) = true ∧ ∀ k, k < fsP q n → q k = false)
  | 0 => Or.inl ⟨rfl, fun k hk => absurd hk (by omega)⟩
  | n + 1 => by
    rcases fsP_cases q n with ⟨h1, h2⟩ | ⟨h1, h2, h3⟩
    · cases hq : q n with
      | true =>
        have e := fsP_yes hq h2 (n + 1) (by omega)
        rw [e]; exact Or.inr ⟨by omega, hq, h2⟩
      | false =>
        have h4 : ∀ k, k < n + 1 → q k = false := fun k hk => by
          by_cases e : k = n
          · rw [e]; exact hq
          · exact h2 k (by omega)
        exact Or.inl ⟨fsP_no (n + 1) h4, h4⟩
    · have e := fsP_yes h2 h3 (n + 1) (by omega)
      rw [e]; exact Or.inr ⟨by omega, h2, h3⟩
def rv (σ : Nat → Nat) (n p : Nat) : Int32 := if p < n then nI (σ p) else -1
theorem rv_no (σ : Nat → Nat) (n : Nat) : rv σ n n = -1 := if_neg (Nat.lt_irrefl n)
theorem rv_yes {σ : Nat → Nat} {n p : Nat} (h : p < n) : rv σ n p = nI (σ p) := if_pos h
theorem nI_nm1 {r : Nat} (h : r < 2147483648) : ¬ nI r = -1 := fun e => by
  have h1 := congrArg Int32.toInt e
  rw [nI_toInt h, show (-1 : Int32).toInt = -1 from by decide] at h1
  omega
theorem sp_first {n : Nat} {σ : Nat → Nat} {po : Nat → Int32} (hn : n ≤ 16) (hs : ∀ k, k < n → σ k < n) (hpo : ∀ k, k < n → po k = nI (σ k)) {m : Nat → Bool} {Q : Int32 → Prop} (h : Q (rv σ n (fsP (fun p => m (σ p)) n))) : wp_X2_firstOf (nI (mk m)) (nI n) po Q := by
  intro G1 g1
  suffices k1 : ∀ p, p ≤ n → (∀ k, k < p → m (σ k) = false) → G1 (nI p) from k1 0 (by omega) (fun k hk => absurd hk (by omega))
  refine pu_down n ?_ ?_
  · intro hI
    refine g1 _ ⟨fun _ => ?_, fun c => absurd (nI_le (Nat.le_refl n) (by omega)) c⟩
    rw [fsP_no n hI, rv_no] at h; exact h
  · intro p hp ih hI
    have hsp := hs p hp
    refine g1 _ ⟨fun c => absurd c (nI_ge hp (by omega)), fun _ => ?_⟩
    rw [pn_cl (by omega), hpo p hp, mk_has m (by omega)]
    refine ⟨pn_in (by omega) (by decide), fun c x hx => ?_, fun c => ⟨pn_in (by omega) (by decide), ?_⟩⟩
    · rw [hx, nI_1]
      refine ih (fun k hk => ?_)
      by_cases e : k = p
      · subst e; exact bz_0.mp c
      · exact hI k (by omega)
    · have hm : m (σ p) = true := by cases hq : m (σ p) with | true => rfl | false => exact absurd (by rw [hq]; rfl) c
      rw [fsP_yes (q := fun p => m (σ p)) hm hI n hp, rv_yes hp] at h; exact h
def PA (n : Nat) (A : Nat → Nat → Nat) (σ τ : Nat → Nat) (i : Nat) : Nat := fsP (fun p => decide (σ p < n) && LT n A σ τ i (σ p)) n
def pth (n : Nat) (σ par : Nat → Nat) : Nat → Nat → Nat → Bool
  | 0, _, _ => false
  | f + 1, i, j => decide (j = i) || (decide (par i < n) && pth n σ par f (σ (par i)) j)
theorem pth_st {n : Nat} {σ τ par : Nat → Nat} (hs : ∀ k, k < n → σ k < n ∧ τ k < n ∧ τ (σ k) = k) (hp : ∀ i, i < n → par i < n → τ i < par i) (j : Nat) : ∀ f g i, i < n → n - τ i ≤ f → n - τ i ≤ g → pth n σ par f i j = pth n σ par g i j
  | 0, g, i, hi, h1, h2 => absurd (hs i hi).2.1 (by omega)
  | f + 1, 0, i, hi, h1, h2 => absurd (hs i hi).2.1 (by omega)
  | f + 1, g + 1, i, hi, h1, h2 => by
    unfold pth
    by_cases q : par i < n
    · have hlt := hp i hi q
      have h3 := hs _ q
      rw [pth_st hs hp j f g (σ (par i)) h3.1 (by omega) (by omega)]
    · rw [decide_eq_false q, Bool.false_and, Bool.false_and]
def PT (n : Nat) (A : Nat → Nat → Nat) (σ τ : Nat → Nat) (i j : Nat) : Bool := pth n σ (PA n A σ τ) n i j
theorem WF_s {n : Nat} {A : Nat → Nat → Nat} {σ τ ri we : Nat → Nat} (hW : WF n A σ τ ri we) : ∀ k, k < n → σ k < n ∧ τ k < n ∧ τ (σ k) = k := fun k hk => ⟨(hW.2.2.2.2.2.1 k hk).1, (hW.2.2.2.2.2.1 k hk).2, (hW.2.2.2.2.1 k (by have := hW.2.1; omega)).2.2.1⟩
theorem PA_gt {n : Nat} {A : Nat → Nat → Nat} {σ τ ri we : Nat → Nat} (hW : WF n A σ τ ri we) : ∀ i, i < n → PA n A σ τ i < n → τ i < PA n A σ τ i := fun i hi h => by
  rcases fsP_cases (fun p => decide (σ p < n) && LT n A σ τ i (σ p)) n with ⟨h1, _⟩ | ⟨h1, h2, _⟩
  · unfold PA at h; omega
  · rw [Bool.and_eq_true] at h2
    have h4 := LT_pos h2.2
    rw [(WF_s hW _ h1).2.2] at h4
    exact h4
theorem PT_eq {n : Nat} {A : Nat → Nat → Nat} {σ τ ri we : Nat → Nat} (hW : WF n A σ τ ri we) {i : Nat} (hi : i < n) (j : Nat) : PT n A σ τ i j = (decide (j = i) || (decide (PA n A σ τ i < n) && PT n A σ τ (σ (PA n A σ τ i)) j)) := by
  have e : PT n A σ τ i j = pth n σ (PA n A σ τ) (n + 1) i j := pth_st (WF_s hW) (PA_gt hW) j n (n + 1) i hi (by omega) (by omega)
  rw [e]; rfl
/-- the class's run -/
def RLt (n : Nat) (A : Nat → Nat → Nat) (σ τ : Nat → Nat) (el ep : Nat → Int32) : Prop := ∀ i, i < n → el i = nI (mk (fun j => decide (j < n) && LT n A σ τ i j)) ∧ ep i = nI (mk (PT n A σ τ i))
theorem sp_paths {n : Nat} {A : Nat → Nat → Nat} {σ τ ri we : Nat → Nat} (hW : WF n A σ τ ri we) {po el ep : Nat → Int32} (hpo : ∀ k, k < n → po k = nI (σ k)) (hel : ∀ i, i < n → el i = nI (mk (fun j => decide (j < n) && LT n A σ τ i j))) {Q : (Nat → Int32) → Prop} (h : ∀ ep, (∀ i, i < n → ep i = nI (mk (PT n A σ τ i))) → Q ep) : wp_X0_findPaths (nI n) po el ep Q := by
  have hn := hW.2.1
  have hs := WF_s hW
  intro G1 g1
  have k1 : ∀ q, q ≤ n → ∀ ep, (∀ i, i < n → q ≤ τ i → ep i = nI (mk (PT n A σ τ i))) → G1 (nI q + (-1)) ep := by
    intro q
    induction q with
    | zero =>
      intro _ ep hI
      exact g1 _ _ ⟨fun _ => h _ (fun i hi => hI i hi (by omega)), fun c => absurd (by decide) c⟩
    | succ q ih =>
      intro hq ep hI
      have hsq := hs q (by omega)
      rw [pk_m1]
      refine g1 _ _ ⟨fun c => absurd c (nI_pos (by omega)), fun _ => ⟨pn_in (by omega) (by decide), fun x hx => ?_⟩⟩
      rw [hx, pn_cl (by omega), hpo q (by omega), pn_cl (by omega), hel _ hsq.1]
      refine ⟨pn_in (by omega) (by decide), ?_⟩
      refine sp_first hn (fun k hk => (hs k hk).1) hpo ?_
      have key : ∀ v : Int32, v = nI (mk (PT n A σ τ (σ q))) → G1 (nI q + (-1)) (upd ep (σ q) v) := fun v hv => ih (by omega) _ (fun i hi hqi => by
        by_cases e : i = σ q
        · rw [e, hv]; exact pk_us
        · rw [pk_un e]
          refine hI i hi ?_
          have : τ i ≠ q := fun e2 => e (by rw [← e2]; exact ((hW.2.2.2.2.1 i (by omega)).2.2.2).symm)
          omega)
      by_cases hpa : PA n A σ τ (σ q) < n
      · have hgt := PA_gt hW _ hsq.1 hpa
        have h3 := hs _ hpa
        rw [show fsP (fun p => decide (σ p < n) && LT n A σ τ (σ q) (σ p)) n = PA n A σ τ (σ q) from rfl, rv_yes hpa]
        refine ⟨fun c => absurd c (nI_nm1 (by omega)), fun _ => ⟨pn_in (by omega) (by decide), pn_in (by omega) (by decide), fun y hy => ?_⟩⟩
        rw [hy, pn_cl (by omega), hI _ h3.1 (by omega)]
        refine key _ ?_
        rw [fbit_mk (by omega), mk_or]
        congr 1
        exact mk_cong (fun j _ => by rw [PT_eq hW hsq.1 j, decide_eq_true hpa, Bool.true_and])
      · have hpn : PA n A σ τ (σ q) = n := by
          rcases fsP_cases (fun p => decide (σ p < n) && LT n A σ τ (σ q) (σ p)) n with ⟨h1, _⟩ | ⟨h1, h2, _⟩
          · exact h1
          · exact absurd h1 hpa
        rw [show fsP (fun p => decide (σ p < n) && LT n A σ τ (σ q) (σ p)) n = n from hpn, rv_no]
        refine ⟨fun _ => ⟨pn_in (by omega) (by decide), fun y hy => ?_⟩, fun c => absurd rfl c⟩
        rw [hy]
        refine key _ ?_
        rw [fbit_mk (by omega), show (0 : Int32) = nI (mk (fun _ => false)) from mk_zero.symm, mk_or]
        congr 1
        exact mk_cong (fun j _ => by rw [PT_eq hW hsq.1 j, decide_eq_false hpa, Bool.false_and])
  intro x hx
  have h1n := hW.1
  have := k1 n (Nat.le_refl n) ep (fun i hi hni => absurd (hs i hi).2.1 (by omega))
  rw [hx, show nI n - 1 = nI n + (-1) from by rw [Int32.sub_eq_add_neg]]
  exact this
theorem sp_run {n : Nat} {A : Nat → Nat → Nat} {σ τ ri we : Nat → Nat} (hW : WF n A σ τ ri we) {pe po pp pr pw ej el ep : Nat → Int32} (hC : CP n A σ τ ri we (nI n) pe po pp pr pw) {Q : (Nat → Int32) → (Nat → Int32) → (Nat → Int32) → Prop} (h : ∀ ej el ep, RLt n A σ τ el ep → Q ej el ep) : wp_X0_run (nI n) pe ej po el ep Q := by
  have hn := hW.2.1
  have hs := WF_s hW
  intro G1 g1
  have k1 : ∀ p, p ≤ n → ∀ ej el, RJ n (JJ A σ τ p) ej → (∀ q, q < p → el (σ q) = nI (mk (fun j => decide (j < n) && LT n A σ τ (σ q) j))) → G1 (nI p) (nI (mk (fun j => decide (j < n) && decide (p ≤ τ j)))) ej el ep := by
    refine pu_down n ?_ ?_
    · intro ej el hJ hl
      refine g1 _ _ _ _ _ ⟨fun _ => ?_, fun c => absurd (nI_le (Nat.le_refl n) (by omega)) c⟩
      have hel : ∀ i, i < n → el i = nI (mk (fun j => decide (j < n) && LT n A σ τ i j)) := fun i hi => by
        have := hl (τ i) (hs i hi).2.1
        rw [(hW.2.2.2.2.1 i (by omega)).2.2.2] at this
        exact this
      exact sp_paths hW (fun k hk => (hC.2.2 k hk).1) hel (fun ep hep => h _ _ _ (fun i hi => ⟨hel i hi, hep i hi⟩))
    · intro p hp ih ej el hJ hl
      have hsp := hs p hp
      refine g1 _ _ _ _ _ ⟨fun c => absurd c (nI_ge hp (by omega)), fun _ => ⟨pn_in (by omega) (by decide), fun x hx => ?_⟩⟩
      rw [hx, pn_cl (by omega), (hC.2.2 p hp).1]
      intro y hy
      rw [mk_less _ (by omega)] at hy
      have e1 : mk (fun j => (decide (j < n) && decide (p ≤ τ j)) && decide (j ≠ σ p)) = mk (fun j => decide (j < n) && decide (p + 1 ≤ τ j)) := mk_cong (fun j hj => by
        have hne := σ_ne hW (r := j) (q := p) hj (by omega)
        by_cases e : j = σ p
        · have := hne.mp e
          rw [decide_eq_false (fun q : j ≠ σ p => q e), decide_eq_false (show ¬ p + 1 ≤ τ j by omega), Bool.and_false, Bool.and_false]
        · have : τ j ≠ p := fun q => e (hne.mpr q)
          rw [decide_eq_true (show j ≠ σ p from e), Bool.and_true, show decide (p ≤ τ j) = decide (p + 1 ≤ τ j) from decide_eq_decide.mpr (by omega)])
      rw [e1] at hy
      rw [hy, pn_cl (show σ p < 2147483648 by omega), pk_us, hJ _ hsp.1, mk_and]
      have e2 : mk (fun j => (decide (j < n) && JJ A σ τ p (σ p) j) && (decide (j < n) && decide (p + 1 ≤ τ j))) = mk (fun j => decide (j < n) && (JJ A σ τ p (σ p) j && decide (p < τ j))) := mk_cong (fun j hj => by
        rw [show decide (p + 1 ≤ τ j) = decide (p < τ j) from rfl]
        cases decide (j < n) <;> cases JJ A σ τ p (σ p) j <;> cases decide (p < τ j) <;> rfl)
      rw [e2]
      refine ⟨pn_in (by omega) (by decide), pn_in (by omega) (by decide), pn_in (by omega) (by decide), ?_⟩
      refine sp_joinAll (J := JJ A σ τ p) (r := σ p) (w := fun j => decide (p < τ j)) hn hJ (fun ej2 hJ2 z hz => ?_)
      rw [hz, nI_1]
      refine ih _ _ hJ2 (fun q hq => ?_)
      by_cases e : q = p
      · subst e
        rw [pk_us]
        congr 1
        refine mk_cong (fun j _ => ?_)
        unfold LT
        rw [JJ_late A σ τ (σ q) j n (by omega), hsp.2.2]
      · rw [pk_un (fun q2 => e (by rw [← (hs q (by omega)).2.2, q2, hsp.2.2]))]
        exact hl q (by omega)
  refine sp_joinLinked hW hC (fun ej hJ => ?_)
  have := k1 0 (by omega) ej el hJ (fun q hq => absurd hq (by omega))
  rw [show mk (fun j => decide (j < n) && decide (0 ≤ τ j)) = mk (fun j => decide (j < n)) from mk_cong (fun j _ => by rw [decide_eq_true (show 0 ≤ τ j by omega), Bool.and_true])] at this
  unfold wp_X2_allRows
  rw [mk_all n hn]
  exact this
theorem sp_fill {n : Nat} {A : Nat → Nat → Nat} {σ τ ri we : Nat → Nat} (hW : WF n A σ τ ri we) {mt mh ms mv : Int32} {ma ro pl mr mw ij : Nat → Int32} (hM : MP n A σ τ ri we (nI n) ma ro pl mr mw) {Q : (Nat → Int32) → Prop} (h : ∀ ij, RI n (JJ A σ τ n) ij → Q ij) : wp_X5_fill mt (nI n) mh ms mv ma ij ro Q := by
  have hn := hW.2.1
  intro G1 g1
  refine sp_join5 hW hM (fun ij hJ => ?_)
  suffices k1 : ∀ p, p ≤ n → ∀ ij, RI n (JJ A σ τ p) ij → G1 (nI p) ij from k1 0 (by omega) ij hJ
  refine pu_down n ?_ ?_
  · intro ij hJ
    exact g1 _ _ ⟨fun _ => h _ hJ, fun c => absurd (nI_le (Nat.le_refl n) (by omega)) c⟩
  · intro p hp ih ij hJ
    refine g1 _ _ ⟨fun c => absurd c (nI_ge hp (by omega)), fun _ => ?_⟩
    refine sp_elim hW (fun k hk => (hM.2.2.1 k hk).1) hp hJ (fun ij2 hJ2 x hx => ?_)
    rw [hx, nI_1]
    exact ih _ hJ2
theorem sp_width5 {n : Nat} {A : Nat → Nat → Nat} {σ τ ri we : Nat → Nat} (hW : WF n A σ τ ri we) {mt mh ms mv : Int32} {ma ro pl mr mw ij : Nat → Int32} (hM : MP n A σ τ ri we (nI n) ma ro pl mr mw) (hJ : RI n (JJ A σ τ n) ij) {i : Nat} (hi : i < n) {Q : Int32 → Prop} (h : Q (nI (ct (LT n A σ τ i) n))) : wp_X5_widthOf (nI i) mt (nI n) mh ms mv ij pl Q := by
  have hn := hW.2.1
  have hs := WF_s hW
  have hti := (hs i hi).2.1
  intro G1 g1
  suffices k1 : ∀ j, j ≤ n → G1 (nI j) (nI (ct (LT n A σ τ i) j)) from k1 0 (by omega)
  refine pu_down n ?_ ?_
  · exact g1 _ _ ⟨fun _ => h, fun c => absurd (nI_le (Nat.le_refl n) (by omega)) c⟩
  · intro j hj ih
    have htj := (hs j hj).2.1
    have no : LT n A σ τ i j = false → ∀ x2_3 : Int32, x2_3 = nI (ct (LT n A σ τ i) j) + 0 → ∀ x3_4 : Int32, x3_4 = nI j + 1 → G1 x3_4 x2_3 := fun hv x hx y hy => by
      have : ct (LT n A σ τ i) (j + 1) = ct (LT n A σ τ i) j := by
        show ct (LT n A σ τ i) j + (if LT n A σ τ i j then 1 else 0) = _
        rw [hv]; rfl
      rw [hy, hx, nI_1, Int32.add_zero, ← this]; exact ih
    refine g1 _ _ ⟨fun c => absurd c (nI_ge hj (by omega)), fun _ => ?_⟩
    rw [pn_at, pn_cl (show 16 * i + j < 2147483648 by omega), hJ i j hi hj, pn_cl (show j < 2147483648 by omega), pn_cl (show i < 2147483648 by omega), (hM.2.2.1 i (by omega)).2, (hM.2.2.1 j (by omega)).2]
    refine ⟨pn_in (by omega) (by decide), fun c => no (by unfold LT; rw [bz_0.mp c]; rfl), fun c => ⟨pn_in (by omega) (by decide), pn_in (by omega) (by decide), pk_le (τ j) (τ i) (fun q => no (by unfold LT; rw [decide_eq_false (show ¬ τ i < τ j by omega), Bool.and_false])) (fun q x hx y hy => ?_)⟩⟩
    have j1 : JJ A σ τ n i j = true := by cases hq : JJ A σ τ n i j with | true => rfl | false => exact absurd (by rw [hq]; rfl) c
    have : ct (LT n A σ τ i) (j + 1) = ct (LT n A σ τ i) j + 1 := by
      show ct (LT n A σ τ i) j + (if LT n A σ τ i j then 1 else 0) = _
      have : LT n A σ τ i j = true := by unfold LT; rw [j1, decide_eq_true q]; rfl
      rw [this]; rfl
    rw [hy, hx, nI_1, nI_1, ← this]; exact ih
theorem sp_parent5 {n : Nat} {A : Nat → Nat → Nat} {σ τ ri we : Nat → Nat} (hW : WF n A σ τ ri we) {mt mh ms mv : Int32} {ma ro pl mr mw ij : Nat → Int32} (hM : MP n A σ τ ri we (nI n) ma ro pl mr mw) (hJ : RI n (JJ A σ τ n) ij) {i : Nat} (hi : i < n) {Q : Int32 → Prop} (h : Q (rv σ n (PA n A σ τ i))) : wp_X5_parentOf (nI i) mt (nI n) mh ms mv pl ro ij Q := by
  have hn := hW.2.1
  have hs := WF_s hW
  have hti := (hs i hi).2.1
  intro G1 g1
  have k1 : ∀ p, p ≤ n → τ i < p → (∀ k, k < p → (decide (σ k < n) && LT n A σ τ i (σ k)) = false) → G1 (nI p) := by
    refine pu_down n ?_ ?_
    · intro _ hI
      refine g1 _ ⟨fun _ => ?_, fun c => absurd (nI_le (Nat.le_refl n) (by omega)) c⟩
      unfold PA at h
      rw [fsP_no n hI, rv_no] at h; exact h
    · intro p hp ih hip hI
      have hsp := hs p hp
      refine g1 _ ⟨fun c => absurd c (nI_ge hp (by omega)), fun _ => ?_⟩
      rw [pn_cl (show p < 2147483648 by omega), (hM.2.2.1 p (by omega)).1, pn_at, pn_cl (by omega), hJ i (σ p) hi hsp.1]
      refine ⟨pn_in (by omega) (by decide), pn_in (by omega) (by decide), fun c x hx => ?_, fun c => ⟨pn_in (by omega) (by decide), ?_⟩⟩
      · rw [hx, nI_1]
        refine ih (by omega) (fun k hk => ?_)
        by_cases e : k = p
        · subst e; unfold LT; rw [bz_0.mp c]; rw [Bool.false_and, Bool.and_false]
        · exact hI k (by omega)
      · have hm : JJ A σ τ n i (σ p) = true := by cases hq : JJ A σ τ n i (σ p) with | true => rfl | false => exact absurd (by rw [hq]; rfl) c
        unfold PA at h
        rw [fsP_yes (q := fun p => decide (σ p < n) && LT n A σ τ i (σ p)) (by unfold LT; rw [hm, decide_eq_true hsp.1, hsp.2.2, decide_eq_true hip]; rfl) hI n hp, rv_yes hp] at h; exact h
  refine ⟨pn_in (by omega) (by decide), fun x hx => ?_⟩
  rw [hx, pn_cl (by omega), (hM.2.2.1 i (by omega)).2, nI_1]
  refine k1 (τ i + 1) (by omega) (by omega) (fun k hk => ?_)
  have : LT n A σ τ i (σ k) = false := by
    unfold LT
    rw [(hs k (by omega)).2.2, decide_eq_false (show ¬ τ i < k by omega), Bool.and_false]
  rw [this, Bool.and_false]
theorem sp_line5 {n : Nat} {A : Nat → Nat → Nat} {σ τ ri we : Nat → Nat} (hW : WF n A σ τ ri we) {mt mh ms mv : Int32} {ma ro pl mr mw ij : Nat → Int32} (hM : MP n A σ τ ri we (nI n) ma ro pl mr mw) (hJ : RI n (JJ A σ τ n) ij) {i : Nat} (hi : i < n) {Q : Int32 → Prop} (h : Q (nI (mk (PT n A σ τ i)))) : wp_X5_lineOf (nI i) mt (nI n) mh ms mv pl ro ij Q := by
  have hn := hW.2.1
  have hs := WF_s hW
  intro G1 g1
  have k1 : ∀ f r, r < n → n - τ r ≤ f → ∀ acc : Nat → Bool, Q (nI (mk (fun j => acc j || PT n A σ τ r j))) → G1 (nI r) (nI (mk acc)) := by
    intro f
    induction f with
    | zero => intro r hr hf; exact absurd (hs r hr).2.1 (by omega)
    | succ f ih =>
      intro r hr hf acc hq
      refine g1 _ _ ⟨fun c => absurd c (nI_nm1 (by omega)), fun _ x hx => ?_⟩
      refine sp_parent5 hW hM hJ hr ?_
      rw [hx, show (1 : Int32) <<< (nI r &&& 31) = f_bit (nI r) from rfl, fbit_mk (by omega), mk_or]
      by_cases hpa : PA n A σ τ r < n
      · have hgt := PA_gt hW _ hr hpa
        have h3 := hs _ hpa
        rw [rv_yes hpa]
        refine ih _ h3.1 (by omega) _ ?_
        rw [mk_cong (q := fun j => acc j || PT n A σ τ r j) (fun j _ => by rw [PT_eq hW hr j, decide_eq_true hpa, Bool.true_and, Bool.or_assoc])]
        exact hq
      · have hpn : PA n A σ τ r = n := by
          rcases fsP_cases (fun p => decide (σ p < n) && LT n A σ τ r (σ p)) n with ⟨h1, _⟩ | ⟨h1, h2, _⟩
          · exact h1
          · exact absurd h1 hpa
        rw [hpn, rv_no]
        refine g1 _ _ ⟨fun _ => ?_, fun c => absurd rfl c⟩
        rw [mk_cong (q := fun j => acc j || PT n A σ τ r j) (fun j _ => by rw [PT_eq hW hr j, decide_eq_false hpa, Bool.false_and, Bool.or_false])]
        exact hq
  have := k1 n i hi (by omega) (fun _ => false) (by rw [mk_cong (q := PT n A σ τ i) (fun j _ => Bool.false_or _)]; exact h)
  rw [mk_zero] at this
  exact this
theorem sp_bits {m : Nat → Bool} {Q : Int32 → Prop} (h : Q (nI (ct m 16))) : wp_X5_bits (nI (mk m)) Q := by
  intro G1 g1
  suffices k1 : ∀ j, j ≤ 16 → G1 (nI j) (nI (ct m j)) from k1 0 (by omega)
  refine pu_down 16 ?_ ?_
  · exact g1 _ _ ⟨fun _ => h, fun c => absurd (show nI 16 ≤ nI 16 from nI_le (Nat.le_refl 16) (by omega)) c⟩
  · intro j hj ih
    refine g1 _ _ ⟨fun c => absurd c (nI_ge hj (by decide)), fun _ x hx y hy => ?_⟩
    rw [mk_sh m hj] at hx
    have : nI (ct m (j + 1)) = x := by
      rw [hx]
      show nI (ct m j + (if m j then 1 else 0)) = _
      rw [← nI_add]
      cases m j <;> rfl
    rw [hy, nI_1, ← this]; exact ih
